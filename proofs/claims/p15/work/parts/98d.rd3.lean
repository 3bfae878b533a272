/-! Reader: closing, letters, numbers -/
theorem kc_t {k : Nat} (h : k < 100) : kc k = nI k := if_pos h
section RD3
variable (G : Gx) (A : Nat → Nat) (P : va_W) (N : Nt) (R : Rt) (Q : Qt)
theorem c_closeBracket {e n : Nat} {q : Rst} (hS : RcS (N 0) R e n q) (hd : 0 < q.2.2.1) (ha : q.1 < e) : CV G yX4_closeBracket cX4_closeBracket 3 2 0 0 [.ref (A 0)] (rW G A N R Q ++ P) (S := Nt × Rt) (fun u => u.2 4 = R 4 ∧ RcO (u.1 0) u.2 e n (clF n q)) (fun u => rW G A u.1 u.2 Q ++ P) := by
  obtain ⟨a, mny, dp, row, kd, fr⟩ := q
  obtain ⟨⟨k9, k10, k11, k1, k6, k2, k3⟩, ⟨he, hae, hn2, hn7, hm3, hd8⟩, hrow, hbr⟩ := id hS
  dsimp only at k9 k10 k11 k1 k6 k2 k3 he hae hn2 hn7 hm3 hd8 hrow hbr hd ha
  obtain ⟨dq, rfl⟩ : ∃ dq, dp = dq + 1 := ⟨dp - 1, by omega⟩
  obtain ⟨b1, b2, b3, b4⟩ := hbr dq (by omega)
  obtain ⟨k, hk⟩ : ∃ k, k = kd dq := ⟨_, rfl⟩
  obtain ⟨fm, hfm⟩ : ∃ fm, fm = fr dq := ⟨_, rfl⟩
  rw [← hk] at b1 b2
  rw [← hfm] at b3 b4
  have hcl : clF n (a, mny, dq + 1, row, kd, fr) = if k < 100 ∧ 300 < fm + (mny - fm) * k then .inl (2, a) else .inr (a + 1, clN k fm (mny - fm), dq, clR n k row fm (mny - fm), kd, fr) := by
    unfold clF
    rw [if_neg (show ¬ dq + 1 = 0 by omega)]
    show (if kd dq < 100 ∧ _ then _ else _) = _
    rw [hk, hfm]
    rfl
  refine CV.intro (by decide) (Nat.le_of_ble_eq_true rfl) (cat1 (xs := [])) fun X C hR => ?_
  rw [hcl] at hR
  have bd : vp_in (nI dq) 8 := vp_in_nI (by omega) (by decide)
  have cd : (nI dq).toNatClampNeg = dq := nI_clamp (by omega)
  obtain ⟨N1, hN1⟩ : ∃ N1, N1 = va_up N 0 (va_up (N 0) 6 (nI dq)) := ⟨_, rfl⟩
  have n1 : N1 0 1 = nI mny := by rw [hN1]; exact k1
  have n11 : N1 0 11 = nI n := by rw [hN1]; exact k11
  have n10 : N1 0 10 = nI a := by rw [hN1]; exact k10
  have hr1 : ∀ i, i < mny → R 1 i = row i := fun i hi => (hrow i hi).1
  have hokr : ∀ i, i < fm + (mny - fm) → okC n (row i) := fun i hi => (hrow i (by omega)).2
  have j103 : ∀ (N' : Nt) (R' : Rt) (L1 L2 : Option Value), N' 0 10 = nI a → R' 4 = R 4 → RcO (va_up (N' 0) 10 (nI (a + 1))) R' e n (if k < 100 ∧ 300 < fm + (mny - fm) * k then .inl (2, a) else .inr (a + 1, clN k fm (mny - fm), dq, clR n k row fm (mny - fm), kd, fr)) → V X 0 0 103 [some (.ref (A 0)), L1, L2] [] (rW G A N' R' Q ++ P) := by
    intro N' R' L1 L2 h1 h2 h3
    refine r_aload_n C dX4_closeBracket_103 rfl rfl ?_
    refine r_dup C dX4_closeBracket_104 rfl ?_
    refine rg_X4_37 C dX4_closeBracket_105 ?_
    refine r_iconst (v := 1) C dX4_closeBracket_108 (by decide) ?_
    refine r_iadd C dX4_closeBracket_109 ?_
    rw [h1, nI_1]
    refine rp_X4_37 C dX4_closeBracket_110 ?_
    exact hR _ _ _ _ (_, R') (by decide) (by decide) ⟨h2, h3⟩ dX4_closeBracket_113
  have good : ∀ (m' : Nat) (N' : Nt) (F : Nat → Int32) (L1 L2 : Option Value), N' = va_up N1 0 (va_up (N1 0) 1 (nI m')) → m' = clN k fm (mny - fm) → m' ≤ 300 → mny ≤ m' → ¬ (k < 100 ∧ 300 < fm + (mny - fm) * k) → (∀ i, i < m' → F i = clR n k row fm (mny - fm) i) → V X 0 0 103 [some (.ref (A 0)), L1, L2] [] (rW G A N' (va_up R 1 F) Q ++ P) := by
    intro m' N' F L1 L2 hN' hm' hm3' hmm hno hF
    subst hN'
    refine j103 _ _ _ _ n10 rfl ?_
    rw [if_neg hno]
    refine ⟨⟨?_, rfl, ?_, ?_, ?_, ?_, ?_⟩, ⟨he, by show a + 1 ≤ e; omega, hn2, hn7, by show clN k fm (mny - fm) ≤ 300; omega, by show dq ≤ 8; omega⟩, fun i hi => ?_, fun i hi => ?_⟩
    · rw [hN1]; exact k9
    · rw [hN1]; exact k11
    · show nI m' = nI (clN k fm (mny - fm)); rw [hm']
    · rw [hN1]; rfl
    · rw [hN1]; exact k2
    · rw [hN1]; exact k3
    · have hi : i < clN k fm (mny - fm) := hi
      exact ⟨hF i (by omega), clR_ok hn7 hokr i hi⟩
    · have hi : i < dq := hi
      obtain ⟨w1, w2, w3, w4⟩ := hbr i (by omega)
      exact ⟨w1, w2, w3, by show fr i ≤ clN k fm (mny - fm); omega⟩
  have hup : N1 = va_up N1 0 (va_up (N1 0) 1 (nI mny)) := (up_same (up_same n1).symm).symm
  have hb30 : ∀ m : Int32, m = kc k → V X 0 0 30 [some (.ref (A 0)), some (.int m), some (.int (nI fm))] [] (rW G A N1 R Q ++ P) := by
    intro m hm
    subst hm
    rcases b2 with ⟨t1, t2⟩ | t | t | t
    · rw [kc_t (by omega)]
      have hmul : (mny - fm) * 1 ≤ (mny - fm) * k := Nat.mul_le_mul_left _ t1
      have hmu2 : (mny - fm) * k ≤ 300 * 50 := Nat.mul_le_mul (by omega) t2
      have hw : nI fm + (nI mny - nI fm) * nI k = nI (fm + (mny - fm) * k) := by rw [pk_sub b4, pk_mul, nI_add]
      have hneg : ∀ z : Int32, z < 0 → ¬ nI k = z := fun z hz q => absurd (q ▸ hz) (nI_pos (by omega))
      by_cases hbig : 300 < fm + (mny - fm) * k
      · refine r_iload_n C dX4_closeBracket_30 rfl rfl ?_
        refine r_if_ne (tgt := 42) C dX4_closeBracket_31 (by decide) (fun c31 => ?_) (fun c31 => absurd c31 ((fun q => nI_ne0 (show 0 < k by omega) (by omega) q)))
        refine r_iload_n C dX4_closeBracket_42 rfl rfl ?_
        refine r_iconst (v := -1) C dX4_closeBracket_43 (by decide) ?_
        refine r_icmp_ne (tgt := 55) C dX4_closeBracket_44 (by decide) (fun c44 => ?_) (fun c44 => absurd c44 ((hneg _ (by decide))))
        refine r_iload_n C dX4_closeBracket_55 rfl rfl ?_
        refine r_bipush (v := -2) C dX4_closeBracket_56 (by decide) ?_
        refine r_icmp_ne (tgt := 69) C dX4_closeBracket_58 (by decide) (fun c58 => ?_) (fun c58 => absurd c58 ((hneg _ (by decide))))
        refine r_iload_n C dX4_closeBracket_69 rfl rfl ?_
        refine r_aload_n C dX4_closeBracket_70 rfl rfl ?_
        refine rg_X4_15 C dX4_closeBracket_71 ?_
        rw [n1]
        refine r_iload_n C dX4_closeBracket_74 rfl rfl ?_
        refine r_isub C dX4_closeBracket_75 ?_
        refine r_iload_n C dX4_closeBracket_76 rfl rfl ?_
        refine r_imul C dX4_closeBracket_77 ?_
        refine r_iadd C dX4_closeBracket_78 ?_
        refine r_sipush (v := 300) C dX4_closeBracket_79 (by decide) ?_
        rw [hw, show (300 : Int32) = nI 300 from rfl]
        refine r_icmp_le (tgt := 97) C dX4_closeBracket_82 (by decide) (fun c82 => absurd c82 ((by rw [nI_leI (by omega) (by omega)]; omega))) (fun c82 => ?_)
        refine r_aload_n C dX4_closeBracket_85 rfl rfl ?_
        refine r_iconst (v := 2) C dX4_closeBracket_86 (by decide) ?_
        refine r_aload_n C dX4_closeBracket_87 rfl rfl ?_
        refine rg_X4_37 C dX4_closeBracket_88 ?_
        rw [n10]
        refine a_callVv C (c_refuse G A P N1 R Q _ _) kcX4_X4_refuse dX4_closeBracket_91 rfl (by decide) (by decide) (by decide) (Nat.le_of_ble_eq_true rfl) 0 rfl (ci := 4) rfl rfl rfl (fun u hu => ?_)
        refine r_goto (tgt := 103) C dX4_closeBracket_94 (by decide) ?_
        refine j103 _ R _ _ n10 rfl ?_
        rw [if_pos ⟨show k < 100 by omega, hbig⟩]
        exact ⟨rfl, rfl, show (2 : Int32) ≠ 0 by decide⟩
      · refine r_iload_n C dX4_closeBracket_30 rfl rfl ?_
        refine r_if_ne (tgt := 42) C dX4_closeBracket_31 (by decide) (fun c31 => ?_) (fun c31 => absurd c31 ((fun q => nI_ne0 (show 0 < k by omega) (by omega) q)))
        refine r_iload_n C dX4_closeBracket_42 rfl rfl ?_
        refine r_iconst (v := -1) C dX4_closeBracket_43 (by decide) ?_
        refine r_icmp_ne (tgt := 55) C dX4_closeBracket_44 (by decide) (fun c44 => ?_) (fun c44 => absurd c44 ((hneg _ (by decide))))
        refine r_iload_n C dX4_closeBracket_55 rfl rfl ?_
        refine r_bipush (v := -2) C dX4_closeBracket_56 (by decide) ?_
        refine r_icmp_ne (tgt := 69) C dX4_closeBracket_58 (by decide) (fun c58 => ?_) (fun c58 => absurd c58 ((hneg _ (by decide))))
        refine r_iload_n C dX4_closeBracket_69 rfl rfl ?_
        refine r_aload_n C dX4_closeBracket_70 rfl rfl ?_
        refine rg_X4_15 C dX4_closeBracket_71 ?_
        rw [n1]
        refine r_iload_n C dX4_closeBracket_74 rfl rfl ?_
        refine r_isub C dX4_closeBracket_75 ?_
        refine r_iload_n C dX4_closeBracket_76 rfl rfl ?_
        refine r_imul C dX4_closeBracket_77 ?_
        refine r_iadd C dX4_closeBracket_78 ?_
        refine r_sipush (v := 300) C dX4_closeBracket_79 (by decide) ?_
        rw [hw, show (300 : Int32) = nI 300 from rfl]
        refine r_icmp_le (tgt := 97) C dX4_closeBracket_82 (by decide) (fun c82 => ?_) (fun c82 => absurd c82 ((fun q => q (by rw [nI_leI (by omega) (by omega)]; omega))))
        refine r_aload_n C dX4_closeBracket_97 rfl rfl ?_
        refine r_iload_n C dX4_closeBracket_98 rfl rfl ?_
        refine r_iload_n C dX4_closeBracket_99 rfl rfl ?_
        refine a_callVv C (c_repeat G A P N1 R Q (fm := fm) (mny := mny) (kd := k) (row := row) n1 b4 t1 t2 (by omega) hm3 hr1) kcX4_X4_repeat dX4_closeBracket_100 rfl (by decide) (by decide) (by decide) (Nat.le_of_ble_eq_true rfl) 0 rfl (ci := 4) rfl rfl rfl (fun F hF => ?_)
        refine good (fm + (mny - fm) * k) _ F _ _ rfl (by unfold clN; rw [if_pos (by omega)]) (by omega) (by omega) (fun w => hbig w.2) (fun i hi => ?_)
        rw [hF i hi]
        unfold clR
        rw [if_pos (show k < 100 by omega)]
    · subst t
      refine r_iload_n C dX4_closeBracket_30 rfl rfl ?_
      rw [show kc 109 = -1 from rfl]
      refine r_if_ne (tgt := 42) C dX4_closeBracket_31 (by decide) (fun c31 => ?_) (fun c31 => absurd c31 ((by decide)))
      refine r_iload_n C dX4_closeBracket_42 rfl rfl ?_
      refine r_iconst (v := -1) C dX4_closeBracket_43 (by decide) ?_
      refine r_icmp_ne (tgt := 55) C dX4_closeBracket_44 (by decide) (fun c44 => absurd c44 ((fun q => q rfl))) (fun c44 => ?_)
      refine r_aload_n C dX4_closeBracket_47 rfl rfl ?_
      refine r_iload_n C dX4_closeBracket_48 rfl rfl ?_
      refine a_callVv C (c_mirror G A P N1 R Q (fm := fm) (mny := mny) (row := row) n1 hm3 b4 hr1) kcX4_X4_mirror dX4_closeBracket_49 rfl (by decide) (by decide) (by decide) (Nat.le_of_ble_eq_true rfl) 0 rfl (ci := 4) rfl rfl rfl (fun F hF => ?_)
      refine r_goto (tgt := 103) C dX4_closeBracket_52 (by decide) ?_
      refine good mny N1 F _ _ hup (show mny = fm + (mny - fm) by omega) hm3 (Nat.le_refl _) (fun w => absurd w.1 (by decide)) (fun i hi => ?_)
      rw [hF i hi]
      rfl
    · subst t
      refine r_iload_n C dX4_closeBracket_30 rfl rfl ?_
      rw [show kc 116 = -2 from rfl]
      refine r_if_ne (tgt := 42) C dX4_closeBracket_31 (by decide) (fun c31 => ?_) (fun c31 => absurd c31 ((by decide)))
      refine r_iload_n C dX4_closeBracket_42 rfl rfl ?_
      refine r_iconst (v := -1) C dX4_closeBracket_43 (by decide) ?_
      refine r_icmp_ne (tgt := 55) C dX4_closeBracket_44 (by decide) (fun c44 => ?_) (fun c44 => absurd c44 ((by decide)))
      refine r_iload_n C dX4_closeBracket_55 rfl rfl ?_
      refine r_bipush (v := -2) C dX4_closeBracket_56 (by decide) ?_
      refine r_icmp_ne (tgt := 69) C dX4_closeBracket_58 (by decide) (fun c58 => absurd c58 ((fun q => q rfl))) (fun c58 => ?_)
      refine r_aload_n C dX4_closeBracket_61 rfl rfl ?_
      refine r_iload_n C dX4_closeBracket_62 rfl rfl ?_
      refine a_callVv C (c_turn4 G A P N1 R Q (fm := fm) (mny := mny) (n := n) (row := row) n1 n11 hm3 b4 hr1) kcX4_X4_turn dX4_closeBracket_63 rfl (by decide) (by decide) (by decide) (Nat.le_of_ble_eq_true rfl) 0 rfl (ci := 4) rfl rfl rfl (fun F hF => ?_)
      refine r_goto (tgt := 103) C dX4_closeBracket_66 (by decide) ?_
      refine good mny N1 F _ _ hup (show mny = fm + (mny - fm) by omega) hm3 (Nat.le_refl _) (fun w => absurd w.1 (by decide)) (fun i hi => ?_)
      rw [hF i hi]
      rfl
    · subst t
      refine r_iload_n C dX4_closeBracket_30 rfl rfl ?_
      rw [show kc 117 = 0 from rfl]
      refine r_if_ne (tgt := 42) C dX4_closeBracket_31 (by decide) (fun c31 => absurd c31 ((fun q => q rfl))) (fun c31 => ?_)
      refine r_aload_n C dX4_closeBracket_34 rfl rfl ?_
      refine r_iload_n C dX4_closeBracket_35 rfl rfl ?_
      refine a_callVv C (c_undo G A P N1 R Q (fm := fm) (mny := mny) (row := row) n1 hm3 b4 hr1) kcX4_X4_undo dX4_closeBracket_36 rfl (by decide) (by decide) (by decide) (Nat.le_of_ble_eq_true rfl) 0 rfl (ci := 4) rfl rfl rfl (fun F hF => ?_)
      refine r_goto (tgt := 103) C dX4_closeBracket_39 (by decide) ?_
      refine good mny N1 F _ _ hup (show mny = fm + (mny - fm) by omega) hm3 (Nat.le_refl _) (fun w => absurd w.1 (by decide)) (fun i hi => ?_)
      rw [hF i hi]
      rfl
  refine r_aload_n C dX4_closeBracket_0 rfl rfl ?_
  refine r_dup C dX4_closeBracket_1 rfl ?_
  refine rg_X4_31 C dX4_closeBracket_2 ?_
  refine r_iconst (v := 1) C dX4_closeBracket_5 (by decide) ?_
  refine r_isub C dX4_closeBracket_6 ?_
  rw [k6, nI_pred]
  refine rp_X4_31 C dX4_closeBracket_7 ?_
  rw [← hN1]
  refine r_aload_n C dX4_closeBracket_10 rfl rfl ?_
  refine rg_X4_25 C dX4_closeBracket_11 ?_
  refine r_aload_n C dX4_closeBracket_14 rfl rfl ?_
  refine rg_X4_31 C dX4_closeBracket_15 ?_
  rw [show N1 0 6 = nI dq by rw [hN1]; rfl]
  refine rl_2 C dX4_closeBracket_18 (bd) ?_
  rw [cd, b1]
  refine r_istore_n C dX4_closeBracket_19 rfl (by decide) ?_
  refine r_aload_n C dX4_closeBracket_20 rfl rfl ?_
  refine rg_X4_28 C dX4_closeBracket_21 ?_
  refine r_aload_n C dX4_closeBracket_24 rfl rfl ?_
  refine rg_X4_31 C dX4_closeBracket_25 ?_
  rw [show N1 0 6 = nI dq by rw [hN1]; rfl]
  refine rl_3 C dX4_closeBracket_28 (bd) ?_
  rw [cd, b3]
  refine r_istore_n C dX4_closeBracket_29 rfl (by decide) ?_
  exact hb30 _ rfl
theorem c_readLettered {e n kv : Nat} {q : Rst} (hBt : BtOK (R 4)) (hS : RcS (N 0) R e n q) (hk : okK kv) (ha : q.1 < e) : CV G yX4_readLettered cX4_readLettered 2 2 0 0 [.ref (A 0), .int (kc kv)] (rW G A N R Q ++ P) (S := Nt × Rt) (fun u => u.2 4 = R 4 ∧ RcO (u.1 0) u.2 e n (if skipTo (txt (R 4)) e (q.1 + 1) < e ∧ txt (R 4) (skipTo (txt (R 4)) e (q.1 + 1)) = 40 then opF (skipTo (txt (R 4)) e (q.1 + 1)) q kv else .inl (1, skipTo (txt (R 4)) e (q.1 + 1)))) (fun u => rW G A u.1 u.2 Q ++ P) := by
  obtain ⟨⟨k9, k10, k11, k1, k6, k2, k3⟩, ⟨he, hae, hn2, hn7, hm3, hd8⟩, hrow, hbr⟩ := id hS
  refine CV.intro (by decide) (Nat.le_of_ble_eq_true rfl) (cat1 (xs := [kc kv])) fun X C hR => ?_
  obtain ⟨sk, hsk⟩ : ∃ sk, sk = skipTo (txt (R 4)) e (q.1 + 1) := ⟨_, rfl⟩
  have hsl := skipTo_le (t := txt (R 4)) (e := e) (a := q.1 + 1) (by omega)
  rw [← hsk] at hR hsl
  refine r_aload_n C dX4_readLettered_0 rfl rfl ?_
  refine r_dup C dX4_readLettered_1 rfl ?_
  refine rg_X4_37 C dX4_readLettered_2 ?_
  refine r_iconst (v := 1) C dX4_readLettered_5 (by decide) ?_
  refine r_iadd C dX4_readLettered_6 ?_
  rw [k10, nI_1]
  refine rp_X4_37 C dX4_readLettered_7 ?_
  refine r_aload_n C dX4_readLettered_10 rfl rfl ?_
  refine a_callVi C (c_nextSign G A P (va_up N 0 (va_up (N 0) 10 (nI (q.1 + 1)))) R Q (a := q.1 + 1) (e := e) hBt rfl k9 he (by omega)) kcX4_X4_nextSign dX4_readLettered_11 rfl (by decide) (by decide) (by decide) (Nat.le_of_ble_eq_true rfl) 0 rfl (ci := 4) rfl rfl rfl (fun r u hr => ?_)
  rw [← hsk] at hr ⊢
  simp only [up_up, va_up_at]
  skip
  have hS2 : RcS (va_up (N 0) 10 (nI sk)) R e n (sk, q.2) := ⟨⟨k9, rfl, k11, k1, k6, k2, k3⟩, ⟨he, hsl.2, hn2, hn7, hm3, hd8⟩, hrow, hbr⟩
  by_cases h40 : sk < e ∧ txt (R 4) sk = 40
  · rw [if_pos h40] at hR
    rw [if_pos h40.1, h40.2] at hr
    subst hr
    refine r_bipush (v := 40) C dX4_readLettered_14 (by decide) ?_
    refine r_icmp_ne (tgt := 27) C dX4_readLettered_16 (by decide) (fun c16 => absurd c16 ((fun q => q rfl))) (fun c16 => ?_)
    refine r_aload_n C dX4_readLettered_19 rfl rfl ?_
    refine r_iload_n C dX4_readLettered_20 rfl rfl ?_
    refine a_callVv C (c_openBracket G A P (va_up N 0 (va_up (N 0) 10 (nI sk))) R Q (a := sk) (q := q) hS2 hk h40.1) kcX4_X4_openBracket dX4_readLettered_21 rfl (by decide) (by decide) (by decide) (Nat.le_of_ble_eq_true rfl) 0 rfl (ci := 4) rfl rfl rfl (fun u2 hu2 => ?_)
    refine r_goto (tgt := 36) C dX4_readLettered_24 (by decide) ?_
    exact hR _ _ _ _ u2 (by decide) (by decide) hu2 dX4_readLettered_36
  · rw [if_neg h40] at hR
    have hr40 : ¬ r = 40 := by
      by_cases w : sk < e
      · rw [if_pos w] at hr; exact fun q => h40 ⟨w, by rw [← hr]; exact q⟩
      · rw [if_neg w] at hr; rw [hr]; decide
    refine r_bipush (v := 40) C dX4_readLettered_14 (by decide) ?_
    refine r_icmp_ne (tgt := 27) C dX4_readLettered_16 (by decide) (fun c16 => ?_) (fun c16 => absurd c16 (hr40))
    refine r_aload_n C dX4_readLettered_27 rfl rfl ?_
    refine r_iconst (v := 1) C dX4_readLettered_28 (by decide) ?_
    refine r_aload_n C dX4_readLettered_29 rfl rfl ?_
    refine rg_X4_37 C dX4_readLettered_30 ?_
    refine a_callVv C (c_refuse G A P _ R Q _ _) kcX4_X4_refuse dX4_readLettered_33 rfl (by decide) (by decide) (by decide) (Nat.le_of_ble_eq_true rfl) 0 rfl (ci := 4) rfl rfl rfl (fun u hu => ?_)
    exact hR _ _ _ _ (_, R) (by decide) (by decide) ⟨rfl, rfl, rfl, show (1 : Int32) ≠ 0 by decide⟩ dX4_readLettered_36
theorem c_readNumbered {e n : Nat} {q : Rst} (hBt : BtOK (R 4)) (hS : RcS (N 0) R e n q) (ha : q.1 < e) : CV G yX4_readNumbered cX4_readNumbered 4 2 0 0 [.ref (A 0)] (rW G A N R Q ++ P) (S := Nt × Rt) (fun u => u.2 4 = R 4 ∧ RcO (u.1 0) u.2 e n (nuF n q (skipTo (txt (R 4)) e (q.1 + dgs (txt (R 4)) e q.1)) (rvF (txt (R 4)) q.1 (dgs (txt (R 4)) e q.1)) (if skipTo (txt (R 4)) e (q.1 + dgs (txt (R 4)) e q.1) < e then txt (R 4) (skipTo (txt (R 4)) e (q.1 + dgs (txt (R 4)) e q.1)) else 0))) (fun u => rW G A u.1 u.2 Q ++ P) := by
  obtain ⟨⟨k9, k10, k11, k1, k6, k2, k3⟩, ⟨he, hae, hn2, hn7, hm3, hd8⟩, hrow, hbr⟩ := id hS
  refine CV.intro (by decide) (Nat.le_of_ble_eq_true rfl) (cat1 (xs := [])) fun X C hR => ?_
  have hdl := dgs_le (t := txt (R 4)) (e := e) (e - q.1) q.1 hae (Nat.le_refl _)
  have hsl := skipTo_le (t := txt (R 4)) (e := e) (a := q.1 + dgs (txt (R 4)) e q.1) hdl
  obtain ⟨a3, ha3⟩ : ∃ a3, a3 = skipTo (txt (R 4)) e (q.1 + dgs (txt (R 4)) e q.1) := ⟨_, rfl⟩
  obtain ⟨v, hv⟩ : ∃ v, v = rvF (txt (R 4)) q.1 (dgs (txt (R 4)) e q.1) := ⟨_, rfl⟩
  rw [← ha3] at hR hsl
  rw [← hv] at hR
  refine r_aload_n C dX4_readNumbered_0 rfl rfl ?_
  refine rg_X4_37 C dX4_readNumbered_1 ?_
  rw [k10]
  refine r_istore_n C dX4_readNumbered_4 rfl (by decide) ?_
  refine r_aload_n C dX4_readNumbered_5 rfl rfl ?_
  refine a_callVi C (c_readNumber G A P N R Q (a := q.1) (e := e) hBt k10 k9 he hae) kcX4_X4_readNumber dX4_readNumbered_6 rfl (by decide) (by decide) (by decide) (Nat.le_of_ble_eq_true rfl) 0 rfl (ci := 4) rfl rfl rfl (fun r u hr => ?_)
  rw [← hv] at hr
  subst hr
  refine r_istore_n C dX4_readNumbered_9 rfl (by decide) ?_
  refine r_aload_n C dX4_readNumbered_10 rfl rfl ?_
  refine a_callVi C (c_nextSign G A P (va_up N 0 (va_up (N 0) 10 (nI (q.1 + dgs (txt (R 4)) e q.1)))) R Q (a := q.1 + dgs (txt (R 4)) e q.1) (e := e) hBt rfl k9 he hdl) kcX4_X4_nextSign dX4_readNumbered_11 rfl (by decide) (by decide) (by decide) (Nat.le_of_ble_eq_true rfl) 0 rfl (ci := 4) rfl rfl rfl (fun r u2 hr => ?_)
  rw [← ha3] at hr ⊢
  simp only [up_up, va_up_at]
  refine r_istore_n C dX4_readNumbered_14 rfl (by decide) ?_
  skip
  have hS2 : RcS (va_up (N 0) 10 (nI a3)) R e n (a3, q.2) := ⟨⟨k9, rfl, k11, k1, k6, k2, k3⟩, ⟨he, hsl.2, hn2, hn7, hm3, hd8⟩, hrow, hbr⟩
  by_cases hlt : a3 < e
  · rw [if_pos hlt] at hr hR
    rw [← hr] at hR
    by_cases h43 : r = 43 ∨ r = 45
    · have key : ∀ cs : Int32, (cs = 1 ∨ cs = -1) → r = (if cs = 1 then 43 else 45) → V X 0 0 39 [some (.ref (A 0)), some (.int (nI q.1)), some (.int (nI (min 1000 v))), some (.int r)] [.int cs, .ref (A 0)] (rW G A (va_up N 0 (va_up (N 0) 10 (nI a3))) R Q ++ P) := by
        intro cs hcs hrc
        rw [hrc] at hR
        refine r_iload_n C dX4_readNumbered_39 rfl rfl ?_
        refine r_iload_n C dX4_readNumbered_40 rfl rfl ?_
        refine a_callVv C (c_addCrossing G A P (va_up N 0 (va_up (N 0) 10 (nI a3))) R Q (a3 := a3) (v := v) (q := q) hS2 hcs hlt q.1) kcX4_X4_addCrossing dX4_readNumbered_41 rfl (by decide) (by decide) (by decide) (Nat.le_of_ble_eq_true rfl) 0 rfl (ci := 4) rfl rfl rfl (fun u2 hu2 => ?_)
        refine r_goto (tgt := 90) C dX4_readNumbered_44 (by decide) ?_
        exact hR _ _ _ _ u2 (by decide) (by decide) hu2 dX4_readNumbered_90
      rcases h43 with w | w
      · rw [w] at key ⊢
        refine r_iload_n C dX4_readNumbered_15 rfl rfl ?_
        refine r_bipush (v := 43) C dX4_readNumbered_16 (by decide) ?_
        refine r_icmp_eq (tgt := 27) C dX4_readNumbered_18 (by decide) (fun c18 => ?_) (fun c18 => absurd c18 ((fun q => q rfl)))
        refine r_aload_n C dX4_readNumbered_27 rfl rfl ?_
        refine r_iload_n C dX4_readNumbered_28 rfl rfl ?_
        refine r_bipush (v := 43) C dX4_readNumbered_29 (by decide) ?_
        refine r_icmp_ne (tgt := 38) C dX4_readNumbered_31 (by decide) (fun c31 => absurd c31 ((fun q => q rfl))) (fun c31 => ?_)
        refine r_iconst (v := 1) C dX4_readNumbered_34 (by decide) ?_
        refine r_goto (tgt := 39) C dX4_readNumbered_35 (by decide) ?_
        exact key 1 (Or.inl rfl) rfl
      · rw [w] at key ⊢
        refine r_iload_n C dX4_readNumbered_15 rfl rfl ?_
        refine r_bipush (v := 43) C dX4_readNumbered_16 (by decide) ?_
        refine r_icmp_eq (tgt := 27) C dX4_readNumbered_18 (by decide) (fun c18 => absurd c18 ((by decide))) (fun c18 => ?_)
        refine r_iload_n C dX4_readNumbered_21 rfl rfl ?_
        refine r_bipush (v := 45) C dX4_readNumbered_22 (by decide) ?_
        refine r_icmp_ne (tgt := 47) C dX4_readNumbered_24 (by decide) (fun c24 => absurd c24 ((fun q => q rfl))) (fun c24 => ?_)
        refine r_aload_n C dX4_readNumbered_27 rfl rfl ?_
        refine r_iload_n C dX4_readNumbered_28 rfl rfl ?_
        refine r_bipush (v := 43) C dX4_readNumbered_29 (by decide) ?_
        refine r_icmp_ne (tgt := 38) C dX4_readNumbered_31 (by decide) (fun c31 => ?_) (fun c31 => absurd c31 ((by decide)))
        refine r_iconst (v := -1) C dX4_readNumbered_38 (by decide) ?_
        exact key (-1) (Or.inr rfl) rfl
    · by_cases h40 : r = 40
      · have hnu : nuF n q a3 v r = if 1 ≤ v ∧ v ≤ 50 then opF a3 q v else .inl (2, q.1) := by unfold nuF; rw [if_pos h40]
        rw [hnu] at hR
        subst h40
        have j76 : ¬ (1 ≤ v ∧ v ≤ 50) → V X 0 0 76 [some (.ref (A 0)), some (.int (nI q.1)), some (.int (nI (min 1000 v))), some (.int 40)] [] (rW G A (va_up N 0 (va_up (N 0) 10 (nI a3))) R Q ++ P) := by
          intro hno
          rw [if_neg hno] at hR
          refine r_aload_n C dX4_readNumbered_76 rfl rfl ?_
          refine r_iconst (v := 2) C dX4_readNumbered_77 (by decide) ?_
          refine r_iload_n C dX4_readNumbered_78 rfl rfl ?_
          refine a_callVv C (c_refuse G A P _ R Q _ _) kcX4_X4_refuse dX4_readNumbered_79 rfl (by decide) (by decide) (by decide) (Nat.le_of_ble_eq_true rfl) 0 rfl (ci := 4) rfl rfl rfl (fun u hu => ?_)
          refine r_goto (tgt := 90) C dX4_readNumbered_82 (by decide) ?_
          exact hR _ _ _ _ (_, R) (by decide) (by decide) ⟨rfl, rfl, rfl, show (2 : Int32) ≠ 0 by decide⟩ dX4_readNumbered_90
        by_cases hin : 1 ≤ v ∧ v ≤ 50
        · rw [if_pos hin] at hR
          have hmin : min 1000 v = v := Nat.min_eq_right (by omega)
          rw [hmin]
          refine r_iload_n C dX4_readNumbered_15 rfl rfl ?_
          refine r_bipush (v := 43) C dX4_readNumbered_16 (by decide) ?_
          refine r_icmp_eq (tgt := 27) C dX4_readNumbered_18 (by decide) (fun c18 => absurd c18 ((by decide))) (fun c18 => ?_)
          refine r_iload_n C dX4_readNumbered_21 rfl rfl ?_
          refine r_bipush (v := 45) C dX4_readNumbered_22 (by decide) ?_
          refine r_icmp_ne (tgt := 47) C dX4_readNumbered_24 (by decide) (fun c24 => ?_) (fun c24 => absurd c24 ((by decide)))
          refine r_iload_n C dX4_readNumbered_47 rfl rfl ?_
          refine r_bipush (v := 40) C dX4_readNumbered_48 (by decide) ?_
          refine r_icmp_eq (tgt := 65) C dX4_readNumbered_50 (by decide) (fun c50 => ?_) (fun c50 => absurd c50 ((fun q => q rfl)))
          refine r_iload_n C dX4_readNumbered_65 rfl rfl ?_
          refine r_iconst (v := 1) C dX4_readNumbered_66 (by decide) ?_
          refine r_icmp_lt (tgt := 76) C dX4_readNumbered_67 (by decide) (fun c67 => absurd c67 ((by rw [show (1 : Int32) = nI 1 from rfl, nI_ltI (by omega) (by decide)]; omega))) (fun c67 => ?_)
          refine r_iload_n C dX4_readNumbered_70 rfl rfl ?_
          refine r_bipush (v := 50) C dX4_readNumbered_71 (by decide) ?_
          rw [show (50 : Int32) = nI 50 from rfl]
          refine r_icmp_le (tgt := 85) C dX4_readNumbered_73 (by decide) (fun c73 => ?_) (fun c73 => absurd c73 ((fun q => q (by rw [nI_leI (by omega) (by decide)]; omega))))
          refine r_aload_n C dX4_readNumbered_85 rfl rfl ?_
          refine r_iload_n C dX4_readNumbered_86 rfl rfl ?_
          rw [← kc_t (show v < 100 by omega)]
          refine a_callVv C (c_openBracket G A P (va_up N 0 (va_up (N 0) 10 (nI a3))) R Q (a := a3) (q := q) hS2 (Or.inl hin) hlt) kcX4_X4_openBracket dX4_readNumbered_87 rfl (by decide) (by decide) (by decide) (Nat.le_of_ble_eq_true rfl) 0 rfl (ci := 4) rfl rfl rfl (fun u2 hu2 => ?_)
          exact hR _ _ _ _ u2 (by decide) (by decide) hu2 dX4_readNumbered_90
        · by_cases h0 : v = 0
          · refine r_iload_n C dX4_readNumbered_15 rfl rfl ?_
            refine r_bipush (v := 43) C dX4_readNumbered_16 (by decide) ?_
            refine r_icmp_eq (tgt := 27) C dX4_readNumbered_18 (by decide) (fun c18 => absurd c18 ((by decide))) (fun c18 => ?_)
            refine r_iload_n C dX4_readNumbered_21 rfl rfl ?_
            refine r_bipush (v := 45) C dX4_readNumbered_22 (by decide) ?_
            refine r_icmp_ne (tgt := 47) C dX4_readNumbered_24 (by decide) (fun c24 => ?_) (fun c24 => absurd c24 ((by decide)))
            refine r_iload_n C dX4_readNumbered_47 rfl rfl ?_
            refine r_bipush (v := 40) C dX4_readNumbered_48 (by decide) ?_
            refine r_icmp_eq (tgt := 65) C dX4_readNumbered_50 (by decide) (fun c50 => ?_) (fun c50 => absurd c50 ((fun q => q rfl)))
            refine r_iload_n C dX4_readNumbered_65 rfl rfl ?_
            refine r_iconst (v := 1) C dX4_readNumbered_66 (by decide) ?_
            refine r_icmp_lt (tgt := 76) C dX4_readNumbered_67 (by decide) (fun c67 => ?_) (fun c67 => absurd c67 ((fun q => q (by rw [h0]; decide))))
            exact j76 hin
          · refine r_iload_n C dX4_readNumbered_15 rfl rfl ?_
            refine r_bipush (v := 43) C dX4_readNumbered_16 (by decide) ?_
            refine r_icmp_eq (tgt := 27) C dX4_readNumbered_18 (by decide) (fun c18 => absurd c18 ((by decide))) (fun c18 => ?_)
            refine r_iload_n C dX4_readNumbered_21 rfl rfl ?_
            refine r_bipush (v := 45) C dX4_readNumbered_22 (by decide) ?_
            refine r_icmp_ne (tgt := 47) C dX4_readNumbered_24 (by decide) (fun c24 => ?_) (fun c24 => absurd c24 ((by decide)))
            refine r_iload_n C dX4_readNumbered_47 rfl rfl ?_
            refine r_bipush (v := 40) C dX4_readNumbered_48 (by decide) ?_
            refine r_icmp_eq (tgt := 65) C dX4_readNumbered_50 (by decide) (fun c50 => ?_) (fun c50 => absurd c50 ((fun q => q rfl)))
            refine r_iload_n C dX4_readNumbered_65 rfl rfl ?_
            refine r_iconst (v := 1) C dX4_readNumbered_66 (by decide) ?_
            refine r_icmp_lt (tgt := 76) C dX4_readNumbered_67 (by decide) (fun c67 => absurd c67 ((by rw [show (1 : Int32) = nI 1 from rfl, nI_ltI (by omega) (by decide)]; omega))) (fun c67 => ?_)
            refine r_iload_n C dX4_readNumbered_70 rfl rfl ?_
            refine r_bipush (v := 50) C dX4_readNumbered_71 (by decide) ?_
            rw [show (50 : Int32) = nI 50 from rfl]
            refine r_icmp_le (tgt := 85) C dX4_readNumbered_73 (by decide) (fun c73 => absurd c73 ((by rw [nI_leI (by omega) (by decide)]; omega))) (fun c73 => ?_)
            exact j76 hin
      · have hnu : nuF n q a3 v r = .inl (1, a3) := by unfold nuF; rw [if_neg h40, if_pos ⟨fun w => h43 (Or.inl w), fun w => h43 (Or.inr w)⟩]
        rw [hnu] at hR
        refine r_iload_n C dX4_readNumbered_15 rfl rfl ?_
        refine r_bipush (v := 43) C dX4_readNumbered_16 (by decide) ?_
        refine r_icmp_eq (tgt := 27) C dX4_readNumbered_18 (by decide) (fun c18 => absurd c18 ((fun w => h43 (Or.inl w)))) (fun c18 => ?_)
        refine r_iload_n C dX4_readNumbered_21 rfl rfl ?_
        refine r_bipush (v := 45) C dX4_readNumbered_22 (by decide) ?_
        refine r_icmp_ne (tgt := 47) C dX4_readNumbered_24 (by decide) (fun c24 => ?_) (fun c24 => absurd c24 ((fun w => h43 (Or.inr w))))
        refine r_iload_n C dX4_readNumbered_47 rfl rfl ?_
        refine r_bipush (v := 40) C dX4_readNumbered_48 (by decide) ?_
        refine r_icmp_eq (tgt := 65) C dX4_readNumbered_50 (by decide) (fun c50 => absurd c50 (h40)) (fun c50 => ?_)
        refine r_aload_n C dX4_readNumbered_53 rfl rfl ?_
        refine r_iconst (v := 1) C dX4_readNumbered_54 (by decide) ?_
        refine r_aload_n C dX4_readNumbered_55 rfl rfl ?_
        refine rg_X4_37 C dX4_readNumbered_56 ?_
        refine a_callVv C (c_refuse G A P _ R Q _ _) kcX4_X4_refuse dX4_readNumbered_59 rfl (by decide) (by decide) (by decide) (Nat.le_of_ble_eq_true rfl) 0 rfl (ci := 4) rfl rfl rfl (fun u hu => ?_)
        refine r_goto (tgt := 90) C dX4_readNumbered_62 (by decide) ?_
        exact hR _ _ _ _ (_, R) (by decide) (by decide) ⟨rfl, rfl, rfl, show (1 : Int32) ≠ 0 by decide⟩ dX4_readNumbered_90
  · rw [if_neg hlt] at hr hR
    subst hr
    have hnu : nuF n q a3 v 0 = .inl (1, a3) := by unfold nuF; rw [if_neg (by decide), if_pos (by decide)]
    rw [hnu] at hR
    refine r_iload_n C dX4_readNumbered_15 rfl rfl ?_
    refine r_bipush (v := 43) C dX4_readNumbered_16 (by decide) ?_
    refine r_icmp_eq (tgt := 27) C dX4_readNumbered_18 (by decide) (fun c18 => absurd c18 ((by decide))) (fun c18 => ?_)
    refine r_iload_n C dX4_readNumbered_21 rfl rfl ?_
    refine r_bipush (v := 45) C dX4_readNumbered_22 (by decide) ?_
    refine r_icmp_ne (tgt := 47) C dX4_readNumbered_24 (by decide) (fun c24 => ?_) (fun c24 => absurd c24 ((by decide)))
    refine r_iload_n C dX4_readNumbered_47 rfl rfl ?_
    refine r_bipush (v := 40) C dX4_readNumbered_48 (by decide) ?_
    refine r_icmp_eq (tgt := 65) C dX4_readNumbered_50 (by decide) (fun c50 => absurd c50 ((by decide))) (fun c50 => ?_)
    refine r_aload_n C dX4_readNumbered_53 rfl rfl ?_
    refine r_iconst (v := 1) C dX4_readNumbered_54 (by decide) ?_
    refine r_aload_n C dX4_readNumbered_55 rfl rfl ?_
    refine rg_X4_37 C dX4_readNumbered_56 ?_
    refine a_callVv C (c_refuse G A P _ R Q _ _) kcX4_X4_refuse dX4_readNumbered_59 rfl (by decide) (by decide) (by decide) (Nat.le_of_ble_eq_true rfl) 0 rfl (ci := 4) rfl rfl rfl (fun u hu => ?_)
    refine r_goto (tgt := 90) C dX4_readNumbered_62 (by decide) ?_
    exact hR _ _ _ _ (_, R) (by decide) (by decide) ⟨rfl, rfl, rfl, show (1 : Int32) ≠ 0 by decide⟩ dX4_readNumbered_90
end RD3
