/-! score -/
theorem pl_front0 {G : Gx} {pb : Nat → Option PbT} {j : Nat} {b : PbT} {P : va_W} (hj : j < 8) (hb : pb j = some b) : (plB G pb ++ P).Perm (pW G b.1 b.2.1 b.2.2 zQ ++ (plO G pb j ++ P)) := by
  have h := pl_out (G := G) (pb := pb) hj
  rw [hb] at h
  refine (h.append_right P).trans ?_
  rw [List.append_assoc]
  exact List.Perm.refl _
theorem PatOK_uniq {T : Rt} {j s z s' z' : Nat} (h : PatOK T j s z) (h' : PatOK T j s' z') : s = s' ∧ z = z' := by
  obtain ⟨a1, a2, a3, a4, a5, -⟩ := h
  obtain ⟨b1, b2, b3, b4, b5, -⟩ := h'
  exact ⟨(nI_eq (by omega) (by omega)).mp (a1.symm.trans b1), (nI_eq (by omega) (by omega)).mp (a4.symm.trans b4)⟩
section SCO
variable (G : Gx) (A : Nat → Nat) (P : va_W) (N : Nt) (R : Rt) (Q : Qt) (T : Rt) (pb : Nat → Option PbT) (ba sa : Nat → Nat)
noncomputable def scoW (G : Gx) (A : Nat → Nat) (P : va_W) (N : Nt) (R : Rt) (Q : Qt) (T : Rt) (ba sa : Nat → Nat) (nb ns : Nat) (w : Int32) (q j s z Tn : Nat) : va_W := bW G A (va_up N 0 (va_up (N 0) 8 (nI (ns + 1)))) R (va_up Q 12 (va_up (Q 12) ns (some q))) ++ (rgm nb (bnC ba (scR T j s z Tn nb ns w)) ++ (rgm (ns + 1) (scC (va_up sa ns q) (scR T j s z Tn nb ns w)) ++ P))
theorem sco_cells {nb ns : Nat} {w : Int32} {q j s z Tn : Nat} : rgm ns (scC sa T) ++ [(q, (.inr (5, [.int w, .int (nI (2 * lvMost (rowOf T j) z * Tn)), .int (scTk T j s z Tn nb w).2.2.1, .int (nI (scNeed T j s z Tn)), .int (nI (2 * lvMost (rowOf T j) z * Tn))]) : va_E))] = rgm (ns + 1) (scC (va_up sa ns q) (scR T j s z Tn nb ns w)) := by
  rw [rgm_s]
  congr 1
  · refine rgm_congr (fun i hi => ?_)
    show scC sa T i = (va_up sa ns q i, (.inr (5, [.int (upd (T 36) ns _ i), .int (upd (T 34) ns _ i), .int (upd (T 37) ns _ i), .int (upd (T 38) ns _ i), .int (upd (T 35) ns _ i)]) : va_E))
    rw [va_up_no (by omega), pk_un (by omega), pk_un (by omega), pk_un (by omega), pk_un (by omega), pk_un (by omega)]
    rfl
  · show [_] = [(va_up sa ns q ns, (.inr (5, [.int (upd (T 36) ns _ ns), .int (upd (T 34) ns _ ns), .int (upd (T 37) ns _ ns), .int (upd (T 38) ns _ ns), .int (upd (T 35) ns _ ns)]) : va_E))]
    rw [va_up_at, pk_us, pk_us, pk_us, pk_us, pk_us]
theorem c_bscore {nb ns : Nat} (hI : PtI pb (Q 2) T) (k t w : Int32) (hnb : N 0 6 = nI nb) (hb40 : nb ≤ 40) (hqb : ∀ i, i < nb → Q 11 i = some (ba i)) (hL : NumOK (T 33) nb 5000) (hns : N 0 8 = nI ns) (hs60 : ns ≤ 60) : XI G yX6_score (.code yX6_score cX6_score 7 (some .int)) 2 1 5 [.ref (A 0), .int k, .int t, .int w] (bW G A N R Q ++ (rgm nb (bnC ba T) ++ (rgm ns (scC sa T) ++ (plB G pb ++ P)))) (False, nse, []) (S := Option (Nat × Nat × Nat × Nat × Nat)) (fun a u => (u = none ∧ a = -1 ∧ ((∀ j s z Tn wn : Nat, ¬ okS T ns k t w j s z Tn wn) ∨ (∃ j s z Tn wn : Nat, okS T ns k t w j s z Tn wn ∧ sumW (T 32) (T 33) w nb < scNeed T j s z Tn))) ∨ (∃ q j s z Tn wn : Nat, u = some (q, j, s, z, Tn) ∧ okS T ns k t w j s z Tn wn ∧ scNeed T j s z Tn ≤ sumW (T 32) (T 33) w nb ∧ a = nI ns)) (fun u => match u with
    | none => bW G A N R Q ++ (rgm nb (bnC ba T) ++ (rgm ns (scC sa T) ++ (plB G pb ++ P)))
    | some v => scoW G A (plB G pb ++ P) N R Q T ba sa nb ns w v.1 v.2.1 v.2.2.1 v.2.2.2.1 v.2.2.2.2) := by
  refine XI.intro (by decide) (Nat.le_of_ble_eq_true rfl) (cat1 (xs := [k, t, w])) fun X C hE hR hO hN => ?_
  have j48 : ∀ (o4 : Option Value), (∀ j s z Tn wn : Nat, ¬ okS T ns k t w j s z Tn wn) → V X 0 0 48 [some (.ref (A 0)), some (.int k), some (.int t), some (.int w), o4, none, none] [] (bW G A N R Q ++ (rgm nb (bnC ba T) ++ (rgm ns (scC sa T) ++ (plB G pb ++ P)))) := by
    intro o4 hno
    refine r_iconst (v := -1) C dX6_score_48 (by decide) ?_
    exact hR _ _ _ _ _ none (by decide) (by decide) rfl (Or.inl ⟨rfl, rfl, Or.inl hno⟩) dX6_score_49
  have c60 : (60 : Int32) = nI 60 := rfl
  have hne60 : ¬ nI 60 ≤ nI ns ↔ ns ≠ 60 := by rw [nI_leI (by decide) (by omega)]; omega
  refine r_aload_n C dX6_score_0 rfl rfl ?_
  refine r_iload_n C dX6_score_1 rfl rfl ?_
  refine a_callXq C hE (c_patternOrNull G A (rgm nb (bnC ba T) ++ (rgm ns (scC sa T) ++ (plB G pb ++ P))) N R Q k) kcX6_X6_patternOrNull dX6_score_2 rfl (by decide) (by decide) (by decide) (Nat.le_of_ble_eq_true rfl) 0 rfl (ci := 6) rfl rfl rfl (fun q => q.elim) (fun o u hu => ?_)
  skip
  rcases pat_case hI k with ⟨h1, h2⟩ | ⟨j, b, s, z, hj, rfl, hb, hQ, hq, hip, hp, hK, hF⟩
  · have hno : ∀ j s z Tn wn : Nat, ¬ okS T ns k t w j s z Tn wn := by
      rintro j s z Tn wn ⟨-, hj, rfl, hp, -⟩
      exact h2 ⟨j, hj, rfl, by rw [hp.1]; exact pos_nI (by have := hp.2.1; omega) (by have := hp.2.2.1; omega)⟩
    rw [h1] at hu
    subst hu
    refine r_astoreN C dX6_score_5 (by decide) ?_
    refine r_aload_n C dX6_score_7 rfl rfl ?_
    refine bg_X6_56 C dX6_score_8 ?_
    refine r_bipush (v := 60) C dX6_score_11 (by decide) ?_
    refine r_icmp_ge (tgt := 48) C dX6_score_13 (by decide) (fun c13 => ?_) (fun c13 => ?_)
    · exact j48 _ hno
    · refine r_aloadN C dX6_score_16 rfl ?_
      refine r_ifnullN (tgt := 48) C dX6_score_18 (by decide) ?_
      exact j48 _ hno
  rw [hq] at hu
  subst hu
  refine r_astore C dX6_score_5 (by decide) ?_
  obtain ⟨⟨k3, s2, s7⟩, ⟨-, z3⟩, -, -, -, k4, -, -, k7, -⟩ := id hK
  have hpf := perm_p3 (w := bW G A N R Q) (a := rgm nb (bnC ba T)) (b := rgm ns (scC sa T)) (pl_front0 (G := G) (P := P) hj hb)
  have huniq : ∀ j' s' z' Tn wn : Nat, okS T ns (nI j) t w j' s' z' Tn wn → j' = j ∧ s' = s ∧ z' = z := by
    rintro j' s' z' Tn wn ⟨-, hj', e, hp', -⟩
    have ej := (nI_eq (by omega) (by omega)).mp e
    subst ej
    have := PatOK_uniq hp' hp
    exact ⟨rfl, this⟩
  by_cases hok : ∃ Tn wn, okS T ns (nI j) t w j s z Tn wn
  rotate_left
  · have hno : ∀ j' s' z' Tn wn : Nat, ¬ okS T ns (nI j) t w j' s' z' Tn wn := by
      intro j' s' z' Tn wn h
      obtain ⟨rfl, rfl, rfl⟩ := huniq j' s' z' Tn wn h
      exact hok ⟨Tn, wn, h⟩
    refine r_aload_n C dX6_score_7 rfl rfl ?_
    refine bg_X6_56 C dX6_score_8 ?_
    refine r_bipush (v := 60) C dX6_score_11 (by decide) ?_
    rw [hns, c60]
    refine r_icmp_ge (tgt := 48) C dX6_score_13 (by decide) (fun c13 => ?_) (fun c13 => ?_)
    · exact j48 _ hno
    · refine r_aload C dX6_score_16 rfl ?_
      refine r_ifnullR C dX6_score_18 ?_
      refine r_aload C dX6_score_21 rfl ?_
      refine V.perm hpf ?_
      refine r_get C 0 7 rfl rfl inX3 (by decide) lk_X6_127 rfl dX6_score_23 ?_
      refine V.perm hpf.symm ?_
      refine r_if_eq (tgt := 48) C dX6_score_26 (by decide) (fun c26 => ?_) (fun c26 => ?_)
      · exact j48 _ hno
      · refine r_iload_n C dX6_score_29 rfl rfl ?_
        refine r_iconst (v := 1) C dX6_score_30 (by decide) ?_
        refine r_icmp_lt (tgt := 48) C dX6_score_31 (by decide) (fun c31 => ?_) (fun c31 => ?_)
        · exact j48 _ hno
        · refine r_iload_n C dX6_score_34 rfl rfl ?_
          refine r_sipush (v := 200) C dX6_score_35 (by decide) ?_
          refine r_icmp_gt (tgt := 48) C dX6_score_38 (by decide) (fun c38 => ?_) (fun c38 => ?_)
          · exact j48 _ hno
          · refine r_iload_n C dX6_score_41 rfl rfl ?_
            refine a_callS0 C (c_isWidth G w) kcX6_X6_isWidth dX6_score_42 rfl (by decide) (by decide) (by decide) (Nat.le_of_ble_eq_true rfl) rfl (fun a u hu => ?_)
            subst hu
            refine r_if_ne (tgt := 50) C dX6_score_45 (by decide) (fun c45 => ?_) (fun c45 => ?_)
            · exfalso
              by_cases hw : ¬ w < 1 ∧ ¬ 9 < w
              · obtain ⟨wn, hwn, rfl⟩ := nI_of (x := w) (fun q => hw.1 (Int32.lt_trans q (by decide)))
                obtain ⟨Tn, hTn, rfl⟩ := nI_of (x := t) (fun q => c31 (Int32.lt_trans q (by decide)))
                obtain ⟨hw1, hw2⟩ := hw
                rw [show (1 : Int32) = nI 1 from rfl, nI_ltI (by omega) (by decide)] at hw1 c31
                rw [show (9 : Int32) = nI 9 from rfl, nI_ltI (by decide) (by omega)] at hw2
                rw [show (200 : Int32) = nI 200 from rfl, nI_ltI (by decide) (by omega)] at c38
                refine hok ⟨Tn, wn, hne60.mp c13, hj, rfl, hp, rfl, by omega, by omega, rfl, by omega, by omega, ?_⟩
                rcases k7 with v | v
                · exact v.2
                · exact absurd v.1 c26
              · rw [if_neg hw] at c45
                exact c45 rfl
            · exact j48 _ hno
  obtain ⟨Tn, wn, hO⟩ := hok
  obtain ⟨o1, -, -, -, rfl, t1, t2, rfl, w1, w9, hold⟩ := id hO
  have hh1 : b.2.1 0 7 = 1 := by
    rcases k7 with v | v
    · exact v.1
    · exact absurd hold v.2
  have hnd : scNeed T j s z Tn ≤ s * 1801 := needN_le (fun q => uOf_le z3) t2 s
  have hnd2 : s * 1801 ≤ 7 * 1801 := Nat.mul_le_mul_right _ s7
  have hsl := sumW_le (W := T 32) (w := nI wn) hL nb (Nat.le_refl _)
  have hsl2 : nb * 5000 ≤ 40 * 5000 := Nat.mul_le_mul_right _ hb40
  refine r_aload_n C dX6_score_7 rfl rfl ?_
  refine bg_X6_56 C dX6_score_8 ?_
  refine r_bipush (v := 60) C dX6_score_11 (by decide) ?_
  rw [hns, c60]
  refine r_icmp_ge (tgt := 48) C dX6_score_13 (by decide) (fun c13 => absurd c13 ((hne60.mpr o1))) (fun c13 => ?_)
  refine r_aload C dX6_score_16 rfl ?_
  refine r_ifnullR C dX6_score_18 ?_
  refine r_aload C dX6_score_21 rfl ?_
  refine V.perm hpf ?_
  refine r_get C 0 7 rfl rfl inX3 (by decide) lk_X6_127 rfl dX6_score_23 ?_
  refine V.perm hpf.symm ?_
  rw [hh1]
  refine r_if_eq (tgt := 48) C dX6_score_26 (by decide) (fun c26 => absurd c26 ((by decide))) (fun c26 => ?_)
  refine r_iload_n C dX6_score_29 rfl rfl ?_
  refine r_iconst (v := 1) C dX6_score_30 (by decide) ?_
  refine r_icmp_lt (tgt := 48) C dX6_score_31 (by decide) (fun c31 => absurd c31 ((by rw [show (1 : Int32) = nI 1 from rfl, nI_ltI (by omega) (by decide)]; omega))) (fun c31 => ?_)
  refine r_iload_n C dX6_score_34 rfl rfl ?_
  refine r_sipush (v := 200) C dX6_score_35 (by decide) ?_
  refine r_icmp_gt (tgt := 48) C dX6_score_38 (by decide) (fun c38 => absurd c38 ((by rw [show (200 : Int32) = nI 200 from rfl, nI_ltI (by decide) (by omega)]; omega))) (fun c38 => ?_)
  refine r_iload_n C dX6_score_41 rfl rfl ?_
  refine a_callS0 C (c_isWidth G (nI wn)) kcX6_X6_isWidth dX6_score_42 rfl (by decide) (by decide) (by decide) (Nat.le_of_ble_eq_true rfl) rfl (fun a u hu => ?_)
  rw [if_pos ⟨by rw [show (1 : Int32) = nI 1 from rfl, nI_ltI (by omega) (by decide)]; omega, by rw [show (9 : Int32) = nI 9 from rfl, nI_ltI (by decide) (by omega)]; omega⟩] at hu
  subst hu
  refine r_if_ne (tgt := 50) C dX6_score_45 (by decide) (fun c45 => ?_) (fun c45 => absurd c45 ((by decide)))
  refine r_aload C dX6_score_50 rfl ?_
  refine r_iload_n C dX6_score_52 rfl rfl ?_
  refine V.perm hpf ?_
  refine a_callVi C (c_strawsNeeded G b.1 _ b.2.1 b.2.2 zQ hK t2) kcX6_X3_strawsNeeded dX6_score_53 rfl (by decide) (by decide) (by decide) (Nat.le_of_ble_eq_true rfl) 0 rfl (ci := 3) rfl rfl rfl (fun a u hu => ?_)
  refine V.perm hpf.symm ?_
  have hu : a = nI (scNeed T j s z Tn) := hu
  subst hu
  refine r_istore C dX6_score_56 (by decide) ?_
  refine r_iload C dX6_score_58 rfl ?_
  refine r_aload_n C dX6_score_60 rfl rfl ?_
  refine r_iload_n C dX6_score_61 rfl rfl ?_
  refine a_callVi C (c_strawsLeftOf G A (rgm ns (scC sa T) ++ (plB G pb ++ P)) N R Q T ba (nI wn) hnb hb40 hqb hL) kcX6_X6_strawsLeftOf dX6_score_62 rfl (by decide) (by decide) (by decide) (Nat.le_of_ble_eq_true rfl) 0 rfl (ci := 6) rfl rfl rfl (fun a u hu => ?_)
  subst hu
  skip
  by_cases hen : scNeed T j s z Tn ≤ sumW (T 32) (T 33) (nI wn) nb
  rotate_left
  · refine r_icmp_le (tgt := 70) C dX6_score_65 (by decide) (fun c65 => absurd c65 ((by rw [nI_leI (by omega) (by omega)]; exact hen))) (fun c65 => ?_)
    refine r_iconst (v := -1) C dX6_score_68 (by decide) ?_
    exact hR _ _ _ _ _ none (by decide) (by decide) rfl (Or.inl ⟨rfl, rfl, Or.inr ⟨j, s, z, Tn, wn, hO, by omega⟩⟩) dX6_score_69
  refine r_icmp_le (tgt := 70) C dX6_score_65 (by decide) (fun c65 => ?_) (fun c65 => absurd c65 ((fun q => q (by rw [nI_leI (by omega) (by omega)]; exact hen))))
  refine r_aload_n C dX6_score_70 rfl rfl ?_
  refine r_iload_n C dX6_score_71 rfl rfl ?_
  refine r_iload C dX6_score_72 rfl ?_
  refine a_callVi C (c_takeStraws G A (rgm ns (scC sa T) ++ (plB G pb ++ P)) N R Q T ba (need := scNeed T j s z Tn) (nI wn) hnb hb40 hqb hL (by omega)) kcX6_X6_takeStraws dX6_score_74 rfl (by decide) (by decide) (by decide) (Nat.le_of_ble_eq_true rfl) 0 rfl (ci := 6) rfl rfl rfl (fun a u hu => ?_)
  have hu : a = (scTk T j s z Tn nb (nI wn)).2.2.1 := hu
  subst hu
  refine r_istore C dX6_score_77 (by decide) ?_
  refine r_aload_n C dX6_score_79 rfl rfl ?_
  refine bg_X6_52 C dX6_score_80 ?_
  refine r_aload_n C dX6_score_83 rfl rfl ?_
  refine bg_X6_56 C dX6_score_84 ?_
  skip
  rw [hns]
  refine r_new (ci := 5) C [.int 0, .int 0, .int 0, .int 0, .int 0] rfl inX5 tyX5_ok cl_X6_50 ni_X5.1 ni_X5.2 (fun j hj => by rcases (show j = 0 ∨ j = 1 ∨ j = 2 ∨ j = 3 ∨ j = 4 by omega) with rfl | rfl | rfl | rfl | rfl <;> rfl) (by decide) (by decide) dX6_score_87 (fun q => ?_)
  have hpf2 := fun c : Nat × va_E => (perm_p3 (w := bW G A N R Q) (a := rgm nb (bnC ba (va_up T 33 (tk (T 32) (fB T) (nI wn) (T 33) (scNeed T j s z Tn) nb).1))) (b := rgm ns (scC sa T)) (pl_front0 (G := G) (P := P) hj hb)).append_right [c]
  refine r_dup C dX6_score_90 rfl ?_
  refine r_iload_n C dX6_score_91 rfl rfl ?_
  refine r_iconst (v := 2) C dX6_score_92 (by decide) ?_
  refine r_aload C dX6_score_93 rfl ?_
  refine V.perm (hpf2 _) ?_
  refine r_get C 0 4 rfl rfl inX3 (by decide) lk_X6_131 rfl dX6_score_95 ?_
  refine V.perm (hpf2 _).symm ?_
  rw [k4]
  refine r_imul C dX6_score_98 ?_
  refine r_iload_n C dX6_score_99 rfl rfl ?_
  refine r_imul C dX6_score_100 ?_
  rw [show (2 : Int32) = nI 2 from rfl, pk_mul, pk_mul]
  refine r_iload C dX6_score_101 rfl ?_
  refine r_iload C dX6_score_103 rfl ?_
  refine r_callIv C (c_X5_init G q _ _ _ _) kcX6_X5_init dX6_score_105 rfl (by decide) (by decide) (by decide) (Nat.le_of_ble_eq_true rfl) [_] (List.range _) nd_1 nw_C nw_R all_nd nw_d rfl (fun u hu => ?_)
  refine r_aast (t0 := 6) (ci := 5) (r := (RX5, TX5, 5)) (ws' := (bW G A N R (va_up Q 12 (va_up (Q 12) (nI ns).toNatClampNeg (some q))) ++ (rgm nb (bnC ba (va_up T 33 (tk (T 32) (fB T) (nI wn) (T 33) (scNeed T j s z Tn) nb).1)) ++ (rgm ns (scC sa T) ++ (plB G pb ++ P)))) ++ [(q, .inr (5, [.int (nI wn), .int (nI (2 * lvMost (rowOf T j) z * Tn)), .int (scTk T j s z Tn nb (nI wn)).2.2.1, .int (nI (scNeed T j s z Tn)), .int (nI (2 * lvMost (rowOf T j) z * Tn))]))]) C 12 _ (fun _ => rfl) rfl nw_at rfl (vp_in_nI (show ns < 60 by omega) (by decide)) rfl dX6_score_108 ?_
  rw [nI_clamp (by omega)]
  refine V.perm perm_last ?_
  rw [sco_cells]
  refine r_aload_n C dX6_score_109 rfl rfl ?_
  refine r_dup C dX6_score_110 rfl ?_
  refine bg_X6_56 C dX6_score_111 ?_
  refine r_iconst (v := 1) C dX6_score_114 (by decide) ?_
  refine r_iadd C dX6_score_115 ?_
  rw [hns, nI_1]
  refine bp_X6_56 C dX6_score_116 ?_
  refine r_aload_n C dX6_score_119 rfl rfl ?_
  refine bg_X6_56 C dX6_score_120 ?_
  refine r_iconst (v := 1) C dX6_score_123 (by decide) ?_
  refine r_isub C dX6_score_124 ?_
  show V X _ _ 125 _ [.int (nI (ns + 1) - 1)] _
  rw [nI_pred]
  exact hR _ _ _ _ _ (some (q, j, s, z, Tn)) (by decide) (by decide) rfl (Or.inr ⟨q, j, s, z, Tn, wn, rfl, hO, hen, rfl⟩) dX6_score_125
end SCO
