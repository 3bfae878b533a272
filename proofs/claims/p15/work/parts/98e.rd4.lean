/-! Reader: copies, items, the whole text -/
/-- what is known of the patterns that can be copied: their straws p5, sizes p6, rows p7 -/
def Pool (G : Gx) (P : va_W) (Qk : Nat → Option Nat) (p5 p6 p7 : Nat → Int32) : Prop := ∀ v, v < 8 → (Qk v = none ∧ p5 v = 0) ∨ ∃ (B : Nat → Nat) (NB : Nt) (RB : Rt) (QB : Qt) (P' : va_W) (s' z' : Nat), Qk v = some (B 0) ∧ P.Perm (pW G B NB RB QB ++ P') ∧ p5 v = nI s' ∧ 2 ≤ s' ∧ s' ≤ 7 ∧ p6 v = nI z' ∧ z' ≤ 300 ∧ NB 0 3 = nI s' ∧ NB 0 2 = nI z' ∧ ∀ i, i < z' → RB 1 i = p7 (300 * v + i) ∧ okC s' (p7 (300 * v + i))
def acF (n : Nat) (q : Rst) (a1 a2 s' z' : Nat) (c : Nat → Int32) : Rout := if s' ≠ n then .inl (if 300 < q.2.1 + z' then 2 else 3, a1) else if 300 < q.2.1 + z' then .inl (2, a1) else .inr (a2, q.2.1 + z', q.2.2.1, apR q.2.2.2.1 q.2.1 c, q.2.2.2.2.1, q.2.2.2.2.2)
theorem catC {a b : Nat} {x : Int32} : ∀ v ∈ [Value.ref a, Value.ref b, Value.int x], v.category = 1 := catM
section RD4
variable (G : Gx) (A : Nat → Nat) (P : va_W) (N : Nt) (R : Rt) (Q : Qt)
theorem c_addCopy {e n a2 s' z' : Nat} {q : Rst} {B : Nat → Nat} {NB : Nt} {RB : Rt} {QB : Qt} {c : Nat → Int32} (hS : RcS (N 0) R e n (a2, q.2)) (h3 : NB 0 3 = nI s') (s7 : s' ≤ 7) (h2 : NB 0 2 = nI z') (z3 : z' ≤ 300) (hrB : ∀ i, i < z' → RB 1 i = c i ∧ okC s' (c i)) (a1 : Nat) : CV G yX4_addCopy cX4_addCopy 3 1 0 0 [.ref (A 0), .ref (B 0), .int (nI a1)] (rW G A N R Q ++ (pW G B NB RB QB ++ P)) (S := Nt × Rt) (fun u => u.2 4 = R 4 ∧ RcO (u.1 0) u.2 e n (acF n q a1 a2 s' z' c)) (fun u => rW G A u.1 u.2 Q ++ (pW G B NB RB QB ++ P)) := by
  obtain ⟨a0, mny, dp, row, kd, fr⟩ := q
  obtain ⟨⟨k9, k10, k11, k1, k6, k2, k3⟩, ⟨he, hae, hn2, hn7, hm3, hd8⟩, hrow, hbr⟩ := id hS
  dsimp only at k9 k10 k11 k1 k6 k2 k3 he hae hn2 hn7 hm3 hd8 hrow hbr
  refine CV.intro (by decide) (Nat.le_of_ble_eq_true rfl) catC fun X C hR => ?_
  have e1 : (300 : Int32) - nI mny = nI (300 - mny) := by rw [show (300 : Int32) = nI 300 from rfl, pk_sub hm3]
  by_cases hbig : 300 < mny + z'
  · have ho : acF n (a0, mny, dp, row, kd, fr) a1 a2 s' z' c = .inl (2, a1) := by
      unfold acF
      by_cases w : s' ≠ n
      · rw [if_pos w, if_pos hbig]
      · rw [if_neg w, if_pos hbig]
    rw [ho] at hR
    refine r_aload_n C dX4_addCopy_0 rfl rfl ?_
    refine r_get C 6 2 rfl rfl inX3 (by decide) lk_X4_102 rfl dX4_addCopy_1 ?_
    refine r_sipush (v := 300) C dX4_addCopy_4 (by decide) ?_
    refine r_aload_n C dX4_addCopy_7 rfl rfl ?_
    refine rg_X4_15 C dX4_addCopy_8 ?_
    refine r_isub C dX4_addCopy_11 ?_
    rw [h2, k1, e1]
    refine r_icmp_le (tgt := 24) C dX4_addCopy_12 (by decide) (fun c12 => absurd c12 ((by rw [nI_leI (by omega) (by omega)]; omega))) (fun c12 => ?_)
    refine r_aload_n C dX4_addCopy_15 rfl rfl ?_
    refine r_iconst (v := 2) C dX4_addCopy_16 (by decide) ?_
    refine r_iload_n C dX4_addCopy_17 rfl rfl ?_
    refine a_callVv C (c_refuse G A _ N R Q _ _) kcX4_X4_refuse dX4_addCopy_18 rfl (by decide) (by decide) (by decide) (Nat.le_of_ble_eq_true rfl) 0 rfl (ci := 4) rfl rfl rfl (fun u hu => ?_)
    refine r_goto (tgt := 77) C dX4_addCopy_21 (by decide) ?_
    exact hR _ _ _ _ (_, R) (by decide) (by decide) ⟨rfl, rfl, rfl, show (2 : Int32) ≠ 0 by decide⟩ dX4_addCopy_77
  · by_cases hsn : s' = n
    · have ho : acF n (a0, mny, dp, row, kd, fr) a1 a2 s' z' c = .inr (a2, mny + z', dp, apR row mny c, kd, fr) := by
        unfold acF
        rw [if_neg (fun w => w hsn), if_neg hbig]
      rw [ho] at hR
      refine r_aload_n C dX4_addCopy_0 rfl rfl ?_
      refine r_get C 6 2 rfl rfl inX3 (by decide) lk_X4_102 rfl dX4_addCopy_1 ?_
      refine r_sipush (v := 300) C dX4_addCopy_4 (by decide) ?_
      refine r_aload_n C dX4_addCopy_7 rfl rfl ?_
      refine rg_X4_15 C dX4_addCopy_8 ?_
      refine r_isub C dX4_addCopy_11 ?_
      rw [h2, k1, e1]
      refine r_icmp_le (tgt := 24) C dX4_addCopy_12 (by decide) (fun c12 => ?_) (fun c12 => absurd c12 ((fun q => q (by rw [nI_leI (by omega) (by omega)]; omega))))
      refine r_aload_n C dX4_addCopy_24 rfl rfl ?_
      refine r_get C 6 3 rfl rfl inX3 (by decide) lk_X4_105 rfl dX4_addCopy_25 ?_
      refine r_aload_n C dX4_addCopy_28 rfl rfl ?_
      refine rg_X4_40 C dX4_addCopy_29 ?_
      rw [h3, k11]
      refine r_icmp_eq (tgt := 44) C dX4_addCopy_32 (by decide) (fun c32 => ?_) (fun c32 => absurd c32 ((fun q => q (by rw [hsn]))))
      refine r_aload_n C dX4_addCopy_44 rfl rfl ?_
      refine r_get C 6 0 rfl rfl inX3 (by decide) lk_X4_106 rfl dX4_addCopy_45 ?_
      refine r_iconst (v := 0) C dX4_addCopy_48 (by decide) ?_
      refine r_aload_n C dX4_addCopy_49 rfl rfl ?_
      refine rg_X4_9 C dX4_addCopy_50 ?_
      refine r_aload_n C dX4_addCopy_53 rfl rfl ?_
      refine rg_X4_15 C dX4_addCopy_54 ?_
      refine r_aload_n C dX4_addCopy_57 rfl rfl ?_
      refine r_get C 6 2 rfl rfl inX3 (by decide) lk_X4_102 rfl dX4_addCopy_58 ?_
      show V X 0 0 61 _ [.int (NB 0 2), .int (N 0 1), .ref (A 1), .int (nI 0), .ref (B 1)] _
      rw [h2, k1]
      refine r_copyi (n0 := 300) (n1 := 300) (sp := 0) (dp := mny) (nn := z') (f := RB 1) (g := R 1) (ws' := rW G A N (va_up R 1 (va_cpy (RB 1) (R 1) 0 mny z')) Q ++ (pW G B NB RB QB ++ P)) C 7 1 ka_X4_107 rfl rfl (by omega) (by omega) (by decide) (by decide) (by decide) (Nat.le_of_ble_eq_true rfl) rfl dX4_addCopy_61 ?_
      refine r_aload_n C dX4_addCopy_64 rfl rfl ?_
      refine r_dup C dX4_addCopy_65 rfl ?_
      refine rg_X4_15 C dX4_addCopy_66 ?_
      refine r_aload_n C dX4_addCopy_69 rfl rfl ?_
      refine r_get C 6 2 rfl rfl inX3 (by decide) lk_X4_102 rfl dX4_addCopy_70 ?_
      refine r_iadd C dX4_addCopy_73 ?_
      rw [k1, h2, nI_add]
      refine rp_X4_15 C dX4_addCopy_74 ?_
      refine hR _ _ _ _ (_, _) (by decide) (by decide) ⟨rfl, ⟨k9, k10, k11, rfl, k6, k2, k3⟩, ⟨he, hae, hn2, hn7, by show mny + z' ≤ 300; omega, hd8⟩, fun i hi => ?_, fun i hi => ?_⟩ dX4_addCopy_77
      · have hi : i < mny + z' := hi
        show va_cpy (RB 1) (R 1) 0 mny z' i = apR row mny c i ∧ okC n (apR row mny c i)
        unfold va_cpy apR
        by_cases w : i < mny
        · rw [if_neg (by omega), if_pos w]; exact hrow i w
        · rw [if_pos (by omega), if_neg w, Nat.zero_add]
          have := hrB (i - mny) (by omega)
          rw [hsn] at this
          exact this
      · obtain ⟨w1, w2, w3, w4⟩ := hbr i hi
        exact ⟨w1, w2, w3, by show fr i ≤ mny + z'; omega⟩
    · have ho : acF n (a0, mny, dp, row, kd, fr) a1 a2 s' z' c = .inl (3, a1) := by
        unfold acF
        rw [if_pos hsn, if_neg hbig]
      rw [ho] at hR
      refine r_aload_n C dX4_addCopy_0 rfl rfl ?_
      refine r_get C 6 2 rfl rfl inX3 (by decide) lk_X4_102 rfl dX4_addCopy_1 ?_
      refine r_sipush (v := 300) C dX4_addCopy_4 (by decide) ?_
      refine r_aload_n C dX4_addCopy_7 rfl rfl ?_
      refine rg_X4_15 C dX4_addCopy_8 ?_
      refine r_isub C dX4_addCopy_11 ?_
      rw [h2, k1, e1]
      refine r_icmp_le (tgt := 24) C dX4_addCopy_12 (by decide) (fun c12 => ?_) (fun c12 => absurd c12 ((fun q => q (by rw [nI_leI (by omega) (by omega)]; omega))))
      refine r_aload_n C dX4_addCopy_24 rfl rfl ?_
      refine r_get C 6 3 rfl rfl inX3 (by decide) lk_X4_105 rfl dX4_addCopy_25 ?_
      refine r_aload_n C dX4_addCopy_28 rfl rfl ?_
      refine rg_X4_40 C dX4_addCopy_29 ?_
      rw [h3, k11]
      refine r_icmp_eq (tgt := 44) C dX4_addCopy_32 (by decide) (fun c32 => absurd c32 ((by rw [nI_eq (by omega) (by omega)]; exact hsn))) (fun c32 => ?_)
      refine r_aload_n C dX4_addCopy_35 rfl rfl ?_
      refine r_iconst (v := 3) C dX4_addCopy_36 (by decide) ?_
      refine r_iload_n C dX4_addCopy_37 rfl rfl ?_
      refine a_callVv C (c_refuse G A _ N R Q _ _) kcX4_X4_refuse dX4_addCopy_38 rfl (by decide) (by decide) (by decide) (Nat.le_of_ble_eq_true rfl) 0 rfl (ci := 4) rfl rfl rfl (fun u hu => ?_)
      refine r_goto (tgt := 77) C dX4_addCopy_41 (by decide) ?_
      exact hR _ _ _ _ (_, R) (by decide) (by decide) ⟨rfl, rfl, rfl, show (3 : Int32) ≠ 0 by decide⟩ dX4_addCopy_77
theorem c_readCopy {e n : Nat} {q : Rst} {p5 p6 p7 : Nat → Int32} (hBt : BtOK (R 4)) (hS : RcS (N 0) R e n q) (ha : q.1 < e) (hPool : Pool G P (Q 5) p5 p6 p7) : CV G yX4_readCopy cX4_readCopy 3 2 0 0 [.ref (A 0)] (rW G A N R Q ++ P) (S := Nt × Rt) (fun u => u.2 4 = R 4 ∧ RcO (u.1 0) u.2 e n (ptF true p5 p6 p7 n q (skipTo (txt (R 4)) e (q.1 + 1)) (dgs (txt (R 4)) e (skipTo (txt (R 4)) e (q.1 + 1))) (rvF (txt (R 4)) (skipTo (txt (R 4)) e (q.1 + 1)) (dgs (txt (R 4)) e (skipTo (txt (R 4)) e (q.1 + 1)))))) (fun u => rW G A u.1 u.2 Q ++ P) := by
  obtain ⟨⟨k9, k10, k11, k1, k6, k2, k3⟩, ⟨he, hae, hn2, hn7, hm3, hd8⟩, hrow, hbr⟩ := id hS
  refine CV.intro (by decide) (Nat.le_of_ble_eq_true rfl) (cat1 (xs := [])) fun X C hR => ?_
  have hsl := skipTo_le (t := txt (R 4)) (e := e) (a := q.1 + 1) (by omega)
  obtain ⟨a1, ha1⟩ : ∃ a1, a1 = skipTo (txt (R 4)) e (q.1 + 1) := ⟨_, rfl⟩
  rw [← ha1] at hR hsl
  have hdl := dgs_le (t := txt (R 4)) (e := e) (e - a1) a1 hsl.2 (Nat.le_refl _)
  obtain ⟨dg, hdg⟩ : ∃ dg, dg = dgs (txt (R 4)) e a1 := ⟨_, rfl⟩
  obtain ⟨v, hv⟩ : ∃ v, v = rvF (txt (R 4)) a1 (dgs (txt (R 4)) e a1) := ⟨_, rfl⟩
  rw [← hv, ← hdg] at hR
  rw [← hdg] at hdl
  refine r_aload_n C dX4_readCopy_0 rfl rfl ?_
  refine r_dup C dX4_readCopy_1 rfl ?_
  refine rg_X4_37 C dX4_readCopy_2 ?_
  refine r_iconst (v := 1) C dX4_readCopy_5 (by decide) ?_
  refine r_iadd C dX4_readCopy_6 ?_
  rw [k10, nI_1]
  refine rp_X4_37 C dX4_readCopy_7 ?_
  refine r_aload_n C dX4_readCopy_10 rfl rfl ?_
  refine a_callVi C (c_nextSign G A P (va_up N 0 (va_up (N 0) 10 (nI (q.1 + 1)))) R Q (a := q.1 + 1) (e := e) hBt rfl k9 he (by omega)) kcX4_X4_nextSign dX4_readCopy_11 rfl (by decide) (by decide) (by decide) (Nat.le_of_ble_eq_true rfl) 0 rfl (ci := 4) rfl rfl rfl (fun r u hr => ?_)
  rw [← ha1] at hr ⊢
  simp only [up_up, va_up_at]
  refine a_callS0 C (c_isDigit4 G r) kcX4_X4_isDigit dX4_readCopy_14 rfl (by decide) (by decide) (by decide) (Nat.le_of_ble_eq_true rfl) rfl (fun r2 u2 hr2 => ?_)
  skip
  have hiff : (48 ≤ r ∧ r ≤ 57) ↔ isDg (txt (R 4)) e a1 := by
    by_cases w : a1 < e
    · rw [if_pos w] at hr; rw [hr]; exact ⟨fun h => ⟨w, h⟩, fun h => h.2⟩
    · rw [if_neg w] at hr; rw [hr]; exact ⟨fun h => absurd h.1 (by decide), fun h => absurd h.1 w⟩
  by_cases hD : isDg (txt (R 4)) e a1
  · have hdp : 0 < dg := by rw [hdg, dgs_go hD]; omega
    rw [if_pos (hiff.mpr hD)] at hr2
    subst hr2
    have j59 : (7 < v ∨ 2 < dg) → ∀ N', N' = va_up N 0 (va_up (N 0) 10 (nI (a1 + dg))) → V X 0 0 59 [some (.ref (A 0)), some (.int (nI a1)), some (.int (nI (min 1000 v)))] [] (rW G A N' R Q ++ P) := by
      intro hor N' hN'
      have ho : ptF true p5 p6 p7 n q a1 dg v = .inl (2, a1) := by unfold ptF; rw [if_neg (by omega), if_pos hor]
      rw [ho] at hR
      refine r_aload_n C dX4_readCopy_59 rfl rfl ?_
      refine r_iconst (v := 2) C dX4_readCopy_60 (by decide) ?_
      refine r_iload_n C dX4_readCopy_61 rfl rfl ?_
      refine a_callVv C (c_refuse G A P N' R Q _ _) kcX4_X4_refuse dX4_readCopy_62 rfl (by decide) (by decide) (by decide) (Nat.le_of_ble_eq_true rfl) 0 rfl (ci := 4) rfl rfl rfl (fun u hu => ?_)
      refine r_goto (tgt := 97) C dX4_readCopy_65 (by decide) ?_
      exact hR _ _ _ _ (_, R) (by decide) (by decide) ⟨rfl, rfl, rfl, show (2 : Int32) ≠ 0 by decide⟩ dX4_readCopy_97
    have j68 : ¬ (7 < v ∨ 2 < dg) → V X 0 0 68 [some (.ref (A 0)), some (.int (nI a1)), some (.int (nI v))] [] (rW G A (va_up N 0 (va_up (N 0) 10 (nI (a1 + dg)))) R Q ++ P) := by
      intro hor
      have bv : vp_in (nI v) 8 := vp_in_nI (by omega) (by decide)
      have cv : (nI v).toNatClampNeg = v := nI_clamp (by omega)
      have hS2 : RcS (va_up (N 0) 10 (nI (a1 + dg))) R e n (a1 + dg, q.2) := ⟨⟨k9, rfl, k11, k1, k6, k2, k3⟩, ⟨he, hdl, hn2, hn7, hm3, hd8⟩, hrow, hbr⟩
      rcases hPool v (by omega) with ⟨w1, w2⟩ | ⟨B, NB, RB, QB, P', s', z', w1, wP, w5, s2, s7, w6, z3, w3, w22, wr⟩
      · have ho : ptF true p5 p6 p7 n q a1 dg v = .inl (3, a1) := by
          unfold ptF
          rw [if_neg (by omega), if_neg hor, if_pos (by rw [w2]; exact fun q => absurd q.symm (nI_ne0 (by omega) (by omega))), if_neg (fun q => by rw [w2] at q; exact absurd q.2.1 (by decide))]
        rw [ho] at hR
        refine r_aload_n C dX4_readCopy_68 rfl rfl ?_
        refine rg_X4_47 C dX4_readCopy_69 ?_
        refine r_iload_n C dX4_readCopy_72 rfl rfl ?_
        refine rl_5 C dX4_readCopy_73 (bv) ?_
        rw [cv, w1]
        refine r_ifnonnullN C dX4_readCopy_74 ?_
        refine r_aload_n C dX4_readCopy_77 rfl rfl ?_
        refine r_iconst (v := 3) C dX4_readCopy_78 (by decide) ?_
        refine r_iload_n C dX4_readCopy_79 rfl rfl ?_
        refine a_callVv C (c_refuse G A P _ R Q _ _) kcX4_X4_refuse dX4_readCopy_80 rfl (by decide) (by decide) (by decide) (Nat.le_of_ble_eq_true rfl) 0 rfl (ci := 4) rfl rfl rfl (fun u hu => ?_)
        refine r_goto (tgt := 97) C dX4_readCopy_83 (by decide) ?_
        exact hR _ _ _ _ (_, R) (by decide) (by decide) ⟨rfl, rfl, rfl, show (3 : Int32) ≠ 0 by decide⟩ dX4_readCopy_97
      · have hc6 : cl (p6 v) = z' := by rw [w6]; exact cl_nI (by omega)
        have ho : ptF true p5 p6 p7 n q a1 dg v = acF n q a1 (a1 + dg) s' z' (fun i => p7 (300 * v + i)) := by
          unfold ptF acF
          rw [if_neg (by omega), if_neg hor, w5, hc6]
          by_cases hsn : s' = n
          · rw [if_neg (show ¬ (nI s' ≠ nI n) from fun w => w (by rw [hsn])), if_neg (show ¬ (s' ≠ n) from fun w => w hsn)]
          · rw [if_pos (by rw [Ne, nI_eq (by omega) (by omega)]; exact hsn), if_pos hsn]
            have hp : (0 : Int32) < nI s' := pos_nI (by omega) (by omega)
            by_cases hb : 300 < q.2.1 + z'
            · rw [if_pos ⟨rfl, hp, hb⟩, if_pos hb]
            · rw [if_neg (fun w => hb w.2.2), if_neg hb]
        rw [ho] at hR
        refine r_aload_n C dX4_readCopy_68 rfl rfl ?_
        refine rg_X4_47 C dX4_readCopy_69 ?_
        refine r_iload_n C dX4_readCopy_72 rfl rfl ?_
        refine rl_5 C dX4_readCopy_73 (bv) ?_
        rw [cv, w1]
        refine r_ifnonnullR (tgt := 86) C dX4_readCopy_74 (by decide) ?_
        refine r_aload_n C dX4_readCopy_86 rfl rfl ?_
        refine r_aload_n C dX4_readCopy_87 rfl rfl ?_
        refine rg_X4_47 C dX4_readCopy_88 ?_
        refine r_iload_n C dX4_readCopy_91 rfl rfl ?_
        refine rl_5 C dX4_readCopy_92 (bv) ?_
        rw [cv, w1]
        refine r_iload_n C dX4_readCopy_93 rfl rfl ?_
        refine V.perm (List.Perm.append_left _ wP) ?_
        refine a_callVv C (c_addCopy G A P' (va_up N 0 (va_up (N 0) 10 (nI (a1 + dg)))) R Q (q := q) hS2 w3 s7 w22 z3 wr a1) kcX4_X4_addCopy dX4_readCopy_94 rfl (by decide) (by decide) (by decide) (Nat.le_of_ble_eq_true rfl) 0 rfl (ci := 4) rfl rfl rfl (fun u2 hu2 => ?_)
        refine V.perm (List.Perm.append_left _ wP.symm) ?_
        exact hR _ _ _ _ u2 (by decide) (by decide) hu2 dX4_readCopy_97
    have e1 : nI (a1 + dg) - nI a1 = nI dg := by rw [pk_sub (by omega)]; congr 1; omega
    refine r_if_ne (tgt := 30) C dX4_readCopy_17 (by decide) (fun c17 => ?_) (fun c17 => absurd c17 ((by decide)))
    refine r_aload_n C dX4_readCopy_30 rfl rfl ?_
    refine rg_X4_37 C dX4_readCopy_31 ?_
    refine r_istore_n C dX4_readCopy_34 rfl (by decide) ?_
    refine r_aload_n C dX4_readCopy_35 rfl rfl ?_
    refine a_callVi C (c_readNumber G A P (va_up N 0 (va_up (N 0) 10 (nI a1))) R Q (a := a1) (e := e) hBt rfl k9 he hsl.2) kcX4_X4_readNumber dX4_readCopy_36 rfl (by decide) (by decide) (by decide) (Nat.le_of_ble_eq_true rfl) 0 rfl (ci := 4) rfl rfl rfl (fun r3 u3 hr3 => ?_)
    rw [← hv] at hr3
    subst hr3
    simp only [up_up, va_up_at]
    rw [← hdg]
    refine r_istore_n C dX4_readCopy_39 rfl (by decide) ?_
    refine r_aload_n C dX4_readCopy_40 rfl rfl ?_
    refine rg_X4_37 C dX4_readCopy_41 ?_
    refine r_iload_n C dX4_readCopy_44 rfl rfl ?_
    refine r_isub C dX4_readCopy_45 ?_
    refine r_iconst (v := 2) C dX4_readCopy_46 (by decide) ?_
    show V X 0 0 47 _ [.int 2, .int (nI (a1 + dg) - nI a1)] _
    rw [e1, show (2 : Int32) = nI 2 from rfl]
    refine r_icmp_gt (tgt := 59) C dX4_readCopy_47 (by decide) (fun c47 => ?_) (fun c47 => ?_)
    · first | exact j59 (Or.inr ((nI_ltI (a := 2) (b := dg) (by decide) (by omega)).mp c47)) _ rfl | exact j59 (Or.inl (by rw [nI_ltI (by omega) (by decide)] at c56; omega)) _ rfl
    · refine r_iload_n C dX4_readCopy_50 rfl rfl ?_
      refine r_aload_n C dX4_readCopy_51 rfl rfl ?_
      refine rg_X4_47 C dX4_readCopy_52 ?_
      refine r_alen (t0 := 5) C 5 (fun _ => rfl) rfl dX4_readCopy_55 ?_
      show V X 0 0 56 _ [.int (nI 8), .int (nI (min 1000 v))] _
      refine r_icmp_lt (tgt := 68) C dX4_readCopy_56 (by decide) (fun c56 => ?_) (fun c56 => ?_)
      · rw [nI_ltI (by omega) (by decide)] at c56
        rw [nI_ltI (by decide) (by omega)] at c47
        have hmin : min 1000 v = v := by omega
        show V X 0 0 68 [some (.ref (A 0)), some (.int (nI a1)), some (.int (nI (min 1000 v)))] [] _
        rw [hmin]
        exact j68 (by omega)
      · first | exact j59 (Or.inr ((nI_ltI (a := 2) (b := dg) (by decide) (by omega)).mp c47)) _ rfl | exact j59 (Or.inl (by rw [nI_ltI (by omega) (by decide)] at c56; omega)) _ rfl
  · have hd0 : dg = 0 := by rw [hdg]; exact dgs_stop hD
    have ho : ptF true p5 p6 p7 n q a1 dg v = .inl (1, a1) := by unfold ptF; rw [if_pos hd0]
    rw [ho] at hR
    rw [if_neg (fun h => hD (hiff.mp h))] at hr2
    subst hr2
    refine r_if_ne (tgt := 30) C dX4_readCopy_17 (by decide) (fun c17 => absurd c17 ((fun q => q rfl))) (fun c17 => ?_)
    refine r_aload_n C dX4_readCopy_20 rfl rfl ?_
    refine r_iconst (v := 1) C dX4_readCopy_21 (by decide) ?_
    refine r_aload_n C dX4_readCopy_22 rfl rfl ?_
    refine rg_X4_37 C dX4_readCopy_23 ?_
    refine a_callVv C (c_refuse G A P _ R Q _ _) kcX4_X4_refuse dX4_readCopy_26 rfl (by decide) (by decide) (by decide) (Nat.le_of_ble_eq_true rfl) 0 rfl (ci := 4) rfl rfl rfl (fun u hu => ?_)
    exact hR _ _ _ _ (_, R) (by decide) (by decide) ⟨rfl, rfl, rfl, show (1 : Int32) ≠ 0 by decide⟩ dX4_readCopy_29
theorem c_readItem {e n : Nat} {q : Rst} {p5 p6 p7 : Nat → Int32} (hBt : BtOK (R 4)) (hS : RcS (N 0) R e n q) (ha : q.1 < e) (hPool : Pool G P (Q 5) p5 p6 p7) : CV G yX4_readItem cX4_readItem 2 3 0 0 [.ref (A 0), .int (txt (R 4) q.1)] (rW G A N R Q ++ P) (S := Nt × Rt) (fun u => u.2 4 = R 4 ∧ RcO (u.1 0) u.2 e n (stepF true (txt (R 4)) p5 p6 p7 e n q)) (fun u => rW G A u.1 u.2 Q ++ P) := by
  obtain ⟨⟨k9, k10, k11, k1, k6, k2, k3⟩, ⟨he, hae, hn2, hn7, hm3, hd8⟩, hrow, hbr⟩ := id hS
  refine CV.intro (by decide) (Nat.le_of_ble_eq_true rfl) (cat1 (xs := [txt (R 4) q.1])) fun X C hR => ?_
  obtain ⟨sg, hsg⟩ : ∃ sg, sg = txt (R 4) q.1 := ⟨_, rfl⟩
  have hst : stepF true (txt (R 4)) p5 p6 p7 e n q = if sg = 41 then clF n q
      else if sg = 117 ∨ sg = 109 ∨ sg = 116 then (if skipTo (txt (R 4)) e (q.1 + 1) < e ∧ txt (R 4) (skipTo (txt (R 4)) e (q.1 + 1)) = 40 then opF (skipTo (txt (R 4)) e (q.1 + 1)) q (cl sg) else .inl (1, skipTo (txt (R 4)) e (q.1 + 1)))
      else if sg = 112 then ptF true p5 p6 p7 n q (skipTo (txt (R 4)) e (q.1 + 1)) (dgs (txt (R 4)) e (skipTo (txt (R 4)) e (q.1 + 1))) (rvF (txt (R 4)) (skipTo (txt (R 4)) e (q.1 + 1)) (dgs (txt (R 4)) e (skipTo (txt (R 4)) e (q.1 + 1))))
      else if ¬ (q.1 < e ∧ 48 ≤ sg ∧ sg ≤ 57) then .inl (1, q.1)
      else nuF n q (skipTo (txt (R 4)) e (q.1 + dgs (txt (R 4)) e q.1)) (rvF (txt (R 4)) q.1 (dgs (txt (R 4)) e q.1)) (if skipTo (txt (R 4)) e (q.1 + dgs (txt (R 4)) e q.1) < e then txt (R 4) (skipTo (txt (R 4)) e (q.1 + dgs (txt (R 4)) e q.1)) else 0) := by rw [hsg]; rfl
  rw [hst] at hR
  rw [← hsg]
  have ndg : ∀ c : Int32, (57 < c ∨ c < 48) → ¬ (48 ≤ c ∧ c ≤ 57) := fun c hc q => by
    rcases hc with w | w
    · exact absurd (Int32.lt_of_lt_of_le w q.2) Int32.lt_irrefl
    · exact absurd (Int32.lt_of_lt_of_le w q.1) Int32.lt_irrefl
  refine r_iload_n C dX4_readItem_0 rfl rfl ?_
  refine a_callS0 C (c_isDigit4 G sg) kcX4_X4_isDigit dX4_readItem_1 rfl (by decide) (by decide) (by decide) (Nat.le_of_ble_eq_true rfl) rfl (fun r u hr => ?_)
  skip
  by_cases hD : 48 ≤ sg ∧ sg ≤ 57
  · rw [if_pos hD] at hr
    subst hr
    have hne : ∀ c : Int32, (57 < c ∨ c < 48) → ¬ sg = c := fun c hc q => ndg c hc (q ▸ hD)
    rw [if_neg (hne _ (by decide)), if_neg (fun w => w.elim (hne _ (by decide)) (fun w => w.elim (hne _ (by decide)) (hne _ (by decide)))), if_neg (hne _ (by decide)), if_neg (fun w => w ⟨ha, hD⟩)] at hR
    refine r_if_eq (tgt := 14) C dX4_readItem_4 (by decide) (fun c4 => absurd c4 ((by decide))) (fun c4 => ?_)
    refine r_aload_n C dX4_readItem_7 rfl rfl ?_
    refine a_callVv C (c_readNumbered G A P N R Q hBt hS ha) kcX4_X4_readNumbered dX4_readItem_8 rfl (by decide) (by decide) (by decide) (Nat.le_of_ble_eq_true rfl) 0 rfl (ci := 4) rfl rfl rfl (fun u2 hu2 => ?_)
    refine r_goto (tgt := 99) C dX4_readItem_11 (by decide) ?_
    exact hR _ _ _ _ u2 (by decide) (by decide) hu2 dX4_readItem_99
  · rw [if_neg hD] at hr
    subst hr
    by_cases h112 : sg = 112
    · subst h112
      rw [if_neg (by decide), if_neg (by decide), if_pos rfl] at hR
      refine r_if_eq (tgt := 14) C dX4_readItem_4 (by decide) (fun c4 => ?_) (fun c4 => absurd c4 ((fun q => q rfl)))
      refine r_iload_n C dX4_readItem_14 rfl rfl ?_
      refine r_bipush (v := 112) C dX4_readItem_15 (by decide) ?_
      refine r_icmp_ne (tgt := 27) C dX4_readItem_17 (by decide) (fun c17 => absurd c17 ((fun q => q rfl))) (fun c17 => ?_)
      refine r_aload_n C dX4_readItem_20 rfl rfl ?_
      refine a_callVv C (c_readCopy G A P N R Q hBt hS ha hPool) kcX4_X4_readCopy dX4_readItem_21 rfl (by decide) (by decide) (by decide) (Nat.le_of_ble_eq_true rfl) 0 rfl (ci := 4) rfl rfl rfl (fun u2 hu2 => ?_)
      refine r_goto (tgt := 99) C dX4_readItem_24 (by decide) ?_
      exact hR _ _ _ _ u2 (by decide) (by decide) hu2 dX4_readItem_99
    · by_cases h117 : sg = 117
      · subst h117
        rw [if_neg (by decide), if_pos (Or.inl rfl), show cl (117 : Int32) = 117 from rfl] at hR
        refine r_if_eq (tgt := 14) C dX4_readItem_4 (by decide) (fun c4 => ?_) (fun c4 => absurd c4 ((fun q => q rfl)))
        refine r_iload_n C dX4_readItem_14 rfl rfl ?_
        refine r_bipush (v := 112) C dX4_readItem_15 (by decide) ?_
        refine r_icmp_ne (tgt := 27) C dX4_readItem_17 (by decide) (fun c17 => ?_) (fun c17 => absurd c17 ((by decide)))
        refine r_iload_n C dX4_readItem_27 rfl rfl ?_
        refine r_bipush (v := 117) C dX4_readItem_28 (by decide) ?_
        refine r_icmp_ne (tgt := 41) C dX4_readItem_30 (by decide) (fun c30 => absurd c30 ((fun q => q rfl))) (fun c30 => ?_)
        refine r_aload_n C dX4_readItem_33 rfl rfl ?_
        refine r_iconst (v := 0) C dX4_readItem_34 (by decide) ?_
        refine a_callVv C (c_readLettered G A P N R Q (kv := 117) hBt hS (Or.inr (Or.inr (Or.inr rfl))) ha) kcX4_X4_readLettered dX4_readItem_35 rfl (by decide) (by decide) (by decide) (Nat.le_of_ble_eq_true rfl) 0 rfl (ci := 4) rfl rfl rfl (fun u2 hu2 => ?_)
        refine r_goto (tgt := 99) C dX4_readItem_38 (by decide) ?_
        exact hR _ _ _ _ u2 (by decide) (by decide) hu2 dX4_readItem_99
      · by_cases h109 : sg = 109
        · subst h109
          rw [if_neg (by decide), if_pos (Or.inr (Or.inl rfl)), show cl (109 : Int32) = 109 from rfl] at hR
          refine r_if_eq (tgt := 14) C dX4_readItem_4 (by decide) (fun c4 => ?_) (fun c4 => absurd c4 ((fun q => q rfl)))
          refine r_iload_n C dX4_readItem_14 rfl rfl ?_
          refine r_bipush (v := 112) C dX4_readItem_15 (by decide) ?_
          refine r_icmp_ne (tgt := 27) C dX4_readItem_17 (by decide) (fun c17 => ?_) (fun c17 => absurd c17 ((by decide)))
          refine r_iload_n C dX4_readItem_27 rfl rfl ?_
          refine r_bipush (v := 117) C dX4_readItem_28 (by decide) ?_
          refine r_icmp_ne (tgt := 41) C dX4_readItem_30 (by decide) (fun c30 => ?_) (fun c30 => absurd c30 ((by decide)))
          refine r_iload_n C dX4_readItem_41 rfl rfl ?_
          refine r_bipush (v := 109) C dX4_readItem_42 (by decide) ?_
          refine r_icmp_ne (tgt := 55) C dX4_readItem_44 (by decide) (fun c44 => absurd c44 ((fun q => q rfl))) (fun c44 => ?_)
          refine r_aload_n C dX4_readItem_47 rfl rfl ?_
          refine r_iconst (v := -1) C dX4_readItem_48 (by decide) ?_
          refine a_callVv C (c_readLettered G A P N R Q (kv := 109) hBt hS (Or.inr (Or.inl rfl)) ha) kcX4_X4_readLettered dX4_readItem_49 rfl (by decide) (by decide) (by decide) (Nat.le_of_ble_eq_true rfl) 0 rfl (ci := 4) rfl rfl rfl (fun u2 hu2 => ?_)
          refine r_goto (tgt := 99) C dX4_readItem_52 (by decide) ?_
          exact hR _ _ _ _ u2 (by decide) (by decide) hu2 dX4_readItem_99
        · by_cases h116 : sg = 116
          · subst h116
            rw [if_neg (by decide), if_pos (Or.inr (Or.inr rfl)), show cl (116 : Int32) = 116 from rfl] at hR
            refine r_if_eq (tgt := 14) C dX4_readItem_4 (by decide) (fun c4 => ?_) (fun c4 => absurd c4 ((fun q => q rfl)))
            refine r_iload_n C dX4_readItem_14 rfl rfl ?_
            refine r_bipush (v := 112) C dX4_readItem_15 (by decide) ?_
            refine r_icmp_ne (tgt := 27) C dX4_readItem_17 (by decide) (fun c17 => ?_) (fun c17 => absurd c17 ((by decide)))
            refine r_iload_n C dX4_readItem_27 rfl rfl ?_
            refine r_bipush (v := 117) C dX4_readItem_28 (by decide) ?_
            refine r_icmp_ne (tgt := 41) C dX4_readItem_30 (by decide) (fun c30 => ?_) (fun c30 => absurd c30 ((by decide)))
            refine r_iload_n C dX4_readItem_41 rfl rfl ?_
            refine r_bipush (v := 109) C dX4_readItem_42 (by decide) ?_
            refine r_icmp_ne (tgt := 55) C dX4_readItem_44 (by decide) (fun c44 => ?_) (fun c44 => absurd c44 ((by decide)))
            refine r_iload_n C dX4_readItem_55 rfl rfl ?_
            refine r_bipush (v := 116) C dX4_readItem_56 (by decide) ?_
            refine r_icmp_ne (tgt := 70) C dX4_readItem_58 (by decide) (fun c58 => absurd c58 ((fun q => q rfl))) (fun c58 => ?_)
            refine r_aload_n C dX4_readItem_61 rfl rfl ?_
            refine r_bipush (v := -2) C dX4_readItem_62 (by decide) ?_
            refine a_callVv C (c_readLettered G A P N R Q (kv := 116) hBt hS (Or.inr (Or.inr (Or.inl rfl))) ha) kcX4_X4_readLettered dX4_readItem_64 rfl (by decide) (by decide) (by decide) (Nat.le_of_ble_eq_true rfl) 0 rfl (ci := 4) rfl rfl rfl (fun u2 hu2 => ?_)
            refine r_goto (tgt := 99) C dX4_readItem_67 (by decide) ?_
            exact hR _ _ _ _ u2 (by decide) (by decide) hu2 dX4_readItem_99
          · have j90 : (∀ N' R', (N' = va_up N 0 (va_up (va_up (N 0) 2 1) 3 (nI q.1)) ∧ R' = R) → V X 0 0 99 (ent [.ref (A 0), .int sg] 2) [] (rW G A N' R' Q ++ P)) → V X 0 0 90 (ent [.ref (A 0), .int sg] 2) [] (rW G A N R Q ++ P) := by
              intro hk
              refine r_aload_n C dX4_readItem_90 rfl rfl ?_
              refine r_iconst (v := 1) C dX4_readItem_91 (by decide) ?_
              refine r_aload_n C dX4_readItem_92 rfl rfl ?_
              refine rg_X4_37 C dX4_readItem_93 ?_
              rw [k10]
              refine a_callVv C (c_refuse G A P N R Q _ _) kcX4_X4_refuse dX4_readItem_96 rfl (by decide) (by decide) (by decide) (Nat.le_of_ble_eq_true rfl) 0 rfl (ci := 4) rfl rfl rfl (fun u hu => ?_)
              exact hk _ _ ⟨rfl, rfl⟩
            by_cases h41 : sg = 41
            · rw [if_pos h41] at hR
              by_cases hd0 : q.2.2.1 = 0
              · have ho : clF n q = .inl (1, q.1) := if_pos hd0
                rw [ho] at hR
                refine (show V X 0 0 4 (ent [.ref (A 0), .int sg] 2) [.int 0] (rW G A N R Q ++ P) from ?_)
                refine r_if_eq (tgt := 14) C dX4_readItem_4 (by decide) (fun c4 => ?_) (fun c4 => absurd c4 ((fun q => q rfl)))
                refine r_iload_n C dX4_readItem_14 rfl rfl ?_
                refine r_bipush (v := 112) C dX4_readItem_15 (by decide) ?_
                refine r_icmp_ne (tgt := 27) C dX4_readItem_17 (by decide) (fun c17 => ?_) (fun c17 => absurd c17 (h112))
                refine r_iload_n C dX4_readItem_27 rfl rfl ?_
                refine r_bipush (v := 117) C dX4_readItem_28 (by decide) ?_
                refine r_icmp_ne (tgt := 41) C dX4_readItem_30 (by decide) (fun c30 => ?_) (fun c30 => absurd c30 (h117))
                refine r_iload_n C dX4_readItem_41 rfl rfl ?_
                refine r_bipush (v := 109) C dX4_readItem_42 (by decide) ?_
                refine r_icmp_ne (tgt := 55) C dX4_readItem_44 (by decide) (fun c44 => ?_) (fun c44 => absurd c44 (h109))
                refine r_iload_n C dX4_readItem_55 rfl rfl ?_
                refine r_bipush (v := 116) C dX4_readItem_56 (by decide) ?_
                refine r_icmp_ne (tgt := 70) C dX4_readItem_58 (by decide) (fun c58 => ?_) (fun c58 => absurd c58 (h116))
                refine r_iload_n C dX4_readItem_70 rfl rfl ?_
                refine r_bipush (v := 41) C dX4_readItem_71 (by decide) ?_
                refine r_icmp_ne (tgt := 90) C dX4_readItem_73 (by decide) (fun c73 => absurd c73 ((fun q => q h41))) (fun c73 => ?_)
                refine r_aload_n C dX4_readItem_76 rfl rfl ?_
                refine rg_X4_31 C dX4_readItem_77 ?_
                rw [k6, hd0]
                refine r_if_le (tgt := 90) C dX4_readItem_80 (by decide) (fun c80 => ?_) (fun c80 => absurd c80 ((fun q => q (by decide))))
                refine j90 (fun N' R' hh => ?_)
                rw [hh.1, hh.2]
                exact hR _ _ _ _ (_, R) (by decide) (by decide) ⟨rfl, rfl, rfl, show (1 : Int32) ≠ 0 by decide⟩ dX4_readItem_99
              · refine r_if_eq (tgt := 14) C dX4_readItem_4 (by decide) (fun c4 => ?_) (fun c4 => absurd c4 ((fun q => q rfl)))
                refine r_iload_n C dX4_readItem_14 rfl rfl ?_
                refine r_bipush (v := 112) C dX4_readItem_15 (by decide) ?_
                refine r_icmp_ne (tgt := 27) C dX4_readItem_17 (by decide) (fun c17 => ?_) (fun c17 => absurd c17 (h112))
                refine r_iload_n C dX4_readItem_27 rfl rfl ?_
                refine r_bipush (v := 117) C dX4_readItem_28 (by decide) ?_
                refine r_icmp_ne (tgt := 41) C dX4_readItem_30 (by decide) (fun c30 => ?_) (fun c30 => absurd c30 (h117))
                refine r_iload_n C dX4_readItem_41 rfl rfl ?_
                refine r_bipush (v := 109) C dX4_readItem_42 (by decide) ?_
                refine r_icmp_ne (tgt := 55) C dX4_readItem_44 (by decide) (fun c44 => ?_) (fun c44 => absurd c44 (h109))
                refine r_iload_n C dX4_readItem_55 rfl rfl ?_
                refine r_bipush (v := 116) C dX4_readItem_56 (by decide) ?_
                refine r_icmp_ne (tgt := 70) C dX4_readItem_58 (by decide) (fun c58 => ?_) (fun c58 => absurd c58 (h116))
                refine r_iload_n C dX4_readItem_70 rfl rfl ?_
                refine r_bipush (v := 41) C dX4_readItem_71 (by decide) ?_
                refine r_icmp_ne (tgt := 90) C dX4_readItem_73 (by decide) (fun c73 => absurd c73 ((fun q => q h41))) (fun c73 => ?_)
                refine r_aload_n C dX4_readItem_76 rfl rfl ?_
                refine rg_X4_31 C dX4_readItem_77 ?_
                rw [k6]
                refine r_if_le (tgt := 90) C dX4_readItem_80 (by decide) (fun c80 => absurd c80 ((by rw [show (0 : Int32) = nI 0 from rfl, nI_leI (by omega) (by decide)]; omega))) (fun c80 => ?_)
                refine r_aload_n C dX4_readItem_83 rfl rfl ?_
                refine a_callVv C (c_closeBracket G A P N R Q hS (by omega) ha) kcX4_X4_closeBracket dX4_readItem_84 rfl (by decide) (by decide) (by decide) (Nat.le_of_ble_eq_true rfl) 0 rfl (ci := 4) rfl rfl rfl (fun u2 hu2 => ?_)
                refine r_goto (tgt := 99) C dX4_readItem_87 (by decide) ?_
                exact hR _ _ _ _ u2 (by decide) (by decide) hu2 dX4_readItem_99
            · rw [if_neg h41, if_neg (fun w => w.elim h117 (fun w => w.elim h109 h116)), if_neg h112, if_pos (fun w => hD w.2)] at hR
              refine r_if_eq (tgt := 14) C dX4_readItem_4 (by decide) (fun c4 => ?_) (fun c4 => absurd c4 ((fun q => q rfl)))
              refine r_iload_n C dX4_readItem_14 rfl rfl ?_
              refine r_bipush (v := 112) C dX4_readItem_15 (by decide) ?_
              refine r_icmp_ne (tgt := 27) C dX4_readItem_17 (by decide) (fun c17 => ?_) (fun c17 => absurd c17 (h112))
              refine r_iload_n C dX4_readItem_27 rfl rfl ?_
              refine r_bipush (v := 117) C dX4_readItem_28 (by decide) ?_
              refine r_icmp_ne (tgt := 41) C dX4_readItem_30 (by decide) (fun c30 => ?_) (fun c30 => absurd c30 (h117))
              refine r_iload_n C dX4_readItem_41 rfl rfl ?_
              refine r_bipush (v := 109) C dX4_readItem_42 (by decide) ?_
              refine r_icmp_ne (tgt := 55) C dX4_readItem_44 (by decide) (fun c44 => ?_) (fun c44 => absurd c44 (h109))
              refine r_iload_n C dX4_readItem_55 rfl rfl ?_
              refine r_bipush (v := 116) C dX4_readItem_56 (by decide) ?_
              refine r_icmp_ne (tgt := 70) C dX4_readItem_58 (by decide) (fun c58 => ?_) (fun c58 => absurd c58 (h116))
              refine r_iload_n C dX4_readItem_70 rfl rfl ?_
              refine r_bipush (v := 41) C dX4_readItem_71 (by decide) ?_
              refine r_icmp_ne (tgt := 90) C dX4_readItem_73 (by decide) (fun c73 => ?_) (fun c73 => absurd c73 (h41))
              refine j90 (fun N' R' hh => ?_)
              rw [hh.1, hh.2]
              exact hR _ _ _ _ (_, R) (by decide) (by decide) ⟨rfl, rfl, rfl, show (1 : Int32) ≠ 0 by decide⟩ dX4_readItem_99
theorem c_readItems {e n : Nat} {q0 : Rst} {p5 p6 p7 : Nat → Int32} (hBt : BtOK (R 4)) (hS0 : RcS (N 0) R e n q0) (h0 : q0.1 = 0) (hPool : Pool G P (Q 5) p5 p6 p7) : CV G yX4_readItems cX4_readItems 3 4 0 0 [.ref (A 0)] (rW G A N R Q ++ P) (S := Nt × Rt) (fun u => u.2 4 = R 4 ∧ RcO (u.1 0) u.2 e n (runF true (txt (R 4)) p5 p6 p7 e n (e + 1) (skipTo (txt (R 4)) e 0, q0.2))) (fun u => rW G A u.1 u.2 Q ++ P) := by
  refine CV.intro (by decide) (Nat.le_of_ble_eq_true rfl) (cat1 (xs := [])) fun X C hR => ?_
  obtain ⟨o, ho⟩ : ∃ o, o = runF true (txt (R 4)) p5 p6 p7 e n (e + 1) (skipTo (txt (R 4)) e 0, q0.2) := ⟨_, rfl⟩
  rw [← ho] at hR
  have fin : ∀ (N' : Nt) (R' : Rt) (o1 : Int32) (o2 : Option Value), R' 4 = R 4 → RcO (N' 0) R' e n o → N' 0 2 ≠ 0 → V X 0 0 2 [some (.ref (A 0)), some (.int o1), o2] [] (rW G A N' R' Q ++ P) := by
    intro N' R' o1 o2 h1 h2 h3
    refine r_iload_n C dX4_readItems_2 rfl rfl ?_
    refine r_aload_n C dX4_readItems_3 rfl rfl ?_
    refine rg_X4_34 C dX4_readItems_4 ?_
    refine r_icmp_gt (tgt := 55) C dX4_readItems_7 (by decide) (fun c7 => ?_) (fun c7 => ?_)
    · exact hR _ _ _ _ (N', R') (by decide) (by decide) ⟨h1, h2⟩ dX4_readItems_55
    · refine r_aload_n C dX4_readItems_10 rfl rfl ?_
      refine rg_X4_19 C dX4_readItems_11 ?_
      refine r_if_ne (tgt := 55) C dX4_readItems_14 (by decide) (fun c14 => ?_) (fun c14 => absurd c14 ((fun q => h3 q)))
      exact hR _ _ _ _ (N', R') (by decide) (by decide) ⟨h1, h2⟩ dX4_readItems_55
  have key : ∀ (F it : Nat) (q : Rst) (N' : Nt) (R' : Rt) (o2 : Option Value), R' 4 = R 4 → RcS (N' 0) R' e n q → e + 1 ≤ F + q.1 → it ≤ q.1 → runF true (txt (R 4)) p5 p6 p7 e n F (skipTo (txt (R 4)) e q.1, q.2) = o → V X 0 0 2 [some (.ref (A 0)), some (.int (nI it)), o2] [] (rW G A N' R' Q ++ P) := by
    intro F
    induction F with
    | zero =>
      intro it q N' R' o2 h4 hS hF hit hrun
      have := hS.2.1.2.1
      omega
    | succ F ih =>
      intro it q N' R' o2 h4 hS hF hit hrun
      obtain ⟨⟨k9, k10, k11, k1, k6, k2, k3⟩, ⟨he, hae, hn2, hn7, hm3, hd8⟩, hrow, hbr⟩ := id hS
      have hBt' : BtOK (R' 4) := by rw [h4]; exact hBt
      have hsl := skipTo_le (t := txt (R 4)) (e := e) (a := q.1) hae
      obtain ⟨sk, hsk⟩ : ∃ sk, sk = skipTo (txt (R 4)) e q.1 := ⟨_, rfl⟩
      rw [← hsk] at hrun hsl
      have hS2 : RcS (va_up (N' 0) 10 (nI sk)) R' e n (sk, q.2) := ⟨⟨k9, rfl, k11, k1, k6, k2, k3⟩, ⟨he, hsl.2, hn2, hn7, hm3, hd8⟩, hrow, hbr⟩
      refine r_iload_n C dX4_readItems_2 rfl rfl ?_
      refine r_aload_n C dX4_readItems_3 rfl rfl ?_
      refine rg_X4_34 C dX4_readItems_4 ?_
      rw [k9]
      refine r_icmp_gt (tgt := 55) C dX4_readItems_7 (by decide) (fun c7 => absurd c7 ((by rw [nI_ltI (by omega) (by omega)]; omega))) (fun c7 => ?_)
      refine r_aload_n C dX4_readItems_10 rfl rfl ?_
      refine rg_X4_19 C dX4_readItems_11 ?_
      rw [k2]
      refine r_if_ne (tgt := 55) C dX4_readItems_14 (by decide) (fun c14 => absurd c14 ((fun q => q rfl))) (fun c14 => ?_)
      refine r_aload_n C dX4_readItems_17 rfl rfl ?_
      refine a_callVi C (c_nextSign G A P N' R' Q (a := q.1) (e := e) hBt' k10 k9 he hae) kcX4_X4_nextSign dX4_readItems_18 rfl (by decide) (by decide) (by decide) (Nat.le_of_ble_eq_true rfl) 0 rfl (ci := 4) rfl rfl rfl (fun r u hr => ?_)
      rw [h4, ← hsk] at hr ⊢
      refine r_istore_n C dX4_readItems_21 rfl (by decide) ?_
      skip
      by_cases hlt : sk < e
      · rw [if_pos hlt] at hr
        have hrn : ¬ r = -1 := by
          rw [hr]
          obtain ⟨w, hw, e1⟩ := pk_andE (R 4 sk) (m := 255) 8 (by decide +kernel)
          show ¬ R 4 sk &&& 255 = -1
          rw [e1]
          intro h
          exact absurd (h ▸ (show (-1 : Int32) < 0 by decide)) (nI_pos (by omega))
        have hpc : 0 + 0 = 0 := rfl
        refine r_iload_n C dX4_readItems_22 rfl rfl ?_
        refine r_iconst (v := -1) C dX4_readItems_23 (by decide) ?_
        refine r_icmp_ne (tgt := 44) C dX4_readItems_24 (by decide) (fun c24 => ?_) (fun c24 => absurd c24 (hrn))
        refine r_aload_n C dX4_readItems_44 rfl rfl ?_
        refine r_iload_n C dX4_readItems_45 rfl rfl ?_
        rw [hr, ← h4]
        refine a_callVv C (c_readItem G A P (va_up N' 0 (va_up (N' 0) 10 (nI sk))) R' Q (q := (sk, q.2)) hBt' hS2 hlt hPool) kcX4_X4_readItem dX4_readItems_46 rfl (by decide) (by decide) (by decide) (Nat.le_of_ble_eq_true rfl) 0 rfl (ci := 4) rfl rfl rfl (fun u2 hu2 => ?_)
        obtain ⟨hu4, hu2⟩ := hu2
        rw [h4] at hu2 hu4 ⊢
        refine r_iinc (v := _ + 1) C dX4_readItems_49 rfl (by rfl) (by decide) ?_
        refine r_goto (tgt := 2) C dX4_readItems_52 (by decide) ?_
        skip
        show V X 0 0 2 [_, some (.int (nI it + 1)), _] _ _
        rw [nI_1]
        cases hst : stepF true (txt (R 4)) p5 p6 p7 e n (sk, q.2) with
        | inl f =>
          rw [hst] at hu2
          rw [runF_bad hlt hst] at hrun
          rw [← hrun] at fin
          refine fin _ _ _ _ hu4 hu2 ?_
          rw [hu2.1]
          exact hu2.2.2
        | inr q' =>
          rw [hst] at hu2
          rw [runF_go hlt hst] at hrun
          have hl := stepF_lt hlt hst
          dsimp only at hl
          exact ih (it + 1) q' u2.1 u2.2 _ hu4 hu2 (by omega) (by omega) hrun
      · rw [if_neg hlt] at hr
        subst hr
        rw [runF_stop hlt] at hrun
        have hse : sk = e := by omega
        by_cases hd0 : 0 < q.2.2.1
        · rw [if_pos (show 0 < (sk, q.2).2.2.1 from hd0)] at hrun
          rw [← hrun] at hR
          refine r_iload_n C dX4_readItems_22 rfl rfl ?_
          refine r_iconst (v := -1) C dX4_readItems_23 (by decide) ?_
          refine r_icmp_ne (tgt := 44) C dX4_readItems_24 (by decide) (fun c24 => absurd c24 ((fun q => q rfl))) (fun c24 => ?_)
          refine r_aload_n C dX4_readItems_27 rfl rfl ?_
          refine rg_X4_31 C dX4_readItems_28 ?_
          show V X 0 0 31 _ [.int (N' 0 6)] _
          rw [k6]
          refine r_if_le (tgt := 43) C dX4_readItems_31 (by decide) (fun c31 => absurd c31 ((by rw [show (0 : Int32) = nI 0 from rfl, nI_leI (by omega) (by decide)]; omega))) (fun c31 => ?_)
          refine r_aload_n C dX4_readItems_34 rfl rfl ?_
          refine r_iconst (v := 1) C dX4_readItems_35 (by decide) ?_
          refine r_aload_n C dX4_readItems_36 rfl rfl ?_
          refine rg_X4_37 C dX4_readItems_37 ?_
          refine a_callVv C (c_refuse G A P _ R' Q _ _) kcX4_X4_refuse dX4_readItems_40 rfl (by decide) (by decide) (by decide) (Nat.le_of_ble_eq_true rfl) 0 rfl (ci := 4) rfl rfl rfl (fun u hu => ?_)
          exact hR _ _ _ _ (_, R') (by decide) (by decide) ⟨h4, rfl, by show nI sk = nI e; rw [hse], show (1 : Int32) ≠ 0 by decide⟩ dX4_readItems_43
        · rw [if_neg (show ¬ 0 < (sk, q.2).2.2.1 from hd0)] at hrun
          rw [← hrun] at hR
          refine r_iload_n C dX4_readItems_22 rfl rfl ?_
          refine r_iconst (v := -1) C dX4_readItems_23 (by decide) ?_
          refine r_icmp_ne (tgt := 44) C dX4_readItems_24 (by decide) (fun c24 => absurd c24 ((fun q => q rfl))) (fun c24 => ?_)
          refine r_aload_n C dX4_readItems_27 rfl rfl ?_
          refine rg_X4_31 C dX4_readItems_28 ?_
          show V X 0 0 31 _ [.int (N' 0 6)] _
          rw [k6]
          refine r_if_le (tgt := 43) C dX4_readItems_31 (by decide) (fun c31 => ?_) (fun c31 => absurd c31 ((fun q => q (by rw [show (0 : Int32) = nI 0 from rfl, nI_leI (by omega) (by decide)]; omega))))
          exact hR _ _ _ _ (_, R') (by decide) (by decide) ⟨h4, hS2⟩ dX4_readItems_43
  refine r_iconst (v := 0) C dX4_readItems_0 (by decide) ?_
  refine r_istore_n C dX4_readItems_1 rfl (by decide) ?_
  exact key (e + 1) 0 q0 N R none rfl hS0 (by omega) (Nat.zero_le _) (by rw [h0]; exact ho.symm)
theorem c_read {e n : Nat} {p5 p6 p7 : Nat → Int32} (hBt : BtOK (R 4)) (he : e ≤ 800) (hn2 : 2 ≤ n) (hn7 : n ≤ 7) (hPool : Pool G P (Q 5) p5 p6 p7) : CV G yX4_read cX4_read 3 5 0 0 [.ref (A 0), .int (nI e), .int (nI n)] (rW G A N R Q ++ P) (S := Nt × Rt) (fun u => u.2 4 = R 4 ∧ RcO (u.1 0) u.2 e n (readF true (txt (R 4)) p5 p6 p7 e n)) (fun u => rW G A u.1 u.2 Q ++ P) := by
  refine CV.intro (by decide) (Nat.le_of_ble_eq_true rfl) (cat1 (xs := [nI e, nI n])) fun X C hR => ?_
  refine r_aload_n C dX4_read_0 rfl rfl ?_
  refine r_iload_n C dX4_read_1 rfl rfl ?_
  refine r_aload_n C dX4_read_2 rfl rfl ?_
  refine rg_X4_43 C dX4_read_3 ?_
  refine r_alen (t0 := 1) C 4 (fun _ => rfl) rfl dX4_read_6 ?_
  refine r_mmin C km_X4_51 (by decide) (by decide) (by decide) (Nat.le_of_ble_eq_true rfl) dX4_read_7 ?_
  rw [if_neg (nI_nlt (show e ≤ 800 from he) (by decide))]
  refine rp_X4_34 C dX4_read_10 ?_
  refine r_aload_n C dX4_read_13 rfl rfl ?_
  refine r_iload_n C dX4_read_14 rfl rfl ?_
  refine rp_X4_40 C dX4_read_15 ?_
  refine r_aload_n C dX4_read_18 rfl rfl ?_
  refine r_iconst (v := 0) C dX4_read_19 (by decide) ?_
  refine rp_X4_37 C dX4_read_20 ?_
  refine r_aload_n C dX4_read_23 rfl rfl ?_
  refine r_iconst (v := 0) C dX4_read_24 (by decide) ?_
  refine rp_X4_31 C dX4_read_25 ?_
  refine r_aload_n C dX4_read_28 rfl rfl ?_
  refine r_iconst (v := 0) C dX4_read_29 (by decide) ?_
  refine rp_X4_15 C dX4_read_30 ?_
  refine r_aload_n C dX4_read_33 rfl rfl ?_
  refine r_iconst (v := 0) C dX4_read_34 (by decide) ?_
  refine rp_X4_19 C dX4_read_35 ?_
  refine r_aload_n C dX4_read_38 rfl rfl ?_
  refine r_iconst (v := -1) C dX4_read_39 (by decide) ?_
  refine rp_X4_22 C dX4_read_40 ?_
  refine r_aload_n C dX4_read_43 rfl rfl ?_
  simp only [up_up, va_up_at]
  refine a_callVv C (c_readItems G A P _ R Q (e := e) (n := n) (q0 := (0, 0, 0, fun _ => 0, fun _ => 0, fun _ => 0)) hBt ⟨⟨rfl, rfl, rfl, rfl, rfl, rfl, rfl⟩, ⟨he, Nat.zero_le _, hn2, hn7, Nat.zero_le _, Nat.zero_le _⟩, fun i hi => absurd hi (Nat.not_lt_zero _), fun i hi => absurd hi (Nat.not_lt_zero _)⟩ rfl hPool) kcX4_X4_readItems dX4_read_44 rfl (by decide) (by decide) (by decide) (Nat.le_of_ble_eq_true rfl) 0 rfl (ci := 4) rfl rfl rfl (fun u hu => ?_)
  exact hR _ _ _ _ u (by decide) (by decide) hu dX4_read_47
end RD4
