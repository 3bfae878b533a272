/-! the class: Form: the rest, weakly -/
section FW2
variable (G : Gx) (Z : Nat) (A : Nat → Nat) (P : va_W) (N : Nt) (R : Rt) (Q : Qt)
theorem w_clear {s : Nat} (h2 : 2 ≤ s) (h7 : s ≤ 7) : CV G yX1_clear cX1_clear 3 1 0 0 [.ref (A 0), .int (nI s)] (fW G Z A N R Q ++ P) (S := Nt) (fun N' => FmB (N' 0) Z s 0 0) (fun N' => fW G Z A N' R Q ++ P) := by
  refine CV.intro (by decide) (Nat.le_of_ble_eq_true rfl) (cat1 (xs := [nI s])) fun X C hR => ?_
  have key : ∀ (f p : Nat) (N' : Nt), p + f = s + 1 → 1 ≤ p → N' 0 4 = nI s → N' 0 2 = 0 → N' 0 3 = 0 → V X 0 0 32 [some (.ref (A 0)), some (.int (nI s)), some (.int (nI p))] [] (fW G Z A N' R Q ++ P) := by
    intro f
    induction f with
    | zero =>
      intro p N' hp h1 e4 e2 e3
      refine r_iload_n C dX1_clear_32 rfl rfl ?_
      refine r_aload_n C dX1_clear_33 rfl rfl ?_
      refine fg_X1_21 C dX1_clear_34 ?_
      rw [e4]
      refine r_icmp_gt (tgt := 81) C dX1_clear_37 (by decide) (fun c37 => ?_) (fun c37 => absurd c37 ((fun q => q (nI_lt (by omega) (by omega)))))
      exact hR _ _ _ _ N' (by decide) (by decide) ⟨e4, h2, h7, e2, e3, Nat.le_refl _, Nat.zero_le _⟩ dX1_clear_81
    | succ f ih =>
      intro p N' hp h1 e4 e2 e3
      refine r_iload_n C dX1_clear_32 rfl rfl ?_
      refine r_aload_n C dX1_clear_33 rfl rfl ?_
      refine fg_X1_21 C dX1_clear_34 ?_
      rw [e4]
      refine r_icmp_gt (tgt := 81) C dX1_clear_37 (by decide) (fun c37 => absurd c37 ((by rw [nI_ltI (by omega) (by omega)]; omega))) (fun c37 => ?_)
      refine r_aload_n C dX1_clear_40 rfl rfl ?_
      refine r_dup C dX1_clear_41 rfl ?_
      refine fg_X1_27 C dX1_clear_42 ?_
      refine r_iload_n C dX1_clear_45 rfl rfl ?_
      refine r_iload_n C dX1_clear_46 rfl rfl ?_
      refine a_callS0 C (w_packed G _ _) kcX1_X1_packed dX1_clear_47 rfl (by decide) (by decide) (by decide) (Nat.le_of_ble_eq_true rfl) rfl (fun a u hu => ?_)
      refine r_ior C dX1_clear_50 ?_
      refine fp_X1_27 C dX1_clear_51 ?_
      refine r_aload_n C dX1_clear_54 rfl rfl ?_
      refine r_dup C dX1_clear_55 rfl ?_
      refine fg_X1_24 C dX1_clear_56 ?_
      refine r_iload_n C dX1_clear_59 rfl rfl ?_
      refine r_aload_n C dX1_clear_60 rfl rfl ?_
      refine fg_X1_21 C dX1_clear_61 ?_
      refine r_iconst (v := 1) C dX1_clear_64 (by decide) ?_
      refine r_iadd C dX1_clear_65 ?_
      refine r_iload_n C dX1_clear_66 rfl rfl ?_
      refine r_isub C dX1_clear_67 ?_
      refine a_callS0 C (w_packed G _ _) kcX1_X1_packed dX1_clear_68 rfl (by decide) (by decide) (by decide) (Nat.le_of_ble_eq_true rfl) rfl (fun a2 u2 hu2 => ?_)
      refine r_ior C dX1_clear_71 ?_
      refine fp_X1_24 C dX1_clear_72 ?_
      refine r_iinc (v := _ + 1) C dX1_clear_75 rfl (by rfl) (by decide) ?_
      refine r_goto (tgt := 32) C dX1_clear_78 (by decide) ?_
      show V X 0 0 32 [_, _, some (.int (nI p + 1))] _ _
      rw [nI_1]
      exact ih (p + 1) _ (by omega) (by omega) e4 e2 e3
  refine r_aload_n C dX1_clear_0 rfl rfl ?_
  refine r_iload_n C dX1_clear_1 rfl rfl ?_
  refine fp_X1_21 C dX1_clear_2 ?_
  refine r_aload_n C dX1_clear_5 rfl rfl ?_
  refine r_iconst (v := 0) C dX1_clear_6 (by decide) ?_
  refine fp_X1_9 C dX1_clear_7 ?_
  refine r_aload_n C dX1_clear_10 rfl rfl ?_
  refine r_iconst (v := 0) C dX1_clear_11 (by decide) ?_
  refine fp_X1_15 C dX1_clear_12 ?_
  refine r_aload_n C dX1_clear_15 rfl rfl ?_
  refine r_iconst (v := 0) C dX1_clear_16 (by decide) ?_
  refine fp_X1_18 C dX1_clear_17 ?_
  refine r_aload_n C dX1_clear_20 rfl rfl ?_
  refine r_iconst (v := 0) C dX1_clear_21 (by decide) ?_
  refine fp_X1_27 C dX1_clear_22 ?_
  refine r_aload_n C dX1_clear_25 rfl rfl ?_
  refine r_iconst (v := 0) C dX1_clear_26 (by decide) ?_
  refine fp_X1_24 C dX1_clear_27 ?_
  refine r_iconst (v := 1) C dX1_clear_30 (by decide) ?_
  refine r_istore_n C dX1_clear_31 rfl (by decide) ?_
  exact key s 1 _ (by omega) (Nat.le_refl _) rfl rfl rfl
theorem w_append {s hd tl : Nat} (v : Int32) (hB : FmB (N 0) Z s hd tl) (hZ : Z ≤ 1000) : CV G yX1_append cX1_append 4 3 0 0 [.ref (A 0), .int v] (fW G Z A N R Q ++ P) (S := Nt × Rt) (fun u => ∃ hd' tl', FmB (u.1 0) Z s hd' tl') (fun u => fW G Z A u.1 u.2 Q ++ P) := by
  obtain ⟨e4, s2, s7, e2, e3, hht, htz⟩ := id hB
  refine CV.intro (by decide) (Nat.le_of_ble_eq_true rfl) (cat1 (xs := [v])) fun X C hR => ?_
  by_cases hfull : Z ≤ tl
  · refine r_aload_n C dX1_append_0 rfl rfl ?_
    refine fg_X1_18 C dX1_append_1 ?_
    refine r_aload_n C dX1_append_4 rfl rfl ?_
    refine fg_X1_43 C dX1_append_5 ?_
    rw [e3]
    refine r_alen (t0 := 0) C 1 (fun _ => rfl) rfl dX1_append_8 ?_
    show V X 0 0 9 _ [.int (nI Z), .int (nI tl)] _
    refine r_icmp_lt (tgt := 13) C dX1_append_9 (by decide) (fun c9 => absurd c9 ((by rw [nI_ltI (by omega) (by omega)]; omega))) (fun c9 => ?_)
    exact hR _ _ _ _ (N, R) (by decide) (by decide) ⟨hd, tl, hB⟩ dX1_append_12
  · have k116 : ∀ (f hd tl : Nat) (N' : Nt) (R' : Rt) (o2 o3 : Option Value), hd + f = tl → FmB (N' 0) Z s hd tl → V X 0 0 116 [some (.ref (A 0)), some (.int v), o2, o3] [] (fW G Z A N' R' Q ++ P) := by
      intro f
      induction f with
      | zero =>
        intro hd tl N' R' o2 o3 hf hB'
        obtain ⟨d4, -, -, d2, d3, dht, dtz⟩ := id hB'
        refine r_aload_n C dX1_append_116 rfl rfl ?_
        refine fg_X1_18 C dX1_append_117 ?_
        refine r_aload_n C dX1_append_120 rfl rfl ?_
        refine fg_X1_15 C dX1_append_121 ?_
        rw [d2, d3]
        refine r_icmp_le (tgt := 158) C dX1_append_124 (by decide) (fun c124 => ?_) (fun c124 => absurd c124 ((fun q => q (by rw [nI_leI (by omega) (by omega)]; omega))))
        exact hR _ _ _ _ (N', R') (by decide) (by decide) ⟨hd, tl, hB'⟩ dX1_append_158
      | succ f ih =>
        intro hd tl N' R' o2 o3 hf hB'
        obtain ⟨d4, -, -, d2, d3, dht, dtz⟩ := id hB'
        obtain ⟨t', rfl⟩ : ∃ t', tl = t' + 1 := ⟨tl - 1, by omega⟩
        refine r_aload_n C dX1_append_116 rfl rfl ?_
        refine fg_X1_18 C dX1_append_117 ?_
        refine r_aload_n C dX1_append_120 rfl rfl ?_
        refine fg_X1_15 C dX1_append_121 ?_
        rw [d2, d3]
        refine r_icmp_le (tgt := 158) C dX1_append_124 (by decide) (fun c124 => absurd c124 ((by rw [nI_leI (by omega) (by omega)]; omega))) (fun c124 => ?_)
        refine r_aload_n C dX1_append_127 rfl rfl ?_
        refine fg_X1_43 C dX1_append_128 ?_
        refine r_aload_n C dX1_append_131 rfl rfl ?_
        refine fg_X1_18 C dX1_append_132 ?_
        refine r_iconst (v := 1) C dX1_append_135 (by decide) ?_
        refine r_isub C dX1_append_136 ?_
        rw [d3, nI_pred]
        refine fl_1 C dX1_append_137 (vp_in_nI (show t' < Z by omega) (by omega)) ?_
        refine r_aload_n C dX1_append_138 rfl rfl ?_
        refine fg_X1_27 C dX1_append_139 ?_
        refine r_icmp_ne (tgt := 158) C dX1_append_142 (by decide) (fun c142 => ?_) (fun c142 => ?_)
        · exact hR _ _ _ _ (N', R') (by decide) (by decide) ⟨hd, t' + 1, hB'⟩ dX1_append_158
        · refine r_aload_n C dX1_append_145 rfl rfl ?_
          refine r_dup C dX1_append_146 rfl ?_
          refine fg_X1_18 C dX1_append_147 ?_
          refine r_iconst (v := 1) C dX1_append_150 (by decide) ?_
          refine r_isub C dX1_append_151 ?_
          rw [d3, nI_pred]
          refine fp_X1_18 C dX1_append_152 ?_
          refine r_goto (tgt := 116) C dX1_append_155 (by decide) ?_
          exact ih hd t' _ R' o2 o3 (by omega) ⟨d4, s2, s7, d2, rfl, by omega, by omega⟩
    have k66 : ∀ (f hd tl : Nat) (N' : Nt) (R' : Rt) (o2 o3 : Option Value), hd + f = tl → FmB (N' 0) Z s hd tl → V X 0 0 66 [some (.ref (A 0)), some (.int v), o2, o3] [] (fW G Z A N' R' Q ++ P) := by
      intro f
      induction f with
      | zero =>
        intro hd tl N' R' o2 o3 hf hB'
        obtain ⟨d4, -, -, d2, d3, dht, dtz⟩ := id hB'
        refine r_aload_n C dX1_append_66 rfl rfl ?_
        refine fg_X1_15 C dX1_append_67 ?_
        refine r_aload_n C dX1_append_70 rfl rfl ?_
        refine fg_X1_18 C dX1_append_71 ?_
        rw [d2, d3]
        refine r_icmp_ge (tgt := 116) C dX1_append_74 (by decide) (fun c74 => ?_) (fun c74 => absurd c74 ((fun q => q (by rw [nI_leI (by omega) (by omega)]; omega))))
        exact k116 0 hd tl N' R' o2 o3 hf hB'
      | succ f ih =>
        intro hd tl N' R' o2 o3 hf hB'
        obtain ⟨d4, -, -, d2, d3, dht, dtz⟩ := id hB'
        refine r_aload_n C dX1_append_66 rfl rfl ?_
        refine fg_X1_15 C dX1_append_67 ?_
        refine r_aload_n C dX1_append_70 rfl rfl ?_
        refine fg_X1_18 C dX1_append_71 ?_
        rw [d2, d3]
        refine r_icmp_ge (tgt := 116) C dX1_append_74 (by decide) (fun c74 => absurd c74 ((by rw [nI_leI (by omega) (by omega)]; omega))) (fun c74 => ?_)
        refine r_aload_n C dX1_append_77 rfl rfl ?_
        refine fg_X1_43 C dX1_append_78 ?_
        refine r_aload_n C dX1_append_81 rfl rfl ?_
        refine fg_X1_15 C dX1_append_82 ?_
        rw [d2]
        refine fl_1 C dX1_append_85 (vp_in_nI (show hd < Z by omega) (by omega)) ?_
        refine r_aload_n C dX1_append_86 rfl rfl ?_
        refine fg_X1_24 C dX1_append_87 ?_
        refine r_icmp_ne (tgt := 116) C dX1_append_90 (by decide) (fun c90 => ?_) (fun c90 => ?_)
        · exact k116 (f + 1) hd tl N' R' o2 o3 hf hB'
        · refine r_aload_n C dX1_append_93 rfl rfl ?_
          refine r_dup C dX1_append_94 rfl ?_
          refine fg_X1_15 C dX1_append_95 ?_
          refine r_iconst (v := 1) C dX1_append_98 (by decide) ?_
          refine r_iadd C dX1_append_99 ?_
          rw [d2, nI_1]
          refine fp_X1_15 C dX1_append_100 ?_
          refine r_aload_n C dX1_append_103 rfl rfl ?_
          refine r_dup C dX1_append_104 rfl ?_
          refine fg_X1_9 C dX1_append_105 ?_
          refine r_iconst (v := 1) C dX1_append_108 (by decide) ?_
          refine r_iadd C dX1_append_109 ?_
          refine fp_X1_9 C dX1_append_110 ?_
          refine r_goto (tgt := 66) C dX1_append_113 (by decide) ?_
          exact ih (hd + 1) tl _ R' o2 o3 (by omega) ⟨d4, s2, s7, rfl, d3, by omega, by omega⟩
    have k42 : ∀ (m : Nat) (N' : Nt) (R' : Rt) (mv : Int32), m ≤ tl → FmB (N' 0) Z s hd (tl + 1) → V X 0 0 42 [some (.ref (A 0)), some (.int v), some (.int mv), some (.int (nI m - 1))] [] (fW G Z A N' R' Q ++ P) := by
      intro m
      induction m with
      | zero =>
        intro N' R' mv hm hB'
        obtain ⟨d4, -, -, d2, d3, dht, dtz⟩ := id hB'
        refine r_iload_n C dX1_append_42 rfl rfl ?_
        refine r_aload_n C dX1_append_43 rfl rfl ?_
        refine fg_X1_15 C dX1_append_44 ?_
        rw [d2]
        refine r_icmp_lt (tgt := 66) C dX1_append_47 (by decide) (fun c47 => ?_) (fun c47 => absurd c47 ((fun q => q ((m1_lt (by omega) (by omega)).mpr (Nat.zero_le _)))))
        exact k66 (tl + 1 - hd) hd (tl + 1) N' R' _ _ (by omega) hB'
      | succ m ih =>
        intro N' R' mv hm hB'
        obtain ⟨d4, -, -, d2, d3, dht, dtz⟩ := id hB'
        rw [nI_pred]
        refine r_iload_n C dX1_append_42 rfl rfl ?_
        refine r_aload_n C dX1_append_43 rfl rfl ?_
        refine fg_X1_15 C dX1_append_44 ?_
        refine r_icmp_lt (tgt := 66) C dX1_append_47 (by decide) (fun c47 => ?_) (fun c47 => ?_)
        · exact k66 (tl + 1 - hd) hd (tl + 1) N' R' _ _ (by omega) hB'
        · refine r_iload_n C dX1_append_50 rfl rfl ?_
          refine r_if_eq (tgt := 66) C dX1_append_51 (by decide) (fun c51 => ?_) (fun c51 => ?_)
          · exact k66 (tl + 1 - hd) hd (tl + 1) N' R' _ _ (by omega) hB'
          · refine r_aload_n C dX1_append_54 rfl rfl ?_
            refine r_iload_n C dX1_append_55 rfl rfl ?_
            refine a_callVi C (w_slideToFront G Z A P N' R' Q (s := s) (j := m) d4 s2 s7 (by omega) hZ) kcX1_X1_slideToFront dX1_append_56 rfl (by decide) (by decide) (by decide) (Nat.le_of_ble_eq_true rfl) 0 rfl (ci := 1) rfl rfl rfl (fun r R2 hr => ?_)
            refine r_istore_n C dX1_append_59 rfl (by decide) ?_
            refine r_iinc (v := _ + (-1)) C dX1_append_60 rfl (by rfl) (by decide) ?_
            refine r_goto (tgt := 42) C dX1_append_63 (by decide) ?_
            show V X 0 0 42 [_, _, _, some (.int (nI m + (-1)))] _ _
            rw [nI_m1]
            exact ih N' R2 r (by omega) hB'
    refine r_aload_n C dX1_append_0 rfl rfl ?_
    refine fg_X1_18 C dX1_append_1 ?_
    refine r_aload_n C dX1_append_4 rfl rfl ?_
    refine fg_X1_43 C dX1_append_5 ?_
    rw [e3]
    refine r_alen (t0 := 0) C 1 (fun _ => rfl) rfl dX1_append_8 ?_
    show V X 0 0 9 _ [.int (nI Z), .int (nI tl)] _
    refine r_icmp_lt (tgt := 13) C dX1_append_9 (by decide) (fun c9 => ?_) (fun c9 => absurd c9 ((fun q => q (by rw [nI_ltI (by omega) (by omega)]; omega))))
    refine r_aload_n C dX1_append_13 rfl rfl ?_
    refine fg_X1_43 C dX1_append_14 ?_
    refine r_aload_n C dX1_append_17 rfl rfl ?_
    refine fg_X1_18 C dX1_append_18 ?_
    refine r_iload_n C dX1_append_21 rfl rfl ?_
    rw [e3]
    refine fs_1 C dX1_append_22 (vp_in_nI (show tl < Z by omega) (by omega)) ?_
    refine r_aload_n C dX1_append_23 rfl rfl ?_
    refine r_dup C dX1_append_24 rfl ?_
    refine fg_X1_18 C dX1_append_25 ?_
    refine r_iconst (v := 1) C dX1_append_28 (by decide) ?_
    refine r_iadd C dX1_append_29 ?_
    rw [e3, nI_1]
    refine fp_X1_18 C dX1_append_30 ?_
    refine r_iconst (v := 1) C dX1_append_33 (by decide) ?_
    refine r_istore_n C dX1_append_34 rfl (by decide) ?_
    refine r_aload_n C dX1_append_35 rfl rfl ?_
    refine fg_X1_18 C dX1_append_36 ?_
    refine r_iconst (v := 2) C dX1_append_39 (by decide) ?_
    refine r_isub C dX1_append_40 ?_
    refine r_istore_n C dX1_append_41 rfl (by decide) ?_
    show V X 0 0 42 [_, _, _, some (.int (nI (tl + 1) - 2))] _ _
    rw [show nI (tl + 1) - 2 = nI tl - 1 by rw [← nI_pred tl, Int32.sub_sub]; rfl]
    exact k42 tl _ _ 1 (Nat.le_refl _) ⟨e4, s2, s7, e2, rfl, by omega, by omega⟩
theorem w_turnFactors {s hd tl : Nat} (hB : FmB (N 0) Z s hd tl) (hZ : Z ≤ 1000) : CV G yX1_turnFactors cX1_turnFactors 4 1 0 0 [.ref (A 0)] (fW G Z A N R Q ++ P) (S := Rt) (fun _ => True) (fun R' => fW G Z A N R' Q ++ P) := by
  obtain ⟨e4, s2, s7, e2, e3, hht, htz⟩ := id hB
  refine CV.intro (by decide) (Nat.le_of_ble_eq_true rfl) (cat1 (xs := [])) fun X C hR => ?_
  have key : ∀ (f j : Nat) (R' : Rt) (o2 o3 : Option Value), j + f = tl → V X 0 0 5 [some (.ref (A 0)), some (.int (nI j)), o2, o3] [] (fW G Z A N R' Q ++ P) := by
    intro f
    induction f with
    | zero =>
      intro j R' o2 o3 hj
      refine r_iload_n C dX1_turnFactors_5 rfl rfl ?_
      refine r_aload_n C dX1_turnFactors_6 rfl rfl ?_
      refine fg_X1_18 C dX1_turnFactors_7 ?_
      rw [e3]
      refine r_icmp_ge (tgt := 81) C dX1_turnFactors_10 (by decide) (fun c10 => ?_) (fun c10 => absurd c10 ((fun q => q (by rw [nI_leI (by omega) (by omega)]; omega))))
      exact hR _ _ _ _ R' (by decide) (by decide) trivial dX1_turnFactors_81
    | succ f ih =>
      intro j R' o2 o3 hj
      have inner : ∀ (g p : Nat) (R2 : Rt) (x : Int32), p + g = s + 1 → 1 ≤ p → V X 0 0 27 [some (.ref (A 0)), some (.int (nI j)), some (.int x), some (.int (nI p))] [] (fW G Z A N R2 Q ++ P) := by
        intro g
        induction g with
        | zero =>
          intro p R2 x hp h1
          refine r_iload_n C dX1_turnFactors_27 rfl rfl ?_
          refine r_aload_n C dX1_turnFactors_28 rfl rfl ?_
          refine fg_X1_21 C dX1_turnFactors_29 ?_
          rw [e4]
          refine r_icmp_gt (tgt := 68) C dX1_turnFactors_32 (by decide) (fun c32 => ?_) (fun c32 => absurd c32 ((fun q => q (nI_lt (by omega) (by omega)))))
          refine r_aload_n C dX1_turnFactors_68 rfl rfl ?_
          refine fg_X1_43 C dX1_turnFactors_69 ?_
          refine r_iload_n C dX1_turnFactors_72 rfl rfl ?_
          refine r_iload_n C dX1_turnFactors_73 rfl rfl ?_
          refine fs_1 C dX1_turnFactors_74 (vp_in_nI (show j < Z by omega) (by omega)) ?_
          refine r_iinc (v := _ + 1) C dX1_turnFactors_75 rfl (by rfl) (by decide) ?_
          refine r_goto (tgt := 5) C dX1_turnFactors_78 (by decide) ?_
          show V X 0 0 5 [_, some (.int (nI j + 1)), _, _] _ _
          rw [nI_1]
          exact ih (j + 1) _ _ _ (by omega)
        | succ g ih2 =>
          intro p R2 x hp h1
          refine r_iload_n C dX1_turnFactors_27 rfl rfl ?_
          refine r_aload_n C dX1_turnFactors_28 rfl rfl ?_
          refine fg_X1_21 C dX1_turnFactors_29 ?_
          rw [e4]
          refine r_icmp_gt (tgt := 68) C dX1_turnFactors_32 (by decide) (fun c32 => absurd c32 ((by rw [nI_ltI (by omega) (by omega)]; omega))) (fun c32 => ?_)
          refine r_iload_n C dX1_turnFactors_35 rfl rfl ?_
          refine r_aload_n C dX1_turnFactors_36 rfl rfl ?_
          refine fg_X1_21 C dX1_turnFactors_37 ?_
          refine r_iconst (v := 1) C dX1_turnFactors_40 (by decide) ?_
          refine r_iadd C dX1_turnFactors_41 ?_
          refine r_iload_n C dX1_turnFactors_42 rfl rfl ?_
          refine r_isub C dX1_turnFactors_43 ?_
          refine r_aload_n C dX1_turnFactors_44 rfl rfl ?_
          refine fg_X1_21 C dX1_turnFactors_45 ?_
          refine r_iconst (v := 1) C dX1_turnFactors_48 (by decide) ?_
          refine r_iadd C dX1_turnFactors_49 ?_
          refine r_aload_n C dX1_turnFactors_50 rfl rfl ?_
          refine fg_X1_34 C dX1_turnFactors_51 ?_
          refine r_iload_n C dX1_turnFactors_54 rfl rfl ?_
          refine fl_3 C dX1_turnFactors_55 (vp_in_nI (show p < 8 by omega) (by decide)) ?_
          refine r_isub C dX1_turnFactors_56 ?_
          refine a_callS0 C (w_packed G _ _) kcX1_X1_packed dX1_turnFactors_57 rfl (by decide) (by decide) (by decide) (Nat.le_of_ble_eq_true rfl) rfl (fun a u hu => ?_)
          refine r_ior C dX1_turnFactors_60 ?_
          refine r_istore_n C dX1_turnFactors_61 rfl (by decide) ?_
          refine r_iinc (v := _ + 1) C dX1_turnFactors_62 rfl (by rfl) (by decide) ?_
          refine r_goto (tgt := 27) C dX1_turnFactors_65 (by decide) ?_
          show V X 0 0 27 [_, _, _, some (.int (nI p + 1))] _ _
          rw [nI_1]
          exact ih2 (p + 1) R2 _ (by omega) (by omega)
      refine r_iload_n C dX1_turnFactors_5 rfl rfl ?_
      refine r_aload_n C dX1_turnFactors_6 rfl rfl ?_
      refine fg_X1_18 C dX1_turnFactors_7 ?_
      rw [e3]
      refine r_icmp_ge (tgt := 81) C dX1_turnFactors_10 (by decide) (fun c10 => absurd c10 ((by rw [nI_leI (by omega) (by omega)]; omega))) (fun c10 => ?_)
      refine r_aload_n C dX1_turnFactors_13 rfl rfl ?_
      refine r_aload_n C dX1_turnFactors_14 rfl rfl ?_
      refine fg_X1_43 C dX1_turnFactors_15 ?_
      refine r_iload_n C dX1_turnFactors_18 rfl rfl ?_
      refine fl_1 C dX1_turnFactors_19 (vp_in_nI (show j < Z by omega) (by omega)) ?_
      refine a_callVv C (w_unpack G Z A P N R' Q _ e4 s7) kcX1_X1_unpack dX1_turnFactors_20 rfl (by decide) (by decide) (by decide) (Nat.le_of_ble_eq_true rfl) 0 rfl (ci := 1) rfl rfl rfl (fun R2 _ => ?_)
      refine r_iconst (v := 0) C dX1_turnFactors_23 (by decide) ?_
      refine r_istore_n C dX1_turnFactors_24 rfl (by decide) ?_
      refine r_iconst (v := 1) C dX1_turnFactors_25 (by decide) ?_
      refine r_istore_n C dX1_turnFactors_26 rfl (by decide) ?_
      exact inner s 1 R2 0 (by omega) (Nat.le_refl _)
  refine r_aload_n C dX1_turnFactors_0 rfl rfl ?_
  refine fg_X1_15 C dX1_turnFactors_1 ?_
  rw [e2]
  refine r_istore_n C dX1_turnFactors_4 rfl (by decide) ?_
  exact key (tl - hd) hd R none none (by omega)
theorem catM {a b : Nat} {x : Int32} : ∀ v ∈ [Value.ref a, Value.ref b, Value.int x], v.category = 1 := by
  intro v hv
  simp only [List.mem_cons, List.not_mem_nil, or_false] at hv
  rcases hv with q | q | q <;> rw [q] <;> rfl
theorem w_make {s hd tl n ra : Nat} (row : Nat → Int32) (hB : FmB (N 0) Z s hd tl) (hZ : Z ≤ 1000) (hn : n ≤ 300) : CV G yX1_make cX1_make 7 4 0 0 [.ref (A 0), .ref ra, .int (nI n)] (fW G Z A N R Q ++ ((ra, .inl (G.2.2 0, 300, .inl row)) :: P)) (S := Nt × Rt) (fun u => ∃ hd' tl', FmB (u.1 0) Z s hd' tl') (fun u => fW G Z A u.1 u.2 Q ++ ((ra, .inl (G.2.2 0, 300, .inl row)) :: P)) := by
  obtain ⟨e4, s2, s7, e2, e3, hht, htz⟩ := id hB
  refine CV.intro (by decide) (Nat.le_of_ble_eq_true rfl) catM fun X C hR => ?_
  have k51 : ∀ (f i hd tl : Nat) (N' : Nt) (R' : Rt) (x : Int32) (o5 o6 : Option Value), i + f = n → FmB (N' 0) Z s hd tl → V X 0 0 51 [some (.ref (A 0)), some (.ref ra), some (.int (nI n)), some (.int x), some (.int (nI i)), o5, o6] [] (fW G Z A N' R' Q ++ ((ra, .inl (G.2.2 0, 300, .inl row)) :: P)) := by
    intro f
    induction f with
    | zero =>
      intro i hd tl N' R' x o5 o6 hi hB'
      refine r_iload C dX1_make_51 rfl ?_
      refine r_iload_n C dX1_make_53 rfl rfl ?_
      refine r_icmp_ge (tgt := 148) C dX1_make_54 (by decide) (fun c54 => ?_) (fun c54 => absurd c54 ((fun q => q (by rw [nI_leI (by omega) (by omega)]; omega))))
      exact hR _ _ _ _ (N', R') (by decide) (by decide) ⟨hd, tl, hB'⟩ dX1_make_148
    | succ f ih =>
      intro i hd tl N' R' x o5 o6 hi hB'
      obtain ⟨d4, -⟩ := id hB'
      have bi : vp_in (nI i) 300 := vp_in_nI (by omega) (by decide)
      have j139 : ∀ (R2 : Rt) (x2 y o : Int32) (o6 : Option Value), V X 0 0 139 [some (.ref (A 0)), some (.ref ra), some (.int (nI n)), some (.int x2), some (.int (nI i)), some (.int o), o6] [.int y, .ref (A 0)] (fW G Z A N' R2 Q ++ ((ra, .inl (G.2.2 0, 300, .inl row)) :: P)) := by
        intro R2 x2 y o o6
        refine a_callVv C (w_append G Z A _ N' R2 Q y hB' hZ) kcX1_X1_append dX1_make_139 rfl (by decide) (by decide) (by decide) (Nat.le_of_ble_eq_true rfl) 0 rfl (ci := 1) rfl rfl rfl (fun u hu => ?_)
        obtain ⟨hd2, tl2, hB2⟩ := hu
        refine r_iinc (v := _ + 1) C dX1_make_142 rfl (by rfl) (by decide) ?_
        refine r_goto (tgt := 51) C dX1_make_145 (by decide) ?_
        show V X 0 0 51 [_, _, _, _, some (.int (nI i + 1)), _, _] _ _
        rw [nI_1]
        exact ih (i + 1) hd2 tl2 u.1 u.2 _ _ _ (by omega) hB2
      have j108 : ∀ (x2 y o : Int32) (o6 : Option Value), V X 0 0 108 [some (.ref (A 0)), some (.ref ra), some (.int (nI n)), some (.int x2), some (.int (nI i)), some (.int o), o6] [.int y] (fW G Z A N' R' Q ++ ((ra, .inl (G.2.2 0, 300, .inl row)) :: P)) := by
        intro x2 y o o6
        refine r_istore C dX1_make_108 (by decide) ?_
        refine r_aload_n C dX1_make_110 rfl rfl ?_
        refine r_iload C dX1_make_111 rfl ?_
        refine r_if_eq (tgt := 129) C dX1_make_113 (by decide) (fun c113 => ?_) (fun c113 => ?_)
        · refine r_aload_n C dX1_make_129 rfl rfl ?_
          refine r_aload_n C dX1_make_130 rfl rfl ?_
          refine fg_X1_24 C dX1_make_131 ?_
          refine r_iload C dX1_make_134 rfl ?_
          refine a_callVi C (w_withNumbersChanged G Z A _ N' R' Q _ _ d4 s7) kcX1_X1_withNumbersChanged dX1_make_136 rfl (by decide) (by decide) (by decide) (Nat.le_of_ble_eq_true rfl) 0 rfl (ci := 1) rfl rfl rfl (fun r R2 hr => ?_)
          exact j139 _ _ _ _ _
        · refine r_aload_n C dX1_make_116 rfl rfl ?_
          refine r_aload_n C dX1_make_117 rfl rfl ?_
          refine fg_X1_27 C dX1_make_118 ?_
          refine r_iload C dX1_make_121 rfl ?_
          refine a_callVi C (w_withNumbersChanged G Z A _ N' R' Q _ _ d4 s7) kcX1_X1_withNumbersChanged dX1_make_123 rfl (by decide) (by decide) (by decide) (Nat.le_of_ble_eq_true rfl) 0 rfl (ci := 1) rfl rfl rfl (fun r R2 hr => ?_)
          refine r_goto (tgt := 139) C dX1_make_126 (by decide) ?_
          exact j139 _ _ _ _ _
      have j79 : ∀ (x2 o : Int32), V X 0 0 79 [some (.ref (A 0)), some (.ref ra), some (.int (nI n)), some (.int x2), some (.int (nI i)), some (.int o), o6] [] (fW G Z A N' R' Q ++ ((ra, .inl (G.2.2 0, 300, .inl row)) :: P)) := by
        intro x2 o
        refine r_iload_n C dX1_make_79 rfl rfl ?_
        refine r_iconst (v := 1) C dX1_make_80 (by decide) ?_
        refine r_iand C dX1_make_81 ?_
        refine r_iconst (v := 1) C dX1_make_82 (by decide) ?_
        refine r_icmp_ne (tgt := 101) C dX1_make_83 (by decide) (fun c83 => ?_) (fun c83 => ?_)
        · refine r_aload_n C dX1_make_101 rfl rfl ?_
          refine r_iload C dX1_make_102 rfl ?_
          refine r_iald C 4 rfl bi dX1_make_104 ?_
          refine r_mabs C km_X1_60 (by decide) (by decide) (by decide) (Nat.le_of_ble_eq_true rfl) dX1_make_105 ?_
          exact j108 _ _ _ _
        · refine r_aload_n C dX1_make_86 rfl rfl ?_
          refine fg_X1_21 C dX1_make_87 ?_
          refine r_aload_n C dX1_make_90 rfl rfl ?_
          refine r_iload C dX1_make_91 rfl ?_
          refine r_iald C 4 rfl bi dX1_make_93 ?_
          refine r_mabs C km_X1_60 (by decide) (by decide) (by decide) (Nat.le_of_ble_eq_true rfl) dX1_make_94 ?_
          refine r_isub C dX1_make_97 ?_
          refine r_goto (tgt := 108) C dX1_make_98 (by decide) ?_
          exact j108 _ _ _ _
      have j69 : ∀ (o : Int32), V X 0 0 69 [some (.ref (A 0)), some (.ref ra), some (.int (nI n)), some (.int x), some (.int (nI i)), o5, o6] [.int o] (fW G Z A N' R' Q ++ ((ra, .inl (G.2.2 0, 300, .inl row)) :: P)) := by
        intro o
        refine r_istore C dX1_make_69 (by decide) ?_
        refine r_iload C dX1_make_71 rfl ?_
        refine r_if_ne (tgt := 79) C dX1_make_73 (by decide) (fun c73 => ?_) (fun c73 => ?_)
        · exact j79 _ _
        · refine r_iinc (v := _ + (-1)) C dX1_make_76 rfl (by rfl) (by decide) ?_
          exact j79 _ _
      refine r_iload C dX1_make_51 rfl ?_
      refine r_iload_n C dX1_make_53 rfl rfl ?_
      refine r_icmp_ge (tgt := 148) C dX1_make_54 (by decide) (fun c54 => absurd c54 ((by rw [nI_leI (by omega) (by omega)]; omega))) (fun c54 => ?_)
      refine r_aload_n C dX1_make_57 rfl rfl ?_
      refine r_iload C dX1_make_58 rfl ?_
      refine r_iald C 4 rfl bi dX1_make_60 ?_
      refine r_if_le (tgt := 68) C dX1_make_61 (by decide) (fun c61 => ?_) (fun c61 => ?_)
      · refine r_iconst (v := 0) C dX1_make_68 (by decide) ?_
        exact j69 _
      · refine r_iconst (v := 1) C dX1_make_64 (by decide) ?_
        refine r_goto (tgt := 69) C dX1_make_65 (by decide) ?_
        exact j69 _
  have j48 : ∀ (N' : Nt) (R' : Rt) (x : Int32) (o4 : Option Value), FmB (N' 0) Z s hd tl → V X 0 0 48 [some (.ref (A 0)), some (.ref ra), some (.int (nI n)), some (.int x), o4, none, none] [] (fW G Z A N' R' Q ++ ((ra, .inl (G.2.2 0, 300, .inl row)) :: P)) := by
    intro N' R' x o4 hB'
    refine r_iconst (v := 0) C dX1_make_48 (by decide) ?_
    refine r_istore C dX1_make_49 (by decide) ?_
    exact k51 n 0 hd tl N' R' x none none (by omega) hB'
  have k5 : ∀ (f i : Nat) (x : Int32), i + f = n → V X 0 0 5 [some (.ref (A 0)), some (.ref ra), some (.int (nI n)), some (.int x), some (.int (nI i)), none, none] [] (fW G Z A N R Q ++ ((ra, .inl (G.2.2 0, 300, .inl row)) :: P)) := by
    intro f
    induction f with
    | zero =>
      intro i x hi
      refine r_iload C dX1_make_5 rfl ?_
      refine r_iload_n C dX1_make_7 rfl rfl ?_
      refine r_icmp_ge (tgt := 27) C dX1_make_8 (by decide) (fun c8 => ?_) (fun c8 => absurd c8 ((fun q => q (by rw [nI_leI (by omega) (by omega)]; omega))))
      refine r_aload_n C dX1_make_27 rfl rfl ?_
      refine r_dup C dX1_make_28 rfl ?_
      refine fg_X1_9 C dX1_make_29 ?_
      refine r_iload_n C dX1_make_32 rfl rfl ?_
      refine r_isub C dX1_make_33 ?_
      refine fp_X1_9 C dX1_make_34 ?_
      refine r_iload_n C dX1_make_37 rfl rfl ?_
      refine r_iconst (v := 1) C dX1_make_38 (by decide) ?_
      refine r_iand C dX1_make_39 ?_
      refine r_iconst (v := 1) C dX1_make_40 (by decide) ?_
      refine r_icmp_ne (tgt := 48) C dX1_make_41 (by decide) (fun c41 => ?_) (fun c41 => ?_)
      · exact j48 _ _ _ _ hB
      · refine r_aload_n C dX1_make_44 rfl rfl ?_
        refine a_callVv C (w_turnFactors G Z A _ (va_up N 0 (va_up (N 0) 0 (N 0 0 - x))) R Q (show FmB (va_up N 0 (va_up (N 0) 0 (N 0 0 - x)) 0) Z s hd tl from hB) hZ) kcX1_X1_turnFactors dX1_make_45 rfl (by decide) (by decide) (by decide) (Nat.le_of_ble_eq_true rfl) 0 rfl (ci := 1) rfl rfl rfl (fun R2 _ => ?_)
        exact j48 _ _ _ _ hB
    | succ f ih =>
      intro i x hi
      have j21 : ∀ x : Int32, V X 0 0 21 [some (.ref (A 0)), some (.ref ra), some (.int (nI n)), some (.int x), some (.int (nI i)), none, none] [] (fW G Z A N R Q ++ ((ra, .inl (G.2.2 0, 300, .inl row)) :: P)) := by
        intro x
        refine r_iinc (v := _ + 1) C dX1_make_21 rfl (by rfl) (by decide) ?_
        refine r_goto (tgt := 5) C dX1_make_24 (by decide) ?_
        show V X 0 0 5 [_, _, _, _, some (.int (nI i + 1)), _, _] _ _
        rw [nI_1]
        exact ih (i + 1) _ (by omega)
      refine r_iload C dX1_make_5 rfl ?_
      refine r_iload_n C dX1_make_7 rfl rfl ?_
      refine r_icmp_ge (tgt := 27) C dX1_make_8 (by decide) (fun c8 => absurd c8 ((by rw [nI_leI (by omega) (by omega)]; omega))) (fun c8 => ?_)
      refine r_aload_n C dX1_make_11 rfl rfl ?_
      refine r_iload C dX1_make_12 rfl ?_
      refine r_iald C 4 rfl (vp_in_nI (show i < 300 by omega) (by decide)) dX1_make_14 ?_
      refine r_if_ge (tgt := 21) C dX1_make_15 (by decide) (fun c15 => ?_) (fun c15 => ?_)
      · exact j21 _
      · refine r_iinc (v := _ + 1) C dX1_make_18 rfl (by rfl) (by decide) ?_
        exact j21 _
  refine r_iconst (v := 0) C dX1_make_0 (by decide) ?_
  refine r_istore_n C dX1_make_1 rfl (by decide) ?_
  refine r_iconst (v := 0) C dX1_make_2 (by decide) ?_
  refine r_istore C dX1_make_3 (by decide) ?_
  exact k5 n 0 0 (by omega)
end FW2
/-! Form: what is only read, in any world -/
section FR
variable (G : Gx) (ws : va_W)
theorem e_factorCount {a : Nat} {fs : List Value} {x y : Int32} (q0 : Nat) (he : ws[q0]? = some (a, .inr (1, fs))) (h2 : fs[2]? = some (.int x)) (h3 : fs[3]? = some (.int y)) : CI G yX1_factorCount cX1_factorCount 1 .int 0 0 0 [.ref a] ws (S := Unit) (fun r _ => r = y - x) (fun _ => ws) := by
  refine CI.intro (by decide) (Nat.le_of_ble_eq_true rfl) (cat1 (xs := [])) fun X C hR => ?_
  refine r_aload_n C dX1_factorCount_0 rfl rfl ?_
  refine r_get C q0 3 he rfl inX1 (by decide) lk_X1_18 h3 dX1_factorCount_1 ?_
  refine r_aload_n C dX1_factorCount_4 rfl rfl ?_
  refine r_get C q0 2 he rfl inX1 (by decide) lk_X1_15 h2 dX1_factorCount_5 ?_
  refine r_isub C dX1_factorCount_8 ?_
  exact hR _ _ _ _ _ () (by decide) (by decide) rfl rfl dX1_factorCount_9
theorem e_factorAt {a b Z hd j : Nat} {f : Nat → Int32} {fs : List Value} (q0 q1 : Nat) (he : ws[q0]? = some (a, .inr (1, fs))) (h2 : fs[2]? = some (.int (nI hd))) (h1 : fs[1]? = some (.ref b)) (hb : ws[q1]? = some (b, .inl (G.2.2 0, Z, .inl f))) (hj : hd + j < Z) (hZ : Z ≤ 1000) : CI G yX1_factorAt cX1_factorAt 2 .int 0 0 0 [.ref a, .int (nI j)] ws (S := Unit) (fun r _ => r = f (hd + j)) (fun _ => ws) := by
  refine CI.intro (by decide) (Nat.le_of_ble_eq_true rfl) (cat1 (xs := [nI j])) fun X C hR => ?_
  refine r_aload_n C dX1_factorAt_0 rfl rfl ?_
  refine r_get C q0 1 he rfl inX1 (by decide) lk_X1_43 h1 dX1_factorAt_1 ?_
  refine r_aload_n C dX1_factorAt_4 rfl rfl ?_
  refine r_get C q0 2 he rfl inX1 (by decide) lk_X1_15 h2 dX1_factorAt_5 ?_
  refine r_iload_n C dX1_factorAt_8 rfl rfl ?_
  refine r_iadd C dX1_factorAt_9 ?_
  rw [nI_add]
  refine r_iald C q1 hb (vp_in_nI hj (by omega)) dX1_factorAt_10 ?_
  rw [nI_clamp (by omega)]
  exact hR _ _ _ _ _ () (by decide) (by decide) rfl rfl dX1_factorAt_11
theorem e_isEven {a : Nat} {fs : List Value} {p x y : Int32} (q0 : Nat) (he : ws[q0]? = some (a, .inr (1, fs))) (h0 : fs[0]? = some (.int p)) (h2 : fs[2]? = some (.int x)) (h3 : fs[3]? = some (.int y)) : CI G yX1_isEvenPowerAlone cX1_isEvenPowerAlone 1 .boolean 0 0 0 [.ref a] ws (S := Unit) (fun r _ => r = if x = y ∧ p &&& 1 = 0 then 1 else 0) (fun _ => ws) := by
  refine CI.intro (by decide) (Nat.le_of_ble_eq_true rfl) (cat1 (xs := [])) fun X C hR => ?_
  refine r_aload_n C dX1_isEvenPowerAlone_0 rfl rfl ?_
  refine r_get C q0 2 he rfl inX1 (by decide) lk_X1_15 h2 dX1_isEvenPowerAlone_1 ?_
  refine r_aload_n C dX1_isEvenPowerAlone_4 rfl rfl ?_
  refine r_get C q0 3 he rfl inX1 (by decide) lk_X1_18 h3 dX1_isEvenPowerAlone_5 ?_
  refine r_icmp_ne (tgt := 24) C dX1_isEvenPowerAlone_8 (by decide) (fun c8 => ?_) (fun c8 => ?_)
  · refine r_iconst (v := 0) C dX1_isEvenPowerAlone_24 (by decide) ?_
    exact hR _ _ _ _ _ () (by decide) (by decide) rfl (by first | (rw [if_pos ⟨c8, c17⟩]; done) | (rw [if_neg (fun q => c8 q.1)]; done) | (rw [if_neg (fun q => c17 q.2)]; done)) dX1_isEvenPowerAlone_25
  · refine r_aload_n C dX1_isEvenPowerAlone_11 rfl rfl ?_
    refine r_get C q0 0 he rfl inX1 (by decide) lk_X1_9 h0 dX1_isEvenPowerAlone_12 ?_
    refine r_iconst (v := 1) C dX1_isEvenPowerAlone_15 (by decide) ?_
    refine r_iand C dX1_isEvenPowerAlone_16 ?_
    refine r_if_ne (tgt := 24) C dX1_isEvenPowerAlone_17 (by decide) (fun c17 => ?_) (fun c17 => ?_)
    · refine r_iconst (v := 0) C dX1_isEvenPowerAlone_24 (by decide) ?_
      exact hR _ _ _ _ _ () (by decide) (by decide) rfl (by first | (rw [if_pos ⟨c8, c17⟩]; done) | (rw [if_neg (fun q => c8 q.1)]; done) | (rw [if_neg (fun q => c17 q.2)]; done)) dX1_isEvenPowerAlone_25
    · refine r_iconst (v := 1) C dX1_isEvenPowerAlone_20 (by decide) ?_
      refine r_goto (tgt := 25) C dX1_isEvenPowerAlone_21 (by decide) ?_
      exact hR _ _ _ _ _ () (by decide) (by decide) rfl (by first | (rw [if_pos ⟨c8, c17⟩]; done) | (rw [if_neg (fun q => c8 q.1)]; done) | (rw [if_neg (fun q => c17 q.2)]; done)) dX1_isEvenPowerAlone_25
theorem catB {a b : Nat} : ∀ v ∈ [Value.ref a, Value.ref b], v.category = 1 := by
  intro v hv
  simp only [List.mem_cons, List.not_mem_nil, or_false] at hv
  rcases hv with q | q <;> rw [q] <;> rfl
/-- the same power and the same factors -/
def sameFm (p p' : Int32) (hd tl hd' tl' : Nat) (f f' : Nat → Int32) : Prop := p = p' ∧ tl - hd = tl' - hd' ∧ ∀ j, j < tl - hd → f (hd + j) = f' (hd' + j)
theorem e_isSameAs {a b a' b' hd tl hd' tl' Z Z' : Nat} {f f' : Nat → Int32} {fs fs' : List Value} {p p' : Int32} (q0 q1 q0' q1' : Nat) (he : ws[q0]? = some (a, .inr (1, fs))) (h0 : fs[0]? = some (.int p)) (h1 : fs[1]? = some (.ref b)) (h2 : fs[2]? = some (.int (nI hd))) (h3 : fs[3]? = some (.int (nI tl))) (hb : ws[q1]? = some (b, .inl (G.2.2 0, Z, .inl f))) (hht : hd ≤ tl) (htz : tl ≤ Z) (hZ : Z ≤ 1000)
    (he' : ws[q0']? = some (a', .inr (1, fs'))) (h0' : fs'[0]? = some (.int p')) (h1' : fs'[1]? = some (.ref b')) (h2' : fs'[2]? = some (.int (nI hd'))) (h3' : fs'[3]? = some (.int (nI tl'))) (hb' : ws[q1']? = some (b', .inl (G.2.2 0, Z', .inl f'))) (hht' : hd' ≤ tl') (htz' : tl' ≤ Z') (hZ' : Z' ≤ 1000) : CI G yX1_isSameAs cX1_isSameAs 3 .boolean 1 0 0 [.ref a, .ref a'] ws (S := Unit) (fun r _ => (r = 1 ∧ sameFm p p' hd tl hd' tl' f f') ∨ (r = 0 ∧ ¬ sameFm p p' hd tl hd' tl' f f')) (fun _ => ws) := by
  refine CI.intro (by decide) (Nat.le_of_ble_eq_true rfl) catB fun X C hR => ?_
  by_cases hp : p = p'
  · by_cases hc : tl - hd = tl' - hd'
    · have key : ∀ (g j : Nat), j + g = tl - hd → (∀ i, i < j → f (hd + i) = f' (hd' + i)) → V X 0 0 26 [some (.ref a), some (.ref a'), some (.int (nI j))] [] ws := by
        intro g
        induction g with
        | zero =>
          intro j hj hall
          refine r_iload_n C dX1_isSameAs_26 rfl rfl ?_
          refine r_aload_n C dX1_isSameAs_27 rfl rfl ?_
          refine a_callVi C (e_factorCount G ws q0 he h2 h3) kcX1_X1_factorCount dX1_isSameAs_28 rfl (by decide) (by decide) (by decide) (Nat.le_of_ble_eq_true rfl) q0 he (ci := 1) rfl rfl rfl (fun r u hu => ?_)
          rw [pk_sub hht] at hu
          subst hu
          refine r_icmp_ge (tgt := 55) C dX1_isSameAs_31 (by decide) (fun c31 => ?_) (fun c31 => absurd c31 ((fun q => q (by rw [nI_leI (by omega) (by omega)]; omega))))
          refine r_iconst (v := 1) C dX1_isSameAs_55 (by decide) ?_
          exact hR _ _ _ _ _ () (by decide) (by decide) rfl (Or.inl ⟨rfl, hp, hc, fun i hi => hall i (by omega)⟩) dX1_isSameAs_56
        | succ g ih =>
          intro j hj hall
          refine r_iload_n C dX1_isSameAs_26 rfl rfl ?_
          refine r_aload_n C dX1_isSameAs_27 rfl rfl ?_
          refine a_callVi C (e_factorCount G ws q0 he h2 h3) kcX1_X1_factorCount dX1_isSameAs_28 rfl (by decide) (by decide) (by decide) (Nat.le_of_ble_eq_true rfl) q0 he (ci := 1) rfl rfl rfl (fun r u hu => ?_)
          rw [pk_sub hht] at hu
          subst hu
          refine r_icmp_ge (tgt := 55) C dX1_isSameAs_31 (by decide) (fun c31 => absurd c31 ((by rw [nI_leI (by omega) (by omega)]; omega))) (fun c31 => ?_)
          refine r_aload_n C dX1_isSameAs_34 rfl rfl ?_
          refine r_iload_n C dX1_isSameAs_35 rfl rfl ?_
          refine a_callVi C (e_factorAt G ws q0 q1 he h2 h1 hb (j := j) (by omega) hZ) kcX1_X1_factorAt dX1_isSameAs_36 rfl (by decide) (by decide) (by decide) (Nat.le_of_ble_eq_true rfl) q0 he (ci := 1) rfl rfl rfl (fun r u hu => ?_)
          subst hu
          refine r_aload_n C dX1_isSameAs_39 rfl rfl ?_
          refine r_iload_n C dX1_isSameAs_40 rfl rfl ?_
          refine a_callVi C (e_factorAt G ws q0' q1' he' h2' h1' hb' (j := j) (by omega) hZ') kcX1_X1_factorAt dX1_isSameAs_41 rfl (by decide) (by decide) (by decide) (Nat.le_of_ble_eq_true rfl) q0' he' (ci := 1) rfl rfl rfl (fun r u hu => ?_)
          subst hu
          refine r_icmp_eq (tgt := 49) C dX1_isSameAs_44 (by decide) (fun c44 => ?_) (fun c44 => ?_)
          · refine r_iinc (v := _ + 1) C dX1_isSameAs_49 rfl (by rfl) (by decide) ?_
            refine r_goto (tgt := 26) C dX1_isSameAs_52 (by decide) ?_
            show V X 0 0 26 [_, _, some (.int (nI j + 1))] _ _
            rw [nI_1]
            refine ih (j + 1) (by omega) (fun i hi => ?_)
            rcases (show i < j ∨ i = j by omega) with q | q
            · exact hall i q
            · subst q; exact c44
          · refine r_iconst (v := 0) C dX1_isSameAs_47 (by decide) ?_
            exact hR _ _ _ _ _ () (by decide) (by decide) rfl (Or.inr ⟨rfl, fun q => c44 (q.2.2 j (by omega))⟩) dX1_isSameAs_48
      refine r_aload_n C dX1_isSameAs_0 rfl rfl ?_
      refine r_get C q0 0 he rfl inX1 (by decide) lk_X1_9 h0 dX1_isSameAs_1 ?_
      refine r_aload_n C dX1_isSameAs_4 rfl rfl ?_
      refine r_get C q0' 0 he' rfl inX1 (by decide) lk_X1_9 h0' dX1_isSameAs_5 ?_
      refine r_icmp_ne (tgt := 22) C dX1_isSameAs_8 (by decide) (fun c8 => absurd c8 ((fun q => q hp))) (fun c8 => ?_)
      refine r_aload_n C dX1_isSameAs_11 rfl rfl ?_
      refine a_callVi C (e_factorCount G ws q0 he h2 h3) kcX1_X1_factorCount dX1_isSameAs_12 rfl (by decide) (by decide) (by decide) (Nat.le_of_ble_eq_true rfl) q0 he (ci := 1) rfl rfl rfl (fun r u hu => ?_)
      rw [pk_sub hht] at hu
      subst hu
      refine r_aload_n C dX1_isSameAs_15 rfl rfl ?_
      refine a_callVi C (e_factorCount G ws q0' he' h2' h3') kcX1_X1_factorCount dX1_isSameAs_16 rfl (by decide) (by decide) (by decide) (Nat.le_of_ble_eq_true rfl) q0' he' (ci := 1) rfl rfl rfl (fun r u hu => ?_)
      rw [pk_sub hht'] at hu
      subst hu
      refine r_icmp_eq (tgt := 24) C dX1_isSameAs_19 (by decide) (fun c19 => ?_) (fun c19 => absurd c19 ((fun q => q (by rw [hc]))))
      refine r_iconst (v := 0) C dX1_isSameAs_24 (by decide) ?_
      refine r_istore_n C dX1_isSameAs_25 rfl (by decide) ?_
      exact key (tl - hd) 0 (by omega) (fun i hi => absurd hi (by omega))
    · refine r_aload_n C dX1_isSameAs_0 rfl rfl ?_
      refine r_get C q0 0 he rfl inX1 (by decide) lk_X1_9 h0 dX1_isSameAs_1 ?_
      refine r_aload_n C dX1_isSameAs_4 rfl rfl ?_
      refine r_get C q0' 0 he' rfl inX1 (by decide) lk_X1_9 h0' dX1_isSameAs_5 ?_
      refine r_icmp_ne (tgt := 22) C dX1_isSameAs_8 (by decide) (fun c8 => absurd c8 ((fun q => q hp))) (fun c8 => ?_)
      refine r_aload_n C dX1_isSameAs_11 rfl rfl ?_
      refine a_callVi C (e_factorCount G ws q0 he h2 h3) kcX1_X1_factorCount dX1_isSameAs_12 rfl (by decide) (by decide) (by decide) (Nat.le_of_ble_eq_true rfl) q0 he (ci := 1) rfl rfl rfl (fun r u hu => ?_)
      rw [pk_sub hht] at hu
      subst hu
      refine r_aload_n C dX1_isSameAs_15 rfl rfl ?_
      refine a_callVi C (e_factorCount G ws q0' he' h2' h3') kcX1_X1_factorCount dX1_isSameAs_16 rfl (by decide) (by decide) (by decide) (Nat.le_of_ble_eq_true rfl) q0' he' (ci := 1) rfl rfl rfl (fun r u hu => ?_)
      rw [pk_sub hht'] at hu
      subst hu
      refine r_icmp_eq (tgt := 24) C dX1_isSameAs_19 (by decide) (fun c19 => absurd c19 ((by rw [nI_eq (by omega) (by omega)]; exact hc))) (fun c19 => ?_)
      refine r_iconst (v := 0) C dX1_isSameAs_22 (by decide) ?_
      exact hR _ _ _ _ _ () (by decide) (by decide) rfl (Or.inr ⟨rfl, fun q => hc q.2.1⟩) dX1_isSameAs_23
  · refine r_aload_n C dX1_isSameAs_0 rfl rfl ?_
    refine r_get C q0 0 he rfl inX1 (by decide) lk_X1_9 h0 dX1_isSameAs_1 ?_
    refine r_aload_n C dX1_isSameAs_4 rfl rfl ?_
    refine r_get C q0' 0 he' rfl inX1 (by decide) lk_X1_9 h0' dX1_isSameAs_5 ?_
    refine r_icmp_ne (tgt := 22) C dX1_isSameAs_8 (by decide) (fun c8 => ?_) (fun c8 => absurd c8 (hp))
    refine r_iconst (v := 0) C dX1_isSameAs_22 (by decide) ?_
    exact hR _ _ _ _ _ () (by decide) (by decide) rfl (Or.inr ⟨rfl, fun q => hp q.1⟩) dX1_isSameAs_23
end FR
