/-! the reference: right with a known truth, crossing, isPlace, bundle, left, scored, sewn, count -/
section M3
variable (G : Gx) (h : Nat) (ad : Nat → Nat) (M : Mt) (R : Rt)
theorem c_right1 (w : Int32) (h0 : M 0 = 0) : mI G h ad yX7_right cX7_right 3 .boolean 0 [.int 1, .int w] M R (fun r M' R' => r = 1 ∧ M' = M ∧ R' = R) := by
  refine mI.intro (by decide) (Nat.le_of_ble_eq_true rfl) (cat1 (xs := [1, w])) fun X C hR => ?_
  refine r_aload_n C dX7_right_0 rfl rfl ?_
  refine mg_thrown C dX7_right_1 ?_
  refine r_if_ne (tgt := 16) C dX7_right_4 (by decide) (fun c4 => absurd c4 ((fun q => q h0))) (fun c4 => ?_)
  refine r_iload_n C dX7_right_7 rfl rfl ?_
  refine r_if_ne (tgt := 16) C dX7_right_8 (by decide) (fun c8 => ?_) (fun c8 => absurd c8 ((by decide)))
  refine r_aload_n C dX7_right_16 rfl rfl ?_
  refine mg_thrown C dX7_right_17 ?_
  refine r_if_ne (tgt := 27) C dX7_right_20 (by decide) (fun c20 => absurd c20 ((fun q => q h0))) (fun c20 => ?_)
  refine r_iconst (v := 1) C dX7_right_23 (by decide) ?_
  refine r_goto (tgt := 28) C dX7_right_24 (by decide) ?_
  exact hR _ _ _ _ _ rfl dX7_right_28 ⟨rfl, rfl, rfl⟩
theorem c_right0 (w : Int32) (hw : w ≠ 0) (h0 : M 0 = 0) : mI G h ad yX7_right cX7_right 3 .boolean 0 [.int 0, .int w] M R (fun r M' R' => r = 0 ∧ M' = va_up M 0 w ∧ R' = R) := by
  refine mI.intro (by decide) (Nat.le_of_ble_eq_true rfl) (cat1 (xs := [0, w])) fun X C hR => ?_
  refine r_aload_n C dX7_right_0 rfl rfl ?_
  refine mg_thrown C dX7_right_1 ?_
  refine r_if_ne (tgt := 16) C dX7_right_4 (by decide) (fun c4 => absurd c4 ((fun q => q h0))) (fun c4 => ?_)
  refine r_iload_n C dX7_right_7 rfl rfl ?_
  refine r_if_ne (tgt := 16) C dX7_right_8 (by decide) (fun c8 => absurd c8 ((fun q => q rfl))) (fun c8 => ?_)
  refine r_aload_n C dX7_right_11 rfl rfl ?_
  refine r_iload_n C dX7_right_12 rfl rfl ?_
  refine mp_thrown C dX7_right_13 ?_
  refine r_aload_n C dX7_right_16 rfl rfl ?_
  refine mg_thrown C dX7_right_17 ?_
  refine r_if_ne (tgt := 27) C dX7_right_20 (by decide) (fun c20 => ?_) (fun c20 => absurd c20 (hw))
  refine r_iconst (v := 0) C dX7_right_27 (by decide) ?_
  exact hR _ _ _ _ _ rfl dX7_right_28 ⟨rfl, rfl, rfl⟩
/-- a row's place -/
theorem c_crossing {j z : Nat} (kk jj : Int32) (hj : isPat R kk → kk = nI j ∧ j < 8 ∧ R 6 j = nI z ∧ z ≤ 300) : mI G h ad yX7_crossing cX7_crossing 3 .int 2 [.int kk, .int jj] M R (fun r M' R' => R' = R ∧ ((isPat R kk ∧ ∃ i : Nat, i < z ∧ jj = nI i ∧ r = R 7 (300 * j + i) ∧ M' = va_up M 0 0) ∨ ((¬ isPat R kk ∨ ∀ i : Nat, i < z → jj ≠ nI i) ∧ r = 0 ∧ M' = va_up M 0 1))) := by
  refine mI.intro (by decide) (Nat.le_of_ble_eq_true rfl) (cat1 (xs := [kk, jj])) fun X C hR => ?_
  refine r_aload_n C dX7_crossing_0 rfl rfl ?_
  refine r_iload_n C dX7_crossing_1 rfl rfl ?_
  refine m_calli C (c_isPattern G h ad M R kk) kM_isPattern dX7_crossing_2 rfl (by decide) (by decide) (by decide) (by decide) rfl rfl (fun r M1 R1 hp => ?_)
  obtain ⟨rfl, ⟨hpat, rfl, rfl⟩ | ⟨hpat, rfl, rfl⟩⟩ := hp
  · obtain ⟨rfl, hj8, hz, hz3⟩ := hj hpat
    have j27 : (∀ i : Nat, i < z → jj ≠ nI i) → V X 0 0 27 (ent [.ref h, .int (nI j), .int jj] 3) [.ref h] (mW G h ad (va_up M 0 0) R1) := by
      intro hno
      refine r_iconst (v := 0) C dX7_crossing_27 (by decide) ?_
      refine r_iconst (v := 1) C dX7_crossing_28 (by decide) ?_
      refine m_calli C (c_right0 G h ad _ _ 1 (by decide) rfl) kM_right dX7_crossing_29 rfl (by decide) (by decide) (by decide) (by decide) rfl rfl (fun r M1 R2 hp => ?_)
      obtain ⟨rfl, rfl, rfl⟩ := hp
      refine r_if_eq (tgt := 50) C dX7_crossing_32 (by decide) (fun c32 => ?_) (fun c32 => absurd c32 ((fun q => q rfl)))
      refine r_iconst (v := 0) C dX7_crossing_50 (by decide) ?_
      exact hR _ _ _ _ _ rfl dX7_crossing_51 ⟨rfl, Or.inr ⟨Or.inr hno, rfl, up_up⟩⟩
    refine r_if_eq (tgt := 50) C dX7_crossing_5 (by decide) (fun c5 => absurd c5 ((by decide))) (fun c5 => ?_)
    refine r_aload_n C dX7_crossing_8 rfl rfl ?_
    refine r_iload_n C dX7_crossing_9 rfl rfl ?_
    refine r_if_lt (tgt := 27) C dX7_crossing_10 (by decide) (fun c10 => ?_) (fun c10 => ?_)
    · exact j27 (fun i hi e => by subst e; first | exact absurd c10 (nI_pos (by omega)) | (rw [nI_leI (by omega) (by omega)] at c20; omega))
    · refine r_iload_n C dX7_crossing_13 rfl rfl ?_
      refine r_aload_n C dX7_crossing_14 rfl rfl ?_
      refine mg_sizes C dX7_crossing_15 ?_
      refine r_iload_n C dX7_crossing_18 rfl rfl ?_
      refine ml_sizes C dX7_crossing_19 (vp_in_nI hj8 (by decide)) ?_
      rw [nI_clamp (by omega), hz]
      refine r_icmp_ge (tgt := 27) C dX7_crossing_20 (by decide) (fun c20 => ?_) (fun c20 => ?_)
      · exact j27 (fun i hi e => by subst e; first | exact absurd c10 (nI_pos (by omega)) | (rw [nI_leI (by omega) (by omega)] at c20; omega))
      · obtain ⟨i, hi31, rfl⟩ := nI_of c10
        rw [nI_leI (by omega) (by omega)] at c20
        refine r_iconst (v := 1) C dX7_crossing_23 (by decide) ?_
        refine r_goto (tgt := 28) C dX7_crossing_24 (by decide) ?_
        refine r_iconst (v := 1) C dX7_crossing_28 (by decide) ?_
        refine m_calli C (c_right1 G h ad _ _ 1 rfl) kM_right dX7_crossing_29 rfl (by decide) (by decide) (by decide) (by decide) rfl rfl (fun r M1 R2 hp => ?_)
        obtain ⟨rfl, rfl, rfl⟩ := hp
        refine r_if_eq (tgt := 50) C dX7_crossing_32 (by decide) (fun c32 => absurd c32 ((by decide))) (fun c32 => ?_)
        refine r_aload_n C dX7_crossing_35 rfl rfl ?_
        refine mg_rows C dX7_crossing_36 ?_
        refine r_sipush (v := 300) C dX7_crossing_39 (by decide) ?_
        refine r_iload_n C dX7_crossing_42 rfl rfl ?_
        refine r_imul C dX7_crossing_43 ?_
        refine r_iload_n C dX7_crossing_44 rfl rfl ?_
        refine r_iadd C dX7_crossing_45 ?_
        show V X 0 0 46 _ [.int (nI 300 * nI j + nI i), .ref (ad 7)] _
        rw [pk_mul, nI_add]
        refine ml_rows C dX7_crossing_46 (vp_in_nI (show 300 * j + i < 2400 by omega) (by decide)) ?_
        rw [nI_clamp (by omega)]
        refine r_goto (tgt := 51) C dX7_crossing_47 (by decide) ?_
        exact hR _ _ _ _ _ rfl dX7_crossing_51 ⟨rfl, Or.inl ⟨hpat, i, by omega, rfl, rfl, rfl⟩⟩
  · refine r_if_eq (tgt := 50) C dX7_crossing_5 (by decide) (fun c5 => ?_) (fun c5 => absurd c5 ((fun q => q rfl)))
    refine r_iconst (v := 0) C dX7_crossing_50 (by decide) ?_
    exact hR _ _ _ _ _ rfl dX7_crossing_51 ⟨rfl, Or.inr ⟨Or.inl hpat, rfl, rfl⟩⟩
theorem c_isPlace {j s : Nat} (pp : Int32) (hj : j < 8) (hs : R 5 j = nI s) (hs7 : s ≤ 7) (h0 : M 0 = 0) : mI G h ad yX7_isPlace cX7_isPlace 3 .boolean 1 [.int (nI j), .int pp] M R (fun r M' R' => R' = R ∧ ((∃ i : Nat, 1 ≤ i ∧ i ≤ s ∧ pp = nI i ∧ r = 1 ∧ M' = M) ∨ ((∀ i : Nat, 1 ≤ i → i ≤ s → pp ≠ nI i) ∧ r = 0 ∧ M' = va_up M 0 1))) := by
  refine mI.intro (by decide) (Nat.le_of_ble_eq_true rfl) (cat1 (xs := [nI j, pp])) fun X C hR => ?_
  have j20 : (∀ i : Nat, 1 ≤ i → i ≤ s → pp ≠ nI i) → V X 0 0 20 (ent [.ref h, .int (nI j), .int pp] 3) [.ref h] (mW G h ad M R) := by
    intro hno
    refine r_iconst (v := 0) C dX7_isPlace_20 (by decide) ?_
    refine r_iconst (v := 1) C dX7_isPlace_21 (by decide) ?_
    refine m_calli C (c_right0 G h ad _ _ 1 (by decide) h0) kM_right dX7_isPlace_22 rfl (by decide) (by decide) (by decide) (by decide) rfl rfl (fun r M1 R2 hp => ?_)
    obtain ⟨rfl, rfl, rfl⟩ := hp
    exact hR _ _ _ _ _ rfl dX7_isPlace_25 ⟨rfl, Or.inr ⟨hno, rfl, rfl⟩⟩
  have c1 : (1 : Int32) = nI 1 := rfl
  refine r_aload_n C dX7_isPlace_0 rfl rfl ?_
  refine r_iload_n C dX7_isPlace_1 rfl rfl ?_
  refine r_iconst (v := 1) C dX7_isPlace_2 (by decide) ?_
  refine r_icmp_lt (tgt := 20) C dX7_isPlace_3 (by decide) (fun c3 => ?_) (fun c3 => ?_)
  · exact j20 (fun i hi1 hi2 e => by subst e; first | (rw [c1, nI_ltI (by omega) (by omega)] at c3; omega) | (rw [nI_ltI (by omega) (by omega)] at c13; omega))
  · refine r_iload_n C dX7_isPlace_6 rfl rfl ?_
    refine r_aload_n C dX7_isPlace_7 rfl rfl ?_
    refine mg_straws C dX7_isPlace_8 ?_
    refine r_iload_n C dX7_isPlace_11 rfl rfl ?_
    refine ml_straws C dX7_isPlace_12 (vp_in_nI hj (by decide)) ?_
    rw [nI_clamp (by omega), hs]
    refine r_icmp_gt (tgt := 20) C dX7_isPlace_13 (by decide) (fun c13 => ?_) (fun c13 => ?_)
    · exact j20 (fun i hi1 hi2 e => by subst e; first | (rw [c1, nI_ltI (by omega) (by omega)] at c3; omega) | (rw [nI_ltI (by omega) (by omega)] at c13; omega))
    · obtain ⟨i, hi31, rfl⟩ := nI_of (x := pp) (fun q => c3 (Int32.lt_of_lt_of_le q (by decide)))
      rw [c1, nI_ltI (by omega) (by omega)] at c3
      rw [nI_ltI (by omega) (by omega)] at c13
      refine r_iconst (v := 1) C dX7_isPlace_16 (by decide) ?_
      refine r_goto (tgt := 21) C dX7_isPlace_17 (by decide) ?_
      refine r_iconst (v := 1) C dX7_isPlace_21 (by decide) ?_
      refine m_calli C (c_right1 G h ad _ _ 1 h0) kM_right dX7_isPlace_22 rfl (by decide) (by decide) (by decide) (by decide) rfl rfl (fun r M1 R2 hp => ?_)
      obtain ⟨rfl, rfl, rfl⟩ := hp
      exact hR _ _ _ _ _ rfl dX7_isPlace_25 ⟨rfl, Or.inl ⟨i, by omega, by omega, rfl, rfl, rfl⟩⟩
def okB (b : Nat) (f w q : Int32) : Prop := b ≠ 40 ∧ ¬ f < 0 ∧ ¬ 31 < f ∧ ¬ w < 1 ∧ ¬ 9 < w ∧ ¬ q < 1 ∧ q ≤ 5000
theorem c_bundle {b : Nat} (f w q : Int32) (hb : M 28 = nI b) (hb40 : b ≤ 40) : mI G h ad yX7_bundle cX7_bundle 4 .int 0 [.int f, .int w, .int q] M R (fun r M' R' => (okB b f w q ∧ r = nI b ∧ M' = va_up (va_up M 0 0) 28 (nI (b + 1)) ∧ R' = va_up (va_up (va_up R 31 (upd (R 31) b f)) 32 (upd (R 32) b w)) 33 (upd (R 33) b q)) ∨ (¬ okB b f w q ∧ r = -1 ∧ M' = va_up M 0 0 ∧ R' = R)) := by
  refine mI.intro (by decide) (Nat.le_of_ble_eq_true rfl) (cat1 (xs := [f, w, q])) fun X C hR => ?_
  have j47 : ¬ okB b f w q → V X 0 0 47 (ent [.ref h, .int f, .int w, .int q] 4) [] (mW G h ad (va_up M 0 0) R) := by
    intro hno
    refine r_iconst (v := -1) C dX7_bundle_47 (by decide) ?_
    exact hR _ _ _ _ _ rfl dX7_bundle_48 (Or.inr ⟨hno, rfl, rfl, rfl⟩)
  have hcl : (va_up M 0 0 28).toNatClampNeg = b := by show (M 28).toNatClampNeg = b; rw [hb, nI_clamp (by omega)]
  refine r_aload_n C dX7_bundle_0 rfl rfl ?_
  refine r_iconst (v := 0) C dX7_bundle_1 (by decide) ?_
  refine mp_thrown C dX7_bundle_2 ?_
  refine r_aload_n C dX7_bundle_5 rfl rfl ?_
  refine mg_bundles C dX7_bundle_6 ?_
  show V X 0 0 9 _ [.int (M 28)] _
  rw [hb]
  refine r_bipush (v := 40) C dX7_bundle_9 (by decide) ?_
  refine r_icmp_eq (tgt := 47) C dX7_bundle_11 (by decide) (fun c11 => ?_) (fun c11 => ?_)
  · exact j47 (fun o => by first | exact o.1 (by have e : nI b = nI 40 := c11; rw [nI_eq (by omega) (by omega)] at e; exact e) | exact o.2.1 c15 | exact o.2.2.1 c21 | exact o.2.2.2.1 c26 | exact o.2.2.2.2.1 c32 | exact o.2.2.2.2.2.1 c37 | exact c44 o.2.2.2.2.2.2)
  · have hb' : b ≠ 40 := fun e => c11 (by rw [e]; rfl)
    refine r_iload_n C dX7_bundle_14 rfl rfl ?_
    refine r_if_lt (tgt := 47) C dX7_bundle_15 (by decide) (fun c15 => ?_) (fun c15 => ?_)
    · exact j47 (fun o => by first | exact o.1 (by have e : nI b = nI 40 := c11; rw [nI_eq (by omega) (by omega)] at e; exact e) | exact o.2.1 c15 | exact o.2.2.1 c21 | exact o.2.2.2.1 c26 | exact o.2.2.2.2.1 c32 | exact o.2.2.2.2.2.1 c37 | exact c44 o.2.2.2.2.2.2)
    · refine r_iload_n C dX7_bundle_18 rfl rfl ?_
      refine r_bipush (v := 31) C dX7_bundle_19 (by decide) ?_
      refine r_icmp_gt (tgt := 47) C dX7_bundle_21 (by decide) (fun c21 => ?_) (fun c21 => ?_)
      · exact j47 (fun o => by first | exact o.1 (by have e : nI b = nI 40 := c11; rw [nI_eq (by omega) (by omega)] at e; exact e) | exact o.2.1 c15 | exact o.2.2.1 c21 | exact o.2.2.2.1 c26 | exact o.2.2.2.2.1 c32 | exact o.2.2.2.2.2.1 c37 | exact c44 o.2.2.2.2.2.2)
      · refine r_iload_n C dX7_bundle_24 rfl rfl ?_
        refine r_iconst (v := 1) C dX7_bundle_25 (by decide) ?_
        refine r_icmp_lt (tgt := 47) C dX7_bundle_26 (by decide) (fun c26 => ?_) (fun c26 => ?_)
        · exact j47 (fun o => by first | exact o.1 (by have e : nI b = nI 40 := c11; rw [nI_eq (by omega) (by omega)] at e; exact e) | exact o.2.1 c15 | exact o.2.2.1 c21 | exact o.2.2.2.1 c26 | exact o.2.2.2.2.1 c32 | exact o.2.2.2.2.2.1 c37 | exact c44 o.2.2.2.2.2.2)
        · refine r_iload_n C dX7_bundle_29 rfl rfl ?_
          refine r_bipush (v := 9) C dX7_bundle_30 (by decide) ?_
          refine r_icmp_gt (tgt := 47) C dX7_bundle_32 (by decide) (fun c32 => ?_) (fun c32 => ?_)
          · exact j47 (fun o => by first | exact o.1 (by have e : nI b = nI 40 := c11; rw [nI_eq (by omega) (by omega)] at e; exact e) | exact o.2.1 c15 | exact o.2.2.1 c21 | exact o.2.2.2.1 c26 | exact o.2.2.2.2.1 c32 | exact o.2.2.2.2.2.1 c37 | exact c44 o.2.2.2.2.2.2)
          · refine r_iload_n C dX7_bundle_35 rfl rfl ?_
            refine r_iconst (v := 1) C dX7_bundle_36 (by decide) ?_
            refine r_icmp_lt (tgt := 47) C dX7_bundle_37 (by decide) (fun c37 => ?_) (fun c37 => ?_)
            · exact j47 (fun o => by first | exact o.1 (by have e : nI b = nI 40 := c11; rw [nI_eq (by omega) (by omega)] at e; exact e) | exact o.2.1 c15 | exact o.2.2.1 c21 | exact o.2.2.2.1 c26 | exact o.2.2.2.2.1 c32 | exact o.2.2.2.2.2.1 c37 | exact c44 o.2.2.2.2.2.2)
            · refine r_iload_n C dX7_bundle_40 rfl rfl ?_
              refine r_sipush (v := 5000) C dX7_bundle_41 (by decide) ?_
              refine r_icmp_le (tgt := 49) C dX7_bundle_44 (by decide) (fun c44 => ?_) (fun c44 => ?_)
              · refine r_aload_n C dX7_bundle_49 rfl rfl ?_
                refine mg_field C dX7_bundle_50 ?_
                refine r_aload_n C dX7_bundle_53 rfl rfl ?_
                refine mg_bundles C dX7_bundle_54 ?_
                refine r_iload_n C dX7_bundle_57 rfl rfl ?_
                refine ms_field C dX7_bundle_58 (by show vp_in (M 28) 40; rw [hb]; exact vp_in_nI (by omega) (by decide)) ?_
                refine r_aload_n C dX7_bundle_59 rfl rfl ?_
                refine mg_bundleWidth C dX7_bundle_60 ?_
                refine r_aload_n C dX7_bundle_63 rfl rfl ?_
                refine mg_bundles C dX7_bundle_64 ?_
                refine r_iload_n C dX7_bundle_67 rfl rfl ?_
                refine ms_bundleWidth C dX7_bundle_68 (by show vp_in (M 28) 40; rw [hb]; exact vp_in_nI (by omega) (by decide)) ?_
                refine r_aload_n C dX7_bundle_69 rfl rfl ?_
                refine mg_leftOf C dX7_bundle_70 ?_
                refine r_aload_n C dX7_bundle_73 rfl rfl ?_
                refine mg_bundles C dX7_bundle_74 ?_
                refine r_iload_n C dX7_bundle_77 rfl rfl ?_
                refine ms_leftOf C dX7_bundle_78 (by show vp_in (M 28) 40; rw [hb]; exact vp_in_nI (by omega) (by decide)) ?_
                rw [hcl]
                show V X 0 0 79 _ _ (mW G h ad (va_up M 0 0) (va_up (va_up (va_up R 31 (upd (R 31) b f)) 32 (upd (R 32) b w)) 33 (upd (R 33) b q)))
                refine r_aload_n C dX7_bundle_79 rfl rfl ?_
                refine r_dup C dX7_bundle_80 rfl ?_
                refine mg_bundles C dX7_bundle_81 ?_
                refine r_iconst (v := 1) C dX7_bundle_84 (by decide) ?_
                refine r_iadd C dX7_bundle_85 ?_
                show V X 0 0 86 _ [.int (M 28 + 1), .ref h] _
                rw [hb, nI_1]
                refine mp_bundles C dX7_bundle_86 ?_
                refine r_aload_n C dX7_bundle_89 rfl rfl ?_
                refine mg_bundles C dX7_bundle_90 ?_
                refine r_iconst (v := 1) C dX7_bundle_93 (by decide) ?_
                refine r_isub C dX7_bundle_94 ?_
                show V X 0 0 95 _ [.int (nI (b + 1) - 1)] _
                rw [nI_pred]
                exact hR _ _ _ _ _ rfl dX7_bundle_95 (Or.inl ⟨⟨hb', c15, c21, c26, c32, c37, c44⟩, rfl, rfl, rfl⟩)
              · exact j47 (fun o => by first | exact o.1 (by have e : nI b = nI 40 := c11; rw [nI_eq (by omega) (by omega)] at e; exact e) | exact o.2.1 c15 | exact o.2.2.1 c21 | exact o.2.2.2.1 c26 | exact o.2.2.2.2.1 c32 | exact o.2.2.2.2.2.1 c37 | exact c44 o.2.2.2.2.2.2)
theorem c_left {b : Nat} (x : Int32) (hb : M 28 = nI b) (hb40 : b ≤ 40) : mI G h ad yX7_left cX7_left 2 .int 1 [.int x] M R (fun r M' R' => R' = R ∧ ((∃ i : Nat, i < b ∧ x = nI i ∧ r = R 33 i ∧ M' = va_up M 0 0) ∨ ((∀ i : Nat, i < b → x ≠ nI i) ∧ r = 0 ∧ M' = va_up M 0 1))) := by
  refine mI.intro (by decide) (Nat.le_of_ble_eq_true rfl) (cat1 (xs := [x])) fun X C hR => ?_
  have j22 : (∀ i : Nat, i < b → x ≠ nI i) → V X 0 0 22 (ent [.ref h, .int x] 2) [.ref h] (mW G h ad (va_up M 0 0) R) := by
    intro hno
    refine r_iconst (v := 0) C dX7_left_22 (by decide) ?_
    refine r_iconst (v := 1) C dX7_left_23 (by decide) ?_
    refine m_calli C (c_right0 G h ad _ _ 1 (by decide) rfl) kM_right dX7_left_24 rfl (by decide) (by decide) (by decide) (by decide) rfl rfl (fun r M1 R2 hp => ?_)
    obtain ⟨rfl, rfl, rfl⟩ := hp
    refine r_if_eq (tgt := 39) C dX7_left_27 (by decide) (fun c27 => ?_) (fun c27 => absurd c27 ((fun q => q rfl)))
    refine r_iconst (v := 0) C dX7_left_39 (by decide) ?_
    exact hR _ _ _ _ _ rfl dX7_left_40 ⟨rfl, Or.inr ⟨hno, rfl, up_up⟩⟩
  refine r_aload_n C dX7_left_0 rfl rfl ?_
  refine r_iconst (v := 0) C dX7_left_1 (by decide) ?_
  refine mp_thrown C dX7_left_2 ?_
  refine r_aload_n C dX7_left_5 rfl rfl ?_
  refine r_iload_n C dX7_left_6 rfl rfl ?_
  refine r_if_lt (tgt := 22) C dX7_left_7 (by decide) (fun c7 => ?_) (fun c7 => ?_)
  · exact j22 (fun i hi e => by subst e; first | exact absurd c7 (nI_pos (by omega)) | (rw [nI_leI (by omega) (by omega)] at c15; omega))
  · refine r_iload_n C dX7_left_10 rfl rfl ?_
    refine r_aload_n C dX7_left_11 rfl rfl ?_
    refine mg_bundles C dX7_left_12 ?_
    show V X 0 0 15 _ [.int (M 28), .int x, .ref h] _
    rw [hb]
    refine r_icmp_ge (tgt := 22) C dX7_left_15 (by decide) (fun c15 => ?_) (fun c15 => ?_)
    · exact j22 (fun i hi e => by subst e; first | exact absurd c7 (nI_pos (by omega)) | (rw [nI_leI (by omega) (by omega)] at c15; omega))
    · obtain ⟨i, hi31, rfl⟩ := nI_of c7
      rw [nI_leI (by omega) (by omega)] at c15
      refine r_iconst (v := 1) C dX7_left_18 (by decide) ?_
      refine r_goto (tgt := 23) C dX7_left_19 (by decide) ?_
      refine r_iconst (v := 1) C dX7_left_23 (by decide) ?_
      refine m_calli C (c_right1 G h ad _ _ 1 rfl) kM_right dX7_left_24 rfl (by decide) (by decide) (by decide) (by decide) rfl rfl (fun r M1 R2 hp => ?_)
      obtain ⟨rfl, rfl, rfl⟩ := hp
      refine r_if_eq (tgt := 39) C dX7_left_27 (by decide) (fun c27 => absurd c27 ((by decide))) (fun c27 => ?_)
      refine r_aload_n C dX7_left_30 rfl rfl ?_
      refine mg_leftOf C dX7_left_31 ?_
      refine r_iload_n C dX7_left_34 rfl rfl ?_
      refine ml_leftOf C dX7_left_35 (vp_in_nI (show i < 40 by omega) (by decide)) ?_
      rw [nI_clamp (by omega)]
      refine r_goto (tgt := 40) C dX7_left_36 (by decide) ?_
      exact hR _ _ _ _ _ rfl dX7_left_40 ⟨rfl, Or.inl ⟨i, by omega, rfl, rfl, rfl⟩⟩
end M3
