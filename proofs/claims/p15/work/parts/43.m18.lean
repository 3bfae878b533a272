/-! the reference: untwined, about -/
theorem mix_ge {g f : Nat} (h : g ≤ f) : -nI g + nI f = nI (f - g) := by
  rw [Int32.add_comm, ← Int32.sub_eq_add_neg]
  exact pk_sub h
theorem mix_lt {g f : Nat} (h : f ≤ g) : -nI g + nI f = -nI (g - f) := by
  rw [← pk_sub h, Int32.neg_sub, Int32.add_comm, ← Int32.sub_eq_add_neg]
theorem mix_par {g f : Nat} (hg : g ≤ 600) (hf : f ≤ 600) : ((-nI g + nI f) - (-nI g + nI f) / 2 * 2 = 0 ↔ (g + f) % 2 = 0) := by
  rcases Nat.le_total g f with w | w
  · rw [mix_ge w]
    have e := pk_rem (a := f - g) (d := 2) (by omega) (by decide) (by decide)
    rw [show nI (f - g) - nI (f - g) / 2 * 2 = nI ((f - g) % 2) from e]
    have := nI_eq (a := (f - g) % 2) (b := 0) (by omega) (by decide)
    rw [show (0 : Int32) = nI 0 from rfl, this]
    omega
  · rw [mix_lt w, par_neg (g - f) (by omega)]
    omega
section M18
variable (G : Gx) (h : Nat) (ad : Nat → Nat) (M : Mt) (R : Rt)
theorem c_untwined (kk : Int32) (hP : PatsOK R) : mI G h ad yX7_untwined cX7_untwined 3 .int 5 [.int kk] M R (fun r M' R' => SamM M M' ∧ SamP R R' ∧ ((∃ j s z m, j < 8 ∧ kk = nI j ∧ PatOK R j s z ∧ 1 ≤ m ∧ m ≤ 12 ∧ m * z ≤ 600 ∧ evenAt (rowOf R j) s z m ∧ (∀ m', 1 ≤ m' → m' < m → ¬ evenAt (rowOf R j) s z m') ∧ r = nI m ∧ M' 0 = 0) ∨ (∃ j s z, j < 8 ∧ kk = nI j ∧ PatOK R j s z ∧ (∀ m, 1 ≤ m → m ≤ 12 → m * z ≤ 600 → ¬ evenAt (rowOf R j) s z m) ∧ r = -1 ∧ M' 0 = 0) ∨ (¬ isPat R kk ∧ r = 0 ∧ M' 0 = 1))) := by
  refine mI.intro (by decide) (Nat.le_of_ble_eq_true rfl) (cat1 (xs := [kk])) fun X C hR => ?_
  refine r_aload_n C dX7_untwined_0 rfl rfl ?_
  refine r_iload_n C dX7_untwined_1 rfl rfl ?_
  refine m_calli C (c_isPattern G h ad M R kk) kM_isPattern dX7_untwined_2 rfl (by decide) (by decide) (by decide) (by decide) rfl rfl (fun r M1 R1 hq => ?_)
  obtain ⟨rfl, ⟨hpat, rfl, rfl⟩ | ⟨hpat, rfl, rfl⟩⟩ := hq
  rotate_left
  · refine r_if_ne (tgt := 10) C dX7_untwined_5 (by decide) (fun c5 => absurd c5 ((fun q => q rfl))) (fun c5 => ?_)
    refine r_iconst (v := 0) C dX7_untwined_8 (by decide) ?_
    exact hR _ _ _ _ _ rfl dX7_untwined_9 ⟨SamM.rf.up (by omega), SamP.rf, Or.inr (Or.inr ⟨hpat, rfl, rfl⟩)⟩
  obtain ⟨j, s, z, hj, rfl, hp⟩ := isPat_at hpat hP
  obtain ⟨hs5, hs2, hs7, hz, hz3, hok⟩ := id hp
  have stop : ∀ (M1 : Mt) (R2 : Rt) (o2 : Option Value), SamM M M1 → SamP R1 R2 → M1 0 = 0 → (∀ m, 1 ≤ m → m ≤ 12 → m * z ≤ 600 → ¬ evenAt (rowOf R1 j) s z m) → V X 0 0 62 [some (.ref h), some (.int (nI j)), o2] [] (mW G h ad M1 R2) := by
    intro M1 R2 o2 h1 h2 h3 h4
    refine r_iconst (v := -1) C dX7_untwined_62 (by decide) ?_
    exact hR _ _ _ _ _ rfl dX7_untwined_63 ⟨h1, h2, Or.inr (Or.inl ⟨j, s, z, hj, rfl, hp, h4, rfl, h3⟩)⟩
  have key : ∀ (f m : Nat) (M1 : Mt) (R2 : Rt), m + f = 13 → 1 ≤ m → SamM M M1 → SamP R1 R2 → M1 0 = 0 → (∀ m', 1 ≤ m' → m' < m → ¬ evenAt (rowOf R1 j) s z m') → V X 0 0 12 [some (.ref h), some (.int (nI j)), some (.int (nI m))] [] (mW G h ad M1 R2) := by
    intro f
    induction f with
    | zero =>
      intro m M1 R2 hm hm1 h1 h2 h3 h4
      have hm13 : m = 13 := by omega
      subst hm13
      refine r_iload_n C dX7_untwined_12 rfl rfl ?_
      refine r_bipush (v := 12) C dX7_untwined_13 (by decide) ?_
      refine r_icmp_gt (tgt := 62) C dX7_untwined_15 (by decide) (fun c15 => ?_) (fun c15 => absurd c15 ((fun q => q (by decide))))
      exact stop M1 R2 _ h1 h2 h3 (fun m w1 w2 _ => h4 m w1 (by omega))
    | succ f ih =>
      intro m M1 R2 hm hm1 h1 h2 h3 h4
      have hmz : m * z ≤ 12 * 300 := Nat.mul_le_mul (by omega) hz3
      have c600 : (600 : Int32) = nI 600 := rfl
      have j38 : m * z ≤ 600 → ∀ (M2 : Mt) (R3 : Rt), FormOut (rowOf R1 j) s z (z * m) M1 M2 R2 R3 → V X 0 0 38 [some (.ref h), some (.int (nI j)), some (.int (nI m))] [] (mW G h ad M2 R3) := by
        intro c29 M2 R3 hq
        obtain ⟨n, first, B, hnf, hM19, hM20, hM0, hSM, hSP, hSeq, -⟩ := hq.get
        have hzm : z * m ≤ 600 := by rw [Nat.mul_comm]; omega
        have hgl := ngd_le (rowOf R1 j) z (z * m) (z * m)
        have hev : evenAt (rowOf R1 j) s z m ↔ n = first ∧ (ngd (rowOf R1 j) z (z * m) (z * m) + first) % 2 = 0 := by
          constructor
          · rintro ⟨n2, B2, w1, w2⟩
            obtain ⟨-, e1, e2⟩ := NFof.one hs7 (by rcases Nat.eq_zero_or_pos z with q | q; right; rw [q, Nat.zero_mul]; left; exact q) hok hnf w1
            subst e1; subst e2
            exact ⟨rfl, w2⟩
          · rintro ⟨e, w⟩
            subst e
            exact ⟨n, B, hnf, w⟩
        have hfn := hnf.1
        have hna := hnf.2.1
        have nx : ¬ evenAt (rowOf R1 j) s z m → V X 0 0 56 [some (.ref h), some (.int (nI j)), some (.int (nI m))] [] (mW G h ad M2 R3) := by
          intro hno
          refine r_iinc (v := _ + 1) C dX7_untwined_56 rfl (by rfl) (by decide) ?_
          rw [nI_1]
          refine r_goto (tgt := 12) C dX7_untwined_59 (by decide) ?_
          exact ih (m + 1) M2 R3 (by omega) (by omega) (h1.tr hSM) (h2.tr hSP) (hM0.trans h3) (fun m' w1 w2 => by
            by_cases e : m' = m
            · subst e; exact hno
            · exact h4 m' w1 (by omega))
        refine r_aload_n C dX7_untwined_38 rfl rfl ?_
        refine mg_perms C dX7_untwined_39 ?_
        rw [hM19]
        refine r_if_ne (tgt := 56) C dX7_untwined_42 (by decide) (fun c42 => ?_) (fun c42 => ?_)
        · first
            | exact nx (fun w => c51 ((mix_par (by omega) (by omega)).mpr (hev.mp w).2))
            | exact nx (fun w => c42 (by rw [(hev.mp w).1, Nat.sub_self]; rfl))
        · have e0 : n - first = 0 := (nI_eq (b := 0) (by omega) (by decide)).mp c42
          refine r_aload_n C dX7_untwined_45 rfl rfl ?_
          refine mg_power C dX7_untwined_46 ?_
          rw [hM20]
          refine r_iconst (v := 2) C dX7_untwined_49 (by decide) ?_
          refine r_irem C dX7_untwined_50 ((by decide)) ?_
          show V X 0 0 51 _ [.int ((-nI (ngd (rowOf R1 j) z (z * m) (z * m)) + nI first) - (-nI (ngd (rowOf R1 j) z (z * m) (z * m)) + nI first) / 2 * 2)] _
          refine r_if_ne (tgt := 56) C dX7_untwined_51 (by decide) (fun c51 => ?_) (fun c51 => ?_)
          · first
              | exact nx (fun w => c51 ((mix_par (by omega) (by omega)).mpr (hev.mp w).2))
              | exact nx (fun w => c42 (by rw [(hev.mp w).1, Nat.sub_self]; rfl))
          · refine r_iload_n C dX7_untwined_54 rfl rfl ?_
            exact hR _ _ _ _ _ rfl dX7_untwined_55 ⟨h1.tr hSM, h2.tr hSP, Or.inl ⟨j, s, z, m, hj, rfl, hp, hm1, by omega, by omega, hev.mpr ⟨by omega, (mix_par (by omega) (by omega)).mp c51⟩, h4, rfl, hM0.trans h3⟩⟩
      refine r_iload_n C dX7_untwined_12 rfl rfl ?_
      refine r_bipush (v := 12) C dX7_untwined_13 (by decide) ?_
      refine r_icmp_gt (tgt := 62) C dX7_untwined_15 (by decide) (fun c15 => absurd c15 ((Int32.not_lt.mpr (nI_le (a := m) (b := 12) (by omega) (by decide))))) (fun c15 => ?_)
      refine r_iload_n C dX7_untwined_18 rfl rfl ?_
      refine r_aload_n C dX7_untwined_19 rfl rfl ?_
      refine mg_sizes C dX7_untwined_20 ?_
      refine r_iload_n C dX7_untwined_23 rfl rfl ?_
      refine ml_sizes C dX7_untwined_24 (vp_in_nI hj (by decide)) ?_
      rw [nI_clamp (by omega), h2 6 (by omega), hz]
      refine r_imul C dX7_untwined_25 ?_
      refine r_sipush (v := 600) C dX7_untwined_26 (by decide) ?_
      rw [pk_mul, c600]
      refine r_icmp_gt (tgt := 62) C dX7_untwined_29 (by decide) (fun c29 => ?_) (fun c29 => ?_)
      · exact stop M1 R2 _ h1 h2 h3 (fun m' w1 w2 w3 => by
          rw [nI_ltI (by omega) (by omega)] at c29
          by_cases e : m' < m
          · exact h4 m' w1 e
          · have := Nat.mul_le_mul (show m ≤ m' by omega) (Nat.le_refl z)
            omega)
      · rw [nI_ltI (by omega) (by omega)] at c29
        refine r_aload_n C dX7_untwined_32 rfl rfl ?_
        refine r_iload_n C dX7_untwined_33 rfl rfl ?_
        refine r_iload_n C dX7_untwined_34 rfl rfl ?_
        refine m_callv C (c_form G h ad M1 R2 (T := m) hj (h2.pat hp) (by omega) (by rw [Nat.mul_comm]; omega)) kM_form dX7_untwined_35 rfl (by decide) (by decide) (by decide) (by decide) rfl rfl (fun M2 R3 hq => ?_)
        rw [h2.row] at hq
        exact j38 (by omega) M2 R3 hq
  refine r_if_ne (tgt := 10) C dX7_untwined_5 (by decide) (fun c5 => ?_) (fun c5 => absurd c5 ((by decide)))
  refine r_iconst (v := 1) C dX7_untwined_10 (by decide) ?_
  refine r_istore_n C dX7_untwined_11 rfl (by decide) ?_
  exact key 12 1 _ R1 (by omega) (Nat.le_refl _) (SamM.rf.up (by omega)) SamP.rf rfl (fun m' w1 w2 => by omega)
end M18
