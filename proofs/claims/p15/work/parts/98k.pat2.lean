/-! about, factor, alike, untwined: the form weakly -/
theorem pl_two {G : Gx} {pb : Nat → Option PbT} {j l : Nat} {b b' : PbT} {w P : va_W} (hj : j < 8) (hl : l < 8) (hne : l ≠ j) (hb : pb j = some b) (hb' : pb l = some b') : ∃ P', (w ++ (plB G pb ++ P)).Perm (pW G b.1 b.2.1 b.2.2 zQ ++ (pW G b'.1 b'.2.1 b'.2.2 zQ ++ (w ++ P'))) := by
  have hm : l ∈ (List.range 8).erase j := List.nodup_range.mem_erase_iff.mpr ⟨hne, List.mem_range.mpr hl⟩
  have h2 : (plO G pb j).Perm (pbW G (pb l) ++ (((List.range 8).erase j).erase l).flatMap (fun k => pbW G (pb k))) := (List.perm_cons_erase hm).flatMap_right (fun k => pbW G (pb k))
  rw [hb'] at h2
  refine ⟨(((List.range 8).erase j).erase l).flatMap (fun k => pbW G (pb k)) ++ P, (pl_front hj hb).trans ?_⟩
  refine List.Perm.append_left _ ?_
  refine ((h2.append_right P).append_left w).trans ?_
  rw [List.append_assoc]
  exact List.perm_append_comm_assoc w _ _
def fsOf (A : Nat → Nat) (n : Nat → Int32) : List Value := [.int (n 0), .ref (A 18), .int (n 2), .int (n 3), .int (n 4), .int (n 5), .int (n 6), .ref (A 19), .ref (A 20)]
section PM2
variable (G : Gx) (A : Nat → Nat) (P : va_W) (N : Nt) (R : Rt) (Q : Qt) (T : Rt) (pb : Nat → Option PbT)
theorem w_babout (hI : PtI pb (Q 2) T) (kk ww : Int32) : XI G yX6_about (.code yX6_about cX6_about 4 (some .int)) 7 2 12 [.ref (A 0), .int kk, .int ww] (bW G A N R Q ++ (plB G pb ++ P)) (¬ isPat T kk ∨ ∀ w, w ≤ 6 → ww ≠ nI w, nse, bW G A N R Q ++ (plB G pb ++ P)) (S := Nat → Option PbT) (fun r pb' => PtI pb' (Q 2) T ∧ ∃ j s z w, j < 8 ∧ kk = nI j ∧ PatOK T j s z ∧ w ≤ 6 ∧ ww = nI w ∧ (w ≤ 4 → abQ (rowOf T j) s z w r)) (fun pb' => bW G A N R Q ++ (plB G pb' ++ P)) := by
  refine XI.intro (by decide) (Nat.le_of_ble_eq_true rfl) (cat1 (xs := [kk, ww])) fun X C hE hR hO hN => ?_
  rcases pat_case hI kk with ⟨h1, h2⟩ | ⟨j, b, s, z, hj, rfl, hb, hQ, hq, hip, hp, hK, hF⟩
  · refine r_aload_n C dX6_about_0 rfl rfl ?_
    refine r_iload_n C dX6_about_1 rfl rfl ?_
    refine a_callXq C hE (c_knownPattern G A (plB G pb ++ P) N R Q kk) kcX6_X6_knownPattern dX6_about_2 rfl (by decide) (by decide) (by decide) (Nat.le_of_ble_eq_true rfl) 0 rfl (ci := 6) rfl rfl rfl (fun q => hO _ _ _ _ _ (by decide) (by decide) (Or.inl h2)) (fun o u hu => absurd (hu.1.trans h1) hu.2)
  · refine r_aload_n C dX6_about_0 rfl rfl ?_
    refine r_iload_n C dX6_about_1 rfl rfl ?_
    refine a_callXq C hE (c_knownPattern G A (plB G pb ++ P) N R Q (nI j)) kcX6_X6_knownPattern dX6_about_2 rfl (by decide) (by decide) (by decide) (Nat.le_of_ble_eq_true rfl) 0 rfl (ci := 6) rfl rfl rfl (fun q => absurd (hq.symm.trans q) (fun w => nomatch w)) (fun o u hu => ?_)
    skip
    rw [hq] at hu
    obtain ⟨rfl, -⟩ := hu
    obtain ⟨⟨k3, s2, s7⟩, ⟨k2, z3⟩, -, -, -, k4, ⟨h, hh, h4, k5⟩, k6, k7, -⟩ := id hK
    refine V.perm (pl_front hj hb) ?_
    have j75 : ∀ v : Int32, ww = nI 3 → (v = 0 ∨ v = 1) → ((HoldsP (rowOf T j) z s ∧ v = 1) ∨ (¬ HoldsP (rowOf T j) z s ∧ v = 0)) → V X 1 6 75 [some (.ref (A 0)), some (.int (nI j)), some (.int ww), some (.ref (b.1 0))] [.int v] (pW G b.1 b.2.1 b.2.2 zQ ++ (bW G A N R Q ++ (plO G pb j ++ P))) := by
      intro v hw hv hh
      refine V.perm (pl_front hj hb).symm ?_
      exact hR _ _ _ _ _ pb (by decide) (by decide) rfl ⟨hI, j, s, z, 3, hj, rfl, hp, by decide, hw, fun _ => Or.inr (Or.inr (Or.inr (Or.inl ⟨rfl, hh⟩)))⟩ dX6_about_75
    refine r_astore_n C dX6_about_5 rfl (by decide) ?_
    refine r_iload_n C dX6_about_6 rfl rfl ?_
    refine r_tab C dX6_about_7 (by decide) (by decide) (fun i7 off7 ho7 hx7 => ?_) (fun hx7 => ⟨97, by decide, ?_⟩)
    · have hi7 : i7 < 7 := (Array.getElem?_eq_some_iff.mp ho7).1
      rcases (show i7 = 0 ∨ i7 = 1 ∨ i7 = 2 ∨ i7 = 3 ∨ i7 = 4 ∨ i7 = 5 ∨ i7 = 6 by omega) with rfl | rfl | rfl | rfl | rfl | rfl | rfl
      · cases ho7
        refine ⟨48, by decide, ?_⟩
        refine r_aload_n C dX6_about_48 rfl rfl ?_
        refine pg_X6_118 C dX6_about_49 ?_
        refine V.perm (pl_front hj hb).symm ?_
        exact hR _ _ _ _ _ pb (by decide) (by decide) rfl ⟨hI, j, s, z, 0, hj, rfl, hp, by decide, hx7, fun _ => Or.inl ⟨rfl, k3⟩⟩ dX6_about_52
      · cases ho7
        refine ⟨53, by decide, ?_⟩
        refine r_aload_n C dX6_about_53 rfl rfl ?_
        refine pg_X6_121 C dX6_about_54 ?_
        refine V.perm (pl_front hj hb).symm ?_
        exact hR _ _ _ _ _ pb (by decide) (by decide) rfl ⟨hI, j, s, z, 1, hj, rfl, hp, by decide, hx7, fun _ => Or.inr (Or.inl ⟨rfl, h, hh, h4, k5⟩)⟩ dX6_about_57
      · cases ho7
        refine ⟨58, by decide, ?_⟩
        refine r_aload_n C dX6_about_58 rfl rfl ?_
        refine pg_X6_124 C dX6_about_59 ?_
        refine V.perm (pl_front hj hb).symm ?_
        exact hR _ _ _ _ _ pb (by decide) (by decide) rfl ⟨hI, j, s, z, 2, hj, rfl, hp, by decide, hx7, fun _ => Or.inr (Or.inr (Or.inl ⟨rfl, k6⟩))⟩ dX6_about_62
      · cases ho7
        refine ⟨63, by decide, ?_⟩
        refine r_aload_n C dX6_about_63 rfl rfl ?_
        refine pg_X6_127 C dX6_about_64 ?_
        refine r_if_eq (tgt := 74) C dX6_about_67 (by decide) (fun c67 => ?_) (fun c67 => ?_)
        · refine r_iconst (v := 0) C dX6_about_74 (by decide) ?_
          first | exact j75 1 hx7 (Or.inr rfl) (Or.inl ⟨by rcases k7 with w | w; exact w.2; exact absurd w.1 c67, rfl⟩) | exact j75 0 hx7 (Or.inl rfl) (Or.inr ⟨by rcases k7 with w | w; exact absurd (c67.symm.trans w.1) (by decide); exact w.2, rfl⟩)
        · refine r_iconst (v := 1) C dX6_about_70 (by decide) ?_
          refine r_goto (tgt := 75) C dX6_about_71 (by decide) ?_
          first | exact j75 1 hx7 (Or.inr rfl) (Or.inl ⟨by rcases k7 with w | w; exact w.2; exact absurd w.1 c67, rfl⟩) | exact j75 0 hx7 (Or.inl rfl) (Or.inr ⟨by rcases k7 with w | w; exact absurd (c67.symm.trans w.1) (by decide); exact w.2, rfl⟩)
      · cases ho7
        refine ⟨76, by decide, ?_⟩
        refine r_aload_n C dX6_about_76 rfl rfl ?_
        refine pg_X6_131 C dX6_about_77 ?_
        refine V.perm (pl_front hj hb).symm ?_
        exact hR _ _ _ _ _ pb (by decide) (by decide) rfl ⟨hI, j, s, z, 4, hj, rfl, hp, by decide, hx7, fun _ => Or.inr (Or.inr (Or.inr (Or.inr (Or.inl ⟨rfl, k4⟩))))⟩ dX6_about_80
      · cases ho7
        refine ⟨81, by decide, ?_⟩
        refine r_aload_n C dX6_about_81 rfl rfl ?_
        refine a_callXq C hE (w_pform G b.1 _ b.2.1 b.2.2 zQ hK hF) kcX6_X3_form dX6_about_82 rfl (by decide) (by decide) (by decide) (Nat.le_of_ble_eq_true rfl) 0 rfl (ci := 3) rfl rfl rfl (fun q => q.elim) (fun o u hu => ?_)
        obtain ⟨rfl, hF', hK'⟩ := hu
        refine pg_X6_138_f C dX6_about_85 ?_
        refine V.perm (pl_back (b := (b.1, u.1, u.2)) hj) ?_
        exact hR _ _ _ _ _ (va_up pb j (some (b.1, u.1, u.2))) (by decide) (by decide) rfl ⟨hI.up hb hj hQ hp hK' hF', j, s, z, 5, hj, rfl, hp, by decide, hx7, fun q => absurd q (by decide)⟩ dX6_about_88
      · cases ho7
        refine ⟨89, by decide, ?_⟩
        refine r_aload_n C dX6_about_89 rfl rfl ?_
        refine a_callXq C hE (w_pform G b.1 _ b.2.1 b.2.2 zQ hK hF) kcX6_X3_form dX6_about_90 rfl (by decide) (by decide) (by decide) (Nat.le_of_ble_eq_true rfl) 0 rfl (ci := 3) rfl rfl rfl (fun q => q.elim) (fun o u hu => ?_)
        obtain ⟨rfl, hF', hK'⟩ := hu
        refine a_callVi C (e_factorCount G _ 17 (fs := fsOf b.1 (u.1 17)) rfl rfl rfl) kcX6_X1_factorCount dX6_about_93 rfl (by decide) (by decide) (by decide) (Nat.le_of_ble_eq_true rfl) 17 (fs := fsOf b.1 (u.1 17)) rfl (ci := 1) rfl rfl rfl (fun r u2 hr => ?_)
        refine V.perm (pl_back (b := (b.1, u.1, u.2)) hj) ?_
        exact hR _ _ _ _ _ (va_up pb j (some (b.1, u.1, u.2))) (by decide) (by decide) rfl ⟨hI.up hb hj hQ hp hK' hF', j, s, z, 6, hj, rfl, hp, by decide, hx7, fun q => absurd q (by decide)⟩ dX6_about_96
    · refine V.perm (pl_front hj hb).symm ?_
      exact hN _ _ _ _ _ 102 104 106 "no such question" (by first | decide | omega) (by first | decide | omega) (Or.inr (fun w hw => hx7 w (by show w < 7; omega))) (by decide) (Nat.le_of_ble_eq_true rfl) kt_nse (by decide) rfl dX6_about_97 dX6_about_100 dX6_about_101 dX6_about_103 dX6_about_106
theorem w_bfactor (hI : PtI pb (Q 2) T) (kk jj : Int32) : XJ G yX6_factor (.code yX6_factor cX6_factor 4 (some .int)) 7 2 12 [.ref (A 0), .int kk, .int jj] (bW G A N R Q ++ (plB G pb ++ P)) (SX := Nat → Option PbT) (fun pb' => PtI pb' (Q 2) T) nse (fun pb' => bW G A N R Q ++ (plB G pb' ++ P)) (S := Nat → Option PbT) (fun _ pb' => PtI pb' (Q 2) T) (fun pb' => bW G A N R Q ++ (plB G pb' ++ P)) := by
  refine XJ.intro (by decide) (Nat.le_of_ble_eq_true rfl) (cat1 (xs := [kk, jj])) fun X C hE hR hO hN => ?_
  rcases pat_case hI kk with ⟨h1, h2⟩ | ⟨j, b, s, z, hj, rfl, hb, hQ, hq, hip, hp, hK, hF⟩
  · refine r_aload_n C dX6_factor_0 rfl rfl ?_
    refine r_iload_n C dX6_factor_1 rfl rfl ?_
    refine a_callXq C hE (c_knownPattern G A (plB G pb ++ P) N R Q kk) kcX6_X6_knownPattern dX6_factor_2 rfl (by decide) (by decide) (by decide) (Nat.le_of_ble_eq_true rfl) 0 rfl (ci := 6) rfl rfl rfl (fun q => hO _ _ _ _ _ pb (by decide) (by decide) hI) (fun o u hu => absurd (hu.1.trans h1) hu.2)
  · refine r_aload_n C dX6_factor_0 rfl rfl ?_
    refine r_iload_n C dX6_factor_1 rfl rfl ?_
    refine a_callXq C hE (c_knownPattern G A (plB G pb ++ P) N R Q (nI j)) kcX6_X6_knownPattern dX6_factor_2 rfl (by decide) (by decide) (by decide) (Nat.le_of_ble_eq_true rfl) 0 rfl (ci := 6) rfl rfl rfl (fun q => absurd (hq.symm.trans q) (fun w => nomatch w)) (fun o u hu => ?_)
    skip
    rw [hq] at hu
    obtain ⟨rfl, -⟩ := hu
    refine V.perm (pl_front hj hb) ?_
    refine a_callXq C hE (w_pform G b.1 _ b.2.1 b.2.2 zQ hK hF) kcX6_X3_form dX6_factor_5 rfl (by decide) (by decide) (by decide) (Nat.le_of_ble_eq_true rfl) 0 rfl (ci := 3) rfl rfl rfl (fun q => q.elim) (fun o u hu => ?_)
    obtain ⟨rfl, hF', hK'⟩ := hu
    have hI' := hI.up hb hj hQ hp hK' hF'
    obtain ⟨s', hd, tl, hFm⟩ := hF'
    obtain ⟨f4, -, -, f2, f3, fht, ftz⟩ := id hFm
    have hN := hN (va_up pb j (some (b.1, u.1, u.2)))
    skip
    refine r_astore_n C dX6_factor_8 rfl (by decide) ?_
    refine r_iload_n C dX6_factor_9 rfl rfl ?_
    refine r_if_lt (tgt := 21) C dX6_factor_10 (by decide) (fun c10 => ?_) (fun c10 => ?_)
    · refine V.perm (pl_back (b := (b.1, u.1, u.2)) hj) ?_
      exact hN _ _ _ _ _ 102 145 106 "no such factor" (by first | decide | omega) (by first | decide | omega) (hI') (by decide) (Nat.le_of_ble_eq_true rfl) kt_nse (by decide) rfl dX6_factor_21 dX6_factor_24 dX6_factor_25 dX6_factor_27 dX6_factor_30
    · refine r_iload_n C dX6_factor_13 rfl rfl ?_
      refine r_aload_n C dX6_factor_14 rfl rfl ?_
      refine a_callVi C (e_factorCount G _ 17 (fs := fsOf b.1 (u.1 17)) rfl rfl rfl) kcX6_X1_factorCount dX6_factor_15 rfl (by decide) (by decide) (by decide) (Nat.le_of_ble_eq_true rfl) 17 (fs := fsOf b.1 (u.1 17)) rfl (ci := 1) rfl rfl rfl (fun r u2 hr => ?_)
      rw [f2, f3, pk_sub fht] at hr
      subst hr
      refine r_icmp_lt (tgt := 31) C dX6_factor_18 (by decide) (fun c18 => ?_) (fun c18 => ?_)
      · obtain ⟨i, hi0, e⟩ := nI_of c10
        rw [e, nI_ltI hi0 (by omega)] at c18
        subst e
        refine r_aload_n C dX6_factor_31 rfl rfl ?_
        refine r_iload_n C dX6_factor_32 rfl rfl ?_
        refine a_callVi C (e_factorAt G _ (b := b.1 18) (Z := 300) (hd := hd) (j := i) (f := u.2 18) 17 18 (fs := [.int (u.1 17 0), .ref (b.1 18), .int (nI hd), .int (u.1 17 3), .int (u.1 17 4), .int (u.1 17 5), .int (u.1 17 6), .ref (b.1 19), .ref (b.1 20)]) (by rw [← f2]; rfl) rfl rfl rfl (by omega) (by decide)) kcX6_X1_factorAt dX6_factor_33 rfl (by decide) (by decide) (by decide) (Nat.le_of_ble_eq_true rfl) 17 (fs := fsOf b.1 (u.1 17)) rfl (ci := 1) rfl rfl rfl (fun r u2 hr => ?_)
        refine V.perm (pl_back (b := (b.1, u.1, u.2)) hj) ?_
        exact hR _ _ _ _ _ (va_up pb j (some (b.1, u.1, u.2))) (by decide) (by decide) rfl hI' dX6_factor_36
      · refine V.perm (pl_back (b := (b.1, u.1, u.2)) hj) ?_
        exact hN _ _ _ _ _ 102 145 106 "no such factor" (by first | decide | omega) (by first | decide | omega) (hI') (by decide) (Nat.le_of_ble_eq_true rfl) kt_nse (by decide) rfl dX6_factor_21 dX6_factor_24 dX6_factor_25 dX6_factor_27 dX6_factor_30
theorem w_balike (hI : PtI pb (Q 2) T) (kk ll : Int32) : XI G yX6_alike (.code yX6_alike cX6_alike 5 (some .boolean)) 7 2 12 [.ref (A 0), .int kk, .int ll] (bW G A N R Q ++ (plB G pb ++ P)) (¬ isPat T kk ∨ ¬ isPat T ll, nse, bW G A N R Q ++ (plB G pb ++ P)) (S := Nat → Option PbT) (fun r pb' => PtI pb' (Q 2) T ∧ isPat T kk ∧ isPat T ll ∧ (r = 0 ∨ r = 1)) (fun pb' => bW G A N R Q ++ (plB G pb' ++ P)) := by
  refine XI.intro (by decide) (Nat.le_of_ble_eq_true rfl) (cat1 (xs := [kk, ll])) fun X C hE hR hO hN => ?_
  rcases pat_case hI kk with ⟨h1, h2⟩ | ⟨j, b, s, z, hj, rfl, hb, hQ, hq, hip, hp, hK, hF⟩
  · refine r_aload_n C dX6_alike_0 rfl rfl ?_
    refine r_iload_n C dX6_alike_1 rfl rfl ?_
    refine a_callXq C hE (c_knownPattern G A (plB G pb ++ P) N R Q kk) kcX6_X6_knownPattern dX6_alike_2 rfl (by decide) (by decide) (by decide) (Nat.le_of_ble_eq_true rfl) 0 rfl (ci := 6) rfl rfl rfl (fun q => hO _ _ _ _ _ (by decide) (by decide) (Or.inl h2)) (fun o u hu => absurd (hu.1.trans h1) hu.2)
  refine r_aload_n C dX6_alike_0 rfl rfl ?_
  refine r_iload_n C dX6_alike_1 rfl rfl ?_
  refine a_callXq C hE (c_knownPattern G A (plB G pb ++ P) N R Q (nI j)) kcX6_X6_knownPattern dX6_alike_2 rfl (by decide) (by decide) (by decide) (Nat.le_of_ble_eq_true rfl) 0 rfl (ci := 6) rfl rfl rfl (fun q => absurd (hq.symm.trans q) (fun w => nomatch w)) (fun o u hu => ?_)
  skip
  rw [hq] at hu
  obtain ⟨rfl, -⟩ := hu
  refine r_astore_n C dX6_alike_5 rfl (by decide) ?_
  rcases pat_case hI ll with ⟨h1, h2⟩ | ⟨l, b', s', z', hl, rfl, hb', hQ', hq', hip', hp', hK', hF'⟩
  · refine r_aload_n C dX6_alike_6 rfl rfl ?_
    refine r_iload_n C dX6_alike_7 rfl rfl ?_
    refine a_callXq C hE (c_knownPattern G A (plB G pb ++ P) N R Q ll) kcX6_X6_knownPattern dX6_alike_8 rfl (by decide) (by decide) (by decide) (Nat.le_of_ble_eq_true rfl) 0 rfl (ci := 6) rfl rfl rfl (fun q => hO _ _ _ _ _ (by decide) (by decide) (Or.inr h2)) (fun o u hu => absurd (hu.1.trans h1) hu.2)
  refine r_aload_n C dX6_alike_6 rfl rfl ?_
  refine r_iload_n C dX6_alike_7 rfl rfl ?_
  refine a_callXq C hE (c_knownPattern G A (plB G pb ++ P) N R Q (nI l)) kcX6_X6_knownPattern dX6_alike_8 rfl (by decide) (by decide) (by decide) (Nat.le_of_ble_eq_true rfl) 0 rfl (ci := 6) rfl rfl rfl (fun q => absurd (hq'.symm.trans q) (fun w => nomatch w)) (fun o u hu => ?_)
  skip
  rw [hq'] at hu
  obtain ⟨rfl, -⟩ := hu
  refine r_astore C dX6_alike_11 (by decide) ?_
  have j44 : ∀ (pb' : Nat → Option PbT), PtI pb' (Q 2) T → V X 2 12 44 [some (.ref (A 0)), some (.int (nI j)), some (.int (nI l)), some (.ref (b.1 0)), some (.ref (b'.1 0))] [] (bW G A N R Q ++ (plB G pb' ++ P)) := by
    intro pb' h
    refine r_iconst (v := 0) C dX6_alike_44 (by decide) ?_
    exact hR _ _ _ _ _ pb' (by decide) (by decide) rfl ⟨h, hip, hip', Or.inl rfl⟩ dX6_alike_45
  have j40 : ∀ (pb' : Nat → Option PbT), PtI pb' (Q 2) T → V X 2 12 40 [some (.ref (A 0)), some (.int (nI j)), some (.int (nI l)), some (.ref (b.1 0)), some (.ref (b'.1 0))] [] (bW G A N R Q ++ (plB G pb' ++ P)) := by
    intro pb' h
    refine r_iconst (v := 1) C dX6_alike_40 (by decide) ?_
    refine r_goto (tgt := 45) C dX6_alike_41 (by decide) ?_
    exact hR _ _ _ _ _ pb' (by decide) (by decide) rfl ⟨h, hip, hip', Or.inr rfl⟩ dX6_alike_45
  refine V.perm (pl_front hj hb) ?_
  refine r_aload_n C dX6_alike_13 rfl rfl ?_
  refine pg_X6_118 C dX6_alike_14 ?_
  skip
  refine V.perm ((pl_front hj hb).symm.trans (pl_front hl hb')) ?_
  by_cases hst : b.2.1 0 3 = b'.2.1 0 3
  rotate_left
  · refine r_aload C dX6_alike_17 rfl ?_
    refine pg_X6_118 C dX6_alike_19 ?_
    refine r_icmp_ne (tgt := 44) C dX6_alike_22 (by decide) (fun c22 => ?_) (fun c22 => absurd c22 (hst))
    refine V.perm (pl_front hl hb').symm ?_
    exact j44 pb hI
  refine r_aload C dX6_alike_17 rfl ?_
  refine pg_X6_118 C dX6_alike_19 ?_
  refine r_icmp_ne (tgt := 44) C dX6_alike_22 (by decide) (fun c22 => absurd c22 ((fun q => q hst))) (fun c22 => ?_)
  refine V.perm ((pl_front hl hb').symm.trans (pl_front hj hb)) ?_
  refine r_aload_n C dX6_alike_25 rfl rfl ?_
  refine a_callXq C hE (w_pform G b.1 _ b.2.1 b.2.2 zQ hK hF) kcX6_X3_form dX6_alike_26 rfl (by decide) (by decide) (by decide) (Nat.le_of_ble_eq_true rfl) 0 rfl (ci := 3) rfl rfl rfl (fun q => q.elim) (fun o u hu => ?_)
  obtain ⟨rfl, hF1, hK1⟩ := hu
  skip
  have hI1 := hI.up hb hj hQ hp hK1 hF1
  obtain ⟨pb1, hpb1⟩ : ∃ pb1, pb1 = va_up pb j (some (b.1, u.1, u.2)) := ⟨_, rfl⟩
  rw [← hpb1] at hI1
  refine V.perm (pl_back (b := (b.1, u.1, u.2)) hj) ?_
  rw [← hpb1]
  by_cases hjl : l = j
  · subst hjl
    have hbb : b' = b := Option.some.inj (hb'.symm.trans hb)
    subst hbb
    have hb1 : pb1 l = some (b'.1, u.1, u.2) := by rw [hpb1]; exact va_up_at
    refine V.perm (pl_front hj hb1) ?_
    refine r_aload C dX6_alike_29 rfl ?_
    refine a_callXq C hE (w_pform G b'.1 _ u.1 u.2 zQ hK1 hF1) kcX6_X3_form dX6_alike_31 rfl (by decide) (by decide) (by decide) (Nat.le_of_ble_eq_true rfl) 0 rfl (ci := 3) rfl rfl rfl (fun q => q.elim) (fun o u2 hu2 => ?_)
    obtain ⟨rfl, hF2, hK2⟩ := hu2
    have hI2 := hI1.up hb1 hj hQ hp hK2 hF2
    obtain ⟨s2, hd, tl, f4, -, -, f2, f3, fht, ftz⟩ := hF2
    refine a_callVi C (e_isSameAs G _ (hd := hd) (tl := tl) (hd' := hd) (tl' := tl) (b := b'.1 18) (b' := b'.1 18) (Z := 300) (Z' := 300) (f := u2.2 18) (f' := u2.2 18) (p := u2.1 17 0) (p' := u2.1 17 0) 17 18 17 18 (fs := [.int (u2.1 17 0), .ref (b'.1 18), .int (nI hd), .int (nI tl), .int (u2.1 17 4), .int (u2.1 17 5), .int (u2.1 17 6), .ref (b'.1 19), .ref (b'.1 20)]) (fs' := [.int (u2.1 17 0), .ref (b'.1 18), .int (nI hd), .int (nI tl), .int (u2.1 17 4), .int (u2.1 17 5), .int (u2.1 17 6), .ref (b'.1 19), .ref (b'.1 20)]) (by rw [← f2, ← f3]; rfl) rfl rfl rfl rfl rfl fht ftz (by decide) (by rw [← f2, ← f3]; rfl) rfl rfl rfl rfl rfl fht ftz (by decide)) kcX6_X1_isSameAs dX6_alike_34 rfl (by decide) (by decide) (by decide) (Nat.le_of_ble_eq_true rfl) 17 (fs := fsOf b'.1 (u2.1 17)) rfl (ci := 1) rfl rfl rfl (fun r u3 hr => ?_)
    refine r_if_eq (tgt := 44) C dX6_alike_37 (by decide) (fun c37 => ?_) (fun c37 => ?_)
    · refine V.perm (pl_back (b := (b'.1, u2.1, u2.2)) hj) ?_
      exact j44 _ hI2
    · refine V.perm (pl_back (b := (b'.1, u2.1, u2.2)) hj) ?_
      exact j40 _ hI2
  · have hb1 : pb1 l = some b' := by rw [hpb1, va_up_no hjl]; exact hb'
    refine V.perm (pl_front hl hb1) ?_
    refine r_aload C dX6_alike_29 rfl ?_
    refine a_callXq C hE (w_pform G b'.1 _ b'.2.1 b'.2.2 zQ hK' hF') kcX6_X3_form dX6_alike_31 rfl (by decide) (by decide) (by decide) (Nat.le_of_ble_eq_true rfl) 0 rfl (ci := 3) rfl rfl rfl (fun q => q.elim) (fun o u2 hu2 => ?_)
    obtain ⟨rfl, hF2, hK2⟩ := hu2
    have hI2 := hI1.up hb1 hl hQ' hp' hK2 hF2
    skip
    refine V.perm (pl_back (b := (b'.1, u2.1, u2.2)) hl) ?_
    have hj2 : va_up pb1 l (some (b'.1, u2.1, u2.2)) j = some (b.1, u.1, u.2) := by rw [va_up_no (Ne.symm hjl), hpb1]; exact va_up_at
    obtain ⟨P', hP'⟩ := pl_two (G := G) (pb := va_up pb1 l (some (b'.1, u2.1, u2.2))) (w := bW G A N R Q) (P := P) hj hl hjl hj2 va_up_at
    refine V.perm hP' ?_
    obtain ⟨s1, hd, tl, f4, -, -, f2, f3, fht, ftz⟩ := hF1
    obtain ⟨s2, hd', tl', g4, -, -, g2, g3, ght, gtz⟩ := hF2
    refine a_callVi C (e_isSameAs G _ (hd := hd) (tl := tl) (hd' := hd') (tl' := tl') (b := b.1 18) (b' := b'.1 18) (Z := 300) (Z' := 300) (f := u.2 18) (f' := u2.2 18) (p := u.1 17 0) (p' := u2.1 17 0) 17 18 38 39 (fs := [.int (u.1 17 0), .ref (b.1 18), .int (nI hd), .int (nI tl), .int (u.1 17 4), .int (u.1 17 5), .int (u.1 17 6), .ref (b.1 19), .ref (b.1 20)]) (fs' := [.int (u2.1 17 0), .ref (b'.1 18), .int (nI hd'), .int (nI tl'), .int (u2.1 17 4), .int (u2.1 17 5), .int (u2.1 17 6), .ref (b'.1 19), .ref (b'.1 20)]) (by rw [← f2, ← f3]; rfl) rfl rfl rfl rfl rfl fht ftz (by decide) (by rw [← g2, ← g3]; rfl) rfl rfl rfl rfl rfl ght gtz (by decide)) kcX6_X1_isSameAs dX6_alike_34 rfl (by decide) (by decide) (by decide) (Nat.le_of_ble_eq_true rfl) 17 (fs := fsOf b.1 (u.1 17)) rfl (ci := 1) rfl rfl rfl (fun r u3 hr => ?_)
    refine r_if_eq (tgt := 44) C dX6_alike_37 (by decide) (fun c37 => ?_) (fun c37 => ?_)
    · refine V.perm hP'.symm ?_
      exact j44 _ hI2
    · refine V.perm hP'.symm ?_
      exact j40 _ hI2
/-- what a bench keeps through its work form -/
def BK (N N' : Nt) (R R' : Rt) : Prop := (∀ i, i ≠ 7 → N' i = N i) ∧ ∀ i, (i < 8 ∨ 11 ≤ i) → R' i = R i
def uwW (G : Gx) (b : PbT) (A : Nat → Nat) (N : Nt) (R : Rt) (Q : Qt) (n : Nat → Int32) (R1 : Rt) (P : va_W) : va_W := pW G b.1 b.2.1 b.2.2 zQ ++ (fW G 600 (fun i => A (7 + i)) (fun _ => n) R1 zQ ++ ((bW G A N R Q).take 7 ++ ((bW G A N R Q).drop 11 ++ P)))
theorem uw_in {X : Fx} {k n pc : Nat} {L : List (Option Value)} {st : List Value} {b : PbT} (kk : V X k n pc L st (uwW G b A N R Q (N 7) (fun i => R (7 + i)) P)) : V X k n pc L st (pW G b.1 b.2.1 b.2.2 zQ ++ (bW G A N R Q ++ P)) :=
  show V X k n pc L st ((pW G b.1 b.2.1 b.2.2 zQ ++ bW G A N R Q) ++ P) from
  V.re (m := 35) (ws' := pW G b.1 b.2.1 b.2.2 zQ ++ (fW G 600 (fun i => A (7 + i)) (fun _ => N 7) (fun i => R (7 + i)) zQ ++ ((bW G A N R Q).take 7 ++ (bW G A N R Q).drop 11))) rfl [0, 1, 2, 3, 4, 5, 6, 7, 8, 9, 10, 11, 12, 13, 14, 15, 16, 17, 18, 19, 20, 28, 29, 30, 31, 21, 22, 23, 24, 25, 26, 27, 32, 33, 34] (by decide) rfl (by decide) kk
theorem uw_out {X : Fx} {k n pc : Nat} {L : List (Option Value)} {st : List Value} {b : PbT} {nn : Nat → Int32} {R1 : Rt} (kk : V X k n pc L st (pW G b.1 b.2.1 b.2.2 zQ ++ (bW G A (va_up N 7 nn) (va_up (va_up (va_up R 8 (R1 1)) 9 (R1 2)) 10 (R1 3)) Q ++ P))) : V X k n pc L st (uwW G b A N R Q nn R1 P) :=
  show V X k n pc L st ((pW G b.1 b.2.1 b.2.2 zQ ++ (fW G 600 (fun i => A (7 + i)) (fun _ => nn) R1 zQ ++ ((bW G A N R Q).take 7 ++ (bW G A N R Q).drop 11))) ++ P) from
  V.re (m := 35) (ws' := pW G b.1 b.2.1 b.2.2 zQ ++ bW G A (va_up N 7 nn) (va_up (va_up (va_up R 8 (R1 1)) 9 (R1 2)) 10 (R1 3)) Q) rfl [0, 1, 2, 3, 4, 5, 6, 7, 8, 9, 10, 11, 12, 13, 14, 15, 16, 17, 18, 19, 20, 25, 26, 27, 28, 29, 30, 31, 21, 22, 23, 24, 32, 33, 34] (by decide) rfl (by decide) kk
theorem w_buntwined (hI : PtI pb (Q 2) T) (kk : Int32) : XI G yX6_untwined (.code yX6_untwined cX6_untwined 2 (some .int)) 7 2 12 [.ref (A 0), .int kk] (bW G A N R Q ++ (plB G pb ++ P)) (¬ isPat T kk, nse, bW G A N R Q ++ (plB G pb ++ P)) (S := (Nat → Option PbT) × Nt × Rt) (fun _ u => PtI u.1 (Q 2) T ∧ isPat T kk ∧ BK N u.2.1 R u.2.2) (fun u => bW G A u.2.1 u.2.2 Q ++ (plB G u.1 ++ P)) := by
  refine XI.intro (by decide) (Nat.le_of_ble_eq_true rfl) (cat1 (xs := [kk])) fun X C hE hR hO hN => ?_
  rcases pat_case hI kk with ⟨h1, h2⟩ | ⟨j, b, s, z, hj, rfl, hb, hQ, hq, hip, hp, hK, hF⟩
  · refine r_aload_n C dX6_untwined_0 rfl rfl ?_
    refine r_iload_n C dX6_untwined_1 rfl rfl ?_
    refine a_callXq C hE (c_knownPattern G A (plB G pb ++ P) N R Q kk) kcX6_X6_knownPattern dX6_untwined_2 rfl (by decide) (by decide) (by decide) (Nat.le_of_ble_eq_true rfl) 0 rfl (ci := 6) rfl rfl rfl (fun q => hO _ _ _ _ _ (by decide) (by decide) h2) (fun o u hu => absurd (hu.1.trans h1) hu.2)
  · refine r_aload_n C dX6_untwined_0 rfl rfl ?_
    refine r_iload_n C dX6_untwined_1 rfl rfl ?_
    refine a_callXq C hE (c_knownPattern G A (plB G pb ++ P) N R Q (nI j)) kcX6_X6_knownPattern dX6_untwined_2 rfl (by decide) (by decide) (by decide) (Nat.le_of_ble_eq_true rfl) 0 rfl (ci := 6) rfl rfl rfl (fun q => absurd (hq.symm.trans q) (fun w => nomatch w)) (fun o u hu => ?_)
    rw [hq] at hu
    obtain ⟨rfl, -⟩ := hu
    refine r_aload_n C dX6_untwined_5 rfl rfl ?_
    refine bg_X6_37 C dX6_untwined_6 ?_
    skip
    refine V.perm (pl_front hj hb) ?_
    refine uw_in G A (plO G pb j ++ P) N R Q ?_
    refine a_callVi C (w_times G b.1 _ b.2.1 b.2.2 zQ (B := fun i => A (7 + i)) (nn := N 7) (R1 := fun i => R (7 + i)) hK) kcX6_X3_timesToUntwine dX6_untwined_9 rfl (by decide) (by decide) (by decide) (Nat.le_of_ble_eq_true rfl) 0 rfl (ci := 3) rfl rfl rfl (fun r u hr => ?_)
    refine uw_out G A (plO G pb j ++ P) N R Q (b := (b.1, va_up b.2.1 0 (va_up (b.2.1 0) 17 u.1), b.2.2)) (nn := u.2.1) (R1 := u.2.2) ?_
    refine V.perm (pl_back (b := (b.1, va_up b.2.1 0 (va_up (b.2.1 0) 17 u.1), b.2.2)) hj) ?_
    refine hR _ _ _ _ _ (va_up pb j (some (b.1, va_up b.2.1 0 (va_up (b.2.1 0) 17 u.1), b.2.2)), va_up N 7 u.2.1, va_up (va_up (va_up R 8 (u.2.2 1)) 9 (u.2.2 2)) 10 (u.2.2 3)) (by decide) (by decide) rfl ⟨hI.up hb hj hQ hp (hK.same (fun i hi => va_up_no (by omega)) (fun _ _ => rfl)) hF, hip, fun i hi => va_up_no hi, fun i hi => ?_⟩ dX6_untwined_12
    show va_up (va_up (va_up R 8 (u.2.2 1)) 9 (u.2.2 2)) 10 (u.2.2 3) i = R i
    rw [va_up_no (by omega), va_up_no (by omega), va_up_no (by omega)]
end PM2
