/-! the class: calls on a fresh bench; bundle -/
/-- no pattern, no bundle, no score, no hat -/
def Fr (N : Nt) (Q : Qt) : Prop := N 0 6 = 0 ∧ N 0 8 = 0 ∧ N 0 10 = 0 ∧ ∀ i, Q 2 i = none
theorem Fr.pat {N : Nt} {Q : Qt} (h : Fr N Q) (kk : Int32) : patQ Q kk = none := by
  unfold patQ
  by_cases e : ¬ kk < 0 ∧ kk < 8
  · rw [if_pos e]; exact h.2.2.2 _
  · rw [if_neg e]
section C2
variable (G : Gx) (A : Nat → Nat) (P : va_W) (N : Nt) (R : Rt) (Q : Qt)
theorem f_crossing (hF : Fr N Q) (kk j : Int32) : bX G A P yX6_crossing cX6_crossing 4 .int 7 [.int kk, .int j] N R Q True (fun _ => False) := by
  refine XI.intro (by decide) (Nat.le_of_ble_eq_true rfl) (cat1 (xs := [kk, j])) fun X C hE hR hO hN => ?_
  refine r_aload_n C dX6_crossing_0 rfl rfl ?_
  refine r_iload_n C dX6_crossing_1 rfl rfl ?_
  refine a_callXq C hE (c_knownPattern G A P N R Q kk) kcX6_X6_knownPattern dX6_crossing_2 rfl (by decide) (by decide) (by decide) (Nat.le_of_ble_eq_true rfl) 0 rfl (ci := 6) rfl rfl rfl (fun q => hO _ _ _ _ _ (by decide) (by decide) trivial) (fun o u hu => absurd (hu.1.trans (hF.pat kk)) hu.2)
theorem f_about (hF : Fr N Q) (kk j : Int32) : bX G A P yX6_about cX6_about 4 .int 7 [.int kk, .int j] N R Q True (fun _ => False) := by
  refine XI.intro (by decide) (Nat.le_of_ble_eq_true rfl) (cat1 (xs := [kk, j])) fun X C hE hR hO hN => ?_
  refine r_aload_n C dX6_about_0 rfl rfl ?_
  refine r_iload_n C dX6_about_1 rfl rfl ?_
  refine a_callXq C hE (c_knownPattern G A P N R Q kk) kcX6_X6_knownPattern dX6_about_2 rfl (by decide) (by decide) (by decide) (Nat.le_of_ble_eq_true rfl) 0 rfl (ci := 6) rfl rfl rfl (fun q => hO _ _ _ _ _ (by decide) (by decide) trivial) (fun o u hu => absurd (hu.1.trans (hF.pat kk)) hu.2)
theorem f_factor (hF : Fr N Q) (kk j : Int32) : bX G A P yX6_factor cX6_factor 4 .int 7 [.int kk, .int j] N R Q True (fun _ => False) := by
  refine XI.intro (by decide) (Nat.le_of_ble_eq_true rfl) (cat1 (xs := [kk, j])) fun X C hE hR hO hN => ?_
  refine r_aload_n C dX6_factor_0 rfl rfl ?_
  refine r_iload_n C dX6_factor_1 rfl rfl ?_
  refine a_callXq C hE (c_knownPattern G A P N R Q kk) kcX6_X6_knownPattern dX6_factor_2 rfl (by decide) (by decide) (by decide) (Nat.le_of_ble_eq_true rfl) 0 rfl (ci := 6) rfl rfl rfl (fun q => hO _ _ _ _ _ (by decide) (by decide) trivial) (fun o u hu => absurd (hu.1.trans (hF.pat kk)) hu.2)
theorem f_alike (hF : Fr N Q) (kk j : Int32) : bX G A P yX6_alike cX6_alike 5 .boolean 7 [.int kk, .int j] N R Q True (fun _ => False) := by
  refine XI.intro (by decide) (Nat.le_of_ble_eq_true rfl) (cat1 (xs := [kk, j])) fun X C hE hR hO hN => ?_
  refine r_aload_n C dX6_alike_0 rfl rfl ?_
  refine r_iload_n C dX6_alike_1 rfl rfl ?_
  refine a_callXq C hE (c_knownPattern G A P N R Q kk) kcX6_X6_knownPattern dX6_alike_2 rfl (by decide) (by decide) (by decide) (Nat.le_of_ble_eq_true rfl) 0 rfl (ci := 6) rfl rfl rfl (fun q => hO _ _ _ _ _ (by decide) (by decide) trivial) (fun o u hu => absurd (hu.1.trans (hF.pat kk)) hu.2)
theorem f_untwined (hF : Fr N Q) (kk : Int32) : bX G A P yX6_untwined cX6_untwined 2 .int 7 [.int kk] N R Q True (fun _ => False) := by
  refine XI.intro (by decide) (Nat.le_of_ble_eq_true rfl) (cat1 (xs := [kk])) fun X C hE hR hO hN => ?_
  refine r_aload_n C dX6_untwined_0 rfl rfl ?_
  refine r_iload_n C dX6_untwined_1 rfl rfl ?_
  refine a_callXq C hE (c_knownPattern G A P N R Q kk) kcX6_X6_knownPattern dX6_untwined_2 rfl (by decide) (by decide) (by decide) (Nat.le_of_ble_eq_true rfl) 0 rfl (ci := 6) rfl rfl rfl (fun q => hO _ _ _ _ _ (by decide) (by decide) trivial) (fun o u hu => absurd (hu.1.trans (hF.pat kk)) hu.2)
theorem f_goes (hF : Fr N Q) (kk j : Int32) : bX G A P yX6_goes cX6_goes 4 .int 7 [.int kk, .int j] N R Q True (fun _ => False) := by
  refine XI.intro (by decide) (Nat.le_of_ble_eq_true rfl) (cat1 (xs := [kk, j])) fun X C hE hR hO hN => ?_
  refine r_aload_n C dX6_goes_0 rfl rfl ?_
  refine r_iload_n C dX6_goes_1 rfl rfl ?_
  refine a_callXq C hE (c_knownPattern G A P N R Q kk) kcX6_X6_knownPattern dX6_goes_2 rfl (by decide) (by decide) (by decide) (Nat.le_of_ble_eq_true rfl) 0 rfl (ci := 6) rfl rfl rfl (fun q => hO _ _ _ _ _ (by decide) (by decide) trivial) (fun o u hu => absurd (hu.1.trans (hF.pat kk)) hu.2)
theorem f_twine (hF : Fr N Q) (kk j l : Int32) : bX G A P yX6_twine cX6_twine 5 .int 7 [.int kk, .int j, .int l] N R Q True (fun _ => False) := by
  refine XI.intro (by decide) (Nat.le_of_ble_eq_true rfl) (cat1 (xs := [kk, j, l])) fun X C hE hR hO hN => ?_
  refine r_aload_n C dX6_twine_0 rfl rfl ?_
  refine r_iload_n C dX6_twine_1 rfl rfl ?_
  refine a_callXq C hE (c_knownPattern G A P N R Q kk) kcX6_X6_knownPattern dX6_twine_2 rfl (by decide) (by decide) (by decide) (Nat.le_of_ble_eq_true rfl) 0 rfl (ci := 6) rfl rfl rfl (fun q => hO _ _ _ _ _ (by decide) (by decide) trivial) (fun o u hu => absurd (hu.1.trans (hF.pat kk)) hu.2)
theorem f_use (hF : Fr N Q) (kk j : Int32) : bX G A P yX6_use cX6_use 4 .int 7 [.int kk, .int j] N R Q True (fun _ => False) := by
  refine XI.intro (by decide) (Nat.le_of_ble_eq_true rfl) (cat1 (xs := [kk, j])) fun X C hE hR hO hN => ?_
  refine r_aload_n C dX6_use_0 rfl rfl ?_
  refine r_iload_n C dX6_use_1 rfl rfl ?_
  refine a_callXq C hE (c_knownPattern G A P N R Q kk) kcX6_X6_knownPattern dX6_use_2 rfl (by decide) (by decide) (by decide) (Nat.le_of_ble_eq_true rfl) 0 rfl (ci := 6) rfl rfl rfl (fun q => hO _ _ _ _ _ (by decide) (by decide) trivial) (fun o u hu => absurd (hu.1.trans (hF.pat kk)) hu.2)
theorem f_left (hF : Fr N Q) (kk : Int32) : bX G A P yX6_left cX6_left 2 .int 6 [.int kk] N R Q True (fun _ => False) := by
  refine XI.intro (by decide) (Nat.le_of_ble_eq_true rfl) (cat1 (xs := [kk])) fun X C hE hR hO hN => ?_
  refine r_iload_n C dX6_left_0 rfl rfl ?_
  refine r_if_lt (tgt := 12) C dX6_left_1 (by decide) (fun c1 => ?_) (fun c1 => ?_)
  · exact hN _ _ _ _ _ 102 183 106 "no such bundle" (by first | decide | omega) (by first | decide | omega) (trivial) (by decide) (Nat.le_of_ble_eq_true rfl) kt_nse (by decide) rfl dX6_left_12 dX6_left_15 dX6_left_16 dX6_left_18 dX6_left_21
  · refine r_iload_n C dX6_left_4 rfl rfl ?_
    refine r_aload_n C dX6_left_5 rfl rfl ?_
    refine bg_X6_47 C dX6_left_6 ?_
    rw [hF.1]
    refine r_icmp_lt (tgt := 22) C dX6_left_9 (by decide) (fun c9 => absurd c9 (c1)) (fun c9 => ?_)
    exact hN _ _ _ _ _ 102 183 106 "no such bundle" (by first | decide | omega) (by first | decide | omega) (trivial) (by decide) (Nat.le_of_ble_eq_true rfl) kt_nse (by decide) rfl dX6_left_12 dX6_left_15 dX6_left_16 dX6_left_18 dX6_left_21
theorem f_scored (hF : Fr N Q) (kk j : Int32) : bX G A P yX6_scored cX6_scored 4 .int 6 [.int kk, .int j] N R Q True (fun _ => False) := by
  refine XI.intro (by decide) (Nat.le_of_ble_eq_true rfl) (cat1 (xs := [kk, j])) fun X C hE hR hO hN => ?_
  refine r_iload_n C dX6_scored_0 rfl rfl ?_
  refine r_if_lt (tgt := 12) C dX6_scored_1 (by decide) (fun c1 => ?_) (fun c1 => ?_)
  · exact hN _ _ _ _ _ 102 200 106 "no such score" (by first | decide | omega) (by first | decide | omega) (trivial) (by decide) (Nat.le_of_ble_eq_true rfl) kt_nse (by decide) rfl dX6_scored_12 dX6_scored_15 dX6_scored_16 dX6_scored_18 dX6_scored_21
  · refine r_iload_n C dX6_scored_4 rfl rfl ?_
    refine r_aload_n C dX6_scored_5 rfl rfl ?_
    refine bg_X6_56 C dX6_scored_6 ?_
    rw [hF.2.1]
    refine r_icmp_lt (tgt := 22) C dX6_scored_9 (by decide) (fun c9 => absurd c9 (c1)) (fun c9 => ?_)
    exact hN _ _ _ _ _ 102 200 106 "no such score" (by first | decide | omega) (by first | decide | omega) (trivial) (by decide) (Nat.le_of_ble_eq_true rfl) kt_nse (by decide) rfl dX6_scored_12 dX6_scored_15 dX6_scored_16 dX6_scored_18 dX6_scored_21
theorem f_sewn (hF : Fr N Q) (kk j : Int32) : bX G A P yX6_sewn cX6_sewn 4 .int 6 [.int kk, .int j] N R Q True (fun _ => False) := by
  refine XI.intro (by decide) (Nat.le_of_ble_eq_true rfl) (cat1 (xs := [kk, j])) fun X C hE hR hO hN => ?_
  refine r_iload_n C dX6_sewn_0 rfl rfl ?_
  refine r_if_lt (tgt := 12) C dX6_sewn_1 (by decide) (fun c1 => ?_) (fun c1 => ?_)
  · exact hN _ _ _ _ _ 102 227 106 "no such hat" (by first | decide | omega) (by first | decide | omega) (trivial) (by decide) (Nat.le_of_ble_eq_true rfl) kt_nse (by decide) rfl dX6_sewn_12 dX6_sewn_15 dX6_sewn_16 dX6_sewn_18 dX6_sewn_21
  · refine r_iload_n C dX6_sewn_4 rfl rfl ?_
    refine r_aload_n C dX6_sewn_5 rfl rfl ?_
    refine bg_X6_65 C dX6_sewn_6 ?_
    rw [hF.2.2.1]
    refine r_icmp_lt (tgt := 22) C dX6_sewn_9 (by decide) (fun c9 => absurd c9 (c1)) (fun c9 => ?_)
    exact hN _ _ _ _ _ 102 227 106 "no such hat" (by first | decide | omega) (by first | decide | omega) (trivial) (by decide) (Nat.le_of_ble_eq_true rfl) kt_nse (by decide) rfl dX6_sewn_12 dX6_sewn_15 dX6_sewn_16 dX6_sewn_18 dX6_sewn_21
theorem f_strawsLeftOfAll (hF : Fr N Q) : bI G A P yX6_strawsLeftOfAll cX6_strawsLeftOfAll 3 .int 0 [] N R Q (fun r N' R' => r = 0 ∧ N' = N ∧ R' = R) := by
  refine bI.intro (by decide) (Nat.le_of_ble_eq_true rfl) (cat1 (xs := [])) fun X C hR => ?_
  refine r_iconst (v := 0) C dX6_strawsLeftOfAll_0 (by decide) ?_
  refine r_istore_n C dX6_strawsLeftOfAll_1 rfl (by decide) ?_
  refine r_iconst (v := 0) C dX6_strawsLeftOfAll_2 (by decide) ?_
  refine r_istore_n C dX6_strawsLeftOfAll_3 rfl (by decide) ?_
  refine r_iload_n C dX6_strawsLeftOfAll_4 rfl rfl ?_
  refine r_aload_n C dX6_strawsLeftOfAll_5 rfl rfl ?_
  refine bg_X6_47 C dX6_strawsLeftOfAll_6 ?_
  rw [hF.1]
  refine r_icmp_ge (tgt := 30) C dX6_strawsLeftOfAll_9 (by decide) (fun c9 => ?_) (fun c9 => absurd c9 ((fun q => absurd (show (0 : Int32) ≤ 0 by decide) q)))
  refine r_iload_n C dX6_strawsLeftOfAll_30 rfl rfl ?_
  exact hR _ _ _ _ _ rfl dX6_strawsLeftOfAll_31 ⟨rfl, rfl, rfl⟩
theorem f_lengthLeftOf (hF : Fr N Q) (w : Int32) : bI G A P yX6_lengthLeftOf cX6_lengthLeftOf 4 .int 0 [.int w] N R Q (fun r N' R' => r = 0 ∧ N' = N ∧ R' = R) := by
  refine bI.intro (by decide) (Nat.le_of_ble_eq_true rfl) (cat1 (xs := [w])) fun X C hR => ?_
  refine r_iconst (v := 0) C dX6_lengthLeftOf_0 (by decide) ?_
  refine r_istore_n C dX6_lengthLeftOf_1 rfl (by decide) ?_
  refine r_iconst (v := 0) C dX6_lengthLeftOf_2 (by decide) ?_
  refine r_istore_n C dX6_lengthLeftOf_3 rfl (by decide) ?_
  refine r_iload_n C dX6_lengthLeftOf_4 rfl rfl ?_
  refine r_aload_n C dX6_lengthLeftOf_5 rfl rfl ?_
  refine bg_X6_56 C dX6_lengthLeftOf_6 ?_
  rw [hF.2.1]
  refine r_icmp_ge (tgt := 43) C dX6_lengthLeftOf_9 (by decide) (fun c9 => ?_) (fun c9 => absurd c9 ((fun q => absurd (show (0 : Int32) ≤ 0 by decide) q)))
  refine r_iload_n C dX6_lengthLeftOf_43 rfl rfl ?_
  exact hR _ _ _ _ _ rfl dX6_lengthLeftOf_44 ⟨rfl, rfl, rfl⟩
theorem c_lengthOfTurns {w t : Nat} (hw : w ≤ 9) (ht : t ≤ 400) : CI G yX6_lengthOfTurns cX6_lengthOfTurns 4 .int 0 0 0 [.int (nI w), .int (nI t)] [] (S := Unit) (fun r _ => r = nI (hatNeed w t)) (fun _ => []) := by
  refine CI.intro (by decide) (Nat.le_of_ble_eq_true rfl) (cat0 (xs := [nI w, nI t])) fun X C hR => ?_
  have key : ∀ (f i : Nat), i + f = t → V X 0 0 4 [some (.int (nI w)), some (.int (nI t)), some (.int (nI (hatNeed w i))), some (.int (nI (i + 1)))] [] [] := by
    intro f
    induction f with
    | zero =>
      intro i hi
      have hit : i = t := by omega
      subst hit
      refine r_iload_n C dX6_lengthOfTurns_4 rfl rfl ?_
      refine r_iload_n C dX6_lengthOfTurns_5 rfl rfl ?_
      refine r_icmp_gt (tgt := 35) C dX6_lengthOfTurns_6 (by decide) (fun c6 => ?_) (fun c6 => absurd c6 ((fun q => q (nI_lt (by omega) (by omega)))))
      refine r_iload_n C dX6_lengthOfTurns_35 rfl rfl ?_
      exact hR _ _ _ _ _ () (by decide) (by decide) rfl rfl dX6_lengthOfTurns_36
    | succ f ih =>
      intro i hi
      have hnl := hatNeed_le (w := w) hw i (by omega)
      have h1 : 710 * (2 * (i + 1) - 1) * w ≤ 710 * 799 * 9 := Nat.mul_le_mul (Nat.mul_le_mul_left _ (by omega)) hw
      have e1 : (710 : Int32) * (2 * nI (i + 1) - 1) * nI w / 226 + 1 = nI (710 * (2 * (i + 1) - 1) * w / 226 + 1) := by
        have a1 : (2 : Int32) * nI (i + 1) - 1 = nI (2 * (i + 1) - 1) := by
          rw [show (2 : Int32) = nI 2 from rfl, show (1 : Int32) = nI 1 from rfl, pk_mul, pk_sub (by omega)]
        rw [a1, show (710 : Int32) = nI 710 from rfl, pk_mul, pk_mul, show (226 : Int32) = nI 226 from rfl, pk_div (by omega) (by decide) (by decide), nI_1]
      refine r_iload_n C dX6_lengthOfTurns_4 rfl rfl ?_
      refine r_iload_n C dX6_lengthOfTurns_5 rfl rfl ?_
      refine r_icmp_gt (tgt := 35) C dX6_lengthOfTurns_6 (by decide) (fun c6 => absurd c6 ((nI_nlt (by omega) (by omega)))) (fun c6 => ?_)
      refine r_iload_n C dX6_lengthOfTurns_9 rfl rfl ?_
      refine r_sipush (v := 710) C dX6_lengthOfTurns_10 (by decide) ?_
      refine r_iconst (v := 2) C dX6_lengthOfTurns_13 (by decide) ?_
      refine r_iload_n C dX6_lengthOfTurns_14 rfl rfl ?_
      refine r_imul C dX6_lengthOfTurns_15 ?_
      refine r_iconst (v := 1) C dX6_lengthOfTurns_16 (by decide) ?_
      refine r_isub C dX6_lengthOfTurns_17 ?_
      refine r_imul C dX6_lengthOfTurns_18 ?_
      refine r_iload_n C dX6_lengthOfTurns_19 rfl rfl ?_
      refine r_imul C dX6_lengthOfTurns_20 ?_
      refine r_sipush (v := 226) C dX6_lengthOfTurns_21 (by decide) ?_
      refine r_idiv C dX6_lengthOfTurns_24 (by decide) ?_
      refine r_iconst (v := 1) C dX6_lengthOfTurns_25 (by decide) ?_
      refine r_iadd C dX6_lengthOfTurns_26 ?_
      show V X 0 0 27 _ [.int (710 * (2 * nI (i + 1) - 1) * nI w / 226 + 1), .int (nI (hatNeed w i))] _
      rw [e1]
      refine r_iadd C dX6_lengthOfTurns_27 ?_
      refine r_istore_n C dX6_lengthOfTurns_28 rfl (by decide) ?_
      refine r_iinc (v := _ + 1) C dX6_lengthOfTurns_29 rfl (by rfl) (by decide) ?_
      refine r_goto (tgt := 4) C dX6_lengthOfTurns_32 (by decide) ?_
      show V X 0 0 4 [some (.int (nI w)), some (.int (nI t)), some (.int (nI (hatNeed w i) + nI (710 * (2 * (i + 1) - 1) * w / 226 + 1))), some (.int (nI (i + 1) + 1))] [] []
      rw [nI_add, nI_1]
      exact ih (i + 1) (by omega)
  refine r_iconst (v := 0) C dX6_lengthOfTurns_0 (by decide) ?_
  refine r_istore_n C dX6_lengthOfTurns_1 rfl (by decide) ?_
  refine r_iconst (v := 1) C dX6_lengthOfTurns_2 (by decide) ?_
  refine r_istore_n C dX6_lengthOfTurns_3 rfl (by decide) ?_
  exact key t 0 (by omega)
theorem f_count (hF : Fr N Q) (w : Int32) : bX G A P yX6_count cX6_count 2 .int 6 [.int w] N R Q (∀ i : Nat, i < 5 → w ≠ nI i) (fun r => (w = 0 ∧ r = 0) ∨ (w = 1 ∧ r = 0) ∨ (w = 2 ∧ r = 0) ∨ (w = 3 ∧ r = N 0 1) ∨ (w = 4 ∧ r = 0)) := by
  refine XI.intro (by decide) (Nat.le_of_ble_eq_true rfl) (cat1 (xs := [w])) fun X C hE hR hO hN => ?_
  refine r_iload_n C dX6_count_0 rfl rfl ?_
  refine r_tab C dX6_count_1 (by decide) (by decide) (fun i1 off1 ho1 hx1 => ?_) (fun hx1 => ⟨61, by decide, ?_⟩)
  · have hi1 : i1 < 5 := (Array.getElem?_eq_some_iff.mp ho1).1
    rcases (show i1 = 0 ∨ i1 = 1 ∨ i1 = 2 ∨ i1 = 3 ∨ i1 = 4 by omega) with rfl | rfl | rfl | rfl | rfl
    · cases ho1
      refine ⟨36, by decide, ?_⟩
      refine r_aload_n C dX6_count_36 rfl rfl ?_
      refine bg_X6_47 C dX6_count_37 ?_
      exact hR _ _ _ _ _ () (by decide) (by decide) rfl (Or.inl ⟨hx1, hF.1⟩) dX6_count_40
    · cases ho1
      refine ⟨41, by decide, ?_⟩
      refine r_aload_n C dX6_count_41 rfl rfl ?_
      refine bg_X6_56 C dX6_count_42 ?_
      exact hR _ _ _ _ _ () (by decide) (by decide) rfl (Or.inr (Or.inl ⟨hx1, hF.2.1⟩)) dX6_count_45
    · cases ho1
      refine ⟨46, by decide, ?_⟩
      refine r_aload_n C dX6_count_46 rfl rfl ?_
      refine bg_X6_65 C dX6_count_47 ?_
      exact hR _ _ _ _ _ () (by decide) (by decide) rfl (Or.inr (Or.inr (Or.inl ⟨hx1, hF.2.2.1⟩))) dX6_count_50
    · cases ho1
      refine ⟨51, by decide, ?_⟩
      refine r_aload_n C dX6_count_51 rfl rfl ?_
      refine bg_X6_13 C dX6_count_52 ?_
      exact hR _ _ _ _ _ () (by decide) (by decide) rfl (Or.inr (Or.inr (Or.inr (Or.inl ⟨hx1, rfl⟩)))) dX6_count_55
    · cases ho1
      refine ⟨56, by decide, ?_⟩
      refine r_aload_n C dX6_count_56 rfl rfl ?_
      refine b_calli C (f_strawsLeftOfAll G A P N R Q hF) kcX6_X6_strawsLeftOfAll dX6_count_57 rfl (by decide) (by decide) (by decide) (Nat.le_of_ble_eq_true rfl) rfl rfl (fun r N1 R1 hu => ?_)
      obtain ⟨rfl, rfl, rfl⟩ := hu
      exact hR _ _ _ _ _ () (by decide) (by decide) rfl (Or.inr (Or.inr (Or.inr (Or.inr ⟨hx1, rfl⟩)))) dX6_count_60
  · exact hN _ _ _ _ _ 102 104 106 "no such question" (by first | decide | omega) (by first | decide | omega) (hx1) (by decide) (Nat.le_of_ble_eq_true rfl) kt_nse (by decide) rfl dX6_count_61 dX6_count_64 dX6_count_65 dX6_count_67 dX6_count_70
theorem f_size (hF : Fr N Q) (kk : Int32) : XI G yX6_size (.code yX6_size cX6_size 3 (some .int)) 1 0 0 [.ref (A 0), .int kk] (bW G A N R Q ++ P) (False, nse, []) (S := Unit) (fun r _ => r = -1) (fun _ => bW G A N R Q ++ P) := by
  refine XI.intro (by decide) (Nat.le_of_ble_eq_true rfl) (cat1 (xs := [kk])) fun X C hE hR hO hN => ?_
  refine r_aload_n C dX6_size_0 rfl rfl ?_
  refine r_iload_n C dX6_size_1 rfl rfl ?_
  refine a_callXq C hE (c_patternOrNull G A P N R Q kk) kcX6_X6_patternOrNull dX6_size_2 rfl (by decide) (by decide) (by decide) (Nat.le_of_ble_eq_true rfl) 0 rfl (ci := 6) rfl rfl rfl (fun q => q.elim) (fun o u hu => ?_)
  have ho : o = none := hu.trans (hF.pat kk)
  subst ho
  refine r_astore_nN C dX6_size_5 rfl (by decide) ?_
  refine r_aload_nN C dX6_size_6 rfl rfl ?_
  refine r_ifnonnullN C dX6_size_7 ?_
  refine r_iconst (v := -1) C dX6_size_10 (by decide) ?_
  refine r_goto (tgt := 18) C dX6_size_11 (by decide) ?_
  exact hR _ _ _ _ _ () (by decide) (by decide) rfl rfl dX6_size_18
theorem f_score (hF : Fr N Q) (kk t w : Int32) : XI G yX6_score (.code yX6_score cX6_score 7 (some .int)) 1 0 0 [.ref (A 0), .int kk, .int t, .int w] (bW G A N R Q ++ P) (False, nse, []) (S := Unit) (fun r _ => r = -1) (fun _ => bW G A N R Q ++ P) := by
  refine XI.intro (by decide) (Nat.le_of_ble_eq_true rfl) (cat1 (xs := [kk, t, w])) fun X C hE hR hO hN => ?_
  refine r_aload_n C dX6_score_0 rfl rfl ?_
  refine r_iload_n C dX6_score_1 rfl rfl ?_
  refine a_callXq C hE (c_patternOrNull G A P N R Q kk) kcX6_X6_patternOrNull dX6_score_2 rfl (by decide) (by decide) (by decide) (Nat.le_of_ble_eq_true rfl) 0 rfl (ci := 6) rfl rfl rfl (fun q => q.elim) (fun o u hu => ?_)
  have ho : o = none := hu.trans (hF.pat kk)
  subst ho
  refine r_astoreN C dX6_score_5 (by decide) ?_
  refine r_aload_n C dX6_score_7 rfl rfl ?_
  refine bg_X6_56 C dX6_score_8 ?_
  refine r_bipush (v := 60) C dX6_score_11 (by decide) ?_
  rw [hF.2.1]
  refine r_icmp_ge (tgt := 48) C dX6_score_13 (by decide) (fun c13 => absurd c13 ((by decide))) (fun c13 => ?_)
  refine r_aloadN C dX6_score_16 rfl ?_
  refine r_ifnullN (tgt := 48) C dX6_score_18 (by decide) ?_
  refine r_iconst (v := -1) C dX6_score_48 (by decide) ?_
  exact hR _ _ _ _ _ () (by decide) (by decide) rfl rfl dX6_score_49
theorem f_hat (hF : Fr N Q) (w r : Int32) : bI G A P yX6_hat cX6_hat 6 .int 1 [.int w, .int r] N R Q (fun a N' R' => a = -1 ∧ N' = N ∧ R' = R) := by
  refine bI.intro (by decide) (Nat.le_of_ble_eq_true rfl) (cat1 (xs := [w, r])) fun X C hR => ?_
  have j34 : V X 0 0 34 (ent [.ref (A 0), .int w, .int r] 6) [] (bW G A N R Q ++ P) := by
    refine r_iconst (v := -1) C dX6_hat_34 (by decide) ?_
    exact hR _ _ _ _ _ rfl dX6_hat_35 ⟨rfl, rfl, rfl⟩
  refine r_aload_n C dX6_hat_0 rfl rfl ?_
  refine bg_X6_65 C dX6_hat_1 ?_
  refine r_bipush (v := 60) C dX6_hat_4 (by decide) ?_
  rw [hF.2.2.1]
  refine r_icmp_ge (tgt := 34) C dX6_hat_6 (by decide) (fun c6 => absurd c6 ((by decide))) (fun c6 => ?_)
  refine r_iload_n C dX6_hat_9 rfl rfl ?_
  refine a_callS0 C (c_isWidth G w) kcX6_X6_isWidth dX6_hat_10 rfl (by decide) (by decide) (by decide) (Nat.le_of_ble_eq_true rfl) rfl (fun a u hu => ?_)
  subst hu
  skip
  by_cases hw : ¬ w < 1 ∧ ¬ 9 < w
  rotate_left
  · rw [if_neg hw]
    refine r_if_eq (tgt := 34) C dX6_hat_13 (by decide) (fun c13 => ?_) (fun c13 => absurd c13 ((fun q => q rfl)))
    exact j34
  rw [if_pos hw]
  obtain ⟨wn, hwn, rfl⟩ := nI_of (x := w) (fun q => hw.1 (Int32.lt_trans q (by decide)))
  have hw1 : 1 ≤ wn := by
    have := hw.1
    rw [show (1 : Int32) = nI 1 from rfl, nI_ltI (by omega) (by decide)] at this
    omega
  have hw9 : wn ≤ 9 := by
    have := hw.2
    rw [show (9 : Int32) = nI 9 from rfl, nI_ltI (by decide) (by omega)] at this
    omega
  have hne : ¬ nI wn = 0 := nI_ne0 (by omega) (by omega)
  have j28 : ∀ rn : Nat, r = nI rn → 1 ≤ rn → rn ≤ 400 → V X 0 0 28 (ent [.ref (A 0), .int (nI wn), .int r] 6) [] (bW G A N R Q ++ P) := by
    intro rn hr h1 h4
    subst hr
    have j36 : rn % wn = 0 → V X 0 0 36 (ent [.ref (A 0), .int (nI wn), .int (nI rn)] 6) [] (bW G A N R Q ++ P) := by
      intro hrem
      have hq1 : 1 ≤ rn / wn := (Nat.one_le_div_iff (by omega)).mpr (Nat.le_of_dvd (by omega) (Nat.dvd_of_mod_eq_zero hrem))
      have hq4 : rn / wn ≤ 400 := Nat.le_trans (Nat.div_le_self _ _) (by omega)
      have hge := hatNeed_ge (w := wn) (rn / wn)
      have hle := hatNeed_le (w := wn) hw9 (rn / wn) hq4
      refine r_iload_n C dX6_hat_36 rfl rfl ?_
      refine r_iload_n C dX6_hat_37 rfl rfl ?_
      refine r_idiv C dX6_hat_38 (hne) ?_
      rw [pk_div (by omega) (by omega) (by omega)]
      refine r_istore_n C dX6_hat_39 rfl (by decide) ?_
      refine r_iload_n C dX6_hat_40 rfl rfl ?_
      refine r_iload_n C dX6_hat_41 rfl rfl ?_
      refine a_callS0 C (c_lengthOfTurns G (w := wn) (t := rn / wn) hw9 hq4) kcX6_X6_lengthOfTurns dX6_hat_42 rfl (by decide) (by decide) (by decide) (Nat.le_of_ble_eq_true rfl) rfl (fun a u hu => ?_)
      subst hu
      refine r_istore C dX6_hat_45 (by decide) ?_
      refine r_iload C dX6_hat_47 rfl ?_
      refine r_aload_n C dX6_hat_49 rfl rfl ?_
      refine r_iload_n C dX6_hat_50 rfl rfl ?_
      refine b_calli C (f_lengthLeftOf G A P N R Q hF (nI wn)) kcX6_X6_lengthLeftOf dX6_hat_51 rfl (by decide) (by decide) (by decide) (Nat.le_of_ble_eq_true rfl) rfl rfl (fun a N1 R1 hu => ?_)
      obtain ⟨rfl, rfl, rfl⟩ := hu
      refine r_icmp_le (tgt := 59) C dX6_hat_54 (by decide) (fun c54 => absurd c54 ((nI_nle (by omega) (by omega)))) (fun c54 => ?_)
      refine r_iconst (v := -1) C dX6_hat_57 (by decide) ?_
      exact hR _ _ _ _ _ rfl dX6_hat_58 ⟨rfl, rfl, rfl⟩
    refine r_iload_n C dX6_hat_28 rfl rfl ?_
    refine r_iload_n C dX6_hat_29 rfl rfl ?_
    refine r_irem C dX6_hat_30 (hne) ?_
    show V X 0 0 31 _ [.int (nI rn - nI rn / nI wn * nI wn)] _
    rw [pk_rem (by omega) (by omega) (by omega)]
    refine r_if_eq (tgt := 36) C dX6_hat_31 (by decide) (fun c31 => ?_) (fun c31 => ?_)
    · exact j36 ((nI_eq (by have := Nat.mod_lt rn (show 0 < wn by omega); omega) (by decide)).mp (show nI (rn % wn) = nI 0 from c31))
    · exact j34
  refine r_if_eq (tgt := 34) C dX6_hat_13 (by decide) (fun c13 => absurd c13 ((by decide))) (fun c13 => ?_)
  refine r_iload_n C dX6_hat_16 rfl rfl ?_
  refine r_iconst (v := 1) C dX6_hat_17 (by decide) ?_
  refine r_icmp_lt (tgt := 34) C dX6_hat_18 (by decide) (fun c18 => ?_) (fun c18 => ?_)
  · exact j34
  · refine r_iload_n C dX6_hat_21 rfl rfl ?_
    refine r_sipush (v := 400) C dX6_hat_22 (by decide) ?_
    refine r_icmp_gt (tgt := 34) C dX6_hat_25 (by decide) (fun c25 => ?_) (fun c25 => ?_)
    · exact j34
    · obtain ⟨rn, hrn, hr⟩ := nI_of (x := r) (fun q => c18 (Int32.lt_trans q (by decide)))
      rw [hr, show (1 : Int32) = nI 1 from rfl, nI_ltI (by omega) (by decide)] at c18
      rw [hr, show (400 : Int32) = nI 400 from rfl, nI_ltI (by decide) (by omega)] at c25
      exact j28 rn hr (by omega) (by omega)
/-- a bundle more: its object is new -/
def bnW (G : Gx) (A : Nat → Nat) (P : va_W) (N : Nt) (R : Rt) (Q : Qt) (nb : Nat) (f w s : Int32) (q : Nat) : va_W := bW G A (va_up N 0 (va_up (N 0) 6 (nI (nb + 1)))) R (va_up Q 11 (va_up (Q 11) nb (some q))) ++ ((q, .inr (0, [.int f, .int w, .int s])) :: P)
theorem c_bbundle {nb : Nat} (f w s : Int32) (hb : N 0 6 = nI nb) (hb4 : nb ≤ 40) : CI G yX6_bundle cX6_bundle 4 .int 2 1 3 [.ref (A 0), .int f, .int w, .int s] (bW G A N R Q ++ P) (S := Option Nat) (fun r u => (okB nb f w s ∧ r = nI nb ∧ u ≠ none) ∨ (¬ okB nb f w s ∧ r = -1 ∧ u = none)) (fun u => match u with
    | none => bW G A N R Q ++ P
    | some q => bnW G A P N R Q nb f w s q) := by
  refine CI.intro (by decide) (Nat.le_of_ble_eq_true rfl) (cat1 (xs := [f, w, s])) fun X C hR => ?_
  have hne40 : ¬ nI 40 ≤ nI nb ↔ nb ≠ 40 := by rw [nI_leI (by decide) (by omega)]; omega
  have j38 : ¬ okB nb f w s → V X 0 0 38 (ent [.ref (A 0), .int f, .int w, .int s] 4) [] (bW G A N R Q ++ P) := by
    intro hno
    refine r_iconst (v := -1) C dX6_bundle_38 (by decide) ?_
    exact hR _ _ _ _ _ none (by decide) (by decide) rfl (Or.inr ⟨hno, rfl, rfl⟩) dX6_bundle_39
  have j40 : okB nb f w s → V X 0 0 40 (ent [.ref (A 0), .int f, .int w, .int s] 4) [] (bW G A N R Q ++ P) := by
    intro hok
    have hlt : nb < 40 := by have := hok.1; omega
    refine r_aload_n C dX6_bundle_40 rfl rfl ?_
    refine bg_X6_43 C dX6_bundle_41 ?_
    refine r_aload_n C dX6_bundle_44 rfl rfl ?_
    refine bg_X6_47 C dX6_bundle_45 ?_
    skip
    refine r_new (ci := 0) C [.int 0, .int 0, .int 0] rfl inX0 tyX0_ok cl_X6_41 ni_X0.1 ni_X0.2 (fun j hj => by rcases (show j = 0 ∨ j = 1 ∨ j = 2 by omega) with rfl | rfl | rfl <;> rfl) (by decide) (by decide) dX6_bundle_48 (fun q => ?_)
    refine V.back (m := 15) rfl [0, 1, 2, 3, 4, 5, 6, 7, 8, 9, 10, 11, 12, 13, 14] (by decide) (ws' := bW G A N R Q ++ [(q, .inr (0, [.int 0, .int 0, .int 0]))]) rfl (by decide) ?_
    refine r_dup C dX6_bundle_51 rfl ?_
    refine r_iload_n C dX6_bundle_52 rfl rfl ?_
    refine r_iload_n C dX6_bundle_53 rfl rfl ?_
    refine r_iload_n C dX6_bundle_54 rfl rfl ?_
    refine r_callIv C (c_X0_init G q f w s) kcX6_X0_init dX6_bundle_55 rfl (by decide) (by decide) (by decide) (Nat.le_of_ble_eq_true rfl) [14] ([0, 1, 2, 3, 4, 5, 6, 7, 8, 9, 10, 11, 12, 13] ++ tlx 15 P) (by decide) (tl_C rfl) (tl_R (wr := bW G A N R Q) rfl rfl) (tl_nd (by decide) (by decide)) (tl_dis (by decide) (by decide)) rfl (fun u hu => ?_)
    refine V.back (m := 15) rfl [0, 1, 2, 3, 4, 5, 6, 7, 8, 9, 10, 11, 12, 13, 14] (by decide) (ws' := bW G A N R Q ++ [(q, .inr (0, [.int f, .int w, .int s]))]) rfl (by decide) ?_
    rw [hb]
    refine r_aast (t0 := 3) (ci := 0) (r := (RX0, TX0, 3)) (ws' := bW G A N R (va_up Q 11 (va_up (Q 11) (nI nb).toNatClampNeg (some q))) ++ ((q, .inr (0, [.int f, .int w, .int s])) :: P)) C 11 14 (fun _ => rfl) rfl rfl rfl (vp_in_nI hlt (by decide)) rfl dX6_bundle_58 ?_
    rw [nI_clamp (by omega)]
    refine r_aload_n C dX6_bundle_59 rfl rfl ?_
    refine r_dup C dX6_bundle_60 rfl ?_
    refine bg_X6_47 C dX6_bundle_61 ?_
    refine r_iconst (v := 1) C dX6_bundle_64 (by decide) ?_
    refine r_iadd C dX6_bundle_65 ?_
    rw [hb, nI_1]
    refine bp_X6_47 C dX6_bundle_66 ?_
    refine r_aload_n C dX6_bundle_69 rfl rfl ?_
    refine bg_X6_47 C dX6_bundle_70 ?_
    refine r_iconst (v := 1) C dX6_bundle_73 (by decide) ?_
    refine r_isub C dX6_bundle_74 ?_
    show V X _ _ 75 _ [.int (nI (nb + 1) - 1)] _
    rw [nI_pred]
    exact hR _ _ _ _ _ (some q) (by decide) (by decide) rfl (Or.inl ⟨hok, rfl, fun z => nomatch z⟩) dX6_bundle_75
  by_cases hok : okB nb f w s
  · obtain ⟨o1, o2, o3, o4, o5, o6, o7⟩ := id hok
    refine r_aload_n C dX6_bundle_0 rfl rfl ?_
    refine bg_X6_47 C dX6_bundle_1 ?_
    refine r_bipush (v := 40) C dX6_bundle_4 (by decide) ?_
    rw [hb, show (40 : Int32) = nI 40 from rfl]
    refine r_icmp_ge (tgt := 38) C dX6_bundle_6 (by decide) (fun c6 => absurd c6 ((hne40.mpr o1))) (fun c6 => ?_)
    refine r_iload_n C dX6_bundle_9 rfl rfl ?_
    refine r_if_lt (tgt := 38) C dX6_bundle_10 (by decide) (fun c10 => absurd c10 (o2)) (fun c10 => ?_)
    refine r_iload_n C dX6_bundle_13 rfl rfl ?_
    refine r_bipush (v := 31) C dX6_bundle_14 (by decide) ?_
    refine r_icmp_gt (tgt := 38) C dX6_bundle_16 (by decide) (fun c16 => absurd c16 (o3)) (fun c16 => ?_)
    refine r_iload_n C dX6_bundle_19 rfl rfl ?_
    refine a_callS0 C (c_isWidth G w) kcX6_X6_isWidth dX6_bundle_20 rfl (by decide) (by decide) (by decide) (Nat.le_of_ble_eq_true rfl) rfl (fun a u hu => ?_)
    rw [if_pos ⟨o4, o5⟩] at hu
    subst hu
    refine r_if_eq (tgt := 38) C dX6_bundle_23 (by decide) (fun c23 => absurd c23 ((by decide))) (fun c23 => ?_)
    refine r_iload_n C dX6_bundle_26 rfl rfl ?_
    refine r_iconst (v := 1) C dX6_bundle_27 (by decide) ?_
    refine r_icmp_lt (tgt := 38) C dX6_bundle_28 (by decide) (fun c28 => absurd c28 (o6)) (fun c28 => ?_)
    refine r_iload_n C dX6_bundle_31 rfl rfl ?_
    refine r_sipush (v := 5000) C dX6_bundle_32 (by decide) ?_
    refine r_icmp_le (tgt := 40) C dX6_bundle_35 (by decide) (fun c35 => ?_) (fun c35 => absurd c35 ((fun q => q o7)))
    exact j40 hok
  · refine r_aload_n C dX6_bundle_0 rfl rfl ?_
    refine bg_X6_47 C dX6_bundle_1 ?_
    refine r_bipush (v := 40) C dX6_bundle_4 (by decide) ?_
    rw [hb, show (40 : Int32) = nI 40 from rfl]
    refine r_icmp_ge (tgt := 38) C dX6_bundle_6 (by decide) (fun c6 => ?_) (fun c6 => ?_)
    · exact j38 hok
    · refine r_iload_n C dX6_bundle_9 rfl rfl ?_
      refine r_if_lt (tgt := 38) C dX6_bundle_10 (by decide) (fun c10 => ?_) (fun c10 => ?_)
      · exact j38 hok
      · refine r_iload_n C dX6_bundle_13 rfl rfl ?_
        refine r_bipush (v := 31) C dX6_bundle_14 (by decide) ?_
        refine r_icmp_gt (tgt := 38) C dX6_bundle_16 (by decide) (fun c16 => ?_) (fun c16 => ?_)
        · exact j38 hok
        · refine r_iload_n C dX6_bundle_19 rfl rfl ?_
          refine a_callS0 C (c_isWidth G w) kcX6_X6_isWidth dX6_bundle_20 rfl (by decide) (by decide) (by decide) (Nat.le_of_ble_eq_true rfl) rfl (fun a u hu => ?_)
          refine r_if_eq (tgt := 38) C dX6_bundle_23 (by decide) (fun c23 => ?_) (fun c23 => ?_)
          · exact j38 hok
          · have hw : ¬ w < 1 ∧ ¬ 9 < w := Classical.byContradiction fun q => c23 (hu.trans (if_neg q))
            refine r_iload_n C dX6_bundle_26 rfl rfl ?_
            refine r_iconst (v := 1) C dX6_bundle_27 (by decide) ?_
            refine r_icmp_lt (tgt := 38) C dX6_bundle_28 (by decide) (fun c28 => ?_) (fun c28 => ?_)
            · exact j38 hok
            · refine r_iload_n C dX6_bundle_31 rfl rfl ?_
              refine r_sipush (v := 5000) C dX6_bundle_32 (by decide) ?_
              refine r_icmp_le (tgt := 40) C dX6_bundle_35 (by decide) (fun c35 => ?_) (fun c35 => ?_)
              · exact absurd ⟨hne40.mp c6, c10, c16, hw.1, hw.2, c28, c35⟩ hok
              · exact j38 hok
end C2
