/-! the stock: bundles, scores, hats, each in its row of cells -/
def rgm (n : Nat) (f : Nat → Nat × va_E) : va_W := (List.range n).map f
theorem rgm_len {n : Nat} {f : Nat → Nat × va_E} : (rgm n f).length = n := by unfold rgm; rw [List.length_map, List.length_range]
theorem rgm_get {n i : Nat} {f : Nat → Nat × va_E} (hi : i < n) : (rgm n f)[i]? = some (f i) := by
  unfold rgm
  rw [List.getElem?_map, List.getElem?_range hi]
  rfl
theorem rgm_at {w P : va_W} {m n i : Nat} {f : Nat → Nat × va_E} (hm : w.length = m) (hi : i < n) : (w ++ (rgm n f ++ P))[m + i]? = some (f i) := by
  rw [List.getElem?_append_right (by omega), hm, Nat.add_sub_cancel_left, List.getElem?_append_left (by rw [rgm_len]; exact hi), rgm_get hi]
theorem rgm_up {n i : Nat} {f f' : Nat → Nat × va_E} (hi : i < n) (hf : ∀ j, j < n → j ≠ i → f' j = f j) : (rgm n f).set i (f' i) = rgm n f' := by
  apply List.ext_getElem?
  intro j
  by_cases e : i = j
  · subst e
    rw [List.getElem?_set_self (by rw [rgm_len]; exact hi), rgm_get hi]
  · rw [List.getElem?_set_ne e]
    by_cases hj : j < n
    · rw [rgm_get hj, rgm_get hj, hf j hj (Ne.symm e)]
    · rw [List.getElem?_eq_none (by rw [rgm_len]; omega), List.getElem?_eq_none (by rw [rgm_len]; omega)]
theorem rgm_set {w P : va_W} {m n i : Nat} {f f' : Nat → Nat × va_E} (hm : w.length = m) (hi : i < n) (hf : ∀ j, j < n → j ≠ i → f' j = f j) : (w ++ (rgm n f ++ P)).set (m + i) (f' i) = w ++ (rgm n f' ++ P) := by
  rw [List.set_append_right _ _ (by omega), hm, Nat.add_sub_cancel_left, List.set_append_left _ _ (by rw [rgm_len]; exact hi), rgm_up hi hf]
theorem rgm_next {w P : va_W} {m n : Nat} {f : Nat → Nat × va_E} {c : Nat × va_E} (hm : w.length = m) : (w ++ (rgm n f ++ (c :: P)))[m + n]? = some c := by
  rw [List.getElem?_append_right (by omega), hm, Nat.add_sub_cancel_left, List.getElem?_append_right (by rw [rgm_len]; omega), rgm_len, Nat.sub_self]
  rfl
theorem rgm_nset {w P : va_W} {m n : Nat} {f : Nat → Nat × va_E} {c c' : Nat × va_E} (hm : w.length = m) : (w ++ (rgm n f ++ (c :: P))).set (m + n) c' = w ++ (rgm n f ++ (c' :: P)) := by
  rw [List.set_append_right _ _ (by omega), hm, Nat.add_sub_cancel_left, List.set_append_right _ _ (by rw [rgm_len]; omega), rgm_len, Nat.sub_self]
  rfl
theorem rgm_s {n : Nat} {f : Nat → Nat × va_E} : rgm (n + 1) f = rgm n f ++ [f n] := by
  unfold rgm
  rw [List.range_succ, List.map_append]
  rfl
theorem rgm_congr {n : Nat} {f f' : Nat → Nat × va_E} (h : ∀ i, i < n → f i = f' i) : rgm n f = rgm n f' := by
  unfold rgm
  exact List.map_congr_left (fun i hi => h i (List.mem_range.mp hi))
def bnC (ba : Nat → Nat) (T : Rt) (i : Nat) : Nat × va_E := (ba i, .inr (0, [.int (T 31 i), .int (T 32 i), .int (T 33 i)]))
def scC (sa : Nat → Nat) (T : Rt) (i : Nat) : Nat × va_E := (sa i, .inr (5, [.int (T 36 i), .int (T 34 i), .int (T 37 i), .int (T 38 i), .int (T 35 i)]))
def haC (hA : Nat → Nat) (T : Rt) (i : Nat) : Nat × va_E := (hA i, .inr (2, [.int (T 39 i), .int (T 40 i), .int (T 41 i), .int (T 42 i)]))
section ST1
variable (G : Gx) (A : Nat → Nat) (P : va_W) (N : Nt) (R : Rt) (Q : Qt) (T : Rt) (ba sa hA : Nat → Nat)
theorem c_bleft {nb : Nat} (x : Int32) (hb : N 0 6 = nI nb) (hb40 : nb ≤ 40) (hq : ∀ i, i < nb → Q 11 i = some (ba i)) : bX G A (rgm nb (bnC ba T) ++ P) yX6_left cX6_left 2 .int 6 [.int x] N R Q (∀ i : Nat, i < nb → x ≠ nI i) (fun r => ∃ i : Nat, i < nb ∧ x = nI i ∧ r = T 33 i) := by
  refine XI.intro (by decide) (Nat.le_of_ble_eq_true rfl) (cat1 (xs := [x])) fun X C hE hR hO hN => ?_
  refine r_iload_n C dX6_left_0 rfl rfl ?_
  refine r_if_lt (tgt := 12) C dX6_left_1 (by decide) (fun c1 => ?_) (fun c1 => ?_)
  · exact hN _ _ _ _ _ 102 183 106 "no such bundle" (by first | decide | omega) (by first | decide | omega) (fun i hi e => by first | exact nI_pos (by omega) (e ▸ c1) | exact c9 (by rw [e]; exact nI_lt hi (by omega))) (by decide) (Nat.le_of_ble_eq_true rfl) kt_nse (by decide) rfl dX6_left_12 dX6_left_15 dX6_left_16 dX6_left_18 dX6_left_21
  · refine r_iload_n C dX6_left_4 rfl rfl ?_
    refine r_aload_n C dX6_left_5 rfl rfl ?_
    refine bg_X6_47 C dX6_left_6 ?_
    rw [hb]
    refine r_icmp_lt (tgt := 22) C dX6_left_9 (by decide) (fun c9 => ?_) (fun c9 => ?_)
    · obtain ⟨i, hi0, e⟩ := nI_of c1
      rw [e, nI_ltI hi0 (by omega)] at c9
      subst e
      refine r_aload_n C dX6_left_22 rfl rfl ?_
      refine bg_X6_43 C dX6_left_23 ?_
      refine r_iload_n C dX6_left_26 rfl rfl ?_
      refine bl_11 C dX6_left_27 (vp_in_nI (show i < 40 by omega) (by decide)) ?_
      rw [nI_clamp (by omega), hq i c9]
      refine r_get C (14 + i) 2 (rgm_at rfl c9) rfl inX0 (by decide) lk_X6_185 rfl dX6_left_28 ?_
      exact hR _ _ _ _ _ () (by decide) (by decide) rfl ⟨i, c9, rfl, rfl⟩ dX6_left_31
    · exact hN _ _ _ _ _ 102 183 106 "no such bundle" (by first | decide | omega) (by first | decide | omega) (fun i hi e => by first | exact nI_pos (by omega) (e ▸ c1) | exact c9 (by rw [e]; exact nI_lt hi (by omega))) (by decide) (Nat.le_of_ble_eq_true rfl) kt_nse (by decide) rfl dX6_left_12 dX6_left_15 dX6_left_16 dX6_left_18 dX6_left_21
theorem c_bscored {ns : Nat} (x w : Int32) (hb : N 0 8 = nI ns) (hs60 : ns ≤ 60) (hq : ∀ i, i < ns → Q 12 i = some (sa i)) : bX G A (rgm ns (scC sa T) ++ P) yX6_scored cX6_scored 4 .int 6 [.int x, .int w] N R Q ((∀ i : Nat, i < ns → x ≠ nI i) ∨ w < 0 ∨ 4 < w) (fun r => ∃ i : Nat, i < ns ∧ x = nI i ∧ ¬ w < 0 ∧ ¬ 4 < w ∧ r = scQ T i w) := by
  refine XI.intro (by decide) (Nat.le_of_ble_eq_true rfl) (cat1 (xs := [x, w])) fun X C hE hR hO hN => ?_
  have hout : (∀ i : Nat, i < 5 → w ≠ nI i) → w < 0 ∨ 4 < w := fun h => by
    by_cases h0 : w < 0
    · exact Or.inl h0
    · obtain ⟨j, hj, e⟩ := nI_of h0
      refine Or.inr ?_
      rw [e, show (4 : Int32) = nI 4 from rfl, nI_ltI (by decide) hj]
      exact Nat.lt_of_not_le (fun q => h j (by omega) e)
  refine r_iload_n C dX6_scored_0 rfl rfl ?_
  refine r_if_lt (tgt := 12) C dX6_scored_1 (by decide) (fun c1 => ?_) (fun c1 => ?_)
  · exact hN _ _ _ _ _ 102 200 106 "no such score" (by first | decide | omega) (by first | decide | omega) (Or.inl (fun i hi e => by first | exact nI_pos (by omega) (e ▸ c1) | exact c9 (by rw [e]; exact nI_lt hi (by omega)))) (by decide) (Nat.le_of_ble_eq_true rfl) kt_nse (by decide) rfl dX6_scored_12 dX6_scored_15 dX6_scored_16 dX6_scored_18 dX6_scored_21
  · refine r_iload_n C dX6_scored_4 rfl rfl ?_
    refine r_aload_n C dX6_scored_5 rfl rfl ?_
    refine bg_X6_56 C dX6_scored_6 ?_
    rw [hb]
    refine r_icmp_lt (tgt := 22) C dX6_scored_9 (by decide) (fun c9 => ?_) (fun c9 => ?_)
    · obtain ⟨i, hi0, e⟩ := nI_of c1
      rw [e, nI_ltI hi0 (by omega)] at c9
      subst e
      refine r_aload_n C dX6_scored_22 rfl rfl ?_
      refine bg_X6_52 C dX6_scored_23 ?_
      refine r_iload_n C dX6_scored_26 rfl rfl ?_
      refine bl_12 C dX6_scored_27 (vp_in_nI (show i < 60 by omega) (by decide)) ?_
      rw [nI_clamp (by omega), hq i c9]
      show V X _ _ 28 _ [.ref (sa i)] _
      refine r_astore_n C dX6_scored_28 rfl (by decide) ?_
      refine r_iload_n C dX6_scored_29 rfl rfl ?_
      refine r_tab C dX6_scored_30 (by decide) (by decide) (fun i30 off30 ho30 hx30 => ?_) (fun hx30 => ⟨89, by decide, ?_⟩)
      · have hi30 : i30 < 5 := (Array.getElem?_eq_some_iff.mp ho30).1
        rcases (show i30 = 0 ∨ i30 = 1 ∨ i30 = 2 ∨ i30 = 3 ∨ i30 = 4 by omega) with rfl | rfl | rfl | rfl | rfl
        · cases ho30
          refine ⟨64, by decide, ?_⟩
          refine r_aload_n C dX6_scored_64 rfl rfl ?_
          refine r_get C (14 + i) 1 (rgm_at rfl c9) rfl inX5 (by decide) lk_X6_202 rfl dX6_scored_65 ?_
          exact hR _ _ _ _ _ () (by decide) (by decide) rfl ⟨i, c9, rfl, by rw [hx30]; decide, by rw [hx30]; decide, by rw [hx30]; rfl⟩ dX6_scored_68
        · cases ho30
          refine ⟨69, by decide, ?_⟩
          refine r_aload_n C dX6_scored_69 rfl rfl ?_
          refine r_get C (14 + i) 4 (rgm_at rfl c9) rfl inX5 (by decide) lk_X6_203 rfl dX6_scored_70 ?_
          exact hR _ _ _ _ _ () (by decide) (by decide) rfl ⟨i, c9, rfl, by rw [hx30]; decide, by rw [hx30]; decide, by rw [hx30]; rfl⟩ dX6_scored_73
        · cases ho30
          refine ⟨74, by decide, ?_⟩
          refine r_aload_n C dX6_scored_74 rfl rfl ?_
          refine r_get C (14 + i) 0 (rgm_at rfl c9) rfl inX5 (by decide) lk_X6_206 rfl dX6_scored_75 ?_
          exact hR _ _ _ _ _ () (by decide) (by decide) rfl ⟨i, c9, rfl, by rw [hx30]; decide, by rw [hx30]; decide, by rw [hx30]; rfl⟩ dX6_scored_78
        · cases ho30
          refine ⟨79, by decide, ?_⟩
          refine r_aload_n C dX6_scored_79 rfl rfl ?_
          refine r_get C (14 + i) 2 (rgm_at rfl c9) rfl inX5 (by decide) lk_X6_209 rfl dX6_scored_80 ?_
          exact hR _ _ _ _ _ () (by decide) (by decide) rfl ⟨i, c9, rfl, by rw [hx30]; decide, by rw [hx30]; decide, by rw [hx30]; rfl⟩ dX6_scored_83
        · cases ho30
          refine ⟨84, by decide, ?_⟩
          refine r_aload_n C dX6_scored_84 rfl rfl ?_
          refine r_get C (14 + i) 3 (rgm_at rfl c9) rfl inX5 (by decide) lk_X6_212 rfl dX6_scored_85 ?_
          exact hR _ _ _ _ _ () (by decide) (by decide) rfl ⟨i, c9, rfl, by rw [hx30]; decide, by rw [hx30]; decide, by rw [hx30]; rfl⟩ dX6_scored_88
      · exact hN _ _ _ _ _ 102 104 106 "no such question" (by first | decide | omega) (by first | decide | omega) (Or.inr (hout hx30)) (by decide) (Nat.le_of_ble_eq_true rfl) kt_nse (by decide) rfl dX6_scored_89 dX6_scored_92 dX6_scored_93 dX6_scored_95 dX6_scored_98
    · exact hN _ _ _ _ _ 102 200 106 "no such score" (by first | decide | omega) (by first | decide | omega) (Or.inl (fun i hi e => by first | exact nI_pos (by omega) (e ▸ c1) | exact c9 (by rw [e]; exact nI_lt hi (by omega)))) (by decide) (Nat.le_of_ble_eq_true rfl) kt_nse (by decide) rfl dX6_scored_12 dX6_scored_15 dX6_scored_16 dX6_scored_18 dX6_scored_21
theorem c_bsewn {nh : Nat} (x w : Int32) (hb : N 0 10 = nI nh) (hs60 : nh ≤ 60) (hq : ∀ i, i < nh → Q 13 i = some (hA i)) : bX G A (rgm nh (haC hA T) ++ P) yX6_sewn cX6_sewn 4 .int 6 [.int x, .int w] N R Q ((∀ i : Nat, i < nh → x ≠ nI i) ∨ w < 0 ∨ 3 < w) (fun r => ∃ i : Nat, i < nh ∧ x = nI i ∧ ¬ w < 0 ∧ ¬ 3 < w ∧ r = haQ T i w) := by
  refine XI.intro (by decide) (Nat.le_of_ble_eq_true rfl) (cat1 (xs := [x, w])) fun X C hE hR hO hN => ?_
  have hout : (∀ i : Nat, i < 4 → w ≠ nI i) → w < 0 ∨ 3 < w := fun h => by
    by_cases h0 : w < 0
    · exact Or.inl h0
    · obtain ⟨j, hj, e⟩ := nI_of h0
      refine Or.inr ?_
      rw [e, show (3 : Int32) = nI 3 from rfl, nI_ltI (by decide) hj]
      exact Nat.lt_of_not_le (fun q => h j (by omega) e)
  refine r_iload_n C dX6_sewn_0 rfl rfl ?_
  refine r_if_lt (tgt := 12) C dX6_sewn_1 (by decide) (fun c1 => ?_) (fun c1 => ?_)
  · exact hN _ _ _ _ _ 102 227 106 "no such hat" (by first | decide | omega) (by first | decide | omega) (Or.inl (fun i hi e => by first | exact nI_pos (by omega) (e ▸ c1) | exact c9 (by rw [e]; exact nI_lt hi (by omega)))) (by decide) (Nat.le_of_ble_eq_true rfl) kt_nse (by decide) rfl dX6_sewn_12 dX6_sewn_15 dX6_sewn_16 dX6_sewn_18 dX6_sewn_21
  · refine r_iload_n C dX6_sewn_4 rfl rfl ?_
    refine r_aload_n C dX6_sewn_5 rfl rfl ?_
    refine bg_X6_65 C dX6_sewn_6 ?_
    rw [hb]
    refine r_icmp_lt (tgt := 22) C dX6_sewn_9 (by decide) (fun c9 => ?_) (fun c9 => ?_)
    · obtain ⟨i, hi0, e⟩ := nI_of c1
      rw [e, nI_ltI hi0 (by omega)] at c9
      subst e
      refine r_aload_n C dX6_sewn_22 rfl rfl ?_
      refine bg_X6_61 C dX6_sewn_23 ?_
      refine r_iload_n C dX6_sewn_26 rfl rfl ?_
      refine bl_13 C dX6_sewn_27 (vp_in_nI (show i < 60 by omega) (by decide)) ?_
      rw [nI_clamp (by omega), hq i c9]
      show V X _ _ 28 _ [.ref (hA i)] _
      refine r_astore_n C dX6_sewn_28 rfl (by decide) ?_
      refine r_iload_n C dX6_sewn_29 rfl rfl ?_
      refine r_tab C dX6_sewn_30 (by decide) (by decide) (fun i30 off30 ho30 hx30 => ?_) (fun hx30 => ⟨80, by decide, ?_⟩)
      · have hi30 : i30 < 4 := (Array.getElem?_eq_some_iff.mp ho30).1
        rcases (show i30 = 0 ∨ i30 = 1 ∨ i30 = 2 ∨ i30 = 3 by omega) with rfl | rfl | rfl | rfl
        · cases ho30
          refine ⟨60, by decide, ?_⟩
          refine r_aload_n C dX6_sewn_60 rfl rfl ?_
          refine r_get C (14 + i) 0 (rgm_at rfl c9) rfl inX2 (by decide) lk_X6_229 rfl dX6_sewn_61 ?_
          exact hR _ _ _ _ _ () (by decide) (by decide) rfl ⟨i, c9, rfl, by rw [hx30]; decide, by rw [hx30]; decide, by rw [hx30]; rfl⟩ dX6_sewn_64
        · cases ho30
          refine ⟨65, by decide, ?_⟩
          refine r_aload_n C dX6_sewn_65 rfl rfl ?_
          refine r_get C (14 + i) 1 (rgm_at rfl c9) rfl inX2 (by decide) lk_X6_230 rfl dX6_sewn_66 ?_
          exact hR _ _ _ _ _ () (by decide) (by decide) rfl ⟨i, c9, rfl, by rw [hx30]; decide, by rw [hx30]; decide, by rw [hx30]; rfl⟩ dX6_sewn_69
        · cases ho30
          refine ⟨70, by decide, ?_⟩
          refine r_aload_n C dX6_sewn_70 rfl rfl ?_
          refine r_get C (14 + i) 2 (rgm_at rfl c9) rfl inX2 (by decide) lk_X6_233 rfl dX6_sewn_71 ?_
          exact hR _ _ _ _ _ () (by decide) (by decide) rfl ⟨i, c9, rfl, by rw [hx30]; decide, by rw [hx30]; decide, by rw [hx30]; rfl⟩ dX6_sewn_74
        · cases ho30
          refine ⟨75, by decide, ?_⟩
          refine r_aload_n C dX6_sewn_75 rfl rfl ?_
          refine r_get C (14 + i) 3 (rgm_at rfl c9) rfl inX2 (by decide) lk_X6_234 rfl dX6_sewn_76 ?_
          exact hR _ _ _ _ _ () (by decide) (by decide) rfl ⟨i, c9, rfl, by rw [hx30]; decide, by rw [hx30]; decide, by rw [hx30]; rfl⟩ dX6_sewn_79
      · exact hN _ _ _ _ _ 102 104 106 "no such question" (by first | decide | omega) (by first | decide | omega) (Or.inr (hout hx30)) (by decide) (Nat.le_of_ble_eq_true rfl) kt_nse (by decide) rfl dX6_sewn_80 dX6_sewn_83 dX6_sewn_84 dX6_sewn_86 dX6_sewn_89
    · exact hN _ _ _ _ _ 102 227 106 "no such hat" (by first | decide | omega) (by first | decide | omega) (Or.inl (fun i hi e => by first | exact nI_pos (by omega) (e ▸ c1) | exact c9 (by rw [e]; exact nI_lt hi (by omega)))) (by decide) (Nat.le_of_ble_eq_true rfl) kt_nse (by decide) rfl dX6_sewn_12 dX6_sewn_15 dX6_sewn_16 dX6_sewn_18 dX6_sewn_21
theorem c_strawsLeftOfAll {nb : Nat} (hb : N 0 6 = nI nb) (hb40 : nb ≤ 40) (hq : ∀ i, i < nb → Q 11 i = some (ba i)) (hL : NumOK (T 33) nb 5000) : CI G yX6_strawsLeftOfAll cX6_strawsLeftOfAll 3 .int 0 0 0 [.ref (A 0)] (bW G A N R Q ++ (rgm nb (bnC ba T) ++ P)) (S := Unit) (fun r _ => r = nI (sumA (T 33) nb)) (fun _ => bW G A N R Q ++ (rgm nb (bnC ba T) ++ P)) := by
  refine CI.intro (by decide) (Nat.le_of_ble_eq_true rfl) (cat1 (xs := [])) fun X C hR => ?_
  have key : ∀ (f i : Nat), i + f = nb → V X 0 0 4 [some (.ref (A 0)), some (.int (nI (sumA (T 33) i))), some (.int (nI i))] [] (bW G A N R Q ++ (rgm nb (bnC ba T) ++ P)) := by
    intro f
    induction f with
    | zero =>
      intro i hi
      have : i = nb := by omega
      subst this
      refine r_iload_n C dX6_strawsLeftOfAll_4 rfl rfl ?_
      refine r_aload_n C dX6_strawsLeftOfAll_5 rfl rfl ?_
      refine bg_X6_47 C dX6_strawsLeftOfAll_6 ?_
      rw [hb]
      refine r_icmp_ge (tgt := 30) C dX6_strawsLeftOfAll_9 (by decide) (fun c9 => ?_) (fun c9 => absurd c9 ((fun q => q (by rw [nI_leI (by omega) (by omega)]; omega))))
      refine r_iload_n C dX6_strawsLeftOfAll_30 rfl rfl ?_
      exact hR _ _ _ _ _ () (by decide) (by decide) rfl rfl dX6_strawsLeftOfAll_31
    | succ f ih =>
      intro i hi
      have hin : i < nb := by omega
      refine r_iload_n C dX6_strawsLeftOfAll_4 rfl rfl ?_
      refine r_aload_n C dX6_strawsLeftOfAll_5 rfl rfl ?_
      refine bg_X6_47 C dX6_strawsLeftOfAll_6 ?_
      rw [hb]
      refine r_icmp_ge (tgt := 30) C dX6_strawsLeftOfAll_9 (by decide) (fun c9 => absurd c9 ((by rw [nI_leI (by omega) (by omega)]; omega))) (fun c9 => ?_)
      refine r_iload_n C dX6_strawsLeftOfAll_12 rfl rfl ?_
      refine r_aload_n C dX6_strawsLeftOfAll_13 rfl rfl ?_
      refine bg_X6_43 C dX6_strawsLeftOfAll_14 ?_
      refine r_iload_n C dX6_strawsLeftOfAll_17 rfl rfl ?_
      refine bl_11 C dX6_strawsLeftOfAll_18 (vp_in_nI (show i < 40 by omega) (by decide)) ?_
      rw [nI_clamp (by omega), hq i hin]
      refine r_get C (14 + i) 2 (rgm_at rfl hin) rfl inX0 (by decide) lk_X6_185 rfl dX6_strawsLeftOfAll_19 ?_
      rw [(hL i hin).1]
      refine r_iadd C dX6_strawsLeftOfAll_22 ?_
      refine r_istore_n C dX6_strawsLeftOfAll_23 rfl (by decide) ?_
      refine r_iinc (v := _ + 1) C dX6_strawsLeftOfAll_24 rfl (by rfl) (by decide) ?_
      refine r_goto (tgt := 4) C dX6_strawsLeftOfAll_27 (by decide) ?_
      show V X 0 0 4 [_, some (.int (nI (sumA (T 33) i) + nI (cl (T 33 i)))), some (.int (nI i + 1))] _ _
      rw [nI_1, nI_add]
      exact ih (i + 1) (by omega)
  refine r_iconst (v := 0) C dX6_strawsLeftOfAll_0 (by decide) ?_
  refine r_istore_n C dX6_strawsLeftOfAll_1 rfl (by decide) ?_
  refine r_iconst (v := 0) C dX6_strawsLeftOfAll_2 (by decide) ?_
  refine r_istore_n C dX6_strawsLeftOfAll_3 rfl (by decide) ?_
  exact key nb 0 (by omega)
theorem c_strawsLeftOf {nb : Nat} (w : Int32) (hb : N 0 6 = nI nb) (hb40 : nb ≤ 40) (hq : ∀ i, i < nb → Q 11 i = some (ba i)) (hL : NumOK (T 33) nb 5000) : CI G yX6_strawsLeftOf cX6_strawsLeftOf 4 .int 0 0 0 [.ref (A 0), .int w] (bW G A N R Q ++ (rgm nb (bnC ba T) ++ P)) (S := Unit) (fun r _ => r = nI (sumW (T 32) (T 33) w nb)) (fun _ => bW G A N R Q ++ (rgm nb (bnC ba T) ++ P)) := by
  refine CI.intro (by decide) (Nat.le_of_ble_eq_true rfl) (cat1 (xs := [w])) fun X C hR => ?_
  have key : ∀ (f i : Nat), i + f = nb → V X 0 0 4 [some (.ref (A 0)), some (.int w), some (.int (nI (sumW (T 32) (T 33) w i))), some (.int (nI i))] [] (bW G A N R Q ++ (rgm nb (bnC ba T) ++ P)) := by
    intro f
    induction f with
    | zero =>
      intro i hi
      have : i = nb := by omega
      subst this
      refine r_iload_n C dX6_strawsLeftOf_4 rfl rfl ?_
      refine r_aload_n C dX6_strawsLeftOf_5 rfl rfl ?_
      refine bg_X6_47 C dX6_strawsLeftOf_6 ?_
      rw [hb]
      refine r_icmp_ge (tgt := 43) C dX6_strawsLeftOf_9 (by decide) (fun c9 => ?_) (fun c9 => absurd c9 ((fun q => q (by rw [nI_leI (by omega) (by omega)]; omega))))
      refine r_iload_n C dX6_strawsLeftOf_43 rfl rfl ?_
      exact hR _ _ _ _ _ () (by decide) (by decide) rfl rfl dX6_strawsLeftOf_44
    | succ f ih =>
      intro i hi
      have hin : i < nb := by omega
      have j37 : V X 0 0 37 [some (.ref (A 0)), some (.int w), some (.int (nI (sumW (T 32) (T 33) w (i + 1)))), some (.int (nI i))] [] (bW G A N R Q ++ (rgm nb (bnC ba T) ++ P)) := by
        refine r_iinc (v := _ + 1) C dX6_strawsLeftOf_37 rfl (by rfl) (by decide) ?_
        refine r_goto (tgt := 4) C dX6_strawsLeftOf_40 (by decide) ?_
        show V X 0 0 4 [_, _, _, some (.int (nI i + 1))] _ _
        rw [nI_1]
        exact ih (i + 1) (by omega)
      have hS : sumW (T 32) (T 33) w (i + 1) = sumW (T 32) (T 33) w i + if T 32 i = w then cl (T 33 i) else 0 := rfl
      refine r_iload_n C dX6_strawsLeftOf_4 rfl rfl ?_
      refine r_aload_n C dX6_strawsLeftOf_5 rfl rfl ?_
      refine bg_X6_47 C dX6_strawsLeftOf_6 ?_
      rw [hb]
      refine r_icmp_ge (tgt := 43) C dX6_strawsLeftOf_9 (by decide) (fun c9 => absurd c9 ((by rw [nI_leI (by omega) (by omega)]; omega))) (fun c9 => ?_)
      refine r_aload_n C dX6_strawsLeftOf_12 rfl rfl ?_
      refine bg_X6_43 C dX6_strawsLeftOf_13 ?_
      refine r_iload_n C dX6_strawsLeftOf_16 rfl rfl ?_
      refine bl_11 C dX6_strawsLeftOf_17 (vp_in_nI (show i < 40 by omega) (by decide)) ?_
      rw [nI_clamp (by omega), hq i hin]
      refine r_get C (14 + i) 1 (rgm_at rfl hin) rfl inX0 (by decide) lk_X6_242 rfl dX6_strawsLeftOf_18 ?_
      refine r_iload_n C dX6_strawsLeftOf_21 rfl rfl ?_
      refine r_icmp_ne (tgt := 37) C dX6_strawsLeftOf_22 (by decide) (fun c22 => ?_) (fun c22 => ?_)
      · first | (rw [hS, if_pos c22, ← nI_add] at j37; exact j37) | (rw [hS, if_neg c22, Nat.add_zero] at j37; exact j37)
      · refine r_iload_n C dX6_strawsLeftOf_25 rfl rfl ?_
        refine r_aload_n C dX6_strawsLeftOf_26 rfl rfl ?_
        refine bg_X6_43 C dX6_strawsLeftOf_27 ?_
        refine r_iload_n C dX6_strawsLeftOf_30 rfl rfl ?_
        refine bl_11 C dX6_strawsLeftOf_31 (vp_in_nI (show i < 40 by omega) (by decide)) ?_
        rw [nI_clamp (by omega), hq i hin]
        refine r_get C (14 + i) 2 (rgm_at rfl hin) rfl inX0 (by decide) lk_X6_185 rfl dX6_strawsLeftOf_32 ?_
        rw [(hL i hin).1]
        refine r_iadd C dX6_strawsLeftOf_35 ?_
        refine r_istore_n C dX6_strawsLeftOf_36 rfl (by decide) ?_
        first | (rw [hS, if_pos c22, ← nI_add] at j37; exact j37) | (rw [hS, if_neg c22, Nat.add_zero] at j37; exact j37)
  refine r_iconst (v := 0) C dX6_strawsLeftOf_0 (by decide) ?_
  refine r_istore_n C dX6_strawsLeftOf_1 rfl (by decide) ?_
  refine r_iconst (v := 0) C dX6_strawsLeftOf_2 (by decide) ?_
  refine r_istore_n C dX6_strawsLeftOf_3 rfl (by decide) ?_
  exact key nb 0 (by omega)
theorem c_lengthLeftOf {ns : Nat} (w : Int32) (hb : N 0 8 = nI ns) (hb40 : ns ≤ 60) (hq : ∀ i, i < ns → Q 12 i = some (sa i)) (hL : NumOK (T 35) ns 120000) : CI G yX6_lengthLeftOf cX6_lengthLeftOf 4 .int 0 0 0 [.ref (A 0), .int w] (bW G A N R Q ++ (rgm ns (scC sa T) ++ P)) (S := Unit) (fun r _ => r = nI (sumW (T 36) (T 35) w ns)) (fun _ => bW G A N R Q ++ (rgm ns (scC sa T) ++ P)) := by
  refine CI.intro (by decide) (Nat.le_of_ble_eq_true rfl) (cat1 (xs := [w])) fun X C hR => ?_
  have key : ∀ (f i : Nat), i + f = ns → V X 0 0 4 [some (.ref (A 0)), some (.int w), some (.int (nI (sumW (T 36) (T 35) w i))), some (.int (nI i))] [] (bW G A N R Q ++ (rgm ns (scC sa T) ++ P)) := by
    intro f
    induction f with
    | zero =>
      intro i hi
      have : i = ns := by omega
      subst this
      refine r_iload_n C dX6_lengthLeftOf_4 rfl rfl ?_
      refine r_aload_n C dX6_lengthLeftOf_5 rfl rfl ?_
      refine bg_X6_56 C dX6_lengthLeftOf_6 ?_
      rw [hb]
      refine r_icmp_ge (tgt := 43) C dX6_lengthLeftOf_9 (by decide) (fun c9 => ?_) (fun c9 => absurd c9 ((fun q => q (by rw [nI_leI (by omega) (by omega)]; omega))))
      refine r_iload_n C dX6_lengthLeftOf_43 rfl rfl ?_
      exact hR _ _ _ _ _ () (by decide) (by decide) rfl rfl dX6_lengthLeftOf_44
    | succ f ih =>
      intro i hi
      have hin : i < ns := by omega
      have j37 : V X 0 0 37 [some (.ref (A 0)), some (.int w), some (.int (nI (sumW (T 36) (T 35) w (i + 1)))), some (.int (nI i))] [] (bW G A N R Q ++ (rgm ns (scC sa T) ++ P)) := by
        refine r_iinc (v := _ + 1) C dX6_lengthLeftOf_37 rfl (by rfl) (by decide) ?_
        refine r_goto (tgt := 4) C dX6_lengthLeftOf_40 (by decide) ?_
        show V X 0 0 4 [_, _, _, some (.int (nI i + 1))] _ _
        rw [nI_1]
        exact ih (i + 1) (by omega)
      have hS : sumW (T 36) (T 35) w (i + 1) = sumW (T 36) (T 35) w i + if T 36 i = w then cl (T 35 i) else 0 := rfl
      refine r_iload_n C dX6_lengthLeftOf_4 rfl rfl ?_
      refine r_aload_n C dX6_lengthLeftOf_5 rfl rfl ?_
      refine bg_X6_56 C dX6_lengthLeftOf_6 ?_
      rw [hb]
      refine r_icmp_ge (tgt := 43) C dX6_lengthLeftOf_9 (by decide) (fun c9 => absurd c9 ((by rw [nI_leI (by omega) (by omega)]; omega))) (fun c9 => ?_)
      refine r_aload_n C dX6_lengthLeftOf_12 rfl rfl ?_
      refine bg_X6_52 C dX6_lengthLeftOf_13 ?_
      refine r_iload_n C dX6_lengthLeftOf_16 rfl rfl ?_
      refine bl_12 C dX6_lengthLeftOf_17 (vp_in_nI (show i < 60 by omega) (by decide)) ?_
      rw [nI_clamp (by omega), hq i hin]
      refine r_get C (14 + i) 0 (rgm_at rfl hin) rfl inX5 (by decide) lk_X6_206 rfl dX6_lengthLeftOf_18 ?_
      refine r_iload_n C dX6_lengthLeftOf_21 rfl rfl ?_
      refine r_icmp_ne (tgt := 37) C dX6_lengthLeftOf_22 (by decide) (fun c22 => ?_) (fun c22 => ?_)
      · first | (rw [hS, if_pos c22, ← nI_add] at j37; exact j37) | (rw [hS, if_neg c22, Nat.add_zero] at j37; exact j37)
      · refine r_iload_n C dX6_lengthLeftOf_25 rfl rfl ?_
        refine r_aload_n C dX6_lengthLeftOf_26 rfl rfl ?_
        refine bg_X6_52 C dX6_lengthLeftOf_27 ?_
        refine r_iload_n C dX6_lengthLeftOf_30 rfl rfl ?_
        refine bl_12 C dX6_lengthLeftOf_31 (vp_in_nI (show i < 60 by omega) (by decide)) ?_
        rw [nI_clamp (by omega), hq i hin]
        refine r_get C (14 + i) 4 (rgm_at rfl hin) rfl inX5 (by decide) lk_X6_203 rfl dX6_lengthLeftOf_32 ?_
        rw [(hL i hin).1]
        refine r_iadd C dX6_lengthLeftOf_35 ?_
        refine r_istore_n C dX6_lengthLeftOf_36 rfl (by decide) ?_
        first | (rw [hS, if_pos c22, ← nI_add] at j37; exact j37) | (rw [hS, if_neg c22, Nat.add_zero] at j37; exact j37)
  refine r_iconst (v := 0) C dX6_lengthLeftOf_0 (by decide) ?_
  refine r_istore_n C dX6_lengthLeftOf_1 rfl (by decide) ?_
  refine r_iconst (v := 0) C dX6_lengthLeftOf_2 (by decide) ?_
  refine r_istore_n C dX6_lengthLeftOf_3 rfl (by decide) ?_
  exact key ns 0 (by omega)
theorem c_bcount {nb : Nat} (w : Int32) (hb : N 0 6 = nI nb) (hb40 : nb ≤ 40) (hq : ∀ i, i < nb → Q 11 i = some (ba i)) (hL : NumOK (T 33) nb 5000) : bX G A (rgm nb (bnC ba T) ++ P) yX6_count cX6_count 2 .int 6 [.int w] N R Q (w < 0 ∨ 4 < w) (fun r => (w = 0 ∧ r = N 0 6) ∨ (w = 1 ∧ r = N 0 8) ∨ (w = 2 ∧ r = N 0 10) ∨ (w = 3 ∧ r = N 0 1) ∨ (w = 4 ∧ r = nI (sumA (T 33) nb))) := by
  refine XI.intro (by decide) (Nat.le_of_ble_eq_true rfl) (cat1 (xs := [w])) fun X C hE hR hO hN => ?_
  have hout : (∀ i : Nat, i < 5 → w ≠ nI i) → w < 0 ∨ 4 < w := fun h => by
    by_cases h0 : w < 0
    · exact Or.inl h0
    · obtain ⟨j, hj, e⟩ := nI_of h0
      refine Or.inr ?_
      rw [e, show (4 : Int32) = nI 4 from rfl, nI_ltI (by decide) hj]
      exact Nat.lt_of_not_le (fun q => h j (by omega) e)
  refine r_iload_n C dX6_count_0 rfl rfl ?_
  refine r_tab C dX6_count_1 (by decide) (by decide) (fun i1 off1 ho1 hx1 => ?_) (fun hx1 => ⟨61, by decide, ?_⟩)
  · have hi1 : i1 < 5 := (Array.getElem?_eq_some_iff.mp ho1).1
    rcases (show i1 = 0 ∨ i1 = 1 ∨ i1 = 2 ∨ i1 = 3 ∨ i1 = 4 by omega) with rfl | rfl | rfl | rfl | rfl
    · cases ho1
      refine ⟨36, by decide, ?_⟩
      refine r_aload_n C dX6_count_36 rfl rfl ?_
      refine bg_X6_47 C dX6_count_37 ?_
      exact hR _ _ _ _ _ () (by decide) (by decide) rfl (Or.inl ⟨hx1, rfl⟩) dX6_count_40
    · cases ho1
      refine ⟨41, by decide, ?_⟩
      refine r_aload_n C dX6_count_41 rfl rfl ?_
      refine bg_X6_56 C dX6_count_42 ?_
      exact hR _ _ _ _ _ () (by decide) (by decide) rfl (Or.inr (Or.inl ⟨hx1, rfl⟩)) dX6_count_45
    · cases ho1
      refine ⟨46, by decide, ?_⟩
      refine r_aload_n C dX6_count_46 rfl rfl ?_
      refine bg_X6_65 C dX6_count_47 ?_
      exact hR _ _ _ _ _ () (by decide) (by decide) rfl (Or.inr (Or.inr (Or.inl ⟨hx1, rfl⟩))) dX6_count_50
    · cases ho1
      refine ⟨51, by decide, ?_⟩
      refine r_aload_n C dX6_count_51 rfl rfl ?_
      refine bg_X6_13 C dX6_count_52 ?_
      exact hR _ _ _ _ _ () (by decide) (by decide) rfl (Or.inr (Or.inr (Or.inr (Or.inl ⟨hx1, rfl⟩)))) dX6_count_55
    · cases ho1
      refine ⟨56, by decide, ?_⟩
      refine r_aload_n C dX6_count_56 rfl rfl ?_
      refine a_callVi C (c_strawsLeftOfAll G A P N R Q T ba hb hb40 hq hL) kcX6_X6_strawsLeftOfAll dX6_count_57 rfl (by decide) (by decide) (by decide) (Nat.le_of_ble_eq_true rfl) 0 rfl (ci := 6) rfl rfl rfl (fun r u hr => ?_)
      exact hR _ _ _ _ _ () (by decide) (by decide) rfl (Or.inr (Or.inr (Or.inr (Or.inr ⟨hx1, hr⟩)))) dX6_count_60
  · exact hN _ _ _ _ _ 102 104 106 "no such question" (by first | decide | omega) (by first | decide | omega) (hout hx1) (by decide) (Nat.le_of_ble_eq_true rfl) kt_nse (by decide) rfl dX6_count_61 dX6_count_64 dX6_count_65 dX6_count_67 dX6_count_70
end ST1
