/-! numbers, places, crossings; the reference: get, goesTo -/
def keepM : List Bool → List (Option Value) → List (Option Value)
  | b :: bs, o :: t => (if b = true then o else none) :: keepM bs t
  | _, _ => []
theorem keepM_at : ∀ (bs : List Bool) (L : List (Option Value)) (i : Nat) (v : Value), (keepM bs L)[i]? = some (some v) → L[i]? = some (some v)
  | [], L, i, v => by intro h; simp [keepM] at h
  | b :: bs, [], i, v => by intro h; simp [keepM] at h
  | b :: bs, o :: t, 0, v => by
    intro h
    simp only [keepM, List.getElem?_cons_zero] at h ⊢
    cases b
    · simp at h
    · simpa using h
  | b :: bs, o :: t, i + 1, v => by
    intro h
    simp only [keepM, List.getElem?_cons_succ] at h ⊢
    exact keepM_at bs t i v h
theorem V.keep {X : Fx} {k n pc : Nat} {L : List (Option Value)} {st : List Value} {ws : va_W} (bs : List Bool) (kk : V X k n pc (keepM bs L) st ws) : V X k n pc L st ws := V.forget (keepM_at bs L) kk
/-- a crossing's number; whether a row's crossing is one of s straws -/
def ai (c : Int32) : Nat := c.toInt.natAbs
def okC (s : Nat) (c : Int32) : Prop := ∃ i : Nat, 1 ≤ i ∧ i < s ∧ (c = nI i ∨ c = -nI i)
theorem neg_toInt {i : Nat} (h : i < 2 ^ 31) : (-nI i).toInt = -(i : Int) := sb_negT h
theorem ai_nI {i : Nat} (h : i < 2 ^ 31) : ai (nI i) = i := by unfold ai; rw [nI_toInt h]; rfl
theorem ai_neg {i : Nat} (h : i < 2 ^ 31) : ai (-nI i) = i := by unfold ai; rw [neg_toInt h]; omega
theorem pos_nI {i : Nat} (h1 : 1 ≤ i) (h : i < 2 ^ 31) : (0 : Int32) < nI i := nI_lt (a := 0) h1 h
theorem neg_lt0 {i : Nat} (h1 : 1 ≤ i) (h : i < 2 ^ 31) : -nI i < 0 := by
  rw [Int32.lt_iff_toInt_lt, neg_toInt h]
  have : (0 : Int32).toInt = 0 := rfl
  omega
theorem neg_npos {i : Nat} (h1 : 1 ≤ i) (h : i < 2 ^ 31) : ¬ (0 : Int32) < -nI i := by
  rw [Int32.lt_iff_toInt_lt, neg_toInt h]
  have : (0 : Int32).toInt = 0 := rfl
  omega
def sw (i x : Nat) : Nat := if x = i then i + 1 else if x = i + 1 then i else x
theorem sw_l (i : Nat) : sw i i = i + 1 := by simp [sw]
theorem sw_r (i : Nat) : sw i (i + 1) = i := by simp [sw]
theorem sw_n {i x : Nat} (h1 : x ≠ i) (h2 : x ≠ i + 1) : sw i x = x := by simp [sw, h1, h2]
theorem sw_sw (i x : Nat) : sw i (sw i x) = x := by
  unfold sw
  split <;> (try split) <;> (try split) <;> omega
theorem sw_in {i x s : Nat} (h1 : 1 ≤ i) (h2 : i < s) (hx : 1 ≤ x) (hx2 : x ≤ s) : 1 ≤ sw i x ∧ sw i x ≤ s := by
  unfold sw
  split <;> (try split) <;> omega
/-- where the straw of p comes, behind the first z crossings -/
def gT (c : Nat → Int32) : Nat → Nat → Nat
  | 0, p => p
  | z + 1, p => sw (ai (c z)) (gT c z p)
theorem okC_ai {s : Nat} {c : Int32} (h : okC s c) (hs : s ≤ 7) : 1 ≤ ai c ∧ ai c < s := by
  obtain ⟨i, h1, h2, rfl | rfl⟩ := h
  · rw [ai_nI (by omega)]; exact ⟨h1, h2⟩
  · rw [ai_neg (by omega)]; exact ⟨h1, h2⟩
theorem gT_in {c : Nat → Int32} {s p : Nat} (hs : s ≤ 7) (hp : 1 ≤ p) (hp2 : p ≤ s) : ∀ z : Nat, (∀ i, i < z → okC s (c i)) → 1 ≤ gT c z p ∧ gT c z p ≤ s
  | 0, _ => ⟨hp, hp2⟩
  | z + 1, h => by
    have ih := gT_in (c := c) hs hp hp2 z (fun i hi => h i (by omega))
    have h1 := okC_ai (h z (by omega)) hs
    exact sw_in h1.1 h1.2 ih.1 ih.2
def rowOf (R : Rt) (j : Nat) : Nat → Int32 := fun i => R 7 (300 * j + i)
/-- pattern j is there: s straws, z crossings -/
def PatOK (R : Rt) (j s z : Nat) : Prop := R 5 j = nI s ∧ 2 ≤ s ∧ s ≤ 7 ∧ R 6 j = nI z ∧ z ≤ 300 ∧ ∀ i, i < z → okC s (rowOf R j i)
section M4
variable (G : Gx) (h : Nat) (ad : Nat → Nat) (M : Mt) (R : Rt)
theorem c_get (f x : Nat) (hf : f ≤ 600) (hx : x ≤ 7) : mI G h ad yX7_get cX7_get 3 .int 0 [.int (nI f), .int (nI x)] M R (fun r M' R' => r = R 18 (8 * f + x) ∧ M' = M ∧ R' = R) := by
  refine mI.intro (by decide) (Nat.le_of_ble_eq_true rfl) (cat1 (xs := [nI f, nI x])) fun X C hR => ?_
  refine r_aload_n C dX7_get_0 rfl rfl ?_
  refine mg_perm C dX7_get_1 ?_
  refine r_bipush (v := 8) C dX7_get_4 (by decide) ?_
  refine r_iload_n C dX7_get_6 rfl rfl ?_
  refine r_imul C dX7_get_7 ?_
  refine r_iload_n C dX7_get_8 rfl rfl ?_
  refine r_iadd C dX7_get_9 ?_
  show V X 0 0 10 _ [.int (nI 8 * nI f + nI x), .ref (ad 18)] _
  rw [pk_mul, nI_add]
  refine ml_perm C dX7_get_10 (vp_in_nI (show 8 * f + x < 4808 by omega) (by decide)) ?_
  rw [nI_clamp (by omega)]
  exact hR _ _ _ _ _ rfl dX7_get_11 ⟨rfl, rfl, rfl⟩
theorem c_goesTo {j s z p : Nat} (hj : j < 8) (hp : PatOK R j s z) (h1 : 1 ≤ p) (h2 : p ≤ s) : mI G h ad yX7_goesTo cX7_goesTo 7 .int 0 [.int (nI j), .int (nI p)] M R (fun r M' R' => r = nI (gT (rowOf R j) z p) ∧ M' = M ∧ R' = R) := by
  refine mI.intro (by decide) (Nat.le_of_ble_eq_true rfl) (cat1 (xs := [nI j, nI p])) fun X C hR => ?_
  obtain ⟨hs5, hs2, hs7, hz, hz3, hok⟩ := hp
  have key : ∀ (f i : Nat), i + f = z → V X 0 0 5 [some (.ref h), some (.int (nI j)), some (.int (nI p)), some (.int (nI (gT (rowOf R j) i p))), some (.int (nI i)), none, none] [] (mW G h ad M R) := by
    intro f
    induction f with
    | zero =>
      intro i hi
      have hiz : i = z := by omega
      subst hiz
      refine r_iload C dX7_goesTo_5 rfl ?_
      refine r_aload_n C dX7_goesTo_7 rfl rfl ?_
      refine mg_sizes C dX7_goesTo_8 ?_
      refine r_iload_n C dX7_goesTo_11 rfl rfl ?_
      refine ml_sizes C dX7_goesTo_12 (vp_in_nI hj (by decide)) ?_
      rw [nI_clamp (by omega), hz]
      refine r_icmp_ge (tgt := 80) C dX7_goesTo_13 (by decide) (fun c13 => ?_) (fun c13 => absurd c13 ((fun q => q (nI_le (by omega) (by omega)))))
      refine r_iload_n C dX7_goesTo_80 rfl rfl ?_
      exact hR _ _ _ _ _ rfl dX7_goesTo_81 ⟨rfl, rfl, rfl⟩
    | succ f ih =>
      intro i hi
      obtain ⟨g, hg⟩ : ∃ g, g = gT (rowOf R j) i p := ⟨_, rfl⟩
      have hgi := gT_in (c := rowOf R j) hs7 h1 h2 i (fun q hq => hok q (by omega))
      obtain ⟨i0, hi1, hi2, hc⟩ := hok i (by omega)
      have hai : ai (rowOf R j i) = i0 := by rcases hc with hc | hc <;> rw [hc] <;> first | exact ai_nI (by omega) | exact ai_neg (by omega)
      have hgT : gT (rowOf R j) (i + 1) p = sw i0 g := by show sw (ai (rowOf R j i)) _ = _; rw [hai, hg]
      have nx := ih (i + 1) (by omega)
      rw [hgT] at nx
      rw [← hg] at hgi ⊢
      have j46 : ∀ cv : Int32, V X 0 0 46 [some (.ref h), some (.int (nI j)), some (.int (nI p)), some (.int (nI g)), some (.int (nI i)), some (.int cv), some (.int (nI i0))] [] (mW G h ad M R) := by
        intro cv
        refine r_iload_n C dX7_goesTo_46 rfl rfl ?_
        refine r_iload C dX7_goesTo_47 rfl ?_
        refine r_icmp_ne (tgt := 59) C dX7_goesTo_49 (by decide) (fun c49 => ?_) (fun c49 => ?_)
        · rw [nI_eq (by omega) (by omega)] at c49
          refine r_iload_n C dX7_goesTo_59 rfl rfl ?_
          refine r_iload C dX7_goesTo_60 rfl ?_
          refine r_iconst (v := 1) C dX7_goesTo_62 (by decide) ?_
          refine r_iadd C dX7_goesTo_63 ?_
          rw [nI_1]
          refine r_icmp_ne (tgt := 72) C dX7_goesTo_64 (by decide) (fun c64 => ?_) (fun c64 => ?_)
          · rw [nI_eq (by omega) (by omega)] at c64
            refine r_iload_n C dX7_goesTo_72 rfl rfl ?_
            refine r_istore_n C dX7_goesTo_73 rfl (by decide) ?_
            refine r_iinc (v := _ + 1) C dX7_goesTo_74 rfl (by rfl) (by decide) ?_
            rw [nI_1]
            refine r_goto (tgt := 5) C dX7_goesTo_77 (by decide) ?_
            exact V.keep [true, true, true, true, true, false, false] (by first | (rw [c49, sw_l] at nx; exact nx) | (rw [c64, sw_r] at nx; exact nx) | (rw [sw_n c49 c64] at nx; exact nx))
          · rw [nI_eq (by omega) (by omega)] at c64
            refine r_iload C dX7_goesTo_67 rfl ?_
            refine r_goto (tgt := 73) C dX7_goesTo_69 (by decide) ?_
            refine r_istore_n C dX7_goesTo_73 rfl (by decide) ?_
            refine r_iinc (v := _ + 1) C dX7_goesTo_74 rfl (by rfl) (by decide) ?_
            rw [nI_1]
            refine r_goto (tgt := 5) C dX7_goesTo_77 (by decide) ?_
            exact V.keep [true, true, true, true, true, false, false] (by first | (rw [c49, sw_l] at nx; exact nx) | (rw [c64, sw_r] at nx; exact nx) | (rw [sw_n c49 c64] at nx; exact nx))
        · rw [nI_eq (by omega) (by omega)] at c49
          refine r_iload C dX7_goesTo_52 rfl ?_
          refine r_iconst (v := 1) C dX7_goesTo_54 (by decide) ?_
          refine r_iadd C dX7_goesTo_55 ?_
          rw [nI_1]
          refine r_goto (tgt := 73) C dX7_goesTo_56 (by decide) ?_
          refine r_istore_n C dX7_goesTo_73 rfl (by decide) ?_
          refine r_iinc (v := _ + 1) C dX7_goesTo_74 rfl (by rfl) (by decide) ?_
          rw [nI_1]
          refine r_goto (tgt := 5) C dX7_goesTo_77 (by decide) ?_
          exact V.keep [true, true, true, true, true, false, false] (by first | (rw [c49, sw_l] at nx; exact nx) | (rw [c64, sw_r] at nx; exact nx) | (rw [sw_n c49 c64] at nx; exact nx))
      refine r_iload C dX7_goesTo_5 rfl ?_
      refine r_aload_n C dX7_goesTo_7 rfl rfl ?_
      refine mg_sizes C dX7_goesTo_8 ?_
      refine r_iload_n C dX7_goesTo_11 rfl rfl ?_
      refine ml_sizes C dX7_goesTo_12 (vp_in_nI hj (by decide)) ?_
      rw [nI_clamp (by omega), hz]
      refine r_icmp_ge (tgt := 80) C dX7_goesTo_13 (by decide) (fun c13 => absurd c13 ((nI_ge (by omega) (by omega)))) (fun c13 => ?_)
      refine r_aload_n C dX7_goesTo_16 rfl rfl ?_
      refine mg_rows C dX7_goesTo_17 ?_
      refine r_sipush (v := 300) C dX7_goesTo_20 (by decide) ?_
      refine r_iload_n C dX7_goesTo_23 rfl rfl ?_
      refine r_imul C dX7_goesTo_24 ?_
      refine r_iload C dX7_goesTo_25 rfl ?_
      refine r_iadd C dX7_goesTo_27 ?_
      show V X 0 0 28 _ [.int (nI 300 * nI j + nI i), .ref (ad 7)] _
      rw [pk_mul, nI_add]
      refine ml_rows C dX7_goesTo_28 (vp_in_nI (show 300 * j + i < 2400 by omega) (by decide)) ?_
      rw [nI_clamp (by omega)]
      show V X 0 0 29 _ [.int (rowOf R j i)] _
      rcases hc with hc | hc <;> rw [hc]
      · refine r_istore C dX7_goesTo_29 (by decide) ?_
        refine r_iload C dX7_goesTo_31 rfl ?_
        refine r_if_le (tgt := 41) C dX7_goesTo_33 (by decide) (fun c33 => absurd c33 ((Int32.not_le.mpr (pos_nI hi1 (by omega))))) (fun c33 => ?_)
        refine r_iload C dX7_goesTo_36 rfl ?_
        refine r_goto (tgt := 44) C dX7_goesTo_38 (by decide) ?_
        refine r_istore C dX7_goesTo_44 (by decide) ?_
        exact j46 _
      · refine r_istore C dX7_goesTo_29 (by decide) ?_
        refine r_iload C dX7_goesTo_31 rfl ?_
        refine r_if_le (tgt := 41) C dX7_goesTo_33 (by decide) (fun c33 => ?_) (fun c33 => absurd c33 ((fun q => q (Int32.le_of_lt (neg_lt0 hi1 (by omega))))))
        refine r_iload C dX7_goesTo_41 rfl ?_
        refine r_ineg C dX7_goesTo_43 ?_
        rw [Int32.neg_neg]
        refine r_istore C dX7_goesTo_44 (by decide) ?_
        exact j46 _
  refine r_iload_n C dX7_goesTo_0 rfl rfl ?_
  refine r_istore_n C dX7_goesTo_1 rfl (by decide) ?_
  refine r_iconst (v := 0) C dX7_goesTo_2 (by decide) ?_
  refine r_istore C dX7_goesTo_3 (by decide) ?_
  exact key z 0 (by omega)
end M4
