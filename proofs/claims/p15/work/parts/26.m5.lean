/-! the reference: scored, sewn, count, hat -/
def cl (x : Int32) : Nat := x.toNatClampNeg
theorem cl_nI {n : Nat} (h : n < 2 ^ 31) : cl (nI n) = n := nI_clamp h
/-- numbers of a row, none below 0, none above B -/
def NumOK (f : Nat → Int32) (n B : Nat) : Prop := ∀ i, i < n → f i = nI (cl (f i)) ∧ cl (f i) ≤ B
def sumW (W Lf : Nat → Int32) (w : Int32) : Nat → Nat
  | 0 => 0
  | i + 1 => sumW W Lf w i + if W i = w then cl (Lf i) else 0
theorem sumW_le {W Lf : Nat → Int32} {w : Int32} {n B : Nat} (h : NumOK Lf n B) : ∀ i, i ≤ n → sumW W Lf w i ≤ i * B
  | 0, _ => by simp [sumW]
  | i + 1, hi => by
    have ih := sumW_le (W := W) (w := w) h i (by omega)
    have h1 := (h i (by omega)).2
    have e : (i + 1) * B = i * B + B := Nat.succ_mul i B
    unfold sumW
    split <;> omega
def sumA (Lf : Nat → Int32) : Nat → Nat
  | 0 => 0
  | i + 1 => sumA Lf i + cl (Lf i)
theorem sumA_le {Lf : Nat → Int32} {n B : Nat} (h : NumOK Lf n B) : ∀ i, i ≤ n → sumA Lf i ≤ i * B
  | 0, _ => by simp [sumA]
  | i + 1, hi => by
    have ih := sumA_le h i (by omega)
    have h1 := (h i (by omega)).2
    have e : (i + 1) * B = i * B + B := Nat.succ_mul i B
    unfold sumA
    omega
abbrev TkT : Type := (Nat → Int32) × Nat × Int32 × Int32
def tkS (W F : Nat → Int32) (w : Int32) (s : Nat) (q : TkT) : TkT :=
  if 0 < q.2.1 ∧ W s = w ∧ q.1 s ≠ 0 then (upd q.1 s (nI (cl (q.1 s) - min (cl (q.1 s)) q.2.1)), q.2.1 - min (cl (q.1 s)) q.2.1, q.2.2.1 ||| F s, if s < 31 then q.2.2.2 ||| ((1 : Int32) <<< (nI s &&& 31)) else q.2.2.2) else q
def tk (W F : Nat → Int32) (w : Int32) (lf : Nat → Int32) (need : Nat) : Nat → TkT
  | 0 => (lf, need, 0, 0)
  | s + 1 => tkS W F w s (tk W F w lf need s)
theorem tk_stop {W F : Nat → Int32} {w : Int32} {lf : Nat → Int32} {need s : Nat} (h : (tk W F w lf need s).2.1 = 0) : ∀ n, tk W F w lf need (s + n) = tk W F w lf need s
  | 0 => rfl
  | n + 1 => by
    show tkS W F w (s + n) (tk W F w lf need (s + n)) = _
    rw [tk_stop h n]
    unfold tkS
    rw [if_neg (by omega)]
theorem tk_ok {W F : Nat → Int32} {w : Int32} {lf : Nat → Int32} {need n B : Nat} (hB : B < 2 ^ 31) (h : NumOK lf n B) : ∀ s, NumOK (tk W F w lf need s).1 n B ∧ (tk W F w lf need s).2.1 ≤ need
  | 0 => ⟨h, Nat.le_refl _⟩
  | s + 1 => by
    have ih := tk_ok (W := W) (F := F) (w := w) (need := need) hB h s
    show NumOK (tkS W F w s (tk W F w lf need s)).1 n B ∧ (tkS W F w s (tk W F w lf need s)).2.1 ≤ need
    unfold tkS
    split
    · refine ⟨fun i hi => ?_, by dsimp only; omega⟩
      show upd _ s _ i = _ ∧ _
      have h1 := ih.1 i hi
      by_cases e : i = s
      · subst e
        simp only [upd, if_pos]
        rw [cl_nI (by omega)]
        exact ⟨rfl, by omega⟩
      · simp only [upd, if_neg e]
        exact h1
    · exact ih
def hatNeed (w : Nat) : Nat → Nat
  | 0 => 0
  | t + 1 => hatNeed w t + (710 * (2 * (t + 1) - 1) * w / 226 + 1)
theorem hatNeed_le {w : Nat} (hw : w ≤ 9) : ∀ t, t ≤ 400 → hatNeed w t ≤ t * 22592
  | 0, _ => by simp [hatNeed]
  | t + 1, h => by
    have ih := hatNeed_le hw t (by omega)
    unfold hatNeed
    have h1 : 710 * (2 * (t + 1) - 1) * w ≤ 710 * 799 * 9 := Nat.mul_le_mul (Nat.mul_le_mul_left _ (by omega)) hw
    have h2 : 710 * (2 * (t + 1) - 1) * w / 226 ≤ 22591 := by omega
    omega
theorem hatNeed_ge {w : Nat} : ∀ t, t ≤ hatNeed w t
  | 0 => Nat.le_refl _
  | t + 1 => by
    have ih := hatNeed_ge (w := w) t
    unfold hatNeed
    omega
def scQ (R : Rt) (i : Nat) (w : Int32) : Int32 := if w = 0 then R 34 i else if w = 1 then R 35 i else if w = 2 then R 36 i else if w = 3 then R 37 i else R 38 i
def haQ (R : Rt) (i : Nat) (w : Int32) : Int32 := if w = 0 then R 39 i else if w = 1 then R 40 i else if w = 2 then R 41 i else R 42 i
section M5
variable (G : Gx) (h : Nat) (ad : Nat → Nat) (M : Mt) (R : Rt)
theorem c_scored {b : Nat} (x w : Int32) (hb : M 29 = nI b) (hb60 : b ≤ 60) : mI G h ad yX7_scored cX7_scored 3 .int 1 [.int x, .int w] M R (fun r M' R' => R' = R ∧ ((∃ i : Nat, i < b ∧ x = nI i ∧ ¬ w < 0 ∧ ¬ 4 < w ∧ r = scQ R i w ∧ M' = va_up M 0 0) ∨ (((∀ i : Nat, i < b → x ≠ nI i) ∨ w < 0 ∨ 4 < w) ∧ r = 0 ∧ M' = va_up M 0 1))) := by
  refine mI.intro (by decide) (Nat.le_of_ble_eq_true rfl) (cat1 (xs := [x, w])) fun X C hR => ?_
  have j31 : ((∀ i : Nat, i < b → x ≠ nI i) ∨ w < 0 ∨ 4 < w) → V X 0 0 31 (ent [.ref h, .int x, .int w] 3) [.ref h] (mW G h ad (va_up M 0 0) R) := by
    intro hno
    refine r_iconst (v := 0) C dX7_scored_31 (by decide) ?_
    refine r_iconst (v := 1) C dX7_scored_32 (by decide) ?_
    refine m_calli C (c_right0 G h ad _ _ 1 (by decide) rfl) kM_right dX7_scored_33 rfl (by decide) (by decide) (by decide) (by decide) rfl rfl (fun r M1 R2 hp => ?_)
    obtain ⟨rfl, rfl, rfl⟩ := hp
    refine r_if_ne (tgt := 41) C dX7_scored_36 (by decide) (fun c36 => absurd c36 ((fun q => q rfl))) (fun c36 => ?_)
    refine r_iconst (v := 0) C dX7_scored_39 (by decide) ?_
    exact hR _ _ _ _ _ rfl dX7_scored_40 ⟨rfl, Or.inr ⟨hno, rfl, up_up⟩⟩
  refine r_aload_n C dX7_scored_0 rfl rfl ?_
  refine r_iconst (v := 0) C dX7_scored_1 (by decide) ?_
  refine mp_thrown C dX7_scored_2 ?_
  refine r_aload_n C dX7_scored_5 rfl rfl ?_
  refine r_iload_n C dX7_scored_6 rfl rfl ?_
  refine r_if_lt (tgt := 31) C dX7_scored_7 (by decide) (fun c7 => ?_) (fun c7 => ?_)
  · exact j31 (by first | exact Or.inr (Or.inl c19) | exact Or.inr (Or.inr c24) | exact Or.inl (fun i hi e => by subst e; first | exact absurd c7 (nI_pos (by omega)) | (rw [nI_leI (by omega) (by omega)] at c15; omega)))
  · refine r_iload_n C dX7_scored_10 rfl rfl ?_
    refine r_aload_n C dX7_scored_11 rfl rfl ?_
    refine mg_scores C dX7_scored_12 ?_
    show V X 0 0 15 _ [.int (M 29), .int x, .ref h] _
    rw [hb]
    refine r_icmp_ge (tgt := 31) C dX7_scored_15 (by decide) (fun c15 => ?_) (fun c15 => ?_)
    · exact j31 (by first | exact Or.inr (Or.inl c19) | exact Or.inr (Or.inr c24) | exact Or.inl (fun i hi e => by subst e; first | exact absurd c7 (nI_pos (by omega)) | (rw [nI_leI (by omega) (by omega)] at c15; omega)))
    · obtain ⟨i, hi31, rfl⟩ := nI_of c7
      rw [nI_leI (by omega) (by omega)] at c15
      refine r_iload_n C dX7_scored_18 rfl rfl ?_
      refine r_if_lt (tgt := 31) C dX7_scored_19 (by decide) (fun c19 => ?_) (fun c19 => ?_)
      · exact j31 (by first | exact Or.inr (Or.inl c19) | exact Or.inr (Or.inr c24) | exact Or.inl (fun i hi e => by subst e; first | exact absurd c7 (nI_pos (by omega)) | (rw [nI_leI (by omega) (by omega)] at c15; omega)))
      · refine r_iload_n C dX7_scored_22 rfl rfl ?_
        refine r_iconst (v := 4) C dX7_scored_23 (by decide) ?_
        refine r_icmp_gt (tgt := 31) C dX7_scored_24 (by decide) (fun c24 => ?_) (fun c24 => ?_)
        · exact j31 (by first | exact Or.inr (Or.inl c19) | exact Or.inr (Or.inr c24) | exact Or.inl (fun i hi e => by subst e; first | exact absurd c7 (nI_pos (by omega)) | (rw [nI_leI (by omega) (by omega)] at c15; omega)))
        · refine r_iconst (v := 1) C dX7_scored_27 (by decide) ?_
          refine r_goto (tgt := 32) C dX7_scored_28 (by decide) ?_
          refine r_iconst (v := 1) C dX7_scored_32 (by decide) ?_
          refine m_calli C (c_right1 G h ad _ _ 1 rfl) kM_right dX7_scored_33 rfl (by decide) (by decide) (by decide) (by decide) rfl rfl (fun r M1 R2 hp => ?_)
          obtain ⟨rfl, rfl, rfl⟩ := hp
          refine r_if_ne (tgt := 41) C dX7_scored_36 (by decide) (fun c36 => ?_) (fun c36 => absurd c36 ((by decide)))
          refine r_iload_n C dX7_scored_41 rfl rfl ?_
          refine r_if_ne (tgt := 54) C dX7_scored_42 (by decide) (fun c42 => ?_) (fun c42 => ?_)
          · refine r_iload_n C dX7_scored_54 rfl rfl ?_
            refine r_iconst (v := 1) C dX7_scored_55 (by decide) ?_
            refine r_icmp_ne (tgt := 68) C dX7_scored_56 (by decide) (fun c56 => ?_) (fun c56 => ?_)
            · refine r_iload_n C dX7_scored_68 rfl rfl ?_
              refine r_iconst (v := 2) C dX7_scored_69 (by decide) ?_
              refine r_icmp_ne (tgt := 82) C dX7_scored_70 (by decide) (fun c70 => ?_) (fun c70 => ?_)
              · refine r_iload_n C dX7_scored_82 rfl rfl ?_
                refine r_iconst (v := 3) C dX7_scored_83 (by decide) ?_
                refine r_icmp_ne (tgt := 96) C dX7_scored_84 (by decide) (fun c84 => ?_) (fun c84 => ?_)
                · refine r_aload_n C dX7_scored_96 rfl rfl ?_
                  refine mg_scoreStraws C dX7_scored_97 ?_
                  refine r_iload_n C dX7_scored_100 rfl rfl ?_
                  refine ml_scoreStraws C dX7_scored_101 (vp_in_nI (show i < 60 by omega) (by decide)) ?_
                  rw [nI_clamp (by omega)]
                  exact hR _ _ _ _ _ rfl dX7_scored_102 ⟨rfl, Or.inl ⟨i, by omega, rfl, c19, c24, by simp_all [scQ], rfl⟩⟩
                · refine r_aload_n C dX7_scored_87 rfl rfl ?_
                  refine mg_scoreFields C dX7_scored_88 ?_
                  refine r_iload_n C dX7_scored_91 rfl rfl ?_
                  refine ml_scoreFields C dX7_scored_92 (vp_in_nI (show i < 60 by omega) (by decide)) ?_
                  refine r_goto (tgt := 102) C dX7_scored_93 (by decide) ?_
                  rw [nI_clamp (by omega)]
                  exact hR _ _ _ _ _ rfl dX7_scored_102 ⟨rfl, Or.inl ⟨i, by omega, rfl, c19, c24, by simp_all [scQ], rfl⟩⟩
              · refine r_aload_n C dX7_scored_73 rfl rfl ?_
                refine mg_scoreWidth C dX7_scored_74 ?_
                refine r_iload_n C dX7_scored_77 rfl rfl ?_
                refine ml_scoreWidth C dX7_scored_78 (vp_in_nI (show i < 60 by omega) (by decide)) ?_
                refine r_goto (tgt := 102) C dX7_scored_79 (by decide) ?_
                rw [nI_clamp (by omega)]
                exact hR _ _ _ _ _ rfl dX7_scored_102 ⟨rfl, Or.inl ⟨i, by omega, rfl, c19, c24, by simp_all [scQ], rfl⟩⟩
            · refine r_aload_n C dX7_scored_59 rfl rfl ?_
              refine mg_lengthLeft C dX7_scored_60 ?_
              refine r_iload_n C dX7_scored_63 rfl rfl ?_
              refine ml_lengthLeft C dX7_scored_64 (vp_in_nI (show i < 60 by omega) (by decide)) ?_
              refine r_goto (tgt := 102) C dX7_scored_65 (by decide) ?_
              rw [nI_clamp (by omega)]
              exact hR _ _ _ _ _ rfl dX7_scored_102 ⟨rfl, Or.inl ⟨i, by omega, rfl, c19, c24, by simp_all [scQ], rfl⟩⟩
          · refine r_aload_n C dX7_scored_45 rfl rfl ?_
            refine mg_length C dX7_scored_46 ?_
            refine r_iload_n C dX7_scored_49 rfl rfl ?_
            refine ml_length C dX7_scored_50 (vp_in_nI (show i < 60 by omega) (by decide)) ?_
            refine r_goto (tgt := 102) C dX7_scored_51 (by decide) ?_
            rw [nI_clamp (by omega)]
            exact hR _ _ _ _ _ rfl dX7_scored_102 ⟨rfl, Or.inl ⟨i, by omega, rfl, c19, c24, by simp_all [scQ], rfl⟩⟩
theorem c_sewn {b : Nat} (x w : Int32) (hb : M 30 = nI b) (hb60 : b ≤ 60) : mI G h ad yX7_sewn cX7_sewn 3 .int 1 [.int x, .int w] M R (fun r M' R' => R' = R ∧ ((∃ i : Nat, i < b ∧ x = nI i ∧ ¬ w < 0 ∧ ¬ 3 < w ∧ r = haQ R i w ∧ M' = va_up M 0 0) ∨ (((∀ i : Nat, i < b → x ≠ nI i) ∨ w < 0 ∨ 3 < w) ∧ r = 0 ∧ M' = va_up M 0 1))) := by
  refine mI.intro (by decide) (Nat.le_of_ble_eq_true rfl) (cat1 (xs := [x, w])) fun X C hR => ?_
  have j31 : ((∀ i : Nat, i < b → x ≠ nI i) ∨ w < 0 ∨ 3 < w) → V X 0 0 31 (ent [.ref h, .int x, .int w] 3) [.ref h] (mW G h ad (va_up M 0 0) R) := by
    intro hno
    refine r_iconst (v := 0) C dX7_sewn_31 (by decide) ?_
    refine r_iconst (v := 1) C dX7_sewn_32 (by decide) ?_
    refine m_calli C (c_right0 G h ad _ _ 1 (by decide) rfl) kM_right dX7_sewn_33 rfl (by decide) (by decide) (by decide) (by decide) rfl rfl (fun r M1 R2 hp => ?_)
    obtain ⟨rfl, rfl, rfl⟩ := hp
    refine r_if_ne (tgt := 41) C dX7_sewn_36 (by decide) (fun c36 => absurd c36 ((fun q => q rfl))) (fun c36 => ?_)
    refine r_iconst (v := 0) C dX7_sewn_39 (by decide) ?_
    exact hR _ _ _ _ _ rfl dX7_sewn_40 ⟨rfl, Or.inr ⟨hno, rfl, up_up⟩⟩
  refine r_aload_n C dX7_sewn_0 rfl rfl ?_
  refine r_iconst (v := 0) C dX7_sewn_1 (by decide) ?_
  refine mp_thrown C dX7_sewn_2 ?_
  refine r_aload_n C dX7_sewn_5 rfl rfl ?_
  refine r_iload_n C dX7_sewn_6 rfl rfl ?_
  refine r_if_lt (tgt := 31) C dX7_sewn_7 (by decide) (fun c7 => ?_) (fun c7 => ?_)
  · exact j31 (by first | exact Or.inr (Or.inl c19) | exact Or.inr (Or.inr c24) | exact Or.inl (fun i hi e => by subst e; first | exact absurd c7 (nI_pos (by omega)) | (rw [nI_leI (by omega) (by omega)] at c15; omega)))
  · refine r_iload_n C dX7_sewn_10 rfl rfl ?_
    refine r_aload_n C dX7_sewn_11 rfl rfl ?_
    refine mg_hats C dX7_sewn_12 ?_
    show V X 0 0 15 _ [.int (M 30), .int x, .ref h] _
    rw [hb]
    refine r_icmp_ge (tgt := 31) C dX7_sewn_15 (by decide) (fun c15 => ?_) (fun c15 => ?_)
    · exact j31 (by first | exact Or.inr (Or.inl c19) | exact Or.inr (Or.inr c24) | exact Or.inl (fun i hi e => by subst e; first | exact absurd c7 (nI_pos (by omega)) | (rw [nI_leI (by omega) (by omega)] at c15; omega)))
    · obtain ⟨i, hi31, rfl⟩ := nI_of c7
      rw [nI_leI (by omega) (by omega)] at c15
      refine r_iload_n C dX7_sewn_18 rfl rfl ?_
      refine r_if_lt (tgt := 31) C dX7_sewn_19 (by decide) (fun c19 => ?_) (fun c19 => ?_)
      · exact j31 (by first | exact Or.inr (Or.inl c19) | exact Or.inr (Or.inr c24) | exact Or.inl (fun i hi e => by subst e; first | exact absurd c7 (nI_pos (by omega)) | (rw [nI_leI (by omega) (by omega)] at c15; omega)))
      · refine r_iload_n C dX7_sewn_22 rfl rfl ?_
        refine r_iconst (v := 3) C dX7_sewn_23 (by decide) ?_
        refine r_icmp_gt (tgt := 31) C dX7_sewn_24 (by decide) (fun c24 => ?_) (fun c24 => ?_)
        · exact j31 (by first | exact Or.inr (Or.inl c19) | exact Or.inr (Or.inr c24) | exact Or.inl (fun i hi e => by subst e; first | exact absurd c7 (nI_pos (by omega)) | (rw [nI_leI (by omega) (by omega)] at c15; omega)))
        · refine r_iconst (v := 1) C dX7_sewn_27 (by decide) ?_
          refine r_goto (tgt := 32) C dX7_sewn_28 (by decide) ?_
          refine r_iconst (v := 1) C dX7_sewn_32 (by decide) ?_
          refine m_calli C (c_right1 G h ad _ _ 1 rfl) kM_right dX7_sewn_33 rfl (by decide) (by decide) (by decide) (by decide) rfl rfl (fun r M1 R2 hp => ?_)
          obtain ⟨rfl, rfl, rfl⟩ := hp
          refine r_if_ne (tgt := 41) C dX7_sewn_36 (by decide) (fun c36 => ?_) (fun c36 => absurd c36 ((by decide)))
          refine r_iload_n C dX7_sewn_41 rfl rfl ?_
          refine r_if_ne (tgt := 54) C dX7_sewn_42 (by decide) (fun c42 => ?_) (fun c42 => ?_)
          · refine r_iload_n C dX7_sewn_54 rfl rfl ?_
            refine r_iconst (v := 1) C dX7_sewn_55 (by decide) ?_
            refine r_icmp_ne (tgt := 68) C dX7_sewn_56 (by decide) (fun c56 => ?_) (fun c56 => ?_)
            · refine r_iload_n C dX7_sewn_68 rfl rfl ?_
              refine r_iconst (v := 2) C dX7_sewn_69 (by decide) ?_
              refine r_icmp_ne (tgt := 82) C dX7_sewn_70 (by decide) (fun c70 => ?_) (fun c70 => ?_)
              · refine r_aload_n C dX7_sewn_82 rfl rfl ?_
                refine mg_hatScores C dX7_sewn_83 ?_
                refine r_iload_n C dX7_sewn_86 rfl rfl ?_
                refine ml_hatScores C dX7_sewn_87 (vp_in_nI (show i < 60 by omega) (by decide)) ?_
                rw [nI_clamp (by omega)]
                exact hR _ _ _ _ _ rfl dX7_sewn_88 ⟨rfl, Or.inl ⟨i, by omega, rfl, c19, c24, by simp_all [haQ], rfl⟩⟩
              · refine r_aload_n C dX7_sewn_73 rfl rfl ?_
                refine mg_hatFields C dX7_sewn_74 ?_
                refine r_iload_n C dX7_sewn_77 rfl rfl ?_
                refine ml_hatFields C dX7_sewn_78 (vp_in_nI (show i < 60 by omega) (by decide)) ?_
                refine r_goto (tgt := 88) C dX7_sewn_79 (by decide) ?_
                rw [nI_clamp (by omega)]
                exact hR _ _ _ _ _ rfl dX7_sewn_88 ⟨rfl, Or.inl ⟨i, by omega, rfl, c19, c24, by simp_all [haQ], rfl⟩⟩
            · refine r_aload_n C dX7_sewn_59 rfl rfl ?_
              refine mg_hatTurns C dX7_sewn_60 ?_
              refine r_iload_n C dX7_sewn_63 rfl rfl ?_
              refine ml_hatTurns C dX7_sewn_64 (vp_in_nI (show i < 60 by omega) (by decide)) ?_
              refine r_goto (tgt := 88) C dX7_sewn_65 (by decide) ?_
              rw [nI_clamp (by omega)]
              exact hR _ _ _ _ _ rfl dX7_sewn_88 ⟨rfl, Or.inl ⟨i, by omega, rfl, c19, c24, by simp_all [haQ], rfl⟩⟩
          · refine r_aload_n C dX7_sewn_45 rfl rfl ?_
            refine mg_hatLength C dX7_sewn_46 ?_
            refine r_iload_n C dX7_sewn_49 rfl rfl ?_
            refine ml_hatLength C dX7_sewn_50 (vp_in_nI (show i < 60 by omega) (by decide)) ?_
            refine r_goto (tgt := 88) C dX7_sewn_51 (by decide) ?_
            rw [nI_clamp (by omega)]
            exact hR _ _ _ _ _ rfl dX7_sewn_88 ⟨rfl, Or.inl ⟨i, by omega, rfl, c19, c24, by simp_all [haQ], rfl⟩⟩
theorem c_count {b : Nat} (w : Int32) (hb : M 28 = nI b) (hb40 : b ≤ 40) (hL : NumOK (R 33) b 5000) : mI G h ad yX7_count cX7_count 4 .int 1 [.int w] M R (fun r M' R' => R' = R ∧ ((w = 0 ∧ r = M 28 ∧ M' = va_up M 0 0) ∨ (w = 1 ∧ r = M 29 ∧ M' = va_up M 0 0) ∨ (w = 2 ∧ r = M 30 ∧ M' = va_up M 0 0) ∨ (w = 3 ∧ r = M 2 ∧ M' = va_up M 0 0) ∨ (w = 4 ∧ r = nI (sumA (R 33) b) ∧ M' = va_up M 0 0) ∨ ((w < 0 ∨ 4 < w) ∧ r = 0 ∧ M' = va_up M 0 1))) := by
  refine mI.intro (by decide) (Nat.le_of_ble_eq_true rfl) (cat1 (xs := [w])) fun X C hR => ?_
  have j19 : (w < 0 ∨ 4 < w) → V X 0 0 19 (ent [.ref h, .int w] 4) [.ref h] (mW G h ad (va_up M 0 0) R) := by
    intro hno
    refine r_iconst (v := 0) C dX7_count_19 (by decide) ?_
    refine r_iconst (v := 1) C dX7_count_20 (by decide) ?_
    refine m_calli C (c_right0 G h ad _ _ 1 (by decide) rfl) kM_right dX7_count_21 rfl (by decide) (by decide) (by decide) (by decide) rfl rfl (fun r M1 R2 hp => ?_)
    obtain ⟨rfl, rfl, rfl⟩ := hp
    refine r_if_ne (tgt := 29) C dX7_count_24 (by decide) (fun c24 => absurd c24 ((fun q => q rfl))) (fun c24 => ?_)
    refine r_iconst (v := 0) C dX7_count_27 (by decide) ?_
    exact hR _ _ _ _ _ rfl dX7_count_28 ⟨rfl, by simp [hno, up_up]⟩
  have key : w = 4 → ∀ (f i : Nat), i + f = b → V X 0 0 84 [some (.ref h), some (.int w), some (.int (nI (sumA (R 33) i))), some (.int (nI i))] [] (mW G h ad (va_up M 0 0) R) := by
    intro hw f
    induction f with
    | zero =>
      intro i hi
      have hib : i = b := by omega
      subst hib
      refine r_iload_n C dX7_count_84 rfl rfl ?_
      refine r_aload_n C dX7_count_85 rfl rfl ?_
      refine mg_bundles C dX7_count_86 ?_
      show V X 0 0 89 _ [.int (M 28), .int (nI i)] _
      rw [hb]
      refine r_icmp_ge (tgt := 107) C dX7_count_89 (by decide) (fun c89 => ?_) (fun c89 => absurd c89 ((fun q => q (nI_le (by omega) (by omega)))))
      refine r_iload_n C dX7_count_107 rfl rfl ?_
      exact hR _ _ _ _ _ rfl dX7_count_108 ⟨rfl, Or.inr (Or.inr (Or.inr (Or.inr (Or.inl ⟨hw, rfl, rfl⟩))))⟩
    | succ f ih =>
      intro i hi
      have hi2 := hL i (by omega)
      refine r_iload_n C dX7_count_84 rfl rfl ?_
      refine r_aload_n C dX7_count_85 rfl rfl ?_
      refine mg_bundles C dX7_count_86 ?_
      show V X 0 0 89 _ [.int (M 28), .int (nI i)] _
      rw [hb]
      refine r_icmp_ge (tgt := 107) C dX7_count_89 (by decide) (fun c89 => absurd c89 ((nI_ge (by omega) (by omega)))) (fun c89 => ?_)
      refine r_iload_n C dX7_count_92 rfl rfl ?_
      refine r_aload_n C dX7_count_93 rfl rfl ?_
      refine mg_leftOf C dX7_count_94 ?_
      refine r_iload_n C dX7_count_97 rfl rfl ?_
      refine ml_leftOf C dX7_count_98 (vp_in_nI (show i < 40 by omega) (by decide)) ?_
      rw [nI_clamp (by omega), hi2.1]
      refine r_iadd C dX7_count_99 ?_
      rw [nI_add]
      refine r_istore_n C dX7_count_100 rfl (by decide) ?_
      refine r_iinc (v := _ + 1) C dX7_count_101 rfl (by rfl) (by decide) ?_
      rw [nI_1]
      refine r_goto (tgt := 84) C dX7_count_104 (by decide) ?_
      exact ih (i + 1) (by omega)
  refine r_aload_n C dX7_count_0 rfl rfl ?_
  refine r_iconst (v := 0) C dX7_count_1 (by decide) ?_
  refine mp_thrown C dX7_count_2 ?_
  refine r_aload_n C dX7_count_5 rfl rfl ?_
  refine r_iload_n C dX7_count_6 rfl rfl ?_
  refine r_if_lt (tgt := 19) C dX7_count_7 (by decide) (fun c7 => ?_) (fun c7 => ?_)
  · exact j19 (by first | exact Or.inl c7 | exact Or.inr c12)
  · refine r_iload_n C dX7_count_10 rfl rfl ?_
    refine r_iconst (v := 4) C dX7_count_11 (by decide) ?_
    refine r_icmp_gt (tgt := 19) C dX7_count_12 (by decide) (fun c12 => ?_) (fun c12 => ?_)
    · exact j19 (by first | exact Or.inl c7 | exact Or.inr c12)
    · refine r_iconst (v := 1) C dX7_count_15 (by decide) ?_
      refine r_goto (tgt := 20) C dX7_count_16 (by decide) ?_
      refine r_iconst (v := 1) C dX7_count_20 (by decide) ?_
      refine m_calli C (c_right1 G h ad _ _ 1 rfl) kM_right dX7_count_21 rfl (by decide) (by decide) (by decide) (by decide) rfl rfl (fun r M1 R2 hp => ?_)
      obtain ⟨rfl, rfl, rfl⟩ := hp
      refine r_if_ne (tgt := 29) C dX7_count_24 (by decide) (fun c24 => ?_) (fun c24 => absurd c24 ((by decide)))
      refine r_iload_n C dX7_count_29 rfl rfl ?_
      refine r_tab C dX7_count_30 (by decide) (by decide) (fun i30 off30 ho30 hx30 => ?_) (fun hx30 => ⟨80, by decide, ?_⟩)
      · have hi30 : i30 < 4 := (Array.getElem?_eq_some_iff.mp ho30).1
        rcases (show i30 = 0 ∨ i30 = 1 ∨ i30 = 2 ∨ i30 = 3 by omega) with rfl | rfl | rfl | rfl
        · cases ho30
          refine ⟨60, by decide, ?_⟩
          refine r_aload_n C dX7_count_60 rfl rfl ?_
          refine mg_bundles C dX7_count_61 ?_
          exact hR _ _ _ _ _ rfl dX7_count_64 ⟨rfl, Or.inl ⟨hx30, rfl, rfl⟩⟩
        · cases ho30
          refine ⟨65, by decide, ?_⟩
          refine r_aload_n C dX7_count_65 rfl rfl ?_
          refine mg_scores C dX7_count_66 ?_
          exact hR _ _ _ _ _ rfl dX7_count_69 ⟨rfl, Or.inr (Or.inl ⟨hx30, rfl, rfl⟩)⟩
        · cases ho30
          refine ⟨70, by decide, ?_⟩
          refine r_aload_n C dX7_count_70 rfl rfl ?_
          refine mg_hats C dX7_count_71 ?_
          exact hR _ _ _ _ _ rfl dX7_count_74 ⟨rfl, Or.inr (Or.inr (Or.inl ⟨hx30, rfl, rfl⟩))⟩
        · cases ho30
          refine ⟨75, by decide, ?_⟩
          refine r_aload_n C dX7_count_75 rfl rfl ?_
          refine mg_taped C dX7_count_76 ?_
          exact hR _ _ _ _ _ rfl dX7_count_79 ⟨rfl, Or.inr (Or.inr (Or.inr (Or.inl ⟨hx30, rfl, rfl⟩)))⟩
      · have hw4 : w = 4 := by
          obtain ⟨i, hi, rfl⟩ := nI_of2 (n := 4) (by decide) c7 (Int32.not_lt.mp c12)
          rcases (show i = 0 ∨ i = 1 ∨ i = 2 ∨ i = 3 ∨ i = 4 by omega) with rfl | rfl | rfl | rfl | rfl
          · exact absurd rfl (hx30 0 (by decide))
          · exact absurd rfl (hx30 1 (by decide))
          · exact absurd rfl (hx30 2 (by decide))
          · exact absurd rfl (hx30 3 (by decide))
          · rfl
        refine r_iconst (v := 0) C dX7_count_80 (by decide) ?_
        refine r_istore_n C dX7_count_81 rfl (by decide) ?_
        refine r_iconst (v := 0) C dX7_count_82 (by decide) ?_
        refine r_istore_n C dX7_count_83 rfl (by decide) ?_
        exact key hw4 b 0 (by omega)
end M5
