/-! where class and reference have both answered: thrown alike, answered alike -/
def AgT (M2 : Mt) (r r2 : Int32) (f f' : Nat → Int64) : Prop := M2 0 = r ∧ (r = 0 → ∃ v : Int32, f' = vp_updL f 0 v.toInt64 ∧ r2 = v)
theorem pat_is {T : Rt} {j s z : Nat} (hj : j < 8) (hp : PatOK T j s z) : isPat T (nI j) := ⟨j, hj, rfl, by rw [hp.1]; exact pos_nI (by have := hp.2.1; omega) (by have := hp.2.2.1; omega)⟩
section AGR
variable {T : Rt} {M M2 : Mt} {r r2 kk pp ww : Int32} {f f' : Nat → Int64}
theorem AgT.thr {e : Int32} (hr : r = 1) (hM : M2 = va_up M 0 1) : AgT M2 r r2 f f' := ⟨by rw [hM, hr]; rfl, fun q => absurd (hr.symm.trans q) (by decide)⟩
theorem AgT.ans {v : Int32} (hr : r = 0) (hM : M2 = va_up M 0 0) (hf : f' = vp_updL f 0 v.toInt64) (hv : r2 = v) : AgT M2 r r2 f f' := ⟨by rw [hM, hr]; rfl, fun _ => ⟨v, hf, hv⟩⟩
theorem AgT.thr0 (hr : r = 1) (hM : M2 0 = 1) : AgT M2 r r2 f f' := ⟨by rw [hM, hr], fun q => absurd (hr.symm.trans q) (by decide)⟩
theorem AgT.ans0 {v : Int32} (hr : r = 0) (hM : M2 0 = 0) (hf : f' = vp_updL f 0 v.toInt64) (hv : r2 = v) : AgT M2 r r2 f f' := ⟨by rw [hM, hr], fun _ => ⟨v, hf, hv⟩⟩
/-- of a pattern and a place -/
theorem ag_place {F : Nat → Nat → Nat → Nat → Int32} (hc : ((¬ isPat T kk ∨ ∃ j s z, j < 8 ∧ kk = nI j ∧ PatOK T j s z ∧ ∀ p : Nat, 1 ≤ p → p ≤ s → pp ≠ nI p) ∧ r = 1) ∨ (r = 0 ∧ ∃ v, f' = vp_updL f 0 v.toInt64 ∧ ∃ j s z p, j < 8 ∧ kk = nI j ∧ PatOK T j s z ∧ 1 ≤ p ∧ p ≤ s ∧ pp = nI p ∧ v = F j s z p))
    (hm : (∃ j s z p, j < 8 ∧ kk = nI j ∧ PatOK T j s z ∧ 1 ≤ p ∧ p ≤ s ∧ pp = nI p ∧ r2 = F j s z p ∧ M2 = va_up M 0 0) ∨ ((¬ isPat T kk ∨ ∃ j s z, j < 8 ∧ kk = nI j ∧ PatOK T j s z ∧ ∀ p : Nat, 1 ≤ p → p ≤ s → pp ≠ nI p) ∧ r2 = 0 ∧ M2 = va_up M 0 1)) : AgT M2 r r2 f f' := by
  have no : ∀ {j s z p : Nat}, j < 8 → kk = nI j → PatOK T j s z → 1 ≤ p → p ≤ s → pp = nI p → ¬ (¬ isPat T kk ∨ ∃ j s z, j < 8 ∧ kk = nI j ∧ PatOK T j s z ∧ ∀ p : Nat, 1 ≤ p → p ≤ s → pp ≠ nI p) := by
    rintro j s z p hj rfl hp p1 p2 rfl (w | ⟨j', s', z', hj', e, hp', hno⟩)
    · exact w (pat_is hj hp)
    · have ej := (nI_eq (by omega) (by omega)).mp e
      subst ej
      obtain ⟨rfl, rfl⟩ := PatOK_uniq hp hp'
      exact hno p p1 p2 rfl
  rcases hc with ⟨h1, h2⟩ | ⟨h2, v, hf, j, s, z, p, hj, ek, hp, p1, p2, ep, hv⟩
  · rcases hm with ⟨j', s', z', p', hj', ek', hp', p1', p2', ep', -, -⟩ | ⟨-, -, e⟩
    · exact absurd h1 (no hj' ek' hp' p1' p2' ep')
    · exact AgT.thr (e := 0) h2 e
  · rcases hm with ⟨j', s', z', p', hj', ek', hp', p1', p2', ep', hr, e⟩ | ⟨w, -, -⟩
    · have ej := (nI_eq (by omega) (by omega)).mp (ek.symm.trans ek')
      subst ej
      obtain ⟨rfl, rfl⟩ := PatOK_uniq hp hp'
      have s7 := hp.2.2.1
      have epp := (nI_eq (by omega) (by omega)).mp (ep.symm.trans ep')
      subst epp
      exact AgT.ans h2 e hf (hr.trans hv.symm)
    · exact absurd w (no hj ek hp p1 p2 ep)
theorem ag_crossing {cj cz : Nat} (hcr : isPat T kk → kk = nI cj ∧ cj < 8 ∧ T 6 cj = nI cz ∧ cz ≤ 300) (hc : ((¬ isPat T kk ∨ ∃ j s z, j < 8 ∧ kk = nI j ∧ PatOK T j s z ∧ ∀ i : Nat, i < z → pp ≠ nI i) ∧ r = 1) ∨ (r = 0 ∧ ∃ v, f' = vp_updL f 0 v.toInt64 ∧ ∃ j s z i, j < 8 ∧ kk = nI j ∧ PatOK T j s z ∧ i < z ∧ pp = nI i ∧ v = T 7 (300 * j + i)))
    (hm : (isPat T kk ∧ ∃ i : Nat, i < cz ∧ pp = nI i ∧ r2 = T 7 (300 * cj + i) ∧ M2 = va_up M 0 0) ∨ ((¬ isPat T kk ∨ ∀ i : Nat, i < cz → pp ≠ nI i) ∧ r2 = 0 ∧ M2 = va_up M 0 1)) : AgT M2 r r2 f f' := by
  have same : ∀ {j s z : Nat}, j < 8 → kk = nI j → PatOK T j s z → j = cj ∧ z = cz := by
    rintro j s z hj rfl hp
    obtain ⟨e1, e2, e3, e4⟩ := hcr (pat_is hj hp)
    have ej := (nI_eq (by omega) (by omega)).mp e1
    subst ej
    have hz := hp.2.2.2.2.1
    exact ⟨rfl, (nI_eq (by omega) (by omega)).mp (hp.2.2.2.1.symm.trans e3)⟩
  rcases hc with ⟨h1, h2⟩ | ⟨h2, v, hf, j, s, z, i, hj, ek, hp, hi, ep, hv⟩
  · rcases hm with ⟨hi, i, i1, i2, -, -⟩ | ⟨-, -, e⟩
    · rcases h1 with w | ⟨j', s', z', hj', ek', hp', hno⟩
      · exact absurd hi w
      · obtain ⟨rfl, rfl⟩ := same hj' ek' hp'
        exact absurd i2 (hno i i1)
    · exact AgT.thr (e := 0) h2 e
  · obtain ⟨rfl, rfl⟩ := same hj ek hp
    have hz := hp.2.2.2.2.1
    rcases hm with ⟨-, i', i1, i2, hr, e⟩ | ⟨w, -, -⟩
    · have ei := (nI_eq (by omega) (by omega)).mp (ep.symm.trans i2)
      subst ei
      exact AgT.ans h2 e hf (hr.trans hv.symm)
    · rcases w with w | w
      · exact absurd (by rw [ek]; exact pat_is hj hp) w
      · exact absurd ep (w i hi)
theorem ag_twine {aa bb : Int32} (hc : ((¬ isPat T kk ∨ ∃ j s z, j < 8 ∧ kk = nI j ∧ PatOK T j s z ∧ ∀ a b : Nat, 1 ≤ a → a ≤ s → 1 ≤ b → b ≤ s → a ≠ b → ¬ (aa = nI a ∧ bb = nI b)) ∧ r = 1) ∨ (r = 0 ∧ ∃ v, f' = vp_updL f 0 v.toInt64 ∧ ∃ j s z a b, j < 8 ∧ kk = nI j ∧ PatOK T j s z ∧ 1 ≤ a ∧ a ≤ s ∧ aa = nI a ∧ 1 ≤ b ∧ b ≤ s ∧ bb = nI b ∧ a ≠ b ∧ twAns (rowOf T j) z s a b v))
    (hm : (∃ j s z a b, j < 8 ∧ kk = nI j ∧ PatOK T j s z ∧ 1 ≤ a ∧ a ≤ s ∧ aa = nI a ∧ 1 ≤ b ∧ b ≤ s ∧ bb = nI b ∧ a ≠ b ∧ twAns (rowOf T j) z s a b r2 ∧ M2 = va_up M 0 0) ∨ ((¬ isPat T kk ∨ ∃ j s z, j < 8 ∧ kk = nI j ∧ PatOK T j s z ∧ ∀ a b : Nat, 1 ≤ a → a ≤ s → 1 ≤ b → b ≤ s → a ≠ b → ¬ (aa = nI a ∧ bb = nI b)) ∧ r2 = 0 ∧ M2 = va_up M 0 1)) : AgT M2 r r2 f f' := by
  have no : ∀ {j s z a b : Nat}, j < 8 → kk = nI j → PatOK T j s z → 1 ≤ a → a ≤ s → aa = nI a → 1 ≤ b → b ≤ s → bb = nI b → a ≠ b → ¬ (¬ isPat T kk ∨ ∃ j s z, j < 8 ∧ kk = nI j ∧ PatOK T j s z ∧ ∀ a b : Nat, 1 ≤ a → a ≤ s → 1 ≤ b → b ≤ s → a ≠ b → ¬ (aa = nI a ∧ bb = nI b)) := by
    rintro j s z a b hj rfl hp a1 a2 ea b1 b2 eb hab (w | ⟨j', s', z', hj', e, hp', hno⟩)
    · exact w (pat_is hj hp)
    · have ej := (nI_eq (by omega) (by omega)).mp e
      subst ej
      obtain ⟨rfl, rfl⟩ := PatOK_uniq hp hp'
      exact hno a b a1 a2 b1 b2 hab ⟨ea, eb⟩
  rcases hc with ⟨h1, h2⟩ | ⟨h2, v, hf, j, s, z, a, b, hj, ek, hp, a1, a2, ea, b1, b2, eb, hab, hv⟩
  · rcases hm with ⟨j', s', z', a', b', hj', ek', hp', a1', a2', ea', b1', b2', eb', hab', -, -⟩ | ⟨-, -, e⟩
    · exact absurd h1 (no hj' ek' hp' a1' a2' ea' b1' b2' eb' hab')
    · exact AgT.thr (e := 0) h2 e
  · rcases hm with ⟨j', s', z', a', b', hj', ek', hp', a1', a2', ea', b1', b2', eb', hab', hv', e⟩ | ⟨w, -, -⟩
    · have ej := (nI_eq (by omega) (by omega)).mp (ek.symm.trans ek')
      subst ej
      obtain ⟨rfl, rfl⟩ := PatOK_uniq hp hp'
      have s7 := hp.2.2.1
      have e1 := (nI_eq (by omega) (by omega)).mp (ea.symm.trans ea')
      have e2 := (nI_eq (by omega) (by omega)).mp (eb.symm.trans eb')
      subst e1; subst e2
      obtain ⟨m, hm1, -, rfl⟩ := hv
      obtain ⟨m', hm1', -, rfl⟩ := hv'
      have := home_uniq hm1 hm1'
      subst this
      exact AgT.ans h2 e hf rfl
    · exact absurd w (no hj ek hp a1 a2 ea b1 b2 eb hab)
/-- of a row's number -/
theorem ag_num {nn : Nat} {F : Nat → Int32} (hnn : nn ≤ 100) (hc : ((∀ i : Nat, i < nn → kk ≠ nI i) ∧ r = 1) ∨ (r = 0 ∧ ∃ v, f' = vp_updL f 0 v.toInt64 ∧ ∃ i : Nat, i < nn ∧ kk = nI i ∧ v = F i)) (hm : (∃ i : Nat, i < nn ∧ kk = nI i ∧ r2 = F i ∧ M2 = va_up M 0 0) ∨ ((∀ i : Nat, i < nn → kk ≠ nI i) ∧ r2 = 0 ∧ M2 = va_up M 0 1)) : AgT M2 r r2 f f' := by
  rcases hc with ⟨h1, h2⟩ | ⟨h2, v, hf, i, hi, ek, hv⟩
  · rcases hm with ⟨i, hi, ek, -, -⟩ | ⟨-, -, e⟩
    · exact absurd ek (h1 i hi)
    · exact AgT.thr (e := 0) h2 e
  · rcases hm with ⟨i', hi', ek', hr, e⟩ | ⟨w, -, -⟩
    · have ei := (nI_eq (by omega) (by omega)).mp (ek.symm.trans ek')
      subst ei
      exact AgT.ans h2 e hf (hr.trans hv.symm)
    · exact absurd ek (w i hi)
theorem ag_numw {nn : Nat} {mx : Int32} {F : Nat → Int32} (hnn : nn ≤ 100) (hc : (((∀ i : Nat, i < nn → kk ≠ nI i) ∨ ww < 0 ∨ mx < ww) ∧ r = 1) ∨ (r = 0 ∧ ∃ v, f' = vp_updL f 0 v.toInt64 ∧ ∃ i : Nat, i < nn ∧ kk = nI i ∧ ¬ ww < 0 ∧ ¬ mx < ww ∧ v = F i)) (hm : (∃ i : Nat, i < nn ∧ kk = nI i ∧ ¬ ww < 0 ∧ ¬ mx < ww ∧ r2 = F i ∧ M2 = va_up M 0 0) ∨ (((∀ i : Nat, i < nn → kk ≠ nI i) ∨ ww < 0 ∨ mx < ww) ∧ r2 = 0 ∧ M2 = va_up M 0 1)) : AgT M2 r r2 f f' := by
  have no : ∀ {i : Nat}, i < nn → kk = nI i → ¬ ww < 0 → ¬ mx < ww → ¬ ((∀ i : Nat, i < nn → kk ≠ nI i) ∨ ww < 0 ∨ mx < ww) := by
    rintro i hi e w0 w1 (q | q | q)
    · exact q i hi e
    · exact w0 q
    · exact w1 q
  rcases hc with ⟨h1, h2⟩ | ⟨h2, v, hf, i, hi, ek, w0, w1, hv⟩
  · rcases hm with ⟨i, hi, ek, w0, w1, -, -⟩ | ⟨-, -, e⟩
    · exact absurd h1 (no hi ek w0 w1)
    · exact AgT.thr (e := 0) h2 e
  · rcases hm with ⟨i', hi', ek', -, -, hr, e⟩ | ⟨w, -, -⟩
    · have ei := (nI_eq (by omega) (by omega)).mp (ek.symm.trans ek')
      subst ei
      exact AgT.ans h2 e hf (hr.trans hv.symm)
    · exact absurd w (no hi ek w0 w1)
theorem ag_count {c0 c1 c2 c3 c4 : Int32} (hc : ((ww < 0 ∨ 4 < ww) ∧ r = 1) ∨ (r = 0 ∧ ∃ v, f' = vp_updL f 0 v.toInt64 ∧ ((ww = 0 ∧ v = c0) ∨ (ww = 1 ∧ v = c1) ∨ (ww = 2 ∧ v = c2) ∨ (ww = 3 ∧ v = c3) ∨ (ww = 4 ∧ v = c4)))) (hm : (ww = 0 ∧ r2 = c0 ∧ M2 = va_up M 0 0) ∨ (ww = 1 ∧ r2 = c1 ∧ M2 = va_up M 0 0) ∨ (ww = 2 ∧ r2 = c2 ∧ M2 = va_up M 0 0) ∨ (ww = 3 ∧ r2 = c3 ∧ M2 = va_up M 0 0) ∨ (ww = 4 ∧ r2 = c4 ∧ M2 = va_up M 0 0) ∨ ((ww < 0 ∨ 4 < ww) ∧ r2 = 0 ∧ M2 = va_up M 0 1)) : AgT M2 r r2 f f' := by
  rcases hc with ⟨h1, h2⟩ | ⟨h2, v, hf, hv⟩
  · rcases hm with ⟨w, -, -⟩ | ⟨w, -, -⟩ | ⟨w, -, -⟩ | ⟨w, -, -⟩ | ⟨w, -, -⟩ | ⟨-, -, e⟩
    · rw [w] at h1; exact absurd h1 (by decide)
    · rw [w] at h1; exact absurd h1 (by decide)
    · rw [w] at h1; exact absurd h1 (by decide)
    · rw [w] at h1; exact absurd h1 (by decide)
    · rw [w] at h1; exact absurd h1 (by decide)
    · exact AgT.thr (e := 0) h2 e
  · rcases hv with ⟨w, rfl⟩ | ⟨w, rfl⟩ | ⟨w, rfl⟩ | ⟨w, rfl⟩ | ⟨w, rfl⟩ <;> rcases hm with ⟨w', hr, e⟩ | ⟨w', hr, e⟩ | ⟨w', hr, e⟩ | ⟨w', hr, e⟩ | ⟨w', hr, e⟩ | ⟨w', hr, e⟩ <;> first | exact AgT.ans h2 e hf hr | exact absurd (w.symm.trans w') (by decide) | (rw [w] at w'; exact absurd w' (by decide))
end AGR
theorem lg_self (x : Int64) : lg_cmp x x = 0 := by simp [lg_cmp]
