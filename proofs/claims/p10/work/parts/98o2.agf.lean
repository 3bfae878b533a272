/-! about, factor, alike, untwined: answered alike -/
theorem abQ_uniq {c : Nat → Int32} {s z w : Nat} {v v' : Int32} (hs : s ≤ 7) (hok : ∀ i, i < z → okC s (c i)) (h : abQ c s z w v) (h' : abQ c s z w v') : v = v' := by
  rcases h with ⟨e, h⟩ | ⟨e, h⟩ | ⟨e, h⟩ | ⟨e, h⟩ | ⟨e, h⟩ | ⟨e, h⟩ | ⟨e, h⟩ <;> subst e <;> rcases h' with ⟨e', h'⟩ | ⟨e', h'⟩ | ⟨e', h'⟩ | ⟨e', h'⟩ | ⟨e', h'⟩ | ⟨e', h'⟩ | ⟨e', h'⟩ <;> first | exact absurd e' (by decide) | skip
  · rw [h, h']
  · obtain ⟨m, h1, -, rfl⟩ := h
    obtain ⟨m', h1', -, rfl⟩ := h'
    rw [home_uniq h1 h1']
  · rw [h, h']
  · rcases h with ⟨a, rfl⟩ | ⟨a, rfl⟩ <;> rcases h' with ⟨a', rfl⟩ | ⟨a', rfl⟩ <;> first | rfl | exact absurd a a' | exact absurd a' a
  · rw [h, h']
  · obtain ⟨n, f, B, h1, rfl⟩ := h
    obtain ⟨n', f', B', h1', rfl⟩ := h'
    rw [(NFof.one hs (z_or1 z) hok h1 h1').2.2]
  · obtain ⟨n, f, B, h1, rfl⟩ := h
    obtain ⟨n', f', B', h1', rfl⟩ := h'
    obtain ⟨-, rfl, rfl⟩ := NFof.one hs (z_or1 z) hok h1 h1'
    rfl
theorem UtQ_uniq {c : Nat → Int32} {s z : Nat} {v v' : Int32} (h : UtQ c s z v) (h' : UtQ c s z v') : v = v' := by
  rcases h with ⟨m, h1, h2, h3, h4, h5, rfl⟩ | ⟨h1, rfl⟩ <;> rcases h' with ⟨m', a1, a2, a3, a4, a5, rfl⟩ | ⟨a1, rfl⟩
  · rcases Nat.lt_trichotomy m m' with q | q | q
    · exact absurd h4 (a5 m h1 q)
    · rw [q]
    · exact absurd a4 (h5 m' a1 q)
  · exact absurd h4 (a1 m h1 h2 h3)
  · exact absurd a4 (h1 m' a1 a2 a3)
  · rfl
section AGF
variable {T : Rt} {M M2 : Mt} {r r2 kk jj ll ww : Int32} {f f' : Nat → Int64}
theorem ag_about (hc : ((¬ isPat T kk ∨ ∀ w : Nat, w ≤ 6 → ww ≠ nI w) ∧ r = 1) ∨ (r = 0 ∧ ∃ v, f' = vp_updL f 0 v.toInt64 ∧ ∃ j s z w, j < 8 ∧ kk = nI j ∧ PatOK T j s z ∧ w ≤ 6 ∧ ww = nI w ∧ abQ (rowOf T j) s z w v))
    (hm : (∃ j s z w, j < 8 ∧ kk = nI j ∧ PatOK T j s z ∧ w ≤ 6 ∧ ww = nI w ∧ abQ (rowOf T j) s z w r2 ∧ M2 0 = 0) ∨ ((¬ isPat T kk ∨ ∀ w : Nat, w ≤ 6 → ww ≠ nI w) ∧ r2 = 0 ∧ M2 0 = 1)) : AgT M2 r r2 f f' := by
  have no : ∀ {j s z w : Nat}, j < 8 → kk = nI j → PatOK T j s z → w ≤ 6 → ww = nI w → ¬ (¬ isPat T kk ∨ ∀ w : Nat, w ≤ 6 → ww ≠ nI w) := by
    rintro j s z w hj rfl hp hw e (q | q)
    · exact q (pat_is hj hp)
    · exact q w hw e
  rcases hc with ⟨h1, h2⟩ | ⟨h2, v, hf, j, s, z, w, hj, ek, hp, hw, ew, hv⟩
  · rcases hm with ⟨j', s', z', w', hj', ek', hp', hw', ew', -, -⟩ | ⟨-, -, e⟩
    · exact absurd h1 (no hj' ek' hp' hw' ew')
    · exact AgT.thr0 h2 e
  · rcases hm with ⟨j', s', z', w', hj', ek', hp', hw', ew', hv', e⟩ | ⟨q, -, -⟩
    · have ej := (nI_eq (by omega) (by omega)).mp (ek.symm.trans ek')
      subst ej
      obtain ⟨rfl, rfl⟩ := PatOK_uniq hp hp'
      have eww := (nI_eq (by omega) (by omega)).mp (ew.symm.trans ew')
      subst eww
      exact AgT.ans0 h2 e hf (abQ_uniq hp.2.2.1 hp.2.2.2.2.2 hv' hv)
    · exact absurd q (no hj ek hp hw ew)
theorem ag_factor (hc : ((¬ isPat T kk ∨ ∃ j s z n first B, j < 8 ∧ kk = nI j ∧ PatOK T j s z ∧ NFof (rowOf T j) s z z n first B ∧ ∀ i : Nat, i < n - first → jj ≠ nI i) ∧ r = 1) ∨ (r = 0 ∧ ∃ v, f' = vp_updL f 0 v.toInt64 ∧ ∃ j s z n first B i, j < 8 ∧ kk = nI j ∧ PatOK T j s z ∧ NFof (rowOf T j) s z z n first B ∧ jj = nI i ∧ i < n - first ∧ v = codeF (B (i + first)) s))
    (hm : (∃ j s z n first B i, j < 8 ∧ kk = nI j ∧ PatOK T j s z ∧ NFof (rowOf T j) s z z n first B ∧ jj = nI i ∧ i < n - first ∧ r2 = codeF (B (i + first)) s ∧ M2 0 = 0) ∨ ((¬ isPat T kk ∨ ∃ j s z n first B, j < 8 ∧ kk = nI j ∧ PatOK T j s z ∧ NFof (rowOf T j) s z z n first B ∧ ∀ i : Nat, i < n - first → jj ≠ nI i) ∧ r2 = 0 ∧ M2 0 = 1)) : AgT M2 r r2 f f' := by
  have no : ∀ {j s z n first i : Nat} {B : Sq}, j < 8 → kk = nI j → PatOK T j s z → NFof (rowOf T j) s z z n first B → jj = nI i → i < n - first → ¬ (¬ isPat T kk ∨ ∃ j s z n first B, j < 8 ∧ kk = nI j ∧ PatOK T j s z ∧ NFof (rowOf T j) s z z n first B ∧ ∀ i : Nat, i < n - first → jj ≠ nI i) := by
    rintro j s z n first i B hj rfl hp hn rfl hi (q | ⟨j', s', z', n', first', B', hj', e, hp', hn', hno⟩)
    · exact q (pat_is hj hp)
    · have ej := (nI_eq (by omega) (by omega)).mp e
      subst ej
      obtain ⟨rfl, rfl⟩ := PatOK_uniq hp hp'
      obtain ⟨-, rfl, rfl⟩ := NFof.one hp.2.2.1 (z_or1 z) hp.2.2.2.2.2 hn hn'
      exact hno i hi rfl
  rcases hc with ⟨h1, h2⟩ | ⟨h2, v, hf, j, s, z, n, first, B, i, hj, ek, hp, hn, ei, hi, hv⟩
  · rcases hm with ⟨j', s', z', n', first', B', i', hj', ek', hp', hn', ei', hi', -, -⟩ | ⟨-, -, e⟩
    · exact absurd h1 (no hj' ek' hp' hn' ei' hi')
    · exact AgT.thr0 h2 e
  · rcases hm with ⟨j', s', z', n', first', B', i', hj', ek', hp', hn', ei', hi', hv', e⟩ | ⟨q, -, -⟩
    · have ej := (nI_eq (by omega) (by omega)).mp (ek.symm.trans ek')
      subst ej
      obtain ⟨rfl, rfl⟩ := PatOK_uniq hp hp'
      have hz := hp.2.2.2.2.1
      have h3 := hn.2.1
      have h3' := hn'.2.1
      have eii := (nI_eq (by omega) (by omega)).mp (ei.symm.trans ei')
      subst eii
      obtain ⟨rfl, rfl, rfl⟩ := NFof.one hp.2.2.1 (z_or1 z) hp.2.2.2.2.2 hn hn'
      exact AgT.ans0 h2 e hf (hv'.trans hv.symm)
    · exact absurd q (no hj ek hp hn ei hi)
theorem ag_untw (hc : ((¬ isPat T kk) ∧ r = 1) ∨ (r = 0 ∧ ∃ v, f' = vp_updL f 0 v.toInt64 ∧ ∃ j s z, j < 8 ∧ kk = nI j ∧ PatOK T j s z ∧ UtQ (rowOf T j) s z v))
    (hm : (∃ j s z m, j < 8 ∧ kk = nI j ∧ PatOK T j s z ∧ 1 ≤ m ∧ m ≤ 12 ∧ m * z ≤ 600 ∧ evenAt (rowOf T j) s z m ∧ (∀ m', 1 ≤ m' → m' < m → ¬ evenAt (rowOf T j) s z m') ∧ r2 = nI m ∧ M2 0 = 0) ∨ (∃ j s z, j < 8 ∧ kk = nI j ∧ PatOK T j s z ∧ (∀ m, 1 ≤ m → m ≤ 12 → m * z ≤ 600 → ¬ evenAt (rowOf T j) s z m) ∧ r2 = -1 ∧ M2 0 = 0) ∨ (¬ isPat T kk ∧ r2 = 0 ∧ M2 0 = 1)) : AgT M2 r r2 f f' := by
  have hm2 : (∃ j s z, j < 8 ∧ kk = nI j ∧ PatOK T j s z ∧ UtQ (rowOf T j) s z r2 ∧ M2 0 = 0) ∨ (¬ isPat T kk ∧ r2 = 0 ∧ M2 0 = 1) := by
    rcases hm with ⟨j, s, z, m, hj, ek, hp, h1, h2, h3, h4, h5, h6, h7⟩ | ⟨j, s, z, hj, ek, hp, h1, h2, h3⟩ | q
    · exact Or.inl ⟨j, s, z, hj, ek, hp, Or.inl ⟨m, h1, h2, h3, h4, h5, h6⟩, h7⟩
    · exact Or.inl ⟨j, s, z, hj, ek, hp, Or.inr ⟨h1, h2⟩, h3⟩
    · exact Or.inr q
  rcases hc with ⟨h1, h2⟩ | ⟨h2, v, hf, j, s, z, hj, ek, hp, hv⟩
  · rcases hm2 with ⟨j', s', z', hj', ek', hp', -, -⟩ | ⟨-, -, e⟩
    · exact absurd (by rw [ek']; exact pat_is hj' hp') h1
    · exact AgT.thr0 h2 e
  · rcases hm2 with ⟨j', s', z', hj', ek', hp', hv', e⟩ | ⟨q, -, -⟩
    · have ej := (nI_eq (by omega) (by omega)).mp (ek.symm.trans ek')
      subst ej
      obtain ⟨rfl, rfl⟩ := PatOK_uniq hp hp'
      exact AgT.ans0 h2 e hf (UtQ_uniq hv' hv)
    · exact absurd (by rw [ek]; exact pat_is hj hp) q
/-- .. a truth -/
def AgB (M2 : Mt) (r r2 : Int32) (f f' : Nat → Int64) : Prop := M2 0 = r ∧ (r = 0 → ∃ v : Int32, (v = 0 ∨ v = 1) ∧ f' = vp_updL f 0 (if v = 0 then 0 else 1) ∧ r2 = v)
theorem ag_alike (hc : ((¬ isPat T kk ∨ ¬ isPat T ll) ∧ r = 1) ∨ (r = 0 ∧ ∃ v : Int32, f' = vp_updL f 0 (if v = 0 then 0 else 1) ∧ AlC T kk ll v))
    (hm : (∃ j s z j' z', j < 8 ∧ kk = nI j ∧ PatOK T j s z ∧ j' < 8 ∧ ll = nI j' ∧ PatOK T j' s z' ∧ ((r2 = 1 ∧ alQ (rowOf T j) (rowOf T j') s z z') ∨ (r2 = 0 ∧ ¬ alQ (rowOf T j) (rowOf T j') s z z')) ∧ M2 0 = 0) ∨ (∃ j s z j' s' z', j < 8 ∧ kk = nI j ∧ PatOK T j s z ∧ j' < 8 ∧ ll = nI j' ∧ PatOK T j' s' z' ∧ s ≠ s' ∧ r2 = 0 ∧ M2 0 = 0) ∨ ((¬ isPat T kk ∨ ¬ isPat T ll) ∧ r2 = 0 ∧ M2 0 = 1)) : AgB M2 r r2 f f' := by
  have hm2 : (AlC T kk ll r2 ∧ M2 0 = 0) ∨ ((¬ isPat T kk ∨ ¬ isPat T ll) ∧ M2 0 = 1) := by
    rcases hm with ⟨j, s, z, j', z', h1, h2, h3, h4, h5, h6, h7, h8⟩ | ⟨j, s, z, j', s', z', h1, h2, h3, h4, h5, h6, h7, h8, h9⟩ | ⟨h1, -, h2⟩
    · exact Or.inl ⟨Or.inl ⟨j, s, z, j', z', h1, h2, h3, h4, h5, h6, h7⟩, h8⟩
    · exact Or.inl ⟨Or.inr ⟨j, s, z, j', s', z', h1, h2, h3, h4, h5, h6, h7, h8⟩, h9⟩
    · exact Or.inr ⟨h1, h2⟩
  have both : ∀ {v : Int32}, AlC T kk ll v → isPat T kk ∧ isPat T ll := by
    rintro v (⟨j, s, z, j', z', hj, rfl, hp, hj', rfl, hp', -⟩ | ⟨j, s, z, j', s', z', hj, rfl, hp, hj', rfl, hp', -⟩)
    · exact ⟨pat_is hj hp, pat_is hj' hp'⟩
    · exact ⟨pat_is hj hp, pat_is hj' hp'⟩
  have uni : ∀ {v v' : Int32}, AlC T kk ll v → AlC T kk ll v' → v = v' ∧ (v = 0 ∨ v = 1) := by
    rintro v v' (⟨j, s, z, l, y, hj, ek, hp, hl, el, hq, hv⟩ | ⟨j, s, z, l, s1, y, hj, ek, hp, hl, el, hq, hne, hv⟩) (⟨j', s', z', l', y', hj', ek', hp', hl', el', hq', hv'⟩ | ⟨j', s', z', l', s1', y', hj', ek', hp', hl', el', hq', hne', hv'⟩) <;> (have e1 := (nI_eq (by omega) (by omega)).mp (ek.symm.trans ek')) <;> (have e2 := (nI_eq (by omega) (by omega)).mp (el.symm.trans el')) <;> subst e1 <;> subst e2 <;> (have u1 := PatOK_uniq hp hp') <;> (have u2 := PatOK_uniq hq hq')
    · obtain ⟨rfl, rfl⟩ := u1
      obtain ⟨-, rfl⟩ := u2
      rcases hv with ⟨rfl, w⟩ | ⟨rfl, w⟩ <;> rcases hv' with ⟨rfl, w'⟩ | ⟨rfl, w'⟩
      · exact ⟨rfl, Or.inr rfl⟩
      · exact absurd w w'
      · exact absurd w' w
      · exact ⟨rfl, Or.inl rfl⟩
    · exact absurd (u1.1.symm.trans u2.1) hne'
    · exact absurd (u1.1.trans u2.1.symm) hne
    · subst hv; subst hv'; exact ⟨rfl, Or.inl rfl⟩
  rcases hc with ⟨h1, h2⟩ | ⟨h2, v, hf, hv⟩
  · rcases hm2 with ⟨w, -⟩ | ⟨-, e⟩
    · have := both w
      rcases h1 with q | q
      · exact absurd this.1 q
      · exact absurd this.2 q
    · exact ⟨by rw [e, h2], fun q => absurd (h2.symm.trans q) (by decide)⟩
  · rcases hm2 with ⟨w, e⟩ | ⟨w, -⟩
    · have u := uni hv w
      exact ⟨by rw [e, h2], fun _ => ⟨v, u.2, hf, u.1.symm⟩⟩
    · have := both hv
      rcases w with q | q
      · exact absurd this.1 q
      · exact absurd this.2 q
end AGF
