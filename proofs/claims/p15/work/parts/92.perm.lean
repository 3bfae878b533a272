/-! cells in another order -/
theorem va_D.perm {A : Nat → Prop} {ws ws' : va_W} (h : va_D A ws) (p : ws.Perm ws') : va_D A ws' := by
  have h1 : (ws.map Prod.fst).Pairwise (fun a b => a ≠ b) := by
    rw [List.pairwise_iff_getElem]
    intro i j hi hj hij e
    rw [List.length_map] at hi hj
    rw [List.getElem_map, List.getElem_map] at e
    have := h.1 i j ws[i] ws[j] (List.getElem?_eq_getElem hi) (List.getElem?_eq_getElem hj) e
    omega
  have h2 : (ws'.map Prod.fst).Pairwise (fun a b => a ≠ b) := (p.map Prod.fst).nodup_iff.mp h1
  rw [List.pairwise_iff_getElem] at h2
  refine ⟨fun i j a b ha hb e => ?_, fun k q hq => ?_⟩
  · obtain ⟨hi, ea⟩ := List.getElem?_eq_some_iff.mp ha
    obtain ⟨hj, eb⟩ := List.getElem?_eq_some_iff.mp hb
    have key : ∀ i j (hi : i < ws'.length) (hj : j < ws'.length), i < j → ws'[i].1 ≠ ws'[j].1 := fun i j hi hj hij => by
      have := h2 i j (by rw [List.length_map]; exact hi) (by rw [List.length_map]; exact hj) hij
      rw [List.getElem_map, List.getElem_map] at this
      exact this
    rcases Nat.lt_trichotomy i j with w | w | w
    · exact absurd (by rw [ea, eb]; exact e) (key i j hi hj w)
    · exact w
    · exact absurd (by rw [ea, eb]; exact e.symm) (key j i hj hi w)
  · obtain ⟨k', hk'⟩ := List.getElem?_of_mem (p.mem_iff.mpr (List.mem_of_getElem? hq))
    exact h.2 k' q hk'
theorem va_P.perm {D : va_G} {cl : List vw_C} {ws ws' : va_W} {H : Heap} (h : va_P D cl ws H) (p : ws.Perm ws') : va_P D cl ws' H := fun j q hq => by
  obtain ⟨k', hk'⟩ := List.getElem?_of_mem (p.mem_iff.mpr (List.mem_of_getElem? hq))
  exact h k' q hk'
section VPM
variable {X : Fx} {k n pc : Nat} {L : List (Option Value)} {st : List Value} {ws ws' P : va_W}
theorem V.perm (p : ws.Perm ws') (kk : V X k n pc L st ws') : V X k n pc L st ws := by
  obtain ⟨p0, l, e, R, s, m, args, below, meth, c, D, cy, A, nX, Q⟩ := X
  exact fun H locs ls hP hD hS hl => kk H locs ls (hP.perm p) (hD.perm p) hS hl
theorem VX.perm {E : String} (p : ws.Perm ws') (kk : VX X k n pc L st ws' E) : VX X k n pc L st ws E := by
  obtain ⟨p0, l, e, R, s, m, args, below, meth, c, D, cy, A, nX, Q⟩ := X
  exact fun H locs ls q9 ce hP hD hS hl => kk H locs ls q9 ce (hP.perm p) (hD.perm p) hS hl
/-- the front in another order -/
theorem V.re {m : Nat} (hlen : ws.length = m) (is : List Nat) (hn : va_nd is = true) (hs : is.map (fun i => ws[i]?) = ws'.map some) (hm : ∀ i ∈ is, i < m) (kk : V X k n pc L st (ws' ++ P)) : V X k n pc L st (ws ++ P) := V.sub (is ++ tlx m P) (tl_nd hn hm) (tl_R hlen hs) kk
end VPM
/-! Pattern: what its rows hold, as functions of the crossings -/
theorem lvIn_ge1 {lv : Nat → Nat} {c : Nat → Int32} {i : Nat} : ∀ h, 1 ≤ lvIn lv c i h
  | 0 => Nat.le_refl _
  | h + 1 => by
    have ih := lvIn_ge1 (lv := lv) (c := c) (i := i) h
    unfold lvIn
    split <;> omega
theorem lvIn_ub {lv : Nat → Nat} {c : Nat → Int32} {i : Nat} : ∀ h q, q < h → ai (c q) < i + 2 → i < ai (c q) + 2 → lv q + 1 ≤ lvIn lv c i h
  | 0, q, hq, _, _ => by omega
  | h + 1, q, hq, h1, h2 => by
    unfold lvIn
    by_cases e : q = h
    · subst e
      split
      · exact Nat.le_refl _
      · next w =>
        have : ¬ lvIn lv c i q ≤ lv q := fun w2 => w ⟨⟨h1, h2⟩, w2⟩
        omega
    · have ih := lvIn_ub (lv := lv) (c := c) (i := i) h q (by omega) h1 h2
      split <;> omega
theorem lvIn_at {lv : Nat → Nat} {c : Nat → Int32} {i : Nat} : ∀ h, lvIn lv c i h = 1 ∨ ∃ q, q < h ∧ ai (c q) < i + 2 ∧ i < ai (c q) + 2 ∧ lvIn lv c i h = lv q + 1
  | 0 => Or.inl rfl
  | h + 1 => by
    unfold lvIn
    split
    · next w => exact Or.inr ⟨h, by omega, w.1.1, w.1.2, rfl⟩
    · rcases lvIn_at (lv := lv) (c := c) (i := i) h with e | ⟨q, q1, q2, q3, q4⟩
      · exact Or.inl e
      · exact Or.inr ⟨q, by omega, q2, q3, q4⟩
/-- the level of the latest crossing of the number i among the first z -/
def la (c : Nat → Int32) : Nat → Nat → Nat
  | 0 => fun _ => 0
  | z + 1 => fun i => if i = ai (c z) then 1 + max (la c z i) (max (la c z (i - 1)) (la c z (i + 1))) else la c z i
def laI (c : Nat → Int32) (z : Nat) : Prop := (∀ h, h < z → lvF c z h ≤ la c z (ai (c h))) ∧ ∀ i, la c z i = 0 ∨ ∃ h, h < z ∧ ai (c h) = i ∧ lvF c z h = la c z i
theorem la_lv {c : Nat → Int32} {z : Nat} (hI : laI c z) (h1 : 1 ≤ ai (c z)) : lvIn (lvF c z) c (ai (c z)) z = 1 + max (la c z (ai (c z))) (max (la c z (ai (c z) - 1)) (la c z (ai (c z) + 1))) := by
  apply Nat.le_antisymm
  · rcases lvIn_at (lv := lvF c z) (c := c) (i := ai (c z)) z with e | ⟨q, q1, q2, q3, q4⟩
    · omega
    · have := hI.1 q q1
      rcases (show ai (c q) = ai (c z) ∨ ai (c q) = ai (c z) - 1 ∨ ai (c q) = ai (c z) + 1 by omega) with e | e | e <;> rw [e] at this <;> omega
  · have key : ∀ i', i' < ai (c z) + 2 → ai (c z) < i' + 2 → la c z i' + 1 ≤ lvIn (lvF c z) c (ai (c z)) z := by
      intro i' a b
      rcases hI.2 i' with e | ⟨h, h1, h2, h3⟩
      · rw [e]; exact lvIn_ge1 z
      · rw [← h3]; exact lvIn_ub z h h1 (by omega) (by omega)
    have k1 := key (ai (c z)) (by omega) (by omega)
    have k2 := key (ai (c z) - 1) (by omega) (by omega)
    have k3 := key (ai (c z) + 1) (by omega) (by omega)
    omega
theorem la_I {c : Nat → Int32} : ∀ z, (∀ j, j < z → 1 ≤ ai (c j)) → laI c z
  | 0, _ => ⟨fun h hh => by omega, fun _ => Or.inl rfl⟩
  | z + 1, hc => by
    have ih := la_I (c := c) z (fun j hj => hc j (by omega))
    have hv := la_lv ih (hc z (by omega))
    have e1 : la c (z + 1) (ai (c z)) = lvIn (lvF c z) c (ai (c z)) z := by
      show (if ai (c z) = ai (c z) then _ else _) = _
      rw [if_pos rfl, hv]
    have e2 : ∀ i, i ≠ ai (c z) → la c (z + 1) i = la c z i := fun i hi => if_neg hi
    have e3 : lvF c (z + 1) z = lvIn (lvF c z) c (ai (c z)) z := if_pos rfl
    have e4 : ∀ q, q ≠ z → lvF c (z + 1) q = lvF c z q := fun q hq => if_neg hq
    refine ⟨fun h hh => ?_, fun i => ?_⟩
    · by_cases w : h = z
      · subst w; rw [e3, e1]; exact Nat.le_refl _
      · rw [e4 h w]
        have := ih.1 h (by omega)
        by_cases w2 : ai (c h) = ai (c z)
        · rw [w2, e1]; rw [w2] at this; omega
        · rw [e2 _ w2]; exact this
    · by_cases w : i = ai (c z)
      · subst w; exact Or.inr ⟨z, by omega, rfl, by rw [e3, e1]⟩
      · rw [e2 i w]
        rcases ih.2 i with e | ⟨h, h1, h2, h3⟩
        · exact Or.inl e
        · exact Or.inr ⟨h, by omega, h2, by rw [e4 h (by omega)]; exact h3⟩
theorem la_le {c : Nat → Int32} {z i : Nat} (hc : ∀ j, j < z → 1 ≤ ai (c j)) : la c z i ≤ z := by
  rcases (la_I z hc).2 i with e | ⟨h, h1, -, h3⟩
  · omega
  · rw [← h3]; have := lvF_le (c := c) z h h1; omega
theorem lvF_ge1 {c : Nat → Int32} : ∀ j q, q < j → 1 ≤ lvF c j q
  | 0, q, h => by omega
  | j + 1, q, h => by
    unfold lvF
    split
    · exact lvIn_ge1 j
    · exact lvF_ge1 j q (by omega)
theorem la_there {c : Nat → Int32} {z i : Nat} (hc : ∀ j, j < z → 1 ≤ ai (c j)) : la c z i = 0 ↔ ∀ h, h < z → ai (c h) ≠ i := by
  have hI := la_I z hc
  constructor
  · intro e h hh w
    have h1 := hI.1 h hh
    have h2 := lvF_ge1 (c := c) z h hh
    rw [w] at h1
    omega
  · intro hn
    rcases hI.2 i with e | ⟨h, h1, h2, -⟩
    · exact e
    · exact absurd h2 (hn h h1)
theorem thereIs_ai {c : Nat → Int32} {z s i : Nat} (hs : s ≤ 7) (hok : ∀ j, j < z → okC s (c j)) (hi : i < s) : thereIs c z i ↔ ∃ h, h < z ∧ ai (c h) = i := by
  constructor
  · rintro ⟨j, hj, e | e⟩
    · exact ⟨j, hj, by rw [e]; exact ai_nI (by omega)⟩
    · exact ⟨j, hj, by rw [e]; exact ai_neg (by omega)⟩
  · rintro ⟨h, hh, e⟩
    obtain ⟨q, q1, q2, q3 | q3⟩ := hok h hh
    · rw [q3, ai_nI (by omega)] at e; subst e; exact ⟨h, hh, Or.inl q3⟩
    · rw [q3, ai_neg (by omega)] at e; subst e; exact ⟨h, hh, Or.inr q3⟩
/-- the sides of a straw's crossings: the first, the latest; whether they are in turn -/
noncomputable def fsF (c : Nat → Int32) (p : Nat) : Nat → Nat
  | 0 => 0
  | z + 1 => if fsF c p z = 0 then sd (gT c z p) (c z) else fsF c p z
noncomputable def lsF (c : Nat → Int32) (p : Nat) : Nat → Nat
  | 0 => 0
  | z + 1 => if sd (gT c z p) (c z) = 0 then lsF c p z else sd (gT c z p) (c z)
def okT (c : Nat → Int32) (p : Nat) : Nat → Prop
  | 0 => True
  | z + 1 => okT c p z ∧ (sd (gT c z p) (c z) = 0 ∨ sd (gT c z p) (c z) ≠ lsF c p z)
theorem sd_le (x : Nat) (c : Int32) : sd x c ≤ 2 := by unfold sd; split <;> (try split) <;> omega
theorem sd_0 {x : Nat} {c : Int32} (h : sd x c = 0) : x ≠ ai c ∧ x ≠ ai c + 1 := by
  constructor
  · intro e
    by_cases w : 0 < c
    · rw [sd_ov (Or.inl ⟨e, w⟩)] at h; omega
    · rw [sd_un (Or.inl ⟨e, w⟩)] at h; omega
  · intro e
    by_cases w : 0 < c
    · rw [sd_un (Or.inr ⟨e, w⟩)] at h; omega
    · rw [sd_ov (Or.inr ⟨e, w⟩)] at h; omega
theorem fs_ls {c : Nat → Int32} {p : Nat} : ∀ z, fsF c p z = 0 ↔ lsF c p z = 0
  | 0 => Iff.rfl
  | z + 1 => by
    have ih := fs_ls (c := c) (p := p) z
    unfold fsF lsF
    by_cases e : sd (gT c z p) (c z) = 0
    · rw [e, if_pos rfl]
      by_cases w : fsF c p z = 0
      · rw [if_pos w]; exact ⟨fun _ => ih.mp w, fun _ => rfl⟩
      · rw [if_neg w]; exact ih
    · rw [if_neg e]
      by_cases w : fsF c p z = 0
      · rw [if_pos w]
      · rw [if_neg w]; exact ⟨fun q => absurd q w, fun q => absurd q e⟩
theorem itj_real {c : Nat → Int32} {x f l : Nat} : ∀ z, (okT c x z ∧ (fsF c x z = 0 ∨ fsF c x z ≠ l) → itj c (some (x, f, l)) z = some (gT c z x, (if f = 0 then fsF c x z else f), (if lsF c x z = 0 then l else lsF c x z))) ∧ (¬ (okT c x z ∧ (fsF c x z = 0 ∨ fsF c x z ≠ l)) → itj c (some (x, f, l)) z = none)
  | 0 => by
    refine ⟨fun _ => ?_, fun h => absurd ⟨trivial, Or.inl rfl⟩ h⟩
    show some (x, f, l) = some (x, (if f = 0 then 0 else f), (if (0 : Nat) = 0 then l else 0))
    rw [if_pos rfl]
    by_cases w : f = 0
    · rw [if_pos w, w]
    · rw [if_neg w]
  | z + 1 => by
    obtain ⟨ih1, ih2⟩ := itj_real (c := c) (x := x) (f := f) (l := l) z
    have hfl := fs_ls (c := c) (p := x) z
    have hJ : itj c (some (x, f, l)) (z + 1) = (itj c (some (x, f, l)) z).bind (itS (c z)) := rfl
    have hF : fsF c x (z + 1) = if fsF c x z = 0 then sd (gT c z x) (c z) else fsF c x z := rfl
    have hL : lsF c x (z + 1) = if sd (gT c z x) (c z) = 0 then lsF c x z else sd (gT c z x) (c z) := rfl
    have hO : okT c x (z + 1) ↔ okT c x z ∧ (sd (gT c z x) (c z) = 0 ∨ sd (gT c z x) (c z) ≠ lsF c x z) := Iff.rfl
    have hG : gT c (z + 1) x = sw (ai (c z)) (gT c z x) := rfl
    by_cases hz : okT c x z ∧ (fsF c x z = 0 ∨ fsF c x z ≠ l)
    · rw [hJ, ih1 hz]
      show (_ → (itS (c z) _) = _) ∧ (_ → (itS (c z) _) = _)
      unfold itS
      dsimp only
      by_cases e : sd (gT c z x) (c z) = 0
      · rw [if_pos e]
        have hs := sd_0 e
        have hg : gT c (z + 1) x = gT c z x := by rw [hG, sw_n hs.1 hs.2]
        have hf : fsF c x (z + 1) = fsF c x z := by
          rw [hF, e]
          by_cases w : fsF c x z = 0
          · rw [if_pos w, w]
          · rw [if_neg w]
        have hl : lsF c x (z + 1) = lsF c x z := by rw [hL, if_pos e]
        rw [hg, hf, hl]
        refine ⟨fun _ => rfl, fun h => absurd ⟨hO.mpr ⟨hz.1, Or.inl e⟩, hz.2⟩ h⟩
      · rw [if_neg e]
        have hl : lsF c x (z + 1) = sd (gT c z x) (c z) := by rw [hL, if_neg e]
        by_cases w : fsF c x z = 0
        · have w2 := hfl.mp w
          have hf : fsF c x (z + 1) = sd (gT c z x) (c z) := by rw [hF, if_pos w]
          rw [w, w2, if_pos rfl, hf, hl, hG]
          by_cases v : sd (gT c z x) (c z) = l
          · rw [if_pos v]
            exact ⟨fun h => absurd v (h.2.resolve_left e), fun _ => rfl⟩
          · rw [if_neg v, if_neg e]
            refine ⟨fun _ => ?_, fun h => absurd ⟨hO.mpr ⟨hz.1, Or.inr (by rw [w2]; exact e)⟩, Or.inr v⟩ h⟩
            by_cases hf0 : f = 0
            · rw [if_pos hf0, if_pos rfl]; simp [hf0]
            · simp [hf0]
        · have w2 : ¬ lsF c x z = 0 := fun q => w (hfl.mpr q)
          have hf : fsF c x (z + 1) = fsF c x z := by rw [hF, if_neg w]
          rw [if_neg w2, hf, hl, hG]
          by_cases v : sd (gT c z x) (c z) = lsF c x z
          · rw [if_pos v]
            exact ⟨fun h => absurd v ((hO.mp h.1).2.resolve_left e), fun _ => rfl⟩
          · rw [if_neg v, if_neg e]
            refine ⟨fun _ => ?_, fun h => absurd ⟨hO.mpr ⟨hz.1, Or.inr v⟩, hz.2⟩ h⟩
            by_cases hf0 : f = 0
            · simp [hf0, w]
            · simp [hf0]
    · rw [hJ, ih2 hz]
      refine ⟨fun h => absurd ⟨(hO.mp h.1).1, ?_⟩ hz, fun _ => rfl⟩
      rcases h.2 with q | q
      · rw [hF] at q
        by_cases w : fsF c x z = 0
        · exact Or.inl w
        · rw [if_neg w] at q; exact Or.inl q
      · rw [hF] at q
        by_cases w : fsF c x z = 0
        · exact Or.inl w
        · rw [if_neg w] at q; exact Or.inr q
/-- in turn for all the times, by what it is in one -/
theorem itt_real {c : Nat → Int32} {z s m : Nat} (hs : s ≤ 7) (hok : ∀ j, j < z → okC s (c j)) (hm : isHome (gT c z) s m) (hfs : ∀ p, 1 ≤ p → p ≤ s → fsF c p z ≠ 0) : (∀ p, 1 ≤ p → p ≤ s → itR (itt c z p m) = 1) ↔ (∀ p, 1 ≤ p → p ≤ s → okT c p z) ∧ ∀ p, 1 ≤ p → p ≤ s → lsF c p z ≠ fsF c (gT c z p) z := by
  have hP : PermOn (gT c z) s := gT_perm hs hok
  have hls : ∀ p, 1 ≤ p → p ≤ s → lsF c p z ≠ 0 := fun p a b q => hfs p a b ((fs_ls z).mpr q)
  have step1 : ∀ p, okT c p z → fsF c p z ≠ 0 → itt c z p 1 = some (gT c z p, fsF c p z, lsF c p z) := fun p h1 h2 => by
    have := (itj_real (c := c) (x := p) (f := 0) (l := 0) z).1 ⟨h1, Or.inr h2⟩
    show itj c (some (p, 0, 0)) z = _
    rw [this, if_pos rfl, if_neg (fun q => h2 ((fs_ls z).mpr q))]
  constructor
  · intro h
    have hT : ∀ p, 1 ≤ p → p ≤ s → okT c p z := fun p a b => Classical.byContradiction fun hn => by
      have h0 := (itj_real (c := c) (x := p) (f := 0) (l := 0) z).2 (fun q => hn q.1)
      have h1 : itt c z p 1 = none := h0
      have h2 := itt_none h1 (m - 1)
      have hm1 := hm.1
      rw [show 1 + (m - 1) = m by omega] at h2
      have := h p a b
      rw [h2] at this
      exact absurd this (by decide)
    refine ⟨hT, fun p a b hn => ?_⟩
    have hm1 := hm.1
    have e1 := step1 p (hT p a b) (hfs p a b)
    by_cases hm2 : m = 1
    · subst hm2
      have := h p a b
      have hg : gT c z p = p := hm.2.1 p a b
      rw [e1] at this
      have h2 : (if fsF c p z = 0 ∨ fsF c p z ≠ lsF c p z then (1 : Int32) else 0) = 1 := this
      rw [hg] at hn
      rw [if_neg (fun q => q.elim (hfs p a b) (fun w => w hn.symm))] at h2
      exact absurd h2 (by decide)
    · have hg := hP.1 p a b
      have h3 : itt c z p 2 = none := by
        show itj c (itt c z p 1) z = none
        rw [e1]
        refine (itj_real z).2 (fun q => ?_)
        rcases q.2 with w | w
        · exact hfs _ hg.1 hg.2 w
        · exact w hn.symm
      have h2 := itt_none h3 (m - 2)
      rw [show 2 + (m - 2) = m by omega] at h2
      have := h p a b
      rw [h2] at this
      exact absurd this (by decide)
  · rintro ⟨hT, hN⟩ p a b
    have key : ∀ t, itt c z p (t + 1) = some (itr (gT c z) (t + 1) p, fsF c p z, lsF c (itr (gT c z) t p) z) := by
      intro t
      induction t with
      | zero => exact step1 p (hT p a b) (hfs p a b)
      | succ t ih =>
        have i1 := itr_in hP a b t
        have i2 := itr_in hP a b (t + 1)
        show itj c (itt c z p (t + 1)) z = _
        rw [ih]
        have := (itj_real (c := c) (x := itr (gT c z) (t + 1) p) (f := fsF c p z) (l := lsF c (itr (gT c z) t p) z) z).1 ⟨hT _ i2.1 i2.2, Or.inr (fun q => hN _ i1.1 i1.2 q.symm)⟩
        rw [this, if_neg (hfs p a b), if_neg (hls _ i2.1 i2.2)]
        rfl
    have hm1 := hm.1
    obtain ⟨t, rfl⟩ : ∃ t, m = t + 1 := ⟨m - 1, by omega⟩
    rw [key t]
    have i1 := itr_in hP a b t
    have hq := hN _ i1.1 i1.2
    have hh : itr (gT c z) (t + 1) p = p := hm.2.1 p a b
    have hh2 : gT c z (itr (gT c z) t p) = p := hh
    rw [hh2] at hq
    show (if fsF c p z = 0 ∨ fsF c p z ≠ lsF c (itr (gT c z) t p) z then (1 : Int32) else 0) = 1
    rw [if_pos (Or.inr (fun q => hq q.symm))]
/-- where every number is, every straw is crossed -/
theorem all_crossed {c : Nat → Int32} {z s p : Nat} (hs2 : 2 ≤ s) (hall : ∀ i, 1 ≤ i → i < s → ∃ h, h < z ∧ ai (c h) = i) (h1 : 1 ≤ p) (h2 : p ≤ s) : fsF c p z ≠ 0 := by
  have key : ∀ n, fsF c p n = 0 → ∀ j, j < n → sd p (c j) = 0 ∧ gT c n p = p := by
    intro n
    induction n with
    | zero => intro _ j hj; omega
    | succ n ih =>
      intro h j hj
      have hF : fsF c p (n + 1) = if fsF c p n = 0 then sd (gT c n p) (c n) else fsF c p n := rfl
      rw [hF] at h
      by_cases w : fsF c p n = 0
      · rw [if_pos w] at h
        have hg : gT c n p = p := by
          rcases Nat.eq_zero_or_pos n with q | q
          · subst q; rfl
          · exact (ih w 0 q).2
        rw [hg] at h
        have h0 := sd_0 h
        have hg2 : gT c (n + 1) p = p := by show sw (ai (c n)) (gT c n p) = p; rw [hg]; exact sw_n h0.1 h0.2
        refine ⟨?_, hg2⟩
        by_cases e : j = n
        · subst e; exact h
        · exact (ih w j (by omega)).1
      · rw [if_neg w] at h; exact absurd h w
  intro h
  by_cases e : p = s
  · obtain ⟨q, q1, q2⟩ := hall (s - 1) (by omega) (by omega)
    have := sd_0 (key z h q q1).1
    omega
  · obtain ⟨q, q1, q2⟩ := hall p h1 (by omega)
    have := sd_0 (key z h q q1).1
    omega
theorem Holds_real {c : Nat → Int32} {z s : Nat} (hs2 : 2 ≤ s) (hs : s ≤ 7) (hok : ∀ j, j < z → okC s (c j)) : HoldsP c z s ↔ (∀ p, 1 ≤ p → p ≤ s → okT c p z) ∧ (∀ i, 1 ≤ i → i < s → la c z i ≠ 0) ∧ ∀ p, 1 ≤ p → p ≤ s → lsF c p z ≠ fsF c (gT c z p) z := by
  have h1 : ∀ j, j < z → 1 ≤ ai (c j) := fun j hj => (okC_ai (hok j hj) hs).1
  obtain ⟨m, -, hm⟩ := home_ex (gT_perm hs hok) hs
  have hla : (∀ i, 1 ≤ i → i < s → thereIs c z i) ↔ ∀ i, 1 ≤ i → i < s → la c z i ≠ 0 := by
    refine ⟨fun h i a b q => ?_, fun h i a b => ?_⟩
    · obtain ⟨w, w1, w2⟩ := (thereIs_ai hs hok b).mp (h i a b)
      exact (la_there h1).mp q w w1 w2
    · refine (thereIs_ai hs hok b).mpr (Classical.byContradiction fun hn => h i a b ((la_there h1).mpr fun w w1 w2 => hn ⟨w, w1, w2⟩))
  constructor
  · rintro ⟨ha, m', hm', hi⟩
    have hfs : ∀ p, 1 ≤ p → p ≤ s → fsF c p z ≠ 0 := fun p a b => all_crossed hs2 (fun i i1 i2 => (thereIs_ai hs hok i2).mp (ha i i1 i2)) a b
    obtain ⟨q1, q2⟩ := (itt_real hs hok hm' hfs).mp hi
    exact ⟨q1, hla.mp ha, q2⟩
  · rintro ⟨q1, q2, q3⟩
    have ha := hla.mpr q2
    have hfs : ∀ p, 1 ≤ p → p ≤ s → fsF c p z ≠ 0 := fun p a b => all_crossed hs2 (fun i i1 i2 => (thereIs_ai hs hok i2).mp (ha i i1 i2)) a b
    exact ⟨ha, m, hm, (itt_real hs hok hm hfs).mpr ⟨q1, q3⟩⟩
