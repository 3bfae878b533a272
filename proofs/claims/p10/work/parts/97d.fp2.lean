/-! the normal form of a row's beginning; turning it -/
def pre (S : Sq) (m : Nat) : Sq := fun q => if q < m then S q else idF
theorem pre_s (S : Sq) (m : Nat) : va_up (pre S m) m (S m) = pre S (m + 1) := by
  refine sq_ext fun f => ?_
  by_cases w : f = m
  · subst w
    rw [va_up_at]
    unfold pre
    rw [if_pos (by omega)]
  · rw [va_up_no w]
    unfold pre
    by_cases q : f < m
    · rw [if_pos q, if_pos (by omega)]
    · rw [if_neg q, if_neg (by omega)]
theorem pre_can {s m : Nat} {S : Sq} (h : ∀ f, CanF s (S f)) : Can s m (pre S m) := by
  refine ⟨fun f => ?_, fun f hf x => ?_⟩
  · unfold pre
    split
    · exact h f
    · exact idF_can s
  · unfold pre
    rw [if_neg (by omega)]
    rfl
theorem Rch.app {s m : Nat} {A B : Sq} (g : Nat → Nat) (h : Rch s m A B) : Rch s (m + 1) (va_up A m g) (va_up B m g) := by
  refine h (fun W => Rch s (m + 1) (va_up A m g) (va_up W m g)) Rch.rf (fun U W q hst => ?_)
  obtain ⟨k, i, hk, hm, rfl⟩ := hst
  refine q.step ⟨k, i, by omega, ⟨hm.1, hm.2.1, ?_, ?_⟩, ?_⟩
  · rw [va_up_no (by omega)]
    exact hm.2.2.1
  · rw [va_up_no (by omega)]
    exact hm.2.2.2
  · refine sq_ext fun f => ?_
    by_cases w : f = m
    · subst w
      rw [va_up_at, mvS_o _ (by omega) (by omega), va_up_at]
    · rw [va_up_no w]
      by_cases w1 : f = k
      · subst w1
        rw [mvS_k, mvS_k, va_up_no w]
      · by_cases w2 : f = k + 1
        · subst w2
          rw [mvS_k1, mvS_k1, va_up_no w]
        · rw [mvS_o _ w1 w2, mvS_o _ w1 w2, va_up_no w]
/-- the form of the first m: hd times D, then others up to tl, the rest empty -/
def FN (S : Sq) (s m hd tl : Nat) (B : Sq) : Prop := hd ≤ tl ∧ tl ≤ m ∧ Rch s m (pre S m) B ∧ (∀ k, NoMv s (B k) (B (k + 1))) ∧ (∀ f, tl ≤ f → B f = idF) ∧ (∀ f, f < tl → B f ≠ idF) ∧ (∀ f, f < hd → B f = revF s) ∧ (hd < tl → B hd ≠ revF s)
theorem FN.zero (S : Sq) (s : Nat) : FN S s 0 0 0 (fun _ => idF) := by
  refine ⟨Nat.le_refl _, Nat.le_refl _, ?_, fun _ => NoMv.id, fun _ _ => rfl, fun f hf => absurd hf (by omega), fun f hf => absurd hf (by omega), fun h => absurd h (by omega)⟩
  have e : pre S 0 = fun _ => idF := by
    refine sq_ext fun f => ?_
    unfold pre
    rw [if_neg (by omega)]
  rw [e]
  exact Rch.rf
theorem FN.can {S : Sq} {s m hd tl : Nat} {B : Sq} (hS : ∀ f, CanF s (S f)) (h : FN S s m hd tl B) : ∀ f, CanF s (B f) := (h.2.2.1.can (pre_can hS)).1
/-- a factor put behind comes to the end of the form -/
theorem FN.put {S : Sq} {s m hd tl : Nat} {B : Sq} (hS : ∀ f, CanF s (S f)) (h : FN S s m hd tl B) : Rch s (m + 1) (pre S (m + 1)) (va_up B tl (S m)) := by
  obtain ⟨h1, h2, h3, h4, h5, -⟩ := h
  have r1 := h3.app (S m)
  rw [pre_s] at r1
  have hc := r1.can (pre_can hS)
  have r2 := bub (m - tl) tl (va_up B m (S m)) hc (by omega) (fun q q1 q2 => by rw [va_up_no (by omega)]; exact h5 q q1)
  rw [show tl + (m - tl) = m by omega, va_up_at, up_up, up_same (h5 m h2)] at r2
  exact r1.trans r2
theorem nf_idn {s : Nat} {B : Sq} (hc : ∀ f, CanF s (B f)) (hn : ∀ k, NoMv s (B k) (B (k + 1))) {f : Nat} (hf : B f = idF) : B (f + 1) = idF := by
  have : ∀ x, 1 ≤ x → x ≤ s → B (f + 1) x = x := no_desc_id (hc (f + 1)).1 (fun i i1 i2 hd => hn f i i1 i2 hd (by
    rw [hf]
    intro x y _ _ _ _ ex ey
    have ex' : x = i := ex
    have ey' : y = i + 1 := ey
    omega))
  funext x
  show B (f + 1) x = x
  by_cases e : 1 ≤ x ∧ x ≤ s
  · exact this x e.1 e.2
  · exact (hc (f + 1)).2 x (by omega)
theorem nf_ids {s : Nat} {B : Sq} (hc : ∀ f, CanF s (B f)) (hn : ∀ k, NoMv s (B k) (B (k + 1))) {f : Nat} (hf : B f = idF) : ∀ d, B (f + d) = idF
  | 0 => hf
  | d + 1 => nf_idn hc hn (nf_ids hc hn hf d)
theorem rev_ne_id {s : Nat} (h2 : 2 ≤ s) : revF s ≠ idF := fun e => by
  have := congrFun e 1
  have e2 : revF s 1 = s + 1 - 1 := if_pos (by omega)
  rw [e2] at this
  have : s + 1 - 1 = 1 := this
  omega
/-- which state of append's loop: m more to look at; mv tells whether the last slide moved -/
def ApI (s m : Nat) (mv : Int32) (B : Sq) : Prop := (∀ k, k + 1 ≠ m → NoMv s (B k) (B (k + 1))) ∧ ((mv = 0 ∧ ∀ k, NoMv s (B k) (B (k + 1))) ∨ (mv = 1 ∧ ∀ k, k + 1 = m → ∃ x2 g, PermOn x2 s ∧ NoMv s (B k) x2 ∧ Slid s x2 g (B m) (B (m + 1))))
theorem ApI.start {s tl : Nat} {B : Sq} {g : Nat → Nat} (hg : PermOn g s) (hn : ∀ k, NoMv s (B k) (B (k + 1))) (hi : ∀ f, tl ≤ f → B f = idF) : ApI s tl 1 (va_up B tl g) := by
  refine ⟨fun k hk => ?_, Or.inr ⟨rfl, fun k hk => ⟨idF, g, (idF_can s).1, NoMv.id, ?_⟩⟩⟩
  · by_cases e : k = tl
    · subst e
      rw [va_up_no (show k + 1 ≠ k by omega), hi (k + 1) (by omega)]
      exact NoMv.id
    · rw [va_up_no e, va_up_no hk]
      exact hn k
  · rw [va_up_at, va_up_no (by omega), hi (tl + 1) (by omega)]
    exact Slid.id hg
theorem ApI.next {s m : Nat} {mv r : Int32} {B : Sq} {F' H' : Nat → Nat} (hc : ∀ f, CanF s (B f)) (h : ApI s (m + 1) mv B) (hmv : mv ≠ 0) (hI : SlI s (B m) (B (m + 1)) F' H') (hno : NoMv s F' H') (hr : (r = 0 ∧ F' = B m ∧ H' = B (m + 1)) ∨ r = 1) : ApI s m r (va_up (va_up B m F') (m + 1) H') := by
  obtain ⟨h1, h2⟩ := h
  have hx : ∃ x2 g, PermOn x2 s ∧ NoMv s (B m) x2 ∧ Slid s x2 g (B (m + 1)) (B (m + 1 + 1)) := by
    rcases h2 with ⟨e, -⟩ | ⟨-, h2⟩
    · exact absurd e hmv
    · exact h2 m rfl
  obtain ⟨x2, g, hx2, hn2, hsl⟩ := hx
  have hdom : NoMv s H' (B (m + 1 + 1)) := domino hx2 (hc (m + 1)).1 hn2 hsl (h1 (m + 1) (by omega)) hI.2.2.1
  have at0 : va_up (va_up B m F') (m + 1) H' m = F' := by rw [va_up_no (by omega), va_up_at]
  have at1 : va_up (va_up B m F') (m + 1) H' (m + 1) = H' := va_up_at
  have ato : ∀ f, f ≠ m → f ≠ m + 1 → va_up (va_up B m F') (m + 1) H' f = B f := fun f q1 q2 => by rw [va_up_no q2, va_up_no q1]
  have hrest : ∀ k, k + 1 ≠ m → NoMv s (va_up (va_up B m F') (m + 1) H' k) (va_up (va_up B m F') (m + 1) H' (k + 1)) := by
    intro k hk
    by_cases e : k = m
    · subst e
      rw [at0, at1]
      exact hno
    · by_cases e2 : k = m + 1
      · subst e2
        rw [at1, ato _ (by omega) (by omega)]
        exact hdom
      · rw [ato k e e2, ato (k + 1) hk (by omega)]
        exact h1 k (by omega)
  refine ⟨hrest, ?_⟩
  rcases hr with ⟨rfl, e1, e2⟩ | rfl
  · refine Or.inl ⟨rfl, fun k => ?_⟩
    by_cases hk : k + 1 = m
    · rw [ato k (by omega) (by omega), hk, at0, e1, ← hk]
      exact h1 k (by omega)
    · exact hrest k hk
  · refine Or.inr ⟨rfl, fun k hk => ⟨B m, B (m + 1), (hc m).1, ?_, ?_⟩⟩
    · rw [ato k (by omega) (by omega), ← hk]
      exact h1 k (by omega)
    · rw [at0, at1]
      exact hI.2.2.1
theorem ApI.all {s m : Nat} {mv : Int32} {B : Sq} (h : ApI s m mv B) (hm : mv = 0 ∨ ∀ k, k + 1 = m → B k = revF s) : ∀ k, NoMv s (B k) (B (k + 1)) := by
  intro k
  by_cases hk : k + 1 = m
  · rcases hm with e | e
    · rcases h.2 with w | w
      · exact w.2 k
      · exact absurd (e.symm.trans w.1) (by decide)
    · rw [e k hk]
      exact NoMv.rev
  · exact h.1 k hk
/-! turned factors -/
def turnS (s : Nat) (A : Sq) : Sq := fun f => turnF s (A f)
theorem turnF_id (s : Nat) : turnF s idF = idF := by
  funext x
  show turnF s idF x = x
  unfold turnF
  by_cases e : 1 ≤ x ∧ x ≤ s
  · rw [if_pos e]
    show s + 1 - (s + 1 - x) = x
    omega
  · rw [if_neg e]
theorem turnF_rev (s : Nat) : turnF s (revF s) = revF s := by
  funext x
  unfold turnF revF
  by_cases e : 1 ≤ x ∧ x ≤ s
  · rw [if_pos e, if_pos e, if_pos (by omega)]
    omega
  · rw [if_neg e, if_neg e]
theorem turnF_turn {s : Nat} {F : Nat → Nat} (h : CanF s F) : turnF s (turnF s F) = F := by
  funext x
  by_cases e : 1 ≤ x ∧ x ≤ s
  · show (if 1 ≤ x ∧ x ≤ s then s + 1 - turnF s F (s + 1 - x) else x) = F x
    rw [if_pos e]
    have e2 : turnF s F (s + 1 - x) = s + 1 - F x := by
      show (if 1 ≤ s + 1 - x ∧ s + 1 - x ≤ s then s + 1 - F (s + 1 - (s + 1 - x)) else s + 1 - x) = _
      rw [if_pos (by omega), show s + 1 - (s + 1 - x) = x by omega]
    have := h.1.1 x e.1 e.2
    rw [e2]
    omega
  · show (if 1 ≤ x ∧ x ≤ s then s + 1 - turnF s F (s + 1 - x) else x) = F x
    rw [if_neg e]
    exact (h.2 x (by omega)).symm
theorem turn_up {s i : Nat} {F : Nat → Nat} (hF : CanF s F) (i1 : 1 ≤ i) (i2 : i < s) (h : Up s F i) : Up s (turnF s F) (s - i) := by
  intro x y x1 x2 y1 y2 ex ey
  unfold turnF at ex ey
  rw [if_pos ⟨x1, x2⟩] at ex
  rw [if_pos ⟨y1, y2⟩] at ey
  have a1 := hF.1.1 (s + 1 - x) (by omega) (by omega)
  have a2 := hF.1.1 (s + 1 - y) (by omega) (by omega)
  have := h (s + 1 - y) (s + 1 - x) (by omega) (by omega) (by omega) (by omega) (by omega) (by omega)
  omega
theorem turn_de {s i : Nat} {F : Nat → Nat} (hF : CanF s F) (i1 : 1 ≤ i) (i2 : i < s) (h : F (i + 1) < F i) : turnF s F (s - i + 1) < turnF s F (s - i) := by
  unfold turnF
  rw [if_pos (by omega), if_pos (by omega), show s + 1 - (s - i + 1) = i by omega, show s + 1 - (s - i) = i + 1 by omega]
  have a1 := hF.1.1 i (by omega) (by omega)
  have a2 := hF.1.1 (i + 1) (by omega) (by omega)
  omega
theorem turn_sw {s i x : Nat} (i1 : 1 ≤ i) (i2 : i < s) (x1 : 1 ≤ x) (x2 : x ≤ s) : s + 1 - sw i x = sw (s - i) (s + 1 - x) := by
  unfold sw
  by_cases e1 : x = i
  · rw [if_pos e1, if_neg (by omega), if_pos (by omega)]
    omega
  · rw [if_neg e1]
    by_cases e2 : x = i + 1
    · rw [if_pos e2, if_pos (by omega)]
      omega
    · rw [if_neg e2, if_neg (by omega), if_neg (by omega)]
theorem turn_mvL {s i : Nat} {F : Nat → Nat} (hF : CanF s F) (i1 : 1 ≤ i) (i2 : i < s) : turnF s (mvL i F) = mvL (s - i) (turnF s F) := by
  funext x
  show turnF s (mvL i F) x = sw (s - i) (turnF s F x)
  unfold turnF
  by_cases e : 1 ≤ x ∧ x ≤ s
  · rw [if_pos e, if_pos e]
    have a1 := hF.1.1 (s + 1 - x) (by omega) (by omega)
    exact turn_sw i1 i2 a1.1 a1.2
  · rw [if_neg e, if_neg e, sw_n (by omega) (by omega)]
theorem turn_mvR {s i : Nat} {F : Nat → Nat} (i1 : 1 ≤ i) (i2 : i < s) : turnF s (mvR i F) = mvR (s - i) (turnF s F) := by
  funext x
  show turnF s (mvR i F) x = turnF s F (sw (s - i) x)
  by_cases e : 1 ≤ x ∧ x ≤ s
  · have h1 := sw_in (i := s - i) (by omega) (show s - i < s by omega) e.1 e.2
    unfold turnF
    rw [if_pos e, if_pos h1]
    show s + 1 - F (sw i (s + 1 - x)) = _
    have t := turn_sw (s := s) (i := i) (x := s + 1 - x) i1 i2 (by omega) (by omega)
    rw [show s + 1 - (s + 1 - x) = x by omega] at t
    have h2 := sw_in i1 i2 (show 1 ≤ s + 1 - x by omega) (show s + 1 - x ≤ s by omega)
    rw [← t, show s + 1 - (s + 1 - sw i (s + 1 - x)) = sw i (s + 1 - x) by omega]
  · rw [sw_n (i := s - i) (by omega) (by omega)]
    unfold turnF
    rw [if_neg e, if_neg e]
theorem turn_ok {s k i : Nat} {A : Sq} (hc : ∀ f, CanF s (A f)) (h : MvOK s A k i) : MvOK s (turnS s A) k (s - i) :=
  ⟨by have := h.2.1; omega, by have := h.1; have := h.2.1; omega, turn_de (hc (k + 1)) h.1 h.2.1 h.2.2.1, turn_up (hc k) h.1 h.2.1 h.2.2.2⟩
theorem turn_mvS {s k i : Nat} {A : Sq} (hc : ∀ f, CanF s (A f)) (i1 : 1 ≤ i) (i2 : i < s) : turnS s (mvS A k i) = mvS (turnS s A) k (s - i) := by
  refine sq_ext fun f => ?_
  show turnF s (mvS A k i f) = _
  by_cases w : f = k
  · subst w
    rw [mvS_k, mvS_k]
    exact turn_mvL (hc f) i1 i2
  · by_cases w2 : f = k + 1
    · subst w2
      rw [mvS_k1, mvS_k1]
      exact turn_mvR i1 i2
    · rw [mvS_o _ w w2, mvS_o _ w w2]
      rfl
theorem Rch.turn {s N : Nat} {A B : Sq} (hc : Can s N A) (h : Rch s N A B) : Rch s N (turnS s A) (turnS s B) := by
  have := h (fun W => Can s N W ∧ Rch s N (turnS s A) (turnS s W)) ⟨hc, Rch.rf⟩ (fun U W q hst => by
    refine ⟨hst.can q.1, ?_⟩
    obtain ⟨k, i, hk, hm, rfl⟩ := hst
    exact q.2.step ⟨k, s - i, hk, turn_ok q.1.1 hm, turn_mvS q.1.1 hm.1 hm.2.1⟩)
  exact this.2
theorem NoMv.turn {s : Nat} {a b : Nat → Nat} (ha : CanF s a) (hb : CanF s b) (h : NoMv s a b) : NoMv s (turnF s a) (turnF s b) := by
  intro i i1 i2 hd hU
  have u := turn_up (turnF_can ha.1) i1 i2 hU
  have d := turn_de (turnF_can hb.1) i1 i2 hd
  rw [turnF_turn ha] at u
  rw [turnF_turn hb] at d
  exact h (s - i) (by omega) (by omega) d u
theorem turnF_inj {s : Nat} {a b : Nat → Nat} (ha : CanF s a) (hb : CanF s b) (h : turnF s a = turnF s b) : a = b := by
  rw [← turnF_turn ha, ← turnF_turn hb, h]
theorem FN.turn {S : Sq} {s m hd tl : Nat} {B : Sq} (hS : ∀ f, CanF s (S f)) (h : FN S s m hd tl B) : FN (turnS s S) s m hd tl (turnS s B) := by
  have hB := h.can hS
  obtain ⟨h1, h2, h3, h4, h5, h6, h7, h8⟩ := h
  refine ⟨h1, h2, ?_, fun k => (h4 k).turn (hB k) (hB (k + 1)), fun f hf => ?_, fun f hf e => h6 f hf ?_, fun f hf => ?_, fun hlt e => h8 hlt ?_⟩
  · have r := h3.turn (pre_can hS)
    have e : turnS s (pre S m) = pre (turnS s S) m := by
      refine sq_ext fun f => ?_
      show turnF s (pre S m f) = pre (turnS s S) m f
      unfold pre
      by_cases q : f < m
      · rw [if_pos q, if_pos q]
        rfl
      · rw [if_neg q, if_neg q]
        exact turnF_id s
    rw [e] at r
    exact r
  · show turnF s (B f) = idF
    rw [h5 f hf, turnF_id]
  · exact turnF_inj (hB f) (idF_can s) (by rw [turnF_id]; exact e)
  · show turnF s (B f) = revF s
    rw [h7 f hf, turnF_rev]
  · exact turnF_inj (hB hd) (revF_can s) (by rw [turnF_rev]; exact e)
theorem FN.congr {S S' : Sq} {s m hd tl : Nat} {B : Sq} (h : FN S s m hd tl B) (e : ∀ q, q < m → S q = S' q) : FN S' s m hd tl B := by
  obtain ⟨h1, h2, h3, h4⟩ := h
  refine ⟨h1, h2, ?_, h4⟩
  have : pre S m = pre S' m := by
    refine sq_ext fun f => ?_
    unfold pre
    by_cases q : f < m
    · rw [if_pos q, if_pos q, e f q]
    · rw [if_neg q, if_neg q]
  rw [← this]
  exact h3
