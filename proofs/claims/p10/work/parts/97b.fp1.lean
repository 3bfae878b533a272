/-! slides: moves at one pair of factors; the domino rule -/
def CanF (s : Nat) (F : Nat → Nat) : Prop := PermOn F s ∧ ∀ x, (x < 1 ∨ s < x) → F x = x
def NoMv (s : Nat) (a b : Nat → Nat) : Prop := ∀ i, 1 ≤ i → i < s → b (i + 1) < b i → ¬ Up s a i
def NoBl (s n : Nat) (a b : Nat → Nat) : Prop := ∀ i, 1 ≤ i → i < n → i < s → b (i + 1) < b i → ¬ Up s a i
def Slid (s : Nat) (F H F' H' : Nat → Nat) : Prop := ∃ u : Nat → Nat, PermOn u s ∧ (∀ x, F' x = u (F x)) ∧ (∀ x, H x = H' (u x)) ∧ Keeps s F u ∧ Keeps s u H'
theorem Slid.rf {s : Nat} {F H : Nat → Nat} : Slid s F H F H := ⟨idF, (idF_can s).1, fun _ => rfl, fun _ => rfl, fun _ _ _ _ _ h => h, fun p q _ h _ h2 => absurd (show q < p from h2) (by omega)⟩
theorem Slid.step {s i : Nat} {F H F' H' : Nat → Nat} (h : Slid s F H F' H') (i1 : 1 ≤ i) (i2 : i < s) (hU : Up s F' i) (hd : H' (i + 1) < H' i) : Slid s F H (mvL i F') (mvR i H') := by
  obtain ⟨u, hu, e1, e2, k1, k2⟩ := h
  refine ⟨fun x => sw i (u x), mvL_perm hu i1 i2, fun x => ?_, fun x => ?_, fun p q p1 pq q2 hl => ?_, fun p q p1 pq q2 hl => ?_⟩
  · show sw i (F' x) = _
    rw [e1]
  · show H x = H' (sw i (sw i (u x)))
    rw [sw_sw]
    exact e2 x
  · show sw i (u (F q)) < sw i (u (F p))
    have l := k1 p q p1 pq q2 hl
    rw [← e1 q, ← e1 p] at l ⊢
    have hno : ¬ (F' q = i ∧ F' p = i + 1) := fun w => by
      have := hU q p (by omega) q2 p1 (by omega) w.1 w.2
      omega
    generalize F' q = a at l hno ⊢
    generalize F' p = b at l hno ⊢
    unfold sw
    split <;> split <;> (try split) <;> (try split) <;> omega
  · show H' (sw i (sw i (u q))) < H' (sw i (sw i (u p)))
    rw [sw_sw, sw_sw]
    have hl' : sw i (u q) < sw i (u p) := hl
    by_cases w : u q < u p
    · exact k2 p q p1 pq q2 w
    · have : u p = i ∧ u q = i + 1 := by
        revert hl'
        unfold sw
        split <;> split <;> (try split) <;> (try split) <;> omega
      rw [this.1, this.2]
      exact hd
/-- .. and the row of factors moves so -/
def RchP (s : Nat) (F H F' H' : Nat → Nat) : Prop := ∀ (N j : Nat) (A : Sq), j + 1 < N → A j = F → A (j + 1) = H → Rch s N A (va_up (va_up A j F') (j + 1) H')
theorem RchP.rf {s : Nat} {F H : Nat → Nat} : RchP s F H F H := fun N j A _ h1 h2 => by
  rw [up_same h1, up_same h2]
  exact Rch.rf
theorem RchP.step {s i : Nat} {F H F' H' : Nat → Nat} (h : RchP s F H F' H') (i1 : 1 ≤ i) (i2 : i < s) (hU : Up s F' i) (hd : H' (i + 1) < H' i) : RchP s F H (mvL i F') (mvR i H') := by
  intro N j A hj h1 h2
  refine (h N j A hj h1 h2).step ⟨j, i, hj, ?_, ?_⟩
  · refine ⟨i1, i2, ?_, ?_⟩
    · rw [va_up_at]
      exact hd
    · rw [va_up_no (by omega), va_up_at]
      exact hU
  · refine sq_ext fun f => ?_
    by_cases w : f = j
    · subst w
      rw [mvS_k, va_up_no (by omega), va_up_at, va_up_no (by omega), va_up_at]
    · by_cases w2 : f = j + 1
      · subst w2
        rw [mvS_k1, va_up_at, va_up_at]
      · rw [mvS_o _ w w2, va_up_no w2, va_up_no w, va_up_no w2, va_up_no w]
theorem up_back {s i j : Nat} {a : Nat → Nat} (h : Up s (mvL i a) j) (hij : i + 2 ≤ j ∨ j + 2 ≤ i) : Up s a j := by
  have h2 := up_move h hij
  have e : mvL i (mvL i a) = a := by
    funext x
    show sw i (sw i (a x)) = a x
    rw [sw_sw]
  rw [e] at h2
  exact h2
theorem NoBl.move {s n : Nat} {a b : Nat → Nat} (h : NoBl s n a b) : NoBl s (n - 1) (mvL n a) (mvR n b) := by
  intro i i1 i2 i3 hd hU
  refine h i i1 (by omega) i3 ?_ (up_back hU (by omega))
  have hd' : b (sw n (i + 1)) < b (sw n i) := hd
  rw [sw_n (by omega) (by omega), sw_n (by omega) (by omega)] at hd'
  exact hd'
theorem NoBl.more {s n m : Nat} {a b : Nat → Nat} (h : NoBl s n a b) (hm : m ≤ n) : NoBl s m a b := fun i i1 i2 i3 => h i i1 (by omega) i3
theorem NoBl.next {s n : Nat} {a b : Nat → Nat} (h : NoBl s n a b) (hn : b (n + 1) < b n → ¬ Up s a n) : NoBl s (n + 1) a b := by
  intro i i1 i2 i3 hd hU
  by_cases e : i = n
  · subst e
    exact hn hd hU
  · exact h i i1 (by omega) i3 hd hU
theorem NoBl.all {s n : Nat} {a b : Nat → Nat} (h : NoBl s n a b) (hn : s ≤ n) : NoMv s a b := fun i i1 i2 => h i i1 (by omega) i2
theorem NoBl.one {s : Nat} {a b : Nat → Nat} : NoBl s 1 a b := fun i i1 i2 => absurd i1 (by omega)
theorem NoMv.id {s : Nat} {a : Nat → Nat} : NoMv s a idF := fun i _ _ h => absurd (show i + 1 < i from h) (by omega)
theorem NoMv.rev {s : Nat} {b : Nat → Nat} : NoMv s (revF s) b := by
  intro i i1 i2 _ hU
  have := hU (s + 1 - i) (s - i) (by omega) (by omega) (by omega) (by omega) (by unfold revF; rw [if_pos (by omega)]; omega) (by unfold revF; rw [if_pos (by omega)]; omega)
  omega
theorem Slid.id {s : Nat} {g : Nat → Nat} (hg : PermOn g s) : Slid s idF g g idF := ⟨g, hg, fun _ => rfl, fun _ => rfl, fun p q _ h _ h2 => absurd (show q < p from h2) (by omega), fun _ _ _ _ _ h => h⟩
/-- x1 x2 have no move; x2 g slides to y1 y2, x1 y1 to z1 z2: then z2 y2 have none -/
theorem domino {s : Nat} {x1 x2 g y1 y2 z1 z2 : Nat → Nat} (hx2 : PermOn x2 s) (hy : PermOn y1 s) (h12 : NoMv s x1 x2) (hs1 : Slid s x2 g y1 y2) (hy12 : NoMv s y1 y2) (hs2 : Slid s x1 y1 z1 z2) : NoMv s z2 y2 := by
  intro i i1 i2 hd hU
  obtain ⟨b, hb, b1, b2, kb1, kb2⟩ := hs1
  obtain ⟨a, ha, a1, a2, ka1, ka2⟩ := hs2
  obtain ⟨p, p1, p2, ep⟩ := perm_surj hy (show 1 ≤ i + 1 by omega) (show i + 1 ≤ s by omega)
  obtain ⟨q, q1, q2, eq⟩ := perm_surj hy i1 (show i ≤ s by omega)
  have pq : p < q := by
    rcases Nat.lt_trichotomy p q with w | w | w
    · exact w
    · subst w; omega
    · refine (hy12 i i1 i2 hd fun x y x1 x2 y1 y2 ex ey => ?_).elim
      have e1 := hy.2 x q x1 x2 q1 q2 (ex.trans eq.symm)
      have e2 := hy.2 y p y1 y2 p1 p2 (ey.trans ep.symm)
      omega
  have ra := ha.1
  have hap : a q < a p := hU (a q) (a p) (ra q q1 q2).1 (ra q q1 q2).2 (ra p p1 p2).1 (ra p p1 p2).2 ((a2 q).symm.trans eq) ((a2 p).symm.trans ep)
  have hxp : x2 q < x2 p := by
    rcases Nat.lt_trichotomy (x2 q) (x2 p) with w | w | w
    · exact w
    · have := hx2.2 q p q1 q2 p1 p2 w
      omega
    · have l := kb2 (x2 p) (x2 q) (hx2.1 p p1 p2).1 w (hx2.1 q q1 q2).2 (by have r1 := b1 q; have r2 := b1 p; omega)
      rw [← b1, ← b1, ep, eq] at l
      omega
  have kd : ∀ r, p ≤ r → r ≤ q → (a r ≤ a q ∧ x2 r ≤ x2 q) ∨ (a q < a r ∧ x2 q < x2 r) := by
    intro r r1 r2
    by_cases hr : y1 r ≤ i
    · left
      by_cases e : r = q
      · subst e; exact ⟨Nat.le_refl _, Nat.le_refl _⟩
      · refine ⟨Nat.le_of_not_lt fun w => ?_, Nat.le_of_not_lt fun w => ?_⟩
        · have l := ka2 r q (by omega) (by omega) q2 w
          rw [← a2, ← a2, eq] at l
          omega
        · have l := kb1 r q (by omega) (by omega) q2 w
          rw [← b1, ← b1, eq] at l
          omega
    · right
      by_cases e : r = p
      · subst e; exact ⟨hap, hxp⟩
      · refine ⟨Nat.lt_of_lt_of_le hap (Nat.le_of_not_lt fun w => ?_), Nat.lt_of_lt_of_le hxp (Nat.le_of_not_lt fun w => ?_)⟩
        · have l := ka2 p r p1 (by omega) (by omega) w
          rw [← a2, ← a2, ep] at l
          omega
        · have l := kb1 p r p1 (by omega) (by omega) w
          rw [← b1, ← b1, ep] at l
          omega
  obtain ⟨t, t1, t2, e1, e2⟩ : ∃ t, 1 ≤ t ∧ t < s ∧ a (t + 1) < a t ∧ x2 (t + 1) < x2 t := by
    refine Classical.byContradiction fun hno => ?_
    have all : ∀ d, p + d ≤ q → a q < a (p + d) ∧ x2 q < x2 (p + d) := by
      intro d
      induction d with
      | zero => intro _; exact ⟨hap, hxp⟩
      | succ d ih =>
        intro hd
        have i1 := ih (by omega)
        rcases kd (p + d + 1) (by omega) (by omega) with w | w
        · exact absurd ⟨p + d, by omega, by omega, by omega, by omega⟩ hno
        · exact w
    have := (all (q - p) (by omega)).1
    rw [show p + (q - p) = q by omega] at this
    omega
  refine h12 t t1 t2 e2 fun x y hx1 hx2 hy1 hy2 ex ey => ?_
  rcases Nat.lt_trichotomy x y with w | w | w
  · exact w
  · subst w; omega
  · have l := ka1 y x hy1 w hx2 (by omega)
    rw [ex, ey] at l
    omega
