/-! an empty factor lets the next one pass, by moves -/
def idF : Nat → Nat := fun x => x
/-- what has crossed in a stays crossed behind b -/
def Keeps (s : Nat) (a b : Nat → Nat) : Prop := ∀ p q, 1 ≤ p → p < q → q ≤ s → a q < a p → b (a q) < b (a p)
theorem no_desc_id {b : Nat → Nat} {s : Nat} (hb : PermOn b s) (hd : ∀ i, 1 ≤ i → i < s → ¬ b (i + 1) < b i) : ∀ x, 1 ≤ x → x ≤ s → b x = x := by
  have inc : ∀ i, 1 ≤ i → i < s → b i < b (i + 1) := fun i h1 h2 => by
    have h3 := hd i h1 h2
    rcases Nat.lt_trichotomy (b i) (b (i + 1)) with w | w | w
    · exact w
    · have := hb.2 i (i + 1) h1 (by omega) (by omega) (by omega) w
      omega
    · exact absurd w h3
  have lo : ∀ x, 1 ≤ x → x ≤ s → x ≤ b x := by
    intro x
    induction x with
    | zero => intro h; omega
    | succ x ih =>
      intro h1 h2
      by_cases e : x = 0
      · subst e; exact (hb.1 1 (by omega) h2).1
      · have a1 := ih (by omega) (by omega)
        have a2 := inc x (by omega) (by omega)
        omega
  have hi : ∀ d x, x + d = s → 1 ≤ x → b x + d ≤ s := by
    intro d
    induction d with
    | zero => intro x h1 h2; have := (hb.1 x h2 (by omega)).2; omega
    | succ d ih =>
      intro x h1 h2
      have a1 := ih (x + 1) (by omega) (by omega)
      have a2 := inc x h2 (by omega)
      omega
  intro x h1 h2
  have a1 := lo x h1 h2
  have a2 := hi (s - x) x (by omega) h1
  omega
theorem can_id {s N f : Nat} {A : Sq} (hc : Can s N A) (h : ∀ x, 1 ≤ x → x ≤ s → A f x = x) : A f = idF := by
  funext x
  show A f x = x
  by_cases e : 1 ≤ x ∧ x ≤ s
  · exact h x e.1 e.2
  · exact (hc.1 f).2 x (by omega)
theorem pass_gen {s N k : Nat} (hk : k + 1 < N) : ∀ (n : Nat) (A : Sq) (g : Nat → Nat), Can s N A → mu s A N < n → Keeps s (A k) (A (k + 1)) → (∀ x, A (k + 1) (A k x) = g x) → Rch s N A (va_up (va_up A k g) (k + 1) idF)
  | 0, _, _, _, h, _, _ => by omega
  | n + 1, A, g, hc, h, hK, hg => by
    by_cases hd : ∃ i, 1 ≤ i ∧ i < s ∧ A (k + 1) (i + 1) < A (k + 1) i
    · obtain ⟨i, h1, h2, h3⟩ := hd
      have hok : MvOK s A k i := by
        refine ⟨h1, h2, h3, fun x y x1 x2 y1 y2 ex ey => ?_⟩
        rcases Nat.lt_trichotomy x y with w | w | w
        · exact w
        · subst w; omega
        · have := hK y x y1 w x2 (by omega)
          rw [ex, ey] at this
          omega
      have hst : Step s N A (mvS A k i) := ⟨k, i, hk, hok, rfl⟩
      have hmu := hst.mu hc
      have ih := pass_gen hk n (mvS A k i) g (hst.can hc) (by omega) (by
        rw [mvS_k, mvS_k1]
        intro p q p1 pq q2 hlt
        show A (k + 1) (sw i (sw i (A k q))) < A (k + 1) (sw i (sw i (A k p)))
        rw [sw_sw, sw_sw]
        have hlt' : sw i (A k q) < sw i (A k p) := hlt
        by_cases w : A k q < A k p
        · exact hK p q p1 pq q2 w
        · have hne : A k p ≠ A k q := fun e => by rw [e] at hlt'; omega
          -- then A k p = i, A k q = i + 1
          have : A k p = i ∧ A k q = i + 1 := by
            revert hlt'
            unfold sw
            split <;> split <;> (try split) <;> (try split) <;> omega
          rw [this.1, this.2]
          exact h3) (by
        intro x
        rw [mvS_k, mvS_k1]
        show A (k + 1) (sw i (sw i (A k x))) = g x
        rw [sw_sw]
        exact hg x)
      have e : va_up (va_up (mvS A k i) k g) (k + 1) idF = va_up (va_up A k g) (k + 1) idF := by
        refine sq_ext fun f => ?_
        unfold va_up
        by_cases w : f = k + 1
        · rw [if_pos w, if_pos w]
        · rw [if_neg w, if_neg w]
          by_cases w2 : f = k
          · rw [if_pos w2, if_pos w2]
          · rw [if_neg w2, if_neg w2]
            exact mvS_o A w2 w
      rw [e] at ih
      exact (Rch.one hst).trans ih
    · have hid : A (k + 1) = idF := can_id hc (no_desc_id (hc.1 (k + 1)).1 (fun i h1 h2 w => hd ⟨i, h1, h2, w⟩))
      have hgk : A k = g := by
        funext x
        have := hg x
        rw [hid] at this
        exact this
      have e : va_up (va_up A k g) (k + 1) idF = A := by
        rw [up_same hgk, up_same hid]
      rw [e]
      exact Rch.rf
theorem pass_id {s N k : Nat} {A : Sq} (hc : Can s N A) (hk : k + 1 < N) (hid : A k = idF) : Rch s N A (va_up (va_up A k (A (k + 1))) (k + 1) idF) := by
  refine pass_gen hk (mu s A N + 1) A (A (k + 1)) hc (by omega) (fun p q p1 pq q2 hlt => ?_) (fun x => ?_)
  · rw [hid] at hlt
    have : q < p := hlt
    omega
  · rw [hid]
    rfl
theorem bub {s N : Nat} : ∀ (d t : Nat) (B : Sq), Can s N B → t + d < N → (∀ q, t ≤ q → q < t + d → B q = idF) → Rch s N B (va_up (va_up B (t + d) idF) t (B (t + d)))
  | 0, t, B, _, _, _ => by
    rw [Nat.add_zero, up_up, up_same rfl]
    exact Rch.rf
  | d + 1, t, B, hc, hN, hid => by
    have h1 := pass_id (k := t + d) hc (by omega) (hid (t + d) (by omega) (by omega))
    have hc1 := h1.can hc
    have h2 := bub d t (va_up (va_up B (t + d) (B (t + d + 1))) (t + d + 1) idF) hc1 (by omega) (fun q q1 q2 => by
      show (if q = t + d + 1 then _ else if q = t + d then _ else B q) = idF
      rw [if_neg (by omega), if_neg (by omega)]
      exact hid q q1 (by omega))
    refine h1.trans ?_
    have e : va_up (va_up (va_up (va_up B (t + d) (B (t + d + 1))) (t + d + 1) idF) (t + d) idF) t ((va_up (va_up B (t + d) (B (t + d + 1))) (t + d + 1) idF) (t + d)) = va_up (va_up B (t + (d + 1)) idF) t (B (t + (d + 1))) := by
      have e0 : (va_up (va_up B (t + d) (B (t + d + 1))) (t + d + 1) idF) (t + d) = B (t + d + 1) := by
        unfold va_up
        rw [if_neg (by omega), if_pos rfl]
      rw [e0]
      refine sq_ext fun f => ?_
      unfold va_up
      by_cases w : f = t
      · rw [if_pos w, if_pos w]
        rfl
      · rw [if_neg w, if_neg w]
        by_cases w2 : f = t + d
        · rw [if_pos w2, if_neg (by omega)]
          exact (hid f (by omega) (by omega)).symm
        · rw [if_neg w2]
          by_cases w3 : f = t + d + 1
          · rw [if_pos w3, if_pos (by omega)]
          · rw [if_neg w3, if_neg w2, if_neg (by omega)]
    rw [← e]
    exact h2
