/-! moves of crossings between neighbouring factors: they end, and meet again -/
abbrev Sq : Type := Nat → Nat → Nat
/-- all factors are permutations of 1 .. s, and nothing beyond; from N on they are empty -/
def Can (s N : Nat) (A : Sq) : Prop := (∀ f, PermOn (A f) s ∧ ∀ x, (x < 1 ∨ s < x) → A f x = x) ∧ ∀ f, N ≤ f → ∀ x, A f x = x
def Up (s : Nat) (a : Nat → Nat) (i : Nat) : Prop := ∀ x y, 1 ≤ x → x ≤ s → 1 ≤ y → y ≤ s → a x = i → a y = i + 1 → x < y
def mvL (i : Nat) (a : Nat → Nat) : Nat → Nat := fun z => sw i (a z)
def mvR (i : Nat) (b : Nat → Nat) : Nat → Nat := fun z => b (sw i z)
def mvS (A : Sq) (k i : Nat) : Sq := va_up (va_up A k (mvL i (A k))) (k + 1) (mvR i (A (k + 1)))
def MvOK (s : Nat) (A : Sq) (k i : Nat) : Prop := 1 ≤ i ∧ i < s ∧ A (k + 1) (i + 1) < A (k + 1) i ∧ Up s (A k) i
def Step (s N : Nat) (A B : Sq) : Prop := ∃ k i, k + 1 < N ∧ MvOK s A k i ∧ B = mvS A k i
def Rch (s N : Nat) (A B : Sq) : Prop := ∀ P : Sq → Prop, P A → (∀ U W, P U → Step s N U W → P W) → P B
def Nf (s N : Nat) (A : Sq) : Prop := ∀ k i, k + 1 < N → ¬ MvOK s A k i
theorem Rch.rf {s N : Nat} {A : Sq} : Rch s N A A := fun _ h _ => h
theorem Rch.step {s N : Nat} {A B C : Sq} (h : Rch s N A B) (h2 : Step s N B C) : Rch s N A C := fun P h0 hs => hs B C (h P h0 hs) h2
theorem Rch.trans {s N : Nat} {A B C : Sq} (h : Rch s N A B) (h2 : Rch s N B C) : Rch s N A C := h2 (fun W => Rch s N A W) h (fun _ _ q w => q.step w)
theorem Rch.one {s N : Nat} {A B : Sq} (h : Step s N A B) : Rch s N A B := Rch.rf.step h
theorem Rch.head {s N : Nat} {A B : Sq} (h : Rch s N A B) : B = A ∨ ∃ A1, Step s N A A1 ∧ Rch s N A1 B := by
  refine h (fun W => W = A ∨ ∃ A1, Step s N A A1 ∧ Rch s N A1 W) (Or.inl rfl) (fun U W hU hs => ?_)
  rcases hU with e | ⟨A1, h1, h2⟩
  · subst e
    exact Or.inr ⟨W, hs, Rch.rf⟩
  · exact Or.inr ⟨A1, h1, h2.step hs⟩
theorem sw_out {i x s : Nat} (h1 : 1 ≤ i) (h2 : i < s) (hx : x < 1 ∨ s < x) : sw i x = x := sw_n (by omega) (by omega)
theorem mvL_can {s i : Nat} {a : Nat → Nat} (h1 : 1 ≤ i) (h2 : i < s) (h : PermOn a s ∧ ∀ x, (x < 1 ∨ s < x) → a x = x) : PermOn (mvL i a) s ∧ ∀ x, (x < 1 ∨ s < x) → mvL i a x = x := by
  refine ⟨⟨fun p hp1 hp2 => ?_, fun p q hp1 hp2 hq1 hq2 e => h.1.2 p q hp1 hp2 hq1 hq2 (sw_inj e)⟩, fun x hx => ?_⟩
  · have := h.1.1 p hp1 hp2
    exact sw_in h1 h2 this.1 this.2
  · show sw i (a x) = x
    rw [h.2 x hx, sw_out h1 h2 hx]
theorem mvR_can {s i : Nat} {b : Nat → Nat} (h1 : 1 ≤ i) (h2 : i < s) (h : PermOn b s ∧ ∀ x, (x < 1 ∨ s < x) → b x = x) : PermOn (mvR i b) s ∧ ∀ x, (x < 1 ∨ s < x) → mvR i b x = x := by
  refine ⟨⟨fun p hp1 hp2 => ?_, fun p q hp1 hp2 hq1 hq2 e => ?_⟩, fun x hx => ?_⟩
  · have := sw_in h1 h2 hp1 hp2
    exact h.1.1 _ this.1 this.2
  · have a1 := sw_in h1 h2 hp1 hp2
    have a2 := sw_in h1 h2 hq1 hq2
    exact sw_inj (h.1.2 _ _ a1.1 a1.2 a2.1 a2.2 e)
  · show b (sw i x) = x
    rw [sw_out h1 h2 hx, h.2 x hx]
theorem mvS_k (A : Sq) (k i : Nat) : mvS A k i k = mvL i (A k) := by
  unfold mvS va_up
  rw [if_neg (by omega), if_pos rfl]
theorem mvS_k1 (A : Sq) (k i : Nat) : mvS A k i (k + 1) = mvR i (A (k + 1)) := by
  unfold mvS va_up
  rw [if_pos rfl]
theorem mvS_o (A : Sq) {k i f : Nat} (h1 : f ≠ k) (h2 : f ≠ k + 1) : mvS A k i f = A f := by
  unfold mvS va_up
  rw [if_neg h2, if_neg h1]
theorem mvS_can {s N k i : Nat} {A : Sq} (h : Can s N A) (hk : k + 1 < N) (h1 : 1 ≤ i) (h2 : i < s) : Can s N (mvS A k i) := by
  refine ⟨fun f => ?_, fun f hf x => ?_⟩
  · by_cases e : f = k
    · subst e; rw [mvS_k]; exact mvL_can h1 h2 (h.1 f)
    · by_cases e2 : f = k + 1
      · subst e2; rw [mvS_k1]; exact mvR_can h1 h2 (h.1 (k + 1))
      · rw [mvS_o A e e2]; exact h.1 f
  · rw [mvS_o A (by omega) (by omega)]; exact h.2 f hf x
theorem Step.can {s N : Nat} {A B : Sq} (h : Can s N A) (hs : Step s N A B) : Can s N B := by
  obtain ⟨k, i, hk, hm, rfl⟩ := hs
  exact mvS_can h hk hm.1 hm.2.1
theorem Rch.can {s N : Nat} {A B : Sq} (h : Can s N A) (hs : Rch s N A B) : Can s N B := hs (fun W => Can s N W) h (fun _ _ q w => w.can q)
/-- a sum that a move makes less -/
def phi (a : Nat → Nat) : Nat → Nat
  | 0 => 0
  | x + 1 => phi a x + (x + 1) * a (x + 1)
theorem phi_congr {a b : Nat → Nat} : ∀ t, (∀ x, 1 ≤ x → x ≤ t → a x = b x) → phi a t = phi b t
  | 0, _ => rfl
  | t + 1, h => by
    unfold phi
    rw [phi_congr t (fun x h1 h2 => h x h1 (by omega)), h (t + 1) (by omega) (Nat.le_refl _)]
theorem phi_mvR {b : Nat → Nat} {i : Nat} (h1 : 1 ≤ i) : ∀ t, i + 1 ≤ t → phi (mvR i b) t + b (i + 1) = phi b t + b i
  | 0, h => by omega
  | t + 1, h => by
    by_cases e : t = i
    · subst e
      obtain ⟨m, rfl⟩ : ∃ m, t = m + 1 := ⟨t - 1, by omega⟩
      have e1 : phi (mvR (m + 1) b) m = phi b m := phi_congr m (fun x h1 h2 => by show b (sw (m + 1) x) = b x; rw [sw_n (by omega) (by omega)])
      have e2 : mvR (m + 1) b (m + 1) = b (m + 1 + 1) := by show b (sw _ _) = _; rw [sw_l]
      have e3 : mvR (m + 1) b (m + 1 + 1) = b (m + 1) := by show b (sw _ _) = _; rw [sw_r]
      show phi (mvR (m + 1) b) m + (m + 1) * mvR (m + 1) b (m + 1) + (m + 1 + 1) * mvR (m + 1) b (m + 1 + 1) + b (m + 1 + 1) = phi b m + (m + 1) * b (m + 1) + (m + 1 + 1) * b (m + 1 + 1) + b (m + 1)
      rw [e1, e2, e3]
      have f1 : (m + 1 + 1) * b (m + 1) = (m + 1) * b (m + 1) + b (m + 1) := Nat.succ_mul _ _
      have f2 : (m + 1 + 1) * b (m + 1 + 1) = (m + 1) * b (m + 1 + 1) + b (m + 1 + 1) := Nat.succ_mul _ _
      omega
    · have ih := phi_mvR (b := b) h1 t (by omega)
      have e3 : mvR i b (t + 1) = b (t + 1) := by show b (sw _ _) = _; rw [sw_n (by omega) (by omega)]
      unfold phi
      rw [e3]
      omega
theorem phi_mvL {a : Nat → Nat} {i x y s : Nat} (ha : PermOn a s) (hx1 : 1 ≤ x) (hx2 : x ≤ s) (hy1 : 1 ≤ y) (hy2 : y ≤ s) (hx : a x = i) (hy : a y = i + 1) : ∀ t, t ≤ s → phi (mvL i a) t + (if y ≤ t then y else 0) = phi a t + (if x ≤ t then x else 0)
  | 0, _ => by rw [if_neg (by omega), if_neg (by omega)]; rfl
  | t + 1, h => by
    have ih := phi_mvL ha hx1 hx2 hy1 hy2 hx hy t (by omega)
    have hxy : x ≠ y := fun e => by subst e; omega
    unfold phi
    by_cases e1 : t + 1 = x
    · have e3 : mvL i a (t + 1) = i + 1 := by show sw i (a (t + 1)) = _; rw [e1, hx, sw_l]
      rw [e3, show a (t + 1) = i by rw [e1]; exact hx]
      have f1 : (t + 1) * (i + 1) = (t + 1) * i + (t + 1) := Nat.mul_succ _ _
      rw [if_pos (show x ≤ t + 1 by omega)]
      rw [if_neg (show ¬ x ≤ t by omega)] at ih
      by_cases q : y ≤ t
      · rw [if_pos q] at ih; rw [if_pos (by omega)]; omega
      · rw [if_neg q] at ih; rw [if_neg (by omega)]; omega
    · by_cases e2 : t + 1 = y
      · have e3 : mvL i a (t + 1) = i := by show sw i (a (t + 1)) = _; rw [e2, hy, sw_r]
        rw [e3, show a (t + 1) = i + 1 by rw [e2]; exact hy]
        have f1 : (t + 1) * (i + 1) = (t + 1) * i + (t + 1) := Nat.mul_succ _ _
        rw [if_pos (show y ≤ t + 1 by omega)]
        rw [if_neg (show ¬ y ≤ t by omega)] at ih
        by_cases q : x ≤ t
        · rw [if_pos q] at ih; rw [if_pos (by omega)]; omega
        · rw [if_neg q] at ih; rw [if_neg (by omega)]; omega
      · have e3 : mvL i a (t + 1) = a (t + 1) := by
          show sw i (a (t + 1)) = _
          rw [sw_n]
          · exact fun w => e1 (ha.2 _ _ (by omega) h hx1 hx2 (w.trans hx.symm))
          · exact fun w => e2 (ha.2 _ _ (by omega) h hy1 hy2 (w.trans hy.symm))
        rw [e3]
        by_cases q : x ≤ t <;> by_cases q2 : y ≤ t
        · rw [if_pos q, if_pos q2] at ih; rw [if_pos (by omega), if_pos (by omega)]; omega
        · rw [if_pos q, if_neg q2] at ih; rw [if_neg (show ¬ y ≤ t + 1 by omega), if_pos (show x ≤ t + 1 by omega)]; omega
        · rw [if_neg q, if_pos q2] at ih; rw [if_pos (show y ≤ t + 1 by omega), if_neg (show ¬ x ≤ t + 1 by omega)]; omega
        · rw [if_neg q, if_neg q2] at ih; rw [if_neg (by omega), if_neg (by omega)]; omega
/-- the measure of a row of factors: less by every move -/
def psi (s : Nat) (a : Nat → Nat) : Nat := s * s * s - phi a s
theorem phi_le {a : Nat → Nat} {s : Nat} (h : ∀ x, 1 ≤ x → x ≤ s → a x ≤ s) : ∀ t, t ≤ s → phi a t ≤ t * (s * s)
  | 0, _ => by simp [phi]
  | t + 1, ht => by
    have ih := phi_le h t (by omega)
    have h1 := h (t + 1) (by omega) ht
    have h2 : (t + 1) * a (t + 1) ≤ s * s := Nat.mul_le_mul ht h1
    have e : (t + 1) * (s * s) = t * (s * s) + s * s := Nat.succ_mul _ _
    unfold phi
    omega
theorem phi_le3 {a : Nat → Nat} {s : Nat} (h : PermOn a s) : phi a s ≤ s * s * s := by
  have := phi_le (a := a) (s := s) (fun x h1 h2 => (h.1 x h1 h2).2) s (Nat.le_refl _)
  rw [Nat.mul_assoc]
  exact this
theorem psi_mvR {b : Nat → Nat} {s i : Nat} (hb : PermOn b s) (h1 : 1 ≤ i) (h2 : i < s) (h : b (i + 1) < b i) : psi s (mvR i b) + 1 ≤ psi s b := by
  have e := phi_mvR (b := b) h1 s (by omega)
  have hp : PermOn (mvR i b) s := by
    refine ⟨fun p hp1 hp2 => ?_, fun p q hp1 hp2 hq1 hq2 e => ?_⟩
    · have := sw_in h1 h2 hp1 hp2
      exact hb.1 _ this.1 this.2
    · have a1 := sw_in h1 h2 hp1 hp2
      have a2 := sw_in h1 h2 hq1 hq2
      exact sw_inj (hb.2 _ _ a1.1 a1.2 a2.1 a2.2 e)
  have l1 := phi_le3 hb
  have l2 := phi_le3 hp
  unfold psi
  omega
theorem psi_mvL {a : Nat → Nat} {s i : Nat} (ha : PermOn a s) (h1 : 1 ≤ i) (h2 : i < s) : psi s (mvL i a) ≤ psi s a + s := by
  obtain ⟨x, hx1, hx2, hx⟩ := perm_surj ha h1 (show i ≤ s by omega)
  obtain ⟨y, hy1, hy2, hy⟩ := perm_surj ha (show 1 ≤ i + 1 by omega) (show i + 1 ≤ s by omega)
  have e := phi_mvL ha hx1 hx2 hy1 hy2 hx hy s (Nat.le_refl _)
  rw [if_pos hy2, if_pos hx2] at e
  unfold psi
  omega
def mu (s : Nat) (A : Sq) : Nat → Nat
  | 0 => 0
  | n + 1 => mu s A n + (s + 1) ^ n * psi s (A n)
theorem pw_pos (s : Nat) : ∀ k, 0 < (s + 1) ^ k
  | 0 => by simp
  | k + 1 => by
    rw [Nat.pow_succ]
    exact Nat.mul_pos (pw_pos s k) (by omega)
theorem mu_congr {s : Nat} {A B : Sq} : ∀ n, (∀ f, f < n → A f = B f) → mu s A n = mu s B n
  | 0, _ => rfl
  | n + 1, h => by
    unfold mu
    rw [mu_congr n (fun f hf => h f (by omega)), h n (by omega)]
theorem mu_step {s N : Nat} {A : Sq} {k i : Nat} (hc : Can s N A) (hm : MvOK s A k i) : ∀ n, k + 2 ≤ n → mu s (mvS A k i) n < mu s A n
  | 0, h => by omega
  | n + 1, h => by
    by_cases e : n = k + 1
    · subst e
      show mu s (mvS A k i) k + (s + 1) ^ k * psi s (mvS A k i k) + (s + 1) ^ (k + 1) * psi s (mvS A k i (k + 1)) < mu s A k + (s + 1) ^ k * psi s (A k) + (s + 1) ^ (k + 1) * psi s (A (k + 1))
      rw [mu_congr (B := A) k (fun f hf => mvS_o A (by omega) (by omega)), mvS_k, mvS_k1]
      have p1 := psi_mvR (hc.1 (k + 1)).1 hm.1 hm.2.1 hm.2.2.1
      have p2 := psi_mvL (hc.1 k).1 hm.1 hm.2.1
      have q1 : (s + 1) ^ k * psi s (mvL i (A k)) ≤ (s + 1) ^ k * psi s (A k) + (s + 1) ^ k * s := by
        rw [← Nat.mul_add]
        exact Nat.mul_le_mul_left _ p2
      have q2 : (s + 1) ^ (k + 1) * psi s (mvR i (A (k + 1))) + (s + 1) ^ (k + 1) ≤ (s + 1) ^ (k + 1) * psi s (A (k + 1)) := by
        rw [← Nat.mul_succ]
        exact Nat.mul_le_mul_left _ p1
      have q3 : (s + 1) ^ (k + 1) = (s + 1) ^ k * s + (s + 1) ^ k := by rw [Nat.pow_succ, Nat.mul_succ]
      have q4 : 0 < (s + 1) ^ k := pw_pos s k
      omega
    · have ih := mu_step hc hm n (by omega)
      unfold mu
      rw [mvS_o A (show n ≠ k by omega) e]
      omega
theorem Step.mu {s N : Nat} {A B : Sq} (hc : Can s N A) (h : Step s N A B) : mu s B N < mu s A N := by
  obtain ⟨k, i, hk, hm, rfl⟩ := h
  exact mu_step hc hm N (by omega)
theorem nf_ex {s N : Nat} : ∀ (n : Nat) (A : Sq), Can s N A → mu s A N < n → ∃ B, Rch s N A B ∧ Nf s N B
  | 0, _, _, h => by omega
  | n + 1, A, hc, h => by
    by_cases q : ∃ B, Step s N A B
    · obtain ⟨B, hs⟩ := q
      have := hs.mu hc
      obtain ⟨C, h1, h2⟩ := nf_ex n B (hs.can hc) (by omega)
      exact ⟨C, (Rch.one hs).trans h1, h2⟩
    · exact ⟨A, Rch.rf, fun k i hk hm => q ⟨_, k, i, hk, hm, rfl⟩⟩
theorem sw_comm {i j x : Nat} (h : i + 2 ≤ j ∨ j + 2 ≤ i) : sw i (sw j x) = sw j (sw i x) := by
  unfold sw
  split <;> split <;> (try split) <;> (try split) <;> (try split) <;> (try split) <;> omega
theorem sw_braid (i x : Nat) : sw i (sw (i + 1) (sw i x)) = sw (i + 1) (sw i (sw (i + 1) x)) := by
  by_cases h1 : x = i
  · subst h1
    rw [sw_l, sw_l, sw_n (i := x) (x := x + 1 + 1) (by omega) (by omega), sw_n (i := x + 1) (x := x) (by omega) (by omega), sw_l, sw_l]
  · by_cases h2 : x = i + 1
    · subst h2
      rw [sw_r, sw_n (i := i + 1) (x := i) (by omega) (by omega), sw_l, sw_l, sw_n (i := i) (x := i + 1 + 1) (by omega) (by omega), sw_r]
    · by_cases h3 : x = i + 1 + 1
      · subst h3
        rw [sw_n (i := i) (x := i + 1 + 1) (by omega) (by omega), sw_r, sw_r, sw_n (i := i + 1) (x := i) (by omega) (by omega)]
      · rw [sw_n (i := i) h1 h2, sw_n (i := i + 1) h2 h3, sw_n (i := i) h1 h2]
        exact (sw_n (i := i + 1) h2 h3).symm
theorem up_move {s i j : Nat} {a : Nat → Nat} (h : Up s a j) (hij : i + 2 ≤ j ∨ j + 2 ≤ i) : Up s (mvL i a) j := by
  intro x y h1 h2 h3 h4 e1 e2
  have f1 : a x = j := by
    have := congrArg (sw i) (show sw i (a x) = j from e1)
    rw [sw_sw, sw_n (by omega) (by omega)] at this
    exact this
  have f2 : a y = j + 1 := by
    have := congrArg (sw i) (show sw i (a y) = j + 1 from e2)
    rw [sw_sw, sw_n (by omega) (by omega)] at this
    exact this
  exact h x y h1 h2 h3 h4 f1 f2
theorem up_inv {i q : Nat} {a : Nat → Nat} {x : Nat} (e : mvL i a x = q) : a x = sw i q := by
  have := congrArg (sw i) (show sw i (a x) = q from e)
  rw [sw_sw] at this
  exact this
theorem sq_ext {A B : Sq} (h : ∀ f, A f = B f) : A = B := funext h
/-- two moves at one place, or at two: they meet again -/
theorem meet {s N : Nat} {A : Sq} {k i l j : Nat} (hc : Can s N A) (hk : k + 1 < N) (hl : l + 1 < N) (h1 : MvOK s A k i) (h2 : MvOK s A l j) (hkl : k ≤ l) (hij : k = l → i ≤ j) : ∃ D, Rch s N (mvS A k i) D ∧ Rch s N (mvS A l j) D := by
  by_cases e : k = l
  · subst e
    have hij := hij rfl
    by_cases e2 : i = j
    · subst e2
      exact ⟨_, Rch.rf, Rch.rf⟩
    · by_cases e3 : j = i + 1
      · subst e3
        -- i, i+1 at one place
        have pA := hc.1 k
        have pB := hc.1 (k + 1)
        obtain ⟨x, hx1, hx2, hx⟩ := perm_surj pA.1 h1.1 (show i ≤ s by have := h1.2.1; omega)
        obtain ⟨y, hy1, hy2, hy⟩ := perm_surj pA.1 (show 1 ≤ i + 1 by omega) (show i + 1 ≤ s by have := h1.2.1; omega)
        obtain ⟨z, hz1, hz2, hz⟩ := perm_surj pA.1 (show 1 ≤ i + 1 + 1 by omega) (show i + 1 + 1 ≤ s by have := h2.2.1; omega)
        have lxy := h1.2.2.2 x y hx1 hx2 hy1 hy2 hx hy
        have lyz := h2.2.2.2 y z hy1 hy2 hz1 hz2 hy hz
        have b1 := h1.2.2.1
        have b2 := h2.2.2.1
        have uni : ∀ {p q : Nat}, 1 ≤ p → p ≤ s → 1 ≤ q → q ≤ s → A k p = A k q → p = q := fun a b c d e => pA.1.2 _ _ a b c d e
        -- i, then i+1, then i
        have m1 : MvOK s (mvS A k i) k (i + 1) := by
          refine ⟨by omega, h2.2.1, ?_, ?_⟩
          · rw [mvS_k1]
            show A (k + 1) (sw i (i + 1 + 1)) < A (k + 1) (sw i (i + 1))
            rw [sw_r, sw_n (by omega) (by omega)]
            omega
          · rw [mvS_k]
            intro p q p1 p2 q1 q2 ep eq
            have e1 := up_inv ep
            have e2 := up_inv eq
            rw [sw_r] at e1
            rw [sw_n (by omega) (by omega)] at e2
            have := uni p1 p2 hx1 hx2 (e1.trans hx.symm)
            have := uni q1 q2 hz1 hz2 (e2.trans hz.symm)
            omega
        have m2 : MvOK s (mvS (mvS A k i) k (i + 1)) k i := by
          refine ⟨h1.1, h1.2.1, ?_, ?_⟩
          · rw [mvS_k1, mvS_k1]
            show A (k + 1) (sw i (sw (i + 1) (i + 1))) < A (k + 1) (sw i (sw (i + 1) i))
            rw [sw_l, sw_n (i := i) (x := i + 1 + 1) (by omega) (by omega), sw_n (i := i + 1) (x := i) (by omega) (by omega), sw_l]
            exact b2
          · rw [mvS_k, mvS_k]
            intro p q p1 p2 q1 q2 ep eq
            have e1 := up_inv (up_inv ep)
            have e2 := up_inv (up_inv eq)
            rw [sw_n (i := i + 1) (x := i) (by omega) (by omega), sw_l] at e1
            rw [sw_l, sw_n (i := i) (x := i + 1 + 1) (by omega) (by omega)] at e2
            have := uni p1 p2 hy1 hy2 (e1.trans hy.symm)
            have := uni q1 q2 hz1 hz2 (e2.trans hz.symm)
            omega
        have n1 : MvOK s (mvS A k (i + 1)) k i := by
          refine ⟨h1.1, h1.2.1, ?_, ?_⟩
          · rw [mvS_k1]
            show A (k + 1) (sw (i + 1) (i + 1)) < A (k + 1) (sw (i + 1) i)
            rw [sw_l, sw_n (by omega) (by omega)]
            omega
          · rw [mvS_k]
            intro p q p1 p2 q1 q2 ep eq
            have e1 := up_inv ep
            have e2 := up_inv eq
            rw [sw_n (by omega) (by omega)] at e1
            rw [sw_l] at e2
            have := uni p1 p2 hx1 hx2 (e1.trans hx.symm)
            have := uni q1 q2 hz1 hz2 (e2.trans hz.symm)
            omega
        have n2 : MvOK s (mvS (mvS A k (i + 1)) k i) k (i + 1) := by
          refine ⟨by omega, h2.2.1, ?_, ?_⟩
          · rw [mvS_k1, mvS_k1]
            show A (k + 1) (sw (i + 1) (sw i (i + 1 + 1))) < A (k + 1) (sw (i + 1) (sw i (i + 1)))
            rw [sw_n (i := i) (x := i + 1 + 1) (by omega) (by omega), sw_r, sw_r, sw_n (i := i + 1) (x := i) (by omega) (by omega)]
            exact b1
          · rw [mvS_k, mvS_k]
            intro p q p1 p2 q1 q2 ep eq
            have e1 := up_inv (up_inv ep)
            have e2 := up_inv (up_inv eq)
            rw [sw_r, sw_n (i := i + 1) (x := i) (by omega) (by omega)] at e1
            rw [sw_n (i := i) (x := i + 1 + 1) (by omega) (by omega), sw_r] at e2
            have := uni p1 p2 hx1 hx2 (e1.trans hx.symm)
            have := uni q1 q2 hy1 hy2 (e2.trans hy.symm)
            omega
        refine ⟨mvS (mvS (mvS A k i) k (i + 1)) k i, (Rch.one ⟨k, i + 1, hk, m1, rfl⟩).step ⟨k, i, hk, m2, rfl⟩, ?_⟩
        have : mvS (mvS (mvS A k i) k (i + 1)) k i = mvS (mvS (mvS A k (i + 1)) k i) k (i + 1) := by
          refine sq_ext fun f => ?_
          by_cases w : f = k
          · subst w
            rw [mvS_k, mvS_k, mvS_k, mvS_k, mvS_k, mvS_k]
            funext t
            exact sw_braid i _
          · by_cases w2 : f = k + 1
            · subst w2
              rw [mvS_k1, mvS_k1, mvS_k1, mvS_k1, mvS_k1, mvS_k1]
              funext t
              exact congrArg (A (k + 1)) (sw_braid i t)
            · rw [mvS_o _ w w2, mvS_o _ w w2, mvS_o _ w w2, mvS_o _ w w2, mvS_o _ w w2, mvS_o _ w w2]
        rw [this]
        exact (Rch.one ⟨k, i, hk, n1, rfl⟩).step ⟨k, i + 1, hk, n2, rfl⟩
      · -- far apart at one place
        have far : i + 2 ≤ j := by omega
        have m1 : MvOK s (mvS A k i) k j := by
          refine ⟨h2.1, h2.2.1, ?_, ?_⟩
          · rw [mvS_k1]
            show A (k + 1) (sw i (j + 1)) < A (k + 1) (sw i j)
            rw [sw_n (by omega) (by omega), sw_n (by omega) (by omega)]
            exact h2.2.2.1
          · rw [mvS_k]
            exact up_move h2.2.2.2 (Or.inl far)
        have n1 : MvOK s (mvS A k j) k i := by
          refine ⟨h1.1, h1.2.1, ?_, ?_⟩
          · rw [mvS_k1]
            show A (k + 1) (sw j (i + 1)) < A (k + 1) (sw j i)
            rw [sw_n (by omega) (by omega), sw_n (by omega) (by omega)]
            exact h1.2.2.1
          · rw [mvS_k]
            exact up_move h1.2.2.2 (Or.inr far)
        refine ⟨mvS (mvS A k i) k j, Rch.one ⟨k, j, hk, m1, rfl⟩, ?_⟩
        have : mvS (mvS A k i) k j = mvS (mvS A k j) k i := by
          refine sq_ext fun f => ?_
          by_cases w : f = k
          · subst w
            rw [mvS_k, mvS_k, mvS_k, mvS_k]
            funext t
            exact sw_comm (Or.inr far)
          · by_cases w2 : f = k + 1
            · subst w2
              rw [mvS_k1, mvS_k1, mvS_k1, mvS_k1]
              funext t
              exact congrArg (A (k + 1)) (sw_comm (Or.inl far))
            · rw [mvS_o _ w w2, mvS_o _ w w2, mvS_o _ w w2, mvS_o _ w w2]
        rw [this]
        exact Rch.one ⟨k, i, hk, n1, rfl⟩
  · by_cases e2 : l = k + 1
    · subst e2
      -- neighbours: k takes i from k+1, k+1 takes j from k+2
      have pB := hc.1 (k + 1)
      have m1 : MvOK s (mvS A k i) (k + 1) j := by
        refine ⟨h2.1, h2.2.1, ?_, ?_⟩
        · rw [mvS_o A (by omega) (by omega)]
          exact h2.2.2.1
        · rw [mvS_k1]
          intro p q p1 p2 q1 q2 ep eq
          -- in A (k+1), the straws sw i p, sw i q end at j, j+1
          have hp' := sw_in h1.1 h1.2.1 p1 p2
          have hq' := sw_in h1.1 h1.2.1 q1 q2
          have l1 := h2.2.2.2 (sw i p) (sw i q) hp'.1 hp'.2 hq'.1 hq'.2 ep eq
          rcases Nat.lt_trichotomy p q with w | w | w
          · exact w
          · subst w; omega
          · -- q < p but sw i p < sw i q: then q = i, p = i+1
            exfalso
            have hb := h1.2.2.1
            by_cases c1 : q = i
            · by_cases c2 : p = i + 1
              · subst c1; subst c2
                have ep' : A (k + 1) (sw q (q + 1)) = j := ep
                have eq' : A (k + 1) (sw q q) = j + 1 := eq
                rw [sw_r] at ep'
                rw [sw_l] at eq'
                omega
              · subst c1
                rw [sw_l, sw_n (x := p) (by omega) c2] at l1
                omega
            · by_cases c3 : q = i + 1
              · subst c3
                rw [sw_r, sw_n (x := p) (by omega) (by omega)] at l1
                omega
              · rw [sw_n (x := q) c1 c3] at l1
                by_cases c4 : p = i
                · subst c4; rw [sw_l] at l1; omega
                · by_cases c5 : p = i + 1
                  · subst c5; rw [sw_r] at l1; omega
                  · rw [sw_n (x := p) c4 c5] at l1; omega
      have n1 : MvOK s (mvS A (k + 1) j) k i := by
        refine ⟨h1.1, h1.2.1, ?_, ?_⟩
        · rw [mvS_k]
          show sw j (A (k + 1) (i + 1)) < sw j (A (k + 1) i)
          have hb := h1.2.2.1
          -- not (i+1 ends at j and i at j+1)
          have hno : ¬ (A (k + 1) (i + 1) = j ∧ A (k + 1) i = j + 1) := fun w => by
            have := h2.2.2.2 (i + 1) i (by omega) (by have := h1.2.1; omega) h1.1 (by have := h1.2.1; omega) w.1 w.2
            omega
          generalize A (k + 1) (i + 1) = u at hb hno ⊢
          generalize A (k + 1) i = v at hb hno ⊢
          unfold sw
          split <;> split <;> (try split) <;> (try split) <;> omega
        · rw [mvS_o A (by omega) (by omega)]
          exact h1.2.2.2
      refine ⟨mvS (mvS A k i) (k + 1) j, Rch.one ⟨k + 1, j, hl, m1, rfl⟩, ?_⟩
      have : mvS (mvS A k i) (k + 1) j = mvS (mvS A (k + 1) j) k i := by
        refine sq_ext fun f => ?_
        by_cases w : f = k
        · subst w
          rw [mvS_o _ (by omega) (by omega), mvS_k, mvS_k, mvS_o A (by omega) (by omega)]
        · by_cases w2 : f = k + 1
          · subst w2
            rw [mvS_k, mvS_k1, mvS_k1, mvS_k]
            rfl
          · by_cases w3 : f = k + 1 + 1
            · subst w3
              rw [mvS_k1, mvS_o A (by omega) (by omega), mvS_o _ (by omega) (by omega), mvS_k1]
            · rw [mvS_o _ w2 w3, mvS_o _ w w2, mvS_o _ w w2, mvS_o _ w2 w3]
      rw [this]
      exact Rch.one ⟨k, i, hk, n1, rfl⟩
    · -- far places
      have m1 : MvOK s (mvS A k i) l j := by
        refine ⟨h2.1, h2.2.1, ?_, ?_⟩
        · rw [mvS_o A (by omega) (by omega)]; exact h2.2.2.1
        · rw [mvS_o A (by omega) (by omega)]; exact h2.2.2.2
      have n1 : MvOK s (mvS A l j) k i := by
        refine ⟨h1.1, h1.2.1, ?_, ?_⟩
        · rw [mvS_o A (by omega) (by omega)]; exact h1.2.2.1
        · rw [mvS_o A (by omega) (by omega)]; exact h1.2.2.2
      refine ⟨mvS (mvS A k i) l j, Rch.one ⟨l, j, hl, m1, rfl⟩, ?_⟩
      have : mvS (mvS A k i) l j = mvS (mvS A l j) k i := by
        refine sq_ext fun f => ?_
        by_cases w : f = k
        · subst w
          rw [mvS_o _ (by omega) (by omega), mvS_k, mvS_k, mvS_o A (by omega) (by omega)]
        · by_cases w2 : f = k + 1
          · subst w2
            rw [mvS_o _ (by omega) (by omega), mvS_k1, mvS_k1, mvS_o A (by omega) (by omega)]
          · rw [mvS_o (mvS A l j) w w2]
            by_cases w3 : f = l
            · subst w3
              rw [mvS_k, mvS_k, mvS_o A w w2]
            · by_cases w4 : f = l + 1
              · subst w4
                rw [mvS_k1, mvS_k1, mvS_o A w w2]
              · rw [mvS_o _ w3 w4, mvS_o _ w w2, mvS_o _ w3 w4]
      rw [this]
      exact Rch.one ⟨k, i, hk, n1, rfl⟩
theorem meet2 {s N : Nat} {A B C : Sq} (hc : Can s N A) (hb : Step s N A B) (hd : Step s N A C) : ∃ D, Rch s N B D ∧ Rch s N C D := by
  obtain ⟨k, i, hk, h1, rfl⟩ := hb
  obtain ⟨l, j, hl, h2, rfl⟩ := hd
  rcases Nat.lt_trichotomy k l with w | w | w
  · exact meet hc hk hl h1 h2 (by omega) (by omega)
  · rcases Nat.le_total i j with w2 | w2
    · exact meet hc hk hl h1 h2 (by omega) (fun _ => w2)
    · obtain ⟨D, q1, q2⟩ := meet hc hl hk h2 h1 (by omega) (fun _ => w2)
      exact ⟨D, q2, q1⟩
  · obtain ⟨D, q1, q2⟩ := meet hc hl hk h2 h1 (by omega) (by omega)
    exact ⟨D, q2, q1⟩
/-- one normal form -/
theorem nf_one {s N : Nat} : ∀ (n : Nat) (A B C : Sq), Can s N A → mu s A N < n → Rch s N A B → Rch s N A C → Nf s N B → Nf s N C → B = C
  | 0, _, _, _, _, h, _, _, _, _ => by omega
  | n + 1, A, B, C, hc, h, hb, hd, nb, nc => by
    rcases hb.head with e | ⟨A1, s1, r1⟩
    · subst e
      rcases hd.head with e | ⟨A2, ⟨k, i, hk, hm, -⟩, -⟩
      · exact e.symm
      · exact absurd hm (nb k i hk)
    · rcases hd.head with e | ⟨A2, s2, r2⟩
      · subst e
        obtain ⟨k, i, hk, hm, -⟩ := s1
        exact absurd hm (nc k i hk)
      · obtain ⟨D, d1, d2⟩ := meet2 hc s1 s2
        have hcD := d1.can (s1.can hc)
        obtain ⟨E, e1, e2⟩ := nf_ex (mu s D N + 1) D hcD (by omega)
        have l1 := s1.mu hc
        have l2 := s2.mu hc
        have q1 := nf_one n A1 B E (s1.can hc) (by omega) r1 (d1.trans e1) nb e2
        have q2 := nf_one n A2 C E (s2.can hc) (by omega) r2 (d2.trans e1) nc e2
        exact q1.trans q2.symm
