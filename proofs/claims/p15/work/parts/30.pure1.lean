/-! permutations of 1 .. s: iterates, home -/
def itr (g : Nat → Nat) : Nat → Nat → Nat
  | 0, p => p
  | m + 1, p => g (itr g m p)
def PermOn (g : Nat → Nat) (s : Nat) : Prop := (∀ p, 1 ≤ p → p ≤ s → 1 ≤ g p ∧ g p ≤ s) ∧ ∀ p q, 1 ≤ p → p ≤ s → 1 ≤ q → q ≤ s → g p = g q → p = q
theorem itr_in {g : Nat → Nat} {s p : Nat} (h : PermOn g s) (h1 : 1 ≤ p) (h2 : p ≤ s) : ∀ m, 1 ≤ itr g m p ∧ itr g m p ≤ s
  | 0 => ⟨h1, h2⟩
  | m + 1 => by
    have ih := itr_in h h1 h2 m
    exact h.1 _ ih.1 ih.2
theorem itr_add (g : Nat → Nat) (m p : Nat) : ∀ n, itr g (m + n) p = itr g n (itr g m p)
  | 0 => rfl
  | n + 1 => by
    show g (itr g (m + n) p) = g (itr g n (itr g m p))
    rw [itr_add g m p n]
theorem itr_succ' (g : Nat → Nat) (m p : Nat) : itr g (m + 1) p = itr g m (g p) := by
  rw [Nat.add_comm, itr_add]
  rfl
theorem itr_cancel {g : Nat → Nat} {s p q : Nat} (h : PermOn g s) (h1 : 1 ≤ p) (h2 : p ≤ s) (h3 : 1 ≤ q) (h4 : q ≤ s) : ∀ m, itr g m p = itr g m q → p = q
  | 0, e => e
  | m + 1, e => by
    have a := itr_in h h1 h2 m
    have b := itr_in h h3 h4 m
    exact itr_cancel h h1 h2 h3 h4 m (h.2 _ _ a.1 a.2 b.1 b.2 e)
theorem pigeon : ∀ (s : Nat) (f : Nat → Nat), (∀ a, a ≤ s → 1 ≤ f a ∧ f a ≤ s) → ∃ a b, a < b ∧ b ≤ s ∧ f a = f b
  | 0, f, h => by have := h 0 (Nat.le_refl _); omega
  | s + 1, f, h => by
    by_cases hv : ∃ a, a ≤ s ∧ f a = f (s + 1)
    · obtain ⟨a, ha, e⟩ := hv
      exact ⟨a, s + 1, by omega, Nat.le_refl _, e⟩
    · have hv' : ∀ a, a ≤ s → f a ≠ f (s + 1) := fun a ha e => hv ⟨a, ha, e⟩
      obtain ⟨a, b, hab, hb, e⟩ := pigeon s (fun a => if f a = s + 1 then f (s + 1) else f a) (fun a ha => by
        have h1 := h a (by omega)
        have h2 := h (s + 1) (Nat.le_refl _)
        have h3 := hv' a ha
        try dsimp only
        split <;> omega)
      refine ⟨a, b, hab, by omega, ?_⟩
      have h3 := hv' a (by omega)
      have h4 := hv' b hb
      try dsimp only at e
      split at e <;> split at e <;> omega
theorem itr_cyc {g : Nat → Nat} {s p : Nat} (h : PermOn g s) (h1 : 1 ≤ p) (h2 : p ≤ s) : ∃ k, 1 ≤ k ∧ k ≤ s ∧ itr g k p = p := by
  obtain ⟨a, b, hab, hb, e⟩ := pigeon s (fun a => itr g a p) (fun a _ => itr_in h h1 h2 a)
  refine ⟨b - a, by omega, by omega, ?_⟩
  have hi := itr_in h h1 h2 (b - a)
  refine (itr_cancel h h1 h2 hi.1 hi.2 a ?_).symm
  rw [← itr_add, show b - a + a = b by omega]
  exact e
theorem itr_mul {g : Nat → Nat} {k p : Nat} (h : itr g k p = p) : ∀ n, itr g (k * n) p = p
  | 0 => rfl
  | n + 1 => by
    rw [Nat.mul_succ, itr_add, itr_mul h n]
    exact h
theorem itr_420 {g : Nat → Nat} {s p : Nat} (h : PermOn g s) (hs : s ≤ 7) (h1 : 1 ≤ p) (h2 : p ≤ s) : itr g 420 p = p := by
  obtain ⟨k, hk1, hk2, e⟩ := itr_cyc h h1 h2
  rcases (show k = 1 ∨ k = 2 ∨ k = 3 ∨ k = 4 ∨ k = 5 ∨ k = 6 ∨ k = 7 by omega) with rfl | rfl | rfl | rfl | rfl | rfl | rfl
  · exact itr_mul e 420
  · exact itr_mul e 210
  · exact itr_mul e 140
  · exact itr_mul e 105
  · exact itr_mul e 84
  · exact itr_mul e 70
  · exact itr_mul e 60
def homeAt (g : Nat → Nat) (s m : Nat) : Prop := ∀ p, 1 ≤ p → p ≤ s → itr g m p = p
def isHome (g : Nat → Nat) (s m : Nat) : Prop := 1 ≤ m ∧ homeAt g s m ∧ ∀ m', 1 ≤ m' → m' < m → ¬ homeAt g s m'
theorem home_ex {g : Nat → Nat} {s : Nat} (h : PermOn g s) (hs : s ≤ 7) : ∃ m, m ≤ 420 ∧ isHome g s m := by
  obtain ⟨m, hm, hl⟩ := pk_least (fun m => 1 ≤ m ∧ homeAt g s m) ⟨420, by decide, fun p h1 h2 => itr_420 h hs h1 h2⟩
  refine ⟨m, ?_, hm.1, hm.2, fun m' h1 h2 h3 => hl m' h2 ⟨h1, h3⟩⟩
  rcases Nat.lt_or_ge 420 m with q | q
  · exact absurd ⟨by decide, fun p h1 h2 => itr_420 h hs h1 h2⟩ (hl 420 q)
  · exact q
theorem home_uniq {g : Nat → Nat} {s m m' : Nat} (h : isHome g s m) (h' : isHome g s m') : m = m' := by
  rcases Nat.lt_trichotomy m m' with q | q | q
  · exact absurd h.2.1 (h'.2.2 m h.1 q)
  · exact q
  · exact absurd h'.2.1 (h.2.2 m' h'.1 q)
theorem sw_inj {i x y : Nat} (h : sw i x = sw i y) : x = y := by
  have := congrArg (sw i) h
  rw [sw_sw, sw_sw] at this
  exact this
theorem gT_perm {c : Nat → Int32} {s z : Nat} (hs : s ≤ 7) (h : ∀ i, i < z → okC s (c i)) : PermOn (gT c z) s := by
  refine ⟨fun p h1 h2 => gT_in hs h1 h2 z h, fun p q _ _ _ _ e => ?_⟩
  have : ∀ n, gT c n p = gT c n q → p = q := by
    intro n
    induction n with
    | zero => exact fun e => e
    | succ n ih => exact fun e => ih (sw_inj e)
  exact this z e
/-- the least of the places through which p comes in n steps -/
def lst (g : Nat → Nat) (p : Nat) : Nat → Nat
  | 0 => p
  | n + 1 => min (lst g p n) (itr g (n + 1) p)
def isMin (g : Nat → Nat) (p : Nat) : Prop := ∀ k, p ≤ itr g k p
theorem lst_le (g : Nat → Nat) (p : Nat) : ∀ n, lst g p n ≤ p
  | 0 => Nat.le_refl _
  | n + 1 => Nat.le_trans (Nat.min_le_left _ _) (lst_le g p n)
theorem lst_min {g : Nat → Nat} {p : Nat} : ∀ n k, k ≤ n → lst g p n ≤ itr g k p
  | 0, k, h => by
    have : k = 0 := by omega
    subst this
    exact Nat.le_refl _
  | n + 1, k, h => by
    rcases Nat.lt_or_ge k (n + 1) with q | q
    · exact Nat.le_trans (Nat.min_le_left _ _) (lst_min n k (by omega))
    · have : k = n + 1 := by omega
      subst this
      exact Nat.min_le_right _ _
theorem lst_at {g : Nat → Nat} {p : Nat} : ∀ n, ∃ k, k ≤ n ∧ lst g p n = itr g k p
  | 0 => ⟨0, Nat.le_refl _, rfl⟩
  | n + 1 => by
    obtain ⟨k, hk, e⟩ := lst_at (g := g) (p := p) n
    rcases Nat.le_total (lst g p n) (itr g (n + 1) p) with q | q
    · exact ⟨k, by omega, by show min _ _ = _; rw [Nat.min_eq_left q]; exact e⟩
    · exact ⟨n + 1, Nat.le_refl _, by show min _ _ = _; rw [Nat.min_eq_right q]⟩
theorem itr_mod {g : Nat → Nat} {p k : Nat} (h : itr g k p = p) (n : Nat) : itr g n p = itr g (n % k) p := by
  have e := itr_add g (k * (n / k)) p (n % k)
  rw [itr_mul h, Nat.div_add_mod] at e
  exact e
theorem lst_isMin {g : Nat → Nat} {p k : Nat} (hk : 1 ≤ k) (h : itr g k p = p) : lst g p (k - 1) = p ↔ isMin g p := by
  constructor
  · intro e n
    rw [itr_mod h n]
    have := lst_min (g := g) (p := p) (k - 1) (n % k) (by have := Nat.mod_lt n (show k > 0 by omega); omega)
    omega
  · intro hm
    obtain ⟨q, -, e⟩ := lst_at (g := g) (p := p) (k - 1)
    have h1 := hm q
    have h2 := lst_le g p (k - 1)
    omega
noncomputable def rgN (g : Nat → Nat) : Nat → Nat
  | 0 => 0
  | p + 1 => rgN g p + @ite _ (isMin g (p + 1)) (Classical.propDecidable _) 1 0
theorem rgN_le (g : Nat → Nat) : ∀ p, rgN g p ≤ p
  | 0 => Nat.le_refl _
  | p + 1 => by
    have ih := rgN_le g p
    unfold rgN
    split <;> omega
