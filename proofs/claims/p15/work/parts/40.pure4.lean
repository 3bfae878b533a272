/-! the factors that a row begins with; parities -/
theorem par_neg : ∀ n, n < 601 → ((-nI n) - (-nI n) / 2 * 2 = 0 ↔ n % 2 = 0) := by decide +kernel
theorem neg_dec : ∀ n, n < 601 → (-nI n) - 1 = -nI (n + 1) := by decide +kernel
theorem dec2 : ∀ q, q < 601 → nI q + (-1) = nI (q + 1) - 2 := by decide +kernel
theorem dec1 : ∀ q, q < 602 → nI (q + 1) - 1 = nI q := fun q _ => nI_pred q
theorem dec1' : ∀ q, q < 601 → nI q + (-1) = nI q - 1 := by decide +kernel
def revF (s x : Nat) : Nat := if 1 ≤ x ∧ x ≤ s then s + 1 - x else x
def turnF (s : Nat) (F : Nat → Nat) (x : Nat) : Nat := if 1 ≤ x ∧ x ≤ s then s + 1 - F (s + 1 - x) else x
theorem revF_can (s : Nat) : PermOn (revF s) s ∧ ∀ x, (x < 1 ∨ s < x) → revF s x = x := by
  refine ⟨⟨fun p h1 h2 => ?_, fun p q h1 h2 h3 h4 e => ?_⟩, fun x hx => ?_⟩
  · unfold revF; rw [if_pos ⟨h1, h2⟩]; omega
  · unfold revF at e; rw [if_pos ⟨h1, h2⟩, if_pos ⟨h3, h4⟩] at e; omega
  · unfold revF; rw [if_neg (by omega)]
theorem idF_can (s : Nat) : PermOn idF s ∧ ∀ x, (x < 1 ∨ s < x) → idF x = x := ⟨⟨fun _ h1 h2 => ⟨h1, h2⟩, fun _ _ _ _ _ _ e => e⟩, fun _ _ => rfl⟩
theorem turnF_can {s : Nat} {F : Nat → Nat} (h : PermOn F s) : PermOn (turnF s F) s ∧ ∀ x, (x < 1 ∨ s < x) → turnF s F x = x := by
  refine ⟨⟨fun p h1 h2 => ?_, fun p q h1 h2 h3 h4 e => ?_⟩, fun x hx => ?_⟩
  · unfold turnF; rw [if_pos ⟨h1, h2⟩]; have := h.1 (s + 1 - p) (by omega) (by omega); omega
  · unfold turnF at e; rw [if_pos ⟨h1, h2⟩, if_pos ⟨h3, h4⟩] at e
    have a1 := h.1 (s + 1 - p) (by omega) (by omega)
    have a2 := h.1 (s + 1 - q) (by omega) (by omega)
    have := h.2 (s + 1 - p) (s + 1 - q) (by omega) (by omega) (by omega) (by omega) (by omega)
    omega
  · unfold turnF; rw [if_neg (by omega)]
/-- the simple row of one crossing, or D without it at its end -/
def e0F (s : Nat) (c : Int32) : Nat → Nat := mvL (ai c) (if 0 < c then idF else revF s)
theorem e0F_can {s : Nat} {c : Int32} (hc : okC s c) (hs : s ≤ 7) : PermOn (e0F s c) s ∧ ∀ x, (x < 1 ∨ s < x) → e0F s c x = x := by
  have ha := okC_ai hc hs
  unfold e0F
  split
  · exact mvL_can ha.1 ha.2 (idF_can s)
  · exact mvL_can ha.1 ha.2 (revF_can s)
/-- crossings with - among the last d of all -/
def ngd (c : Nat → Int32) (z all : Nat) : Nat → Nat
  | 0 => 0
  | d + 1 => ngd c z all d + if c ((all - 1 - d) % z) < 0 then 1 else 0
theorem ngd_le (c : Nat → Int32) (z all : Nat) : ∀ d, ngd c z all d ≤ d
  | 0 => Nat.le_refl _
  | d + 1 => by
    have := ngd_le c z all d
    unfold ngd
    split <;> omega
/-- the factors that the row, made so many times, begins with -/
def seq0 (c : Nat → Int32) (s z all : Nat) : Sq := fun q => if q < all then (if ngd c z all (all - 1 - q) % 2 = 1 then turnF s (e0F s (c (q % z))) else e0F s (c (q % z))) else idF
theorem seq0_can {c : Nat → Int32} {s z all : Nat} (hs : s ≤ 7) (hz : 0 < z ∨ all = 0) (hok : ∀ i, i < z → okC s (c i)) : Can s all (seq0 c s z all) := by
  refine ⟨fun f => ?_, fun f hf x => ?_⟩
  · unfold seq0
    split
    · next hlt =>
      have hm : f % z < z := Nat.mod_lt _ (by omega)
      have he := e0F_can (hok (f % z) hm) hs
      split
      · exact turnF_can he.1
      · exact he
    · exact idF_can s
  · unfold seq0
    rw [if_neg (by omega)]
    rfl
theorem Rch.more {s n N : Nat} {A B : Sq} (hn : n ≤ N) (h : Rch s n A B) : Rch s N A B := h (fun W => Rch s N A W) Rch.rf (fun _ _ q ⟨k, i, hk, hm, e⟩ => q.step ⟨k, i, by omega, hm, e⟩)
theorem Rch.muL {s N : Nat} {A B : Sq} (hc : Can s N A) (h : Rch s N A B) : mu s B N ≤ mu s A N := by
  have := h (fun W => Can s N W ∧ mu s W N ≤ mu s A N) ⟨hc, Nat.le_refl _⟩ (fun _ _ q w => ⟨w.can q.1, Nat.le_trans (Nat.le_of_lt (w.mu q.1)) q.2⟩)
  exact this.2
theorem Rch.nf {s N : Nat} {A B : Sq} (h : Rch s N A B) (hn : Nf s N A) : B = A := by
  rcases h.head with e | ⟨A1, ⟨k, i, hk, hm, -⟩, -⟩
  · exact e
  · exact absurd hm (hn k i hk)
theorem mu_tail {s : Nat} {A B : Sq} {n : Nat} (h : ∀ f, n ≤ f → A f = B f) (hl : mu s A n < mu s B n) : ∀ d, mu s A (n + d) < mu s B (n + d)
  | 0 => hl
  | d + 1 => by
    have ih := mu_tail h hl d
    show mu s A (n + d) + (s + 1) ^ (n + d) * psi s (A (n + d)) < mu s B (n + d) + (s + 1) ^ (n + d) * psi s (B (n + d))
    rw [h (n + d) (by omega)]
    omega
theorem Can.less {s N n : Nat} {A : Sq} (h : Can s N A) (hz : ∀ f, n ≤ f → A f = idF) : Can s n A := ⟨h.1, fun f hf x => by rw [hz f hf]; rfl⟩
theorem Rch.keepN {s n : Nat} {A B : Sq} (h : Rch s n A B) (hz : ∀ f, n ≤ f → A f = idF) : ∀ f, n ≤ f → B f = idF :=
  h (fun W => ∀ f, n ≤ f → W f = idF) hz (fun U W q ⟨k, i, hk, _, e⟩ f hf => by rw [e, mvS_o U (by omega) (by omega)]; exact q f hf)
