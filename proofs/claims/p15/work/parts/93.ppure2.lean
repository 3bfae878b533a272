/-! Pattern: twines, rings, home, as functions -/
theorem twj_pos {c : Nat → Int32} {a b : Nat} {v : Int32} : ∀ z, (twj c (a, b, v) z).1 = gT c z a ∧ (twj c (a, b, v) z).2.1 = gT c z b
  | 0 => ⟨rfl, rfl⟩
  | z + 1 => by
    have ih := twj_pos (c := c) (a := a) (b := b) (v := v) z
    refine ⟨?_, ?_⟩
    · show sw _ (twj c (a, b, v) z).1 = _
      rw [ih.1]; rfl
    · show sw _ (twj c (a, b, v) z).2.1 = _
      rw [ih.2]; rfl
/-- what two straws twine in one making -/
def tw1 (c : Nat → Int32) (z a b : Nat) : Int32 := (twj c (a, b, 0) z).2.2
theorem tw1_s {c : Nat → Int32} {z a b : Nat} : tw1 c (z + 1) a b = if (gT c z a = ai (c z) ∨ gT c z a = ai (c z) + 1) ∧ (gT c z b = ai (c z) ∨ gT c z b = ai (c z) + 1) then tw1 c z a b + (if 0 < c z then 1 else -1) else tw1 c z a b := by
  have h := twj_pos (c := c) (a := a) (b := b) (v := 0) z
  show (if ((twj c (a, b, 0) z).1 = _ ∨ _) ∧ _ then _ else _) = _
  rw [h.1, h.2]
  rfl
theorem twj_add {c : Nat → Int32} {a b : Nat} {v : Int32} : ∀ z, (twj c (a, b, v) z).2.2 = v + tw1 c z a b
  | 0 => by show v = v + 0; rw [Int32.add_zero]
  | z + 1 => by
    have ih := twj_add (c := c) (a := a) (b := b) (v := v) z
    have h := twj_pos (c := c) (a := a) (b := b) (v := v) z
    rw [tw1_s]
    show (if ((twj c (a, b, v) z).1 = _ ∨ _) ∧ _ then _ else _) = _
    rw [h.1, h.2, ih]
    split
    · rw [Int32.add_assoc]
    · rfl
theorem twt_real {c : Nat → Int32} {z a b : Nat} : ∀ t, (twt c z a b t).1 = itr (gT c z) t a ∧ (twt c z a b t).2.1 = itr (gT c z) t b ∧ (twt c z a b (t + 1)).2.2 = (twt c z a b t).2.2 + tw1 c z (itr (gT c z) t a) (itr (gT c z) t b)
  | 0 => ⟨rfl, rfl, twj_add z⟩
  | t + 1 => by
    have ih := twt_real (c := c) (z := z) (a := a) (b := b) t
    have e : twt c z a b t = ((twt c z a b t).1, (twt c z a b t).2.1, (twt c z a b t).2.2) := rfl
    have h1 : (twt c z a b (t + 1)).1 = itr (gT c z) (t + 1) a := by
      show (twj c (twt c z a b t) z).1 = _
      rw [e, (twj_pos z).1, ih.1]; rfl
    have h2 : (twt c z a b (t + 1)).2.1 = itr (gT c z) (t + 1) b := by
      show (twj c (twt c z a b t) z).2.1 = _
      rw [e, (twj_pos z).2, ih.2.1]; rfl
    refine ⟨h1, h2, ?_⟩
    have e2 : twt c z a b (t + 1) = ((twt c z a b (t + 1)).1, (twt c z a b (t + 1)).2.1, (twt c z a b (t + 1)).2.2) := rfl
    show (twj c (twt c z a b (t + 1)) z).2.2 = _
    rw [e2, twj_add, h1, h2]
/-- the places that the walks from the places below p came through -/
def WS (g : Nat → Nat) (p x : Nat) : Prop := ∃ q k, 1 ≤ q ∧ q < p ∧ itr g k q = x
theorem itr_back {g : Nat → Nat} {s p k : Nat} (h : PermOn g s) (h1 : 1 ≤ p) (h2 : p ≤ s) : ∃ k', itr g k' (itr g k p) = p := by
  obtain ⟨L, l1, -, e⟩ := itr_cyc h h1 h2
  refine ⟨L * k - k, ?_⟩
  have hle : k ≤ L * k := Nat.le_mul_of_pos_left k (by omega)
  rw [← itr_add, show k + (L * k - k) = L * k by omega]
  exact itr_mul e k
theorem WS_in {g : Nat → Nat} {s p x : Nat} (h : PermOn g s) (hp : p ≤ s + 1) (hx : WS g p x) : 1 ≤ x ∧ x ≤ s := by
  obtain ⟨q, k, q1, q2, rfl⟩ := hx
  exact itr_in h q1 (by omega) k
theorem WS_cl {g : Nat → Nat} {s p x : Nat} (h : PermOn g s) (hp : p ≤ s + 1) (hx1 : 1 ≤ x) (hx2 : x ≤ s) (t : Nat) : WS g p (itr g t x) ↔ WS g p x := by
  constructor
  · rintro ⟨q, k, q1, q2, e⟩
    obtain ⟨k', e'⟩ := itr_back (k := t) h hx1 hx2
    refine ⟨q, k + k', q1, q2, ?_⟩
    rw [itr_add, e, e']
  · rintro ⟨q, k, q1, q2, e⟩
    exact ⟨q, k + t, q1, q2, by rw [itr_add, e]⟩
theorem WS_min {g : Nat → Nat} {s p : Nat} (h : PermOn g s) (h1 : 1 ≤ p) (h2 : p ≤ s) : isMin g p ↔ ¬ WS g p p := by
  constructor
  · rintro hm ⟨q, k, q1, q2, e⟩
    obtain ⟨k', e'⟩ := itr_back (k := k) h q1 (by omega)
    rw [e] at e'
    have := hm k'
    omega
  · intro hn k
    rcases Nat.lt_or_ge (itr g k p) p with w | w
    · obtain ⟨k', e'⟩ := itr_back (k := k) h h1 h2
      exact absurd ⟨itr g k p, k', (itr_in h h1 h2 k).1, w, e'⟩ hn
    · exact w
theorem WS_s {g : Nat → Nat} {p x : Nat} (h1 : 1 ≤ p) : WS g (p + 1) x ↔ WS g p x ∨ ∃ k, itr g k p = x := by
  constructor
  · rintro ⟨q, k, q1, q2, e⟩
    rcases (show q < p ∨ q = p by omega) with w | w
    · exact Or.inl ⟨q, k, q1, w, e⟩
    · subst w; exact Or.inr ⟨k, e⟩
  · rintro (⟨q, k, q1, q2, e⟩ | ⟨k, e⟩)
    · exact ⟨q, k, q1, by omega, e⟩
    · exact ⟨p, k, h1, by omega, e⟩
theorem WS_old {g : Nat → Nat} {s p x : Nat} (h : PermOn g s) (h1 : 1 ≤ p) (h2 : p ≤ s) (hw : WS g p p) : WS g (p + 1) x ↔ WS g p x := by
  rw [WS_s h1]
  refine ⟨fun q => q.elim id fun ⟨k, e⟩ => ?_, Or.inl⟩
  rw [← e]
  exact (WS_cl h (by omega) h1 h2 k).mpr hw
/-- the length of a straw's ring -/
def isLen (g : Nat → Nat) (p L : Nat) : Prop := 1 ≤ L ∧ itr g L p = p ∧ ∀ k, 1 ≤ k → k < L → itr g k p ≠ p
theorem len_ex {g : Nat → Nat} {s p : Nat} (h : PermOn g s) (h1 : 1 ≤ p) (h2 : p ≤ s) : ∃ L, L ≤ s ∧ isLen g p L := by
  obtain ⟨k, k1, k2, e⟩ := itr_cyc h h1 h2
  obtain ⟨L, hL, hl⟩ := pk_least (fun L => 1 ≤ L ∧ itr g L p = p) ⟨k, k1, e⟩
  refine ⟨L, ?_, hL.1, hL.2, fun k' a b w => hl k' b ⟨a, w⟩⟩
  rcases Nat.lt_or_ge k L with w | w
  · exact absurd ⟨k1, e⟩ (hl k w)
  · omega
theorem len_dvd {g : Nat → Nat} {p L : Nat} (h : isLen g p L) (m : Nat) : itr g m p = p ↔ L ∣ m := by
  constructor
  · intro e
    rw [itr_mod h.2.1 m] at e
    rcases Nat.eq_zero_or_pos (m % L) with w | w
    · exact Nat.dvd_of_mod_eq_zero w
    · exact absurd e (h.2.2 _ w (Nat.mod_lt _ h.1))
  · rintro ⟨q, rfl⟩
    exact itr_mul h.2.1 q
theorem len_new {g : Nat → Nat} {s p L t : Nat} (h : PermOn g s) (h1 : 1 ≤ p) (h2 : p ≤ s) (hL : isLen g p L) (hn : ¬ WS g p p) (ht : t < L) : ¬ (WS g p (itr g t p) ∨ ∃ k, k < t ∧ itr g k p = itr g t p) := by
  rintro (w | ⟨k, k1, e⟩)
  · exact hn ((WS_cl h (by omega) h1 h2 t).mp w)
  · have hi := itr_in h h1 h2 (t - k)
    have : itr g (t - k) p = p := by
      refine (itr_cancel h h1 h2 hi.1 hi.2 k ?_).symm
      rw [← itr_add, show t - k + k = t by omega]
      exact e
    exact hL.2.2 (t - k) (by omega) (by omega) this
theorem len_all {g : Nat → Nat} {p L x : Nat} (hL : isLen g p L) : (∃ k, itr g k p = x) ↔ ∃ k, k < L ∧ itr g k p = x := by
  constructor
  · rintro ⟨k, e⟩
    exact ⟨k % L, Nat.mod_lt _ hL.1, by rw [← itr_mod hL.2.1 k]; exact e⟩
  · rintro ⟨k, -, e⟩
    exact ⟨k, e⟩
/-- the least number of times that brings home all that was walked -/
def hmI (g : Nat → Nat) (p h : Nat) : Prop := 1 ≤ h ∧ (∀ x, WS g p x → itr g h x = x) ∧ ∀ m, (∀ x, WS g p x → itr g m x = x) → h ∣ m
/-- the least multiple of a that b divides -/
def isLcm (a b v : Nat) : Prop := ∃ t, v = a * t ∧ 1 ≤ t ∧ t ≤ b ∧ b ∣ a * t ∧ ∀ t', 1 ≤ t' → t' < t → ¬ b ∣ a * t'
theorem lcm_dvd {a b v m : Nat} (h : isLcm a b v) (ha : a ∣ m) (hb : b ∣ m) : v ∣ m := by
  obtain ⟨t, rfl, t1, -, t2, t3⟩ := h
  obtain ⟨k, rfl⟩ := ha
  have e : k = t * (k / t) + k % t := (Nat.div_add_mod k t).symm
  rcases Nat.eq_zero_or_pos (k % t) with w | w
  · rw [w, Nat.add_zero] at e
    exact ⟨k / t, by rw [Nat.mul_assoc, ← e]⟩
  · refine absurd ?_ (t3 (k % t) w (Nat.mod_lt _ t1))
    have h1 : b ∣ a * t * (k / t) := Nat.dvd_mul_right_of_dvd t2 _
    have h2 : a * k = a * t * (k / t) + a * (k % t) := by rw [Nat.mul_assoc, ← Nat.mul_add, ← e]
    rw [h2] at hb
    exact (Nat.dvd_add_right h1).mp hb
theorem hmI_old {g : Nat → Nat} {s p h : Nat} (hP : PermOn g s) (h1 : 1 ≤ p) (h2 : p ≤ s) (hw : WS g p p) (hI : hmI g p h) : hmI g (p + 1) h :=
  ⟨hI.1, fun x hx => hI.2.1 x ((WS_old hP h1 h2 hw).mp hx), fun m hm => hI.2.2 m (fun x hx => hm x ((WS_old hP h1 h2 hw).mpr hx))⟩
theorem hmI_new {g : Nat → Nat} {s p h L v : Nat} (hP : PermOn g s) (h1 : 1 ≤ p) (h2 : p ≤ s) (hL : isLen g p L) (hI : hmI g p h) (hv : isLcm h L v) : hmI g (p + 1) v := by
  obtain ⟨i1, i2, i3⟩ := hI
  have hvd := @lcm_dvd h L v
  obtain ⟨t, rfl, t1, tb, t2, t3⟩ := id hv
  have comm : ∀ m k x, itr g m (itr g k x) = itr g k (itr g m x) := fun m k x => by rw [← itr_add, ← itr_add, Nat.add_comm]
  refine ⟨Nat.mul_pos i1 t1, fun x hx => ?_, fun m hm => ?_⟩
  · rcases (WS_s h1).mp hx with w | ⟨k, rfl⟩
    · exact itr_mul (i2 x w) t
    · rw [comm, (len_dvd hL _).mpr t2]
  · refine hvd hv (i3 m (fun x hx => hm x ((WS_s h1).mpr (Or.inl hx)))) ((len_dvd hL m).mp (hm p ((WS_s h1).mpr (Or.inr ⟨0, rfl⟩))))
theorem hmI_0 (g : Nat → Nat) : hmI g 1 1 := ⟨Nat.le_refl _, fun x ⟨q, _, q1, q2, _⟩ => by omega, fun m _ => ⟨m, by omega⟩⟩
theorem hmI_le {g : Nat → Nat} {s p h : Nat} (hP : PermOn g s) (hs : s ≤ 7) (hp : p ≤ s + 1) (hI : hmI g p h) : h ≤ 420 := Nat.le_of_dvd (by decide) (hI.2.2 420 (fun x hx => by
  have := WS_in hP hp hx
  exact itr_420 hP hs this.1 this.2))
theorem hmI_end {g : Nat → Nat} {s h : Nat} (hP : PermOn g s) (hI : hmI g (s + 1) h) : isHome g s h := by
  refine ⟨hI.1, fun p a b => hI.2.1 p ⟨p, 0, a, by omega, rfl⟩, fun m' a b hm => ?_⟩
  have := Nat.le_of_dvd a (hI.2.2 m' (fun x hx => by
    have := WS_in hP (Nat.le_refl _) hx
    exact hm x this.1 this.2))
  omega
/-! bits of a byte -/
theorem bit_or : ∀ n, n < 256 → ∀ y, y < 8 → nI n ||| ((1 : Int32) <<< (nI y &&& 31)) = nI (n ||| 2 ^ y) := by decide +kernel
theorem bit_at : ∀ n, n < 256 → ∀ x, x < 8 → ((nI n >>> (nI x &&& 31)) &&& 1 = 0 ↔ n.testBit x = false) := by decide +kernel
theorem bit_lt : ∀ n, n < 256 → ∀ y, y < 8 → n ||| 2 ^ y < 256 := by decide +kernel
theorem bit_test (n y x : Nat) : (n ||| 2 ^ y).testBit x = true ↔ n.testBit x = true ∨ x = y := by
  rw [Nat.testBit_or, Nat.testBit_two_pow, Bool.or_eq_true, decide_eq_true_eq]
  exact ⟨fun h => h.elim Or.inl (fun q => Or.inr q.symm), fun h => h.elim Or.inl (fun q => Or.inr q.symm)⟩
