/-! a pattern's form: what is kept of it is right -/
theorem seq0_cg {c c' : Nat → Int32} {z all : Nat} (s : Nat) (h : ∀ i, i < z → c i = c' i) (hz : 0 < z ∨ all = 0) : seq0 c s z all = seq0 c' s z all := by
  have hn : ∀ d, 0 < z → ngd c z all d = ngd c' z all d := by
    intro d h0
    induction d with
    | zero => rfl
    | succ d ih =>
      unfold ngd
      rw [ih, h _ (Nat.mod_lt _ h0)]
  refine sq_ext fun q => ?_
  unfold seq0
  rcases hz with h0 | h0
  · rw [hn _ h0, h _ (Nat.mod_lt _ h0)]
  · rw [if_neg (by omega), if_neg (by omega)]
theorem ngd_cg {c c' : Nat → Int32} {z all : Nat} (h : ∀ i, i < z → c i = c' i) (hz : 0 < z ∨ all = 0) : ngd c z all all = ngd c' z all all := by
  rcases hz with h0 | h0
  · have hn : ∀ d, ngd c z all d = ngd c' z all d := by
      intro d
      induction d with
      | zero => rfl
      | succ d ih =>
        unfold ngd
        rw [ih, h _ (Nat.mod_lt _ h0)]
    exact hn all
  · rw [h0]
    rfl
theorem z_or (z m : Nat) : 0 < z ∨ z * m = 0 := by
  rcases Nat.eq_zero_or_pos z with w | w
  · right; rw [w, Nat.zero_mul]
  · exact Or.inl w
theorem z_or1 (z : Nat) : 0 < z ∨ z = 0 := by omega
theorem NFof_cg {c c' : Nat → Int32} {s z all n first : Nat} {B : Sq} (h : ∀ i, i < z → c i = c' i) (hz : 0 < z ∨ all = 0) (hn : NFof c s z all n first B) : NFof c' s z all n first B := by
  unfold NFof at *
  rw [← seq0_cg s h hz]
  exact hn
theorem evenAt_cg {c c' : Nat → Int32} {s z m : Nat} (h : ∀ i, i < z → c i = c' i) (he : evenAt c s z m) : evenAt c' s z m := by
  obtain ⟨n, B, h1, h2⟩ := he
  exact ⟨n, B, NFof_cg h (z_or z m) h1, by rw [← ngd_cg h (z_or z m)]; exact h2⟩
/-- how many times until it is untwined -/
def UtQ (c : Nat → Int32) (s z : Nat) (v : Int32) : Prop := (∃ m, 1 ≤ m ∧ m ≤ 12 ∧ m * z ≤ 600 ∧ evenAt c s z m ∧ (∀ m', 1 ≤ m' → m' < m → ¬ evenAt c s z m') ∧ v = nI m) ∨ ((∀ m, 1 ≤ m → m ≤ 12 → m * z ≤ 600 → ¬ evenAt c s z m) ∧ v = -1)
theorem UtQ_cg {c c' : Nat → Int32} {s z : Nat} {v : Int32} (h : ∀ i, i < z → c i = c' i) (hu : UtQ c s z v) : UtQ c' s z v := by
  have h' : ∀ i, i < z → c' i = c i := fun i hi => (h i hi).symm
  rcases hu with ⟨m, h1, h2, h3, h4, h5, h6⟩ | ⟨h1, h2⟩
  · exact Or.inl ⟨m, h1, h2, h3, evenAt_cg h h4, fun m' a b w => h5 m' a b (evenAt_cg h' w), h6⟩
  · exact Or.inr ⟨fun m a b d w => h1 m a b d (evenAt_cg h' w), h2⟩
/-- the form that stands in n and r1 is that of the row -/
def FmO (c : Nat → Int32) (s z : Nat) (n r1 : Nat → Int32) : Prop := ∃ hd tl B, FmF (seq0 c s z z) s z hd tl (-nI (ngd c z z z)) 300 n r1 B
def FmP (c : Nat → Int32) (s z : Nat) (N : Nt) (R : Rt) : Prop := (∃ s' hd tl, FmB (N 17) 300 s' hd tl) ∧ (N 0 16 = 0 ∨ (N 0 16 = 1 ∧ FmO c s z (N 17) (R 18))) ∧ (N 0 17 = 0 ∨ UtQ c s z (N 0 17))
theorem FmP.cg {c c' : Nat → Int32} {s z : Nat} {N : Nt} {R : Rt} (h : FmP c s z N R) (hc : ∀ i, i < z → c i = c' i) : FmP c' s z N R := by
  obtain ⟨h1, h2, h3⟩ := h
  refine ⟨h1, ?_, ?_⟩
  · rcases h2 with q | ⟨q, w⟩
    · exact Or.inl q
    · refine Or.inr ⟨q, ?_⟩
      unfold FmO at *
      rw [← seq0_cg s hc (z_or1 z), ← ngd_cg hc (z_or1 z)]
      exact w
  · rcases h3 with q | q
    · exact Or.inl q
    · exact Or.inr (UtQ_cg hc q)
theorem FmP.new {c : Nat → Int32} {s z : Nat} {N : Nt} {R : Rt} (h : ∃ s' hd tl, FmB (N 17) 300 s' hd tl) (h1 : N 0 16 = 0) (h2 : N 0 17 = 0) : FmP c s z N R := ⟨h, Or.inl h1, Or.inl h2⟩
/-! parity of a power -/
theorem and1_iff (x : Int32) : x &&& 1 = 0 ↔ x.toBitVec.toNat % 2 = 0 := by
  have e : (x &&& 1).toBitVec.toNat = x.toBitVec.toNat % 2 := by
    rw [Int32.toBitVec_and, BitVec.toNat_and]
    exact Nat.and_one_is_mod _
  constructor
  · intro h
    rw [← e, h]
    rfl
  · intro h
    apply Int32.toBitVec_inj.1
    apply BitVec.eq_of_toNat_eq
    rw [e, h]
    rfl
theorem nI_bits : ∀ n, n < 601 → (nI n).toBitVec.toNat = n := by decide +kernel
theorem par_pow {u h : Nat} (hu : u < 601) (hh : h < 601) : (-nI u + nI h) &&& 1 = 0 ↔ (u + h) % 2 = 0 := by
  rw [and1_iff, Int32.toBitVec_add, Int32.toBitVec_neg, BitVec.toNat_add, BitVec.toNat_neg, nI_bits u hu, nI_bits h hh]
  omega
theorem neg_add2 (u v : Nat) : -nI u - nI v = -nI (u + v) := by
  rw [← nI_add, Int32.neg_add]
theorem PatOK_uq {T : Rt} {j s z s' z' : Nat} (h : PatOK T j s z) (h' : PatOK T j s' z') : s = s' ∧ z = z' := by
  obtain ⟨a1, a2, a3, a4, a5, -⟩ := h
  obtain ⟨b1, b2, b3, b4, b5, -⟩ := h'
  exact ⟨(nI_eq (by omega) (by omega)).mp (a1.symm.trans b1), (nI_eq (by omega) (by omega)).mp (a4.symm.trans b4)⟩
