/-! the factors of a row made once more; where the straws of a form come -/
theorem ngd_at (c : Nat → Int32) {z i : Nat} (hi : i < z) : ngd c z z (z - i) = ngd c z z (z - 1 - i) + if c i < 0 then 1 else 0 := by
  have e : z - i = (z - 1 - i) + 1 := by omega
  rw [e]
  show ngd c z z (z - 1 - i) + (if c ((z - 1 - (z - 1 - i)) % z) < 0 then 1 else 0) = _
  rw [show z - 1 - (z - 1 - i) = i by omega, Nat.mod_eq_of_lt hi]
theorem ngd_low (c : Nat → Int32) {z k : Nat} : ∀ d, d ≤ z → ngd c z (z * (k + 1)) d = ngd c z z d
  | 0, _ => rfl
  | d + 1, h => by
    have ih := ngd_low c (z := z) (k := k) d (by omega)
    have e : (z * (k + 1) - 1 - d) % z = (z - 1 - d) % z := by
      rw [show z * (k + 1) - 1 - d = (z - 1 - d) + z * k by rw [Nat.mul_succ]; omega, Nat.add_mul_mod_self_left]
    unfold ngd
    rw [ih, e]
theorem ngd_up (c : Nat → Int32) {z k : Nat} : ∀ d, d ≤ z * k → ngd c z (z * (k + 1)) (z + d) = ngd c z z z + ngd c z (z * k) d
  | 0, _ => ngd_low c z (Nat.le_refl _)
  | d + 1, h => by
    have ih := ngd_up c (z := z) (k := k) d (by omega)
    have e : z * (k + 1) - 1 - (z + d) = z * k - 1 - d := by rw [Nat.mul_succ]; omega
    show ngd c z (z * (k + 1)) (z + d) + (if c ((z * (k + 1) - 1 - (z + d)) % z) < 0 then 1 else 0) = ngd c z z z + (ngd c z (z * k) d + (if c ((z * k - 1 - d) % z) < 0 then 1 else 0))
    rw [ih, e, Nat.add_assoc]
theorem ngd_all (c : Nat → Int32) (z : Nat) : ∀ k, ngd c z (z * k) (z * k) = k * ngd c z z z
  | 0 => by rw [Nat.mul_zero, Nat.zero_mul]; rfl
  | k + 1 => by
    have h := ngd_up c (z := z) (k := k) (z * k) (Nat.le_refl _)
    rw [ngd_all c z k] at h
    rw [show z * (k + 1) = z + z * k by rw [Nat.mul_succ]; omega] at h ⊢
    rw [h, Nat.succ_mul]
    omega
theorem seq0_new (c : Nat → Int32) (s : Nat) {z k i : Nat} (hi : i < z) : seq0 c s z (z * (k + 1)) (z * k + i) = if ngd c z z (z - 1 - i) % 2 = 1 then turnF s (e0F s (c i)) else e0F s (c i) := by
  unfold seq0
  rw [if_pos (by rw [Nat.mul_succ]; omega), show z * (k + 1) - 1 - (z * k + i) = z - 1 - i by rw [Nat.mul_succ]; omega, ngd_low c _ (by omega), show (z * k + i) % z = i by rw [Nat.add_comm, Nat.add_mul_mod_self_left, Nat.mod_eq_of_lt hi]]
theorem seq0_old {c : Nat → Int32} {s z k q : Nat} (hs : s ≤ 7) (hok : ∀ i, i < z → okC s (c i)) (hq : q < z * k) : seq0 c s z (z * (k + 1)) q = if ngd c z z z % 2 = 1 then turnF s (seq0 c s z (z * k) q) else seq0 c s z (z * k) q := by
  have hz : 0 < z := by
    rcases Nat.eq_zero_or_pos z with w | w
    · rw [w, Nat.zero_mul] at hq; omega
    · exact w
  have hc := e0F_can (hok (q % z) (Nat.mod_lt _ hz)) hs
  have ed : z * (k + 1) - 1 - q = z + (z * k - 1 - q) := by rw [Nat.mul_succ]; omega
  unfold seq0
  rw [if_pos (by rw [Nat.mul_succ]; omega), if_pos hq, ed, ngd_up c _ (by omega)]
  generalize ngd c z z z = u
  generalize ngd c z (z * k) (z * k - 1 - q) = v
  by_cases h1 : u % 2 = 1
  · rw [if_pos h1]
    by_cases h2 : v % 2 = 1
    · rw [if_pos h2, if_neg (by omega), turnF_turn hc]
    · rw [if_neg h2, if_pos (by omega)]
  · rw [if_neg h1]
    by_cases h2 : v % 2 = 1
    · rw [if_pos h2, if_pos (by omega)]
    · rw [if_neg h2, if_neg (by omega)]
theorem seq0_canF {c : Nat → Int32} {s z all : Nat} (hs : s ≤ 7) (hz : 0 < z ∨ all = 0) (hok : ∀ i, i < z → okC s (c i)) : ∀ f, CanF s (seq0 c s z all f) := (seq0_can hs hz hok).1
theorem pre_all (c : Nat → Int32) (s z all : Nat) : pre (seq0 c s z all) all = seq0 c s z all := by
  refine sq_ext fun f => ?_
  unfold pre
  by_cases h : f < all
  · rw [if_pos h]
  · rw [if_neg h]
    unfold seq0
    rw [if_neg h]
theorem FN.nf {c : Nat → Int32} {s z all hd tl : Nat} {B : Sq} (h : FN (seq0 c s z all) s all hd tl B) : NFof c s z all tl hd B := by
  obtain ⟨h1, h2, h3, h4, h5, h6, h7, h8⟩ := h
  rw [pre_all] at h3
  exact ⟨h1, h2, h3, fun k i _ hm => h4 k i hm.1 hm.2.1 hm.2.2.1 hm.2.2.2, h5, h6, h7, h8⟩
/-- where the straw at x comes, behind the first n factors -/
def prd (B : Sq) : Nat → Nat → Nat
  | 0, x => x
  | n + 1, x => B n (prd B n x)
theorem prd_congr {A B : Sq} : ∀ n, (∀ f, f < n → A f = B f) → ∀ x, prd A n x = prd B n x
  | 0, _, _ => rfl
  | n + 1, h, x => by
    show A n (prd A n x) = B n (prd B n x)
    rw [prd_congr n (fun f hf => h f (by omega)) x, h n (by omega)]
theorem prd_mv {A : Sq} {k i : Nat} : ∀ n, k + 2 ≤ n → ∀ x, prd (mvS A k i) n x = prd A n x
  | 0, h, _ => by omega
  | n + 1, h, x => by
    by_cases e : n = k + 1
    · subst e
      show mvS A k i (k + 1) (mvS A k i k (prd (mvS A k i) k x)) = A (k + 1) (A k (prd A k x))
      rw [prd_congr (B := A) k (fun f hf => mvS_o A (by omega) (by omega)) x, mvS_k, mvS_k1]
      show A (k + 1) (sw i (sw i (A k (prd A k x)))) = _
      rw [sw_sw]
    · show mvS A k i n (prd (mvS A k i) n x) = A n (prd A n x)
      rw [prd_mv n (by omega) x, mvS_o A (by omega) (by omega)]
theorem Rch.prdE {s N : Nat} {A B : Sq} (h : Rch s N A B) : ∀ x, prd B N x = prd A N x :=
  h (fun W => ∀ x, prd W N x = prd A N x) (fun _ => rfl) (fun U W q hst x => by
    obtain ⟨k, i, hk, -, rfl⟩ := hst
    rw [prd_mv N (by omega) x]
    exact q x)
/-- turned or not -/
def rv (s t x : Nat) : Nat := if t % 2 = 1 then revF s x else x
theorem revF_rev (s x : Nat) : revF s (revF s x) = x := by
  unfold revF
  by_cases e : 1 ≤ x ∧ x ≤ s
  · rw [if_pos e, if_pos (by omega)]
    omega
  · rw [if_neg e, if_neg e]
theorem revF_in {s x : Nat} (h1 : 1 ≤ x) (h2 : x ≤ s) : 1 ≤ revF s x ∧ revF s x ≤ s := by
  unfold revF
  rw [if_pos ⟨h1, h2⟩]
  omega
theorem rv_in {s t x : Nat} (h1 : 1 ≤ x) (h2 : x ≤ s) : 1 ≤ rv s t x ∧ rv s t x ≤ s := by
  unfold rv
  split
  · exact revF_in h1 h2
  · exact ⟨h1, h2⟩
theorem turnF_at {s y : Nat} {F : Nat → Nat} (h1 : 1 ≤ y) (h2 : y ≤ s) (hF : CanF s F) : turnF s F (revF s y) = revF s (F y) := by
  have a := hF.1.1 y h1 h2
  unfold turnF revF
  rw [if_pos (show 1 ≤ y ∧ y ≤ s from ⟨h1, h2⟩), if_pos (by omega), if_pos (show 1 ≤ F y ∧ F y ≤ s from a), show s + 1 - (s + 1 - y) = y by omega]
/-- one factor of the row: as its crossing does, turned -/
theorem one_at {s t y : Nat} {c : Int32} (hs : s ≤ 7) (hc : okC s c) (h1 : 1 ≤ y) (h2 : y ≤ s) : (if t % 2 = 1 then turnF s (e0F s c) else e0F s c) (rv s (t + if c < 0 then 1 else 0) y) = rv s t (sw (ai c) y) := by
  have ha := okC_ai hc hs
  have he := e0F_can hc hs
  have hsg : (c < 0 ∧ ¬ 0 < c) ∨ (¬ c < 0 ∧ 0 < c) := by
    obtain ⟨i, i1, i2, rfl | rfl⟩ := hc
    · exact Or.inr ⟨nI_pos (by omega), pos_nI i1 (by omega)⟩
    · exact Or.inl ⟨neg_lt0 i1 (by omega), neg_npos i1 (by omega)⟩
  rcases hsg with ⟨n1, n2⟩ | ⟨n1, n2⟩
  · have e0 : ∀ x, e0F s c x = sw (ai c) (revF s x) := fun x => by
      unfold e0F mvL
      rw [if_neg n2]
    rw [if_pos n1]
    by_cases ht : t % 2 = 1
    · rw [if_pos ht]
      unfold rv
      rw [if_neg (by omega), if_pos ht]
      have r := revF_in (s := s) h1 h2
      have := turnF_at (F := e0F s c) r.1 r.2 he
      rw [revF_rev, e0, revF_rev] at this
      exact this
    · rw [if_neg ht]
      unfold rv
      rw [if_pos (by omega), if_neg ht, e0, revF_rev]
  · have e0 : ∀ x, e0F s c x = sw (ai c) x := fun x => by
      unfold e0F mvL
      rw [if_pos n2]
      rfl
    rw [if_neg n1, Nat.add_zero]
    by_cases ht : t % 2 = 1
    · rw [if_pos ht]
      unfold rv
      rw [if_pos ht, if_pos ht, turnF_at h1 h2 he, e0]
    · rw [if_neg ht]
      unfold rv
      rw [if_neg ht, if_neg ht, e0]
/-- where a row, made over and over, brings the straw at y, behind its first q crossings -/
def gM (c : Nat → Int32) (z : Nat) : Nat → Nat → Nat
  | 0, y => y
  | q + 1, y => sw (ai (c (q % z))) (gM c z q y)
theorem gM_in {c : Nat → Int32} {s z y : Nat} (hs : s ≤ 7) (hz : 0 < z) (hok : ∀ i, i < z → okC s (c i)) (h1 : 1 ≤ y) (h2 : y ≤ s) : ∀ q, 1 ≤ gM c z q y ∧ gM c z q y ≤ s
  | 0 => ⟨h1, h2⟩
  | q + 1 => by
    have ih := gM_in hs hz hok h1 h2 q
    have ha := okC_ai (hok (q % z) (Nat.mod_lt _ hz)) hs
    exact sw_in ha.1 ha.2 ih.1 ih.2
theorem prd_seq {c : Nat → Int32} {s z all y : Nat} (hs : s ≤ 7) (hz : 0 < z) (hok : ∀ i, i < z → okC s (c i)) (h1 : 1 ≤ y) (h2 : y ≤ s) : ∀ q, q ≤ all → prd (seq0 c s z all) q (rv s (ngd c z all all) y) = rv s (ngd c z all (all - q)) (gM c z q y)
  | 0, _ => rfl
  | q + 1, hq => by
    have ih := prd_seq (all := all) hs hz hok h1 h2 q (by omega)
    show seq0 c s z all q (prd (seq0 c s z all) q _) = _
    rw [ih]
    have en : ngd c z all (all - q) = ngd c z all (all - (q + 1)) + if c (q % z) < 0 then 1 else 0 := by
      rw [show all - q = (all - (q + 1)) + 1 by omega]
      show ngd c z all (all - (q + 1)) + (if c ((all - 1 - (all - (q + 1))) % z) < 0 then 1 else 0) = _
      rw [show all - 1 - (all - (q + 1)) = q by omega]
    have g := gM_in hs hz hok h1 h2 q
    have o := one_at (t := ngd c z all (all - (q + 1))) hs (hok (q % z) (Nat.mod_lt _ hz)) g.1 g.2
    rw [en]
    refine Eq.trans ?_ o
    unfold seq0
    rw [if_pos (by omega), show all - 1 - q = all - (q + 1) by omega]
theorem prd_rev {s n : Nat} {B : Sq} (hr : ∀ f, f < n → B f = revF s) (hi : ∀ f, n ≤ f → B f = idF) (x : Nat) : ∀ m, prd B m x = rv s (if m ≤ n then m else n) x
  | 0 => by
    rw [if_pos (Nat.zero_le _)]
    rfl
  | m + 1 => by
    have ih := prd_rev hr hi x m
    show B m (prd B m x) = _
    rw [ih]
    by_cases h : m < n
    · rw [hr m h, if_pos (by omega), if_pos (by omega)]
      unfold rv
      by_cases q : m % 2 = 1
      · rw [if_pos q, if_neg (by omega), revF_rev]
      · rw [if_neg q, if_pos (by omega)]
    · rw [hi m (by omega), if_neg (show ¬ m + 1 ≤ n by omega)]
      by_cases e : m = n
      · subst e
        rw [if_pos (Nat.le_refl _)]
        rfl
      · rw [if_neg (by omega)]
        rfl
theorem gM_z (c : Nat → Int32) {z : Nat} (y k : Nat) : ∀ i, i ≤ z → gM c z (z * k + i) y = gT c i (gM c z (z * k) y)
  | 0, _ => rfl
  | i + 1, h => by
    have ih := gM_z c (z := z) y k i (by omega)
    show sw (ai (c ((z * k + i) % z))) (gM c z (z * k + i) y) = sw (ai (c i)) (gT c i (gM c z (z * k) y))
    rw [ih, show (z * k + i) % z = i by rw [Nat.add_comm, Nat.add_mul_mod_self_left, Nat.mod_eq_of_lt (by omega)]]
theorem gM_all (c : Nat → Int32) (z y : Nat) : ∀ k, gM c z (z * k) y = itr (gT c z) k y
  | 0 => by rw [Nat.mul_zero]; rfl
  | k + 1 => by
    rw [Nat.mul_succ, gM_z c y k z (Nat.le_refl _), gM_all c z y k]
    rfl
/-- an even power of D brings every straw home -/
theorem even_home {c : Nat → Int32} {s z m : Nat} (hs : s ≤ 7) (hok : ∀ i, i < z → okC s (c i)) (h : evenAt c s z m) : homeAt (gT c z) s m := by
  intro p p1 p2
  rcases Nat.eq_zero_or_pos z with w | hz
  · subst w
    rw [← gM_all, Nat.zero_mul]
    rfl
  · obtain ⟨n, B, ⟨a1, a2, a3, a4, a5, a6, a7, a8⟩, he⟩ := h
    have e1 := a3.prdE (rv s (ngd c z (z * m) (z * m)) p)
    have e2 := prd_seq (all := z * m) hs hz hok p1 p2 (z * m) (Nat.le_refl _)
    have e3 := prd_rev a7 a5 (rv s (ngd c z (z * m) (z * m)) p) (z * m)
    rw [e1, e2, Nat.sub_self] at e3
    have e4 : rv s (ngd c z (z * m) 0) (gM c z (z * m) p) = gM c z (z * m) p := rfl
    rw [e4, gM_all] at e3
    rw [e3]
    have e5 : (if z * m ≤ n then z * m else n) = n := by
      split
      · omega
      · rfl
    rw [e5]
    unfold rv
    by_cases q : n % 2 = 1
    · rw [if_pos q, if_pos (by omega), revF_rev]
    · rw [if_neg q, if_neg (by omega)]
