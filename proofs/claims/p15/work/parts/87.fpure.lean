/-! packed permutations -/
theorem and_or_r (a b c : Int32) : (a ||| b) &&& c = (a &&& c) ||| (b &&& c) := by
  apply Int32.toBitVec_inj.1
  apply BitVec.eq_of_getLsbD_eq
  intro i hi
  simp [Bool.and_or_distrib_right]
def sh (p x : Nat) : Int32 := nI p <<< (nI (3 * x - 3) &&& 31)
def ext (v : Int32) (y : Nat) : Int32 := (v >>> (nI (3 * y - 3) &&& 31)) &&& 7
theorem ext_or (a b : Int32) (y : Nat) : ext (a ||| b) y = ext a y ||| ext b y := by
  unfold ext
  rw [Int32.shiftRight_or, and_or_r]
theorem ext_sh : ∀ p, p < 8 → ∀ x, x < 8 → ∀ y, y < 8 → 1 ≤ x → 1 ≤ y → ext (sh p x) y = if x = y then nI p else 0 := by decide +kernel
theorem ext_0 (y : Nat) : ext 0 y = 0 := by
  unfold ext
  rw [Int32.zero_shiftRight]
  rfl
def canN (v : Int32) : Nat → Int32
  | 0 => 0
  | y + 1 => canN v y ||| (ext v (y + 1) <<< (nI (3 * (y + 1) - 3) &&& 31))
theorem or_mid (a b c d : Int32) : (a ||| b) ||| (c ||| d) = (a ||| c) ||| (b ||| d) := by
  rw [Int32.or_assoc, Int32.or_assoc, ← Int32.or_assoc b c d, Int32.or_comm b c, Int32.or_assoc c b d]
theorem canN_or (a b : Int32) : ∀ n, canN (a ||| b) n = canN a n ||| canN b n
  | 0 => Int32.or_self.symm
  | n + 1 => by
    unfold canN
    rw [canN_or a b n, ext_or, Int32.shiftLeft_or, or_mid]
theorem canN_sh : ∀ p, p < 8 → ∀ x, x < 8 → 1 ≤ x → canN (sh p x) 7 = sh p x := by decide +kernel
theorem canN_0 : canN 0 7 = 0 := by decide +kernel
/-- an OR of digits, each at its place -/
def Cd (v : Int32) : Prop := canN v 7 = v
theorem Cd.or {a b : Int32} (ha : Cd a) (hb : Cd b) : Cd (a ||| b) := by
  unfold Cd at *
  rw [canN_or, ha, hb]
theorem canN_congr {v w : Int32} : ∀ n, (∀ y, 1 ≤ y → y ≤ n → ext v y = ext w y) → canN v n = canN w n
  | 0, _ => rfl
  | n + 1, h => by
    unfold canN
    rw [canN_congr n (fun y h1 h2 => h y h1 (by omega)), h (n + 1) (by omega) (by omega)]
theorem Cd.eq {v w : Int32} (hv : Cd v) (hw : Cd w) (h : ∀ y, 1 ≤ y → y ≤ 7 → ext v y = ext w y) : v = w := by
  rw [← hv, ← hw]
  exact canN_congr 7 h
theorem codeF_s (F : Nat → Nat) (x : Nat) : codeF F (x + 1) = codeF F x ||| sh (F (x + 1)) (x + 1) := rfl
theorem codeF_Cd {F : Nat → Nat} : ∀ s, s ≤ 7 → (∀ x, 1 ≤ x → x ≤ s → F x ≤ 7) → Cd (codeF F s)
  | 0, _, _ => canN_0
  | s + 1, hs, h => by
    rw [codeF_s]
    have h1 := h (s + 1) (by omega) (by omega)
    exact (codeF_Cd s (by omega) (fun x a b => h x a (by omega))).or (canN_sh _ (by omega) _ (by omega) (by omega))
theorem codeF_ext {F : Nat → Nat} : ∀ s, s ≤ 7 → (∀ x, 1 ≤ x → x ≤ s → F x ≤ 7) → ∀ y, 1 ≤ y → y ≤ 7 → ext (codeF F s) y = if y ≤ s then nI (F y) else 0
  | 0, _, _, y, h1, _ => by
    rw [if_neg (by omega)]
    exact ext_0 y
  | s + 1, hs, h, y, h1, h7 => by
    have h2 := h (s + 1) (by omega) (by omega)
    rw [codeF_s, ext_or, codeF_ext s (by omega) (fun x a b => h x a (by omega)) y h1 h7, ext_sh _ (by omega) _ (by omega) y (by omega) (by omega) h1]
    by_cases e : s + 1 = y
    · rw [if_neg (by omega), if_pos e, if_pos (by omega), Int32.zero_or, e]
    · rw [if_neg e, Int32.or_zero]
      by_cases q : y ≤ s
      · rw [if_pos q, if_pos (by omega)]
      · rw [if_neg q, if_neg (by omega)]
/-- two codes are one just if the permutations are -/
theorem codeF_inj {F H : Nat → Nat} {s : Nat} (hs : s ≤ 7) (hF : ∀ x, 1 ≤ x → x ≤ s → F x ≤ 7) (hH : ∀ x, 1 ≤ x → x ≤ s → H x ≤ 7) : codeF F s = codeF H s ↔ ∀ x, 1 ≤ x → x ≤ s → F x = H x := by
  constructor
  · intro e x h1 h2
    have a := codeF_ext s hs hF x h1 (by omega)
    have b := codeF_ext s hs hH x h1 (by omega)
    rw [if_pos h2] at a b
    rw [e, b] at a
    have := hF x h1 h2
    have := hH x h1 h2
    exact ((nI_eq (by omega) (by omega)).mp a).symm
  · intro h
    refine (codeF_Cd s hs hF).eq (codeF_Cd s hs hH) fun y h1 h7 => ?_
    rw [codeF_ext s hs hF y h1 h7, codeF_ext s hs hH y h1 h7]
    by_cases q : y ≤ s
    · rw [if_pos q, if_pos q, h y h1 q]
    · rw [if_neg q, if_neg q]
/-- packed out of the places that the straws come from -/
def codeI (cf : Nat → Nat) : Nat → Int32
  | 0 => 0
  | p + 1 => codeI cf p ||| sh (p + 1) (cf (p + 1))
theorem codeI_Cd {cf : Nat → Nat} : ∀ n, n ≤ 7 → (∀ p, 1 ≤ p → p ≤ n → 1 ≤ cf p ∧ cf p ≤ 7) → Cd (codeI cf n)
  | 0, _, _ => canN_0
  | n + 1, hn, h => by
    have h1 := h (n + 1) (by omega) (by omega)
    exact (codeI_Cd n (by omega) (fun p a b => h p a (by omega))).or (canN_sh _ (by omega) _ (by omega) (by omega))
theorem codeI_no {cf : Nat → Nat} {y : Nat} (h1 : 1 ≤ y) (h7 : y ≤ 7) : ∀ n, n ≤ 7 → (∀ p, 1 ≤ p → p ≤ n → 1 ≤ cf p ∧ cf p ≤ 7 ∧ cf p ≠ y) → ext (codeI cf n) y = 0
  | 0, _, _ => ext_0 y
  | n + 1, hn, h => by
    have h2 := h (n + 1) (by omega) (by omega)
    show ext (codeI cf n ||| sh (n + 1) (cf (n + 1))) y = 0
    rw [ext_or, codeI_no h1 h7 n (by omega) (fun p a b => h p a (by omega)), ext_sh _ (by omega) _ (by omega) y (by omega) (by omega) h1, if_neg h2.2.2]
    rfl
theorem codeI_at {cf : Nat → Nat} {p : Nat} (h1 : 1 ≤ p) : ∀ n, n ≤ 7 → p ≤ n → (∀ q, 1 ≤ q → q ≤ n → 1 ≤ cf q ∧ cf q ≤ 7) → (∀ a b, 1 ≤ a → a ≤ n → 1 ≤ b → b ≤ n → cf a = cf b → a = b) → ext (codeI cf n) (cf p) = nI p
  | 0, _, h, _, _ => by omega
  | n + 1, hn, hp, h, hi => by
    have hp2 := h p h1 hp
    have h2 := h (n + 1) (by omega) (by omega)
    show ext (codeI cf n ||| sh (n + 1) (cf (n + 1))) (cf p) = nI p
    rw [ext_or, ext_sh _ (by omega) _ (by omega) _ (by omega) (by omega) hp2.1]
    by_cases e : p = n + 1
    · subst e
      rw [if_pos rfl, codeI_no hp2.1 hp2.2 n (by omega) (fun q a b => ⟨(h q a (by omega)).1, (h q a (by omega)).2, fun w => by have := hi q (n + 1) a (by omega) (by omega) (by omega) w; omega⟩), Int32.zero_or]
    · rw [if_neg (fun w => e (hi p (n + 1) h1 hp (by omega) (by omega) w.symm)), Int32.or_zero]
      exact codeI_at h1 n (by omega) (by omega) (fun q a b => h q a (by omega)) (fun a b a1 a2 b1 b2 w => hi a b a1 (by omega) b1 (by omega) w)
theorem codeI_eq {F cf : Nat → Nat} {s : Nat} (hs : s ≤ 7) (hF : PermOn F s) (hc : ∀ x, 1 ≤ x → x ≤ s → cf (F x) = x) : codeI cf s = codeF F s := by
  have hFb : ∀ x, 1 ≤ x → x ≤ s → F x ≤ 7 := fun x a b => by have := hF.1 x a b; omega
  have hcb : ∀ p, 1 ≤ p → p ≤ s → 1 ≤ cf p ∧ cf p ≤ s := fun p a b => by
    obtain ⟨x, x1, x2, e⟩ := perm_surj hF a b
    rw [← e, hc x x1 x2]
    exact ⟨x1, x2⟩
  have hci : ∀ a b, 1 ≤ a → a ≤ s → 1 ≤ b → b ≤ s → cf a = cf b → a = b := fun a b a1 a2 b1 b2 w => by
    obtain ⟨x, x1, x2, ex⟩ := perm_surj hF a1 a2
    obtain ⟨y, y1, y2, ey⟩ := perm_surj hF b1 b2
    rw [← ex, ← ey, hc x x1 x2, hc y y1 y2] at w
    rw [← ex, ← ey, w]
  refine (codeI_Cd s hs (fun p a b => ⟨(hcb p a b).1, by have := (hcb p a b).2; omega⟩)).eq (codeF_Cd s hs hFb) fun y h1 h7 => ?_
  rw [codeF_ext s hs hFb y h1 h7]
  by_cases q : y ≤ s
  · rw [if_pos q]
    have hy := hF.1 y h1 q
    have e := codeI_at (cf := cf) (p := F y) hy.1 s hs hy.2 (fun p a b => ⟨(hcb p a b).1, by have := (hcb p a b).2; omega⟩) hci
    rw [hc y h1 q] at e
    exact e
  · rw [if_neg q]
    exact codeI_no h1 h7 s hs (fun p a b => ⟨(hcb p a b).1, by have := (hcb p a b).2; omega, by have := (hcb p a b).2; omega⟩)
/-- inversions: how many of the first n have a greater value; their sum -/
def cnt (H : Nat → Nat) (v : Nat) : Nat → Nat
  | 0 => 0
  | n + 1 => cnt H v n + (if v < H (n + 1) then 1 else 0)
def inv (H : Nat → Nat) : Nat → Nat
  | 0 => 0
  | n + 1 => inv H n + cnt H (H (n + 1)) n
theorem cnt_le {H : Nat → Nat} {v : Nat} : ∀ n, cnt H v n ≤ n
  | 0 => Nat.le_refl _
  | n + 1 => by
    have := cnt_le (H := H) (v := v) n
    unfold cnt
    split <;> omega
theorem inv_le {H : Nat → Nat} : ∀ n, n ≤ 7 → inv H n ≤ 21 := by
  intro n hn
  have key : ∀ m, inv H m ≤ m * (m - 1) / 2 := by
    intro m
    induction m with
    | zero => exact Nat.le_refl _
    | succ m ih =>
      have := cnt_le (H := H) (v := H (m + 1)) m
      unfold inv
      have e : (m + 1) * (m + 1 - 1) / 2 = m * (m - 1) / 2 + m := by
        rw [Nat.add_sub_cancel]
        cases m with
        | zero => rfl
        | succ k =>
          have : (k + 1 + 1) * (k + 1) = (k + 1) * (k + 1 - 1) + (k + 1) * 2 := by
            rw [Nat.add_sub_cancel, ← Nat.mul_add, Nat.mul_comm]
          rw [this, Nat.add_mul_div_right _ _ (by decide)]
      omega
  have k := key n
  rcases (show n = 0 ∨ n = 1 ∨ n = 2 ∨ n = 3 ∨ n = 4 ∨ n = 5 ∨ n = 6 ∨ n = 7 by omega) with rfl | rfl | rfl | rfl | rfl | rfl | rfl | rfl <;> simp at k <;> omega
theorem cnt_low {H H' : Nat → Nat} {v : Nat} : ∀ n, (∀ x, 1 ≤ x → x ≤ n → H' x = H x) → cnt H' v n = cnt H v n
  | 0, _ => rfl
  | n + 1, h => by
    unfold cnt
    rw [cnt_low n (fun x a b => h x a (by omega)), h (n + 1) (by omega) (by omega)]
/-- two neighbours changed: as many are greater -/
theorem cnt_sw {H : Nat → Nat} {v i : Nat} (h1 : 1 ≤ i) : ∀ n, i + 1 ≤ n → cnt (mvR i H) v n = cnt H v n
  | 0, h => by omega
  | n + 1, h => by
    by_cases e : n = i
    · subst e
      obtain ⟨k, rfl⟩ : ∃ k, n = k + 1 := ⟨n - 1, by omega⟩
      unfold cnt
      unfold cnt
      have a1 : mvR (k + 1) H (k + 1 + 1) = H (k + 1) := by unfold mvR sw; rw [if_neg (by omega), if_pos rfl]
      have a2 : mvR (k + 1) H (k + 1) = H (k + 1 + 1) := by unfold mvR sw; rw [if_pos rfl]
      rw [a1, a2, cnt_low k (fun x b1 b2 => by unfold mvR sw; rw [if_neg (by omega), if_neg (by omega)])]
      omega
    · unfold cnt
      have a : mvR i H (n + 1) = H (n + 1) := by unfold mvR sw; rw [if_neg (by omega), if_neg (by omega)]
      rw [cnt_sw h1 n (by omega), a]
/-- a neighbour's change that lessens takes one inversion away -/
theorem inv_sw {H : Nat → Nat} {i : Nat} (h1 : 1 ≤ i) (hd : H (i + 1) < H i) : ∀ n, i + 1 ≤ n → inv (mvR i H) n + 1 = inv H n
  | 0, h => by omega
  | n + 1, h => by
    by_cases e : n = i
    · subst e
      obtain ⟨k, rfl⟩ : ∃ k, n = k + 1 := ⟨n - 1, by omega⟩
      have a1 : mvR (k + 1) H (k + 1 + 1) = H (k + 1) := by unfold mvR sw; rw [if_neg (by omega), if_pos rfl]
      have a2 : mvR (k + 1) H (k + 1) = H (k + 1 + 1) := by unfold mvR sw; rw [if_pos rfl]
      have low : ∀ x, 1 ≤ x → x ≤ k → mvR (k + 1) H x = H x := fun x b1 b2 => by unfold mvR sw; rw [if_neg (by omega), if_neg (by omega)]
      have il : ∀ m, m ≤ k → inv (mvR (k + 1) H) m = inv H m := by
        intro m
        induction m with
        | zero => intro _; rfl
        | succ m ih =>
          intro hm
          unfold inv
          rw [ih (by omega), low (m + 1) (by omega) hm, cnt_low m (fun x b1 b2 => low x b1 (by omega))]
      have e1 : inv (mvR (k + 1) H) (k + 1 + 1) = inv H k + cnt H (H (k + 1 + 1)) k + cnt (mvR (k + 1) H) (H (k + 1)) (k + 1) := by
        show inv (mvR (k + 1) H) k + cnt (mvR (k + 1) H) (mvR (k + 1) H (k + 1)) k + cnt (mvR (k + 1) H) (mvR (k + 1) H (k + 1 + 1)) (k + 1) = _
        rw [a1, a2, il k (Nat.le_refl _), cnt_low k low]
      have e2 : cnt (mvR (k + 1) H) (H (k + 1)) (k + 1) = cnt H (H (k + 1)) k := by
        show cnt (mvR (k + 1) H) (H (k + 1)) k + (if H (k + 1) < mvR (k + 1) H (k + 1) then 1 else 0) = _
        rw [a2, if_neg (by omega), cnt_low k low]
        rfl
      have e3 : inv H (k + 1 + 1) = inv H k + cnt H (H (k + 1)) k + (cnt H (H (k + 1 + 1)) k + 1) := by
        show inv H k + cnt H (H (k + 1)) k + (cnt H (H (k + 1 + 1)) k + (if H (k + 1 + 1) < H (k + 1) then 1 else 0)) = _
        rw [if_pos hd]
      rw [e1, e2, e3]
      omega
    · have a : mvR i H (n + 1) = H (n + 1) := by unfold mvR sw; rw [if_neg (by omega), if_neg (by omega)]
      have ih := inv_sw h1 hd n (by omega)
      show inv (mvR i H) n + cnt (mvR i H) (mvR i H (n + 1)) n + 1 = inv H n + cnt H (H (n + 1)) n
      rw [a, cnt_sw h1 n (by omega)]
      omega
