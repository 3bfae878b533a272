/-! the reference: thrown, right, wrong, isDigit, now, skip, fault, size, isPattern, lays, feed -/
theorem up_same {α : Type} {f : Nat → α} {k : Nat} {v : α} (h : f k = v) : va_up f k v = f := by
  funext j
  unfold va_up
  split
  · next e => rw [e, h]
  · rfl
theorem up_up {α : Type} {f : Nat → α} {k : Nat} {v w : α} : va_up (va_up f k v) k w = va_up f k w := by
  funext j
  unfold va_up
  split <;> rfl
def rightM (M : Mt) (b w : Int32) : Mt := if M 0 = 0 ∧ b = 0 then va_up M 0 w else M
section M1
variable (G : Gx) (h : Nat) (ad : Nat → Nat) (M : Mt) (R : Rt)
theorem c_thrown : mI G h ad yX7_thrown cX7_thrown 1 .int 0 [] M R (fun r M' R' => r = M 0 ∧ M' = M ∧ R' = R) := by
  refine mI.intro (by decide) (Nat.le_of_ble_eq_true rfl) (cat1 (xs := [])) fun X C hR => ?_
  refine r_aload_n C dX7_thrown_0 rfl rfl ?_
  refine mg_thrown C dX7_thrown_1 ?_
  exact hR _ _ _ _ _ rfl dX7_thrown_4 ⟨rfl, rfl, rfl⟩
theorem c_right (b w : Int32) : mI G h ad yX7_right cX7_right 3 .boolean 0 [.int b, .int w] M R (fun r M' R' => R' = R ∧ M' = rightM M b w ∧ r = if rightM M b w 0 = 0 then 1 else 0) := by
  refine mI.intro (by decide) (Nat.le_of_ble_eq_true rfl) (cat1 (xs := [b, w])) fun X C hR => ?_
  refine r_aload_n C dX7_right_0 rfl rfl ?_
  refine mg_thrown C dX7_right_1 ?_
  refine r_if_ne (tgt := 16) C dX7_right_4 (by decide) (fun c4 => ?_) (fun c4 => ?_)
  · refine r_aload_n C dX7_right_16 rfl rfl ?_
    refine mg_thrown C dX7_right_17 ?_
    refine r_if_ne (tgt := 27) C dX7_right_20 (by decide) (fun c20 => ?_) (fun c20 => ?_)
    · refine r_iconst (v := 0) C dX7_right_27 (by decide) ?_
      exact hR _ _ _ _ _ rfl dX7_right_28 (by unfold rightM; simp_all [va_up])
    · refine r_iconst (v := 1) C dX7_right_23 (by decide) ?_
      refine r_goto (tgt := 28) C dX7_right_24 (by decide) ?_
      exact hR _ _ _ _ _ rfl dX7_right_28 (by unfold rightM; simp_all [va_up])
  · refine r_iload_n C dX7_right_7 rfl rfl ?_
    refine r_if_ne (tgt := 16) C dX7_right_8 (by decide) (fun c8 => ?_) (fun c8 => ?_)
    · refine r_aload_n C dX7_right_16 rfl rfl ?_
      refine mg_thrown C dX7_right_17 ?_
      refine r_if_ne (tgt := 27) C dX7_right_20 (by decide) (fun c20 => ?_) (fun c20 => ?_)
      · refine r_iconst (v := 0) C dX7_right_27 (by decide) ?_
        exact hR _ _ _ _ _ rfl dX7_right_28 (by unfold rightM; simp_all [va_up])
      · refine r_iconst (v := 1) C dX7_right_23 (by decide) ?_
        refine r_goto (tgt := 28) C dX7_right_24 (by decide) ?_
        exact hR _ _ _ _ _ rfl dX7_right_28 (by unfold rightM; simp_all [va_up])
    · refine r_aload_n C dX7_right_11 rfl rfl ?_
      refine r_iload_n C dX7_right_12 rfl rfl ?_
      refine mp_thrown C dX7_right_13 ?_
      refine r_aload_n C dX7_right_16 rfl rfl ?_
      refine mg_thrown C dX7_right_17 ?_
      refine r_if_ne (tgt := 27) C dX7_right_20 (by decide) (fun c20 => ?_) (fun c20 => ?_)
      · refine r_iconst (v := 0) C dX7_right_27 (by decide) ?_
        exact hR _ _ _ _ _ rfl dX7_right_28 (by unfold rightM; simp_all [va_up])
      · refine r_iconst (v := 1) C dX7_right_23 (by decide) ?_
        refine r_goto (tgt := 28) C dX7_right_24 (by decide) ?_
        exact hR _ _ _ _ _ rfl dX7_right_28 (by unfold rightM; simp_all [va_up])
theorem c_wrong (kd pl : Int32) : mI G h ad yX7_wrong cX7_wrong 3 .boolean 0 [.int kd, .int pl] M R (fun r M' R' => r = 0 ∧ R' = R ∧ M' = if M 3 = 0 then va_up (va_up M 3 kd) 4 pl else M) := by
  refine mI.intro (by decide) (Nat.le_of_ble_eq_true rfl) (cat1 (xs := [kd, pl])) fun X C hR => ?_
  refine r_aload_n C dX7_wrong_0 rfl rfl ?_
  refine mg_faultKind C dX7_wrong_1 ?_
  refine r_if_ne (tgt := 17) C dX7_wrong_4 (by decide) (fun c4 => ?_) (fun c4 => ?_)
  · refine r_iconst (v := 0) C dX7_wrong_17 (by decide) ?_
    exact hR _ _ _ _ _ rfl dX7_wrong_18 (by simp_all)
  · refine r_aload_n C dX7_wrong_7 rfl rfl ?_
    refine r_iload_n C dX7_wrong_8 rfl rfl ?_
    refine mp_faultKind C dX7_wrong_9 ?_
    refine r_aload_n C dX7_wrong_12 rfl rfl ?_
    refine r_iload_n C dX7_wrong_13 rfl rfl ?_
    refine mp_faultPlace C dX7_wrong_14 ?_
    refine r_iconst (v := 0) C dX7_wrong_17 (by decide) ?_
    exact hR _ _ _ _ _ rfl dX7_wrong_18 (by simp_all)
theorem c_isDigit (c : Int32) : CI G yX7_isDigit cX7_isDigit 1 .boolean 0 0 0 [.int c] [] (S := Unit) (fun r _ => r = if 48 ≤ c ∧ c ≤ 57 then 1 else 0) (fun _ => []) := by
  refine CI.intro (by decide) (Nat.le_of_ble_eq_true rfl) (by intro v hv; simp at hv; subst hv; rfl) fun X C hR => ?_
  refine r_iload_n C dX7_isDigit_0 rfl rfl ?_
  refine r_bipush (v := 48) C dX7_isDigit_1 (by decide) ?_
  refine r_icmp_lt (tgt := 16) C dX7_isDigit_3 (by decide) (fun c3 => ?_) (fun c3 => ?_)
  · refine r_iconst (v := 0) C dX7_isDigit_16 (by decide) ?_
    exact hR _ _ _ _ _ () (Nat.le_refl _) (Nat.le_refl _) rfl (by first | (rw [if_pos ⟨Int32.not_lt.mp c3, Int32.not_lt.mp c9⟩]; done) | (rw [if_neg (fun q => absurd q.1 (Int32.not_le.mpr c3))]; done) | (rw [if_neg (fun q => absurd q.2 (Int32.not_le.mpr c9))]; done)) dX7_isDigit_17
  · refine r_iload_n C dX7_isDigit_6 rfl rfl ?_
    refine r_bipush (v := 57) C dX7_isDigit_7 (by decide) ?_
    refine r_icmp_gt (tgt := 16) C dX7_isDigit_9 (by decide) (fun c9 => ?_) (fun c9 => ?_)
    · refine r_iconst (v := 0) C dX7_isDigit_16 (by decide) ?_
      exact hR _ _ _ _ _ () (Nat.le_refl _) (Nat.le_refl _) rfl (by first | (rw [if_pos ⟨Int32.not_lt.mp c3, Int32.not_lt.mp c9⟩]; done) | (rw [if_neg (fun q => absurd q.1 (Int32.not_le.mpr c3))]; done) | (rw [if_neg (fun q => absurd q.2 (Int32.not_le.mpr c9))]; done)) dX7_isDigit_17
    · refine r_iconst (v := 1) C dX7_isDigit_12 (by decide) ?_
      refine r_goto (tgt := 17) C dX7_isDigit_13 (by decide) ?_
      exact hR _ _ _ _ _ () (Nat.le_refl _) (Nat.le_refl _) rfl (by first | (rw [if_pos ⟨Int32.not_lt.mp c3, Int32.not_lt.mp c9⟩]; done) | (rw [if_neg (fun q => absurd q.1 (Int32.not_le.mpr c3))]; done) | (rw [if_neg (fun q => absurd q.2 (Int32.not_le.mpr c9))]; done)) dX7_isDigit_17
theorem c_now {a e : Nat} (ha : M 9 = nI a) (he : M 8 = nI e) (h8 : e ≤ 800) (hae : a ≤ e) : mI G h ad yX7_now cX7_now 1 .int 0 [] M R (fun r M' R' => r = (if a < e then R 1 a else 0) ∧ M' = M ∧ R' = R) := by
  refine mI.intro (by decide) (Nat.le_of_ble_eq_true rfl) (cat1 (xs := [])) fun X C hR => ?_
  refine r_aload_n C dX7_now_0 rfl rfl ?_
  refine mg_at C dX7_now_1 ?_
  refine r_aload_n C dX7_now_4 rfl rfl ?_
  refine mg_end C dX7_now_5 ?_
  refine r_icmp_ge (tgt := 23) C dX7_now_8 (by decide) (fun c8 => ?_) (fun c8 => ?_)
  · rw [ha, he, nI_leI (by omega) (by omega)] at c8
    refine r_iconst (v := 0) C dX7_now_23 (by decide) ?_
    exact hR _ _ _ _ _ rfl dX7_now_24 ⟨by first | (rw [if_neg (by omega)]; done) | (rw [if_pos (by omega), ha, nI_clamp (by omega)]; done), rfl, rfl⟩
  · rw [ha, he, nI_leI (by omega) (by omega)] at c8
    refine r_aload_n C dX7_now_11 rfl rfl ?_
    refine mg_tape C dX7_now_12 ?_
    refine r_aload_n C dX7_now_15 rfl rfl ?_
    refine mg_at C dX7_now_16 ?_
    refine ml_tape C dX7_now_19 (by rw [ha]; exact vp_in_nI (by omega) (by decide)) ?_
    refine r_goto (tgt := 24) C dX7_now_20 (by decide) ?_
    exact hR _ _ _ _ _ rfl dX7_now_24 ⟨by first | (rw [if_neg (by omega)]; done) | (rw [if_pos (by omega), ha, nI_clamp (by omega)]; done), rfl, rfl⟩
/-- past the blanks -/
def skp (t : Nat → Int32) (e : Nat) : Nat → Nat → Nat
  | 0, a => a
  | f + 1, a => if a < e ∧ (t a = 32 ∨ t a = 10) then skp t e f (a + 1) else a
def skipTo (t : Nat → Int32) (e a : Nat) : Nat := skp t e (e - a) a
theorem skipTo_go {t : Nat → Int32} {e a : Nat} (h : a < e) (hb : t a = 32 ∨ t a = 10) : skipTo t e a = skipTo t e (a + 1) := by
  unfold skipTo
  rw [show e - a = (e - (a + 1)) + 1 by omega]
  show (if a < e ∧ (t a = 32 ∨ t a = 10) then skp t e (e - (a + 1)) (a + 1) else a) = _
  rw [if_pos ⟨h, hb⟩]
theorem skipTo_stop {t : Nat → Int32} {e a : Nat} (h : ¬ (a < e ∧ (t a = 32 ∨ t a = 10))) : skipTo t e a = a := by
  unfold skipTo
  cases e - a with
  | zero => rfl
  | succ f => exact if_neg h
theorem skp_le {t : Nat → Int32} {e : Nat} : ∀ (f a : Nat), a ≤ e → a ≤ skp t e f a ∧ skp t e f a ≤ e
  | 0, a, h => ⟨Nat.le_refl _, h⟩
  | f + 1, a, h => by
    unfold skp
    split
    · next q =>
      have := skp_le (t := t) (e := e) f (a + 1) q.1
      omega
    · exact ⟨Nat.le_refl _, h⟩
theorem skipTo_le {t : Nat → Int32} {e a : Nat} (h : a ≤ e) : a ≤ skipTo t e a ∧ skipTo t e a ≤ e := skp_le _ _ h
theorem c_skip {a e : Nat} (ha : M 9 = nI a) (he : M 8 = nI e) (h8 : e ≤ 800) (hae : a ≤ e) : mV G h ad yX7_skip cX7_skip 1 0 [] M R (fun M' R' => M' = va_up M 9 (nI (skipTo (R 1) e a)) ∧ R' = R) := by
  refine mV.intro (by decide) (Nat.le_of_ble_eq_true rfl) (cat1 (xs := [])) fun X C hR => ?_
  suffices key : ∀ (f b : Nat), e - b = f → b ≤ e → skipTo (R 1) e b = skipTo (R 1) e a → V X 0 0 0 [some (.ref h)] [] (mW G h ad (va_up M 9 (nI b)) R) by
    have q := key _ a rfl hae rfl
    rw [up_same ha] at q
    exact q
  intro f
  induction f with
  | zero =>
    intro b hf hb hs
    have hbe : b = e := by omega
    refine r_aload_n C dX7_skip_0 rfl rfl ?_
    refine mg_at C dX7_skip_1 ?_
    refine r_aload_n C dX7_skip_4 rfl rfl ?_
    refine mg_end C dX7_skip_5 ?_
    refine r_icmp_ge (tgt := 52) C dX7_skip_8 (by decide) (fun c8 => ?_) (fun c8 => absurd c8 ((by rw [show va_up M 9 (nI b) 8 = M 8 from rfl, show va_up M 9 (nI b) 9 = nI b from rfl, he, nI_leI (by omega) (by omega)]; omega)))
    exact hR _ _ _ _ dX7_skip_52 ⟨by rw [← hs, skipTo_stop (by omega)], rfl⟩
  | succ f ih =>
    intro b hf hb hs
    refine r_aload_n C dX7_skip_0 rfl rfl ?_
    refine mg_at C dX7_skip_1 ?_
    refine r_aload_n C dX7_skip_4 rfl rfl ?_
    refine mg_end C dX7_skip_5 ?_
    refine r_icmp_ge (tgt := 52) C dX7_skip_8 (by decide) (fun c8 => absurd c8 ((by rw [show va_up M 9 (nI b) 8 = M 8 from rfl, show va_up M 9 (nI b) 9 = nI b from rfl, he, nI_leI (by omega) (by omega)]; omega))) (fun c8 => ?_)
    refine r_aload_n C dX7_skip_11 rfl rfl ?_
    refine mg_tape C dX7_skip_12 ?_
    refine r_aload_n C dX7_skip_15 rfl rfl ?_
    refine mg_at C dX7_skip_16 ?_
    refine ml_tape C dX7_skip_19 (vp_in_nI (show b < 800 by omega) (by decide)) ?_
    show V X 0 0 20 _ [.int (R 1 (nI b).toNatClampNeg)] _
    rw [nI_clamp (by omega)]
    refine r_bipush (v := 32) C dX7_skip_20 (by decide) ?_
    refine r_icmp_eq (tgt := 39) C dX7_skip_22 (by decide) (fun c22 => ?_) (fun c22 => ?_)
    · have hbl : R 1 b = 32 ∨ R 1 b = 10 := by simp_all
      refine r_aload_n C dX7_skip_39 rfl rfl ?_
      refine r_dup C dX7_skip_40 rfl ?_
      refine mg_at C dX7_skip_41 ?_
      refine r_iconst (v := 1) C dX7_skip_44 (by decide) ?_
      refine r_iadd C dX7_skip_45 ?_
      refine mp_at C dX7_skip_46 ?_
      show V X 0 0 49 _ _ (mW G h ad (va_up (va_up M 9 (nI b)) 9 (nI b + 1)) R)
      rw [up_up, nI_1]
      refine r_goto (tgt := 0) C dX7_skip_49 (by decide) ?_
      exact ih (b + 1) (by omega) (by omega) (by rw [← hs]; exact (skipTo_go (by omega) hbl).symm)
    · refine r_aload_n C dX7_skip_25 rfl rfl ?_
      refine mg_tape C dX7_skip_26 ?_
      refine r_aload_n C dX7_skip_29 rfl rfl ?_
      refine mg_at C dX7_skip_30 ?_
      refine ml_tape C dX7_skip_33 (vp_in_nI (show b < 800 by omega) (by decide)) ?_
      show V X 0 0 34 _ [.int (R 1 (nI b).toNatClampNeg)] _
      rw [nI_clamp (by omega)]
      refine r_bipush (v := 10) C dX7_skip_34 (by decide) ?_
      refine r_icmp_ne (tgt := 52) C dX7_skip_36 (by decide) (fun c36 => ?_) (fun c36 => ?_)
      · exact hR _ _ _ _ dX7_skip_52 ⟨by rw [← hs, skipTo_stop (by simp_all)], rfl⟩
      · have hbl : R 1 b = 32 ∨ R 1 b = 10 := by simp_all
        refine r_aload_n C dX7_skip_39 rfl rfl ?_
        refine r_dup C dX7_skip_40 rfl ?_
        refine mg_at C dX7_skip_41 ?_
        refine r_iconst (v := 1) C dX7_skip_44 (by decide) ?_
        refine r_iadd C dX7_skip_45 ?_
        refine mp_at C dX7_skip_46 ?_
        show V X 0 0 49 _ _ (mW G h ad (va_up (va_up M 9 (nI b)) 9 (nI b + 1)) R)
        rw [up_up, nI_1]
        refine r_goto (tgt := 0) C dX7_skip_49 (by decide) ?_
        exact ih (b + 1) (by omega) (by omega) (by rw [← hs]; exact (skipTo_go (by omega) hbl).symm)
theorem c_fault (w : Int32) : mI G h ad yX7_fault cX7_fault 2 .int 1 [.int w] M R (fun r M' R' => R' = R ∧ (if w = 0 then r = M 3 ∧ M' = va_up M 0 0 else if w = 1 then r = M 4 ∧ M' = va_up M 0 0 else r = 0 ∧ M' = va_up M 0 1)) := by
  refine mI.intro (by decide) (Nat.le_of_ble_eq_true rfl) (cat1 (xs := [w])) fun X C hR => ?_
  have j20 : ∀ b : Int32, b = (if w = 0 ∨ w = 1 then 1 else 0) → V X 0 0 20 (ent [.ref h, .int w] 2) [.int b, .ref h] (mW G h ad (va_up M 0 0) R) := by
    intro b hb
    refine r_iconst (v := 1) C dX7_fault_20 (by decide) ?_
    refine m_calli C (c_right G h ad _ _ b 1) kM_right dX7_fault_21 rfl (by decide) (by decide) (by decide) (by decide) rfl rfl (fun r M1 R1 hp => ?_)
    obtain ⟨rfl, rfl, rfl⟩ := hp
    refine r_if_ne (tgt := 29) C dX7_fault_24 (by decide) (fun c24 => ?_) (fun c24 => ?_)
    · refine r_iload_n C dX7_fault_29 rfl rfl ?_
      refine r_if_ne (tgt := 40) C dX7_fault_30 (by decide) (fun c30 => ?_) (fun c30 => ?_)
      · refine r_aload_n C dX7_fault_40 rfl rfl ?_
        refine mg_faultPlace C dX7_fault_41 ?_
        exact hR _ _ _ _ _ rfl dX7_fault_44 (by unfold rightM at *; by_cases w0 : w = 0 <;> by_cases w1 : w = 1 <;> simp_all [va_up, rightM, up_up])
      · refine r_aload_n C dX7_fault_33 rfl rfl ?_
        refine mg_faultKind C dX7_fault_34 ?_
        refine r_goto (tgt := 44) C dX7_fault_37 (by decide) ?_
        exact hR _ _ _ _ _ rfl dX7_fault_44 (by unfold rightM at *; by_cases w0 : w = 0 <;> by_cases w1 : w = 1 <;> simp_all [va_up, rightM, up_up])
    · refine r_iconst (v := 0) C dX7_fault_27 (by decide) ?_
      exact hR _ _ _ _ _ rfl dX7_fault_28 (by unfold rightM at *; by_cases w0 : w = 0 <;> by_cases w1 : w = 1 <;> simp_all [va_up, rightM, up_up])
  refine r_aload_n C dX7_fault_0 rfl rfl ?_
  refine r_iconst (v := 0) C dX7_fault_1 (by decide) ?_
  refine mp_thrown C dX7_fault_2 ?_
  refine r_aload_n C dX7_fault_5 rfl rfl ?_
  refine r_iload_n C dX7_fault_6 rfl rfl ?_
  refine r_if_eq (tgt := 15) C dX7_fault_7 (by decide) (fun c7 => ?_) (fun c7 => ?_)
  · refine r_iconst (v := 1) C dX7_fault_15 (by decide) ?_
    refine r_goto (tgt := 20) C dX7_fault_16 (by decide) ?_
    exact j20 _ (by simp_all)
  · refine r_iload_n C dX7_fault_10 rfl rfl ?_
    refine r_iconst (v := 1) C dX7_fault_11 (by decide) ?_
    refine r_icmp_ne (tgt := 19) C dX7_fault_12 (by decide) (fun c12 => ?_) (fun c12 => ?_)
    · refine r_iconst (v := 0) C dX7_fault_19 (by decide) ?_
      exact j20 _ (by simp_all)
    · refine r_iconst (v := 1) C dX7_fault_15 (by decide) ?_
      refine r_goto (tgt := 20) C dX7_fault_16 (by decide) ?_
      exact j20 _ (by simp_all)
theorem c_size (kk : Int32) (j : Nat) (hj : ¬ kk < 0 → ¬ 7 < kk → kk = nI j ∧ j < 8) : mI G h ad yX7_size cX7_size 2 .int 0 [.int kk] M R (fun r M' R' => R' = R ∧ M' = va_up M 0 0 ∧ r = if ¬ kk < 0 ∧ ¬ 7 < kk ∧ 0 < R 5 j then R 6 j else -1) := by
  refine mI.intro (by decide) (Nat.le_of_ble_eq_true rfl) (cat1 (xs := [kk])) fun X C hR => ?_
  refine r_aload_n C dX7_size_0 rfl rfl ?_
  refine r_iconst (v := 0) C dX7_size_1 (by decide) ?_
  refine mp_thrown C dX7_size_2 ?_
  refine r_iload_n C dX7_size_5 rfl rfl ?_
  refine r_if_lt (tgt := 33) C dX7_size_6 (by decide) (fun c6 => ?_) (fun c6 => ?_)
  · refine r_iconst (v := -1) C dX7_size_33 (by decide) ?_
    exact hR _ _ _ _ _ rfl dX7_size_34 ⟨rfl, rfl, by simp_all [Int32.not_lt, Int32.not_le] <;> (intro q; exact absurd q (Int32.not_lt.mpr c21))⟩
  · refine r_iload_n C dX7_size_9 rfl rfl ?_
    refine r_bipush (v := 7) C dX7_size_10 (by decide) ?_
    refine r_icmp_gt (tgt := 33) C dX7_size_12 (by decide) (fun c12 => ?_) (fun c12 => ?_)
    · refine r_iconst (v := -1) C dX7_size_33 (by decide) ?_
      exact hR _ _ _ _ _ rfl dX7_size_34 ⟨rfl, rfl, by simp_all [Int32.not_lt, Int32.not_le] <;> (intro q; exact absurd q (Int32.not_lt.mpr c21))⟩
    · obtain ⟨rfl, hj8⟩ := hj c6 c12
      refine r_aload_n C dX7_size_15 rfl rfl ?_
      refine mg_straws C dX7_size_16 ?_
      refine r_iload_n C dX7_size_19 rfl rfl ?_
      refine ml_straws C dX7_size_20 (vp_in_nI hj8 (by decide)) ?_
      rw [nI_clamp (by omega)]
      refine r_if_le (tgt := 33) C dX7_size_21 (by decide) (fun c21 => ?_) (fun c21 => ?_)
      · refine r_iconst (v := -1) C dX7_size_33 (by decide) ?_
        exact hR _ _ _ _ _ rfl dX7_size_34 ⟨rfl, rfl, by simp_all [Int32.not_lt, Int32.not_le] <;> (intro q; exact absurd q (Int32.not_lt.mpr c21))⟩
      · refine r_aload_n C dX7_size_24 rfl rfl ?_
        refine mg_sizes C dX7_size_25 ?_
        refine r_iload_n C dX7_size_28 rfl rfl ?_
        refine ml_sizes C dX7_size_29 (vp_in_nI hj8 (by decide)) ?_
        rw [nI_clamp (by omega)]
        refine r_goto (tgt := 34) C dX7_size_30 (by decide) ?_
        exact hR _ _ _ _ _ rfl dX7_size_34 ⟨rfl, rfl, by simp_all [Int32.not_lt, Int32.not_le] <;> (intro q; exact absurd q (Int32.not_lt.mpr c21))⟩
end M1
