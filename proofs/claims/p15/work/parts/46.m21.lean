/-! the reference: the call of isDigit, number, opens -/
section MD
variable {X : Fx} {G : Gx} {nL : Nat} {cc : ByteArray} {d mc ms k n pc : Nat} {L : List (Option Value)} {st : List Value} {h : Nat} {ad : Nat → Nat} {M : Mt} {R : Rt}
theorem m_isDigit (C : Cx X G nL cc RX7 d mc ms) {c : Int32} (hdg : decode cc pc = .ok (.invokestatic 124, 3)) (hd : 1 ≤ d) (hk : k ≤ mc) (hn : n ≤ ms) (hst : (st.map fun v => v.category).sum ≤ 8) (kk : V X k n (pc + 3) L (.int (if 48 ≤ c ∧ c ≤ 57 then 1 else 0) :: st) (mW G h ad M R)) : V X k n pc L (.int c :: st) (mW G h ad M R) := by
  refine r_callSi C (c_isDigit G c) kM_isDigit hdg rfl hd hk hn hst [] is28 rfl (wc := []) rfl (wr := mW G h ad M R) rfl (by decide) (fun i _ h => absurd h List.not_mem_nil) (st0 := .int c :: st) rfl (fun r u hr => ?_)
  subst hr
  rw [List.append_nil]
  exact kk
end MD
def isDg (t : Nat → Int32) (e a : Nat) : Prop := a < e ∧ 48 ≤ t a ∧ t a ≤ 57
/-- how many digits stand from a on -/
def dgN (t : Nat → Int32) (e : Nat) : Nat → Nat → Nat
  | 0, _ => 0
  | f + 1, a => if a < e ∧ 48 ≤ t a ∧ t a ≤ 57 then dgN t e f (a + 1) + 1 else 0
def dgs (t : Nat → Int32) (e a : Nat) : Nat := dgN t e (e - a) a
theorem dgs_go {t : Nat → Int32} {e a : Nat} (h : isDg t e a) : dgs t e a = dgs t e (a + 1) + 1 := by
  unfold dgs
  have h1 := h.1
  rw [show e - a = (e - (a + 1)) + 1 by omega]
  exact if_pos h
theorem dgs_stop {t : Nat → Int32} {e a : Nat} (h : ¬ isDg t e a) : dgs t e a = 0 := by
  unfold dgs
  cases e - a with
  | zero => rfl
  | succ f => exact if_neg h
theorem dgs_le {t : Nat → Int32} {e : Nat} : ∀ (f a : Nat), a ≤ e → e - a ≤ f → a + dgs t e a ≤ e
  | 0, a, h, hf => by
    rw [dgs_stop (fun w => by have := w.1; omega)]
    omega
  | f + 1, a, h, hf => by
    by_cases w : isDg t e a
    · rw [dgs_go w]
      have := w.1
      have := dgs_le (t := t) (e := e) f (a + 1) (by omega) (by omega)
      omega
    · rw [dgs_stop w]
      omega
def rvF (t : Nat → Int32) (a : Nat) : Nat → Nat
  | 0 => 0
  | k + 1 => if 1000 < rvF t a k then rvF t a k else 10 * rvF t a k + (cl (t (a + k)) - 48)
theorem rvF_le {t : Nat → Int32} {a : Nat} : ∀ k, (∀ q, q < k → cl (t (a + q)) ≤ 57) → rvF t a k ≤ 10009
  | 0, _ => by simp [rvF]
  | k + 1, h => by
    have ih := rvF_le (t := t) (a := a) k (fun q hq => h q (by omega))
    have h1 := h k (by omega)
    unfold rvF
    split <;> omega
theorem dg_cl {x : Int32} (h1 : 48 ≤ x) (h2 : x ≤ 57) : ∃ d, 48 ≤ d ∧ d ≤ 57 ∧ x = nI d ∧ cl x = d := by
  obtain ⟨d, hd, rfl⟩ := nI_of2 (x := x) (M := 57) (n := 57) (by decide) (fun q => absurd (Int32.lt_of_lt_of_le q (show (0 : Int32) ≤ 48 by decide)) (Int32.not_lt.mpr h1)) h2
  have h3 : nI 48 ≤ nI d := h1
  rw [nI_leI (by decide) (by omega)] at h3
  exact ⟨d, h3, hd, rfl, cl_nI (by omega)⟩
section M21
variable (G : Gx) (h : Nat) (ad : Nat → Nat) (M : Mt) (R : Rt)
theorem c_number {a e : Nat} (ha : M 9 = nI a) (he : M 8 = nI e) (h8 : e ≤ 800) (hae : a ≤ e) : mI G h ad yX7_number cX7_number 2 .int 1 [] M R (fun r M' R' => r = nI (rvF (R 1) a (dgs (R 1) e a)) ∧ M' = va_up (va_up (va_up M 16 (nI a)) 17 (nI (dgs (R 1) e a))) 9 (nI (a + dgs (R 1) e a)) ∧ R' = R) := by
  refine mI.intro (by decide) (Nat.le_of_ble_eq_true rfl) (cat1 (xs := [])) fun X C hR => ?_
  have key : ∀ (f k : Nat), e - (a + k) ≤ f → a + k ≤ e → (∀ q, q < k → isDg (R 1) e (a + q)) → k + dgs (R 1) e (a + k) = dgs (R 1) e a → V X 0 0 15 [some (.ref h), some (.int (nI (rvF (R 1) a k)))] [] (mW G h ad (va_up (va_up (va_up M 16 (nI a)) 17 (nI k)) 9 (nI (a + k))) R) := by
    intro f
    induction f with
    | zero =>
      intro k hf hk hd hs
      have hno : ¬ isDg (R 1) e (a + k) := fun w => by have := w.1; omega
      rw [dgs_stop hno] at hs
      refine r_aload_n C dX7_number_15 rfl rfl ?_
      refine m_calli C (c_now G h ad (va_up (va_up (va_up M 16 (nI a)) 17 (nI k)) 9 (nI (a + k))) R (a := a + k) (e := e) rfl he h8 hk) kM_now dX7_number_16 rfl (by decide) (by decide) (by decide) (by decide) rfl rfl (fun r M1 R1 hq => ?_)
      obtain ⟨rfl, rfl, rfl⟩ := hq
      rw [if_neg (by omega)]
      refine m_isDigit C dX7_number_19 (by decide) (by decide) (by decide) (by decide) ?_
      rw [if_neg (by decide)]
      refine r_if_eq (tgt := 72) C dX7_number_22 (by decide) (fun c22 => ?_) (fun c22 => absurd c22 ((fun q => q rfl)))
      refine r_iload_n C dX7_number_72 rfl rfl ?_
      exact hR _ _ _ _ _ rfl dX7_number_73 ⟨by rw [← hs]; rfl, by rw [← hs]; rfl, rfl⟩
    | succ f ih =>
      intro k hf hk hd hs
      by_cases hno : isDg (R 1) e (a + k)
      · have hlt := hno.1
        obtain ⟨dv, hd1, hd2, hdx, hdc⟩ := dg_cl hno.2.1 hno.2.2
        have hrv := rvF_le (t := R 1) (a := a) k (fun q hq => by
          obtain ⟨d2, _, w2, _, w4⟩ := dg_cl (hd q hq).2.1 (hd q hq).2.2
          omega)
        have hrs : rvF (R 1) a (k + 1) = if 1000 < rvF (R 1) a k then rvF (R 1) a k else 10 * rvF (R 1) a k + (dv - 48) := by
          show (if 1000 < rvF (R 1) a k then _ else 10 * rvF (R 1) a k + (cl (R 1 (a + k)) - 48)) = _
          rw [hdc]
        have nx := ih (k + 1) (by omega) (by omega) (fun q hq => by
          by_cases w : q = k
          · subst w; exact hno
          · exact hd q (by omega)) (by rw [dgs_go hno] at hs; rw [show a + (k + 1) = a + k + 1 by omega]; omega)
        rw [hrs] at nx
        have j48 : ∀ v : Nat, v = (if 1000 < rvF (R 1) a k then rvF (R 1) a k else 10 * rvF (R 1) a k + (dv - 48)) → V X 0 0 48 [some (.ref h), some (.int (nI (rvF (R 1) a k)))] [.int (nI v)] (mW G h ad (va_up (va_up (va_up M 16 (nI a)) 17 (nI k)) 9 (nI (a + k))) R) := by
          intro v hv
          rw [← hv] at nx
          refine r_istore_n C dX7_number_48 rfl (by decide) ?_
          refine r_aload_n C dX7_number_49 rfl rfl ?_
          refine r_dup C dX7_number_50 rfl ?_
          refine mg_digits C dX7_number_51 ?_
          refine r_iconst (v := 1) C dX7_number_54 (by decide) ?_
          refine r_iadd C dX7_number_55 ?_
          show V X 0 0 56 _ [.int (nI k + 1), .ref h] _
          rw [nI_1]
          refine mp_digits C dX7_number_56 ?_
          refine r_aload_n C dX7_number_59 rfl rfl ?_
          refine r_dup C dX7_number_60 rfl ?_
          refine mg_at C dX7_number_61 ?_
          refine r_iconst (v := 1) C dX7_number_64 (by decide) ?_
          refine r_iadd C dX7_number_65 ?_
          show V X 0 0 66 _ [.int (nI (a + k) + 1), .ref h] _
          rw [nI_1]
          refine mp_at C dX7_number_66 ?_
          refine r_goto (tgt := 15) C dX7_number_69 (by decide) ?_
          rw [up_comm (i := 9) (j := 17) (by decide), up_up (k := 17), up_up (k := 9)]
          exact nx
        refine r_aload_n C dX7_number_15 rfl rfl ?_
        refine m_calli C (c_now G h ad (va_up (va_up (va_up M 16 (nI a)) 17 (nI k)) 9 (nI (a + k))) R (a := a + k) (e := e) rfl he h8 hk) kM_now dX7_number_16 rfl (by decide) (by decide) (by decide) (by decide) rfl rfl (fun r M1 R1 hq => ?_)
        obtain ⟨rfl, rfl, rfl⟩ := hq
        rw [if_pos hlt]
        refine m_isDigit C dX7_number_19 (by decide) (by decide) (by decide) (by decide) ?_
        rw [if_pos hno.2]
        refine r_if_eq (tgt := 72) C dX7_number_22 (by decide) (fun c22 => absurd c22 ((by decide))) (fun c22 => ?_)
        refine r_iload_n C dX7_number_25 rfl rfl ?_
        refine r_sipush (v := 1000) C dX7_number_26 (by decide) ?_
        refine r_icmp_le (tgt := 36) C dX7_number_29 (by decide) (fun c29 => ?_) (fun c29 => ?_)
        · rw [show (1000 : Int32) = nI 1000 from rfl, nI_leI (by omega) (by omega)] at c29
          refine r_bipush (v := 10) C dX7_number_36 (by decide) ?_
          refine r_iload_n C dX7_number_38 rfl rfl ?_
          refine r_imul C dX7_number_39 ?_
          refine r_aload_n C dX7_number_40 rfl rfl ?_
          refine m_calli C (c_now G h ad (va_up (va_up (va_up M 16 (nI a)) 17 (nI k)) 9 (nI (a + k))) R1 (a := a + k) (e := e) rfl he h8 hk) kM_now dX7_number_41 rfl (by decide) (by decide) (by decide) (Nat.le_of_ble_eq_true rfl) rfl rfl (fun r M2 R2 hq => ?_)
          obtain ⟨rfl, rfl, rfl⟩ := hq
          rw [if_pos hlt, hdx, show (10 : Int32) = nI 10 from rfl]
          rw [pk_mul]
          refine r_iadd C dX7_number_44 ?_
          rw [nI_add]
          refine r_bipush (v := 48) C dX7_number_45 (by decide) ?_
          rw [show (48 : Int32) = nI 48 from rfl]
          refine r_isub C dX7_number_47 ?_
          first
            | exact j48 _ (by rw [if_pos (by omega)])
            | (rw [pk_sub (by omega)]; exact j48 _ (by rw [if_neg (by omega)]; omega))
        · rw [show (1000 : Int32) = nI 1000 from rfl, nI_leI (by omega) (by omega)] at c29
          refine r_iload_n C dX7_number_32 rfl rfl ?_
          refine r_goto (tgt := 48) C dX7_number_33 (by decide) ?_
          first
            | exact j48 _ (by rw [if_pos (by omega)])
            | (rw [pk_sub (by omega)]; exact j48 _ (by rw [if_neg (by omega)]; omega))
      · rw [dgs_stop hno] at hs
        have hr0 : (if 48 ≤ (if a + k < e then R 1 (a + k) else 0) ∧ (if a + k < e then R 1 (a + k) else 0) ≤ 57 then (1 : Int32) else 0) = 0 := by
          by_cases w : a + k < e
          · rw [if_pos w, if_neg (fun q => hno ⟨w, q⟩)]
          · rw [if_neg w, if_neg (by decide)]
        refine r_aload_n C dX7_number_15 rfl rfl ?_
        refine m_calli C (c_now G h ad (va_up (va_up (va_up M 16 (nI a)) 17 (nI k)) 9 (nI (a + k))) R (a := a + k) (e := e) rfl he h8 hk) kM_now dX7_number_16 rfl (by decide) (by decide) (by decide) (by decide) rfl rfl (fun r M1 R1 hq => ?_)
        obtain ⟨rfl, rfl, rfl⟩ := hq
        refine m_isDigit C dX7_number_19 (by decide) (by decide) (by decide) (by decide) ?_
        rw [hr0]
        refine r_if_eq (tgt := 72) C dX7_number_22 (by decide) (fun c22 => ?_) (fun c22 => absurd c22 ((fun q => q rfl)))
        refine r_iload_n C dX7_number_72 rfl rfl ?_
        exact hR _ _ _ _ _ rfl dX7_number_73 ⟨by rw [← hs]; rfl, by rw [← hs]; rfl, rfl⟩
  have q0 := key (e - a) 0 (by omega) (by omega) (fun q hq => by omega) (by rw [Nat.zero_add, Nat.add_zero])
  refine r_iconst (v := 0) C dX7_number_0 (by decide) ?_
  refine r_istore_n C dX7_number_1 rfl (by decide) ?_
  refine r_aload_n C dX7_number_2 rfl rfl ?_
  refine r_aload_n C dX7_number_3 rfl rfl ?_
  refine mg_at C dX7_number_4 ?_
  rw [ha]
  refine mp_numberAt C dX7_number_7 ?_
  refine r_aload_n C dX7_number_10 rfl rfl ?_
  refine r_iconst (v := 0) C dX7_number_11 (by decide) ?_
  refine mp_digits C dX7_number_12 ?_
  exact (by
    rw [Nat.add_zero] at q0
    rw [show va_up (va_up (va_up M 16 (nI a)) 17 (nI 0)) 9 (nI a) = va_up (va_up M 16 (nI a)) 17 0 from up_same ha] at q0
    exact q0)
end M21
