/-! Reader: signs and numbers -/
def BtOK (f : Nat → Int32) : Prop := ∀ i, (f i).toInt8.toInt32 = f i
def txt (f : Nat → Int32) : Nat → Int32 := fun i => f i &&& 255
theorem nI_b8 : ∀ n, n < 128 → (nI n).toInt8.toInt32 = nI n := by decide +kernel
theorem bt_eq {b : Int32} (hb : b.toInt8.toInt32 = b) {n : Nat} (hn : n < 128) : b = nI n ↔ b &&& 255 = nI n := by
  have := sc_eq hb (n := n) (by omega)
  rw [nI_b8 n hn] at this
  exact this
theorem bt_dg {b : Int32} (hb : b.toInt8.toInt32 = b) : (48 ≤ b ∧ b ≤ 57) ↔ (48 ≤ b &&& 255 ∧ b &&& 255 ≤ 57) := by
  constructor
  · rintro ⟨h1, h2⟩
    obtain ⟨d, d1, d2, rfl, -⟩ := dg_cl h1 h2
    rw [(bt_eq hb (n := d) (by omega)).mp rfl]
    exact ⟨h1, h2⟩
  · rintro ⟨h1, h2⟩
    obtain ⟨d, d1, d2, e, -⟩ := dg_cl h1 h2
    rw [(bt_eq hb (n := d) (by omega)).mpr e]
    rw [e] at h1 h2
    exact ⟨h1, h2⟩
theorem bt_dv {b : Int32} (hb : b.toInt8.toInt32 = b) (h : 48 ≤ b ∧ b ≤ 57) : b &&& 255 = b := by
  obtain ⟨d, d1, d2, rfl, -⟩ := dg_cl h.1 h.2
  exact (bt_eq hb (n := d) (by omega)).mp rfl
section RD1
variable (G : Gx) (A : Nat → Nat) (P : va_W) (N : Nt) (R : Rt) (Q : Qt)
theorem c_isDigit4 (c : Int32) : CI G yX4_isDigit cX4_isDigit 1 .boolean 0 0 0 [.int c] [] (S := Unit) (fun r _ => r = if 48 ≤ c ∧ c ≤ 57 then 1 else 0) (fun _ => []) := by
  refine CI.intro (by decide) (Nat.le_of_ble_eq_true rfl) (cat0 (xs := [c])) fun X C hR => ?_
  refine r_iload_n C dX4_isDigit_0 rfl rfl ?_
  refine r_bipush (v := 48) C dX4_isDigit_1 (by decide) ?_
  refine r_icmp_lt (tgt := 16) C dX4_isDigit_3 (by decide) (fun c3 => ?_) (fun c3 => ?_)
  · refine r_iconst (v := 0) C dX4_isDigit_16 (by decide) ?_
    exact hR _ _ _ _ _ () (by decide) (by decide) rfl (by first | (rw [if_pos ⟨Int32.not_lt.mp c3, Int32.not_lt.mp c9⟩]; done) | (rw [if_neg (fun q => absurd (Int32.lt_of_lt_of_le c3 q.1) Int32.lt_irrefl)]; done) | (rw [if_neg (fun q => absurd (Int32.lt_of_lt_of_le c9 q.2) Int32.lt_irrefl)]; done)) dX4_isDigit_17
  · refine r_iload_n C dX4_isDigit_6 rfl rfl ?_
    refine r_bipush (v := 57) C dX4_isDigit_7 (by decide) ?_
    refine r_icmp_gt (tgt := 16) C dX4_isDigit_9 (by decide) (fun c9 => ?_) (fun c9 => ?_)
    · refine r_iconst (v := 0) C dX4_isDigit_16 (by decide) ?_
      exact hR _ _ _ _ _ () (by decide) (by decide) rfl (by first | (rw [if_pos ⟨Int32.not_lt.mp c3, Int32.not_lt.mp c9⟩]; done) | (rw [if_neg (fun q => absurd (Int32.lt_of_lt_of_le c3 q.1) Int32.lt_irrefl)]; done) | (rw [if_neg (fun q => absurd (Int32.lt_of_lt_of_le c9 q.2) Int32.lt_irrefl)]; done)) dX4_isDigit_17
    · refine r_iconst (v := 1) C dX4_isDigit_12 (by decide) ?_
      refine r_goto (tgt := 17) C dX4_isDigit_13 (by decide) ?_
      exact hR _ _ _ _ _ () (by decide) (by decide) rfl (by first | (rw [if_pos ⟨Int32.not_lt.mp c3, Int32.not_lt.mp c9⟩]; done) | (rw [if_neg (fun q => absurd (Int32.lt_of_lt_of_le c3 q.1) Int32.lt_irrefl)]; done) | (rw [if_neg (fun q => absurd (Int32.lt_of_lt_of_le c9 q.2) Int32.lt_irrefl)]; done)) dX4_isDigit_17
theorem c_refuse (kd pl : Int32) : CV G yX4_refuse cX4_refuse 3 0 0 0 [.ref (A 0), .int kd, .int pl] (rW G A N R Q ++ P) (S := Unit) (fun _ => True) (fun _ => rW G A (va_up N 0 (va_up (va_up (N 0) 2 kd) 3 pl)) R Q ++ P) := by
  refine CV.intro (by decide) (Nat.le_of_ble_eq_true rfl) (cat1 (xs := [kd, pl])) fun X C hR => ?_
  refine r_aload_n C dX4_refuse_0 rfl rfl ?_
  refine r_iload_n C dX4_refuse_1 rfl rfl ?_
  refine rp_X4_19 C dX4_refuse_2 ?_
  refine r_aload_n C dX4_refuse_5 rfl rfl ?_
  refine r_iload_n C dX4_refuse_6 rfl rfl ?_
  refine rp_X4_22 C dX4_refuse_7 ?_
  simp only [up_up, va_up_at]
  exact hR _ _ _ _ () (by decide) (by decide) trivial dX4_refuse_10
theorem c_nextSign {a e : Nat} (hBt : BtOK (R 4)) (ha : N 0 10 = nI a) (he : N 0 9 = nI e) (h8 : e ≤ 800) (hae : a ≤ e) : CI G yX4_nextSign cX4_nextSign 1 .int 0 0 0 [.ref (A 0)] (rW G A N R Q ++ P) (S := Unit) (fun r _ => r = if skipTo (txt (R 4)) e a < e then txt (R 4) (skipTo (txt (R 4)) e a) else -1) (fun _ => rW G A (va_up N 0 (va_up (N 0) 10 (nI (skipTo (txt (R 4)) e a)))) R Q ++ P) := by
  refine CI.intro (by decide) (Nat.le_of_ble_eq_true rfl) (cat1 (xs := [])) fun X C hR => ?_
  have e9 : ∀ b, va_up N 0 (va_up (N 0) 10 (nI b)) 0 9 = nI e := fun b => he
  have j52 : ∀ b, b ≤ e → skipTo (txt (R 4)) e a = b → V X 0 0 52 (ent [.ref (A 0)] 1) [] (rW G A (va_up N 0 (va_up (N 0) 10 (nI b))) R Q ++ P) := by
    intro b hb hsk
    rw [hsk] at hR
    by_cases hlt : b < e
    · refine r_aload_n C dX4_nextSign_52 rfl rfl ?_
      refine rg_X4_37 C dX4_nextSign_53 ?_
      refine r_aload_n C dX4_nextSign_56 rfl rfl ?_
      refine rg_X4_34 C dX4_nextSign_57 ?_
      show V X 0 0 60 _ [.int (N 0 9), .int (nI b)] _
      rw [he]
      refine r_icmp_ge (tgt := 79) C dX4_nextSign_60 (by decide) (fun c60 => absurd c60 ((by rw [nI_leI (by omega) (by omega)]; omega))) (fun c60 => ?_)
      refine r_aload_n C dX4_nextSign_63 rfl rfl ?_
      refine rg_X4_43 C dX4_nextSign_64 ?_
      refine r_aload_n C dX4_nextSign_67 rfl rfl ?_
      refine rg_X4_37 C dX4_nextSign_68 ?_
      show V X 0 0 71 _ [.int (nI b), .ref (A 4)] _
      refine rl_4 C dX4_nextSign_71 (vp_in_nI (show b < 800 by omega) (by decide)) ?_
      rw [nI_clamp (by omega)]
      refine r_sipush (v := 255) C dX4_nextSign_72 (by decide) ?_
      refine r_iand C dX4_nextSign_75 ?_
      refine r_goto (tgt := 80) C dX4_nextSign_76 (by decide) ?_
      exact hR _ _ _ _ _ () (by decide) (by decide) rfl (by rw [if_pos hlt]; rfl) dX4_nextSign_80
    · refine r_aload_n C dX4_nextSign_52 rfl rfl ?_
      refine rg_X4_37 C dX4_nextSign_53 ?_
      refine r_aload_n C dX4_nextSign_56 rfl rfl ?_
      refine rg_X4_34 C dX4_nextSign_57 ?_
      show V X 0 0 60 _ [.int (N 0 9), .int (nI b)] _
      rw [he]
      refine r_icmp_ge (tgt := 79) C dX4_nextSign_60 (by decide) (fun c60 => ?_) (fun c60 => absurd c60 ((fun q => q (by rw [nI_leI (by omega) (by omega)]; omega))))
      refine r_iconst (v := -1) C dX4_nextSign_79 (by decide) ?_
      exact hR _ _ _ _ _ () (by decide) (by decide) rfl (by rw [if_neg hlt]) dX4_nextSign_80
  have key : ∀ (f b : Nat), b + f = e → skipTo (txt (R 4)) e a = skipTo (txt (R 4)) e b → V X 0 0 0 (ent [.ref (A 0)] 1) [] (rW G A (va_up N 0 (va_up (N 0) 10 (nI b))) R Q ++ P) := by
    intro f
    induction f with
    | zero =>
      intro b hb hsk
      refine r_aload_n C dX4_nextSign_0 rfl rfl ?_
      refine rg_X4_37 C dX4_nextSign_1 ?_
      refine r_aload_n C dX4_nextSign_4 rfl rfl ?_
      refine rg_X4_34 C dX4_nextSign_5 ?_
      show V X 0 0 8 _ [.int (N 0 9), .int (nI b)] _
      rw [he]
      refine r_icmp_ge (tgt := 52) C dX4_nextSign_8 (by decide) (fun c8 => ?_) (fun c8 => absurd c8 ((fun q => q (by rw [nI_leI (by omega) (by omega)]; omega))))
      exact j52 b (by omega) (by rw [hsk, skipTo_stop (fun q => by omega)])
    | succ f ih =>
      intro b hb hsk
      have q32 : R 4 b = 32 ↔ txt (R 4) b = 32 := bt_eq (hBt b) (n := 32) (by decide)
      have q10 : R 4 b = 10 ↔ txt (R 4) b = 10 := bt_eq (hBt b) (n := 10) (by decide)
      have j39 : (R 4 b = 32 ∨ R 4 b = 10) → V X 0 0 39 (ent [.ref (A 0)] 1) [] (rW G A (va_up N 0 (va_up (N 0) 10 (nI b))) R Q ++ P) := by
        intro hq
        refine r_aload_n C dX4_nextSign_39 rfl rfl ?_
        refine r_dup C dX4_nextSign_40 rfl ?_
        refine rg_X4_37 C dX4_nextSign_41 ?_
        refine r_iconst (v := 1) C dX4_nextSign_44 (by decide) ?_
        refine r_iadd C dX4_nextSign_45 ?_
        show V X 0 0 46 _ [.int (nI b + 1), .ref (A 0)] _
        rw [nI_1]
        refine rp_X4_37 C dX4_nextSign_46 ?_
        refine r_goto (tgt := 0) C dX4_nextSign_49 (by decide) ?_
        simp only [up_up, va_up_at]
        exact ih (b + 1) (by omega) (by rw [hsk, skipTo_go (by omega) (hq.elim (fun w => Or.inl (q32.mp w)) (fun w => Or.inr (q10.mp w)))])
      have bb : vp_in (nI b) 800 := vp_in_nI (show b < 800 by omega) (by decide)
      refine r_aload_n C dX4_nextSign_0 rfl rfl ?_
      refine rg_X4_37 C dX4_nextSign_1 ?_
      refine r_aload_n C dX4_nextSign_4 rfl rfl ?_
      refine rg_X4_34 C dX4_nextSign_5 ?_
      show V X 0 0 8 _ [.int (N 0 9), .int (nI b)] _
      rw [he]
      refine r_icmp_ge (tgt := 52) C dX4_nextSign_8 (by decide) (fun c8 => absurd c8 ((by rw [nI_leI (by omega) (by omega)]; omega))) (fun c8 => ?_)
      refine r_aload_n C dX4_nextSign_11 rfl rfl ?_
      refine rg_X4_43 C dX4_nextSign_12 ?_
      refine r_aload_n C dX4_nextSign_15 rfl rfl ?_
      refine rg_X4_37 C dX4_nextSign_16 ?_
      show V X 0 0 19 _ [.int (nI b), .ref (A 4)] _
      refine rl_4 C dX4_nextSign_19 (bb) ?_
      rw [nI_clamp (by omega)]
      refine r_bipush (v := 32) C dX4_nextSign_20 (by decide) ?_
      refine r_icmp_eq (tgt := 39) C dX4_nextSign_22 (by decide) (fun c22 => ?_) (fun c22 => ?_)
      · first | exact j39 (Or.inl c22) | exact j39 (Or.inr c36)
      · refine r_aload_n C dX4_nextSign_25 rfl rfl ?_
        refine rg_X4_43 C dX4_nextSign_26 ?_
        refine r_aload_n C dX4_nextSign_29 rfl rfl ?_
        refine rg_X4_37 C dX4_nextSign_30 ?_
        show V X 0 0 33 _ [.int (nI b), .ref (A 4)] _
        refine rl_4 C dX4_nextSign_33 (bb) ?_
        rw [nI_clamp (by omega)]
        refine r_bipush (v := 10) C dX4_nextSign_34 (by decide) ?_
        refine r_icmp_ne (tgt := 52) C dX4_nextSign_36 (by decide) (fun c36 => ?_) (fun c36 => ?_)
        · exact j52 b (by omega) (by rw [hsk, skipTo_stop (fun q => q.2.elim (fun w => c22 (q32.mpr w)) (fun w => c36 (q10.mpr w)))])
        · first | exact j39 (Or.inl c22) | exact j39 (Or.inr c36)
  have k0 := key (e - a) a (by omega) rfl
  rw [up_same (show N 0 = va_up (N 0) 10 (nI a) from (up_same ha).symm)] at k0
  exact k0
theorem c_readNumber {a e : Nat} (hBt : BtOK (R 4)) (ha : N 0 10 = nI a) (he : N 0 9 = nI e) (h8 : e ≤ 800) (hae : a ≤ e) : CI G yX4_readNumber cX4_readNumber 2 .int 1 0 0 [.ref (A 0)] (rW G A N R Q ++ P) (S := Unit) (fun r _ => r = nI (min 1000 (rvF (txt (R 4)) a (dgs (txt (R 4)) e a)))) (fun _ => rW G A (va_up N 0 (va_up (N 0) 10 (nI (a + dgs (txt (R 4)) e a)))) R Q ++ P) := by
  refine CI.intro (by decide) (Nat.le_of_ble_eq_true rfl) (cat1 (xs := [])) fun X C hR => ?_
  have hdl := dgs_le (t := txt (R 4)) (e := e) (e - a) a hae (Nat.le_refl _)
  have key : ∀ (f k : Nat), a + k + f = e → dgs (txt (R 4)) e a = k + dgs (txt (R 4)) e (a + k) → V X 0 0 2 [some (.ref (A 0)), some (.int (nI (min 1000 (rvF (txt (R 4)) a k))))] [] (rW G A (va_up N 0 (va_up (N 0) 10 (nI (a + k)))) R Q ++ P) := by
    intro f
    induction f with
    | zero =>
      intro k hk hd
      have hs : dgs (txt (R 4)) e (a + k) = 0 := dgs_stop (fun w => by have := w.1; omega)
      rw [hs, Nat.add_zero] at hd
      rw [hd] at hR
      refine r_aload_n C dX4_readNumber_2 rfl rfl ?_
      refine rg_X4_37 C dX4_readNumber_3 ?_
      refine r_aload_n C dX4_readNumber_6 rfl rfl ?_
      refine rg_X4_34 C dX4_readNumber_7 ?_
      show V X 0 0 10 _ [.int (N 0 9), .int (nI (a + k))] _
      rw [he]
      refine r_icmp_ge (tgt := 65) C dX4_readNumber_10 (by decide) (fun c10 => ?_) (fun c10 => absurd c10 ((fun q => q (by rw [nI_leI (by omega) (by omega)]; omega))))
      refine r_iload_n C dX4_readNumber_65 rfl rfl ?_
      exact hR _ _ _ _ _ () (by decide) (by decide) rfl rfl dX4_readNumber_66
    | succ f ih =>
      intro k hk hd
      have bb : vp_in (nI (a + k)) 800 := vp_in_nI (show a + k < 800 by omega) (by decide)
      have hdg : (48 ≤ R 4 (a + k) ∧ R 4 (a + k) ≤ 57) ↔ isDg (txt (R 4)) e (a + k) := (bt_dg (hBt (a + k))).trans ⟨fun q => ⟨by omega, q.1, q.2⟩, fun q => q.2⟩
      refine r_aload_n C dX4_readNumber_2 rfl rfl ?_
      refine rg_X4_37 C dX4_readNumber_3 ?_
      refine r_aload_n C dX4_readNumber_6 rfl rfl ?_
      refine rg_X4_34 C dX4_readNumber_7 ?_
      show V X 0 0 10 _ [.int (N 0 9), .int (nI (a + k))] _
      rw [he]
      refine r_icmp_ge (tgt := 65) C dX4_readNumber_10 (by decide) (fun c10 => absurd c10 ((by rw [nI_leI (by omega) (by omega)]; omega))) (fun c10 => ?_)
      refine r_aload_n C dX4_readNumber_13 rfl rfl ?_
      refine rg_X4_43 C dX4_readNumber_14 ?_
      refine r_aload_n C dX4_readNumber_17 rfl rfl ?_
      refine rg_X4_37 C dX4_readNumber_18 ?_
      show V X 0 0 21 _ [.int (nI (a + k)), .ref (A 4)] _
      refine rl_4 C dX4_readNumber_21 (bb) ?_
      rw [nI_clamp (by omega)]
      refine a_callS0 C (c_isDigit4 G _) kcX4_X4_isDigit dX4_readNumber_22 rfl (by decide) (by decide) (by decide) (Nat.le_of_ble_eq_true rfl) rfl (fun r u hr => ?_)
      skip
      by_cases hq : 48 ≤ R 4 (a + k) ∧ R 4 (a + k) ≤ 57
      · rw [if_pos hq] at hr
        subst hr
        obtain ⟨d, d1, d2, hdv, -⟩ := dg_cl hq.1 hq.2
        have hT : txt (R 4) (a + k) = nI d := by show R 4 (a + k) &&& 255 = _; rw [bt_dv (hBt _) hq, hdv]
        have hg := dgs_go (hdg.mp hq)
        obtain ⟨v, hv⟩ : ∃ v, v = rvF (txt (R 4)) a k := ⟨_, rfl⟩
        have hv1 : rvF (txt (R 4)) a (k + 1) = if 1000 < v then v else 10 * v + (d - 48) := by
          show (if 1000 < rvF (txt (R 4)) a k then _ else _) = _
          rw [← hv, hT, cl_nI (by omega)]
        have e1 : nI (min 1000 v) * 10 + (nI d - 48) = nI (min 1000 v * 10 + (d - 48)) := by
          rw [show (10 : Int32) = nI 10 from rfl, pk_mul, show (48 : Int32) = nI 48 from rfl, pk_sub d1, nI_add]
        have e2 : (if nI (min 1000 v * 10 + (d - 48)) < (1000 : Int32) then nI (min 1000 v * 10 + (d - 48)) else 1000) = nI (min 1000 (rvF (txt (R 4)) a (k + 1))) := by
          rw [show (1000 : Int32) = nI 1000 from rfl, hv1]
          by_cases w : 1000 < v
          · rw [if_pos w, Nat.min_eq_left (by omega), if_neg (nI_nlt (by omega) (by omega))]
          · rw [if_neg w, Nat.min_eq_right (show v ≤ 1000 by omega)]
            by_cases w2 : v * 10 + (d - 48) < 1000
            · rw [if_pos (nI_lt w2 (by decide)), Nat.min_eq_right (by omega), Nat.mul_comm]
            · rw [if_neg (nI_nlt (by omega) (by omega)), Nat.min_eq_left (by omega)]
        rw [← hv]
        refine r_if_eq (tgt := 65) C dX4_readNumber_25 (by decide) (fun c25 => absurd c25 ((by decide))) (fun c25 => ?_)
        refine r_sipush (v := 1000) C dX4_readNumber_28 (by decide) ?_
        refine r_iload_n C dX4_readNumber_31 rfl rfl ?_
        refine r_bipush (v := 10) C dX4_readNumber_32 (by decide) ?_
        refine r_imul C dX4_readNumber_34 ?_
        refine r_aload_n C dX4_readNumber_35 rfl rfl ?_
        refine rg_X4_43 C dX4_readNumber_36 ?_
        refine r_aload_n C dX4_readNumber_39 rfl rfl ?_
        refine rg_X4_37 C dX4_readNumber_40 ?_
        show V X 0 0 43 _ (.int (nI (a + k)) :: .ref (A 4) :: .int _ :: .int _ :: []) _
        refine rl_4 C dX4_readNumber_43 (bb) ?_
        rw [nI_clamp (by omega), hdv]
        refine r_bipush (v := 48) C dX4_readNumber_44 (by decide) ?_
        refine r_isub C dX4_readNumber_46 ?_
        refine r_iadd C dX4_readNumber_47 ?_
        rw [e1]
        refine r_mmin C km_X4_51 (by decide) (by decide) (by decide) (Nat.le_of_ble_eq_true rfl) dX4_readNumber_48 ?_
        rw [e2]
        refine r_istore_n C dX4_readNumber_51 rfl (by decide) ?_
        refine r_aload_n C dX4_readNumber_52 rfl rfl ?_
        refine r_dup C dX4_readNumber_53 rfl ?_
        refine rg_X4_37 C dX4_readNumber_54 ?_
        refine r_iconst (v := 1) C dX4_readNumber_57 (by decide) ?_
        refine r_iadd C dX4_readNumber_58 ?_
        show V X 0 0 59 _ [.int (nI (a + k) + 1), .ref (A 0)] _
        rw [nI_1]
        refine rp_X4_37 C dX4_readNumber_59 ?_
        refine r_goto (tgt := 2) C dX4_readNumber_62 (by decide) ?_
        simp only [up_up, va_up_at]
        exact ih (k + 1) (by omega) (by rw [hd, hg]; show _ = k + 1 + dgs (txt (R 4)) e (a + k + 1); omega)
      · rw [if_neg hq] at hr
        subst hr
        have hs : dgs (txt (R 4)) e (a + k) = 0 := dgs_stop (fun w => hq (hdg.mpr w))
        rw [hs, Nat.add_zero] at hd
        rw [hd] at hR
        refine r_if_eq (tgt := 65) C dX4_readNumber_25 (by decide) (fun c25 => ?_) (fun c25 => absurd c25 ((fun q => q rfl)))
        refine r_iload_n C dX4_readNumber_65 rfl rfl ?_
        exact hR _ _ _ _ _ () (by decide) (by decide) rfl rfl dX4_readNumber_66
  have k0 := key (e - a) 0 (by omega) (by rw [Nat.zero_add, Nat.add_zero])
  rw [Nat.add_zero, up_same (show N 0 = va_up (N 0) 10 (nI a) from (up_same ha).symm)] at k0
  refine r_iconst (v := 0) C dX4_readNumber_0 (by decide) ?_
  refine r_istore_n C dX4_readNumber_1 rfl (by decide) ?_
  exact k0
end RD1
