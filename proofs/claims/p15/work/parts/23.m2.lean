/-! the reference: lays, feed, isPattern, crossing, isPlace, get, bundle, left -/
def ks (i : Nat) : Int32 := match i with
  | 0 => 24
  | 1 => 16
  | 2 => 8
  | 3 => 0
  | _ => -8
def layN (f : Nat → Int32) (t : Nat) (v : Int32) : Nat → Nat → Int32
  | 0 => f
  | i + 1 => upd (layN f t v i) (t + i) ((v >>> (ks i &&& 31)) &&& 255)
section M2
variable (G : Gx) (h : Nat) (ad : Nat → Nat) (M : Mt) (R : Rt)
theorem c_lays {t : Nat} (v : Int32) (ht : M 2 = nI t) (h8 : t + 4 ≤ 800) : mV G h ad yX7_lays cX7_lays 3 0 [.int v] M R (fun M' R' => M' = va_up M 2 (nI (t + 4)) ∧ R' = va_up R 1 (layN (R 1) t v 4)) := by
  refine mV.intro (by decide) (Nat.le_of_ble_eq_true rfl) (cat1 (xs := [v])) fun X C hR => ?_
  have key : ∀ (f i : Nat), i + f = 4 → V X 0 0 3 [some (.ref h), some (.int v), some (.int (ks i))] [] (mW G h ad (va_up M 2 (nI (t + i))) (va_up R 1 (layN (R 1) t v i))) := by
    intro f
    induction f with
    | zero =>
      intro i hi
      have hi4 : i = 4 := by omega
      subst hi4
      refine r_iload_n C dX7_lays_3 rfl rfl ?_
      refine r_if_lt (tgt := 39) C dX7_lays_4 (by decide) (fun c4 => ?_) (fun c4 => absurd c4 ((by decide)))
      exact hR _ _ _ _ dX7_lays_39 ⟨rfl, rfl⟩
    | succ f ih =>
      intro i hi
      have hp : ¬ ks i < 0 := by
        rcases (show i = 0 ∨ i = 1 ∨ i = 2 ∨ i = 3 by omega) with rfl | rfl | rfl | rfl <;> decide
      have hq : ks i + (-8) = ks (i + 1) := by
        rcases (show i = 0 ∨ i = 1 ∨ i = 2 ∨ i = 3 by omega) with rfl | rfl | rfl | rfl <;> decide
      refine r_iload_n C dX7_lays_3 rfl rfl ?_
      refine r_if_lt (tgt := 39) C dX7_lays_4 (by decide) (fun c4 => absurd c4 (hp)) (fun c4 => ?_)
      refine r_aload_n C dX7_lays_7 rfl rfl ?_
      refine mg_tape C dX7_lays_8 ?_
      refine r_aload_n C dX7_lays_11 rfl rfl ?_
      refine mg_taped C dX7_lays_12 ?_
      refine r_iload_n C dX7_lays_15 rfl rfl ?_
      refine r_iload_n C dX7_lays_16 rfl rfl ?_
      refine r_ishr C dX7_lays_17 ?_
      refine r_sipush (v := 255) C dX7_lays_18 (by decide) ?_
      refine r_iand C dX7_lays_21 ?_
      refine ms_tape C dX7_lays_22 (vp_in_nI (show t + i < 800 by omega) (by decide)) ?_
      show V X 0 0 23 _ _ (mW G h ad _ (va_up (va_up R 1 (layN (R 1) t v i)) 1 (upd (layN (R 1) t v i) (nI (t + i)).toNatClampNeg _)))
      rw [nI_clamp (by omega), up_up]
      refine r_aload_n C dX7_lays_23 rfl rfl ?_
      refine r_dup C dX7_lays_24 rfl ?_
      refine mg_taped C dX7_lays_25 ?_
      refine r_iconst (v := 1) C dX7_lays_28 (by decide) ?_
      refine r_iadd C dX7_lays_29 ?_
      refine mp_taped C dX7_lays_30 ?_
      show V X 0 0 33 _ _ (mW G h ad (va_up (va_up M 2 (nI (t + i))) 2 (nI (t + i) + 1)) _)
      rw [up_up, nI_1]
      refine r_iinc (v := _ + (-8)) C dX7_lays_33 rfl (by rfl) (by decide) ?_
      show V X 0 0 36 [some (.ref h), some (.int v), some (.int (ks i + (-8)))] _ _
      rw [hq]
      refine r_goto (tgt := 3) C dX7_lays_36 (by decide) ?_
      exact ih (i + 1) (by omega)
  have k0 := key 4 0 rfl
  rw [Nat.add_zero, up_same ht, show layN (R 1) t v 0 = R 1 from rfl, up_same rfl] at k0
  refine r_bipush (v := 24) C dX7_lays_0 (by decide) ?_
  refine r_istore_n C dX7_lays_2 rfl (by decide) ?_
  exact k0
def feedT (f : Nat → Int32) (t : Nat) (a b c d e : Int32) : Nat → Int32 := layN (layN (layN (layN (layN f t a 4) (t + 4) b 4) (t + 8) c 4) (t + 12) d 4) (t + 16) e 4
theorem c_feed {t : Nat} (a b c d e : Int32) (ht : M 2 = nI t) (h8 : t ≤ 800) : mI G h ad yX7_feed cX7_feed 6 .int 1 [.int a, .int b, .int c, .int d, .int e] M R (fun r M' R' => if t ≤ 780 then r = nI (t + 20) ∧ M' = va_up (va_up M 0 0) 2 (nI (t + 20)) ∧ R' = va_up R 1 (feedT (R 1) t a b c d e) else r = -1 ∧ M' = va_up M 0 0 ∧ R' = R) := by
  refine mI.intro (by decide) (Nat.le_of_ble_eq_true rfl) (cat1 (xs := [a, b, c, d, e])) fun X C hR => ?_
  have e20 : nI t + 20 = nI (t + 20) := nI_add t 20
  have c800 : (800 : Int32) = nI 800 := rfl
  refine r_aload_n C dX7_feed_0 rfl rfl ?_
  refine r_iconst (v := 0) C dX7_feed_1 (by decide) ?_
  refine mp_thrown C dX7_feed_2 ?_
  refine r_aload_n C dX7_feed_5 rfl rfl ?_
  refine mg_taped C dX7_feed_6 ?_
  refine r_bipush (v := 20) C dX7_feed_9 (by decide) ?_
  refine r_iadd C dX7_feed_11 ?_
  refine r_sipush (v := 800) C dX7_feed_12 (by decide) ?_
  show V X 0 0 15 _ [.int 800, .int (M 2 + 20)] _
  rw [ht, e20, c800]
  refine r_icmp_le (tgt := 20) C dX7_feed_15 (by decide) (fun c15 => ?_) (fun c15 => ?_)
  · rw [nI_leI (by omega) (by omega)] at c15
    refine r_aload_n C dX7_feed_20 rfl rfl ?_
    refine r_iload_n C dX7_feed_21 rfl rfl ?_
    refine m_callv C (c_lays G h ad (va_up M 0 0) R (t := t) a ht (by omega)) kM_lays dX7_feed_22 rfl (by decide) (by decide) (by decide) (by decide) rfl rfl (fun M1 R1 hp => ?_)
    obtain ⟨rfl, rfl⟩ := hp
    refine r_aload_n C dX7_feed_25 rfl rfl ?_
    refine r_iload_n C dX7_feed_26 rfl rfl ?_
    refine m_callv C (c_lays G h ad _ _ (t := t + 4) b rfl (by omega)) kM_lays dX7_feed_27 rfl (by decide) (by decide) (by decide) (by decide) rfl rfl (fun M1 R1 hp => ?_)
    obtain ⟨rfl, rfl⟩ := hp
    refine r_aload_n C dX7_feed_30 rfl rfl ?_
    refine r_iload_n C dX7_feed_31 rfl rfl ?_
    refine m_callv C (c_lays G h ad _ _ (t := t + 8) c rfl (by omega)) kM_lays dX7_feed_32 rfl (by decide) (by decide) (by decide) (by decide) rfl rfl (fun M1 R1 hp => ?_)
    obtain ⟨rfl, rfl⟩ := hp
    refine r_aload_n C dX7_feed_35 rfl rfl ?_
    refine r_iload C dX7_feed_36 rfl ?_
    refine m_callv C (c_lays G h ad _ _ (t := t + 12) d rfl (by omega)) kM_lays dX7_feed_38 rfl (by decide) (by decide) (by decide) (by decide) rfl rfl (fun M1 R1 hp => ?_)
    obtain ⟨rfl, rfl⟩ := hp
    refine r_aload_n C dX7_feed_41 rfl rfl ?_
    refine r_iload C dX7_feed_42 rfl ?_
    refine m_callv C (c_lays G h ad _ _ (t := t + 16) e rfl (by omega)) kM_lays dX7_feed_44 rfl (by decide) (by decide) (by decide) (by decide) rfl rfl (fun M1 R1 hp => ?_)
    obtain ⟨rfl, rfl⟩ := hp
    refine r_aload_n C dX7_feed_47 rfl rfl ?_
    refine mg_taped C dX7_feed_48 ?_
    exact hR _ _ _ _ _ rfl dX7_feed_51 (by rw [if_pos (by omega)]; exact ⟨rfl, by simp only [up_up], by simp only [up_up]; rfl⟩)
  · rw [nI_leI (by omega) (by omega)] at c15
    refine r_iconst (v := -1) C dX7_feed_18 (by decide) ?_
    exact hR _ _ _ _ _ rfl dX7_feed_19 (by rw [if_neg (by omega)]; exact ⟨rfl, rfl, rfl⟩)
/-- a pattern's number, and that it is there -/
def isPat (R : Rt) (k : Int32) : Prop := ∃ j : Nat, j < 8 ∧ k = nI j ∧ 0 < R 5 j
theorem c_isPattern (kk : Int32) : mI G h ad yX7_isPattern cX7_isPattern 2 .boolean 1 [.int kk] M R (fun r M' R' => R' = R ∧ ((isPat R kk ∧ r = 1 ∧ M' = va_up M 0 0) ∨ (¬ isPat R kk ∧ r = 0 ∧ M' = va_up M 0 1))) := by
  refine mI.intro (by decide) (Nat.le_of_ble_eq_true rfl) (cat1 (xs := [kk])) fun X C hR => ?_
  have j30 : ∀ b : Int32, (isPat R kk ∧ b = 1) ∨ (¬ isPat R kk ∧ b = 0) → V X 0 0 30 (ent [.ref h, .int kk] 2) [.int b, .ref h] (mW G h ad (va_up M 0 0) R) := by
    intro b hb
    refine r_iconst (v := 1) C dX7_isPattern_30 (by decide) ?_
    refine m_calli C (c_right G h ad _ _ b 1) kM_right dX7_isPattern_31 rfl (by decide) (by decide) (by decide) (by decide) rfl rfl (fun r M1 R1 hp => ?_)
    obtain ⟨rfl, rfl, rfl⟩ := hp
    exact hR _ _ _ _ _ (by split <;> rfl) dX7_isPattern_34 ⟨rfl, by rcases hb with ⟨q, rfl⟩ | ⟨q, rfl⟩ <;> simp [rightM, va_up, q, up_up]⟩
  refine r_aload_n C dX7_isPattern_0 rfl rfl ?_
  refine r_iconst (v := 0) C dX7_isPattern_1 (by decide) ?_
  refine mp_thrown C dX7_isPattern_2 ?_
  refine r_aload_n C dX7_isPattern_5 rfl rfl ?_
  refine r_iload_n C dX7_isPattern_6 rfl rfl ?_
  refine r_if_lt (tgt := 29) C dX7_isPattern_7 (by decide) (fun c7 => ?_) (fun c7 => ?_)
  · refine r_iconst (v := 0) C dX7_isPattern_29 (by decide) ?_
    exact j30 _ (Or.inr ⟨fun ⟨j', q1, q2, q3⟩ => by first | (exact absurd c7 (by rw [q2]; exact nI_pos (by omega))) | (exact absurd c13 (by rw [q2]; exact Int32.not_lt.mpr (nI_le (a := j') (b := 7) (by omega) (by decide)))) | (rw [nI_eq (by omega) (by omega)] at q2; subst q2; exact absurd q3 (Int32.not_lt.mpr c22)), rfl⟩)
  · refine r_iload_n C dX7_isPattern_10 rfl rfl ?_
    refine r_bipush (v := 7) C dX7_isPattern_11 (by decide) ?_
    refine r_icmp_gt (tgt := 29) C dX7_isPattern_13 (by decide) (fun c13 => ?_) (fun c13 => ?_)
    · refine r_iconst (v := 0) C dX7_isPattern_29 (by decide) ?_
      exact j30 _ (Or.inr ⟨fun ⟨j', q1, q2, q3⟩ => by first | (exact absurd c7 (by rw [q2]; exact nI_pos (by omega))) | (exact absurd c13 (by rw [q2]; exact Int32.not_lt.mpr (nI_le (a := j') (b := 7) (by omega) (by decide)))) | (rw [nI_eq (by omega) (by omega)] at q2; subst q2; exact absurd q3 (Int32.not_lt.mpr c22)), rfl⟩)
    · obtain ⟨j, hj8, rfl⟩ := nI_of2 (n := 7) (by decide) c7 (Int32.not_lt.mp c13)
      refine r_aload_n C dX7_isPattern_16 rfl rfl ?_
      refine mg_straws C dX7_isPattern_17 ?_
      refine r_iload_n C dX7_isPattern_20 rfl rfl ?_
      refine ml_straws C dX7_isPattern_21 (vp_in_nI (show j < 8 by omega) (by decide)) ?_
      rw [nI_clamp (by omega)]
      refine r_if_le (tgt := 29) C dX7_isPattern_22 (by decide) (fun c22 => ?_) (fun c22 => ?_)
      · refine r_iconst (v := 0) C dX7_isPattern_29 (by decide) ?_
        exact j30 _ (Or.inr ⟨fun ⟨j', q1, q2, q3⟩ => by first | (exact absurd c7 (by rw [q2]; exact nI_pos (by omega))) | (exact absurd c13 (by rw [q2]; exact Int32.not_lt.mpr (nI_le (a := j') (b := 7) (by omega) (by decide)))) | (rw [nI_eq (by omega) (by omega)] at q2; subst q2; exact absurd q3 (Int32.not_lt.mpr c22)), rfl⟩)
      · exact r_iconst (v := 1) C dX7_isPattern_25 (by decide) (r_goto (tgt := 30) C dX7_isPattern_26 (by decide) (j30 _ (Or.inl ⟨⟨j, by omega, rfl, Int32.not_le.mp c22⟩, rfl⟩)))
end M2
