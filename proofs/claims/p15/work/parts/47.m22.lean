/-! the reference: what a reading stands at; opens -/
def okK (k : Nat) : Prop := (1 ≤ k ∧ k ≤ 50) ∨ k = 109 ∨ k = 116 ∨ k = 117
/-- a reading: e bytes of n straws, at a, mny crossings row so far, dp brackets open, kd and fr -/
def RdS (M : Mt) (R : Rt) (e n a mny dp : Nat) (row : Nat → Int32) (kd fr : Nat → Nat) : Prop :=
  M 8 = nI e ∧ M 9 = nI a ∧ M 10 = nI n ∧ M 12 = nI mny ∧ M 15 = nI dp ∧ M 3 = 0 ∧ M 4 = -1 ∧ e ≤ 800 ∧ a ≤ e ∧ 2 ≤ n ∧ n ≤ 7 ∧ mny ≤ 300 ∧ dp ≤ 8 ∧ (∀ i, i < mny → R 11 i = row i ∧ okC n (row i)) ∧ ∀ i, i < dp → R 13 i = nI (kd i) ∧ okK (kd i) ∧ R 14 i = nI (fr i) ∧ fr i ≤ mny
/-- what reading leaves alone: all but at, made, many, the brackets, the number, the fault -/
def RdM (M M' : Mt) : Prop := ∀ i, (i = 0 ∨ i = 2 ∨ i = 8 ∨ i = 10 ∨ (19 ≤ i ∧ i ≤ 44)) → M' i = M i
def RdR (R R' : Rt) : Prop := ∀ i, i ≠ 11 → i ≠ 13 → i ≠ 14 → R' i = R i
theorem RdM.rf {M : Mt} : RdM M M := fun _ _ => rfl
theorem RdR.rf {R : Rt} : RdR R R := fun _ _ _ _ => rfl
theorem RdM.tr {M M' M2 : Mt} (h : RdM M M') (h2 : RdM M' M2) : RdM M M2 := fun i hi => (h2 i hi).trans (h i hi)
theorem RdR.tr {R R' R2 : Rt} (h : RdR R R') (h2 : RdR R' R2) : RdR R R2 := fun i h1 h3 h4 => (h2 i h1 h3 h4).trans (h i h1 h3 h4)
theorem RdM.up {M M' : Mt} {k : Nat} {v : Int32} (h : RdM M M') (hk : ¬ (k = 0 ∨ k = 2 ∨ k = 8 ∨ k = 10 ∨ (19 ≤ k ∧ k ≤ 44))) : RdM M (va_up M' k v) := fun i hi => by
  rw [va_up_no (show i ≠ k from fun e => hk (by subst e; exact hi))]
  exact h i hi
theorem RdR.up {R R' : Rt} {k : Nat} {P : Nat → Int32} (h : RdR R R') (hk : k = 11 ∨ k = 13 ∨ k = 14) : RdR R (va_up R' k P) := fun i h1 h2 h3 => by
  rw [va_up_no (by omega)]
  exact h i h1 h2 h3
section M22
variable (G : Gx) (h : Nat) (ad : Nat → Nat) (M : Mt) (R : Rt)
theorem c_opens {e n a mny dp : Nat} {row : Nat → Int32} {kd fr : Nat → Nat} (kv : Nat) (hk : okK kv) (hS : RdS M R e n a mny dp row kd fr) (hae : a < e) : mI G h ad yX7_opens cX7_opens 2 .boolean 1 [.int (nI kv)] M R (fun r M' R' => RdM M M' ∧ RdR R R' ∧ ((dp = 8 ∧ r = 0 ∧ M' 3 = 2 ∧ M' 4 = nI a ∧ M' 8 = nI e ∧ M' 9 = nI a) ∨ (dp < 8 ∧ r = 1 ∧ RdS M' R' e n (a + 1) mny (dp + 1) row (va_up kd dp kv) (va_up fr dp mny)))) := by
  refine mI.intro (by decide) (Nat.le_of_ble_eq_true rfl) (cat1 (xs := [nI kv])) fun X C hR => ?_
  obtain ⟨h8, h9, h10, h12, h15, h3, h4, he, ha, hn2, hn7, hm3, hd8, hrow, hbr⟩ := id hS
  have hcl : (M 15).toNatClampNeg = dp := by rw [h15, nI_clamp (by omega)]
  refine r_aload_n C dX7_opens_0 rfl rfl ?_
  refine mg_deep C dX7_opens_1 ?_
  refine r_bipush (v := 8) C dX7_opens_4 (by decide) ?_
  rw [h15]
  refine r_icmp_ne (tgt := 19) C dX7_opens_6 (by decide) (fun c6 => ?_) (fun c6 => ?_)
  · have hd : dp < 8 := Nat.lt_of_le_of_ne hd8 (fun q => c6 (by rw [q]; rfl))
    refine r_aload_n C dX7_opens_19 rfl rfl ?_
    refine mg_openKind C dX7_opens_20 ?_
    refine r_aload_n C dX7_opens_23 rfl rfl ?_
    refine mg_deep C dX7_opens_24 ?_
    refine r_iload_n C dX7_opens_27 rfl rfl ?_
    refine ms_openKind C dX7_opens_28 (by rw [h15]; exact vp_in_nI (show dp < 9 by omega) (by decide)) ?_
    refine r_aload_n C dX7_opens_29 rfl rfl ?_
    refine mg_openFrom C dX7_opens_30 ?_
    refine r_aload_n C dX7_opens_33 rfl rfl ?_
    refine mg_deep C dX7_opens_34 ?_
    refine r_aload_n C dX7_opens_37 rfl rfl ?_
    refine mg_many C dX7_opens_38 ?_
    refine ms_openFrom C dX7_opens_41 (by show vp_in (M 15) 9; rw [h15]; exact vp_in_nI (show dp < 9 by omega) (by decide)) ?_
    show V X 0 0 42 _ _ (mW G h ad M (va_up (va_up R 13 (upd (R 13) (M 15).toNatClampNeg (nI kv))) 14 (upd (R 14) (M 15).toNatClampNeg (M 12))))
    rw [hcl]
    refine r_aload_n C dX7_opens_42 rfl rfl ?_
    refine r_dup C dX7_opens_43 rfl ?_
    refine mg_deep C dX7_opens_44 ?_
    refine r_iconst (v := 1) C dX7_opens_47 (by decide) ?_
    refine r_iadd C dX7_opens_48 ?_
    rw [h15, nI_1]
    refine mp_deep C dX7_opens_49 ?_
    refine r_aload_n C dX7_opens_52 rfl rfl ?_
    refine r_dup C dX7_opens_53 rfl ?_
    refine mg_at C dX7_opens_54 ?_
    refine r_iconst (v := 1) C dX7_opens_57 (by decide) ?_
    refine r_iadd C dX7_opens_58 ?_
    show V X 0 0 59 _ [.int (M 9 + 1), .ref h] _
    rw [h9, nI_1]
    refine mp_at C dX7_opens_59 ?_
    refine r_iconst (v := 1) C dX7_opens_62 (by decide) ?_
    exact hR _ _ _ _ _ rfl dX7_opens_63 ⟨(RdM.rf.up (by omega)).up (by omega), (RdR.rf.up (by omega)).up (by omega), Or.inr ⟨hd, rfl, h8, rfl, h10, h12, rfl, h3, h4, he, by omega, hn2, hn7, hm3, by omega, hrow, fun i hi => by
      show upd (R 13) dp (nI kv) i = _ ∧ _ ∧ upd (R 14) dp (M 12) i = _ ∧ _
      by_cases q : i = dp
      · subst q
        rw [pk_us, pk_us, va_up_at, va_up_at]
        exact ⟨rfl, hk, h12, Nat.le_refl _⟩
      · rw [pk_un q, pk_un q, va_up_no q, va_up_no q]
        exact hbr i (by omega)⟩⟩
  · have hd : dp = 8 := (nI_eq (b := 8) (by omega) (by decide)).mp c6
    refine r_aload_n C dX7_opens_9 rfl rfl ?_
    refine r_iconst (v := 2) C dX7_opens_10 (by decide) ?_
    refine r_aload_n C dX7_opens_11 rfl rfl ?_
    refine mg_at C dX7_opens_12 ?_
    refine m_calli C (c_wrong G h ad M R 2 (M 9)) kM_wrong dX7_opens_15 rfl (by decide) (by decide) (by decide) (by decide) rfl rfl (fun r M1 R1 hq => ?_)
    obtain ⟨rfl, rfl, rfl⟩ := hq
    rw [if_pos h3]
    exact hR _ _ _ _ _ rfl dX7_opens_18 ⟨(RdM.rf.up (by omega)).up (by omega), RdR.rf, Or.inl ⟨hd, rfl, rfl, h9, h8, h9⟩⟩
end M22
