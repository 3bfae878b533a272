/-! the reference: factor, untwined, about -/
/-- what stays of the rows and of the numbers where only scratch is written -/
def SamP (R R' : Rt) : Prop := ∀ i, (i = 1 ∨ i = 5 ∨ i = 6 ∨ i = 7 ∨ (31 ≤ i ∧ i ≤ 42)) → R' i = R i
def SamM (M M' : Mt) : Prop := ∀ i, (i = 2 ∨ i = 3 ∨ i = 4 ∨ (28 ≤ i ∧ i ≤ 30)) → M' i = M i
theorem SamP.rf {R : Rt} : SamP R R := fun _ _ => rfl
theorem SamM.rf {M : Mt} : SamM M M := fun _ _ => rfl
theorem SamP.tr {R R' R2 : Rt} (h : SamP R R') (h2 : SamP R' R2) : SamP R R2 := fun i hi => (h2 i hi).trans (h i hi)
theorem SamM.tr {R R' R2 : Mt} (h : SamM R R') (h2 : SamM R' R2) : SamM R R2 := fun i hi => (h2 i hi).trans (h i hi)
theorem SamP.up {R R' : Rt} {k : Nat} {P : Nat → Int32} (h : SamP R R') (hk : ¬ (k = 1 ∨ k = 5 ∨ k = 6 ∨ k = 7 ∨ (31 ≤ k ∧ k ≤ 42))) : SamP R (va_up R' k P) := fun i hi => by
  rw [va_up_no (show i ≠ k from fun e => hk (by subst e; exact hi))]
  exact h i hi
theorem SamM.up {R R' : Mt} {k : Nat} {v : Int32} (h : SamM R R') (hk : ¬ (k = 2 ∨ k = 3 ∨ k = 4 ∨ (28 ≤ k ∧ k ≤ 30))) : SamM R (va_up R' k v) := fun i hi => by
  rw [va_up_no (show i ≠ k from fun e => hk (by subst e; exact hi))]
  exact h i hi
theorem SamP.pat {R R' : Rt} (h : SamP R R') {j s z : Nat} (hp : PatOK R j s z) : PatOK R' j s z := by
  unfold PatOK rowOf at *
  rw [h 5 (by omega), h 6 (by omega), h 7 (by omega)]
  exact hp
theorem SamP.row {R R' : Rt} (h : SamP R R') {j : Nat} : rowOf R' j = rowOf R j := by
  unfold rowOf
  rw [h 7 (by omega)]
theorem SamP.isP {R R' : Rt} (h : SamP R R') {k : Int32} : isPat R' k ↔ isPat R k := by
  unfold isPat
  rw [h 5 (by omega)]
theorem SamP.pats {R R' : Rt} (h : SamP R R') (hp : PatsOK R) : PatsOK R' := fun j hj h0 => by
  rw [h 5 (by omega)] at h0
  obtain ⟨s, z, q⟩ := hp j hj h0
  exact ⟨s, z, h.pat q⟩
/-- the form of a row made so many times: n factors that are not empty, the first of them D -/
def NFof (c : Nat → Int32) (s z all n first : Nat) (B : Sq) : Prop := first ≤ n ∧ n ≤ all ∧ Rch s all (seq0 c s z all) B ∧ Nf s all B ∧ (∀ f, n ≤ f → B f = idF) ∧ (∀ f, f < n → B f ≠ idF) ∧ (∀ f, f < first → B f = revF s) ∧ (first < n → B first ≠ revF s)
theorem NFof.one {c : Nat → Int32} {s z all n first n' first' : Nat} {B B' : Sq} (hs : s ≤ 7) (hz : 0 < z ∨ all = 0) (hok : ∀ i, i < z → okC s (c i)) (h : NFof c s z all n first B) (h' : NFof c s z all n' first' B') : B = B' ∧ n = n' ∧ first = first' := by
  obtain ⟨a1, a2, a3, a4, a5, a6, a7, a8⟩ := h
  obtain ⟨b1, b2, b3, b4, b5, b6, b7, b8⟩ := h'
  have e := nf_one (mu s (seq0 c s z all) all + 1) _ B B' (seq0_can hs hz hok) (by omega) a3 b3 a4 b4
  subst e
  have en : n = n' := by
    rcases Nat.lt_trichotomy n n' with w | w | w
    · exact absurd (a5 n (Nat.le_refl _)) (b6 n w)
    · exact w
    · exact absurd (b5 n' (Nat.le_refl _)) (a6 n' w)
  subst en
  refine ⟨rfl, rfl, ?_⟩
  rcases Nat.lt_trichotomy first first' with w | w | w
  · exact absurd (b7 first w) (a8 (by omega))
  · exact w
  · exact absurd (a7 first' w) (b8 (by omega))
theorem FormOut.get {c : Nat → Int32} {s z all : Nat} {M M' : Mt} {R R' : Rt} (h : FormOut c s z all M M' R R') : ∃ n first B, NFof c s z all n first B ∧ M' 19 = nI (n - first) ∧ M' 20 = -nI (ngd c z all all) + nI first ∧ M' 0 = M 0 ∧ SamM M M' ∧ SamP R R' ∧ SeqOK R' (n - first) s (fun f => B (f + first)) ∧ R' 22 = R 22 := by
  obtain ⟨n, first, B, P, Q, a1, a2, a3, a4, a5, a6, a7, a8, rfl, rfl, a9⟩ := h
  exact ⟨n, first, B, ⟨a1, a2, a3, a4, a5, a6, a7, a8⟩, rfl, rfl, rfl, (SamM.rf.up (by omega)).up (by omega), (SamP.rf.up (by omega)).up (by omega), a9, rfl⟩
section M17
variable (G : Gx) (h : Nat) (ad : Nat → Nat) (M : Mt) (R : Rt)
theorem c_factor (kk jj : Int32) (hP : PatsOK R) : mI G h ad yX7_factor cX7_factor 3 .int 5 [.int kk, .int jj] M R (fun r M' R' => SamM M M' ∧ SamP R R' ∧ ((∃ j s z n first B i, j < 8 ∧ kk = nI j ∧ PatOK R j s z ∧ NFof (rowOf R j) s z z n first B ∧ jj = nI i ∧ i < n - first ∧ r = codeF (B (i + first)) s ∧ M' 0 = 0) ∨ ((¬ isPat R kk ∨ ∃ j s z n first B, j < 8 ∧ kk = nI j ∧ PatOK R j s z ∧ NFof (rowOf R j) s z z n first B ∧ ∀ i, i < n - first → jj ≠ nI i) ∧ r = 0 ∧ M' 0 = 1))) := by
  refine mI.intro (by decide) (Nat.le_of_ble_eq_true rfl) (cat1 (xs := [kk, jj])) fun X C hR => ?_
  refine r_aload_n C dX7_factor_0 rfl rfl ?_
  refine r_iload_n C dX7_factor_1 rfl rfl ?_
  refine m_calli C (c_isPattern G h ad M R kk) kM_isPattern dX7_factor_2 rfl (by decide) (by decide) (by decide) (by decide) rfl rfl (fun r M1 R1 hq => ?_)
  obtain ⟨rfl, ⟨hpat, rfl, rfl⟩ | ⟨hpat, rfl, rfl⟩⟩ := hq
  rotate_left
  · refine r_if_ne (tgt := 10) C dX7_factor_5 (by decide) (fun c5 => absurd c5 ((fun q => q rfl))) (fun c5 => ?_)
    refine r_iconst (v := 0) C dX7_factor_8 (by decide) ?_
    exact hR _ _ _ _ _ rfl dX7_factor_9 ⟨SamM.rf.up (by omega), SamP.rf, Or.inr ⟨Or.inl hpat, rfl, rfl⟩⟩
  obtain ⟨j, s, z, hj, rfl, hp⟩ := isPat_at hpat hP
  obtain ⟨hs5, hs2, hs7, hz, hz3, hok⟩ := id hp
  refine r_if_ne (tgt := 10) C dX7_factor_5 (by decide) (fun c5 => ?_) (fun c5 => absurd c5 ((by decide)))
  refine r_aload_n C dX7_factor_10 rfl rfl ?_
  refine r_iload_n C dX7_factor_11 rfl rfl ?_
  refine r_iconst (v := 1) C dX7_factor_12 (by decide) ?_
  refine m_callv C (c_form G h ad (va_up M 0 0) R1 (T := 1) hj hp (by decide) (by omega)) kM_form dX7_factor_13 rfl (by decide) (by decide) (by decide) (by decide) rfl rfl (fun M2 R2 hq => ?_)
  rw [Nat.mul_one] at hq
  obtain ⟨n, first, B, hnf, hM19, hM20, hM0, hSM, hSP, hSeq, -⟩ := hq.get
  skip
  have hl : n - first ≤ 600 := by have := hnf.2.1; omega
  have hS1 : SamM M M2 := (SamM.rf.up (by omega)).tr hSM
  have j33 : (∀ i, i < n - first → jj ≠ nI i) → V X 0 0 33 (ent [.ref h, .int (nI j), .int jj] 3) [.ref h] (mW G h ad M2 R2) := by
    intro hno
    refine r_iconst (v := 0) C dX7_factor_33 (by decide) ?_
    refine r_iconst (v := 1) C dX7_factor_34 (by decide) ?_
    refine m_calli C (c_right0 G h ad _ _ 1 (by decide) hM0) kM_right dX7_factor_35 rfl (by decide) (by decide) (by decide) (by decide) rfl rfl (fun r M3 R3 hq => ?_)
    obtain ⟨rfl, rfl, rfl⟩ := hq
    refine r_if_eq (tgt := 55) C dX7_factor_38 (by decide) (fun c38 => ?_) (fun c38 => absurd c38 ((fun q => q rfl)))
    refine r_iconst (v := 0) C dX7_factor_55 (by decide) ?_
    exact hR _ _ _ _ _ rfl dX7_factor_56 ⟨hS1.up (by omega), hSP, Or.inr ⟨Or.inr ⟨j, s, z, n, first, B, hj, rfl, hp, hnf, hno⟩, rfl, rfl⟩⟩
  have hcB := hnf.2.2.1.can (seq0_can hs7 (by omega) hok)
  refine r_aload_n C dX7_factor_16 rfl rfl ?_
  refine r_iload_n C dX7_factor_17 rfl rfl ?_
  refine r_if_lt (tgt := 33) C dX7_factor_18 (by decide) (fun c18 => ?_) (fun c18 => ?_)
  · exact j33 (fun i hi e => by subst e; first | exact absurd c18 (nI_pos (by omega)) | (rw [nI_leI (by omega) (by omega)] at c26; omega))
  · refine r_iload_n C dX7_factor_21 rfl rfl ?_
    refine r_aload_n C dX7_factor_22 rfl rfl ?_
    refine mg_perms C dX7_factor_23 ?_
    rw [hM19]
    refine r_icmp_ge (tgt := 33) C dX7_factor_26 (by decide) (fun c26 => ?_) (fun c26 => ?_)
    · exact j33 (fun i hi e => by subst e; first | exact absurd c18 (nI_pos (by omega)) | (rw [nI_leI (by omega) (by omega)] at c26; omega))
    · obtain ⟨i, hi31, rfl⟩ := nI_of c18
      rw [nI_leI (by omega) (by omega)] at c26
      refine r_iconst (v := 1) C dX7_factor_29 (by decide) ?_
      refine r_goto (tgt := 34) C dX7_factor_30 (by decide) ?_
      refine r_iconst (v := 1) C dX7_factor_34 (by decide) ?_
      refine m_calli C (c_right1 G h ad _ _ 1 hM0) kM_right dX7_factor_35 rfl (by decide) (by decide) (by decide) (by decide) rfl rfl (fun r M3 R3 hq => ?_)
      obtain ⟨rfl, rfl, rfl⟩ := hq
      refine r_if_eq (tgt := 55) C dX7_factor_38 (by decide) (fun c38 => absurd c38 ((by decide))) (fun c38 => ?_)
      refine r_aload_n C dX7_factor_41 rfl rfl ?_
      refine r_iload_n C dX7_factor_42 rfl rfl ?_
      refine r_aload_n C dX7_factor_43 rfl rfl ?_
      refine mg_straws C dX7_factor_44 ?_
      refine r_iload_n C dX7_factor_47 rfl rfl ?_
      refine ml_straws C dX7_factor_48 (vp_in_nI hj (by decide)) ?_
      rw [nI_clamp (by omega), hSP 5 (by omega), hs5]
      refine m_calli C (c_coded G h ad _ _ (f := i) (s := s) (F := B (i + first)) (by omega) hs7 ⟨hSeq i (by omega), (hcB.1 _).1⟩) kM_coded dX7_factor_49 rfl (by decide) (by decide) (by decide) (by decide) rfl rfl (fun r M4 R4 hq => ?_)
      obtain ⟨rfl, rfl, rfl⟩ := hq
      refine r_goto (tgt := 56) C dX7_factor_52 (by decide) ?_
      exact hR _ _ _ _ _ rfl dX7_factor_56 ⟨hS1, hSP, Or.inl ⟨j, s, z, n, first, B, i, hj, rfl, hp, hnf, rfl, by omega, rfl, hM0⟩⟩
/-- m times make an even power of D -/
def evenAt (c : Nat → Int32) (s z m : Nat) : Prop := ∃ n B, NFof c s z (z * m) n n B ∧ (ngd c z (z * m) (z * m) + n) % 2 = 0
end M17
