/-! the class: Form: its methods end, and keep within their rows -/
theorem and7_in (x : Int32) : vp_in (x &&& 7) 8 := pk_andIn x (m := 7) 3 (by decide +kernel) (by decide)
theorem nI_m1 (m : Nat) : nI m + (-1) = nI m - 1 := (Int32.sub_eq_add_neg _ _).symm
theorem m1_lt {m h : Nat} (hm : m < 2 ^ 30) (hh : h < 2 ^ 30) : nI m - 1 < nI h ↔ m ≤ h := by
  rcases Nat.eq_zero_or_pos m with q | q
  · subst q
    refine ⟨fun _ => Nat.zero_le _, fun _ => ?_⟩
    exact Int32.lt_of_lt_of_le (show nI 0 - 1 < nI 0 by decide) (nI_le (Nat.zero_le _) (by omega))
  · obtain ⟨k, rfl⟩ : ∃ k, m = k + 1 := ⟨m - 1, by omega⟩
    rw [nI_pred, nI_ltI (by omega) (by omega)]
    omega
/-- the numbers of a form within their bounds -/
def FmB (N : Nat → Int32) (Z s hd tl : Nat) : Prop := N 4 = nI s ∧ 2 ≤ s ∧ s ≤ 7 ∧ N 2 = nI hd ∧ N 3 = nI tl ∧ hd ≤ tl ∧ tl ≤ Z
section FW
variable (G : Gx) (Z : Nat) (A : Nat → Nat) (P : va_W) (N : Nt) (R : Rt) (Q : Qt)
theorem w_packed (x v : Int32) : CI G yX1_packed cX1_packed 2 .int 0 0 0 [.int x, .int v] [] (S := Unit) (fun _ _ => True) (fun _ => []) := by
  refine CI.intro (by decide) (Nat.le_of_ble_eq_true rfl) (cat0 (xs := [x, v])) fun X C hR => ?_
  refine r_iload_n C dX1_packed_0 rfl rfl ?_
  refine r_iconst (v := 3) C dX1_packed_1 (by decide) ?_
  refine r_iload_n C dX1_packed_2 rfl rfl ?_
  refine r_iconst (v := 1) C dX1_packed_3 (by decide) ?_
  refine r_isub C dX1_packed_4 ?_
  refine r_imul C dX1_packed_5 ?_
  refine r_ishl C dX1_packed_6 ?_
  exact hR _ _ _ _ _ () (by decide) (by decide) rfl trivial dX1_packed_7
theorem w_unpack {s : Nat} (v : Int32) (hs : N 0 4 = nI s) (hs7 : s ≤ 7) : CV G yX1_unpack cX1_unpack 3 0 0 0 [.ref (A 0), .int v] (fW G Z A N R Q ++ P) (S := Rt) (fun _ => True) (fun R' => fW G Z A N R' Q ++ P) := by
  refine CV.intro (by decide) (Nat.le_of_ble_eq_true rfl) (cat1 (xs := [v])) fun X C hR => ?_
  have key : ∀ (f p : Nat) (R' : Rt), p + f = s + 1 → 1 ≤ p → V X 0 0 2 [some (.ref (A 0)), some (.int v), some (.int (nI p))] [] (fW G Z A N R' Q ++ P) := by
    intro f
    induction f with
    | zero =>
      intro p R' hp h1
      refine r_iload_n C dX1_unpack_2 rfl rfl ?_
      refine r_aload_n C dX1_unpack_3 rfl rfl ?_
      refine fg_X1_21 C dX1_unpack_4 ?_
      rw [hs]
      refine r_icmp_gt (tgt := 32) C dX1_unpack_7 (by decide) (fun c7 => ?_) (fun c7 => absurd c7 ((fun q => q (nI_lt (by omega) (by omega)))))
      exact hR _ _ _ _ R' (by decide) (by decide) trivial dX1_unpack_32
    | succ f ih =>
      intro p R' hp h1
      refine r_iload_n C dX1_unpack_2 rfl rfl ?_
      refine r_aload_n C dX1_unpack_3 rfl rfl ?_
      refine fg_X1_21 C dX1_unpack_4 ?_
      rw [hs]
      refine r_icmp_gt (tgt := 32) C dX1_unpack_7 (by decide) (fun c7 => absurd c7 ((by rw [nI_ltI (by omega) (by omega)]; omega))) (fun c7 => ?_)
      refine r_aload_n C dX1_unpack_10 rfl rfl ?_
      refine fg_X1_34 C dX1_unpack_11 ?_
      refine r_iload_n C dX1_unpack_14 rfl rfl ?_
      refine r_iload_n C dX1_unpack_15 rfl rfl ?_
      refine r_iconst (v := 3) C dX1_unpack_16 (by decide) ?_
      refine r_iload_n C dX1_unpack_17 rfl rfl ?_
      refine r_iconst (v := 1) C dX1_unpack_18 (by decide) ?_
      refine r_isub C dX1_unpack_19 ?_
      refine r_imul C dX1_unpack_20 ?_
      refine r_ishr C dX1_unpack_21 ?_
      refine r_bipush (v := 7) C dX1_unpack_22 (by decide) ?_
      refine r_iand C dX1_unpack_24 ?_
      refine fs_3 C dX1_unpack_25 (vp_in_nI (show p < 8 by omega) (by decide)) ?_
      refine r_iinc (v := _ + 1) C dX1_unpack_26 rfl (by rfl) (by decide) ?_
      refine r_goto (tgt := 2) C dX1_unpack_29 (by decide) ?_
      show V X 0 0 2 [_, _, some (.int (nI p + 1))] _ _
      rw [nI_1]
      exact ih (p + 1) _ (by omega) (by omega)
  refine r_iconst (v := 1) C dX1_unpack_0 (by decide) ?_
  refine r_istore_n C dX1_unpack_1 rfl (by decide) ?_
  exact key s 1 R (by omega) (Nat.le_refl _)
theorem w_unpackInverse {s : Nat} (v : Int32) (hs : N 0 4 = nI s) (hs7 : s ≤ 7) : CV G yX1_unpackInverse cX1_unpackInverse 3 0 0 0 [.ref (A 0), .int v] (fW G Z A N R Q ++ P) (S := Rt) (fun _ => True) (fun R' => fW G Z A N R' Q ++ P) := by
  refine CV.intro (by decide) (Nat.le_of_ble_eq_true rfl) (cat1 (xs := [v])) fun X C hR => ?_
  have key : ∀ (f p : Nat) (R' : Rt), p + f = s + 1 → 1 ≤ p → V X 0 0 2 [some (.ref (A 0)), some (.int v), some (.int (nI p))] [] (fW G Z A N R' Q ++ P) := by
    intro f
    induction f with
    | zero =>
      intro p R' hp h1
      refine r_iload_n C dX1_unpackInverse_2 rfl rfl ?_
      refine r_aload_n C dX1_unpackInverse_3 rfl rfl ?_
      refine fg_X1_21 C dX1_unpackInverse_4 ?_
      rw [hs]
      refine r_icmp_gt (tgt := 32) C dX1_unpackInverse_7 (by decide) (fun c7 => ?_) (fun c7 => absurd c7 ((fun q => q (nI_lt (by omega) (by omega)))))
      exact hR _ _ _ _ R' (by decide) (by decide) trivial dX1_unpackInverse_32
    | succ f ih =>
      intro p R' hp h1
      refine r_iload_n C dX1_unpackInverse_2 rfl rfl ?_
      refine r_aload_n C dX1_unpackInverse_3 rfl rfl ?_
      refine fg_X1_21 C dX1_unpackInverse_4 ?_
      rw [hs]
      refine r_icmp_gt (tgt := 32) C dX1_unpackInverse_7 (by decide) (fun c7 => absurd c7 ((by rw [nI_ltI (by omega) (by omega)]; omega))) (fun c7 => ?_)
      refine r_aload_n C dX1_unpackInverse_10 rfl rfl ?_
      refine fg_X1_30 C dX1_unpackInverse_11 ?_
      refine r_iload_n C dX1_unpackInverse_14 rfl rfl ?_
      refine r_iconst (v := 3) C dX1_unpackInverse_15 (by decide) ?_
      refine r_iload_n C dX1_unpackInverse_16 rfl rfl ?_
      refine r_iconst (v := 1) C dX1_unpackInverse_17 (by decide) ?_
      refine r_isub C dX1_unpackInverse_18 ?_
      refine r_imul C dX1_unpackInverse_19 ?_
      refine r_ishr C dX1_unpackInverse_20 ?_
      refine r_bipush (v := 7) C dX1_unpackInverse_21 (by decide) ?_
      refine r_iand C dX1_unpackInverse_23 ?_
      refine r_iload_n C dX1_unpackInverse_24 rfl rfl ?_
      refine fs_2 C dX1_unpackInverse_25 (and7_in _) ?_
      refine r_iinc (v := _ + 1) C dX1_unpackInverse_26 rfl (by rfl) (by decide) ?_
      refine r_goto (tgt := 2) C dX1_unpackInverse_29 (by decide) ?_
      show V X 0 0 2 [_, _, some (.int (nI p + 1))] _ _
      rw [nI_1]
      exact ih (p + 1) _ (by omega) (by omega)
  refine r_iconst (v := 1) C dX1_unpackInverse_0 (by decide) ?_
  refine r_istore_n C dX1_unpackInverse_1 rfl (by decide) ?_
  exact key s 1 R (by omega) (Nat.le_refl _)
theorem w_pack {s : Nat} (hs : N 0 4 = nI s) (hs7 : s ≤ 7) : CI G yX1_pack cX1_pack 3 .int 1 0 0 [.ref (A 0)] (fW G Z A N R Q ++ P) (S := Unit) (fun _ _ => True) (fun _ => fW G Z A N R Q ++ P) := by
  refine CI.intro (by decide) (Nat.le_of_ble_eq_true rfl) (cat1 (xs := [])) fun X C hR => ?_
  have key : ∀ (f p : Nat) (v : Int32), p + f = s + 1 → 1 ≤ p → V X 0 0 4 [some (.ref (A 0)), some (.int v), some (.int (nI p))] [] (fW G Z A N R Q ++ P) := by
    intro f
    induction f with
    | zero =>
      intro p v hp h1
      refine r_iload_n C dX1_pack_4 rfl rfl ?_
      refine r_aload_n C dX1_pack_5 rfl rfl ?_
      refine fg_X1_21 C dX1_pack_6 ?_
      rw [hs]
      refine r_icmp_gt (tgt := 31) C dX1_pack_9 (by decide) (fun c9 => ?_) (fun c9 => absurd c9 ((fun q => q (nI_lt (by omega) (by omega)))))
      refine r_iload_n C dX1_pack_31 rfl rfl ?_
      exact hR _ _ _ _ _ () (by decide) (by decide) rfl trivial dX1_pack_32
    | succ f ih =>
      intro p v hp h1
      refine r_iload_n C dX1_pack_4 rfl rfl ?_
      refine r_aload_n C dX1_pack_5 rfl rfl ?_
      refine fg_X1_21 C dX1_pack_6 ?_
      rw [hs]
      refine r_icmp_gt (tgt := 31) C dX1_pack_9 (by decide) (fun c9 => absurd c9 ((by rw [nI_ltI (by omega) (by omega)]; omega))) (fun c9 => ?_)
      refine r_iload_n C dX1_pack_12 rfl rfl ?_
      refine r_iload_n C dX1_pack_13 rfl rfl ?_
      refine r_aload_n C dX1_pack_14 rfl rfl ?_
      refine fg_X1_34 C dX1_pack_15 ?_
      refine r_iload_n C dX1_pack_18 rfl rfl ?_
      refine fl_3 C dX1_pack_19 (vp_in_nI (show p < 8 by omega) (by decide)) ?_
      refine a_callS0 C (w_packed G _ _) kcX1_X1_packed dX1_pack_20 rfl (by decide) (by decide) (by decide) (Nat.le_of_ble_eq_true rfl) rfl (fun a u hu => ?_)
      refine r_ior C dX1_pack_23 ?_
      refine r_istore_n C dX1_pack_24 rfl (by decide) ?_
      refine r_iinc (v := _ + 1) C dX1_pack_25 rfl (by rfl) (by decide) ?_
      refine r_goto (tgt := 4) C dX1_pack_28 (by decide) ?_
      show V X 0 0 4 [_, _, some (.int (nI p + 1))] _ _
      rw [nI_1]
      exact ih (p + 1) _ (by omega) (by omega)
  refine r_iconst (v := 0) C dX1_pack_0 (by decide) ?_
  refine r_istore_n C dX1_pack_1 rfl (by decide) ?_
  refine r_iconst (v := 1) C dX1_pack_2 (by decide) ?_
  refine r_istore_n C dX1_pack_3 rfl (by decide) ?_
  exact key s 1 _ (by omega) (Nat.le_refl _)
theorem w_packInverse {s : Nat} (hs : N 0 4 = nI s) (hs7 : s ≤ 7) : CI G yX1_packInverse cX1_packInverse 3 .int 1 0 0 [.ref (A 0)] (fW G Z A N R Q ++ P) (S := Unit) (fun _ _ => True) (fun _ => fW G Z A N R Q ++ P) := by
  refine CI.intro (by decide) (Nat.le_of_ble_eq_true rfl) (cat1 (xs := [])) fun X C hR => ?_
  have key : ∀ (f p : Nat) (v : Int32), p + f = s + 1 → 1 ≤ p → V X 0 0 4 [some (.ref (A 0)), some (.int v), some (.int (nI p))] [] (fW G Z A N R Q ++ P) := by
    intro f
    induction f with
    | zero =>
      intro p v hp h1
      refine r_iload_n C dX1_packInverse_4 rfl rfl ?_
      refine r_aload_n C dX1_packInverse_5 rfl rfl ?_
      refine fg_X1_21 C dX1_packInverse_6 ?_
      rw [hs]
      refine r_icmp_gt (tgt := 31) C dX1_packInverse_9 (by decide) (fun c9 => ?_) (fun c9 => absurd c9 ((fun q => q (nI_lt (by omega) (by omega)))))
      refine r_iload_n C dX1_packInverse_31 rfl rfl ?_
      exact hR _ _ _ _ _ () (by decide) (by decide) rfl trivial dX1_packInverse_32
    | succ f ih =>
      intro p v hp h1
      refine r_iload_n C dX1_packInverse_4 rfl rfl ?_
      refine r_aload_n C dX1_packInverse_5 rfl rfl ?_
      refine fg_X1_21 C dX1_packInverse_6 ?_
      rw [hs]
      refine r_icmp_gt (tgt := 31) C dX1_packInverse_9 (by decide) (fun c9 => absurd c9 ((by rw [nI_ltI (by omega) (by omega)]; omega))) (fun c9 => ?_)
      refine r_iload_n C dX1_packInverse_12 rfl rfl ?_
      refine r_aload_n C dX1_packInverse_13 rfl rfl ?_
      refine fg_X1_30 C dX1_packInverse_14 ?_
      refine r_iload_n C dX1_packInverse_17 rfl rfl ?_
      refine fl_2 C dX1_packInverse_18 (vp_in_nI (show p < 8 by omega) (by decide)) ?_
      refine r_iload_n C dX1_packInverse_19 rfl rfl ?_
      refine a_callS0 C (w_packed G _ _) kcX1_X1_packed dX1_packInverse_20 rfl (by decide) (by decide) (by decide) (Nat.le_of_ble_eq_true rfl) rfl (fun a u hu => ?_)
      refine r_ior C dX1_packInverse_23 ?_
      refine r_istore_n C dX1_packInverse_24 rfl (by decide) ?_
      refine r_iinc (v := _ + 1) C dX1_packInverse_25 rfl (by rfl) (by decide) ?_
      refine r_goto (tgt := 4) C dX1_packInverse_28 (by decide) ?_
      show V X 0 0 4 [_, _, some (.int (nI p + 1))] _ _
      rw [nI_1]
      exact ih (p + 1) _ (by omega) (by omega)
  refine r_iconst (v := 0) C dX1_packInverse_0 (by decide) ?_
  refine r_istore_n C dX1_packInverse_1 rfl (by decide) ?_
  refine r_iconst (v := 1) C dX1_packInverse_2 (by decide) ?_
  refine r_istore_n C dX1_packInverse_3 rfl (by decide) ?_
  exact key s 1 _ (by omega) (Nat.le_refl _)
theorem w_withNumbersChanged {s : Nat} (v i : Int32) (hs : N 0 4 = nI s) (hs7 : s ≤ 7) : CI G yX1_withNumbersChanged cX1_withNumbersChanged 3 .int 2 0 0 [.ref (A 0), .int v, .int i] (fW G Z A N R Q ++ P) (S := Rt) (fun _ _ => True) (fun R' => fW G Z A N R' Q ++ P) := by
  refine CI.intro (by decide) (Nat.le_of_ble_eq_true rfl) (cat1 (xs := [v, i])) fun X C hR => ?_
  have j26 : ∀ R' : Rt, V X 0 0 26 (ent [.ref (A 0), .int v, .int i] 3) [] (fW G Z A N R' Q ++ P) := by
    intro R'
    refine r_aload_n C dX1_withNumbersChanged_26 rfl rfl ?_
    refine a_callVi C (w_packInverse G Z A P N R' Q hs hs7) kcX1_X1_packInverse dX1_withNumbersChanged_27 rfl (by decide) (by decide) (by decide) (Nat.le_of_ble_eq_true rfl) 0 rfl (ci := 1) rfl rfl rfl (fun r u hu => ?_)
    exact hR _ _ _ _ _ R' (by decide) (by decide) rfl trivial dX1_withNumbersChanged_30
  refine r_aload_n C dX1_withNumbersChanged_0 rfl rfl ?_
  refine r_iload_n C dX1_withNumbersChanged_1 rfl rfl ?_
  refine a_callVv C (w_unpackInverse G Z A P N R Q v hs hs7) kcX1_X1_unpackInverse dX1_withNumbersChanged_2 rfl (by decide) (by decide) (by decide) (Nat.le_of_ble_eq_true rfl) 0 rfl (ci := 1) rfl rfl rfl (fun R1 _ => ?_)
  refine r_iload_n C dX1_withNumbersChanged_5 rfl rfl ?_
  refine r_iconst (v := 1) C dX1_withNumbersChanged_6 (by decide) ?_
  refine r_icmp_lt (tgt := 26) C dX1_withNumbersChanged_7 (by decide) (fun c7 => ?_) (fun c7 => ?_)
  · exact j26 _
  · refine r_iload_n C dX1_withNumbersChanged_10 rfl rfl ?_
    refine r_aload_n C dX1_withNumbersChanged_11 rfl rfl ?_
    refine fg_X1_21 C dX1_withNumbersChanged_12 ?_
    rw [hs]
    refine r_icmp_ge (tgt := 26) C dX1_withNumbersChanged_15 (by decide) (fun c15 => ?_) (fun c15 => ?_)
    · exact j26 _
    · obtain ⟨ii, hii, hi⟩ := nI_of (x := i) (fun q => c7 (Int32.lt_trans q (by decide)))
      subst hi
      rw [nI_leI (by omega) (by omega)] at c15
      refine r_aload_n C dX1_withNumbersChanged_18 rfl rfl ?_
      refine fg_X1_30 C dX1_withNumbersChanged_19 ?_
      refine r_iload_n C dX1_withNumbersChanged_22 rfl rfl ?_
      refine r_callSv C (c_changeNeighbours G (A 2) (R1 2) (i := ii) (by omega)) kcX1_X1_changeNeighbours dX1_withNumbersChanged_23 rfl (by decide) (by decide) (by decide) (Nat.le_of_ble_eq_true rfl) [2] ([0, 1, 3] ++ tlx 4 P) (by decide) (tl_C rfl) (tl_R (wr := (fW G Z A N R1 Q).take 2 ++ (fW G Z A N R1 Q).drop 3) rfl rfl) (tl_nd (by decide) (by decide)) (tl_dis (by decide) (by decide)) rfl (fun u hu => ?_)
      refine V.back (m := 4) rfl [0, 1, 3, 2] (by decide) (ws' := fW G Z A N (va_up R1 2 (swR (R1 2) ii)) Q) rfl (by decide) ?_
      exact j26 _
theorem w_slideToFront {s j : Nat} (hs : N 0 4 = nI s) (hs2 : 2 ≤ s) (hs7 : s ≤ 7) (hj : j + 1 < Z) (hZ : Z ≤ 1000) : CI G yX1_slideToFront cX1_slideToFront 5 .boolean 2 0 0 [.ref (A 0), .int (nI j)] (fW G Z A N R Q ++ P) (S := Rt) (fun r _ => r = 0 ∨ r = 1) (fun R' => fW G Z A N R' Q ++ P) := by
  refine CI.intro (by decide) (Nat.le_of_ble_eq_true rfl) (cat1 (xs := [nI j])) fun X C hR => ?_
  have bj : vp_in (nI j) Z := vp_in_nI (by omega) (by omega)
  have bj1 : vp_in (nI j + 1) Z := by rw [nI_1]; exact vp_in_nI hj (by omega)
  have nb : ∀ v : Int32, (v = 0 ∨ v = 1) → narrow .boolean (.int v) = .int v := by
    intro v hv; rcases hv with q | q <;> rw [q] <;> rfl
  have j116 : ∀ (R' : Rt) (mv num t : Int32), (mv = 0 ∨ mv = 1) → V X 0 0 116 [some (.ref (A 0)), some (.int (nI j)), some (.int mv), some (.int num), some (.int t)] [] (fW G Z A N R' Q ++ P) := by
    intro R' mv num t hmv
    have j142 : ∀ R2 : Rt, V X 0 0 142 [some (.ref (A 0)), some (.int (nI j)), some (.int mv), some (.int num), some (.int t)] [] (fW G Z A N R2 Q ++ P) := by
      intro R2
      refine r_iload_n C dX1_slideToFront_142 rfl rfl ?_
      exact hR _ _ _ _ _ R2 (by decide) (by decide) (nb _ hmv) hmv dX1_slideToFront_143
    refine r_iload_n C dX1_slideToFront_116 rfl rfl ?_
    refine r_if_eq (tgt := 142) C dX1_slideToFront_117 (by decide) (fun c117 => ?_) (fun c117 => ?_)
    · exact j142 _
    · refine r_aload_n C dX1_slideToFront_120 rfl rfl ?_
      refine fg_X1_43 C dX1_slideToFront_121 ?_
      refine r_iload_n C dX1_slideToFront_124 rfl rfl ?_
      refine r_aload_n C dX1_slideToFront_125 rfl rfl ?_
      refine a_callVi C (w_packInverse G Z A P N R' Q hs hs7) kcX1_X1_packInverse dX1_slideToFront_126 rfl (by decide) (by decide) (by decide) (Nat.le_of_ble_eq_true rfl) 0 rfl (ci := 1) rfl rfl rfl (fun r u hu => ?_)
      refine fs_1 C dX1_slideToFront_129 (bj) ?_
      refine r_aload_n C dX1_slideToFront_130 rfl rfl ?_
      refine fg_X1_43 C dX1_slideToFront_131 ?_
      refine r_iload_n C dX1_slideToFront_134 rfl rfl ?_
      refine r_iconst (v := 1) C dX1_slideToFront_135 (by decide) ?_
      refine r_iadd C dX1_slideToFront_136 ?_
      refine r_aload_n C dX1_slideToFront_137 rfl rfl ?_
      refine a_callVi C (w_pack G Z A P N _ Q hs hs7) kcX1_X1_pack dX1_slideToFront_138 rfl (by decide) (by decide) (by decide) (Nat.le_of_ble_eq_true rfl) 0 rfl (ci := 1) rfl rfl rfl (fun r u hu => ?_)
      refine fs_1 C dX1_slideToFront_141 (bj1) ?_
      exact j142 _
  have key : ∀ (f t num : Nat) (R' : Rt) (mv : Int32), t + f = 64 → 1 ≤ num → num ≤ s → (mv = 0 ∨ mv = 1) → V X 0 0 29 [some (.ref (A 0)), some (.int (nI j)), some (.int mv), some (.int (nI num)), some (.int (nI t))] [] (fW G Z A N R' Q ++ P) := by
    intro f
    induction f with
    | zero =>
      intro t num R' mv ht h1 h2 hmv
      have ht6 : t = 64 := by omega
      subst ht6
      refine r_iload C dX1_slideToFront_29 rfl ?_
      refine r_bipush (v := 64) C dX1_slideToFront_31 (by decide) ?_
      refine r_icmp_ge (tgt := 116) C dX1_slideToFront_33 (by decide) (fun c33 => ?_) (fun c33 => absurd c33 ((fun q => absurd (show (64 : Int32) ≤ nI 64 by decide) q)))
      exact j116 _ _ _ _ hmv
    | succ f ih =>
      intro t num R' mv ht h1 h2 hmv
      have c64 : (64 : Int32) = nI 64 := rfl
      have go : ∀ (R2 : Rt) (mv2 : Int32) (num2 : Nat), 1 ≤ num2 → num2 ≤ s → (mv2 = 0 ∨ mv2 = 1) → V X 0 0 110 [some (.ref (A 0)), some (.int (nI j)), some (.int mv2), some (.int (nI num2)), some (.int (nI t))] [] (fW G Z A N R2 Q ++ P) := by
        intro R2 mv2 num2 q1 q2 q3
        refine r_iinc (v := _ + 1) C dX1_slideToFront_110 rfl (by rfl) (by decide) ?_
        refine r_goto (tgt := 29) C dX1_slideToFront_113 (by decide) ?_
        show V X 0 0 29 [_, _, _, _, some (.int (nI t + 1))] _ _
        rw [nI_1]
        exact ih (t + 1) num2 R2 mv2 (by omega) q1 q2 q3
      have j107 : num < s → V X 0 0 107 [some (.ref (A 0)), some (.int (nI j)), some (.int mv), some (.int (nI num)), some (.int (nI t))] [] (fW G Z A N R' Q ++ P) := by
        intro hlt
        refine r_iinc (v := _ + 1) C dX1_slideToFront_107 rfl (by rfl) (by decide) ?_
        show V X 0 0 110 [_, _, _, some (.int (nI num + 1)), _] _ _
        rw [nI_1]
        exact go R' mv (num + 1) (by omega) (by omega) hmv
      refine r_iload C dX1_slideToFront_29 rfl ?_
      refine r_bipush (v := 64) C dX1_slideToFront_31 (by decide) ?_
      rw [c64]
      refine r_icmp_ge (tgt := 116) C dX1_slideToFront_33 (by decide) (fun c33 => absurd c33 ((by rw [nI_leI (by decide) (by omega)]; omega))) (fun c33 => ?_)
      refine r_iload_n C dX1_slideToFront_36 rfl rfl ?_
      refine r_aload_n C dX1_slideToFront_37 rfl rfl ?_
      refine fg_X1_21 C dX1_slideToFront_38 ?_
      rw [hs]
      refine r_icmp_ge (tgt := 116) C dX1_slideToFront_41 (by decide) (fun c41 => ?_) (fun c41 => ?_)
      · exact j116 _ _ _ _ hmv
      · rw [nI_leI (by omega) (by omega)] at c41
        have b0 : vp_in (nI num) 8 := vp_in_nI (by omega) (by decide)
        have b1 : vp_in (nI num + 1) 8 := by rw [nI_1]; exact vp_in_nI (by omega) (by decide)
        refine r_aload_n C dX1_slideToFront_44 rfl rfl ?_
        refine fg_X1_30 C dX1_slideToFront_45 ?_
        refine r_iload_n C dX1_slideToFront_48 rfl rfl ?_
        refine fl_2 C dX1_slideToFront_49 (b0) ?_
        refine r_aload_n C dX1_slideToFront_50 rfl rfl ?_
        refine fg_X1_30 C dX1_slideToFront_51 ?_
        refine r_iload_n C dX1_slideToFront_54 rfl rfl ?_
        refine r_iconst (v := 1) C dX1_slideToFront_55 (by decide) ?_
        refine r_iadd C dX1_slideToFront_56 ?_
        refine fl_2 C dX1_slideToFront_57 (b1) ?_
        refine r_icmp_ge (tgt := 107) C dX1_slideToFront_58 (by decide) (fun c58 => ?_) (fun c58 => ?_)
        · exact j107 (by omega)
        · refine r_aload_n C dX1_slideToFront_61 rfl rfl ?_
          refine fg_X1_34 C dX1_slideToFront_62 ?_
          refine r_iload_n C dX1_slideToFront_65 rfl rfl ?_
          refine fl_3 C dX1_slideToFront_66 (b0) ?_
          refine r_aload_n C dX1_slideToFront_67 rfl rfl ?_
          refine fg_X1_34 C dX1_slideToFront_68 ?_
          refine r_iload_n C dX1_slideToFront_71 rfl rfl ?_
          refine r_iconst (v := 1) C dX1_slideToFront_72 (by decide) ?_
          refine r_iadd C dX1_slideToFront_73 ?_
          refine fl_3 C dX1_slideToFront_74 (b1) ?_
          refine r_icmp_le (tgt := 107) C dX1_slideToFront_75 (by decide) (fun c75 => ?_) (fun c75 => ?_)
          · exact j107 (by omega)
          · refine r_aload_n C dX1_slideToFront_78 rfl rfl ?_
            refine fg_X1_30 C dX1_slideToFront_79 ?_
            refine r_iload_n C dX1_slideToFront_82 rfl rfl ?_
            refine r_callSv C (c_changeNeighbours G (A 2) (R' 2) (i := num) (by omega)) kcX1_X1_changeNeighbours dX1_slideToFront_83 rfl (by decide) (by decide) (by decide) (Nat.le_of_ble_eq_true rfl) [2] ([0, 1, 3] ++ tlx 4 P) (by decide) (tl_C rfl) (tl_R (wr := (fW G Z A N R' Q).take 2 ++ (fW G Z A N R' Q).drop 3) rfl rfl) (tl_nd (by decide) (by decide)) (tl_dis (by decide) (by decide)) rfl (fun u hu => ?_)
            refine V.back (m := 4) rfl [0, 1, 3, 2] (by decide) (ws' := fW G Z A N (va_up R' 2 (swR (R' 2) num)) Q) rfl (by decide) ?_
            refine r_aload_n C dX1_slideToFront_86 rfl rfl ?_
            refine fg_X1_34 C dX1_slideToFront_87 ?_
            refine r_iload_n C dX1_slideToFront_90 rfl rfl ?_
            refine r_callSv C (c_changeNeighbours G (A 3) (R' 3) (i := num) (by omega)) kcX1_X1_changeNeighbours dX1_slideToFront_91 rfl (by decide) (by decide) (by decide) (Nat.le_of_ble_eq_true rfl) [3] ([0, 1, 2] ++ tlx 4 P) (by decide) (tl_C rfl) (tl_R (wr := (fW G Z A N (va_up R' 2 (swR (R' 2) num)) Q).take 3) rfl rfl) (tl_nd (by decide) (by decide)) (tl_dis (by decide) (by decide)) rfl (fun u hu => ?_)
            refine V.back (m := 4) rfl [0, 1, 2, 3] (by decide) (ws' := fW G Z A N (va_up (va_up R' 2 (swR (R' 2) num)) 3 (swR (R' 3) num)) Q) rfl (by decide) ?_
            refine r_iconst (v := 1) C dX1_slideToFront_94 (by decide) ?_
            refine r_istore_n C dX1_slideToFront_95 rfl (by decide) ?_
            refine r_iconst (v := 1) C dX1_slideToFront_96 (by decide) ?_
            refine r_iload_n C dX1_slideToFront_97 rfl rfl ?_
            refine r_iconst (v := 1) C dX1_slideToFront_98 (by decide) ?_
            refine r_isub C dX1_slideToFront_99 ?_
            refine r_mmax C km_X1_37 (by decide) (by decide) (by decide) (Nat.le_of_ble_eq_true rfl) dX1_slideToFront_100 ?_
            obtain ⟨m2, m1, m3, em⟩ : ∃ m2 : Nat, 1 ≤ m2 ∧ m2 ≤ s ∧ (if (1 : Int32) < nI num - 1 then nI num - 1 else 1) = nI m2 := by
              obtain ⟨w, rfl⟩ : ∃ w, num = w + 1 := ⟨num - 1, by omega⟩
              rw [nI_pred]
              split
              · next q => exact ⟨w, by rw [show (1 : Int32) = nI 1 from rfl, nI_ltI (by decide) (by omega)] at q; omega, by omega, rfl⟩
              · exact ⟨1, Nat.le_refl _, by omega, rfl⟩
            rw [em]
            refine r_istore_n C dX1_slideToFront_103 rfl (by decide) ?_
            refine r_goto (tgt := 110) C dX1_slideToFront_104 (by decide) ?_
            exact go _ 1 m2 m1 m3 (Or.inr rfl)
  refine r_aload_n C dX1_slideToFront_0 rfl rfl ?_
  refine r_aload_n C dX1_slideToFront_1 rfl rfl ?_
  refine fg_X1_43 C dX1_slideToFront_2 ?_
  refine r_iload_n C dX1_slideToFront_5 rfl rfl ?_
  refine fl_1 C dX1_slideToFront_6 (bj) ?_
  refine a_callVv C (w_unpackInverse G Z A P N R Q _ hs hs7) kcX1_X1_unpackInverse dX1_slideToFront_7 rfl (by decide) (by decide) (by decide) (Nat.le_of_ble_eq_true rfl) 0 rfl (ci := 1) rfl rfl rfl (fun R1 _ => ?_)
  refine r_aload_n C dX1_slideToFront_10 rfl rfl ?_
  refine r_aload_n C dX1_slideToFront_11 rfl rfl ?_
  refine fg_X1_43 C dX1_slideToFront_12 ?_
  refine r_iload_n C dX1_slideToFront_15 rfl rfl ?_
  refine r_iconst (v := 1) C dX1_slideToFront_16 (by decide) ?_
  refine r_iadd C dX1_slideToFront_17 ?_
  refine fl_1 C dX1_slideToFront_18 (bj1) ?_
  refine a_callVv C (w_unpack G Z A P N R1 Q _ hs hs7) kcX1_X1_unpack dX1_slideToFront_19 rfl (by decide) (by decide) (by decide) (Nat.le_of_ble_eq_true rfl) 0 rfl (ci := 1) rfl rfl rfl (fun R2 _ => ?_)
  refine r_iconst (v := 0) C dX1_slideToFront_22 (by decide) ?_
  refine r_istore_n C dX1_slideToFront_23 rfl (by decide) ?_
  refine r_iconst (v := 1) C dX1_slideToFront_24 (by decide) ?_
  refine r_istore_n C dX1_slideToFront_25 rfl (by decide) ?_
  refine r_iconst (v := 0) C dX1_slideToFront_26 (by decide) ?_
  refine r_istore C dX1_slideToFront_27 (by decide) ?_
  exact key 64 0 1 R2 0 rfl (Nat.le_refl _) (by omega) (Or.inl rfl)
end FW
