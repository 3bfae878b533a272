/-! the class: Form, packing -/
section F1
variable (G : Gx) (Z : Nat) (A : Nat → Nat) (P : va_W) (N : Nt) (R : Rt) (Q : Qt)
theorem c_packed {x : Nat} (v : Int32) (hx : 1 ≤ x) : CI G yX1_packed cX1_packed 2 .int 0 0 0 [.int (nI x), .int v] [] (S := Unit) (fun r _ => r = v <<< (nI (3 * x - 3) &&& 31)) (fun _ => []) := by
  refine CI.intro (by decide) (Nat.le_of_ble_eq_true rfl) (cat0 (xs := [nI x, v])) fun X C hR => ?_
  have e : (3 : Int32) * (nI x - 1) = nI (3 * x - 3) := by
    rw [show (3 : Int32) = nI 3 from rfl, show (1 : Int32) = nI 1 from rfl, pk_sub hx, pk_mul]
    congr 1
    omega
  refine r_iload_n C dX1_packed_0 rfl rfl ?_
  refine r_iconst (v := 3) C dX1_packed_1 (by decide) ?_
  refine r_iload_n C dX1_packed_2 rfl rfl ?_
  refine r_iconst (v := 1) C dX1_packed_3 (by decide) ?_
  refine r_isub C dX1_packed_4 ?_
  refine r_imul C dX1_packed_5 ?_
  rw [e]
  refine r_ishl C dX1_packed_6 ?_
  exact hR _ _ _ _ _ () (by decide) (by decide) rfl rfl dX1_packed_7
theorem c_unpack {s : Nat} {F : Nat → Nat} (hs : N 0 4 = nI s) (hs7 : s ≤ 7) (hF : ∀ x, 1 ≤ x → x ≤ s → F x ≤ 7) : CV G yX1_unpack cX1_unpack 3 0 0 0 [.ref (A 0), .int (codeF F s)] (fW G Z A N R Q ++ P) (S := Nat → Int32) (fun g => ∀ x, 1 ≤ x → x ≤ s → g x = nI (F x)) (fun g => fW G Z A N (va_up R 3 g) Q ++ P) := by
  refine CV.intro (by decide) (Nat.le_of_ble_eq_true rfl) (cat1 (xs := [codeF F s])) fun X C hR => ?_
  have key : ∀ (f p : Nat) (g : Nat → Int32), p + f = s + 1 → 1 ≤ p → (∀ x, 1 ≤ x → x < p → g x = nI (F x)) → V X 0 0 2 [some (.ref (A 0)), some (.int (codeF F s)), some (.int (nI p))] [] (fW G Z A N (va_up R 3 g) Q ++ P) := by
    intro f
    induction f with
    | zero =>
      intro p g hp h1 hg
      refine r_iload_n C dX1_unpack_2 rfl rfl ?_
      refine r_aload_n C dX1_unpack_3 rfl rfl ?_
      refine fg_X1_21 C dX1_unpack_4 ?_
      rw [hs]
      refine r_icmp_gt (tgt := 32) C dX1_unpack_7 (by decide) (fun c7 => ?_) (fun c7 => absurd c7 ((fun q => q (nI_lt (by omega) (by omega)))))
      exact hR _ _ _ _ g (by decide) (by decide) (fun x a b => hg x a (by omega)) dX1_unpack_32
    | succ f ih =>
      intro p g hp h1 hg
      have e : (codeF F s >>> ((3 : Int32) * (nI p - 1) &&& 31)) &&& 7 = nI (F p) := by
        have e3 : (3 : Int32) * (nI p - 1) = nI (3 * p - 3) := by
          rw [show (3 : Int32) = nI 3 from rfl, show (1 : Int32) = nI 1 from rfl, pk_sub h1, pk_mul]
          congr 1
          omega
        rw [e3]
        have := codeF_ext s hs7 hF p h1 (by omega)
        rw [if_pos (by omega)] at this
        exact this
      refine r_iload_n C dX1_unpack_2 rfl rfl ?_
      refine r_aload_n C dX1_unpack_3 rfl rfl ?_
      refine fg_X1_21 C dX1_unpack_4 ?_
      rw [hs]
      refine r_icmp_gt (tgt := 32) C dX1_unpack_7 (by decide) (fun c7 => absurd c7 ((by rw [nI_ltI (by omega) (by omega)]; omega))) (fun c7 => ?_)
      refine r_aload_n C dX1_unpack_10 rfl rfl ?_
      refine fg_X1_34 C dX1_unpack_11 ?_
      refine r_iload_n C dX1_unpack_14 rfl rfl ?_
      refine r_iload_n C dX1_unpack_15 rfl rfl ?_
      refine r_iconst (v := 3) C dX1_unpack_16 (by decide) ?_
      refine r_iload_n C dX1_unpack_17 rfl rfl ?_
      refine r_iconst (v := 1) C dX1_unpack_18 (by decide) ?_
      refine r_isub C dX1_unpack_19 ?_
      refine r_imul C dX1_unpack_20 ?_
      refine r_ishr C dX1_unpack_21 ?_
      refine r_bipush (v := 7) C dX1_unpack_22 (by decide) ?_
      refine r_iand C dX1_unpack_24 ?_
      show V X 0 0 25 _ [.int ((codeF F s >>> ((3 : Int32) * (nI p - 1) &&& 31)) &&& 7), .int (nI p), .ref (A 3)] _
      rw [e]
      refine fs_3 C dX1_unpack_25 (vp_in_nI (show p < 8 by omega) (by decide)) ?_
      rw [nI_clamp (by omega), up_up, va_up_at]
      refine r_iinc (v := _ + 1) C dX1_unpack_26 rfl (by rfl) (by decide) ?_
      refine r_goto (tgt := 2) C dX1_unpack_29 (by decide) ?_
      show V X 0 0 2 [_, _, some (.int (nI p + 1))] _ _
      rw [nI_1]
      refine ih (p + 1) _ (by omega) (by omega) (fun x a b => ?_)
      by_cases q : x = p
      · subst q; exact pk_us
      · rw [pk_un q]; exact hg x a (by omega)
  have k0 := key s 1 (R 3) (by omega) (Nat.le_refl _) (fun x a b => absurd a (by omega))
  rw [up_same rfl] at k0
  refine r_iconst (v := 1) C dX1_unpack_0 (by decide) ?_
  refine r_istore_n C dX1_unpack_1 rfl (by decide) ?_
  exact k0
theorem c_unpackInverse {s : Nat} {F : Nat → Nat} (hs : N 0 4 = nI s) (hs7 : s ≤ 7) (hF : PermOn F s) : CV G yX1_unpackInverse cX1_unpackInverse 3 0 0 0 [.ref (A 0), .int (codeF F s)] (fW G Z A N R Q ++ P) (S := Nat → Int32) (fun g => ∀ x, 1 ≤ x → x ≤ s → g (F x) = nI x) (fun g => fW G Z A N (va_up R 2 g) Q ++ P) := by
  have hFb : ∀ x, 1 ≤ x → x ≤ s → F x ≤ 7 := fun x a b => by have := hF.1 x a b; omega
  refine CV.intro (by decide) (Nat.le_of_ble_eq_true rfl) (cat1 (xs := [codeF F s])) fun X C hR => ?_
  have key : ∀ (f p : Nat) (g : Nat → Int32), p + f = s + 1 → 1 ≤ p → (∀ x, 1 ≤ x → x < p → g (F x) = nI x) → V X 0 0 2 [some (.ref (A 0)), some (.int (codeF F s)), some (.int (nI p))] [] (fW G Z A N (va_up R 2 g) Q ++ P) := by
    intro f
    induction f with
    | zero =>
      intro p g hp h1 hg
      refine r_iload_n C dX1_unpackInverse_2 rfl rfl ?_
      refine r_aload_n C dX1_unpackInverse_3 rfl rfl ?_
      refine fg_X1_21 C dX1_unpackInverse_4 ?_
      rw [hs]
      refine r_icmp_gt (tgt := 32) C dX1_unpackInverse_7 (by decide) (fun c7 => ?_) (fun c7 => absurd c7 ((fun q => q (nI_lt (by omega) (by omega)))))
      exact hR _ _ _ _ g (by decide) (by decide) (fun x a b => hg x a (by omega)) dX1_unpackInverse_32
    | succ f ih =>
      intro p g hp h1 hg
      have hFp := hFb p h1 (by omega)
      have e : (codeF F s >>> ((3 : Int32) * (nI p - 1) &&& 31)) &&& 7 = nI (F p) := by
        have e3 : (3 : Int32) * (nI p - 1) = nI (3 * p - 3) := by
          rw [show (3 : Int32) = nI 3 from rfl, show (1 : Int32) = nI 1 from rfl, pk_sub h1, pk_mul]
          congr 1
          omega
        rw [e3]
        have := codeF_ext s hs7 hFb p h1 (by omega)
        rw [if_pos (by omega)] at this
        exact this
      refine r_iload_n C dX1_unpackInverse_2 rfl rfl ?_
      refine r_aload_n C dX1_unpackInverse_3 rfl rfl ?_
      refine fg_X1_21 C dX1_unpackInverse_4 ?_
      rw [hs]
      refine r_icmp_gt (tgt := 32) C dX1_unpackInverse_7 (by decide) (fun c7 => absurd c7 ((by rw [nI_ltI (by omega) (by omega)]; omega))) (fun c7 => ?_)
      refine r_aload_n C dX1_unpackInverse_10 rfl rfl ?_
      refine fg_X1_30 C dX1_unpackInverse_11 ?_
      refine r_iload_n C dX1_unpackInverse_14 rfl rfl ?_
      refine r_iconst (v := 3) C dX1_unpackInverse_15 (by decide) ?_
      refine r_iload_n C dX1_unpackInverse_16 rfl rfl ?_
      refine r_iconst (v := 1) C dX1_unpackInverse_17 (by decide) ?_
      refine r_isub C dX1_unpackInverse_18 ?_
      refine r_imul C dX1_unpackInverse_19 ?_
      refine r_ishr C dX1_unpackInverse_20 ?_
      refine r_bipush (v := 7) C dX1_unpackInverse_21 (by decide) ?_
      refine r_iand C dX1_unpackInverse_23 ?_
      show V X 0 0 24 _ [.int ((codeF F s >>> ((3 : Int32) * (nI p - 1) &&& 31)) &&& 7), .ref (A 2)] _
      rw [e]
      refine r_iload_n C dX1_unpackInverse_24 rfl rfl ?_
      refine fs_2 C dX1_unpackInverse_25 (vp_in_nI (show F p < 8 by omega) (by decide)) ?_
      rw [nI_clamp (by omega), up_up, va_up_at]
      refine r_iinc (v := _ + 1) C dX1_unpackInverse_26 rfl (by rfl) (by decide) ?_
      refine r_goto (tgt := 2) C dX1_unpackInverse_29 (by decide) ?_
      show V X 0 0 2 [_, _, some (.int (nI p + 1))] _ _
      rw [nI_1]
      refine ih (p + 1) _ (by omega) (by omega) (fun x a b => ?_)
      by_cases q : x = p
      · subst q; exact pk_us
      · rw [pk_un (fun w => q (hF.2 x p a (by omega) h1 (by omega) w))]; exact hg x a (by omega)
  have k0 := key s 1 (R 2) (by omega) (Nat.le_refl _) (fun x a b => absurd a (by omega))
  rw [up_same rfl] at k0
  refine r_iconst (v := 1) C dX1_unpackInverse_0 (by decide) ?_
  refine r_istore_n C dX1_unpackInverse_1 rfl (by decide) ?_
  exact k0
theorem c_pack {s : Nat} {F : Nat → Nat} (hs : N 0 4 = nI s) (hs7 : s ≤ 7) (hg : ∀ x, 1 ≤ x → x ≤ s → R 3 x = nI (F x)) : CI G yX1_pack cX1_pack 3 .int 1 0 0 [.ref (A 0)] (fW G Z A N R Q ++ P) (S := Unit) (fun r _ => r = codeF F s) (fun _ => fW G Z A N R Q ++ P) := by
  refine CI.intro (by decide) (Nat.le_of_ble_eq_true rfl) (cat1 (xs := [])) fun X C hR => ?_
  have key : ∀ (f p : Nat), p + f = s → V X 0 0 4 [some (.ref (A 0)), some (.int (codeF F p)), some (.int (nI (p + 1)))] [] (fW G Z A N R Q ++ P) := by
    intro f
    induction f with
    | zero =>
      intro p hp
      have hps : p = s := by omega
      subst hps
      refine r_iload_n C dX1_pack_4 rfl rfl ?_
      refine r_aload_n C dX1_pack_5 rfl rfl ?_
      refine fg_X1_21 C dX1_pack_6 ?_
      rw [hs]
      refine r_icmp_gt (tgt := 31) C dX1_pack_9 (by decide) (fun c9 => ?_) (fun c9 => absurd c9 ((fun q => q (nI_lt (by omega) (by omega)))))
      refine r_iload_n C dX1_pack_31 rfl rfl ?_
      exact hR _ _ _ _ _ () (by decide) (by decide) rfl rfl dX1_pack_32
    | succ f ih =>
      intro p hp
      refine r_iload_n C dX1_pack_4 rfl rfl ?_
      refine r_aload_n C dX1_pack_5 rfl rfl ?_
      refine fg_X1_21 C dX1_pack_6 ?_
      rw [hs]
      refine r_icmp_gt (tgt := 31) C dX1_pack_9 (by decide) (fun c9 => absurd c9 ((by rw [nI_ltI (by omega) (by omega)]; omega))) (fun c9 => ?_)
      refine r_iload_n C dX1_pack_12 rfl rfl ?_
      refine r_iload_n C dX1_pack_13 rfl rfl ?_
      refine r_aload_n C dX1_pack_14 rfl rfl ?_
      refine fg_X1_34 C dX1_pack_15 ?_
      refine r_iload_n C dX1_pack_18 rfl rfl ?_
      refine fl_3 C dX1_pack_19 (vp_in_nI (show p + 1 < 8 by omega) (by decide)) ?_
      rw [nI_clamp (by omega), hg (p + 1) (by omega) (by omega)]
      refine a_callS0 C (c_packed G (x := p + 1) (nI (F (p + 1))) (by omega)) kcX1_X1_packed dX1_pack_20 rfl (by decide) (by decide) (by decide) (Nat.le_of_ble_eq_true rfl) rfl (fun a u hu => ?_)
      subst hu
      refine r_ior C dX1_pack_23 ?_
      refine r_istore_n C dX1_pack_24 rfl (by decide) ?_
      refine r_iinc (v := _ + 1) C dX1_pack_25 rfl (by rfl) (by decide) ?_
      refine r_goto (tgt := 4) C dX1_pack_28 (by decide) ?_
      show V X 0 0 4 [_, some (.int (codeF F (p + 1))), some (.int (nI (p + 1) + 1))] _ _
      rw [nI_1]
      exact ih (p + 1) (by omega)
  refine r_iconst (v := 0) C dX1_pack_0 (by decide) ?_
  refine r_istore_n C dX1_pack_1 rfl (by decide) ?_
  refine r_iconst (v := 1) C dX1_pack_2 (by decide) ?_
  refine r_istore_n C dX1_pack_3 rfl (by decide) ?_
  exact key s 0 (by omega)
theorem c_packInverse {s : Nat} {F cf : Nat → Nat} (hs : N 0 4 = nI s) (hs7 : s ≤ 7) (hF : PermOn F s) (hc : ∀ x, 1 ≤ x → x ≤ s → cf (F x) = x) (hg : ∀ x, 1 ≤ x → x ≤ s → R 2 x = nI (cf x)) : CI G yX1_packInverse cX1_packInverse 3 .int 1 0 0 [.ref (A 0)] (fW G Z A N R Q ++ P) (S := Unit) (fun r _ => r = codeF F s) (fun _ => fW G Z A N R Q ++ P) := by
  refine CI.intro (by decide) (Nat.le_of_ble_eq_true rfl) (cat1 (xs := [])) fun X C hR => ?_
  have hcb : ∀ p, 1 ≤ p → p ≤ s → 1 ≤ cf p ∧ cf p ≤ s := fun p a b => by
    obtain ⟨x, x1, x2, e⟩ := perm_surj hF a b
    rw [← e, hc x x1 x2]
    exact ⟨x1, x2⟩
  have key : ∀ (f p : Nat), p + f = s → V X 0 0 4 [some (.ref (A 0)), some (.int (codeI cf p)), some (.int (nI (p + 1)))] [] (fW G Z A N R Q ++ P) := by
    intro f
    induction f with
    | zero =>
      intro p hp
      have hps : p = s := by omega
      subst hps
      refine r_iload_n C dX1_packInverse_4 rfl rfl ?_
      refine r_aload_n C dX1_packInverse_5 rfl rfl ?_
      refine fg_X1_21 C dX1_packInverse_6 ?_
      rw [hs]
      refine r_icmp_gt (tgt := 31) C dX1_packInverse_9 (by decide) (fun c9 => ?_) (fun c9 => absurd c9 ((fun q => q (nI_lt (by omega) (by omega)))))
      refine r_iload_n C dX1_packInverse_31 rfl rfl ?_
      exact hR _ _ _ _ _ () (by decide) (by decide) rfl (codeI_eq hs7 hF hc) dX1_packInverse_32
    | succ f ih =>
      intro p hp
      refine r_iload_n C dX1_packInverse_4 rfl rfl ?_
      refine r_aload_n C dX1_packInverse_5 rfl rfl ?_
      refine fg_X1_21 C dX1_packInverse_6 ?_
      rw [hs]
      refine r_icmp_gt (tgt := 31) C dX1_packInverse_9 (by decide) (fun c9 => absurd c9 ((by rw [nI_ltI (by omega) (by omega)]; omega))) (fun c9 => ?_)
      refine r_iload_n C dX1_packInverse_12 rfl rfl ?_
      refine r_aload_n C dX1_packInverse_13 rfl rfl ?_
      refine fg_X1_30 C dX1_packInverse_14 ?_
      refine r_iload_n C dX1_packInverse_17 rfl rfl ?_
      refine fl_2 C dX1_packInverse_18 (vp_in_nI (show p + 1 < 8 by omega) (by decide)) ?_
      rw [nI_clamp (by omega), hg (p + 1) (by omega) (by omega)]
      refine r_iload_n C dX1_packInverse_19 rfl rfl ?_
      refine a_callS0 C (c_packed G (x := cf (p + 1)) (nI (p + 1)) (hcb (p + 1) (by omega) (by omega)).1) kcX1_X1_packed dX1_packInverse_20 rfl (by decide) (by decide) (by decide) (Nat.le_of_ble_eq_true rfl) rfl (fun a u hu => ?_)
      subst hu
      refine r_ior C dX1_packInverse_23 ?_
      refine r_istore_n C dX1_packInverse_24 rfl (by decide) ?_
      refine r_iinc (v := _ + 1) C dX1_packInverse_25 rfl (by rfl) (by decide) ?_
      refine r_goto (tgt := 4) C dX1_packInverse_28 (by decide) ?_
      show V X 0 0 4 [_, some (.int (codeI cf (p + 1))), some (.int (nI (p + 1) + 1))] _ _
      rw [nI_1]
      exact ih (p + 1) (by omega)
  refine r_iconst (v := 0) C dX1_packInverse_0 (by decide) ?_
  refine r_istore_n C dX1_packInverse_1 rfl (by decide) ?_
  refine r_iconst (v := 1) C dX1_packInverse_2 (by decide) ?_
  refine r_istore_n C dX1_packInverse_3 rfl (by decide) ?_
  exact key s 0 (by omega)
end F1
