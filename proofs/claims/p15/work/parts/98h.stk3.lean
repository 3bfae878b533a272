/-! hats and scores made -/
theorem perm_new {w S T : va_W} {c : Nat × va_E} : ((w ++ (S ++ T)) ++ [c]).Perm (w ++ (S ++ (c :: T))) := by
  rw [List.append_assoc, List.append_assoc]
  exact List.Perm.append_left _ (List.Perm.append_left _ (List.perm_append_singleton _ _))
theorem perm_in {w S H P : va_W} {c : Nat × va_E} : (w ++ (S ++ (c :: (H ++ P)))).Perm (w ++ (S ++ ((H ++ [c]) ++ P))) := by
  refine List.Perm.append_left _ (List.Perm.append_left _ ?_)
  rw [List.append_assoc]
  exact List.perm_middle.symm
theorem perm_last {w S H P : va_W} {c : Nat × va_E} : ((w ++ (S ++ (H ++ P))) ++ [c]).Perm (w ++ (S ++ ((H ++ [c]) ++ P))) := perm_new.trans perm_in
theorem perm_p3 {w a b P p P' : va_W} (h : P.Perm (p ++ P')) : (w ++ (a ++ (b ++ P))).Perm (p ++ (w ++ (a ++ (b ++ P')))) := by
  refine (((h.append_left b).append_left a).append_left w).trans ?_
  refine (((List.perm_append_comm_assoc b p P').append_left a).append_left w).trans ?_
  refine ((List.perm_append_comm_assoc a p _).append_left w).trans ?_
  exact List.perm_append_comm_assoc w p _
theorem nw_C {W0 : va_W} {c : Nat × va_E} : [W0.length].map (fun i => (W0 ++ [c])[i]?) = [c].map some := by
  rw [List.map_cons, List.map_nil, List.getElem?_append_right (Nat.le_refl _), Nat.sub_self]
  rfl
theorem nw_R {W0 : va_W} {c : Nat × va_E} : (List.range W0.length).map (fun i => (W0 ++ [c])[i]?) = W0.map some := by
  rw [← all_is (ws := W0)]
  refine List.map_congr_left (fun i hi => ?_)
  rw [List.getElem?_append_left (List.mem_range.mp hi)]
theorem nw_d {n : Nat} : ∀ i ∈ List.range n, i ∉ [n] := fun i hi q => by
  have h1 := List.mem_range.mp hi
  have h2 : i = n := List.mem_singleton.mp q
  omega
theorem nd_1 {n : Nat} : va_nd [n] = true := nd_of_nodup (by simp)
theorem nw_at {W0 : va_W} {c : Nat × va_E} : (W0 ++ [c])[W0.length]? = some c := by
  rw [List.getElem?_append_right (Nat.le_refl _), Nat.sub_self]
  rfl
section ST3
variable (G : Gx) (A : Nat → Nat) (P : va_W) (N : Nt) (R : Rt) (Q : Qt) (T : Rt) (ba sa hA : Nat → Nat)
def hatW (G : Gx) (A : Nat → Nat) (P : va_W) (N : Nt) (R : Rt) (Q : Qt) (T : Rt) (sa hA : Nat → Nat) (ns nh : Nat) (w : Int32) (q wn rn : Nat) : va_W := bW G A (va_up N 0 (va_up (N 0) 10 (nI (nh + 1)))) R (va_up Q 13 (va_up (Q 13) nh (some q))) ++ (rgm ns (scC sa (hatR T w nh ns wn rn)) ++ (rgm (nh + 1) (haC (va_up hA nh q) (hatR T w nh ns wn rn)) ++ P))
theorem hat_cells {ns nh : Nat} {w : Int32} {q wn rn : Nat} : rgm nh (haC hA T) ++ [hwC q (nI (hatNeed wn (rn / wn))) (nI (rn / wn)) (tk (T 36) (T 37) w (T 35) (hatNeed wn (rn / wn)) ns)] = rgm (nh + 1) (haC (va_up hA nh q) (hatR T w nh ns wn rn)) := by
  rw [rgm_s]
  congr 1
  · refine rgm_congr (fun i hi => ?_)
    show haC hA T i = (va_up hA nh q i, (.inr (2, [.int (upd (T 39) nh _ i), .int (upd (T 40) nh _ i), .int (upd (T 41) nh _ i), .int (upd (T 42) nh _ i)]) : va_E))
    rw [va_up_no (by omega), pk_un (by omega), pk_un (by omega), pk_un (by omega), pk_un (by omega)]
    rfl
  · show [_] = [(va_up hA nh q nh, (.inr (2, [.int (upd (T 39) nh _ nh), .int (upd (T 40) nh _ nh), .int (upd (T 41) nh _ nh), .int (upd (T 42) nh _ nh)]) : va_E))]
    rw [va_up_at, pk_us, pk_us, pk_us, pk_us]
    rfl
theorem c_bhat {ns nh : Nat} (w r : Int32) (hh : N 0 10 = nI nh) (hh60 : nh ≤ 60) (hb : N 0 8 = nI ns) (hb60 : ns ≤ 60) (hq : ∀ i, i < ns → Q 12 i = some (sa i)) (hL : NumOK (T 35) ns 120000) : CI G yX6_hat cX6_hat 6 .int 2 1 4 [.ref (A 0), .int w, .int r] (bW G A N R Q ++ (rgm ns (scC sa T) ++ (rgm nh (haC hA T) ++ P))) (S := Option (Nat × Nat × Nat)) (fun a u => (u = none ∧ a = -1 ∧ ((∀ wn rn : Nat, ¬ okH nh w r wn rn) ∨ (∃ wn rn : Nat, okH nh w r wn rn ∧ sumW (T 36) (T 35) w ns < hatNeed wn (rn / wn)))) ∨ (∃ q wn rn : Nat, u = some (q, wn, rn) ∧ okH nh w r wn rn ∧ hatNeed wn (rn / wn) ≤ sumW (T 36) (T 35) w ns ∧ a = nI nh)) (fun u => match u with
    | none => bW G A N R Q ++ (rgm ns (scC sa T) ++ (rgm nh (haC hA T) ++ P))
    | some v => hatW G A P N R Q T sa hA ns nh w v.1 v.2.1 v.2.2) := by
  refine CI.intro (by decide) (Nat.le_of_ble_eq_true rfl) (cat1 (xs := [w, r])) fun X C hR => ?_
  have j34 : (∀ wn rn : Nat, ¬ okH nh w r wn rn) → V X 0 0 34 (ent [.ref (A 0), .int w, .int r] 6) [] (bW G A N R Q ++ (rgm ns (scC sa T) ++ (rgm nh (haC hA T) ++ P))) := by
    intro hno
    refine r_iconst (v := -1) C dX6_hat_34 (by decide) ?_
    exact hR _ _ _ _ _ none (by decide) (by decide) rfl (Or.inl ⟨rfl, rfl, Or.inl hno⟩) dX6_hat_35
  have c60 : (60 : Int32) = nI 60 := rfl
  have hne60 : ¬ nI 60 ≤ nI nh ↔ nh ≠ 60 := by rw [nI_leI (by decide) (by omega)]; omega
  by_cases hok : ∃ wn rn, okH nh w r wn rn
  · obtain ⟨wn, rn, hO⟩ := hok
    obtain ⟨o1, rfl, rfl, w1, w9, r1, r4, hrem⟩ := id hO
    have hne : ¬ nI wn = 0 := nI_ne0 (by omega) (by omega)
    have hq4 : rn / wn ≤ 400 := Nat.le_trans (Nat.div_le_self _ _) (by omega)
    have hle := hatNeed_le (w := wn) w9 (rn / wn) hq4
    have hsl := sumW_le (W := T 36) (w := nI wn) hL ns (Nat.le_refl _)
    have hsl2 : ns * 120000 ≤ 60 * 120000 := Nat.mul_le_mul_right _ hb60
    have hle2 : rn / wn * 22592 ≤ 400 * 22592 := Nat.mul_le_mul_right _ hq4
    refine r_aload_n C dX6_hat_0 rfl rfl ?_
    refine bg_X6_65 C dX6_hat_1 ?_
    refine r_bipush (v := 60) C dX6_hat_4 (by decide) ?_
    rw [hh, c60]
    refine r_icmp_ge (tgt := 34) C dX6_hat_6 (by decide) (fun c6 => absurd c6 ((hne60.mpr o1))) (fun c6 => ?_)
    refine r_iload_n C dX6_hat_9 rfl rfl ?_
    refine a_callS0 C (c_isWidth G (nI wn)) kcX6_X6_isWidth dX6_hat_10 rfl (by decide) (by decide) (by decide) (Nat.le_of_ble_eq_true rfl) rfl (fun a u hu => ?_)
    rw [if_pos ⟨by rw [show (1 : Int32) = nI 1 from rfl, nI_ltI (by omega) (by decide)]; omega, by rw [show (9 : Int32) = nI 9 from rfl, nI_ltI (by decide) (by omega)]; omega⟩] at hu
    subst hu
    refine r_if_eq (tgt := 34) C dX6_hat_13 (by decide) (fun c13 => absurd c13 ((by decide))) (fun c13 => ?_)
    refine r_iload_n C dX6_hat_16 rfl rfl ?_
    refine r_iconst (v := 1) C dX6_hat_17 (by decide) ?_
    refine r_icmp_lt (tgt := 34) C dX6_hat_18 (by decide) (fun c18 => absurd c18 ((by rw [show (1 : Int32) = nI 1 from rfl, nI_ltI (by omega) (by decide)]; omega))) (fun c18 => ?_)
    refine r_iload_n C dX6_hat_21 rfl rfl ?_
    refine r_sipush (v := 400) C dX6_hat_22 (by decide) ?_
    refine r_icmp_gt (tgt := 34) C dX6_hat_25 (by decide) (fun c25 => absurd c25 ((by rw [show (400 : Int32) = nI 400 from rfl, nI_ltI (by decide) (by omega)]; omega))) (fun c25 => ?_)
    refine r_iload_n C dX6_hat_28 rfl rfl ?_
    refine r_iload_n C dX6_hat_29 rfl rfl ?_
    refine r_irem C dX6_hat_30 (hne) ?_
    show V X 0 0 31 _ [.int (nI rn - nI rn / nI wn * nI wn)] _
    rw [pk_rem (by omega) (by omega) (by omega), hrem]
    refine r_if_eq (tgt := 36) C dX6_hat_31 (by decide) (fun c31 => ?_) (fun c31 => absurd c31 ((fun q => q rfl)))
    refine r_iload_n C dX6_hat_36 rfl rfl ?_
    refine r_iload_n C dX6_hat_37 rfl rfl ?_
    refine r_idiv C dX6_hat_38 (hne) ?_
    rw [pk_div (by omega) (by omega) (by omega)]
    refine r_istore_n C dX6_hat_39 rfl (by decide) ?_
    refine r_iload_n C dX6_hat_40 rfl rfl ?_
    refine r_iload_n C dX6_hat_41 rfl rfl ?_
    refine a_callS0 C (c_lengthOfTurns G (w := wn) (t := rn / wn) w9 hq4) kcX6_X6_lengthOfTurns dX6_hat_42 rfl (by decide) (by decide) (by decide) (Nat.le_of_ble_eq_true rfl) rfl (fun a u hu => ?_)
    subst hu
    refine r_istore C dX6_hat_45 (by decide) ?_
    refine r_iload C dX6_hat_47 rfl ?_
    refine r_aload_n C dX6_hat_49 rfl rfl ?_
    refine r_iload_n C dX6_hat_50 rfl rfl ?_
    refine a_callVi C (c_lengthLeftOf G A (rgm nh (haC hA T) ++ P) N R Q T sa (nI wn) hb hb60 hq hL) kcX6_X6_lengthLeftOf dX6_hat_51 rfl (by decide) (by decide) (by decide) (Nat.le_of_ble_eq_true rfl) 0 rfl (ci := 6) rfl rfl rfl (fun a u hu => ?_)
    subst hu
    skip
    by_cases hen : hatNeed wn (rn / wn) ≤ sumW (T 36) (T 35) (nI wn) ns
    rotate_left
    · refine r_icmp_le (tgt := 59) C dX6_hat_54 (by decide) (fun c54 => absurd c54 ((by rw [nI_leI (by omega) (by omega)]; exact hen))) (fun c54 => ?_)
      refine r_iconst (v := -1) C dX6_hat_57 (by decide) ?_
      exact hR _ _ _ _ _ none (by decide) (by decide) rfl (Or.inl ⟨rfl, rfl, Or.inr ⟨wn, rn, hO, by omega⟩⟩) dX6_hat_58
    refine r_icmp_le (tgt := 59) C dX6_hat_54 (by decide) (fun c54 => ?_) (fun c54 => absurd c54 ((fun q => q (by rw [nI_leI (by omega) (by omega)]; exact hen))))
    skip
    refine r_new (ci := 2) C [.int 0, .int 0, .int 0, .int 0] rfl inX2 tyX2_ok cl_X6_59 ni_X2.1 ni_X2.2 (fun j hj => by rcases (show j = 0 ∨ j = 1 ∨ j = 2 ∨ j = 3 by omega) with rfl | rfl | rfl | rfl <;> rfl) (by decide) (by decide) dX6_hat_59 (fun q => ?_)
    refine r_dup C dX6_hat_62 rfl ?_
    refine r_iload C dX6_hat_63 rfl ?_
    refine r_iload_n C dX6_hat_65 rfl rfl ?_
    refine r_callIv C (c_X2_init G q _ _) kcX6_X2_init dX6_hat_66 rfl (by decide) (by decide) (by decide) (Nat.le_of_ble_eq_true rfl) [_] (List.range _) nd_1 nw_C nw_R all_nd nw_d rfl (fun u hu => ?_)
    refine V.perm perm_new ?_
    refine r_astore C dX6_hat_69 (by decide) ?_
    refine r_aload_n C dX6_hat_71 rfl rfl ?_
    refine r_aload C dX6_hat_72 rfl ?_
    refine r_iload_n C dX6_hat_74 rfl rfl ?_
    refine a_callVv C (c_sewFromScores G A (rgm nh (haC hA T) ++ P) N R Q T sa (need := hatNeed wn (rn / wn)) (hh := q) (nI wn) (nI (rn / wn)) hb hb60 hq hL (by omega)) kcX6_X6_sewFromScores dX6_hat_75 rfl (by decide) (by decide) (by decide) (Nat.le_of_ble_eq_true rfl) 0 rfl (ci := 6) rfl rfl rfl (fun u hu => ?_)
    refine r_aload_n C dX6_hat_78 rfl rfl ?_
    refine bg_X6_61 C dX6_hat_79 ?_
    refine r_aload_n C dX6_hat_82 rfl rfl ?_
    refine bg_X6_65 C dX6_hat_83 ?_
    refine r_aload C dX6_hat_86 rfl ?_
    rw [hh]
    refine r_aast (t0 := 4) (ci := 2) (r := (RX2, TX2, 4)) (ws' := bW G A N R (va_up Q 13 (va_up (Q 13) (nI nh).toNatClampNeg (some q))) ++ (rgm ns (scC sa (va_up T 35 (tk (T 36) (T 37) (nI wn) (T 35) (hatNeed wn (rn / wn)) ns).1)) ++ (hwC q (nI (hatNeed wn (rn / wn))) (nI (rn / wn)) (tk (T 36) (T 37) (nI wn) (T 35) (hatNeed wn (rn / wn)) ns) :: (rgm nh (haC hA T) ++ P)))) C 13 (14 + ns) (fun _ => rfl) rfl (rgm_next rfl) rfl (vp_in_nI (show nh < 60 by omega) (by decide)) rfl dX6_hat_88 ?_
    rw [nI_clamp (by omega)]
    refine r_aload_n C dX6_hat_89 rfl rfl ?_
    refine r_dup C dX6_hat_90 rfl ?_
    refine bg_X6_65 C dX6_hat_91 ?_
    refine r_iconst (v := 1) C dX6_hat_94 (by decide) ?_
    refine r_iadd C dX6_hat_95 ?_
    rw [hh, nI_1]
    refine bp_X6_65 C dX6_hat_96 ?_
    refine r_aload_n C dX6_hat_99 rfl rfl ?_
    refine bg_X6_65 C dX6_hat_100 ?_
    refine r_iconst (v := 1) C dX6_hat_103 (by decide) ?_
    refine r_isub C dX6_hat_104 ?_
    show V X _ _ 105 _ [.int (nI (nh + 1) - 1)] _
    rw [nI_pred]
    refine V.perm perm_in ?_
    rw [hat_cells]
    exact hR _ _ _ _ _ (some (q, wn, rn)) (by decide) (by decide) rfl (Or.inr ⟨q, wn, rn, rfl, hO, hen, rfl⟩) dX6_hat_105
  · have hno : ∀ wn rn : Nat, ¬ okH nh w r wn rn := fun wn rn h => hok ⟨wn, rn, h⟩
    by_cases h60 : nh = 60
    · refine r_aload_n C dX6_hat_0 rfl rfl ?_
      refine bg_X6_65 C dX6_hat_1 ?_
      refine r_bipush (v := 60) C dX6_hat_4 (by decide) ?_
      rw [hh, c60]
      refine r_icmp_ge (tgt := 34) C dX6_hat_6 (by decide) (fun c6 => ?_) (fun c6 => absurd c6 ((fun q => q (by rw [nI_leI (by decide) (by omega)]; omega))))
      exact j34 hno
    · refine r_aload_n C dX6_hat_0 rfl rfl ?_
      refine bg_X6_65 C dX6_hat_1 ?_
      refine r_bipush (v := 60) C dX6_hat_4 (by decide) ?_
      rw [hh, c60]
      refine r_icmp_ge (tgt := 34) C dX6_hat_6 (by decide) (fun c6 => absurd c6 ((hne60.mpr h60))) (fun c6 => ?_)
      refine r_iload_n C dX6_hat_9 rfl rfl ?_
      refine a_callS0 C (c_isWidth G w) kcX6_X6_isWidth dX6_hat_10 rfl (by decide) (by decide) (by decide) (Nat.le_of_ble_eq_true rfl) rfl (fun a u hu => ?_)
      subst hu
      skip
      by_cases hw : ¬ w < 1 ∧ ¬ 9 < w
      rotate_left
      · rw [if_neg hw]
        refine r_if_eq (tgt := 34) C dX6_hat_13 (by decide) (fun c13 => ?_) (fun c13 => absurd c13 ((fun q => q rfl)))
        exact j34 hno
      rw [if_pos hw]
      obtain ⟨wn, hwn, rfl⟩ := nI_of (x := w) (fun q => hw.1 (Int32.lt_trans q (by decide)))
      have hw1 : 1 ≤ wn := by
        have := hw.1
        rw [show (1 : Int32) = nI 1 from rfl, nI_ltI (by omega) (by decide)] at this
        omega
      have hw9 : wn ≤ 9 := by
        have := hw.2
        rw [show (9 : Int32) = nI 9 from rfl, nI_ltI (by decide) (by omega)] at this
        omega
      have hne : ¬ nI wn = 0 := nI_ne0 (by omega) (by omega)
      have j28 : ∀ rn : Nat, r = nI rn → 1 ≤ rn → rn ≤ 400 → V X 0 0 28 (ent [.ref (A 0), .int (nI wn), .int r] 6) [] (bW G A N R Q ++ (rgm ns (scC sa T) ++ (rgm nh (haC hA T) ++ P))) := by
        intro rn hr h1 h4
        subst hr
        refine r_iload_n C dX6_hat_28 rfl rfl ?_
        refine r_iload_n C dX6_hat_29 rfl rfl ?_
        refine r_irem C dX6_hat_30 (hne) ?_
        show V X 0 0 31 _ [.int (nI rn - nI rn / nI wn * nI wn)] _
        rw [pk_rem (by omega) (by omega) (by omega)]
        refine r_if_eq (tgt := 36) C dX6_hat_31 (by decide) (fun c31 => ?_) (fun c31 => ?_)
        · exact absurd ⟨h60, rfl, rfl, hw1, hw9, h1, h4, (nI_eq (by have := Nat.mod_lt rn (show 0 < wn by omega); omega) (by decide)).mp (show nI (rn % wn) = nI 0 from c31)⟩ (hno wn rn)
        · exact j34 hno
      refine r_if_eq (tgt := 34) C dX6_hat_13 (by decide) (fun c13 => absurd c13 ((by decide))) (fun c13 => ?_)
      refine r_iload_n C dX6_hat_16 rfl rfl ?_
      refine r_iconst (v := 1) C dX6_hat_17 (by decide) ?_
      refine r_icmp_lt (tgt := 34) C dX6_hat_18 (by decide) (fun c18 => ?_) (fun c18 => ?_)
      · exact j34 hno
      · refine r_iload_n C dX6_hat_21 rfl rfl ?_
        refine r_sipush (v := 400) C dX6_hat_22 (by decide) ?_
        refine r_icmp_gt (tgt := 34) C dX6_hat_25 (by decide) (fun c25 => ?_) (fun c25 => ?_)
        · exact j34 hno
        · obtain ⟨rn, hrn, hr⟩ := nI_of (x := r) (fun q => c18 (Int32.lt_trans q (by decide)))
          rw [hr, show (1 : Int32) = nI 1 from rfl, nI_ltI (by omega) (by decide)] at c18
          rw [hr, show (400 : Int32) = nI 400 from rfl, nI_ltI (by decide) (by omega)] at c25
          exact j28 rn hr (by omega) (by omega)
end ST3
