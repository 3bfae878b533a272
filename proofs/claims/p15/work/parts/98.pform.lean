/-! Pattern: its form, and how often until it is untwined, weakly -/
theorem PtK.same {c : Nat → Int32} {s z : Nat} {N N' : Nat → Int32} {R R' : Rt} (h : PtK c s z N R) (hN : ∀ j, j < 8 → N' j = N j) (hR : ∀ i, i < 17 → R' i = R i) : PtK c s z N' R' := by
  obtain ⟨⟨k3, s2, s7⟩, ⟨k2, z3⟩, hok, k1, kg, k4, ⟨h, hh, h4, k5⟩, k6, k7, ku, k9⟩ := h
  refine ⟨⟨(hN 3 (by decide)).trans k3, s2, s7⟩, ⟨(hN 2 (by decide)).trans k2, z3⟩, hok, fun i hi => ?_, fun p a b => ?_, (hN 4 (by decide)).trans k4, ⟨h, hh, h4, (hN 5 (by decide)).trans k5⟩, (hN 6 (by decide)).trans k6, ?_, fun p a b => ?_, fun a b a1 a2 b1 b2 hab => ?_⟩
  · rw [hR 1 (by decide)]; exact k1 i hi
  · rw [hR 2 (by decide)]; exact kg p a b
  · rw [hN 7 (by decide)]; exact k7
  · rw [hR 5 (by decide)]; exact ku p a b
  · rw [hR (9 + a) (by omega)]; exact k9 a b a1 a2 b1 b2 hab
section PF
variable (G : Gx) (A : Nat → Nat) (P : va_W) (N : Nt) (R : Rt) (Q : Qt)
def pfN (N : Nt) (n : Nat → Int32) : Nt := va_up N 17 n
def pfR (R : Rt) (R1 : Rt) : Rt := va_up (va_up (va_up R 18 (R1 1)) 19 (R1 2)) 20 (R1 3)
/-- the form's cells ahead, the row behind them, then the rest -/
def pX (G : Gx) (A : Nat → Nat) (P : va_W) (N : Nt) (R : Rt) (Q : Qt) (n : Nat → Int32) (R1 : Rt) : va_W := fW G 300 (fun i => A (17 + i)) (fun _ => n) R1 Q ++ ((A 1, .inl (G.2.2 0, 300, .inl (R 1))) :: ((pW G A N R Q).take 1 ++ (((pW G A N R Q).drop 2).take 15 ++ P)))
theorem pX_in {X : Fx} {k n pc : Nat} {L : List (Option Value)} {st : List Value} (kk : V X k n pc L st (pX G A P N R Q (N 17) (fun i => R (17 + i)))) : V X k n pc L st (pW G A N R Q ++ P) :=
  V.re (m := 21) (ws' := fW G 300 (fun i => A (17 + i)) (fun _ => N 17) (fun i => R (17 + i)) Q ++ ((A 1, .inl (G.2.2 0, 300, .inl (R 1))) :: ((pW G A N R Q).take 1 ++ ((pW G A N R Q).drop 2).take 15))) rfl [17, 18, 19, 20, 1, 0, 2, 3, 4, 5, 6, 7, 8, 9, 10, 11, 12, 13, 14, 15, 16] (by decide) rfl (by decide) kk
theorem pX_out {X : Fx} {k n pc : Nat} {L : List (Option Value)} {st : List Value} {nn : Nat → Int32} {R1 : Rt} (kk : V X k n pc L st (pW G A (pfN N nn) (pfR R R1) Q ++ P)) : V X k n pc L st (pX G A P N R Q nn R1) :=
  show V X k n pc L st ((fW G 300 (fun i => A (17 + i)) (fun _ => nn) R1 Q ++ ((A 1, .inl (G.2.2 0, 300, .inl (R 1))) :: ((pW G A N R Q).take 1 ++ ((pW G A N R Q).drop 2).take 15))) ++ P) from
  V.re (m := 21) rfl [5, 4, 6, 7, 8, 9, 10, 11, 12, 13, 14, 15, 16, 17, 18, 19, 20, 0, 1, 2, 3] (by decide) rfl (by decide) kk
theorem w_pform {c : Nat → Int32} {s z : Nat} (hK : PtK c s z (N 0) R) (hB : ∃ s' hd tl, FmB (N 17) 300 s' hd tl) : XQ G yX3_form (.code yX3_form cX3_form 1 (some (.object "PlaitBench$Form"))) 5 0 0 [.ref (A 0)] (pW G A N R Q ++ P) (False, nse, []) (S := Nt × Rt) (fun o u => o = some (A 17) ∧ (∃ s' hd tl, FmB (u.1 17) 300 s' hd tl) ∧ PtK c s z (u.1 0) u.2) (fun u => pW G A u.1 u.2 Q ++ P) := by
  obtain ⟨⟨k3, s2, s7⟩, ⟨k2, z3⟩, -⟩ := id hK
  refine XQ.intro (Or.inl ⟨_, rfl⟩) (by decide) (Nat.le_of_ble_eq_true rfl) (cat1 (xs := [])) fun X C hE hR hO hN => ?_
  have j38 : ∀ (N' : Nt) (R' : Rt), (∃ s' hd tl, FmB (N' 17) 300 s' hd tl) → PtK c s z (N' 0) R' → V X 0 0 38 [some (.ref (A 0))] [] (pW G A N' R' Q ++ P) := by
    intro N' R' h1 h2
    refine r_aload_n C dX3_form_38 rfl rfl ?_
    refine pg_X3_66 C dX3_form_39 ?_
    exact hR _ _ _ _ (some (A 17)) (N', R') (by decide) (by decide) ⟨rfl, h1, h2⟩ dX3_form_42
  refine r_aload_n C dX3_form_0 rfl rfl ?_
  refine pg_X3_70 C dX3_form_1 ?_
  refine r_if_ne (tgt := 38) C dX3_form_4 (by decide) (fun c4 => ?_) (fun c4 => ?_)
  · first | exact j38 N R hB hK | exact j38 _ _ ⟨s, hd', tl', hB'⟩ (hK.same (fun j hj => va_up_no (by omega)) (fun i hi => by unfold pfR; rw [va_up_no (by omega), va_up_no (by omega), va_up_no (by omega)]))
  · refine r_aload_n C dX3_form_7 rfl rfl ?_
    refine pg_X3_66 C dX3_form_8 ?_
    refine r_aload_n C dX3_form_11 rfl rfl ?_
    refine pg_X3_22 C dX3_form_12 ?_
    rw [k3]
    refine pX_in G A P N R Q ?_
    show V X 0 0 15 _ _ (fW G 300 (fun i => A (17 + i)) (fun _ => N 17) (fun i => R (17 + i)) Q ++ _)
    refine a_callVv C (w_clear G 300 (fun i => A (17 + i)) _ (fun _ => N 17) (fun i => R (17 + i)) Q (s := s) s2 s7) kcX3_X1_clear dX3_form_15 rfl (by decide) (by decide) (by decide) (Nat.le_of_ble_eq_true rfl) 0 rfl (ci := 1) rfl rfl rfl (fun N1 hN1 => ?_)
    refine pX_out G A P N R Q (nn := N1 0) (R1 := fun i => R (17 + i)) ?_
    refine r_aload_n C dX3_form_18 rfl rfl ?_
    refine pg_X3_66 C dX3_form_19 ?_
    refine r_aload_n C dX3_form_22 rfl rfl ?_
    refine pg_X3_9 C dX3_form_23 ?_
    refine r_aload_n C dX3_form_26 rfl rfl ?_
    refine pg_X3_18 C dX3_form_27 ?_
    show V X 0 0 30 _ (.int (N 0 2) :: .ref (A 1) :: .ref (A 17) :: []) _
    rw [k2]
    refine pX_in G A P _ _ Q ?_
    show V X 0 0 30 _ _ (fW G 300 (fun i => A (17 + i)) (fun _ => N1 0) _ Q ++ ((A 1, .inl (G.2.2 0, 300, .inl (R 1))) :: _))
    refine a_callVv C (w_make G 300 (fun i => A (17 + i)) _ (fun _ => N1 0) _ Q (n := z) (ra := A 1) (R 1) hN1 (by decide) z3) kcX3_X1_make dX3_form_30 rfl (by decide) (by decide) (by decide) (Nat.le_of_ble_eq_true rfl) 0 rfl (ci := 1) rfl rfl rfl (fun u hu => ?_)
    obtain ⟨hd', tl', hB'⟩ := hu
    refine pX_out G A P _ _ Q (nn := u.1 0) (R1 := u.2) ?_
    refine r_aload_n C dX3_form_33 rfl rfl ?_
    refine r_iconst (v := 1) C dX3_form_34 (by decide) ?_
    refine pp_X3_70 C (Or.inr rfl) dX3_form_35 ?_
    first | exact j38 N R hB hK | exact j38 _ _ ⟨s, hd', tl', hB'⟩ (hK.same (fun j hj => va_up_no (by omega)) (fun i hi => by unfold pfR; rw [va_up_no (by omega), va_up_no (by omega), va_up_no (by omega)]))
/-- a work form's cells ahead of the pattern's: the row behind it -/
def tX (G : Gx) (A B : Nat → Nat) (P : va_W) (N : Nt) (R : Rt) (Q : Qt) (n : Nat → Int32) (R1 : Rt) : va_W := fW G 600 B (fun _ => n) R1 Q ++ ((A 1, .inl (G.2.2 0, 300, .inl (R 1))) :: ((pW G A N R Q).take 1 ++ ((pW G A N R Q).drop 2 ++ P)))
theorem tX_in {X : Fx} {k n pc : Nat} {L : List (Option Value)} {st : List Value} {B : Nat → Nat} {nn : Nat → Int32} {R1 : Rt} (kk : V X k n pc L st (tX G A B P N R Q nn R1)) : V X k n pc L st (pW G A N R Q ++ (fW G 600 B (fun _ => nn) R1 Q ++ P)) :=
  show V X k n pc L st ((pW G A N R Q ++ fW G 600 B (fun _ => nn) R1 Q) ++ P) from
  V.re (m := 25) (ws' := fW G 600 B (fun _ => nn) R1 Q ++ ((A 1, .inl (G.2.2 0, 300, .inl (R 1))) :: ((pW G A N R Q).take 1 ++ (pW G A N R Q).drop 2))) rfl [21, 22, 23, 24, 1, 0, 2, 3, 4, 5, 6, 7, 8, 9, 10, 11, 12, 13, 14, 15, 16, 17, 18, 19, 20] (by decide) rfl (by decide) kk
theorem tX_out {X : Fx} {k n pc : Nat} {L : List (Option Value)} {st : List Value} {B : Nat → Nat} {nn : Nat → Int32} {R1 : Rt} (kk : V X k n pc L st (pW G A N R Q ++ (fW G 600 B (fun _ => nn) R1 Q ++ P))) : V X k n pc L st (tX G A B P N R Q nn R1) :=
  show V X k n pc L st ((fW G 600 B (fun _ => nn) R1 Q ++ ((A 1, .inl (G.2.2 0, 300, .inl (R 1))) :: ((pW G A N R Q).take 1 ++ (pW G A N R Q).drop 2))) ++ P) from
  V.re (m := 25) (ws' := pW G A N R Q ++ fW G 600 B (fun _ => nn) R1 Q) rfl [5, 4, 6, 7, 8, 9, 10, 11, 12, 13, 14, 15, 16, 17, 18, 19, 20, 21, 22, 23, 24, 0, 1, 2, 3] (by decide) rfl (by decide) kk
theorem w_times {c : Nat → Int32} {s z : Nat} {B : Nat → Nat} {nn : Nat → Int32} {R1 : Rt} (hK : PtK c s z (N 0) R) : CI G yX3_timesToUntwine cX3_timesToUntwine 3 .int 5 0 0 [.ref (A 0), .ref (B 0)] (pW G A N R Q ++ (fW G 600 B (fun _ => nn) R1 Q ++ P)) (S := Int32 × (Nat → Int32) × Rt) (fun _ u => (∃ hd tl, FmB u.2.1 600 s hd tl) ∨ u.2.1 = nn) (fun u => pW G A (va_up N 0 (va_up (N 0) 17 u.1)) R Q ++ (fW G 600 B (fun _ => u.2.1) u.2.2 Q ++ P)) := by
  obtain ⟨⟨k3, s2, s7⟩, ⟨k2, z3⟩, -, -, -, -, ⟨h, hh, h4, k5⟩, -⟩ := id hK
  refine CI.intro (by decide) (Nat.le_of_ble_eq_true rfl) catB fun X C hR => ?_
  obtain ⟨N1, hN1⟩ : ∃ N1, N1 = va_up N 0 (va_up (N 0) 17 (-1)) := ⟨_, rfl⟩
  have j98 : ∀ (v : Int32) (n1 : Nat → Int32) (R2 : Rt) (o2 : Option Value), ((∃ hd tl, FmB n1 600 s hd tl) ∨ n1 = nn) → V X 0 0 98 [some (.ref (A 0)), some (.ref (B 0)), o2] [] (pW G A (va_up N 0 (va_up (N 0) 17 v)) R Q ++ (fW G 600 B (fun _ => n1) R2 Q ++ P)) := by
    intro v n1 R2 o2 hh
    refine r_aload_n C dX3_timesToUntwine_98 rfl rfl ?_
    refine pg_X3_73 C dX3_timesToUntwine_99 ?_
    exact hR _ _ _ _ _ (v, n1, R2) (by decide) (by decide) rfl hh dX3_timesToUntwine_102
  have key : ∀ (f m hd tl : Nat) (n1 : Nat → Int32) (R2 : Rt), m + f = 13 → 1 ≤ m → FmB n1 600 s hd tl → V X 0 0 47 [some (.ref (A 0)), some (.ref (B 0)), some (.int (nI m))] [] (pW G A N1 R Q ++ (fW G 600 B (fun _ => n1) R2 Q ++ P)) := by
    intro f
    induction f with
    | zero =>
      intro m hd tl n1 R2 hm h1 hB
      have hm13 : m = 13 := by omega
      subst hm13
      refine r_iload_n C dX3_timesToUntwine_47 rfl rfl ?_
      refine r_bipush (v := 12) C dX3_timesToUntwine_48 (by decide) ?_
      refine r_icmp_gt (tgt := 98) C dX3_timesToUntwine_50 (by decide) (fun c50 => ?_) (fun c50 => absurd c50 ((fun q => absurd (show (12 : Int32) < nI 13 by decide) q)))
      rw [hN1]; exact j98 _ n1 R2 _ (Or.inl ⟨hd, tl, hB⟩)
    | succ f ih =>
      intro m hd tl n1 R2 hm h1 hB
      refine r_iload_n C dX3_timesToUntwine_47 rfl rfl ?_
      refine r_bipush (v := 12) C dX3_timesToUntwine_48 (by decide) ?_
      rw [show (12 : Int32) = nI 12 from rfl]
      refine r_icmp_gt (tgt := 98) C dX3_timesToUntwine_50 (by decide) (fun c50 => absurd c50 ((by rw [nI_ltI (by decide) (by omega)]; omega))) (fun c50 => ?_)
      refine r_iload_n C dX3_timesToUntwine_53 rfl rfl ?_
      refine r_aload_n C dX3_timesToUntwine_54 rfl rfl ?_
      refine pg_X3_18 C dX3_timesToUntwine_55 ?_
      refine r_imul C dX3_timesToUntwine_58 ?_
      refine r_sipush (v := 600) C dX3_timesToUntwine_59 (by decide) ?_
      refine r_icmp_gt (tgt := 98) C dX3_timesToUntwine_62 (by decide) (fun c62 => ?_) (fun c62 => ?_)
      · rw [hN1]; first | exact j98 _ n1 R2 _ (Or.inl ⟨hd, tl, hB⟩) | (rw [up_up, va_up_at, up_up]; exact j98 _ _ _ _ (Or.inl ⟨hd', tl', hB'⟩))
      · refine r_aload_n C dX3_timesToUntwine_65 rfl rfl ?_
        refine r_aload_n C dX3_timesToUntwine_66 rfl rfl ?_
        refine pg_X3_9 C dX3_timesToUntwine_67 ?_
        refine r_aload_n C dX3_timesToUntwine_70 rfl rfl ?_
        refine pg_X3_18 C dX3_timesToUntwine_71 ?_
        show V X 0 0 74 _ (.int (N1 0 2) :: .ref (A 1) :: .ref (B 0) :: []) _
        rw [show N1 0 2 = nI z by rw [hN1]; exact k2]
        refine tX_in G A P _ _ Q ?_
        refine a_callVv C (w_make G 600 B _ (fun _ => n1) R2 Q (n := z) (ra := A 1) (R 1) hB (by decide) z3) kcX3_X1_make dX3_timesToUntwine_74 rfl (by decide) (by decide) (by decide) (Nat.le_of_ble_eq_true rfl) 0 rfl (ci := 1) rfl rfl rfl (fun u hu => ?_)
        obtain ⟨hd', tl', hB'⟩ := hu
        refine tX_out G A P _ _ Q (nn := u.1 0) (R1 := u.2) ?_
        refine r_aload_n C dX3_timesToUntwine_77 rfl rfl ?_
        refine a_callVi C (e_isEven G _ 21 (fs := [.int (u.1 0 0), .ref (B 1), .int (u.1 0 2), .int (u.1 0 3), .int (u.1 0 4), .int (u.1 0 5), .int (u.1 0 6), .ref (B 2), .ref (B 3)]) rfl rfl rfl rfl) kcX3_X1_isEvenPowerAlone dX3_timesToUntwine_78 rfl (by decide) (by decide) (by decide) (Nat.le_of_ble_eq_true rfl) 21 rfl (ci := 1) rfl rfl rfl (fun r u2 hr => ?_)
        refine r_if_eq (tgt := 92) C dX3_timesToUntwine_81 (by decide) (fun c81 => ?_) (fun c81 => ?_)
        · refine r_iinc (v := _ + 1) C dX3_timesToUntwine_92 rfl (by rfl) (by decide) ?_
          refine r_goto (tgt := 47) C dX3_timesToUntwine_95 (by decide) ?_
          show V X 0 0 47 [_, _, some (.int (nI m + 1))] _ _
          rw [nI_1]
          exact ih (m + 1) hd' tl' _ _ (by omega) (by omega) hB'
        · refine r_aload_n C dX3_timesToUntwine_84 rfl rfl ?_
          refine r_iload_n C dX3_timesToUntwine_85 rfl rfl ?_
          refine pp_X3_73 C dX3_timesToUntwine_86 ?_
          refine r_goto (tgt := 98) C dX3_timesToUntwine_89 (by decide) ?_
          rw [hN1]; first | exact j98 _ n1 R2 _ (Or.inl ⟨hd, tl, hB⟩) | (rw [up_up, va_up_at, up_up]; exact j98 _ _ _ _ (Or.inl ⟨hd', tl', hB'⟩))
  refine r_aload_n C dX3_timesToUntwine_0 rfl rfl ?_
  refine pg_X3_73 C dX3_timesToUntwine_1 ?_
  refine r_if_eq (tgt := 12) C dX3_timesToUntwine_4 (by decide) (fun c4 => ?_) (fun c4 => ?_)
  · refine r_aload_n C dX3_timesToUntwine_12 rfl rfl ?_
    refine r_iconst (v := -1) C dX3_timesToUntwine_13 (by decide) ?_
    refine pp_X3_73 C dX3_timesToUntwine_14 ?_
    refine r_aload_n C dX3_timesToUntwine_17 rfl rfl ?_
    refine pg_X3_28 C dX3_timesToUntwine_18 ?_
    refine r_aload_n C dX3_timesToUntwine_21 rfl rfl ?_
    refine pg_X3_18 C dX3_timesToUntwine_22 ?_
    refine r_imul C dX3_timesToUntwine_25 ?_
    refine r_sipush (v := 600) C dX3_timesToUntwine_26 (by decide) ?_
    refine r_icmp_le (tgt := 37) C dX3_timesToUntwine_29 (by decide) (fun c29 => ?_) (fun c29 => ?_)
    · refine r_aload_n C dX3_timesToUntwine_37 rfl rfl ?_
      refine r_aload_n C dX3_timesToUntwine_38 rfl rfl ?_
      refine pg_X3_22 C dX3_timesToUntwine_39 ?_
      show V X 0 0 42 _ [.int (N 0 3), .ref (B 0)] _
      rw [k3, ← hN1]
      refine tX_in G A P _ _ Q ?_
      refine a_callVv C (w_clear G 600 B _ (fun _ => nn) R1 Q (s := s) s2 s7) kcX3_X1_clear dX3_timesToUntwine_42 rfl (by decide) (by decide) (by decide) (Nat.le_of_ble_eq_true rfl) 0 rfl (ci := 1) rfl rfl rfl (fun N2 hN2 => ?_)
      refine tX_out G A P _ _ Q (nn := N2 0) (R1 := R1) ?_
      refine r_iconst (v := 1) C dX3_timesToUntwine_45 (by decide) ?_
      refine r_istore_n C dX3_timesToUntwine_46 rfl (by decide) ?_
      exact key 12 1 0 0 (N2 0) R1 rfl (Nat.le_refl _) hN2
    · refine r_aload_n C dX3_timesToUntwine_32 rfl rfl ?_
      refine pg_X3_73 C dX3_timesToUntwine_33 ?_
      exact hR _ _ _ _ _ (-1, nn, R1) (by decide) (by decide) rfl (Or.inr rfl) dX3_timesToUntwine_36
  · refine r_aload_n C dX3_timesToUntwine_7 rfl rfl ?_
    rw [← up_same (f := N) (k := 0) (v := va_up (N 0) 17 (N 0 17)) (by rw [up_same rfl])]
    refine pg_X3_73 C dX3_timesToUntwine_8 ?_
    exact hR _ _ _ _ _ (N 0 17, nn, R1) (by decide) (by decide) rfl (Or.inr rfl) dX3_timesToUntwine_11
end PF
