/-! Pattern: become; what is asked of it -/
/-- the pattern tells what the crossings c, z of them, of s straws, are -/
def PtK (c : Nat → Int32) (s z : Nat) (N : Nat → Int32) (R : Rt) : Prop :=
  (N 3 = nI s ∧ 2 ≤ s ∧ s ≤ 7) ∧ (N 2 = nI z ∧ z ≤ 300) ∧ (∀ i, i < z → okC s (c i)) ∧ (∀ i, i < z → R 1 i = c i) ∧ (∀ p, 1 ≤ p → p ≤ s → R 2 p = nI (gT c z p)) ∧ N 4 = nI (lvMost c z) ∧ (∃ h, isHome (gT c z) s h ∧ h ≤ 420 ∧ N 5 = nI h) ∧ N 6 = nI (rgN (gT c z) s) ∧ ((N 7 = 1 ∧ HoldsP c z s) ∨ (N 7 = 0 ∧ ¬ HoldsP c z s)) ∧ (∀ p, 1 ≤ p → p ≤ s → R 5 p = nI (usF c p z)) ∧ ∀ a b, 1 ≤ a → a ≤ s → 1 ≤ b → b ≤ s → a ≠ b → R (9 + a) b = tw1 c z a b
theorem catR {a b : Nat} {x y : Int32} : ∀ v ∈ [Value.ref a, Value.int x, Value.ref b, Value.int y], v.category = 1 := by
  intro v hv
  simp only [List.mem_cons, List.not_mem_nil, or_false] at hv
  rcases hv with q | q | q | q <;> rw [q] <;> rfl
theorem TrOK.up2 {c : Nat → Int32} {s z : Nat} {N : Nat → Int32} {R : Rt} {E : Nat → Int32} (h : TrOK c s z N R) : TrOK c s z N (va_up R 2 E) := by
  obtain ⟨t3, t4, tN, t5, t67, t14, t9⟩ := h
  exact ⟨t3, t4, tN, t5, t67, t14, fun a b a1 a2 b1 b2 hab => by rw [va_up_no (by omega)]; exact t9 a b a1 a2 b1 b2 hab⟩
section PB2
variable (G : Gx) (A : Nat → Nat) (P : va_W) (N : Nt) (R : Rt) (Q : Qt)
theorem c_become {c row : Nat → Int32} {s z ra : Nat} (hs2 : 2 ≤ s) (hs7 : s ≤ 7) (hz : z ≤ 300) (hok : ∀ i, i < z → okC s (c i)) (hrow : ∀ i, i < z → row i = c i) : CV G yX3_become cX3_become 5 2 0 0 [.ref (A 0), .int (nI s), .ref ra, .int (nI z)] (pW G A N R Q ++ ((ra, .inl (G.2.2 0, 300, .inl row)) :: P)) (S := Nt × Rt) (fun u => PtK c s z (u.1 0) u.2 ∧ (u.1 0 16 = 0 ∧ u.1 0 17 = 0) ∧ (∀ i, i ≠ 0 → u.1 i = N i) ∧ ∀ i, 17 ≤ i → u.2 i = R i) (fun u => pW G A u.1 u.2 Q ++ ((ra, .inl (G.2.2 0, 300, .inl row)) :: P)) := by
  refine CV.intro (by decide) (Nat.le_of_ble_eq_true rfl) catR fun X C hR => ?_
  have hP : PermOn (gT c z) s := gT_perm hs7 hok
  have hge1 : ∀ j, j < z → 1 ≤ ai (c j) := fun j hj => (okC_ai (hok j hj) hs7).1
  have hHr := Holds_real hs2 hs7 hok
  obtain ⟨N0, hN0⟩ : ∃ N0, N0 = va_up N 0 (va_up (va_up (va_up (va_up (N 0) 3 (nI s)) 2 (nI z)) 16 0) 17 0) := ⟨_, rfl⟩
  have bx : ∀ x, x ≤ s → vp_in (nI x) 8 := fun x a => vp_in_nI (by omega) (by decide)
  have cx : ∀ x, x ≤ s → (nI x).toNatClampNeg = x := fun x a => nI_clamp (by omega)
  have j110 : ∀ (N' : Nt) (R' : Rt) (o4 : Option Value), TrOK c s z (N' 0) R' → (∀ i, i ≠ 0 → N' i = N i) → N' 0 3 = nI s → N' 0 2 = nI z → N' 0 16 = 0 → N' 0 17 = 0 → (∀ i, i < z → R' 1 i = c i) → (∀ p, 1 ≤ p → p ≤ s → R' 2 p = nI (gT c z p)) → (∀ i, 17 ≤ i → R' i = R i) → V X 0 0 110 [some (.ref (A 0)), some (.int (nI s)), some (.ref ra), some (.int (nI z)), o4] [] (pW G A N' R' Q ++ ((ra, .inl (G.2.2 0, 300, .inl row)) :: P)) := by
    intro N' R' o4 hT k0 k3 k2 k16 k17 hr1 hr2 hr17
    obtain ⟨t3, t4, tN, t5, t67, t14, t9⟩ := id hT
    refine r_aload_n C dX3_become_110 rfl rfl ?_
    refine a_callVv C (c_walkRings G A _ N' R' Q hP hs2 hs7 k3 hr2) kcX3_X3_walkRings dX3_become_111 rfl (by decide) (by decide) (by decide) (Nat.le_of_ble_eq_true rfl) 0 rfl (ci := 3) rfl rfl rfl (fun h hh => ?_)
    skip
    obtain ⟨N2, hN2⟩ : ∃ N2, N2 = va_up N' 0 (va_up (va_up (N' 0) 6 (nI (rgN (gT c z) s))) 5 (nI h)) := ⟨_, rfl⟩
    rw [← hN2]
    have m3 : N2 0 3 = nI s := by rw [hN2]; exact k3
    have m14 : N2 0 14 = N' 0 14 := by rw [hN2]; rfl
    have j141 : ∀ v : Int32, (v = 0 ∨ v = 1) → ((v = 1 ∧ HoldsP c z s) ∨ (v = 0 ∧ ¬ HoldsP c z s)) → V X 0 0 141 [some (.ref (A 0)), some (.int (nI s)), some (.ref ra), some (.int (nI z)), o4] [.int v, .ref (A 0)] (pW G A N2 R' Q ++ ((ra, .inl (G.2.2 0, 300, .inl row)) :: P)) := by
      intro v hv hh2
      refine pp_X3_34 C (hv) dX3_become_141 ?_
      refine hR _ _ _ _ (_, R') (by decide) (by decide) ⟨⟨⟨?_, hs2, hs7⟩, ⟨?_, hz⟩, hok, hr1, hr2, ?_, ⟨h, hh.1, hh.2, ?_⟩, ?_, ?_, t5, t9⟩, ⟨?_, ?_⟩, fun i hi => ?_, hr17⟩ dX3_become_144
      · rw [hN2]; exact k3
      · rw [hN2]; exact k2
      · rw [hN2]; exact tN
      · rw [hN2]; rfl
      · rw [hN2]; rfl
      · exact hh2
      · rw [hN2]; exact k16
      · rw [hN2]; exact k17
      · show va_up N2 0 _ i = _
        rw [va_up_no hi, hN2, va_up_no hi]; exact k0 i hi
    rcases t14 with ⟨u1, u2⟩ | ⟨u1, u2⟩
    · refine r_aload_n C dX3_become_114 rfl rfl ?_
      refine r_aload_n C dX3_become_115 rfl rfl ?_
      refine pg_X3_58 C dX3_become_116 ?_
      rw [m14, u1]
      refine r_if_eq (tgt := 140) C dX3_become_119 (by decide) (fun c119 => absurd c119 ((by decide))) (fun c119 => ?_)
      refine r_aload_n C dX3_become_122 rfl rfl ?_
      refine a_callVi C (c_hasAllNumbers G A _ N2 R' Q hs7 m3 t4 (fun i => by have := la_le (i := i) hge1; omega)) kcX3_X3_hasAllNumbers dX3_become_123 rfl (by decide) (by decide) (by decide) (Nat.le_of_ble_eq_true rfl) 0 rfl (ci := 3) rfl rfl rfl (fun r u hr => ?_)
      skip
      rcases hr with ⟨rfl, hr⟩ | ⟨rfl, hr⟩
      · refine r_if_eq (tgt := 140) C dX3_become_126 (by decide) (fun c126 => absurd c126 ((by decide))) (fun c126 => ?_)
        refine r_aload_n C dX3_become_129 rfl rfl ?_
        refine a_callVi C (c_goesOnInTurn G A _ N2 R' Q hP hs7 m3 hr2 t67) kcX3_X3_goesOnInTurn dX3_become_130 rfl (by decide) (by decide) (by decide) (Nat.le_of_ble_eq_true rfl) 0 rfl (ci := 3) rfl rfl rfl (fun r u hr' => ?_)
        skip
        rcases hr' with ⟨rfl, hr'⟩ | ⟨rfl, hr'⟩
        · refine r_if_eq (tgt := 140) C dX3_become_133 (by decide) (fun c133 => absurd c133 ((by decide))) (fun c133 => ?_)
          refine r_iconst (v := 1) C dX3_become_136 (by decide) ?_
          refine r_goto (tgt := 141) C dX3_become_137 (by decide) ?_
          exact j141 1 (Or.inr rfl) (Or.inl ⟨rfl, hHr.mpr ⟨u2, hr, hr'⟩⟩)
        · refine r_if_eq (tgt := 140) C dX3_become_133 (by decide) (fun c133 => ?_) (fun c133 => absurd c133 ((fun q => q rfl)))
          refine r_iconst (v := 0) C dX3_become_140 (by decide) ?_
          exact j141 0 (Or.inl rfl) (Or.inr ⟨rfl, fun q => hr' (hHr.mp q).2.2⟩)
      · refine r_if_eq (tgt := 140) C dX3_become_126 (by decide) (fun c126 => ?_) (fun c126 => absurd c126 ((fun q => q rfl)))
        refine r_iconst (v := 0) C dX3_become_140 (by decide) ?_
        exact j141 0 (Or.inl rfl) (Or.inr ⟨rfl, fun q => hr (hHr.mp q).2.1⟩)
    · refine r_aload_n C dX3_become_114 rfl rfl ?_
      refine r_aload_n C dX3_become_115 rfl rfl ?_
      refine pg_X3_58 C dX3_become_116 ?_
      rw [m14, u1]
      refine r_if_eq (tgt := 140) C dX3_become_119 (by decide) (fun c119 => ?_) (fun c119 => absurd c119 ((fun q => q rfl)))
      refine r_iconst (v := 0) C dX3_become_140 (by decide) ?_
      exact j141 0 (Or.inl rfl) (Or.inr ⟨rfl, fun q => u2 (hHr.mp q).1⟩)
  have k81 : ∀ (f x : Nat) (N' : Nt) (R' : Rt), x + f = s + 1 → 1 ≤ x → TrOK c s z (N' 0) R' → (∀ i, i ≠ 0 → N' i = N i) → N' 0 3 = nI s → N' 0 2 = nI z → N' 0 16 = 0 → N' 0 17 = 0 → (∀ i, i < z → R' 1 i = c i) → (∀ p, 1 ≤ p → p ≤ s → gT c z p < x → R' 2 p = nI (gT c z p)) → (∀ i, 17 ≤ i → R' i = R i) → V X 0 0 81 [some (.ref (A 0)), some (.int (nI s)), some (.ref ra), some (.int (nI z)), some (.int (nI x))] [] (pW G A N' R' Q ++ ((ra, .inl (G.2.2 0, 300, .inl row)) :: P)) := by
    intro f
    induction f with
    | zero =>
      intro x N' R' hx h1 hT k0 k3 k2 k16 k17 hr1 hr2 hr17
      refine r_iload C dX3_become_81 rfl ?_
      refine r_aload_n C dX3_become_83 rfl rfl ?_
      refine pg_X3_22 C dX3_become_84 ?_
      rw [k3]
      refine r_icmp_gt (tgt := 110) C dX3_become_87 (by decide) (fun c87 => ?_) (fun c87 => absurd c87 ((fun q => q (nI_lt (by omega) (by omega)))))
      exact j110 N' R' _ hT k0 k3 k2 k16 k17 hr1 (fun p a b => hr2 p a b (by have := hP.1 p a b; omega)) hr17
    | succ f ih =>
      intro x N' R' hx h1 hT k0 k3 k2 k16 k17 hr1 hr2 hr17
      obtain ⟨p0, p1, p2, hp0⟩ := perm_surj hP h1 (show x ≤ s by omega)
      have e3 : R' 3 x = nI p0 := by have := hT.1 p0 p1 p2; rw [hp0] at this; exact this
      refine r_iload C dX3_become_81 rfl ?_
      refine r_aload_n C dX3_become_83 rfl rfl ?_
      refine pg_X3_22 C dX3_become_84 ?_
      rw [k3]
      refine r_icmp_gt (tgt := 110) C dX3_become_87 (by decide) (fun c87 => absurd c87 ((by rw [nI_ltI (by omega) (by omega)]; omega))) (fun c87 => ?_)
      refine r_aload_n C dX3_become_90 rfl rfl ?_
      refine pg_X3_15 C dX3_become_91 ?_
      refine r_aload_n C dX3_become_94 rfl rfl ?_
      refine pg_X3_38 C dX3_become_95 ?_
      refine r_iload C dX3_become_98 rfl ?_
      refine pl_3 C dX3_become_100 (bx x (by omega)) ?_
      rw [cx x (by omega), e3]
      refine r_iload C dX3_become_101 rfl ?_
      refine ps_2 C dX3_become_103 (bx p0 p2) ?_
      rw [cx p0 p2]
      refine r_iinc (v := _ + 1) C dX3_become_104 rfl (by rfl) (by decide) ?_
      refine r_goto (tgt := 81) C dX3_become_107 (by decide) ?_
      show V X 0 0 81 [_, _, _, _, some (.int (nI x + 1))] _ _
      rw [nI_1]
      refine ih (x + 1) N' _ (by omega) (by omega) hT.up2 k0 k3 k2 k16 k17 hr1 (fun p a b hp => ?_) (fun i hi => by rw [va_up_no (by omega)]; exact hr17 i hi)
      show upd (R' 2) p0 (nI x) p = _
      by_cases e : p = p0
      · subst e; rw [pk_us, hp0]
      · rw [pk_un e]
        refine hr2 p a b ?_
        have : gT c z p ≠ x := fun q => e (hP.2 p p0 a b p1 p2 (q.trans hp0.symm))
        omega
  have k52 : ∀ (f j : Nat) (N' : Nt) (R' : Rt), j + f = z → TrOK c s j (N' 0) R' → (∀ i, i ≠ 0 → N' i = N i) → N' 0 3 = nI s → N' 0 2 = nI z → N' 0 16 = 0 → N' 0 17 = 0 → (∀ i, i < z → R' 1 i = c i) → (∀ i, 17 ≤ i → R' i = R i) → V X 0 0 52 [some (.ref (A 0)), some (.int (nI s)), some (.ref ra), some (.int (nI z)), some (.int (nI j))] [] (pW G A N' R' Q ++ ((ra, .inl (G.2.2 0, 300, .inl row)) :: P)) := by
    intro f
    induction f with
    | zero =>
      intro j N' R' hj hT k0 k3 k2 k16 k17 hr1 hr17
      have hjz : j = z := by omega
      subst hjz
      refine r_iload C dX3_become_52 rfl ?_
      refine r_aload_n C dX3_become_54 rfl rfl ?_
      refine pg_X3_18 C dX3_become_55 ?_
      rw [k2]
      refine r_icmp_ge (tgt := 78) C dX3_become_58 (by decide) (fun c58 => ?_) (fun c58 => absurd c58 ((fun q => q (by rw [nI_leI (by omega) (by omega)]; omega))))
      refine r_iconst (v := 1) C dX3_become_78 (by decide) ?_
      refine r_istore C dX3_become_79 (by decide) ?_
      exact k81 s 1 N' R' (by omega) (Nat.le_refl _) hT k0 k3 k2 k16 k17 hr1 (fun p a b hp => absurd (hP.1 p a b).1 (by omega)) hr17
    | succ f ih =>
      intro j N' R' hj hT k0 k3 k2 k16 k17 hr1 hr17
      refine r_iload C dX3_become_52 rfl ?_
      refine r_aload_n C dX3_become_54 rfl rfl ?_
      refine pg_X3_18 C dX3_become_55 ?_
      rw [k2]
      refine r_icmp_ge (tgt := 78) C dX3_become_58 (by decide) (fun c58 => absurd c58 ((by rw [nI_leI (by omega) (by omega)]; omega))) (fun c58 => ?_)
      refine r_aload_n C dX3_become_61 rfl rfl ?_
      refine r_aload_n C dX3_become_62 rfl rfl ?_
      refine pg_X3_9 C dX3_become_63 ?_
      refine r_iload C dX3_become_66 rfl ?_
      refine pl_1 C dX3_become_68 (vp_in_nI (show j < 300 by omega) (by decide)) ?_
      rw [nI_clamp (by omega), hr1 j (by omega)]
      refine a_callVv C (c_cross G A _ N' R' Q (c := c) (s := s) (z := j) hT hs7 (fun q hq => hok q (by omega)) (by omega) k3) kcX3_X3_cross dX3_become_69 rfl (by decide) (by decide) (by decide) (Nat.le_of_ble_eq_true rfl) 0 rfl (ci := 3) rfl rfl rfl (fun u hu => ?_)
      obtain ⟨hT', hk0, hkj, hkr⟩ := hu
      refine r_iinc (v := _ + 1) C dX3_become_72 rfl (by rfl) (by decide) ?_
      refine r_goto (tgt := 52) C dX3_become_75 (by decide) ?_
      show V X 0 0 52 [_, _, _, _, some (.int (nI j + 1))] _ _
      rw [nI_1]
      exact ih (j + 1) u.1 u.2 (by omega) hT' (fun i hi => (hk0 i hi).trans (k0 i hi)) ((hkj 3 (by decide) (by decide)).trans k3) ((hkj 2 (by decide) (by decide)).trans k2) ((hkj 16 (by decide) (by decide)).trans k16) ((hkj 17 (by decide) (by decide)).trans k17) (fun i hi => by rw [hkr 1 (by omega)]; exact hr1 i hi) (fun i hi => (hkr i (by omega)).trans (hr17 i hi))
  refine r_aload_n C dX3_become_0 rfl rfl ?_
  refine r_iload_n C dX3_become_1 rfl rfl ?_
  refine pp_X3_22 C dX3_become_2 ?_
  refine r_aload_n C dX3_become_5 rfl rfl ?_
  refine r_iload_n C dX3_become_6 rfl rfl ?_
  refine r_aload_n C dX3_become_7 rfl rfl ?_
  refine r_alen (t0 := 0) C 21 (fun _ => rfl) rfl dX3_become_8 ?_
  refine r_sipush (v := 300) C dX3_become_9 (by decide) ?_
  refine r_mmin C km_X3_76 (by decide) (by decide) (by decide) (Nat.le_of_ble_eq_true rfl) dX3_become_12 ?_
  rw [show (if (300 : Int32) < nI 300 then (300 : Int32) else nI 300) = nI 300 by decide +kernel]
  refine r_mmin C km_X3_76 (by decide) (by decide) (by decide) (Nat.le_of_ble_eq_true rfl) dX3_become_15 ?_
  rw [if_neg (nI_nlt (show z ≤ 300 from hz) (by decide))]
  refine pp_X3_18 C dX3_become_18 ?_
  refine r_aload_n C dX3_become_21 rfl rfl ?_
  refine r_iconst (v := 0) C dX3_become_22 (by decide) ?_
  refine r_aload_n C dX3_become_23 rfl rfl ?_
  refine pg_X3_9 C dX3_become_24 ?_
  refine r_iconst (v := 0) C dX3_become_27 (by decide) ?_
  refine r_aload_n C dX3_become_28 rfl rfl ?_
  refine pg_X3_18 C dX3_become_29 ?_
  show V X 0 0 32 _ [.int (nI z), .int (nI 0), .ref (A 1), .int (nI 0), .ref ra] _
  refine r_copyi (n0 := 300) (n1 := 300) (sp := 0) (dp := 0) (nn := z) (f := row) (g := R 1) (ws' := pW G A (va_up (va_up N 0 (va_up (N 0) 3 (nI s))) 0 (va_up (va_up N 0 (va_up (N 0) 3 (nI s)) 0) 2 (nI z))) (va_up R 1 (va_cpy row (R 1) 0 0 z)) Q ++ ((ra, .inl (G.2.2 0, 300, .inl row)) :: P)) C 21 1 ka_X3_82 rfl rfl (by omega) (by omega) (by decide) (by decide) (by decide) (Nat.le_of_ble_eq_true rfl) rfl dX3_become_32 ?_
  refine r_aload_n C dX3_become_35 rfl rfl ?_
  refine r_iconst (v := 0) C dX3_become_36 (by decide) ?_
  refine pp_X3_70 C (Or.inl rfl) dX3_become_37 ?_
  refine r_aload_n C dX3_become_40 rfl rfl ?_
  refine r_iconst (v := 0) C dX3_become_41 (by decide) ?_
  refine pp_X3_73 C dX3_become_42 ?_
  refine r_aload_n C dX3_become_45 rfl rfl ?_
  refine a_callVv C (c_clearTraces G A _ _ _ Q) kcX3_X3_clearTraces dX3_become_46 rfl (by decide) (by decide) (by decide) (Nat.le_of_ble_eq_true rfl) 0 rfl (ci := 3) rfl rfl rfl (fun R' hc => ?_)
  refine r_iconst (v := 0) C dX3_become_49 (by decide) ?_
  refine r_istore C dX3_become_50 (by decide) ?_
  refine k52 z 0 _ R' (by omega) ⟨fun p a b => ?_, fun i hi => ?_, rfl, fun p a b => ?_, fun p a b => ⟨?_, ?_⟩, Or.inl ⟨rfl, fun _ _ _ => trivial⟩, fun a b a1 a2 b1 b2 _ => ?_⟩ (fun i hi => ?_) rfl rfl rfl rfl (fun i hi => ?_) (fun i hi => ?_)
  · exact (hc.1 p (by omega)).1
  · exact (hc.1 i (by omega)).2.1
  · exact (hc.1 p (by omega)).2.2.1
  · exact (hc.1 p (by omega)).2.2.2.1
  · exact (hc.1 p (by omega)).2.2.2.2.1
  · exact (hc.1 a (by omega)).2.2.2.2.2 b (by omega)
  · simp only [up_up, va_up_no hi]
  · rw [hc.2 1 (by omega) (by omega)]
    show va_cpy row (R 1) 0 0 z i = c i
    unfold va_cpy
    rw [if_pos (by omega), Nat.zero_add, Nat.sub_zero]
    exact hrow i hi
  · rw [hc.2 i (by omega) (by omega), va_up_no (by omega)]
theorem c_hasPlace {s : Nat} (x : Int32) (h3 : N 0 3 = nI s) (hs7 : s ≤ 7) : CI G yX3_hasPlace cX3_hasPlace 2 .boolean 0 0 0 [.ref (A 0), .int x] (pW G A N R Q ++ P) (S := Unit) (fun r _ => (∃ p, 1 ≤ p ∧ p ≤ s ∧ x = nI p ∧ r = 1) ∨ ((∀ p, 1 ≤ p → p ≤ s → x ≠ nI p) ∧ r = 0)) (fun _ => pW G A N R Q ++ P) := by
  refine CI.intro (by decide) (Nat.le_of_ble_eq_true rfl) (cat1 (xs := [x])) fun X C hR => ?_
  refine r_iload_n C dX3_hasPlace_0 rfl rfl ?_
  refine r_iconst (v := 1) C dX3_hasPlace_1 (by decide) ?_
  refine r_icmp_lt (tgt := 17) C dX3_hasPlace_2 (by decide) (fun c2 => ?_) (fun c2 => ?_)
  · refine r_iconst (v := 0) C dX3_hasPlace_17 (by decide) ?_
    exact hR _ _ _ _ _ () (by decide) (by decide) rfl (by
          first
          | (refine Or.inr ⟨fun p a b e => ?_, rfl⟩; rw [e, show (1 : Int32) = nI 1 from rfl, nI_ltI (by omega) (by decide)] at c2; omega)
          | (refine Or.inr ⟨fun p a b e => ?_, rfl⟩; rw [e, nI_ltI (by omega) (by omega)] at c10; omega)
          | (obtain ⟨p, hp, e⟩ := nI_of (x := x) (fun q => c2 (Int32.lt_trans q (by decide))); rw [e, show (1 : Int32) = nI 1 from rfl, nI_ltI (by omega) (by decide)] at c2; rw [e, nI_ltI (by omega) (by omega)] at c10; exact Or.inl ⟨p, by omega, by omega, e, rfl⟩)) dX3_hasPlace_18
  · refine r_iload_n C dX3_hasPlace_5 rfl rfl ?_
    refine r_aload_n C dX3_hasPlace_6 rfl rfl ?_
    refine pg_X3_22 C dX3_hasPlace_7 ?_
    rw [h3]
    refine r_icmp_gt (tgt := 17) C dX3_hasPlace_10 (by decide) (fun c10 => ?_) (fun c10 => ?_)
    · refine r_iconst (v := 0) C dX3_hasPlace_17 (by decide) ?_
      exact hR _ _ _ _ _ () (by decide) (by decide) rfl (by
            first
            | (refine Or.inr ⟨fun p a b e => ?_, rfl⟩; rw [e, show (1 : Int32) = nI 1 from rfl, nI_ltI (by omega) (by decide)] at c2; omega)
            | (refine Or.inr ⟨fun p a b e => ?_, rfl⟩; rw [e, nI_ltI (by omega) (by omega)] at c10; omega)
            | (obtain ⟨p, hp, e⟩ := nI_of (x := x) (fun q => c2 (Int32.lt_trans q (by decide))); rw [e, show (1 : Int32) = nI 1 from rfl, nI_ltI (by omega) (by decide)] at c2; rw [e, nI_ltI (by omega) (by omega)] at c10; exact Or.inl ⟨p, by omega, by omega, e, rfl⟩)) dX3_hasPlace_18
    · refine r_iconst (v := 1) C dX3_hasPlace_13 (by decide) ?_
      refine r_goto (tgt := 18) C dX3_hasPlace_14 (by decide) ?_
      exact hR _ _ _ _ _ () (by decide) (by decide) rfl (by
            first
            | (refine Or.inr ⟨fun p a b e => ?_, rfl⟩; rw [e, show (1 : Int32) = nI 1 from rfl, nI_ltI (by omega) (by decide)] at c2; omega)
            | (refine Or.inr ⟨fun p a b e => ?_, rfl⟩; rw [e, nI_ltI (by omega) (by omega)] at c10; omega)
            | (obtain ⟨p, hp, e⟩ := nI_of (x := x) (fun q => c2 (Int32.lt_trans q (by decide))); rw [e, show (1 : Int32) = nI 1 from rfl, nI_ltI (by omega) (by decide)] at c2; rw [e, nI_ltI (by omega) (by omega)] at c10; exact Or.inl ⟨p, by omega, by omega, e, rfl⟩)) dX3_hasPlace_18
theorem c_useFrom {c : Nat → Int32} {s z p : Nat} (hK : PtK c s z (N 0) R) (h1 : 1 ≤ p) (h2 : p ≤ s) : CI G yX3_useFrom cX3_useFrom 2 .int 0 0 0 [.ref (A 0), .int (nI p)] (pW G A N R Q ++ P) (S := Unit) (fun r _ => r = nI (uOf c z p)) (fun _ => pW G A N R Q ++ P) := by
  obtain ⟨⟨k3, s2, s7⟩, -, -, -, -, k4, -, -, -, k5, -⟩ := id hK
  refine CI.intro (by decide) (Nat.le_of_ble_eq_true rfl) (cat1 (xs := [nI p])) fun X C hR => ?_
  refine r_iconst (v := 2) C dX3_useFrom_0 (by decide) ?_
  refine r_aload_n C dX3_useFrom_1 rfl rfl ?_
  refine pg_X3_25 C dX3_useFrom_2 ?_
  rw [k4]
  refine r_imul C dX3_useFrom_5 ?_
  refine r_aload_n C dX3_useFrom_6 rfl rfl ?_
  refine pg_X3_44 C dX3_useFrom_7 ?_
  refine r_iload_n C dX3_useFrom_10 rfl rfl ?_
  refine pl_5 C dX3_useFrom_11 (vp_in_nI (show p < 8 by omega) (by decide)) ?_
  rw [nI_clamp (by omega), k5 p h1 h2]
  refine r_iadd C dX3_useFrom_12 ?_
  exact hR _ _ _ _ _ () (by decide) (by decide) rfl (by rw [show (2 : Int32) = nI 2 from rfl, pk_mul, nI_add]; rfl) dX3_useFrom_13
theorem c_strawsNeeded {c : Nat → Int32} {s z T : Nat} (hK : PtK c s z (N 0) R) (hT : T ≤ 200) : CI G yX3_strawsNeeded cX3_strawsNeeded 7 .int 1 0 0 [.ref (A 0), .int (nI T)] (pW G A N R Q ++ P) (S := Unit) (fun r _ => r = nI (needN (uOf c z) (gT c z) T s)) (fun _ => pW G A N R Q ++ P) := by
  obtain ⟨⟨k3, s2, s7⟩, ⟨-, z3⟩, hok, -, k2, k4, -, -, -, k5, -⟩ := id hK
  have hP : PermOn (gT c z) s := gT_perm s7 hok
  refine CI.intro (by decide) (Nat.le_of_ble_eq_true rfl) (cat1 (xs := [nI T])) fun X C hR => ?_
  have key : ∀ (f p : Nat) (o4 o5 o6 : Option Value), p + f = s → V X 0 0 4 [some (.ref (A 0)), some (.int (nI T)), some (.int (nI (needN (uOf c z) (gT c z) T p))), some (.int (nI (p + 1))), o4, o5, o6] [] (pW G A N R Q ++ P) := by
    intro f
    induction f with
    | zero =>
      intro p o4 o5 o6 hp
      have hps : p = s := by omega
      subst hps
      refine r_iload_n C dX3_strawsNeeded_4 rfl rfl ?_
      refine r_aload_n C dX3_strawsNeeded_5 rfl rfl ?_
      refine pg_X3_22 C dX3_strawsNeeded_6 ?_
      rw [k3]
      refine r_icmp_gt (tgt := 72) C dX3_strawsNeeded_9 (by decide) (fun c9 => ?_) (fun c9 => absurd c9 ((fun q => q (nI_lt (by omega) (by omega)))))
      refine r_iload_n C dX3_strawsNeeded_72 rfl rfl ?_
      exact hR _ _ _ _ _ () (by decide) (by decide) rfl rfl dX3_strawsNeeded_73
    | succ f ih =>
      intro p o4 o5 o6 hp
      have hu := usT_le (u := uOf c z) (g := gT c z) (p := p + 1) (B := 900) (fun q => uOf_le z3)
      have inner : ∀ (g t : Nat), t + g = T → V X 0 0 21 [some (.ref (A 0)), some (.int (nI T)), some (.int (nI (needN (uOf c z) (gT c z) T p))), some (.int (nI (p + 1))), some (.int (nI (usT (uOf c z) (gT c z) (p + 1) t))), some (.int (nI (itr (gT c z) t (p + 1)))), some (.int (nI t))] [] (pW G A N R Q ++ P) := by
        intro g
        induction g with
        | zero =>
          intro t ht
          have htT : t = T := by omega
          subst htT
          have hut := hu t
          have e : nI (usT (uOf c z) (gT c z) (p + 1) t) + 100 - 1 = nI (usT (uOf c z) (gT c z) (p + 1) t + 99) := by
            rw [show (100 : Int32) = nI 100 from rfl, nI_add, show usT (uOf c z) (gT c z) (p + 1) t + 100 = (usT (uOf c z) (gT c z) (p + 1) t + 99) + 1 from rfl, nI_pred]
          have hb : usT (uOf c z) (gT c z) (p + 1) t + 99 < 2 ^ 31 := by
            have : t * 900 ≤ 200 * 900 := Nat.mul_le_mul_right _ hT
            omega
          refine r_iload C dX3_strawsNeeded_21 rfl ?_
          refine r_iload_n C dX3_strawsNeeded_23 rfl rfl ?_
          refine r_icmp_ge (tgt := 53) C dX3_strawsNeeded_24 (by decide) (fun c24 => ?_) (fun c24 => absurd c24 ((fun q => q (by rw [nI_leI (by omega) (by omega)]; omega))))
          refine r_iload_n C dX3_strawsNeeded_53 rfl rfl ?_
          refine r_iload C dX3_strawsNeeded_54 rfl ?_
          refine r_bipush (v := 100) C dX3_strawsNeeded_56 (by decide) ?_
          refine r_iadd C dX3_strawsNeeded_58 ?_
          refine r_iconst (v := 1) C dX3_strawsNeeded_59 (by decide) ?_
          refine r_isub C dX3_strawsNeeded_60 ?_
          rw [e]
          refine r_bipush (v := 100) C dX3_strawsNeeded_61 (by decide) ?_
          refine r_idiv C dX3_strawsNeeded_63 (by decide) ?_
          rw [show (100 : Int32) = nI 100 from rfl, pk_div hb (by decide) (by decide)]
          refine r_iadd C dX3_strawsNeeded_64 ?_
          refine r_istore_n C dX3_strawsNeeded_65 rfl (by decide) ?_
          refine r_iinc (v := _ + 1) C dX3_strawsNeeded_66 rfl (by rfl) (by decide) ?_
          refine r_goto (tgt := 4) C dX3_strawsNeeded_69 (by decide) ?_
          show V X 0 0 4 [_, _, some (.int (nI (needN (uOf c z) (gT c z) t p) + nI ((usT (uOf c z) (gT c z) (p + 1) t + 99) / 100))), some (.int (nI (p + 1) + 1)), _, _, _] _ _
          rw [nI_1, nI_add]
          exact ih (p + 1) _ _ _ (by omega)
        | succ g ih2 =>
          intro t ht
          have hin := itr_in hP (show 1 ≤ p + 1 by omega) (show p + 1 ≤ s by omega) t
          refine r_iload C dX3_strawsNeeded_21 rfl ?_
          refine r_iload_n C dX3_strawsNeeded_23 rfl rfl ?_
          refine r_icmp_ge (tgt := 53) C dX3_strawsNeeded_24 (by decide) (fun c24 => absurd c24 ((by rw [nI_leI (by omega) (by omega)]; omega))) (fun c24 => ?_)
          refine r_iload C dX3_strawsNeeded_27 rfl ?_
          refine r_aload_n C dX3_strawsNeeded_29 rfl rfl ?_
          refine r_iload C dX3_strawsNeeded_30 rfl ?_
          refine a_callVi C (c_useFrom G A P N R Q hK hin.1 hin.2) kcX3_X3_useFrom dX3_strawsNeeded_32 rfl (by decide) (by decide) (by decide) (Nat.le_of_ble_eq_true rfl) 0 rfl (ci := 3) rfl rfl rfl (fun r u hr => ?_)
          subst hr
          refine r_iadd C dX3_strawsNeeded_35 ?_
          refine r_istore C dX3_strawsNeeded_36 (by decide) ?_
          refine r_aload_n C dX3_strawsNeeded_38 rfl rfl ?_
          refine pg_X3_15 C dX3_strawsNeeded_39 ?_
          refine r_iload C dX3_strawsNeeded_42 rfl ?_
          refine pl_2 C dX3_strawsNeeded_44 (vp_in_nI (show itr (gT c z) t (p + 1) < 8 by omega) (by decide)) ?_
          rw [nI_clamp (by omega), k2 _ hin.1 hin.2]
          refine r_istore C dX3_strawsNeeded_45 (by decide) ?_
          refine r_iinc (v := _ + 1) C dX3_strawsNeeded_47 rfl (by rfl) (by decide) ?_
          refine r_goto (tgt := 21) C dX3_strawsNeeded_50 (by decide) ?_
          show V X 0 0 21 [_, _, _, _, some (.int (nI (usT (uOf c z) (gT c z) (p + 1) t) + nI (uOf c z (itr (gT c z) t (p + 1))))), _, some (.int (nI t + 1))] _ _
          rw [nI_1, nI_add]
          exact ih2 (t + 1) (by omega)
      refine r_iload_n C dX3_strawsNeeded_4 rfl rfl ?_
      refine r_aload_n C dX3_strawsNeeded_5 rfl rfl ?_
      refine pg_X3_22 C dX3_strawsNeeded_6 ?_
      rw [k3]
      refine r_icmp_gt (tgt := 72) C dX3_strawsNeeded_9 (by decide) (fun c9 => absurd c9 ((by rw [nI_ltI (by omega) (by omega)]; omega))) (fun c9 => ?_)
      refine r_iconst (v := 0) C dX3_strawsNeeded_12 (by decide) ?_
      refine r_istore C dX3_strawsNeeded_13 (by decide) ?_
      refine r_iload_n C dX3_strawsNeeded_15 rfl rfl ?_
      refine r_istore C dX3_strawsNeeded_16 (by decide) ?_
      refine r_iconst (v := 0) C dX3_strawsNeeded_18 (by decide) ?_
      refine r_istore C dX3_strawsNeeded_19 (by decide) ?_
      exact inner T 0 (by omega)
  refine r_iconst (v := 0) C dX3_strawsNeeded_0 (by decide) ?_
  refine r_istore_n C dX3_strawsNeeded_1 rfl (by decide) ?_
  refine r_iconst (v := 1) C dX3_strawsNeeded_2 (by decide) ?_
  refine r_istore_n C dX3_strawsNeeded_3 rfl (by decide) ?_
  exact key s 0 none none none (by omega)
theorem c_twineOf {c : Nat → Int32} {s z a b : Nat} (hK : PtK c s z (N 0) R) (a1 : 1 ≤ a) (a2 : a ≤ s) (b1 : 1 ≤ b) (b2 : b ≤ s) (hab : a ≠ b) : CI G yX3_twineOf cX3_twineOf 7 .int 0 0 0 [.ref (A 0), .int (nI a), .int (nI b)] (pW G A N R Q ++ P) (S := Unit) (fun r _ => twAns c z s a b r) (fun _ => pW G A N R Q ++ P) := by
  obtain ⟨⟨k3, s2, s7⟩, ⟨-, z3⟩, hok, -, k2, k4, ⟨h, hh, h4, k5⟩, -, -, -, k9⟩ := id hK
  have hP : PermOn (gT c z) s := gT_perm s7 hok
  refine CI.intro (by decide) (Nat.le_of_ble_eq_true rfl) (cat1 (xs := [nI a, nI b])) fun X C hR => ?_
  have key : ∀ (f t : Nat), t + f = h → V X 0 0 11 [some (.ref (A 0)), some (.int (nI a)), some (.int (nI b)), some (.int (twt c z a b t).2.2), some (.int (nI (itr (gT c z) t a))), some (.int (nI (itr (gT c z) t b))), some (.int (nI t))] [] (pW G A N R Q ++ P) := by
    intro f
    induction f with
    | zero =>
      intro t ht
      have hth : t = h := by omega
      subst hth
      refine r_iload C dX3_twineOf_11 rfl ?_
      refine r_aload_n C dX3_twineOf_13 rfl rfl ?_
      refine pg_X3_28 C dX3_twineOf_14 ?_
      rw [k5]
      refine r_icmp_ge (tgt := 57) C dX3_twineOf_17 (by decide) (fun c17 => ?_) (fun c17 => absurd c17 ((fun q => q (by rw [nI_leI (by omega) (by omega)]; omega))))
      refine r_iload_n C dX3_twineOf_57 rfl rfl ?_
      exact hR _ _ _ _ _ () (by decide) (by decide) rfl ⟨t, hh, h4, rfl⟩ dX3_twineOf_58
    | succ f ih =>
      intro t ht
      have ia := itr_in hP a1 a2 t
      have ib := itr_in hP b1 b2 t
      have hne : itr (gT c z) t a ≠ itr (gT c z) t b := fun q => hab (itr_cancel hP a1 a2 b1 b2 t q)
      have ba : vp_in (nI (itr (gT c z) t a)) 8 := vp_in_nI (by omega) (by decide)
      have bb : vp_in (nI (itr (gT c z) t b)) 8 := vp_in_nI (by omega) (by decide)
      refine r_iload C dX3_twineOf_11 rfl ?_
      refine r_aload_n C dX3_twineOf_13 rfl rfl ?_
      refine pg_X3_28 C dX3_twineOf_14 ?_
      rw [k5]
      refine r_icmp_ge (tgt := 57) C dX3_twineOf_17 (by decide) (fun c17 => absurd c17 ((by rw [nI_leI (by omega) (by omega)]; omega))) (fun c17 => ?_)
      refine r_iload_n C dX3_twineOf_20 rfl rfl ?_
      refine r_aload_n C dX3_twineOf_21 rfl rfl ?_
      refine pg_X3_55 C dX3_twineOf_22 ?_
      refine r_iload C dX3_twineOf_25 rfl ?_
      refine p_twl C (show itr (gT c z) t a < 8 by omega) dX3_twineOf_27 ?_
      refine r_iload C dX3_twineOf_28 rfl ?_
      refine p_twld C (show itr (gT c z) t a < 8 by omega) dX3_twineOf_30 bb ?_
      rw [nI_clamp (by omega), k9 _ _ ia.1 ia.2 ib.1 ib.2 hne]
      refine r_iadd C dX3_twineOf_31 ?_
      refine r_istore_n C dX3_twineOf_32 rfl (by decide) ?_
      refine r_aload_n C dX3_twineOf_33 rfl rfl ?_
      refine pg_X3_15 C dX3_twineOf_34 ?_
      refine r_iload C dX3_twineOf_37 rfl ?_
      refine pl_2 C dX3_twineOf_39 (ba) ?_
      rw [nI_clamp (by omega), k2 _ ia.1 ia.2]
      refine r_istore C dX3_twineOf_40 (by decide) ?_
      refine r_aload_n C dX3_twineOf_42 rfl rfl ?_
      refine pg_X3_15 C dX3_twineOf_43 ?_
      refine r_iload C dX3_twineOf_46 rfl ?_
      refine pl_2 C dX3_twineOf_48 (bb) ?_
      rw [nI_clamp (by omega), k2 _ ib.1 ib.2]
      refine r_istore C dX3_twineOf_49 (by decide) ?_
      refine r_iinc (v := _ + 1) C dX3_twineOf_51 rfl (by rfl) (by decide) ?_
      refine r_goto (tgt := 11) C dX3_twineOf_54 (by decide) ?_
      show V X 0 0 11 [_, _, _, some (.int ((twt c z a b t).2.2 + tw1 c z (itr (gT c z) t a) (itr (gT c z) t b))), _, _, some (.int (nI t + 1))] _ _
      rw [nI_1, ← (twt_real t).2.2]
      exact ih (t + 1) (by omega)
  refine r_iconst (v := 0) C dX3_twineOf_0 (by decide) ?_
  refine r_istore_n C dX3_twineOf_1 rfl (by decide) ?_
  refine r_iload_n C dX3_twineOf_2 rfl rfl ?_
  refine r_istore C dX3_twineOf_3 (by decide) ?_
  refine r_iload_n C dX3_twineOf_5 rfl rfl ?_
  refine r_istore C dX3_twineOf_6 (by decide) ?_
  refine r_iconst (v := 0) C dX3_twineOf_8 (by decide) ?_
  refine r_istore C dX3_twineOf_9 (by decide) ?_
  exact key h 0 (by omega)
end PB2
