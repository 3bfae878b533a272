/-! the class: a pattern of no crossings becomes; pattern on a fresh bench -/
section C5
variable (G : Gx) (A : Nat → Nat) (P : va_W) (N : Nt) (R : Rt) (Q : Qt)
/-- leastCommonMultiple ends (what it answers stands elsewhere) -/
theorem s_lcm (a : Int32) {b : Nat} (hb : 1 ≤ b) (hb7 : b ≤ 7) : CI G yX3_leastCommonMultiple cX3_leastCommonMultiple 3 .int 0 0 0 [.int a, .int (nI b)] [] (S := Unit) (fun _ _ => True) (fun _ => []) := by
  refine CI.intro (by decide) (Nat.le_of_ble_eq_true rfl) (cat0 (xs := [a, nI b])) fun X C hR => ?_
  have hne : ¬ nI b = 0 := nI_ne0 (by omega) (by omega)
  have key : ∀ (f t : Nat), t + f = b → 1 ≤ t → V X 0 0 2 [some (.int a), some (.int (nI b)), some (.int (nI t))] [] [] := by
    intro f
    induction f with
    | zero =>
      intro t ht h1
      have htb : t = b := by omega
      subst htb
      refine r_iload_n C dX3_leastCommonMultiple_2 rfl rfl ?_
      refine r_iload_n C dX3_leastCommonMultiple_3 rfl rfl ?_
      refine r_icmp_ge (tgt := 25) C dX3_leastCommonMultiple_4 (by decide) (fun c4 => ?_) (fun c4 => absurd c4 ((fun q => q (nI_le (Nat.le_refl _) (by omega)))))
      refine r_iload_n C dX3_leastCommonMultiple_25 rfl rfl ?_
      refine r_iload_n C dX3_leastCommonMultiple_26 rfl rfl ?_
      refine r_imul C dX3_leastCommonMultiple_27 ?_
      exact hR _ _ _ _ _ () (by decide) (by decide) rfl trivial dX3_leastCommonMultiple_28
    | succ f ih =>
      intro t ht h1
      refine r_iload_n C dX3_leastCommonMultiple_2 rfl rfl ?_
      refine r_iload_n C dX3_leastCommonMultiple_3 rfl rfl ?_
      refine r_icmp_ge (tgt := 25) C dX3_leastCommonMultiple_4 (by decide) (fun c4 => absurd c4 ((by rw [nI_leI (by omega) (by omega)]; omega))) (fun c4 => ?_)
      refine r_iload_n C dX3_leastCommonMultiple_7 rfl rfl ?_
      refine r_iload_n C dX3_leastCommonMultiple_8 rfl rfl ?_
      refine r_imul C dX3_leastCommonMultiple_9 ?_
      refine r_iload_n C dX3_leastCommonMultiple_10 rfl rfl ?_
      refine r_irem C dX3_leastCommonMultiple_11 (hne) ?_
      refine r_if_ne (tgt := 19) C dX3_leastCommonMultiple_12 (by decide) (fun c12 => ?_) (fun c12 => ?_)
      · refine r_iinc (v := _ + 1) C dX3_leastCommonMultiple_19 rfl (by rfl) (by decide) ?_
        refine r_goto (tgt := 2) C dX3_leastCommonMultiple_22 (by decide) ?_
        show V X 0 0 2 [some (.int a), some (.int (nI b)), some (.int (nI t + 1))] [] []
        rw [nI_1]
        exact ih (t + 1) (by omega) (by omega)
      · refine r_iload_n C dX3_leastCommonMultiple_15 rfl rfl ?_
        refine r_iload_n C dX3_leastCommonMultiple_16 rfl rfl ?_
        refine r_imul C dX3_leastCommonMultiple_17 ?_
        exact hR _ _ _ _ _ () (by decide) (by decide) rfl trivial dX3_leastCommonMultiple_18
  refine r_iconst (v := 1) C dX3_leastCommonMultiple_0 (by decide) ?_
  refine r_istore_n C dX3_leastCommonMultiple_1 rfl (by decide) ?_
  exact key (b - 1) 1 (by omega) (by omega)
/-- two states of a Pattern's numbers alike but for home and rings -/
def hrN (N N' : Nt) : Prop := (∀ c, c ≠ 0 → N' c = N c) ∧ ∀ j, j ≠ 5 → j ≠ 6 → N' 0 j = N 0 j
theorem s_walkRings {s : Nat} (hs : N 0 3 = nI s) (hs7 : s ≤ 7) (he : ∀ i, i < 8 → ∃ e, e < 8 ∧ R 2 i = nI e) : CV G yX3_walkRings cX3_walkRings 5 1 0 0 [.ref (A 0)] (pW G A N R Q ++ P) (S := Nt) (fun N' => hrN N N') (fun N' => pW G A N' R Q ++ P) := by
  refine CV.intro (by decide) (Nat.le_of_ble_eq_true rfl) (cat1 (xs := [])) fun X C hR => ?_
  have key : ∀ (f p : Nat) (N' : Nt) (w : Int32) (L3 L4 : Option Value), p + f = s + 1 → 1 ≤ p → hrN N N' → V X 0 0 14 [some (.ref (A 0)), some (.int w), some (.int (nI p)), L3, L4] [] (pW G A N' R Q ++ P) := by
    intro f
    induction f with
    | zero =>
      intro p N' w L3 L4 hp h1 hN
      have hps : p = s + 1 := by omega
      subst hps
      have hs' : N' 0 3 = nI s := (hN.2 3 (by decide) (by decide)).trans hs
      refine r_iload_n C dX3_walkRings_14 rfl rfl ?_
      refine r_aload_n C dX3_walkRings_15 rfl rfl ?_
      refine pg_X3_22 C dX3_walkRings_16 ?_
      rw [hs']
      refine r_icmp_gt (tgt := 98) C dX3_walkRings_19 (by decide) (fun c19 => ?_) (fun c19 => absurd c19 ((fun q => q (nI_lt (by omega) (by omega)))))
      exact hR _ _ _ _ N' (by decide) (by decide) hN dX3_walkRings_98
    | succ f ih =>
      intro p N' w L3 L4 hp h1 hN
      have hs' : N' 0 3 = nI s := (hN.2 3 (by decide) (by decide)).trans hs
      have j92 : ∀ (N2 : Nt) (w : Int32) (L3 L4 : Option Value), hrN N N2 → V X 0 0 92 [some (.ref (A 0)), some (.int w), some (.int (nI p)), L3, L4] [] (pW G A N2 R Q ++ P) := by
        intro N2 w L3 L4 hN2
        refine r_iinc (v := _ + 1) C dX3_walkRings_92 rfl (by rfl) (by decide) ?_
        refine r_goto (tgt := 14) C dX3_walkRings_95 (by decide) ?_
        show V X 0 0 14 [some (.ref (A 0)), some (.int w), some (.int (nI p + 1)), L3, L4] _ _
        rw [nI_1]
        exact ih (p + 1) N2 w L3 L4 (by omega) (by omega) hN2
      have j66 : ∀ (t : Nat) (w : Int32) (L4 : Option Value), t ≤ 7 → V X 0 0 66 [some (.ref (A 0)), some (.int w), some (.int (nI p)), some (.int (nI t)), L4] [] (pW G A N' R Q ++ P) := by
        intro t w L4 ht
        by_cases ht0 : t = 0
        · subst ht0
          refine r_iload_n C dX3_walkRings_66 rfl rfl ?_
          refine r_if_le (tgt := 92) C dX3_walkRings_67 (by decide) (fun c67 => ?_) (fun c67 => absurd c67 ((fun q => absurd (show nI 0 ≤ 0 by decide) q)))
          exact j92 _ _ _ _ hN
        · refine r_iload_n C dX3_walkRings_66 rfl rfl ?_
          refine r_if_le (tgt := 92) C dX3_walkRings_67 (by decide) (fun c67 => absurd c67 ((nI_nle (by omega) (by omega)))) (fun c67 => ?_)
          refine r_aload_n C dX3_walkRings_70 rfl rfl ?_
          refine r_dup C dX3_walkRings_71 rfl ?_
          refine pg_X3_31 C dX3_walkRings_72 ?_
          refine r_iconst (v := 1) C dX3_walkRings_75 (by decide) ?_
          refine r_iadd C dX3_walkRings_76 ?_
          refine pp_X3_31 C dX3_walkRings_77 ?_
          refine r_aload_n C dX3_walkRings_80 rfl rfl ?_
          refine r_aload_n C dX3_walkRings_81 rfl rfl ?_
          refine pg_X3_28 C dX3_walkRings_82 ?_
          refine r_iload_n C dX3_walkRings_85 rfl rfl ?_
          refine a_callS0 C (s_lcm G _ (b := t) (by omega) (by omega)) kcX3_X3_leastCommonMultiple dX3_walkRings_86 rfl (by decide) (by decide) (by decide) (Nat.le_of_ble_eq_true rfl) rfl (fun a u hu => ?_)
          refine pp_X3_28 C dX3_walkRings_89 ?_
          refine j92 _ _ _ _ ⟨fun c hc => ?_, fun j h5 h6 => ?_⟩
          · rw [va_up_no hc, va_up_no hc]; exact hN.1 c hc
          · rw [va_up_at, va_up_no h5, va_up_at, va_up_no h6]; exact hN.2 j h5 h6
      have j27 : ∀ (g t q : Nat) (w : Int32), t + g = s → q < 8 → V X 0 0 27 [some (.ref (A 0)), some (.int w), some (.int (nI p)), some (.int (nI t)), some (.int (nI q))] [] (pW G A N' R Q ++ P) := by
        intro g
        induction g with
        | zero =>
          intro t q w ht hq
          refine r_iload_n C dX3_walkRings_27 rfl rfl ?_
          refine r_aload_n C dX3_walkRings_28 rfl rfl ?_
          refine pg_X3_22 C dX3_walkRings_29 ?_
          rw [hs']
          refine r_icmp_ge (tgt := 66) C dX3_walkRings_32 (by decide) (fun c32 => ?_) (fun c32 => absurd c32 ((fun z => z (nI_le (by omega) (by omega)))))
          exact j66 t w _ (by omega)
        | succ g ih2 =>
          intro t q w ht hq
          obtain ⟨e, he8, hee⟩ := he q hq
          refine r_iload_n C dX3_walkRings_27 rfl rfl ?_
          refine r_aload_n C dX3_walkRings_28 rfl rfl ?_
          refine pg_X3_22 C dX3_walkRings_29 ?_
          rw [hs']
          refine r_icmp_ge (tgt := 66) C dX3_walkRings_32 (by decide) (fun c32 => absurd c32 ((by rw [nI_leI (by omega) (by omega)]; omega))) (fun c32 => ?_)
          refine r_iload_n C dX3_walkRings_35 rfl rfl ?_
          refine r_iload C dX3_walkRings_36 rfl ?_
          refine r_ishr C dX3_walkRings_38 ?_
          refine r_iconst (v := 1) C dX3_walkRings_39 (by decide) ?_
          refine r_iand C dX3_walkRings_40 ?_
          refine r_if_ne (tgt := 66) C dX3_walkRings_41 (by decide) (fun c41 => ?_) (fun c41 => ?_)
          · exact j66 t w _ (by omega)
          · refine r_iload_n C dX3_walkRings_44 rfl rfl ?_
            refine r_iconst (v := 1) C dX3_walkRings_45 (by decide) ?_
            refine r_iload C dX3_walkRings_46 rfl ?_
            refine r_ishl C dX3_walkRings_48 ?_
            refine r_ior C dX3_walkRings_49 ?_
            refine r_istore_n C dX3_walkRings_50 rfl (by decide) ?_
            refine r_aload_n C dX3_walkRings_51 rfl rfl ?_
            refine pg_X3_15 C dX3_walkRings_52 ?_
            refine r_iload C dX3_walkRings_55 rfl ?_
            refine pl_2 C dX3_walkRings_57 (vp_in_nI hq (by decide)) ?_
            rw [nI_clamp (by omega), hee]
            refine r_istore C dX3_walkRings_58 (by decide) ?_
            refine r_iinc (v := _ + 1) C dX3_walkRings_60 rfl (by rfl) (by decide) ?_
            refine r_goto (tgt := 27) C dX3_walkRings_63 (by decide) ?_
            show V X 0 0 27 [some (.ref (A 0)), _, some (.int (nI p)), some (.int (nI t + 1)), some (.int (nI e))] _ _
            rw [nI_1]
            exact ih2 (t + 1) e _ (by omega) he8
      refine r_iload_n C dX3_walkRings_14 rfl rfl ?_
      refine r_aload_n C dX3_walkRings_15 rfl rfl ?_
      refine pg_X3_22 C dX3_walkRings_16 ?_
      rw [hs']
      refine r_icmp_gt (tgt := 98) C dX3_walkRings_19 (by decide) (fun c19 => absurd c19 ((by rw [nI_ltI (by omega) (by omega)]; omega))) (fun c19 => ?_)
      refine r_iconst (v := 0) C dX3_walkRings_22 (by decide) ?_
      refine r_istore_n C dX3_walkRings_23 rfl (by decide) ?_
      refine r_iload_n C dX3_walkRings_24 rfl rfl ?_
      refine r_istore C dX3_walkRings_25 (by decide) ?_
      exact j27 s 0 p w (by omega) (by omega)
  refine r_aload_n C dX3_walkRings_0 rfl rfl ?_
  refine r_iconst (v := 0) C dX3_walkRings_1 (by decide) ?_
  refine pp_X3_31 C dX3_walkRings_2 ?_
  refine r_aload_n C dX3_walkRings_5 rfl rfl ?_
  refine r_iconst (v := 1) C dX3_walkRings_6 (by decide) ?_
  refine pp_X3_28 C dX3_walkRings_7 ?_
  refine r_iconst (v := 0) C dX3_walkRings_10 (by decide) ?_
  refine r_istore_n C dX3_walkRings_11 rfl (by decide) ?_
  refine r_iconst (v := 1) C dX3_walkRings_12 (by decide) ?_
  refine r_istore_n C dX3_walkRings_13 rfl (by decide) ?_
  refine key s 1 _ _ _ _ (by omega) (by omega) ⟨fun c hc => ?_, fun j h5 h6 => ?_⟩
  · rw [va_up_no hc, va_up_no hc]
  · rw [va_up_at, va_up_no h5, va_up_at, va_up_no h6]
theorem f_hasAllNumbers {s : Nat} (hs : N 0 3 = nI s) (hs2 : 2 ≤ s) (hs7 : s ≤ 7) (h4 : R 4 1 = 0) : CI G yX3_hasAllNumbers cX3_hasAllNumbers 2 .boolean 0 0 0 [.ref (A 0)] (pW G A N R Q ++ P) (S := Unit) (fun r _ => r = 0) (fun _ => pW G A N R Q ++ P) := by
  refine CI.intro (by decide) (Nat.le_of_ble_eq_true rfl) (cat1 (xs := [])) fun X C hR => ?_
  refine r_iconst (v := 1) C dX3_hasAllNumbers_0 (by decide) ?_
  refine r_istore_n C dX3_hasAllNumbers_1 rfl (by decide) ?_
  refine r_iload_n C dX3_hasAllNumbers_2 rfl rfl ?_
  refine r_aload_n C dX3_hasAllNumbers_3 rfl rfl ?_
  refine pg_X3_22 C dX3_hasAllNumbers_4 ?_
  rw [hs, show (1 : Int32) = nI 1 from rfl]
  refine r_icmp_ge (tgt := 27) C dX3_hasAllNumbers_7 (by decide) (fun c7 => absurd c7 ((by rw [nI_leI (by omega) (by omega)]; omega))) (fun c7 => ?_)
  refine r_aload_n C dX3_hasAllNumbers_10 rfl rfl ?_
  refine pg_X3_41 C dX3_hasAllNumbers_11 ?_
  refine r_iload_n C dX3_hasAllNumbers_14 rfl rfl ?_
  refine pl_4 C dX3_hasAllNumbers_15 (vp_in_nI (show 1 < 8 by decide) (by decide)) ?_
  show V X 0 0 16 _ [.int (R 4 1)] _
  rw [h4]
  refine r_if_ne (tgt := 21) C dX3_hasAllNumbers_16 (by decide) (fun c16 => absurd c16 ((fun q => q rfl))) (fun c16 => ?_)
  refine r_iconst (v := 0) C dX3_hasAllNumbers_19 (by decide) ?_
  exact hR _ _ _ _ _ () (by decide) (by decide) rfl rfl dX3_hasAllNumbers_20
theorem cat4 {h a : Nat} {x y : Int32} : ∀ v ∈ [Value.ref h, Value.int x, Value.ref a, Value.int y], v.category = 1 := by
  intro v hv
  simp only [List.mem_cons, List.not_mem_nil, or_false] at hv
  rcases hv with q | q | q | q <;> rw [q] <;> rfl
/-- become, with no crossings: it ends -/
theorem f_become {s : Nat} (hs2 : 2 ≤ s) (hs7 : s ≤ 7) (ra : Nat) (rr : Nat → Int32) (he0 : ∀ i, i < 8 → ∃ e, e < 8 ∧ R 2 i = nI e) : CV G yX3_become cX3_become 5 3 0 0 [.ref (A 0), .int (nI s), .ref ra, .int 0] (pW G A N R Q ++ [(ra, .inl (G.2.2 0, 300, .inl rr))]) (S := Unit) (fun _ => True) (fun _ => []) := by
  refine CV.intro (by decide) (Nat.le_of_ble_eq_true rfl) cat4 fun X C hR => ?_
  have fin : ∀ (L : List (Option Value)) (N' : Nt) (R' : Rt), V X 0 0 144 L [] (pW G A N' R' Q ++ [(ra, .inl (G.2.2 0, 300, .inl rr))]) := fun L N' R' => V.sub (ws' := []) [] rfl rfl (hR _ _ _ _ () (by decide) (by decide) trivial dX3_become_144)
  have j110 : ∀ (N' : Nt) (R' : Rt) (L4 : Option Value), N' 0 3 = nI s → R' 4 1 = 0 → (∀ i, i < 8 → ∃ e, e < 8 ∧ R' 2 i = nI e) → V X 0 0 110 [some (.ref (A 0)), some (.int (nI s)), some (.ref ra), some (.int 0), L4] [] (pW G A N' R' Q ++ [(ra, .inl (G.2.2 0, 300, .inl rr))]) := by
    intro N' R' L4 h3 h4 he
    refine r_aload_n C dX3_become_110 rfl rfl ?_
    refine a_callVv C (s_walkRings G A _ N' R' Q h3 hs7 he) kcX3_X3_walkRings dX3_become_111 rfl (by decide) (by decide) (by decide) (Nat.le_of_ble_eq_true rfl) 0 rfl (ci := 3) rfl rfl rfl (fun N2 hu => ?_)
    have h32 : N2 0 3 = nI s := (hu.2 3 (by decide) (by decide)).trans h3
    refine r_aload_n C dX3_become_114 rfl rfl ?_
    refine r_aload_n C dX3_become_115 rfl rfl ?_
    refine pg_X3_58 C dX3_become_116 ?_
    refine r_if_eq (tgt := 140) C dX3_become_119 (by decide) (fun c119 => ?_) (fun c119 => ?_)
    · refine r_iconst (v := 0) C dX3_become_140 (by decide) ?_
      refine pp_X3_34 C (Or.inl rfl) dX3_become_141 ?_
      exact fin _ _ _
    · refine r_aload_n C dX3_become_122 rfl rfl ?_
      refine a_callVi C (f_hasAllNumbers G A _ N2 R' Q h32 hs2 hs7 h4) kcX3_X3_hasAllNumbers dX3_become_123 rfl (by decide) (by decide) (by decide) (Nat.le_of_ble_eq_true rfl) 0 rfl (ci := 3) rfl rfl rfl (fun r u hu2 => ?_)
      subst hu2
      refine r_if_eq (tgt := 140) C dX3_become_126 (by decide) (fun c126 => ?_) (fun c126 => absurd c126 ((fun q => q rfl)))
      refine r_iconst (v := 0) C dX3_become_140 (by decide) ?_
      refine pp_X3_34 C (Or.inl rfl) dX3_become_141 ?_
      exact fin _ _ _
  have j81 : ∀ (f p : Nat) (N' : Nt) (R' : Rt), p + f = s + 1 → 1 ≤ p → N' 0 3 = nI s → (∀ i, i < 8 → R' 3 i = nI i) → R' 4 1 = 0 → (∀ i, i < 8 → ∃ e, e < 8 ∧ R' 2 i = nI e) → V X 0 0 81 [some (.ref (A 0)), some (.int (nI s)), some (.ref ra), some (.int 0), some (.int (nI p))] [] (pW G A N' R' Q ++ [(ra, .inl (G.2.2 0, 300, .inl rr))]) := by
    intro f
    induction f with
    | zero =>
      intro p N' R' hp h1 h3 hl h4 he
      refine r_iload C dX3_become_81 rfl ?_
      refine r_aload_n C dX3_become_83 rfl rfl ?_
      refine pg_X3_22 C dX3_become_84 ?_
      rw [h3]
      refine r_icmp_gt (tgt := 110) C dX3_become_87 (by decide) (fun c87 => ?_) (fun c87 => absurd c87 ((fun q => q (nI_lt (by omega) (by omega)))))
      exact j110 N' R' _ h3 h4 he
    | succ f ih =>
      intro p N' R' hp h1 h3 hl h4 he
      refine r_iload C dX3_become_81 rfl ?_
      refine r_aload_n C dX3_become_83 rfl rfl ?_
      refine pg_X3_22 C dX3_become_84 ?_
      rw [h3]
      refine r_icmp_gt (tgt := 110) C dX3_become_87 (by decide) (fun c87 => absurd c87 ((by rw [nI_ltI (by omega) (by omega)]; omega))) (fun c87 => ?_)
      refine r_aload_n C dX3_become_90 rfl rfl ?_
      refine pg_X3_15 C dX3_become_91 ?_
      refine r_aload_n C dX3_become_94 rfl rfl ?_
      refine pg_X3_38 C dX3_become_95 ?_
      refine r_iload C dX3_become_98 rfl ?_
      refine pl_3 C dX3_become_100 (vp_in_nI (show p < 8 by omega) (by decide)) ?_
      rw [nI_clamp (by omega), hl p (by omega)]
      refine r_iload C dX3_become_101 rfl ?_
      refine ps_2 C dX3_become_103 (vp_in_nI (show p < 8 by omega) (by decide)) ?_
      rw [nI_clamp (by omega)]
      refine r_iinc (v := _ + 1) C dX3_become_104 rfl (by rfl) (by decide) ?_
      refine r_goto (tgt := 81) C dX3_become_107 (by decide) ?_
      show V X 0 0 81 [_, _, _, _, some (.int (nI p + 1))] _ _
      rw [nI_1]
      refine ih (p + 1) N' _ (by omega) (by omega) h3 (fun i hi => hl i hi) h4 (fun i hi => ?_)
      rw [va_up_at]
      by_cases e : i = p
      · subst e; rw [pk_us]; exact ⟨i, hi, rfl⟩
      · rw [pk_un e]; exact he i hi
  have j49 : ∀ (N' : Nt) (R' : Rt), N' 0 3 = nI s → N' 0 2 = 0 → (∀ i, i < 8 → R' 3 i = nI i) → R' 4 1 = 0 → (∀ i, i < 8 → ∃ e, e < 8 ∧ R' 2 i = nI e) → V X 0 0 49 [some (.ref (A 0)), some (.int (nI s)), some (.ref ra), some (.int 0), none] [] (pW G A N' R' Q ++ [(ra, .inl (G.2.2 0, 300, .inl rr))]) := by
    intro N' R' h3 h2 hl h4 he
    refine r_iconst (v := 0) C dX3_become_49 (by decide) ?_
    refine r_istore C dX3_become_50 (by decide) ?_
    refine r_iload C dX3_become_52 rfl ?_
    refine r_aload_n C dX3_become_54 rfl rfl ?_
    refine pg_X3_18 C dX3_become_55 ?_
    rw [h2]
    refine r_icmp_ge (tgt := 78) C dX3_become_58 (by decide) (fun c58 => ?_) (fun c58 => absurd c58 ((fun q => absurd (show (0 : Int32) ≤ 0 by decide) q)))
    refine r_iconst (v := 1) C dX3_become_78 (by decide) ?_
    refine r_istore C dX3_become_79 (by decide) ?_
    exact j81 s 1 N' R' (by omega) (by omega) h3 hl h4 he
  refine r_aload_n C dX3_become_0 rfl rfl ?_
  refine r_iload_n C dX3_become_1 rfl rfl ?_
  refine pp_X3_22 C dX3_become_2 ?_
  refine r_aload_n C dX3_become_5 rfl rfl ?_
  refine r_iload_n C dX3_become_6 rfl rfl ?_
  refine r_aload_n C dX3_become_7 rfl rfl ?_
  refine r_alen (t0 := 0) C 21 (fun _ => rfl) rfl dX3_become_8 ?_
  refine r_sipush (v := 300) C dX3_become_9 (by decide) ?_
  refine r_mmin C km_X3_76 (by decide) (by decide) (by decide) (Nat.le_of_ble_eq_true rfl) dX3_become_12 ?_
  rw [if_neg (show ¬ (300 : Int32) < nI 300 by decide)]
  refine r_mmin C km_X3_76 (by decide) (by decide) (by decide) (Nat.le_of_ble_eq_true rfl) dX3_become_15 ?_
  rw [if_neg (show ¬ nI 300 < 0 by decide)]
  refine pp_X3_18 C dX3_become_18 ?_
  refine r_aload_n C dX3_become_21 rfl rfl ?_
  refine r_iconst (v := 0) C dX3_become_22 (by decide) ?_
  refine r_aload_n C dX3_become_23 rfl rfl ?_
  refine pg_X3_9 C dX3_become_24 ?_
  refine r_iconst (v := 0) C dX3_become_27 (by decide) ?_
  refine r_aload_n C dX3_become_28 rfl rfl ?_
  refine pg_X3_18 C dX3_become_29 ?_
  refine r_copyi (sp := 0) (dp := 0) (nn := 0) (ws' := pW G A (va_up (va_up N 0 (va_up (N 0) 3 (nI s))) 0 (va_up (va_up (N 0) 3 (nI s)) 2 0)) (va_up R 1 (va_cpy rr (R 1) 0 0 0)) Q ++ [(ra, .inl (G.2.2 0, 300, .inl rr))]) C 21 1 ka_X3_82 rfl rfl (by decide) (by decide) (by decide) (by decide) (by decide) (Nat.le_of_ble_eq_true rfl) rfl dX3_become_32 ?_
  refine r_aload_n C dX3_become_35 rfl rfl ?_
  refine r_iconst (v := 0) C dX3_become_36 (by decide) ?_
  refine pp_X3_70 C (Or.inl rfl) dX3_become_37 ?_
  refine r_aload_n C dX3_become_40 rfl rfl ?_
  refine r_iconst (v := 0) C dX3_become_41 (by decide) ?_
  refine pp_X3_73 C dX3_become_42 ?_
  refine r_aload_n C dX3_become_45 rfl rfl ?_
  refine a_callVv C (c_clearTraces G A _ _ _ Q) kcX3_X3_clearTraces dX3_become_46 rfl (by decide) (by decide) (by decide) (Nat.le_of_ble_eq_true rfl) 0 rfl (ci := 3) rfl rfl rfl (fun R2 hu => ?_)
  exact j49 _ R2 rfl rfl (fun i hi => (hu.1 i hi).1) (hu.1 1 (by decide)).2.1 (fun i hi => by rw [hu.2 2 (by omega) (by omega)]; exact he0 i hi)
end C5
/-! pattern on a fresh bench -/
section C6
variable (G : Gx) (A : Nat → Nat) (N : Nt) (R : Rt) (Q : Qt)
def rA (A : Nat → Nat) : Nat → Nat := fun i => A (rsel i)
def rN (N : Nt) : Nt := fun _ => N 3
def rR (R : Rt) : Rt := fun i => R (rsel i)
def rQ (Q : Qt) : Qt := fun _ => Q 2
theorem f_pattern (hF : Fr N Q) (ht : N 0 1 = 0) (kk s z : Int32) : XI G yX6_pattern (.code yX6_pattern cX6_pattern 4 (some .int)) 6 21 763 [.ref (A 0), .int kk, .int s, .int z] (bW G A N R Q) (¬ (∃ j n e, okP 0 kk s z j n e), iae, bW G A N R Q) (S := Unit) (fun r _ => (∃ j n e, okP 0 kk s z j n e) ∧ r = 0) (fun _ => []) := by
  refine XI.intro (by decide) (Nat.le_of_ble_eq_true rfl) (cat1 (xs := [kk, s, z])) fun X C hE hR hO hN => ?_
  refine V.eqW (ws' := bW G A N R Q ++ []) (List.append_nil _).symm ?_
  have hNW : (¬ ∃ j n e, okP 0 kk s z j n e) → ∀ (pc : Nat) (is : Nat) (text : String), (is, text) ∈ strsB → decode cX6_pattern pc = .ok (.new 71, 3) → decode cX6_pattern (pc + 3) = .ok (.dup, 1) → decode cX6_pattern (pc + 4) = .ok (.ldc is, 2) → decode cX6_pattern (pc + 6) = .ok (.invokespecial 75, 3) → decode cX6_pattern (pc + 9) = .ok (.athrow, 1) → V X 0 0 pc (ent [.ref (A 0), .int kk, .int s, .int z] 4) [] (bW G A N R Q ++ []) := by
    intro hno pc is text hs d0 d3 d4 d6 d9
    refine V.eqW (ws' := bW G A N R Q) (List.append_nil _) ?_
    exact hN _ _ _ _ _ 71 is 75 text (by decide) (by decide) hno (by decide) (Nat.le_of_ble_eq_true rfl) kt_iae hs rfl d0 d3 d4 d6 d9
  by_cases hok : ∃ j n e, okP 0 kk s z j n e
  rotate_left
  · refine r_iload_n C dX6_pattern_0 rfl rfl ?_
    refine r_if_lt (tgt := 21) C dX6_pattern_1 (by decide) (fun c1 => ?_) (fun c1 => ?_)
    · exact hNW hok 21 73 "no such pattern or straws" (by decide) dX6_pattern_21 dX6_pattern_24 dX6_pattern_25 dX6_pattern_27 dX6_pattern_30
    · refine r_iload_n C dX6_pattern_4 rfl rfl ?_
      refine r_bipush (v := 8) C dX6_pattern_5 (by decide) ?_
      refine r_icmp_ge (tgt := 21) C dX6_pattern_7 (by decide) (fun c7 => ?_) (fun c7 => ?_)
      · exact hNW hok 21 73 "no such pattern or straws" (by decide) dX6_pattern_21 dX6_pattern_24 dX6_pattern_25 dX6_pattern_27 dX6_pattern_30
      · refine r_iload_n C dX6_pattern_10 rfl rfl ?_
        refine r_iconst (v := 2) C dX6_pattern_11 (by decide) ?_
        refine r_icmp_lt (tgt := 21) C dX6_pattern_12 (by decide) (fun c12 => ?_) (fun c12 => ?_)
        · exact hNW hok 21 73 "no such pattern or straws" (by decide) dX6_pattern_21 dX6_pattern_24 dX6_pattern_25 dX6_pattern_27 dX6_pattern_30
        · refine r_iload_n C dX6_pattern_15 rfl rfl ?_
          refine r_bipush (v := 7) C dX6_pattern_16 (by decide) ?_
          refine r_icmp_le (tgt := 31) C dX6_pattern_18 (by decide) (fun c18 => ?_) (fun c18 => ?_)
          · refine r_iload_n C dX6_pattern_31 rfl rfl ?_
            refine r_if_lt (tgt := 43) C dX6_pattern_32 (by decide) (fun c32 => ?_) (fun c32 => ?_)
            · exact hNW hok 43 78 "the tape has not so many bytes" (by decide) dX6_pattern_43 dX6_pattern_46 dX6_pattern_47 dX6_pattern_49 dX6_pattern_52
            · refine r_iload_n C dX6_pattern_35 rfl rfl ?_
              refine r_aload_n C dX6_pattern_36 rfl rfl ?_
              refine bg_X6_13 C dX6_pattern_37 ?_
              rw [ht]
              refine r_icmp_le (tgt := 53) C dX6_pattern_40 (by decide) (fun c40 => ?_) (fun c40 => ?_)
              · exfalso
                obtain ⟨j, hj, rfl⟩ := nI_of c1
                obtain ⟨n, hn, rfl⟩ := nI_of (x := s) (fun q => c12 (Int32.lt_trans q (by decide)))
                obtain ⟨e, he, rfl⟩ := nI_of c32
                rw [show (8 : Int32) = nI 8 from rfl, nI_leI (by decide) (by omega)] at c7
                rw [show (2 : Int32) = nI 2 from rfl, nI_ltI (by omega) (by omega)] at c12
                rw [show (7 : Int32) = nI 7 from rfl, nI_leI (by omega) (by omega)] at c18
                rw [show (0 : Int32) = nI 0 from rfl, nI_leI (by omega) (by decide)] at c40
                exact hok ⟨j, n, e, rfl, by omega, rfl, by omega, by omega, rfl, by omega⟩
              · exact hNW hok 43 78 "the tape has not so many bytes" (by decide) dX6_pattern_43 dX6_pattern_46 dX6_pattern_47 dX6_pattern_49 dX6_pattern_52
          · exact hNW hok 21 73 "no such pattern or straws" (by decide) dX6_pattern_21 dX6_pattern_24 dX6_pattern_25 dX6_pattern_27 dX6_pattern_30
  obtain ⟨j, n, e, hok⟩ := hok
  obtain ⟨rfl, hj, rfl, hn2, hn7, rfl, he0⟩ := id hok
  have hez : e = 0 := by omega
  subst hez
  have j99 : ∀ (q : Nat) (Ap : Nat → Nat), Ap 0 = q → V X 21 763 99 (ent [.ref (A 0), .int (nI j), .int (nI n), .int (nI 0)] 4) [] (bW G A (va_up (va_up N 3 (rdN0 (rN N) (nI n) 0)) 0 (va_up (N 0) 1 0)) R (va_up Q 2 (va_up (Q 2) j (some q))) ++ pW G Ap pN0 zR zQ) := by
    intro q Ap hq
    refine r_aload_n C dX6_pattern_99 rfl rfl ?_
    refine bg_X6_19 C dX6_pattern_100 ?_
    refine r_iload_n C dX6_pattern_103 rfl rfl ?_
    refine bl_2 C dX6_pattern_104 (vp_in_nI hj (by decide)) ?_
    show V X 21 763 105 _ [va_rf (va_up (Q 2) j (some q) (nI j).toNatClampNeg)] _
    rw [nI_clamp (by omega), va_up_at]
    show V X 21 763 105 _ [.ref q] _
    rw [← hq]
    refine r_iload_n C dX6_pattern_105 rfl rfl ?_
    refine r_aload_n C dX6_pattern_106 rfl rfl ?_
    refine bg_X6_28 C dX6_pattern_107 ?_
    refine bg_X6_88 C dX6_pattern_110 ?_
    refine r_aload_n C dX6_pattern_113 rfl rfl ?_
    refine bg_X6_28 C dX6_pattern_114 ?_
    refine bg_X6_92 C dX6_pattern_117 ?_
    refine r_callVv C (f_become G Ap pN0 zR zQ hn2 hn7 (A 4) (R 4) (fun i hi => ⟨0, by decide, rfl⟩)) kcX6_X3_become dX6_pattern_120 rfl (by decide) (by decide) (by decide) (Nat.le_of_ble_eq_true rfl) 0 rfl (ci := 3) rfl rfl [14, 15, 16, 17, 18, 19, 20, 21, 22, 23, 24, 25, 26, 27, 28, 29, 30, 31, 32, 33, 34, 4] [0, 3] (by decide) rfl (wr := (bW G A (va_up (va_up N 3 (rdN0 (rN N) (nI n) 0)) 0 (va_up (N 0) 1 0)) R (va_up Q 2 (va_up (Q 2) j (some q)))).take 1 ++ ((bW G A (va_up (va_up N 3 (rdN0 (rN N) (nI n) 0)) 0 (va_up (N 0) 1 0)) R (va_up Q 2 (va_up (Q 2) j (some q)))).drop 3).take 1) rfl (by decide) (by decide) rfl (fun u hu => ?_)
    refine r_aload_n C dX6_pattern_123 rfl rfl ?_
    refine r_get C 0 3 rfl rfl inX6 (by decide) lk_X6_28 rfl dX6_pattern_124 ?_
    refine r_get C 1 2 rfl rfl inX4 (by decide) lk_X6_84 rfl dX6_pattern_127 ?_
    exact V.sub (ws' := []) [] rfl rfl (hR _ _ _ _ _ () (by decide) (by decide) rfl ⟨⟨j, n, 0, hok⟩, rfl⟩ dX6_pattern_130)
  refine r_iload_n C dX6_pattern_0 rfl rfl ?_
  refine r_if_lt (tgt := 21) C dX6_pattern_1 (by decide) (fun c1 => absurd c1 ((nI_pos (by omega)))) (fun c1 => ?_)
  refine r_iload_n C dX6_pattern_4 rfl rfl ?_
  refine r_bipush (v := 8) C dX6_pattern_5 (by decide) ?_
  refine r_icmp_ge (tgt := 21) C dX6_pattern_7 (by decide) (fun c7 => absurd c7 ((by rw [show (8 : Int32) = nI 8 from rfl, nI_leI (by decide) (by omega)]; omega))) (fun c7 => ?_)
  refine r_iload_n C dX6_pattern_10 rfl rfl ?_
  refine r_iconst (v := 2) C dX6_pattern_11 (by decide) ?_
  refine r_icmp_lt (tgt := 21) C dX6_pattern_12 (by decide) (fun c12 => absurd c12 ((by rw [show (2 : Int32) = nI 2 from rfl, nI_ltI (by omega) (by omega)]; omega))) (fun c12 => ?_)
  refine r_iload_n C dX6_pattern_15 rfl rfl ?_
  refine r_bipush (v := 7) C dX6_pattern_16 (by decide) ?_
  refine r_icmp_le (tgt := 31) C dX6_pattern_18 (by decide) (fun c18 => ?_) (fun c18 => absurd c18 ((fun q => q (by rw [show (7 : Int32) = nI 7 from rfl, nI_leI (by omega) (by omega)]; omega))))
  refine r_iload_n C dX6_pattern_31 rfl rfl ?_
  refine r_if_lt (tgt := 43) C dX6_pattern_32 (by decide) (fun c32 => absurd c32 ((by decide))) (fun c32 => ?_)
  refine r_iload_n C dX6_pattern_35 rfl rfl ?_
  refine r_aload_n C dX6_pattern_36 rfl rfl ?_
  refine bg_X6_13 C dX6_pattern_37 ?_
  rw [ht]
  refine r_icmp_le (tgt := 53) C dX6_pattern_40 (by decide) (fun c40 => ?_) (fun c40 => absurd c40 ((fun q => absurd (show nI 0 ≤ 0 by decide) q)))
  refine r_aload_n C dX6_pattern_53 rfl rfl ?_
  refine bg_X6_28 C dX6_pattern_54 ?_
  refine r_iload_n C dX6_pattern_57 rfl rfl ?_
  refine r_iload_n C dX6_pattern_58 rfl rfl ?_
  refine r_callVv C (f_read G (rA A) [] (rN N) (rR R) (rQ Q) (nI n)) kcX6_X4_read dX6_pattern_59 rfl (by decide) (by decide) (by decide) (Nat.le_of_ble_eq_true rfl) 0 rfl (ci := 4) rfl rfl [3, 4, 5, 6, 1, 2] [0, 7, 8, 9, 10, 11, 12, 13] (by decide) rfl (wr := (bW G A N R Q).take 1 ++ (bW G A N R Q).drop 7) rfl (by decide) (by decide) rfl (fun u hu => ?_)
  refine V.sub (ws' := bW G A (va_up N 3 (rdN0 (rN N) (nI n) 0)) R Q ++ []) [0, 12, 13, 8, 9, 10, 11, 1, 2, 3, 4, 5, 6, 7] (by decide) rfl ?_
  refine r_aload_n C dX6_pattern_62 rfl rfl ?_
  refine r_iconst (v := 0) C dX6_pattern_63 (by decide) ?_
  refine bp_X6_13 C dX6_pattern_64 ?_
  refine r_aload_n C dX6_pattern_67 rfl rfl ?_
  refine bg_X6_28 C dX6_pattern_68 ?_
  refine bg_X6_84 C dX6_pattern_71 ?_
  show V X 0 0 74 _ [.int 0] _
  refine r_if_ne (tgt := 123) C dX6_pattern_74 (by decide) (fun c74 => absurd c74 ((fun q => q rfl))) (fun c74 => ?_)
  refine r_aload_n C dX6_pattern_77 rfl rfl ?_
  refine bg_X6_19 C dX6_pattern_78 ?_
  refine r_iload_n C dX6_pattern_81 rfl rfl ?_
  refine bl_2 C dX6_pattern_82 (vp_in_nI hj (by decide)) ?_
  show V X 0 0 83 _ [va_rf (Q 2 (nI j).toNatClampNeg)] _
  rw [hF.2.2.2]
  refine r_ifnonnullN C dX6_pattern_83 ?_
  refine r_aload_n C dX6_pattern_86 rfl rfl ?_
  refine bg_X6_19 C dX6_pattern_87 ?_
  refine r_iload_n C dX6_pattern_90 rfl rfl ?_
  skip
  refine r_new (ci := 3) C [.null, .null, .int 0, .int 0, .int 0, .int 0, .int 0, .int 0, .null, .null, .null, .null, .null, .null, .int 0, .null, .int 0, .int 0] rfl inX3 tyX3_ok cl_X6_17 ni_X3.1 ni_X3.2 (fun j hj => by rcases (show j = 0 ∨ j = 1 ∨ j = 2 ∨ j = 3 ∨ j = 4 ∨ j = 5 ∨ j = 6 ∨ j = 7 ∨ j = 8 ∨ j = 9 ∨ j = 10 ∨ j = 11 ∨ j = 12 ∨ j = 13 ∨ j = 14 ∨ j = 15 ∨ j = 16 ∨ j = 17 by omega) with rfl | rfl | rfl | rfl | rfl | rfl | rfl | rfl | rfl | rfl | rfl | rfl | rfl | rfl | rfl | rfl | rfl | rfl <;> rfl) (by decide) (by decide) dX6_pattern_91 (fun q => ?_)
  refine r_dup C dX6_pattern_94 rfl ?_
  refine r_callINv C hE (c_X3_init G q) kcX6_X3_init dX6_pattern_95 (by decide) (by decide) (by decide) (Nat.le_of_ble_eq_true rfl) [14] [0, 1, 2, 3, 4, 5, 6, 7, 8, 9, 10, 11, 12, 13] (by decide) rfl (wr := bW G A (va_up (va_up N 3 (rdN0 (rN N) (nI n) 0)) 0 (va_up (N 0) 1 0)) R Q) rfl (by decide) (by decide) (fun Ap hu => ?_)
  obtain ⟨Ap, hq⟩ := Ap
  subst hq
  refine r_aast (t0 := 5) (ci := 3) (r := (RX3, TX3, 18)) (ws' := bW G A (va_up (va_up N 3 (rdN0 (rN N) (nI n) 0)) 0 (va_up (N 0) 1 0)) R (va_up Q 2 (va_up (Q 2) (nI j).toNatClampNeg (some (Ap 0)))) ++ pW G Ap pN0 zR zQ) C 2 14 (fun _ => rfl) rfl rfl rfl (vp_in_nI hj (by decide)) rfl dX6_pattern_98 ?_
  rw [nI_clamp (by omega)]
  exact j99 (Ap 0) Ap rfl
end C6
