/-! the reference: useOf, isInTurn -/
abbrev ItT : Type := Nat × Nat × Nat
noncomputable def itS (cv : Int32) (q : ItT) : Option ItT := if sd q.1 cv = 0 then some q else if sd q.1 cv = q.2.2 then none else some (sw (ai cv) q.1, if q.2.1 = 0 then sd q.1 cv else q.2.1, sd q.1 cv)
noncomputable def itj (c : Nat → Int32) (q : Option ItT) : Nat → Option ItT
  | 0 => q
  | j + 1 => (itj c q j).bind (itS (c j))
noncomputable def itt (c : Nat → Int32) (z p : Nat) : Nat → Option ItT
  | 0 => some (p, 0, 0)
  | t + 1 => itj c (itt c z p t) z
def itR (o : Option ItT) : Int32 := match o with
  | none => 0
  | some q => if q.2.1 = 0 ∨ q.2.1 ≠ q.2.2 then 1 else 0
theorem itj_none {c : Nat → Int32} {q : Option ItT} {j : Nat} (h : itj c q j = none) : ∀ n, itj c q (j + n) = none
  | 0 => h
  | n + 1 => by
    show (itj c q (j + n)).bind _ = none
    rw [itj_none h n]
    rfl
theorem itj_nil {c : Nat → Int32} : ∀ j, itj c none j = none
  | 0 => rfl
  | j + 1 => by
    show (itj c none j).bind _ = none
    rw [itj_nil j]
    rfl
theorem itt_none {c : Nat → Int32} {z p t : Nat} (h : itt c z p t = none) : ∀ n, itt c z p (t + n) = none
  | 0 => h
  | n + 1 => by
    show itj c (itt c z p (t + n)) z = none
    rw [itt_none h n]
    exact itj_nil z
theorem itS_in {cv : Int32} {q q' : ItT} {s : Nat} (hc : okC s cv) (hs : s ≤ 7) (h1 : 1 ≤ q.1 ∧ q.1 ≤ s) (h2 : q.2.1 ≤ 2 ∧ q.2.2 ≤ 2) (h : itS cv q = some q') : (1 ≤ q'.1 ∧ q'.1 ≤ s) ∧ q'.2.1 ≤ 2 ∧ q'.2.2 ≤ 2 := by
  have ha := okC_ai hc hs
  have hsd : sd q.1 cv ≤ 2 := by unfold sd; split <;> (try split) <;> omega
  unfold itS at h
  split at h
  · cases h; exact ⟨h1, h2⟩
  · split at h
    · cases h
    · cases h
      refine ⟨sw_in ha.1 ha.2 h1.1 h1.2, ?_, hsd⟩
      dsimp only
      split
      · exact hsd
      · exact h2.1
section M8
variable (G : Gx) (h : Nat) (ad : Nat → Nat) (M : Mt) (R : Rt)
theorem c_useOf {j s z p : Nat} (hj : j < 8) (hp : PatOK R j s z) (h1 : 1 ≤ p) (h2 : p ≤ s) : mI G h ad yX7_useOf cX7_useOf 8 .int 1 [.int (nI j), .int (nI p)] M R (fun r M' R' => r = nI (2 * lvMost (rowOf R j) z + usF (rowOf R j) p z) ∧ M' = M ∧ ∃ P, R' = va_up R 27 P) := by
  refine mI.intro (by decide) (Nat.le_of_ble_eq_true rfl) (cat1 (xs := [nI j, nI p])) fun X C hR => ?_
  obtain ⟨hs5, hs2, hs7, hz, hz3, hok⟩ := id hp
  obtain ⟨c, hc⟩ : ∃ c, c = rowOf R j := ⟨_, rfl⟩
  have hrow : ∀ (i : Nat), R 7 (300 * j + i) = c i := fun i => by rw [hc]; rfl
  have hmost := lvMost_le (c := c) z
  have hus := usF_le (c := c) (p := p) z
  have key : ∀ (f i : Nat), i + f = z → V X 0 0 8 [some (.ref h), some (.int (nI j)), some (.int (nI p)), some (.int (nI (gT c i p))), some (.int (nI (usF c p i))), some (.int (nI i)), none, none] [] (mW G h ad M R) := by
    intro f
    induction f with
    | zero =>
      intro i hi
      have hiz : i = z := by omega
      subst hiz
      refine r_iload C dX7_useOf_8 rfl ?_
      refine r_aload_n C dX7_useOf_10 rfl rfl ?_
      refine mg_sizes C dX7_useOf_11 ?_
      refine r_iload_n C dX7_useOf_14 rfl rfl ?_
      refine ml_sizes C dX7_useOf_15 (vp_in_nI hj (by decide)) ?_
      rw [nI_clamp (by omega), hz]
      refine r_icmp_ge (tgt := 115) C dX7_useOf_16 (by decide) (fun c16 => ?_) (fun c16 => absurd c16 ((fun q => q (nI_le (by omega) (by omega)))))
      refine r_iconst (v := 2) C dX7_useOf_115 (by decide) ?_
      refine r_aload_n C dX7_useOf_116 rfl rfl ?_
      refine r_iload_n C dX7_useOf_117 rfl rfl ?_
      refine m_calli C (c_levels G h ad M R hj hp) kM_levels dX7_useOf_118 rfl (by decide) (by decide) (by decide) (by decide) rfl rfl (fun r M1 R1 hp => ?_)
      obtain ⟨rfl, rfl, P, rfl⟩ := hp
      rw [← hc]
      rw [show (2 : Int32) = nI 2 from rfl]
      refine r_imul C dX7_useOf_121 ?_
      rw [pk_mul]
      refine r_iload C dX7_useOf_122 rfl ?_
      refine r_iadd C dX7_useOf_124 ?_
      rw [nI_add]
      exact hR _ _ _ _ _ rfl dX7_useOf_125 ⟨by rw [← hc], rfl, P, rfl⟩
    | succ f ih =>
      intro i hi
      obtain ⟨g, hg⟩ : ∃ g, g = gT c i p := ⟨_, rfl⟩
      have hgi := gT_in (c := c) hs7 h1 h2 i (fun q hq => by rw [hc]; exact hok q (by omega))
      obtain ⟨i0, hi1, hi2, hci⟩ := hok i (by omega)
      rw [← hc] at hci
      have hai : ai (c i) = i0 := by rcases hci with hci | hci <;> rw [hci] <;> first | exact ai_nI (by omega) | exact ai_neg (by omega)
      have hgT : gT c (i + 1) p = sw i0 g := by show sw (ai (c i)) _ = _; rw [hai, hg]
      have huT : usF c p (i + 1) = usF c p i + if sd g (c i) = 1 then 1 else 0 := by rw [hg]; rfl
      have nx := ih (i + 1) (by omega)
      rw [hgT, huT] at nx
      rw [← hg] at hgi ⊢
      have hA : g = i0 → 0 < c i → V X 0 0 8 [some (.ref h), some (.int (nI j)), some (.int (nI p)), some (.int (nI (i0 + 1))), some (.int (nI (usF c p i + 1))), some (.int (nI (i + 1))), none, none] [] (mW G h ad M R) := by
        intro e e2
        rw [sd_ov (Or.inl ⟨by rw [hai]; exact e, e2⟩), if_pos rfl, e, sw_l] at nx
        exact nx
      have hB : g = i0 → ¬ 0 < c i → V X 0 0 8 [some (.ref h), some (.int (nI j)), some (.int (nI p)), some (.int (nI (i0 + 1))), some (.int (nI (usF c p i))), some (.int (nI (i + 1))), none, none] [] (mW G h ad M R) := by
        intro e e2
        rw [sd_un (Or.inl ⟨by rw [hai]; exact e, e2⟩), if_neg (by decide), e, sw_l] at nx
        exact nx
      have hC : g = i0 + 1 → 0 < c i → V X 0 0 8 [some (.ref h), some (.int (nI j)), some (.int (nI p)), some (.int (nI i0)), some (.int (nI (usF c p i))), some (.int (nI (i + 1))), none, none] [] (mW G h ad M R) := by
        intro e e2
        rw [sd_un (Or.inr ⟨by rw [hai]; exact e, e2⟩), if_neg (by decide), e, sw_r] at nx
        exact nx
      have hD : g = i0 + 1 → ¬ 0 < c i → V X 0 0 8 [some (.ref h), some (.int (nI j)), some (.int (nI p)), some (.int (nI i0)), some (.int (nI (usF c p i + 1))), some (.int (nI (i + 1))), none, none] [] (mW G h ad M R) := by
        intro e e2
        rw [sd_ov (Or.inr ⟨by rw [hai]; exact e, e2⟩), if_pos rfl, e, sw_r] at nx
        exact nx
      have hE : g ≠ i0 → g ≠ i0 + 1 → V X 0 0 8 [some (.ref h), some (.int (nI j)), some (.int (nI p)), some (.int (nI g)), some (.int (nI (usF c p i))), some (.int (nI (i + 1))), none, none] [] (mW G h ad M R) := by
        intro e e2
        rw [sd_no (by rw [hai]; exact e) (by rw [hai]; exact e2), if_neg (by decide), sw_n e e2] at nx
        exact nx
      have j66 : (g = i0 ∨ g = i0 + 1) → V X 0 0 66 [some (.ref h), some (.int (nI j)), some (.int (nI p)), some (.int (nI g)), some (.int (nI (usF c p i))), some (.int (nI i)), some (.int (c i)), some (.int (nI i0))] [] (mW G h ad M R) := by
        intro hor
        refine r_iload_n C dX7_useOf_66 rfl rfl ?_
        refine r_iload C dX7_useOf_67 rfl ?_
        refine r_icmp_ne (tgt := 76) C dX7_useOf_69 (by decide) (fun c69 => ?_) (fun c69 => ?_)
        · rw [nI_eq (by omega) (by omega)] at c69
          refine r_iconst (v := 0) C dX7_useOf_76 (by decide) ?_
          refine r_iload C dX7_useOf_77 rfl ?_
          refine r_if_le (tgt := 86) C dX7_useOf_79 (by decide) (fun c79 => ?_) (fun c79 => ?_)
          · refine r_iconst (v := 0) C dX7_useOf_86 (by decide) ?_
            refine r_icmp_ne (tgt := 93) C dX7_useOf_87 (by decide) (fun c87 => ?_) (fun c87 => ?_)
            · try rw [nI_1]
              refine r_iload_n C dX7_useOf_93 rfl rfl ?_
              refine r_iload C dX7_useOf_94 rfl ?_
              refine r_icmp_ne (tgt := 106) C dX7_useOf_96 (by decide) (fun c96 => ?_) (fun c96 => ?_)
              · rw [nI_eq (by omega) (by omega)] at c96
                refine r_iload C dX7_useOf_106 rfl ?_
                refine r_istore_n C dX7_useOf_108 rfl (by decide) ?_
                refine r_iinc (v := _ + 1) C dX7_useOf_109 rfl (by rfl) (by decide) ?_
                rw [nI_1]
                refine r_goto (tgt := 8) C dX7_useOf_112 (by decide) ?_
                first
                  | exact absurd rfl c87
                  | exact absurd c87 (by decide)
                  | exact absurd c96 c69
                  | exact absurd c69 c96
                  | exact V.keep [true, true, true, true, true, true, false, false] (hA c96 (Int32.not_le.mp c79))
                  | exact V.keep [true, true, true, true, true, true, false, false] (hB c96 (Int32.not_lt.mpr c79))
                  | exact V.keep [true, true, true, true, true, true, false, false] (hC (by omega) (Int32.not_le.mp c79))
                  | exact V.keep [true, true, true, true, true, true, false, false] (hD (by omega) (Int32.not_lt.mpr c79))
              · rw [nI_eq (by omega) (by omega)] at c96
                refine r_iload C dX7_useOf_99 rfl ?_
                refine r_iconst (v := 1) C dX7_useOf_101 (by decide) ?_
                refine r_iadd C dX7_useOf_102 ?_
                rw [nI_1]
                refine r_goto (tgt := 108) C dX7_useOf_103 (by decide) ?_
                refine r_istore_n C dX7_useOf_108 rfl (by decide) ?_
                refine r_iinc (v := _ + 1) C dX7_useOf_109 rfl (by rfl) (by decide) ?_
                rw [nI_1]
                refine r_goto (tgt := 8) C dX7_useOf_112 (by decide) ?_
                first
                  | exact absurd rfl c87
                  | exact absurd c87 (by decide)
                  | exact absurd c96 c69
                  | exact absurd c69 c96
                  | exact V.keep [true, true, true, true, true, true, false, false] (hA c96 (Int32.not_le.mp c79))
                  | exact V.keep [true, true, true, true, true, true, false, false] (hB c96 (Int32.not_lt.mpr c79))
                  | exact V.keep [true, true, true, true, true, true, false, false] (hC (by omega) (Int32.not_le.mp c79))
                  | exact V.keep [true, true, true, true, true, true, false, false] (hD (by omega) (Int32.not_lt.mpr c79))
            · refine r_iinc (v := _ + 1) C dX7_useOf_90 rfl (by rfl) (by decide) ?_
              try rw [nI_1]
              refine r_iload_n C dX7_useOf_93 rfl rfl ?_
              refine r_iload C dX7_useOf_94 rfl ?_
              refine r_icmp_ne (tgt := 106) C dX7_useOf_96 (by decide) (fun c96 => ?_) (fun c96 => ?_)
              · rw [nI_eq (by omega) (by omega)] at c96
                refine r_iload C dX7_useOf_106 rfl ?_
                refine r_istore_n C dX7_useOf_108 rfl (by decide) ?_
                refine r_iinc (v := _ + 1) C dX7_useOf_109 rfl (by rfl) (by decide) ?_
                rw [nI_1]
                refine r_goto (tgt := 8) C dX7_useOf_112 (by decide) ?_
                first
                  | exact absurd rfl c87
                  | exact absurd c87 (by decide)
                  | exact absurd c96 c69
                  | exact absurd c69 c96
                  | exact V.keep [true, true, true, true, true, true, false, false] (hA c96 (Int32.not_le.mp c79))
                  | exact V.keep [true, true, true, true, true, true, false, false] (hB c96 (Int32.not_lt.mpr c79))
                  | exact V.keep [true, true, true, true, true, true, false, false] (hC (by omega) (Int32.not_le.mp c79))
                  | exact V.keep [true, true, true, true, true, true, false, false] (hD (by omega) (Int32.not_lt.mpr c79))
              · rw [nI_eq (by omega) (by omega)] at c96
                refine r_iload C dX7_useOf_99 rfl ?_
                refine r_iconst (v := 1) C dX7_useOf_101 (by decide) ?_
                refine r_iadd C dX7_useOf_102 ?_
                rw [nI_1]
                refine r_goto (tgt := 108) C dX7_useOf_103 (by decide) ?_
                refine r_istore_n C dX7_useOf_108 rfl (by decide) ?_
                refine r_iinc (v := _ + 1) C dX7_useOf_109 rfl (by rfl) (by decide) ?_
                rw [nI_1]
                refine r_goto (tgt := 8) C dX7_useOf_112 (by decide) ?_
                first
                  | exact absurd rfl c87
                  | exact absurd c87 (by decide)
                  | exact absurd c96 c69
                  | exact absurd c69 c96
                  | exact V.keep [true, true, true, true, true, true, false, false] (hA c96 (Int32.not_le.mp c79))
                  | exact V.keep [true, true, true, true, true, true, false, false] (hB c96 (Int32.not_lt.mpr c79))
                  | exact V.keep [true, true, true, true, true, true, false, false] (hC (by omega) (Int32.not_le.mp c79))
                  | exact V.keep [true, true, true, true, true, true, false, false] (hD (by omega) (Int32.not_lt.mpr c79))
          · refine r_iconst (v := 1) C dX7_useOf_82 (by decide) ?_
            refine r_goto (tgt := 87) C dX7_useOf_83 (by decide) ?_
            refine r_icmp_ne (tgt := 93) C dX7_useOf_87 (by decide) (fun c87 => ?_) (fun c87 => ?_)
            · try rw [nI_1]
              refine r_iload_n C dX7_useOf_93 rfl rfl ?_
              refine r_iload C dX7_useOf_94 rfl ?_
              refine r_icmp_ne (tgt := 106) C dX7_useOf_96 (by decide) (fun c96 => ?_) (fun c96 => ?_)
              · rw [nI_eq (by omega) (by omega)] at c96
                refine r_iload C dX7_useOf_106 rfl ?_
                refine r_istore_n C dX7_useOf_108 rfl (by decide) ?_
                refine r_iinc (v := _ + 1) C dX7_useOf_109 rfl (by rfl) (by decide) ?_
                rw [nI_1]
                refine r_goto (tgt := 8) C dX7_useOf_112 (by decide) ?_
                first
                  | exact absurd rfl c87
                  | exact absurd c87 (by decide)
                  | exact absurd c96 c69
                  | exact absurd c69 c96
                  | exact V.keep [true, true, true, true, true, true, false, false] (hA c96 (Int32.not_le.mp c79))
                  | exact V.keep [true, true, true, true, true, true, false, false] (hB c96 (Int32.not_lt.mpr c79))
                  | exact V.keep [true, true, true, true, true, true, false, false] (hC (by omega) (Int32.not_le.mp c79))
                  | exact V.keep [true, true, true, true, true, true, false, false] (hD (by omega) (Int32.not_lt.mpr c79))
              · rw [nI_eq (by omega) (by omega)] at c96
                refine r_iload C dX7_useOf_99 rfl ?_
                refine r_iconst (v := 1) C dX7_useOf_101 (by decide) ?_
                refine r_iadd C dX7_useOf_102 ?_
                rw [nI_1]
                refine r_goto (tgt := 108) C dX7_useOf_103 (by decide) ?_
                refine r_istore_n C dX7_useOf_108 rfl (by decide) ?_
                refine r_iinc (v := _ + 1) C dX7_useOf_109 rfl (by rfl) (by decide) ?_
                rw [nI_1]
                refine r_goto (tgt := 8) C dX7_useOf_112 (by decide) ?_
                first
                  | exact absurd rfl c87
                  | exact absurd c87 (by decide)
                  | exact absurd c96 c69
                  | exact absurd c69 c96
                  | exact V.keep [true, true, true, true, true, true, false, false] (hA c96 (Int32.not_le.mp c79))
                  | exact V.keep [true, true, true, true, true, true, false, false] (hB c96 (Int32.not_lt.mpr c79))
                  | exact V.keep [true, true, true, true, true, true, false, false] (hC (by omega) (Int32.not_le.mp c79))
                  | exact V.keep [true, true, true, true, true, true, false, false] (hD (by omega) (Int32.not_lt.mpr c79))
            · refine r_iinc (v := _ + 1) C dX7_useOf_90 rfl (by rfl) (by decide) ?_
              try rw [nI_1]
              refine r_iload_n C dX7_useOf_93 rfl rfl ?_
              refine r_iload C dX7_useOf_94 rfl ?_
              refine r_icmp_ne (tgt := 106) C dX7_useOf_96 (by decide) (fun c96 => ?_) (fun c96 => ?_)
              · rw [nI_eq (by omega) (by omega)] at c96
                refine r_iload C dX7_useOf_106 rfl ?_
                refine r_istore_n C dX7_useOf_108 rfl (by decide) ?_
                refine r_iinc (v := _ + 1) C dX7_useOf_109 rfl (by rfl) (by decide) ?_
                rw [nI_1]
                refine r_goto (tgt := 8) C dX7_useOf_112 (by decide) ?_
                first
                  | exact absurd rfl c87
                  | exact absurd c87 (by decide)
                  | exact absurd c96 c69
                  | exact absurd c69 c96
                  | exact V.keep [true, true, true, true, true, true, false, false] (hA c96 (Int32.not_le.mp c79))
                  | exact V.keep [true, true, true, true, true, true, false, false] (hB c96 (Int32.not_lt.mpr c79))
                  | exact V.keep [true, true, true, true, true, true, false, false] (hC (by omega) (Int32.not_le.mp c79))
                  | exact V.keep [true, true, true, true, true, true, false, false] (hD (by omega) (Int32.not_lt.mpr c79))
              · rw [nI_eq (by omega) (by omega)] at c96
                refine r_iload C dX7_useOf_99 rfl ?_
                refine r_iconst (v := 1) C dX7_useOf_101 (by decide) ?_
                refine r_iadd C dX7_useOf_102 ?_
                rw [nI_1]
                refine r_goto (tgt := 108) C dX7_useOf_103 (by decide) ?_
                refine r_istore_n C dX7_useOf_108 rfl (by decide) ?_
                refine r_iinc (v := _ + 1) C dX7_useOf_109 rfl (by rfl) (by decide) ?_
                rw [nI_1]
                refine r_goto (tgt := 8) C dX7_useOf_112 (by decide) ?_
                first
                  | exact absurd rfl c87
                  | exact absurd c87 (by decide)
                  | exact absurd c96 c69
                  | exact absurd c69 c96
                  | exact V.keep [true, true, true, true, true, true, false, false] (hA c96 (Int32.not_le.mp c79))
                  | exact V.keep [true, true, true, true, true, true, false, false] (hB c96 (Int32.not_lt.mpr c79))
                  | exact V.keep [true, true, true, true, true, true, false, false] (hC (by omega) (Int32.not_le.mp c79))
                  | exact V.keep [true, true, true, true, true, true, false, false] (hD (by omega) (Int32.not_lt.mpr c79))
        · rw [nI_eq (by omega) (by omega)] at c69
          refine r_iconst (v := 1) C dX7_useOf_72 (by decide) ?_
          refine r_goto (tgt := 77) C dX7_useOf_73 (by decide) ?_
          refine r_iload C dX7_useOf_77 rfl ?_
          refine r_if_le (tgt := 86) C dX7_useOf_79 (by decide) (fun c79 => ?_) (fun c79 => ?_)
          · refine r_iconst (v := 0) C dX7_useOf_86 (by decide) ?_
            refine r_icmp_ne (tgt := 93) C dX7_useOf_87 (by decide) (fun c87 => ?_) (fun c87 => ?_)
            · try rw [nI_1]
              refine r_iload_n C dX7_useOf_93 rfl rfl ?_
              refine r_iload C dX7_useOf_94 rfl ?_
              refine r_icmp_ne (tgt := 106) C dX7_useOf_96 (by decide) (fun c96 => ?_) (fun c96 => ?_)
              · rw [nI_eq (by omega) (by omega)] at c96
                refine r_iload C dX7_useOf_106 rfl ?_
                refine r_istore_n C dX7_useOf_108 rfl (by decide) ?_
                refine r_iinc (v := _ + 1) C dX7_useOf_109 rfl (by rfl) (by decide) ?_
                rw [nI_1]
                refine r_goto (tgt := 8) C dX7_useOf_112 (by decide) ?_
                first
                  | exact absurd rfl c87
                  | exact absurd c87 (by decide)
                  | exact absurd c96 c69
                  | exact absurd c69 c96
                  | exact V.keep [true, true, true, true, true, true, false, false] (hA c96 (Int32.not_le.mp c79))
                  | exact V.keep [true, true, true, true, true, true, false, false] (hB c96 (Int32.not_lt.mpr c79))
                  | exact V.keep [true, true, true, true, true, true, false, false] (hC (by omega) (Int32.not_le.mp c79))
                  | exact V.keep [true, true, true, true, true, true, false, false] (hD (by omega) (Int32.not_lt.mpr c79))
              · rw [nI_eq (by omega) (by omega)] at c96
                refine r_iload C dX7_useOf_99 rfl ?_
                refine r_iconst (v := 1) C dX7_useOf_101 (by decide) ?_
                refine r_iadd C dX7_useOf_102 ?_
                rw [nI_1]
                refine r_goto (tgt := 108) C dX7_useOf_103 (by decide) ?_
                refine r_istore_n C dX7_useOf_108 rfl (by decide) ?_
                refine r_iinc (v := _ + 1) C dX7_useOf_109 rfl (by rfl) (by decide) ?_
                rw [nI_1]
                refine r_goto (tgt := 8) C dX7_useOf_112 (by decide) ?_
                first
                  | exact absurd rfl c87
                  | exact absurd c87 (by decide)
                  | exact absurd c96 c69
                  | exact absurd c69 c96
                  | exact V.keep [true, true, true, true, true, true, false, false] (hA c96 (Int32.not_le.mp c79))
                  | exact V.keep [true, true, true, true, true, true, false, false] (hB c96 (Int32.not_lt.mpr c79))
                  | exact V.keep [true, true, true, true, true, true, false, false] (hC (by omega) (Int32.not_le.mp c79))
                  | exact V.keep [true, true, true, true, true, true, false, false] (hD (by omega) (Int32.not_lt.mpr c79))
            · refine r_iinc (v := _ + 1) C dX7_useOf_90 rfl (by rfl) (by decide) ?_
              try rw [nI_1]
              refine r_iload_n C dX7_useOf_93 rfl rfl ?_
              refine r_iload C dX7_useOf_94 rfl ?_
              refine r_icmp_ne (tgt := 106) C dX7_useOf_96 (by decide) (fun c96 => ?_) (fun c96 => ?_)
              · rw [nI_eq (by omega) (by omega)] at c96
                refine r_iload C dX7_useOf_106 rfl ?_
                refine r_istore_n C dX7_useOf_108 rfl (by decide) ?_
                refine r_iinc (v := _ + 1) C dX7_useOf_109 rfl (by rfl) (by decide) ?_
                rw [nI_1]
                refine r_goto (tgt := 8) C dX7_useOf_112 (by decide) ?_
                first
                  | exact absurd rfl c87
                  | exact absurd c87 (by decide)
                  | exact absurd c96 c69
                  | exact absurd c69 c96
                  | exact V.keep [true, true, true, true, true, true, false, false] (hA c96 (Int32.not_le.mp c79))
                  | exact V.keep [true, true, true, true, true, true, false, false] (hB c96 (Int32.not_lt.mpr c79))
                  | exact V.keep [true, true, true, true, true, true, false, false] (hC (by omega) (Int32.not_le.mp c79))
                  | exact V.keep [true, true, true, true, true, true, false, false] (hD (by omega) (Int32.not_lt.mpr c79))
              · rw [nI_eq (by omega) (by omega)] at c96
                refine r_iload C dX7_useOf_99 rfl ?_
                refine r_iconst (v := 1) C dX7_useOf_101 (by decide) ?_
                refine r_iadd C dX7_useOf_102 ?_
                rw [nI_1]
                refine r_goto (tgt := 108) C dX7_useOf_103 (by decide) ?_
                refine r_istore_n C dX7_useOf_108 rfl (by decide) ?_
                refine r_iinc (v := _ + 1) C dX7_useOf_109 rfl (by rfl) (by decide) ?_
                rw [nI_1]
                refine r_goto (tgt := 8) C dX7_useOf_112 (by decide) ?_
                first
                  | exact absurd rfl c87
                  | exact absurd c87 (by decide)
                  | exact absurd c96 c69
                  | exact absurd c69 c96
                  | exact V.keep [true, true, true, true, true, true, false, false] (hA c96 (Int32.not_le.mp c79))
                  | exact V.keep [true, true, true, true, true, true, false, false] (hB c96 (Int32.not_lt.mpr c79))
                  | exact V.keep [true, true, true, true, true, true, false, false] (hC (by omega) (Int32.not_le.mp c79))
                  | exact V.keep [true, true, true, true, true, true, false, false] (hD (by omega) (Int32.not_lt.mpr c79))
          · refine r_iconst (v := 1) C dX7_useOf_82 (by decide) ?_
            refine r_goto (tgt := 87) C dX7_useOf_83 (by decide) ?_
            refine r_icmp_ne (tgt := 93) C dX7_useOf_87 (by decide) (fun c87 => ?_) (fun c87 => ?_)
            · try rw [nI_1]
              refine r_iload_n C dX7_useOf_93 rfl rfl ?_
              refine r_iload C dX7_useOf_94 rfl ?_
              refine r_icmp_ne (tgt := 106) C dX7_useOf_96 (by decide) (fun c96 => ?_) (fun c96 => ?_)
              · rw [nI_eq (by omega) (by omega)] at c96
                refine r_iload C dX7_useOf_106 rfl ?_
                refine r_istore_n C dX7_useOf_108 rfl (by decide) ?_
                refine r_iinc (v := _ + 1) C dX7_useOf_109 rfl (by rfl) (by decide) ?_
                rw [nI_1]
                refine r_goto (tgt := 8) C dX7_useOf_112 (by decide) ?_
                first
                  | exact absurd rfl c87
                  | exact absurd c87 (by decide)
                  | exact absurd c96 c69
                  | exact absurd c69 c96
                  | exact V.keep [true, true, true, true, true, true, false, false] (hA c96 (Int32.not_le.mp c79))
                  | exact V.keep [true, true, true, true, true, true, false, false] (hB c96 (Int32.not_lt.mpr c79))
                  | exact V.keep [true, true, true, true, true, true, false, false] (hC (by omega) (Int32.not_le.mp c79))
                  | exact V.keep [true, true, true, true, true, true, false, false] (hD (by omega) (Int32.not_lt.mpr c79))
              · rw [nI_eq (by omega) (by omega)] at c96
                refine r_iload C dX7_useOf_99 rfl ?_
                refine r_iconst (v := 1) C dX7_useOf_101 (by decide) ?_
                refine r_iadd C dX7_useOf_102 ?_
                rw [nI_1]
                refine r_goto (tgt := 108) C dX7_useOf_103 (by decide) ?_
                refine r_istore_n C dX7_useOf_108 rfl (by decide) ?_
                refine r_iinc (v := _ + 1) C dX7_useOf_109 rfl (by rfl) (by decide) ?_
                rw [nI_1]
                refine r_goto (tgt := 8) C dX7_useOf_112 (by decide) ?_
                first
                  | exact absurd rfl c87
                  | exact absurd c87 (by decide)
                  | exact absurd c96 c69
                  | exact absurd c69 c96
                  | exact V.keep [true, true, true, true, true, true, false, false] (hA c96 (Int32.not_le.mp c79))
                  | exact V.keep [true, true, true, true, true, true, false, false] (hB c96 (Int32.not_lt.mpr c79))
                  | exact V.keep [true, true, true, true, true, true, false, false] (hC (by omega) (Int32.not_le.mp c79))
                  | exact V.keep [true, true, true, true, true, true, false, false] (hD (by omega) (Int32.not_lt.mpr c79))
            · refine r_iinc (v := _ + 1) C dX7_useOf_90 rfl (by rfl) (by decide) ?_
              try rw [nI_1]
              refine r_iload_n C dX7_useOf_93 rfl rfl ?_
              refine r_iload C dX7_useOf_94 rfl ?_
              refine r_icmp_ne (tgt := 106) C dX7_useOf_96 (by decide) (fun c96 => ?_) (fun c96 => ?_)
              · rw [nI_eq (by omega) (by omega)] at c96
                refine r_iload C dX7_useOf_106 rfl ?_
                refine r_istore_n C dX7_useOf_108 rfl (by decide) ?_
                refine r_iinc (v := _ + 1) C dX7_useOf_109 rfl (by rfl) (by decide) ?_
                rw [nI_1]
                refine r_goto (tgt := 8) C dX7_useOf_112 (by decide) ?_
                first
                  | exact absurd rfl c87
                  | exact absurd c87 (by decide)
                  | exact absurd c96 c69
                  | exact absurd c69 c96
                  | exact V.keep [true, true, true, true, true, true, false, false] (hA c96 (Int32.not_le.mp c79))
                  | exact V.keep [true, true, true, true, true, true, false, false] (hB c96 (Int32.not_lt.mpr c79))
                  | exact V.keep [true, true, true, true, true, true, false, false] (hC (by omega) (Int32.not_le.mp c79))
                  | exact V.keep [true, true, true, true, true, true, false, false] (hD (by omega) (Int32.not_lt.mpr c79))
              · rw [nI_eq (by omega) (by omega)] at c96
                refine r_iload C dX7_useOf_99 rfl ?_
                refine r_iconst (v := 1) C dX7_useOf_101 (by decide) ?_
                refine r_iadd C dX7_useOf_102 ?_
                rw [nI_1]
                refine r_goto (tgt := 108) C dX7_useOf_103 (by decide) ?_
                refine r_istore_n C dX7_useOf_108 rfl (by decide) ?_
                refine r_iinc (v := _ + 1) C dX7_useOf_109 rfl (by rfl) (by decide) ?_
                rw [nI_1]
                refine r_goto (tgt := 8) C dX7_useOf_112 (by decide) ?_
                first
                  | exact absurd rfl c87
                  | exact absurd c87 (by decide)
                  | exact absurd c96 c69
                  | exact absurd c69 c96
                  | exact V.keep [true, true, true, true, true, true, false, false] (hA c96 (Int32.not_le.mp c79))
                  | exact V.keep [true, true, true, true, true, true, false, false] (hB c96 (Int32.not_lt.mpr c79))
                  | exact V.keep [true, true, true, true, true, true, false, false] (hC (by omega) (Int32.not_le.mp c79))
                  | exact V.keep [true, true, true, true, true, true, false, false] (hD (by omega) (Int32.not_lt.mpr c79))
      have j49 : V X 0 0 49 [some (.ref h), some (.int (nI j)), some (.int (nI p)), some (.int (nI g)), some (.int (nI (usF c p i))), some (.int (nI i)), some (.int (c i)), some (.int (nI i0))] [] (mW G h ad M R) := by
        refine r_iload_n C dX7_useOf_49 rfl rfl ?_
        refine r_iload C dX7_useOf_50 rfl ?_
        refine r_icmp_eq (tgt := 66) C dX7_useOf_52 (by decide) (fun c52 => ?_) (fun c52 => ?_)
        · first
            | exact j66 (Or.inl ((nI_eq (by omega) (by omega)).mp c52))
            | exact j66 (Or.inr ((nI_eq (by omega) (by omega)).mp c60))
        · rw [nI_eq (by omega) (by omega)] at c52
          refine r_iload_n C dX7_useOf_55 rfl rfl ?_
          refine r_iload C dX7_useOf_56 rfl ?_
          refine r_iconst (v := 1) C dX7_useOf_58 (by decide) ?_
          refine r_iadd C dX7_useOf_59 ?_
          rw [nI_1]
          refine r_icmp_eq (tgt := 66) C dX7_useOf_60 (by decide) (fun c60 => ?_) (fun c60 => ?_)
          · first
              | exact j66 (Or.inl ((nI_eq (by omega) (by omega)).mp c52))
              | exact j66 (Or.inr ((nI_eq (by omega) (by omega)).mp c60))
          · rw [nI_eq (by omega) (by omega)] at c60
            refine r_goto (tgt := 109) C dX7_useOf_63 (by decide) ?_
            refine r_iinc (v := _ + 1) C dX7_useOf_109 rfl (by rfl) (by decide) ?_
            rw [nI_1]
            refine r_goto (tgt := 8) C dX7_useOf_112 (by decide) ?_
            exact V.keep [true, true, true, true, true, true, false, false] (hE c52 c60)
      refine r_iload C dX7_useOf_8 rfl ?_
      refine r_aload_n C dX7_useOf_10 rfl rfl ?_
      refine mg_sizes C dX7_useOf_11 ?_
      refine r_iload_n C dX7_useOf_14 rfl rfl ?_
      refine ml_sizes C dX7_useOf_15 (vp_in_nI hj (by decide)) ?_
      rw [nI_clamp (by omega), hz]
      refine r_icmp_ge (tgt := 115) C dX7_useOf_16 (by decide) (fun c16 => absurd c16 ((nI_ge (by omega) (by omega)))) (fun c16 => ?_)
      refine r_aload_n C dX7_useOf_19 rfl rfl ?_
      refine mg_rows C dX7_useOf_20 ?_
      refine r_sipush (v := 300) C dX7_useOf_23 (by decide) ?_
      refine r_iload_n C dX7_useOf_26 rfl rfl ?_
      refine r_imul C dX7_useOf_27 ?_
      refine r_iload C dX7_useOf_28 rfl ?_
      refine r_iadd C dX7_useOf_30 ?_
      show V X 0 0 31 _ [.int (nI 300 * nI j + nI i), .ref (ad 7)] _
      rw [pk_mul, nI_add]
      refine ml_rows C dX7_useOf_31 (vp_in_nI (show 300 * j + i < 2400 by omega) (by decide)) ?_
      rw [nI_clamp (by omega), hrow]
      refine r_istore C dX7_useOf_32 (by decide) ?_
      rcases hci with hci | hci <;> rw [hci] at j49 ⊢
      · refine r_iload C dX7_useOf_34 rfl ?_
        refine r_if_le (tgt := 44) C dX7_useOf_36 (by decide) (fun c36 => absurd c36 ((Int32.not_le.mpr (pos_nI hi1 (by omega))))) (fun c36 => ?_)
        refine r_iload C dX7_useOf_39 rfl ?_
        refine r_goto (tgt := 47) C dX7_useOf_41 (by decide) ?_
        refine r_istore C dX7_useOf_47 (by decide) ?_
        exact j49
      · refine r_iload C dX7_useOf_34 rfl ?_
        refine r_if_le (tgt := 44) C dX7_useOf_36 (by decide) (fun c36 => ?_) (fun c36 => absurd c36 ((fun q => q (Int32.le_of_lt (neg_lt0 hi1 (by omega))))))
        refine r_iload C dX7_useOf_44 rfl ?_
        refine r_ineg C dX7_useOf_46 ?_
        rw [Int32.neg_neg]
        refine r_istore C dX7_useOf_47 (by decide) ?_
        exact j49
  refine r_iload_n C dX7_useOf_0 rfl rfl ?_
  refine r_istore_n C dX7_useOf_1 rfl (by decide) ?_
  refine r_iconst (v := 0) C dX7_useOf_2 (by decide) ?_
  refine r_istore C dX7_useOf_3 (by decide) ?_
  refine r_iconst (v := 0) C dX7_useOf_5 (by decide) ?_
  refine r_istore C dX7_useOf_6 (by decide) ?_
  exact key z 0 (by omega)
theorem c_isInTurn {j s z p m : Nat} (hj : j < 8) (hp : PatOK R j s z) (h1 : 1 ≤ p) (h2 : p ≤ s) (hm : m ≤ 1000) : mI G h ad yX7_isInTurn cX7_isInTurn 12 .boolean 0 [.int (nI j), .int (nI p), .int (nI m)] M R (fun r M' R' => r = itR (itt (rowOf R j) z p m) ∧ M' = M ∧ R' = R) := by
  refine mI.intro (by decide) (Nat.le_of_ble_eq_true rfl) (cat1 (xs := [nI j, nI p, nI m])) fun X C hR => ?_
  obtain ⟨hs5, hs2, hs7, hz, hz3, hok⟩ := id hp
  obtain ⟨c, hc⟩ : ∃ c, c = rowOf R j := ⟨_, rfl⟩
  have hrow : ∀ (i : Nat), R 7 (300 * j + i) = c i := fun i => by rw [hc]; rfl
  rw [← hc] at hR hok
  have key : ∀ (f t : Nat) (q : ItT), t + f = m → itt c z p t = some q → (1 ≤ q.1 ∧ q.1 ≤ s) → (q.2.1 ≤ 2 ∧ q.2.2 ≤ 2) → V X 0 0 12 [some (.ref h), some (.int (nI j)), some (.int (nI p)), some (.int (nI m)), some (.int (nI q.1)), some (.int (nI q.2.1)), some (.int (nI q.2.2)), some (.int (nI t)), none, none, none, none] [] (mW G h ad M R) := by
    intro f
    induction f with
    | zero =>
      intro t q ht hq hq1 hq2
      have htm : t = m := by omega
      subst htm
      refine r_iload C dX7_isInTurn_12 rfl ?_
      refine r_iload_n C dX7_isInTurn_14 rfl rfl ?_
      refine r_icmp_ge (tgt := 165) C dX7_isInTurn_15 (by decide) (fun c15 => ?_) (fun c15 => absurd c15 ((fun q => q (nI_le (by omega) (by omega)))))
      refine r_iload C dX7_isInTurn_165 rfl ?_
      refine r_if_eq (tgt := 177) C dX7_isInTurn_167 (by decide) (fun c167 => ?_) (fun c167 => ?_)
      · refine r_iconst (v := 1) C dX7_isInTurn_177 (by decide) ?_
        refine r_goto (tgt := 182) C dX7_isInTurn_178 (by decide) ?_
        exact hR _ _ _ _ _ rfl dX7_isInTurn_182 ⟨by
          rw [hq]
          show _ = if q.2.1 = 0 ∨ q.2.1 ≠ q.2.2 then (1 : Int32) else 0
          first
            | (rw [if_pos (Or.inl ((nI_eq (b := 0) (by omega) (by decide)).mp c167))]; done)
            | (rw [if_neg (fun o => o.elim (fun o => c167 (by rw [o]; rfl)) (fun o => o ((nI_eq (by omega) (by omega)).mp c174)))]; done)
            | (rw [if_pos (Or.inr (fun o => c174 (by rw [o])))]; done), rfl, rfl⟩
      · refine r_iload C dX7_isInTurn_170 rfl ?_
        refine r_iload C dX7_isInTurn_172 rfl ?_
        refine r_icmp_eq (tgt := 181) C dX7_isInTurn_174 (by decide) (fun c174 => ?_) (fun c174 => ?_)
        · refine r_iconst (v := 0) C dX7_isInTurn_181 (by decide) ?_
          exact hR _ _ _ _ _ rfl dX7_isInTurn_182 ⟨by
            rw [hq]
            show _ = if q.2.1 = 0 ∨ q.2.1 ≠ q.2.2 then (1 : Int32) else 0
            first
              | (rw [if_pos (Or.inl ((nI_eq (b := 0) (by omega) (by decide)).mp c167))]; done)
              | (rw [if_neg (fun o => o.elim (fun o => c167 (by rw [o]; rfl)) (fun o => o ((nI_eq (by omega) (by omega)).mp c174)))]; done)
              | (rw [if_pos (Or.inr (fun o => c174 (by rw [o])))]; done), rfl, rfl⟩
        · refine r_iconst (v := 1) C dX7_isInTurn_177 (by decide) ?_
          refine r_goto (tgt := 182) C dX7_isInTurn_178 (by decide) ?_
          exact hR _ _ _ _ _ rfl dX7_isInTurn_182 ⟨by
            rw [hq]
            show _ = if q.2.1 = 0 ∨ q.2.1 ≠ q.2.2 then (1 : Int32) else 0
            first
              | (rw [if_pos (Or.inl ((nI_eq (b := 0) (by omega) (by decide)).mp c167))]; done)
              | (rw [if_neg (fun o => o.elim (fun o => c167 (by rw [o]; rfl)) (fun o => o ((nI_eq (by omega) (by omega)).mp c174)))]; done)
              | (rw [if_pos (Or.inr (fun o => c174 (by rw [o])))]; done), rfl, rfl⟩
    | succ f ih =>
      intro t q ht hq hq1 hq2
      have inner : ∀ (f' i : Nat) (q : ItT), i + f' = z → itj c (itt c z p t) i = some q → (1 ≤ q.1 ∧ q.1 ≤ s) → (q.2.1 ≤ 2 ∧ q.2.2 ≤ 2) → V X 0 0 21 [some (.ref h), some (.int (nI j)), some (.int (nI p)), some (.int (nI m)), some (.int (nI q.1)), some (.int (nI q.2.1)), some (.int (nI q.2.2)), some (.int (nI t)), some (.int (nI i)), none, none, none] [] (mW G h ad M R) := by
        intro f'
        induction f' with
        | zero =>
          intro i q hi hq hq1 hq2
          have hiz : i = z := by omega
          subst hiz
          refine r_iload C dX7_isInTurn_21 rfl ?_
          refine r_aload_n C dX7_isInTurn_23 rfl rfl ?_
          refine mg_sizes C dX7_isInTurn_24 ?_
          refine r_iload_n C dX7_isInTurn_27 rfl rfl ?_
          refine ml_sizes C dX7_isInTurn_28 (vp_in_nI hj (by decide)) ?_
          rw [nI_clamp (by omega), hz]
          refine r_icmp_ge (tgt := 159) C dX7_isInTurn_29 (by decide) (fun c29 => ?_) (fun c29 => absurd c29 ((fun q => q (nI_le (by omega) (by omega)))))
          refine r_iinc (v := _ + 1) C dX7_isInTurn_159 rfl (by rfl) (by decide) ?_
          rw [nI_1]
          refine r_goto (tgt := 12) C dX7_isInTurn_162 (by decide) ?_
          exact V.keep [true, true, true, true, true, true, true, true, false, false, false, false] (ih (t + 1) q (by omega) hq hq1 hq2)
        | succ f' ih' =>
          intro i q hi hq hq1 hq2
          obtain ⟨i0, hi1, hi2, hci⟩ := hok i (by omega)
          have hai : ai (c i) = i0 := by rcases hci with hci | hci <;> rw [hci] <;> first | exact ai_nI (by omega) | exact ai_neg (by omega)
          have hst : itj c (itt c z p t) (i + 1) = itS (c i) q := by show (itj c (itt c z p t) i).bind (itS (c i)) = _; rw [hq]; rfl
          obtain ⟨x, fi, la⟩ := q
          dsimp only at hq hq1 hq2 hst ⊢
          have hno : itS (c i) (x, fi, la) = none → itt c z p m = none := by
            intro e
            have e1 := itj_none (hst.trans e) (z - (i + 1))
            rw [show i + 1 + (z - (i + 1)) = z by omega] at e1
            have e2 := itt_none (t := t + 1) e1 (m - (t + 1))
            rw [show t + 1 + (m - (t + 1)) = m by omega] at e2
            exact e2
          have go : ∀ (q' : ItT) (a b d e : Option Value), itS (c i) (x, fi, la) = some q' → V X 0 0 156 [some (.ref h), some (.int (nI j)), some (.int (nI p)), some (.int (nI m)), some (.int (nI q'.1)), some (.int (nI q'.2.1)), some (.int (nI q'.2.2)), some (.int (nI t)), some (.int (nI (i + 1))), a, b, d] [] (mW G h ad M R) := by
            intro q' a b d e hq'
            have hin := itS_in (hok i (by omega)) hs7 hq1 hq2 hq'
            have nx := ih' (i + 1) q' (by omega) (hst.trans hq') hin.1 hin.2
            refine r_goto (tgt := 21) C dX7_isInTurn_156 (by decide) ?_
            exact V.keep [true, true, true, true, true, true, true, true, true, false, false, false] nx
          have j113 : ∀ l : Nat, sd x (c i) = l → (l = 1 ∨ l = 2) → (x = i0 ∨ x = i0 + 1) → V X 0 0 113 [some (.ref h), some (.int (nI j)), some (.int (nI p)), some (.int (nI m)), some (.int (nI x)), some (.int (nI fi)), some (.int (nI la)), some (.int (nI t)), some (.int (nI i)), some (.int (c i)), some (.int (nI i0)), some (.int (nI l))] [] (mW G h ad M R) := by
            intro l hl hl12 hxi
            have hS : itS (c i) (x, fi, la) = if l = la then none else some (sw i0 x, if fi = 0 then l else fi, l) := by
              unfold itS
              dsimp only
              rw [hl, if_neg (by omega), hai]
            refine r_iload C dX7_isInTurn_113 rfl ?_
            refine r_iload C dX7_isInTurn_115 rfl ?_
            refine r_icmp_ne (tgt := 122) C dX7_isInTurn_117 (by decide) (fun c117 => ?_) (fun c117 => ?_)
            · rw [nI_eq (by omega) (by omega)] at c117
              rw [if_neg c117] at hS
              refine r_iload C dX7_isInTurn_122 rfl ?_
              refine r_if_ne (tgt := 131) C dX7_isInTurn_124 (by decide) (fun c124 => ?_) (fun c124 => ?_)
              · refine r_iload C dX7_isInTurn_131 rfl ?_
                refine r_istore C dX7_isInTurn_133 (by decide) ?_
                refine r_iload C dX7_isInTurn_135 rfl ?_
                refine r_iload C dX7_isInTurn_137 rfl ?_
                refine r_icmp_ne (tgt := 149) C dX7_isInTurn_139 (by decide) (fun c139 => ?_) (fun c139 => ?_)
                · rw [nI_eq (by omega) (by omega)] at c139
                  rw [show sw i0 x = i0 by rw [show x = i0 + 1 by omega, sw_r]] at hS
                  refine r_iload C dX7_isInTurn_149 rfl ?_
                  refine r_istore C dX7_isInTurn_151 (by decide) ?_
                  refine r_iinc (v := _ + 1) C dX7_isInTurn_153 rfl (by rfl) (by decide) ?_
                  rw [nI_1]
                  first
                    | exact go _ _ _ _ none hS
                    | (rw [if_neg (fun e => c124 (by rw [e]; rfl))] at hS; exact go _ _ _ _ none hS)
                · rw [nI_eq (by omega) (by omega)] at c139
                  rw [show sw i0 x = i0 + 1 by rw [c139, sw_l]] at hS
                  refine r_iload C dX7_isInTurn_142 rfl ?_
                  refine r_iconst (v := 1) C dX7_isInTurn_144 (by decide) ?_
                  refine r_iadd C dX7_isInTurn_145 ?_
                  rw [nI_1]
                  refine r_goto (tgt := 151) C dX7_isInTurn_146 (by decide) ?_
                  refine r_istore C dX7_isInTurn_151 (by decide) ?_
                  refine r_iinc (v := _ + 1) C dX7_isInTurn_153 rfl (by rfl) (by decide) ?_
                  rw [nI_1]
                  first
                    | exact go _ _ _ _ none hS
                    | (rw [if_neg (fun e => c124 (by rw [e]; rfl))] at hS; exact go _ _ _ _ none hS)
              · have hf0 : fi = 0 := (nI_eq (b := 0) (by omega) (by decide)).mp c124
                rw [if_pos hf0] at hS
                refine r_iload C dX7_isInTurn_127 rfl ?_
                refine r_istore C dX7_isInTurn_129 (by decide) ?_
                refine r_iload C dX7_isInTurn_131 rfl ?_
                refine r_istore C dX7_isInTurn_133 (by decide) ?_
                refine r_iload C dX7_isInTurn_135 rfl ?_
                refine r_iload C dX7_isInTurn_137 rfl ?_
                refine r_icmp_ne (tgt := 149) C dX7_isInTurn_139 (by decide) (fun c139 => ?_) (fun c139 => ?_)
                · rw [nI_eq (by omega) (by omega)] at c139
                  rw [show sw i0 x = i0 by rw [show x = i0 + 1 by omega, sw_r]] at hS
                  refine r_iload C dX7_isInTurn_149 rfl ?_
                  refine r_istore C dX7_isInTurn_151 (by decide) ?_
                  refine r_iinc (v := _ + 1) C dX7_isInTurn_153 rfl (by rfl) (by decide) ?_
                  rw [nI_1]
                  first
                    | exact go _ _ _ _ none hS
                    | (rw [if_neg (fun e => c124 (by rw [e]; rfl))] at hS; exact go _ _ _ _ none hS)
                · rw [nI_eq (by omega) (by omega)] at c139
                  rw [show sw i0 x = i0 + 1 by rw [c139, sw_l]] at hS
                  refine r_iload C dX7_isInTurn_142 rfl ?_
                  refine r_iconst (v := 1) C dX7_isInTurn_144 (by decide) ?_
                  refine r_iadd C dX7_isInTurn_145 ?_
                  rw [nI_1]
                  refine r_goto (tgt := 151) C dX7_isInTurn_146 (by decide) ?_
                  refine r_istore C dX7_isInTurn_151 (by decide) ?_
                  refine r_iinc (v := _ + 1) C dX7_isInTurn_153 rfl (by rfl) (by decide) ?_
                  rw [nI_1]
                  first
                    | exact go _ _ _ _ none hS
                    | (rw [if_neg (fun e => c124 (by rw [e]; rfl))] at hS; exact go _ _ _ _ none hS)
            · rw [nI_eq (by omega) (by omega)] at c117
              refine r_iconst (v := 0) C dX7_isInTurn_120 (by decide) ?_
              exact hR _ _ _ _ _ rfl dX7_isInTurn_121 ⟨by rw [hno (by rw [hS, if_pos c117])]; rfl, rfl, rfl⟩
          have j81 : (x = i0 ∨ x = i0 + 1) → V X 0 0 81 [some (.ref h), some (.int (nI j)), some (.int (nI p)), some (.int (nI m)), some (.int (nI x)), some (.int (nI fi)), some (.int (nI la)), some (.int (nI t)), some (.int (nI i)), some (.int (c i)), some (.int (nI i0)), none] [] (mW G h ad M R) := by
            intro hxi
            refine r_iload C dX7_isInTurn_81 rfl ?_
            refine r_iload C dX7_isInTurn_83 rfl ?_
            refine r_icmp_ne (tgt := 92) C dX7_isInTurn_85 (by decide) (fun c85 => ?_) (fun c85 => ?_)
            · rw [nI_eq (by omega) (by omega)] at c85
              refine r_iconst (v := 0) C dX7_isInTurn_92 (by decide) ?_
              refine r_iload C dX7_isInTurn_93 rfl ?_
              refine r_if_le (tgt := 102) C dX7_isInTurn_95 (by decide) (fun c95 => ?_) (fun c95 => ?_)
              · refine r_iconst (v := 0) C dX7_isInTurn_102 (by decide) ?_
                refine r_icmp_ne (tgt := 110) C dX7_isInTurn_103 (by decide) (fun c103 => ?_) (fun c103 => ?_)
                · refine r_iconst (v := 2) C dX7_isInTurn_110 (by decide) ?_
                  refine r_istore C dX7_isInTurn_111 (by decide) ?_
                  first
                    | exact absurd rfl c103
                    | exact absurd c103 (by decide)
                    | exact j113 1 (sd_ov (Or.inl ⟨by rw [hai]; exact c85, Int32.not_le.mp c95⟩)) (Or.inl rfl) hxi
                    | exact j113 1 (sd_ov (Or.inr ⟨by rw [hai]; omega, Int32.not_lt.mpr c95⟩)) (Or.inl rfl) hxi
                    | exact j113 2 (sd_un (Or.inl ⟨by rw [hai]; exact c85, Int32.not_lt.mpr c95⟩)) (Or.inr rfl) hxi
                    | exact j113 2 (sd_un (Or.inr ⟨by rw [hai]; omega, Int32.not_le.mp c95⟩)) (Or.inr rfl) hxi
                · refine r_iconst (v := 1) C dX7_isInTurn_106 (by decide) ?_
                  refine r_goto (tgt := 111) C dX7_isInTurn_107 (by decide) ?_
                  refine r_istore C dX7_isInTurn_111 (by decide) ?_
                  first
                    | exact absurd rfl c103
                    | exact absurd c103 (by decide)
                    | exact j113 1 (sd_ov (Or.inl ⟨by rw [hai]; exact c85, Int32.not_le.mp c95⟩)) (Or.inl rfl) hxi
                    | exact j113 1 (sd_ov (Or.inr ⟨by rw [hai]; omega, Int32.not_lt.mpr c95⟩)) (Or.inl rfl) hxi
                    | exact j113 2 (sd_un (Or.inl ⟨by rw [hai]; exact c85, Int32.not_lt.mpr c95⟩)) (Or.inr rfl) hxi
                    | exact j113 2 (sd_un (Or.inr ⟨by rw [hai]; omega, Int32.not_le.mp c95⟩)) (Or.inr rfl) hxi
              · refine r_iconst (v := 1) C dX7_isInTurn_98 (by decide) ?_
                refine r_goto (tgt := 103) C dX7_isInTurn_99 (by decide) ?_
                refine r_icmp_ne (tgt := 110) C dX7_isInTurn_103 (by decide) (fun c103 => ?_) (fun c103 => ?_)
                · refine r_iconst (v := 2) C dX7_isInTurn_110 (by decide) ?_
                  refine r_istore C dX7_isInTurn_111 (by decide) ?_
                  first
                    | exact absurd rfl c103
                    | exact absurd c103 (by decide)
                    | exact j113 1 (sd_ov (Or.inl ⟨by rw [hai]; exact c85, Int32.not_le.mp c95⟩)) (Or.inl rfl) hxi
                    | exact j113 1 (sd_ov (Or.inr ⟨by rw [hai]; omega, Int32.not_lt.mpr c95⟩)) (Or.inl rfl) hxi
                    | exact j113 2 (sd_un (Or.inl ⟨by rw [hai]; exact c85, Int32.not_lt.mpr c95⟩)) (Or.inr rfl) hxi
                    | exact j113 2 (sd_un (Or.inr ⟨by rw [hai]; omega, Int32.not_le.mp c95⟩)) (Or.inr rfl) hxi
                · refine r_iconst (v := 1) C dX7_isInTurn_106 (by decide) ?_
                  refine r_goto (tgt := 111) C dX7_isInTurn_107 (by decide) ?_
                  refine r_istore C dX7_isInTurn_111 (by decide) ?_
                  first
                    | exact absurd rfl c103
                    | exact absurd c103 (by decide)
                    | exact j113 1 (sd_ov (Or.inl ⟨by rw [hai]; exact c85, Int32.not_le.mp c95⟩)) (Or.inl rfl) hxi
                    | exact j113 1 (sd_ov (Or.inr ⟨by rw [hai]; omega, Int32.not_lt.mpr c95⟩)) (Or.inl rfl) hxi
                    | exact j113 2 (sd_un (Or.inl ⟨by rw [hai]; exact c85, Int32.not_lt.mpr c95⟩)) (Or.inr rfl) hxi
                    | exact j113 2 (sd_un (Or.inr ⟨by rw [hai]; omega, Int32.not_le.mp c95⟩)) (Or.inr rfl) hxi
            · rw [nI_eq (by omega) (by omega)] at c85
              refine r_iconst (v := 1) C dX7_isInTurn_88 (by decide) ?_
              refine r_goto (tgt := 93) C dX7_isInTurn_89 (by decide) ?_
              refine r_iload C dX7_isInTurn_93 rfl ?_
              refine r_if_le (tgt := 102) C dX7_isInTurn_95 (by decide) (fun c95 => ?_) (fun c95 => ?_)
              · refine r_iconst (v := 0) C dX7_isInTurn_102 (by decide) ?_
                refine r_icmp_ne (tgt := 110) C dX7_isInTurn_103 (by decide) (fun c103 => ?_) (fun c103 => ?_)
                · refine r_iconst (v := 2) C dX7_isInTurn_110 (by decide) ?_
                  refine r_istore C dX7_isInTurn_111 (by decide) ?_
                  first
                    | exact absurd rfl c103
                    | exact absurd c103 (by decide)
                    | exact j113 1 (sd_ov (Or.inl ⟨by rw [hai]; exact c85, Int32.not_le.mp c95⟩)) (Or.inl rfl) hxi
                    | exact j113 1 (sd_ov (Or.inr ⟨by rw [hai]; omega, Int32.not_lt.mpr c95⟩)) (Or.inl rfl) hxi
                    | exact j113 2 (sd_un (Or.inl ⟨by rw [hai]; exact c85, Int32.not_lt.mpr c95⟩)) (Or.inr rfl) hxi
                    | exact j113 2 (sd_un (Or.inr ⟨by rw [hai]; omega, Int32.not_le.mp c95⟩)) (Or.inr rfl) hxi
                · refine r_iconst (v := 1) C dX7_isInTurn_106 (by decide) ?_
                  refine r_goto (tgt := 111) C dX7_isInTurn_107 (by decide) ?_
                  refine r_istore C dX7_isInTurn_111 (by decide) ?_
                  first
                    | exact absurd rfl c103
                    | exact absurd c103 (by decide)
                    | exact j113 1 (sd_ov (Or.inl ⟨by rw [hai]; exact c85, Int32.not_le.mp c95⟩)) (Or.inl rfl) hxi
                    | exact j113 1 (sd_ov (Or.inr ⟨by rw [hai]; omega, Int32.not_lt.mpr c95⟩)) (Or.inl rfl) hxi
                    | exact j113 2 (sd_un (Or.inl ⟨by rw [hai]; exact c85, Int32.not_lt.mpr c95⟩)) (Or.inr rfl) hxi
                    | exact j113 2 (sd_un (Or.inr ⟨by rw [hai]; omega, Int32.not_le.mp c95⟩)) (Or.inr rfl) hxi
              · refine r_iconst (v := 1) C dX7_isInTurn_98 (by decide) ?_
                refine r_goto (tgt := 103) C dX7_isInTurn_99 (by decide) ?_
                refine r_icmp_ne (tgt := 110) C dX7_isInTurn_103 (by decide) (fun c103 => ?_) (fun c103 => ?_)
                · refine r_iconst (v := 2) C dX7_isInTurn_110 (by decide) ?_
                  refine r_istore C dX7_isInTurn_111 (by decide) ?_
                  first
                    | exact absurd rfl c103
                    | exact absurd c103 (by decide)
                    | exact j113 1 (sd_ov (Or.inl ⟨by rw [hai]; exact c85, Int32.not_le.mp c95⟩)) (Or.inl rfl) hxi
                    | exact j113 1 (sd_ov (Or.inr ⟨by rw [hai]; omega, Int32.not_lt.mpr c95⟩)) (Or.inl rfl) hxi
                    | exact j113 2 (sd_un (Or.inl ⟨by rw [hai]; exact c85, Int32.not_lt.mpr c95⟩)) (Or.inr rfl) hxi
                    | exact j113 2 (sd_un (Or.inr ⟨by rw [hai]; omega, Int32.not_le.mp c95⟩)) (Or.inr rfl) hxi
                · refine r_iconst (v := 1) C dX7_isInTurn_106 (by decide) ?_
                  refine r_goto (tgt := 111) C dX7_isInTurn_107 (by decide) ?_
                  refine r_istore C dX7_isInTurn_111 (by decide) ?_
                  first
                    | exact absurd rfl c103
                    | exact absurd c103 (by decide)
                    | exact j113 1 (sd_ov (Or.inl ⟨by rw [hai]; exact c85, Int32.not_le.mp c95⟩)) (Or.inl rfl) hxi
                    | exact j113 1 (sd_ov (Or.inr ⟨by rw [hai]; omega, Int32.not_lt.mpr c95⟩)) (Or.inl rfl) hxi
                    | exact j113 2 (sd_un (Or.inl ⟨by rw [hai]; exact c85, Int32.not_lt.mpr c95⟩)) (Or.inr rfl) hxi
                    | exact j113 2 (sd_un (Or.inr ⟨by rw [hai]; omega, Int32.not_le.mp c95⟩)) (Or.inr rfl) hxi
          have j62 : V X 0 0 62 [some (.ref h), some (.int (nI j)), some (.int (nI p)), some (.int (nI m)), some (.int (nI x)), some (.int (nI fi)), some (.int (nI la)), some (.int (nI t)), some (.int (nI i)), some (.int (c i)), some (.int (nI i0)), none] [] (mW G h ad M R) := by
            refine r_iload C dX7_isInTurn_62 rfl ?_
            refine r_iload C dX7_isInTurn_64 rfl ?_
            refine r_icmp_eq (tgt := 81) C dX7_isInTurn_66 (by decide) (fun c66 => ?_) (fun c66 => ?_)
            · first
                | exact j81 (Or.inl ((nI_eq (by omega) (by omega)).mp c66))
                | exact j81 (Or.inr ((nI_eq (by omega) (by omega)).mp c75))
            · rw [nI_eq (by omega) (by omega)] at c66
              refine r_iload C dX7_isInTurn_69 rfl ?_
              refine r_iload C dX7_isInTurn_71 rfl ?_
              refine r_iconst (v := 1) C dX7_isInTurn_73 (by decide) ?_
              refine r_iadd C dX7_isInTurn_74 ?_
              rw [nI_1]
              refine r_icmp_eq (tgt := 81) C dX7_isInTurn_75 (by decide) (fun c75 => ?_) (fun c75 => ?_)
              · first
                  | exact j81 (Or.inl ((nI_eq (by omega) (by omega)).mp c66))
                  | exact j81 (Or.inr ((nI_eq (by omega) (by omega)).mp c75))
              · rw [nI_eq (by omega) (by omega)] at c75
                refine r_goto (tgt := 153) C dX7_isInTurn_78 (by decide) ?_
                refine r_iinc (v := _ + 1) C dX7_isInTurn_153 rfl (by rfl) (by decide) ?_
                rw [nI_1]
                exact go (x, fi, la) _ _ _ none (by unfold itS; dsimp only; rw [sd_no (by rw [hai]; exact c66) (by rw [hai]; exact c75), if_pos rfl])
          refine r_iload C dX7_isInTurn_21 rfl ?_
          refine r_aload_n C dX7_isInTurn_23 rfl rfl ?_
          refine mg_sizes C dX7_isInTurn_24 ?_
          refine r_iload_n C dX7_isInTurn_27 rfl rfl ?_
          refine ml_sizes C dX7_isInTurn_28 (vp_in_nI hj (by decide)) ?_
          rw [nI_clamp (by omega), hz]
          refine r_icmp_ge (tgt := 159) C dX7_isInTurn_29 (by decide) (fun c29 => absurd c29 ((nI_ge (by omega) (by omega)))) (fun c29 => ?_)
          refine r_aload_n C dX7_isInTurn_32 rfl rfl ?_
          refine mg_rows C dX7_isInTurn_33 ?_
          refine r_sipush (v := 300) C dX7_isInTurn_36 (by decide) ?_
          refine r_iload_n C dX7_isInTurn_39 rfl rfl ?_
          refine r_imul C dX7_isInTurn_40 ?_
          refine r_iload C dX7_isInTurn_41 rfl ?_
          refine r_iadd C dX7_isInTurn_43 ?_
          show V X 0 0 44 _ [.int (nI 300 * nI j + nI i), .ref (ad 7)] _
          rw [pk_mul, nI_add]
          refine ml_rows C dX7_isInTurn_44 (vp_in_nI (show 300 * j + i < 2400 by omega) (by decide)) ?_
          rw [nI_clamp (by omega), hrow]
          refine r_istore C dX7_isInTurn_45 (by decide) ?_
          rcases hci with hci | hci <;> rw [hci] at j62 ⊢
          · refine r_iload C dX7_isInTurn_47 rfl ?_
            refine r_if_le (tgt := 57) C dX7_isInTurn_49 (by decide) (fun c49 => absurd c49 ((Int32.not_le.mpr (pos_nI hi1 (by omega))))) (fun c49 => ?_)
            refine r_iload C dX7_isInTurn_52 rfl ?_
            refine r_goto (tgt := 60) C dX7_isInTurn_54 (by decide) ?_
            refine r_istore C dX7_isInTurn_60 (by decide) ?_
            exact j62
          · refine r_iload C dX7_isInTurn_47 rfl ?_
            refine r_if_le (tgt := 57) C dX7_isInTurn_49 (by decide) (fun c49 => ?_) (fun c49 => absurd c49 ((fun q => q (Int32.le_of_lt (neg_lt0 hi1 (by omega))))))
            refine r_iload C dX7_isInTurn_57 rfl ?_
            refine r_ineg C dX7_isInTurn_59 ?_
            rw [Int32.neg_neg]
            refine r_istore C dX7_isInTurn_60 (by decide) ?_
            exact j62
      refine r_iload C dX7_isInTurn_12 rfl ?_
      refine r_iload_n C dX7_isInTurn_14 rfl rfl ?_
      refine r_icmp_ge (tgt := 165) C dX7_isInTurn_15 (by decide) (fun c15 => absurd c15 ((nI_ge (by omega) (by omega)))) (fun c15 => ?_)
      refine r_iconst (v := 0) C dX7_isInTurn_18 (by decide) ?_
      refine r_istore C dX7_isInTurn_19 (by decide) ?_
      exact inner z 0 q (by omega) hq hq1 hq2
  refine r_iload_n C dX7_isInTurn_0 rfl rfl ?_
  refine r_istore C dX7_isInTurn_1 (by decide) ?_
  refine r_iconst (v := 0) C dX7_isInTurn_3 (by decide) ?_
  refine r_istore C dX7_isInTurn_4 (by decide) ?_
  refine r_iconst (v := 0) C dX7_isInTurn_6 (by decide) ?_
  refine r_istore C dX7_isInTurn_7 (by decide) ?_
  refine r_iconst (v := 0) C dX7_isInTurn_9 (by decide) ?_
  refine r_istore C dX7_isInTurn_10 (by decide) ?_
  exact key m 0 (p, 0, 0) (by omega) rfl ⟨h1, h2⟩ ⟨Nat.zero_le _, Nat.zero_le _⟩
end M8
