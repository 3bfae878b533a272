/-! the reference: holds, twine, goes, use -/
def thereIs (c : Nat → Int32) (z i : Nat) : Prop := ∃ j, j < z ∧ (c j = nI i ∨ c j = -nI i)
def HoldsP (c : Nat → Int32) (z s : Nat) : Prop := (∀ i, 1 ≤ i → i < s → thereIs c z i) ∧ ∃ m, isHome (gT c z) s m ∧ ∀ p, 1 ≤ p → p ≤ s → itR (itt c z p m) = 1
theorem itR_01 (o : Option ItT) : itR o = 1 ∨ itR o = 0 := by
  cases o with
  | none => exact Or.inr rfl
  | some q =>
    show (if q.2.1 = 0 ∨ q.2.1 ≠ q.2.2 then (1 : Int32) else 0) = 1 ∨ _
    by_cases e : q.2.1 = 0 ∨ q.2.1 ≠ q.2.2
    · exact Or.inl (if_pos e)
    · exact Or.inr (if_neg e)
abbrev TwT : Type := Nat × Nat × Int32
def twS (cv : Int32) (q : TwT) : TwT := (sw (ai cv) q.1, sw (ai cv) q.2.1, if (q.1 = ai cv ∨ q.1 = ai cv + 1) ∧ (q.2.1 = ai cv ∨ q.2.1 = ai cv + 1) then q.2.2 + (if 0 < cv then 1 else -1) else q.2.2)
def twj (c : Nat → Int32) (q : TwT) : Nat → TwT
  | 0 => q
  | j + 1 => twS (c j) (twj c q j)
def twt (c : Nat → Int32) (z a b : Nat) : Nat → TwT
  | 0 => (a, b, 0)
  | t + 1 => twj c (twt c z a b t) z
theorem twj_in {c : Nat → Int32} {q : TwT} {s : Nat} (hs : s ≤ 7) (h1 : 1 ≤ q.1 ∧ q.1 ≤ s) (h2 : 1 ≤ q.2.1 ∧ q.2.1 ≤ s) : ∀ j, (∀ i, i < j → okC s (c i)) → (1 ≤ (twj c q j).1 ∧ (twj c q j).1 ≤ s) ∧ 1 ≤ (twj c q j).2.1 ∧ (twj c q j).2.1 ≤ s
  | 0, _ => ⟨h1, h2⟩
  | j + 1, h => by
    have ih := twj_in (c := c) hs h1 h2 j (fun i hi => h i (by omega))
    have ha := okC_ai (h j (by omega)) hs
    exact ⟨sw_in ha.1 ha.2 ih.1.1 ih.1.2, sw_in ha.1 ha.2 ih.2.1 ih.2.2⟩
theorem twt_in {c : Nat → Int32} {z a b s : Nat} (hs : s ≤ 7) (h1 : 1 ≤ a ∧ a ≤ s) (h2 : 1 ≤ b ∧ b ≤ s) (h : ∀ i, i < z → okC s (c i)) : ∀ t, (1 ≤ (twt c z a b t).1 ∧ (twt c z a b t).1 ≤ s) ∧ 1 ≤ (twt c z a b t).2.1 ∧ (twt c z a b t).2.1 ≤ s
  | 0 => ⟨h1, h2⟩
  | t + 1 => by
    have ih := twt_in hs h1 h2 h t
    exact twj_in hs ih.1 ih.2 z h
section M10
variable (G : Gx) (h : Nat) (ad : Nat → Nat) (M : Mt) (R : Rt)
theorem c_holds {j s z : Nat} (hj : j < 8) (hp : PatOK R j s z) : mI G h ad yX7_holds cX7_holds 6 .boolean 2 [.int (nI j)] M R (fun r M' R' => ((r = 1 ∧ HoldsP (rowOf R j) z s) ∨ (r = 0 ∧ ¬ HoldsP (rowOf R j) z s)) ∧ M' = M ∧ ∃ P, R' = va_up R 26 P) := by
  refine mI.intro (by decide) (Nat.le_of_ble_eq_true rfl) (cat1 (xs := [nI j])) fun X C hR => ?_
  obtain ⟨hs5, hs2, hs7, hz, hz3, hok⟩ := id hp
  obtain ⟨c, hc⟩ : ∃ c, c = rowOf R j := ⟨_, rfl⟩
  have hrow : ∀ (i : Nat), R 7 (300 * j + i) = c i := fun i => by rw [hc]; rfl
  rw [← hc] at hR hok
  have loop2 : ∀ (m : Nat) (P : Nat → Int32), isHome (gT c z) s m → m ≤ 420 → (∀ i, 1 ≤ i → i < s → thereIs c z i) → ∀ (f p : Nat) (is : Int32) (o5 : Option Value), p + f = s + 1 → 1 ≤ p → ((is = 1 ∧ ∀ q, 1 ≤ q → q < p → itR (itt c z q m) = 1) ∨ (is = 0 ∧ ¬ HoldsP c z s)) → V X 0 0 122 [some (.ref h), some (.int (nI j)), some (.int is), some (.int (nI m)), some (.int (nI p)), o5] [] (mW G h ad M (va_up R 26 P)) := by
    intro m P hm hm4 hall f
    induction f with
    | zero =>
      intro p is o5 hpf hp1 his
      have hps : p = s + 1 := by omega
      subst hps
      have hfin : (is = 1 ∧ HoldsP c z s) ∨ (is = 0 ∧ ¬ HoldsP c z s) := by
        rcases his with ⟨e, q⟩ | q
        · exact Or.inl ⟨e, hall, m, hm, fun p h1 h2 => q p h1 (by omega)⟩
        · exact Or.inr q
      refine r_iload C dX7_holds_122 rfl ?_
      refine r_aload_n C dX7_holds_124 rfl rfl ?_
      refine mg_straws C dX7_holds_125 ?_
      refine r_iload_n C dX7_holds_128 rfl rfl ?_
      refine ml_straws C dX7_holds_129 (vp_in_nI hj (by decide)) ?_
      rw [nI_clamp (by omega), show va_up R 26 P 5 j = nI s from hs5]
      refine r_icmp_gt (tgt := 152) C dX7_holds_130 (by decide) (fun c130 => ?_) (fun c130 => absurd c130 ((fun q => q (nI_lt (by omega) (by omega)))))
      refine r_iload_n C dX7_holds_152 rfl rfl ?_
      exact hR _ _ _ _ _ (by rcases hfin with q | q <;> rw [q.1] <;> rfl) dX7_holds_153 ⟨hfin, rfl, P, rfl⟩
    | succ f ih =>
      intro p is o5 hpf hp1 his
      refine r_iload C dX7_holds_122 rfl ?_
      refine r_aload_n C dX7_holds_124 rfl rfl ?_
      refine mg_straws C dX7_holds_125 ?_
      refine r_iload_n C dX7_holds_128 rfl rfl ?_
      refine ml_straws C dX7_holds_129 (vp_in_nI hj (by decide)) ?_
      rw [nI_clamp (by omega), show va_up R 26 P 5 j = nI s from hs5]
      refine r_icmp_gt (tgt := 152) C dX7_holds_130 (by decide) (fun c130 => absurd c130 ((nI_nlt (by omega) (by omega)))) (fun c130 => ?_)
      refine r_iload_n C dX7_holds_133 rfl rfl ?_
      refine r_if_eq (tgt := 152) C dX7_holds_134 (by decide) (fun c134 => ?_) (fun c134 => ?_)
      · refine r_iload_n C dX7_holds_152 rfl rfl ?_
        exact hR _ _ _ _ _ (by rw [c134]; rfl) dX7_holds_153 ⟨Or.inr ⟨c134, by rcases his with q | q; exact absurd (q.1.symm.trans c134) (by decide); exact q.2⟩, rfl, P, rfl⟩
      · refine r_aload_n C dX7_holds_137 rfl rfl ?_
        refine r_iload_n C dX7_holds_138 rfl rfl ?_
        refine r_iload C dX7_holds_139 rfl ?_
        refine r_iload_n C dX7_holds_141 rfl rfl ?_
        refine m_calli C (c_isInTurn G h ad M (va_up R 26 P) hj (s := s) (z := z) (m := m) hp hp1 (by omega) (by omega)) kM_isInTurn dX7_holds_142 rfl (by decide) (by decide) (by decide) (Nat.le_of_ble_eq_true rfl) rfl rfl (fun r M1 R1 hq => ?_)
        obtain ⟨hr, rfl, rfl⟩ := hq
        rw [show rowOf (va_up R 26 P) j = c from hc.symm] at hr
        refine r_istore_n C dX7_holds_145 rfl (by decide) ?_
        refine r_iinc (v := _ + 1) C dX7_holds_146 rfl (by rfl) (by decide) ?_
        rw [nI_1]
        refine r_goto (tgt := 122) C dX7_holds_149 (by decide) ?_
        exact ih (p + 1) _ _ (by omega) (by omega) (by
          rcases his with ⟨e, q⟩ | ⟨e, -⟩
          · rcases itR_01 (itt c z p m) with w | w
            · exact Or.inl ⟨by rw [hr, w], fun q' h1 h2 => by
                by_cases e2 : q' = p
                · subst e2; exact w
                · exact q q' h1 (by omega)⟩
            · exact Or.inr ⟨by rw [hr, w], fun ⟨_, m', hm', hq'⟩ => by
                have := home_uniq hm hm'
                subst this
                exact absurd ((hq' p hp1 (by omega)).symm.trans w) (by decide)⟩
          · exact absurd e c134)
  have loop1 : ∀ (f i : Nat) (is : Int32) (o4 o5 : Option Value), i + f = s → 1 ≤ i → ((is = 1 ∧ ∀ q, 1 ≤ q → q < i → thereIs c z q) ∨ (is = 0 ∧ ∃ q, 1 ≤ q ∧ q < s ∧ ¬ thereIs c z q)) → V X 0 0 4 [some (.ref h), some (.int (nI j)), some (.int is), some (.int (nI i)), o4, o5] [] (mW G h ad M R) := by
    intro f
    induction f with
    | zero =>
      intro i is o4 o5 hif hi1 his
      have his2 : i = s := by omega
      subst his2
      have jz : is = 0 → ∀ o5, V X 0 0 122 [some (.ref h), some (.int (nI j)), some (.int is), some (.int 0), some (.int 1), o5] [] (mW G h ad M R) := by
        intro e o5
        subst e
        have hnot : ¬ HoldsP c z i := his.elim (fun q => absurd q.1 (by decide)) (fun ⟨_, q, q1, q2, q3⟩ w => q3 (w.1 q q1 q2))
        refine r_iload C dX7_holds_122 rfl ?_
        refine r_aload_n C dX7_holds_124 rfl rfl ?_
        refine mg_straws C dX7_holds_125 ?_
        refine r_iload_n C dX7_holds_128 rfl rfl ?_
        refine ml_straws C dX7_holds_129 (vp_in_nI hj (by decide)) ?_
        rw [nI_clamp (by omega), hs5]
        refine r_icmp_gt (tgt := 152) C dX7_holds_130 (by decide) (fun c130 => ?_) (fun c130 => ?_)
        · refine r_iload_n C dX7_holds_152 rfl rfl ?_
          exact hR _ _ _ _ _ rfl dX7_holds_153 ⟨Or.inr ⟨rfl, hnot⟩, rfl, R 26, (up_same rfl).symm⟩
        · refine r_iload_n C dX7_holds_133 rfl rfl ?_
          refine r_if_eq (tgt := 152) C dX7_holds_134 (by decide) (fun c134 => ?_) (fun c134 => absurd c134 ((fun q => q rfl)))
          refine r_iload_n C dX7_holds_152 rfl rfl ?_
          exact hR _ _ _ _ _ rfl dX7_holds_153 ⟨Or.inr ⟨rfl, hnot⟩, rfl, R 26, (up_same rfl).symm⟩
      refine r_iload_n C dX7_holds_4 rfl rfl ?_
      refine r_aload_n C dX7_holds_5 rfl rfl ?_
      refine mg_straws C dX7_holds_6 ?_
      refine r_iload_n C dX7_holds_9 rfl rfl ?_
      refine ml_straws C dX7_holds_10 (vp_in_nI hj (by decide)) ?_
      rw [nI_clamp (by omega), hs5]
      refine r_icmp_ge (tgt := 105) C dX7_holds_11 (by decide) (fun c11 => ?_) (fun c11 => absurd c11 ((fun q => q (nI_le (by omega) (by omega)))))
      refine r_iload_n C dX7_holds_105 rfl rfl ?_
      refine r_if_eq (tgt := 117) C dX7_holds_106 (by decide) (fun c106 => ?_) (fun c106 => ?_)
      · refine r_iconst (v := 0) C dX7_holds_117 (by decide) ?_
        refine r_istore_n C dX7_holds_118 rfl (by decide) ?_
        refine r_iconst (v := 1) C dX7_holds_119 (by decide) ?_
        refine r_istore C dX7_holds_120 (by decide) ?_
        first
          | exact loop2 m P hm hm4 (by rcases his with q | q; exact q.2; exact absurd q.1 c106) i 1 is _ (by omega) (Nat.le_refl _) (Or.inl ⟨by rcases his with q | q; exact q.1; exact absurd q.1 c106, fun q h1 h2 => by omega⟩)
          | exact jz c106 _
      · refine r_aload_n C dX7_holds_109 rfl rfl ?_
        refine r_iload_n C dX7_holds_110 rfl rfl ?_
        refine m_calli C (c_home G h ad M R hj hp) kM_home dX7_holds_111 rfl (by decide) (by decide) (by decide) (Nat.le_of_ble_eq_true rfl) rfl rfl (fun r M1 R1 hq => ?_)
        obtain ⟨⟨m, hm, hm4, rfl⟩, rfl, P, rfl⟩ := hq
        rw [← hc] at hm
        refine r_goto (tgt := 118) C dX7_holds_114 (by decide) ?_
        refine r_istore_n C dX7_holds_118 rfl (by decide) ?_
        refine r_iconst (v := 1) C dX7_holds_119 (by decide) ?_
        refine r_istore C dX7_holds_120 (by decide) ?_
        first
          | exact loop2 m P hm hm4 (by rcases his with q | q; exact q.2; exact absurd q.1 c106) i 1 is _ (by omega) (Nat.le_refl _) (Or.inl ⟨by rcases his with q | q; exact q.1; exact absurd q.1 c106, fun q h1 h2 => by omega⟩)
          | exact jz c106 _
    | succ f ih =>
      intro i is o4 o5 hif hi1 his
      have fin : ∀ (th : Int32) (o5 : Option Value), ((th = 1 ∧ thereIs c z i) ∨ (th = 0 ∧ ¬ thereIs c z i)) → V X 0 0 84 [some (.ref h), some (.int (nI j)), some (.int is), some (.int (nI i)), some (.int th), o5] [] (mW G h ad M R) := by
        intro th o5 hth
        refine r_iload_n C dX7_holds_84 rfl rfl ?_
        refine r_if_eq (tgt := 97) C dX7_holds_85 (by decide) (fun c85 => ?_) (fun c85 => ?_)
        · refine r_iconst (v := 0) C dX7_holds_97 (by decide) ?_
          refine r_istore_n C dX7_holds_98 rfl (by decide) ?_
          refine r_iinc (v := _ + 1) C dX7_holds_99 rfl (by rfl) (by decide) ?_
          rw [nI_1]
          refine r_goto (tgt := 4) C dX7_holds_102 (by decide) ?_
          exact ih (i + 1) _ _ _ (by omega) (by omega) (by
            first
              | exact Or.inl ⟨rfl, fun q h1 h2 => (Nat.lt_or_ge q i).elim (fun h3 => his.elim (fun w => w.2 q h1 h3) (fun w => absurd w.1 c85)) (fun h3 => (show q = i by omega) ▸ hth.elim (fun w => w.2) (fun w => absurd w.1 c90))⟩
              | exact Or.inr ⟨rfl, hth.elim (fun w => absurd (w.1.symm.trans c90) (by decide)) (fun w => ⟨i, hi1, by omega, w.2⟩)⟩
              | exact Or.inr ⟨rfl, his.elim (fun w => absurd (w.1.symm.trans c85) (by decide)) (fun w => w.2)⟩)
        · refine r_iload C dX7_holds_88 rfl ?_
          refine r_if_eq (tgt := 97) C dX7_holds_90 (by decide) (fun c90 => ?_) (fun c90 => ?_)
          · refine r_iconst (v := 0) C dX7_holds_97 (by decide) ?_
            refine r_istore_n C dX7_holds_98 rfl (by decide) ?_
            refine r_iinc (v := _ + 1) C dX7_holds_99 rfl (by rfl) (by decide) ?_
            rw [nI_1]
            refine r_goto (tgt := 4) C dX7_holds_102 (by decide) ?_
            exact ih (i + 1) _ _ _ (by omega) (by omega) (by
              first
                | exact Or.inl ⟨rfl, fun q h1 h2 => (Nat.lt_or_ge q i).elim (fun h3 => his.elim (fun w => w.2 q h1 h3) (fun w => absurd w.1 c85)) (fun h3 => (show q = i by omega) ▸ hth.elim (fun w => w.2) (fun w => absurd w.1 c90))⟩
                | exact Or.inr ⟨rfl, hth.elim (fun w => absurd (w.1.symm.trans c90) (by decide)) (fun w => ⟨i, hi1, by omega, w.2⟩)⟩
                | exact Or.inr ⟨rfl, his.elim (fun w => absurd (w.1.symm.trans c85) (by decide)) (fun w => w.2)⟩)
          · refine r_iconst (v := 1) C dX7_holds_93 (by decide) ?_
            refine r_goto (tgt := 98) C dX7_holds_94 (by decide) ?_
            refine r_istore_n C dX7_holds_98 rfl (by decide) ?_
            refine r_iinc (v := _ + 1) C dX7_holds_99 rfl (by rfl) (by decide) ?_
            rw [nI_1]
            refine r_goto (tgt := 4) C dX7_holds_102 (by decide) ?_
            exact ih (i + 1) _ _ _ (by omega) (by omega) (by
              first
                | exact Or.inl ⟨rfl, fun q h1 h2 => (Nat.lt_or_ge q i).elim (fun h3 => his.elim (fun w => w.2 q h1 h3) (fun w => absurd w.1 c85)) (fun h3 => (show q = i by omega) ▸ hth.elim (fun w => w.2) (fun w => absurd w.1 c90))⟩
                | exact Or.inr ⟨rfl, hth.elim (fun w => absurd (w.1.symm.trans c90) (by decide)) (fun w => ⟨i, hi1, by omega, w.2⟩)⟩
                | exact Or.inr ⟨rfl, his.elim (fun w => absurd (w.1.symm.trans c85) (by decide)) (fun w => w.2)⟩)
      have inner : ∀ (f' jj : Nat) (th : Int32), jj + f' = z → ((th = 1 ∧ ∃ q, q < jj ∧ (c q = nI i ∨ c q = -nI i)) ∨ (th = 0 ∧ ∀ q, q < jj → ¬ (c q = nI i ∨ c q = -nI i))) → V X 0 0 20 [some (.ref h), some (.int (nI j)), some (.int is), some (.int (nI i)), some (.int th), some (.int (nI jj))] [] (mW G h ad M R) := by
        intro f'
        induction f' with
        | zero =>
          intro jj th hjf hth
          have hjz : jj = z := by omega
          subst hjz
          refine r_iload C dX7_holds_20 rfl ?_
          refine r_aload_n C dX7_holds_22 rfl rfl ?_
          refine mg_sizes C dX7_holds_23 ?_
          refine r_iload_n C dX7_holds_26 rfl rfl ?_
          refine ml_sizes C dX7_holds_27 (vp_in_nI hj (by decide)) ?_
          rw [nI_clamp (by omega), hz]
          refine r_icmp_ge (tgt := 84) C dX7_holds_28 (by decide) (fun c28 => ?_) (fun c28 => absurd c28 ((fun q => q (nI_le (by omega) (by omega)))))
          exact fin th _ (by rcases hth with w | w; exact Or.inl w; exact Or.inr ⟨w.1, fun ⟨q, q1, q2⟩ => w.2 q q1 q2⟩)
        | succ f' ih' =>
          intro jj th hjf hth
          refine r_iload C dX7_holds_20 rfl ?_
          refine r_aload_n C dX7_holds_22 rfl rfl ?_
          refine mg_sizes C dX7_holds_23 ?_
          refine r_iload_n C dX7_holds_26 rfl rfl ?_
          refine ml_sizes C dX7_holds_27 (vp_in_nI hj (by decide)) ?_
          rw [nI_clamp (by omega), hz]
          refine r_icmp_ge (tgt := 84) C dX7_holds_28 (by decide) (fun c28 => absurd c28 ((nI_ge (by omega) (by omega)))) (fun c28 => ?_)
          refine r_iload C dX7_holds_31 rfl ?_
          refine r_if_ne (tgt := 71) C dX7_holds_33 (by decide) (fun c33 => ?_) (fun c33 => ?_)
          · refine r_iconst (v := 1) C dX7_holds_71 (by decide) ?_
            refine r_goto (tgt := 76) C dX7_holds_72 (by decide) ?_
            refine r_istore C dX7_holds_76 (by decide) ?_
            refine r_iinc (v := _ + 1) C dX7_holds_78 rfl (by rfl) (by decide) ?_
            rw [nI_1]
            refine r_goto (tgt := 20) C dX7_holds_81 (by decide) ?_
            first
              | exact ih' (jj + 1) 1 (by omega) (Or.inl ⟨rfl, jj, by omega, Or.inr c68⟩)
              | exact ih' (jj + 1) 1 (by omega) (Or.inl ⟨rfl, jj, by omega, Or.inl c50⟩)
              | exact ih' (jj + 1) 1 (by omega) (Or.inl ⟨rfl, hth.elim (fun ⟨_, q, q1, q2⟩ => ⟨q, by omega, q2⟩) (fun w => absurd w.1 c33)⟩)
              | exact ih' (jj + 1) 0 (by omega) (Or.inr ⟨rfl, fun q h1 => by
                  by_cases e : q = jj
                  · subst e; exact fun w => w.elim c50 c68
                  · rcases hth with w | w
                    · exact absurd (w.1.symm.trans c33) (by decide)
                    · exact w.2 q (by omega)⟩)
          · refine r_aload_n C dX7_holds_36 rfl rfl ?_
            refine mg_rows C dX7_holds_37 ?_
            refine r_sipush (v := 300) C dX7_holds_40 (by decide) ?_
            refine r_iload_n C dX7_holds_43 rfl rfl ?_
            refine r_imul C dX7_holds_44 ?_
            refine r_iload C dX7_holds_45 rfl ?_
            refine r_iadd C dX7_holds_47 ?_
            show V X 0 0 48 _ [.int (nI 300 * nI j + nI jj), .ref (ad 7)] _
            rw [pk_mul, nI_add]
            refine ml_rows C dX7_holds_48 (vp_in_nI (show 300 * j + jj < 2400 by omega) (by decide)) ?_
            rw [nI_clamp (by omega), hrow]
            refine r_iload_n C dX7_holds_49 rfl rfl ?_
            refine r_icmp_eq (tgt := 71) C dX7_holds_50 (by decide) (fun c50 => ?_) (fun c50 => ?_)
            · refine r_iconst (v := 1) C dX7_holds_71 (by decide) ?_
              refine r_goto (tgt := 76) C dX7_holds_72 (by decide) ?_
              refine r_istore C dX7_holds_76 (by decide) ?_
              refine r_iinc (v := _ + 1) C dX7_holds_78 rfl (by rfl) (by decide) ?_
              rw [nI_1]
              refine r_goto (tgt := 20) C dX7_holds_81 (by decide) ?_
              first
                | exact ih' (jj + 1) 1 (by omega) (Or.inl ⟨rfl, jj, by omega, Or.inr c68⟩)
                | exact ih' (jj + 1) 1 (by omega) (Or.inl ⟨rfl, jj, by omega, Or.inl c50⟩)
                | exact ih' (jj + 1) 1 (by omega) (Or.inl ⟨rfl, hth.elim (fun ⟨_, q, q1, q2⟩ => ⟨q, by omega, q2⟩) (fun w => absurd w.1 c33)⟩)
                | exact ih' (jj + 1) 0 (by omega) (Or.inr ⟨rfl, fun q h1 => by
                    by_cases e : q = jj
                    · subst e; exact fun w => w.elim c50 c68
                    · rcases hth with w | w
                      · exact absurd (w.1.symm.trans c33) (by decide)
                      · exact w.2 q (by omega)⟩)
            · refine r_aload_n C dX7_holds_53 rfl rfl ?_
              refine mg_rows C dX7_holds_54 ?_
              refine r_sipush (v := 300) C dX7_holds_57 (by decide) ?_
              refine r_iload_n C dX7_holds_60 rfl rfl ?_
              refine r_imul C dX7_holds_61 ?_
              refine r_iload C dX7_holds_62 rfl ?_
              refine r_iadd C dX7_holds_64 ?_
              show V X 0 0 65 _ [.int (nI 300 * nI j + nI jj), .ref (ad 7)] _
              rw [pk_mul, nI_add]
              refine ml_rows C dX7_holds_65 (vp_in_nI (show 300 * j + jj < 2400 by omega) (by decide)) ?_
              rw [nI_clamp (by omega), hrow]
              refine r_iload_n C dX7_holds_66 rfl rfl ?_
              refine r_ineg C dX7_holds_67 ?_
              refine r_icmp_ne (tgt := 75) C dX7_holds_68 (by decide) (fun c68 => ?_) (fun c68 => ?_)
              · refine r_iconst (v := 0) C dX7_holds_75 (by decide) ?_
                refine r_istore C dX7_holds_76 (by decide) ?_
                refine r_iinc (v := _ + 1) C dX7_holds_78 rfl (by rfl) (by decide) ?_
                rw [nI_1]
                refine r_goto (tgt := 20) C dX7_holds_81 (by decide) ?_
                first
                  | exact ih' (jj + 1) 1 (by omega) (Or.inl ⟨rfl, jj, by omega, Or.inr c68⟩)
                  | exact ih' (jj + 1) 1 (by omega) (Or.inl ⟨rfl, jj, by omega, Or.inl c50⟩)
                  | exact ih' (jj + 1) 1 (by omega) (Or.inl ⟨rfl, hth.elim (fun ⟨_, q, q1, q2⟩ => ⟨q, by omega, q2⟩) (fun w => absurd w.1 c33)⟩)
                  | exact ih' (jj + 1) 0 (by omega) (Or.inr ⟨rfl, fun q h1 => by
                      by_cases e : q = jj
                      · subst e; exact fun w => w.elim c50 c68
                      · rcases hth with w | w
                        · exact absurd (w.1.symm.trans c33) (by decide)
                        · exact w.2 q (by omega)⟩)
              · refine r_iconst (v := 1) C dX7_holds_71 (by decide) ?_
                refine r_goto (tgt := 76) C dX7_holds_72 (by decide) ?_
                refine r_istore C dX7_holds_76 (by decide) ?_
                refine r_iinc (v := _ + 1) C dX7_holds_78 rfl (by rfl) (by decide) ?_
                rw [nI_1]
                refine r_goto (tgt := 20) C dX7_holds_81 (by decide) ?_
                first
                  | exact ih' (jj + 1) 1 (by omega) (Or.inl ⟨rfl, jj, by omega, Or.inr c68⟩)
                  | exact ih' (jj + 1) 1 (by omega) (Or.inl ⟨rfl, jj, by omega, Or.inl c50⟩)
                  | exact ih' (jj + 1) 1 (by omega) (Or.inl ⟨rfl, hth.elim (fun ⟨_, q, q1, q2⟩ => ⟨q, by omega, q2⟩) (fun w => absurd w.1 c33)⟩)
                  | exact ih' (jj + 1) 0 (by omega) (Or.inr ⟨rfl, fun q h1 => by
                      by_cases e : q = jj
                      · subst e; exact fun w => w.elim c50 c68
                      · rcases hth with w | w
                        · exact absurd (w.1.symm.trans c33) (by decide)
                        · exact w.2 q (by omega)⟩)
      refine r_iload_n C dX7_holds_4 rfl rfl ?_
      refine r_aload_n C dX7_holds_5 rfl rfl ?_
      refine mg_straws C dX7_holds_6 ?_
      refine r_iload_n C dX7_holds_9 rfl rfl ?_
      refine ml_straws C dX7_holds_10 (vp_in_nI hj (by decide)) ?_
      rw [nI_clamp (by omega), hs5]
      refine r_icmp_ge (tgt := 105) C dX7_holds_11 (by decide) (fun c11 => absurd c11 ((nI_ge (by omega) (by omega)))) (fun c11 => ?_)
      refine r_iconst (v := 0) C dX7_holds_14 (by decide) ?_
      refine r_istore C dX7_holds_15 (by decide) ?_
      refine r_iconst (v := 0) C dX7_holds_17 (by decide) ?_
      refine r_istore C dX7_holds_18 (by decide) ?_
      exact inner z 0 0 (by omega) (Or.inr ⟨rfl, fun q h1 => by omega⟩)
  refine r_iconst (v := 1) C dX7_holds_0 (by decide) ?_
  refine r_istore_n C dX7_holds_1 rfl (by decide) ?_
  refine r_iconst (v := 1) C dX7_holds_2 (by decide) ?_
  refine r_istore_n C dX7_holds_3 rfl (by decide) ?_
  exact loop1 (s - 1) 1 1 _ _ (by omega) (Nat.le_refl _) (Or.inl ⟨rfl, fun q h1 h2 => by omega⟩)
end M10
