/-! the reference: pattern(), that copies a pattern into the row -/
def RdF (M' : Mt) (e : Nat) (r : Int32) (kind : Int32) (place : Nat) : Prop := r = 0 ∧ M' 3 = kind ∧ M' 4 = nI place ∧ M' 8 = nI e ∧ ∃ a'', a'' ≤ e ∧ M' 9 = nI a''
def apR (row : Nat → Int32) (mny : Nat) (c : Nat → Int32) : Nat → Int32 := fun i => if i < mny then row i else c (i - mny)
/-- a place's move alone -/
theorem RdS.at {M : Mt} {R : Rt} {e n a mny dp : Nat} {row : Nat → Int32} {kd fr : Nat → Nat} (h : RdS M R e n a mny dp row kd fr) {M' : Mt} {a' : Nat} (hM : ∀ i, i ≠ 9 → i ≠ 16 → i ≠ 17 → M' i = M i) (h9 : M' 9 = nI a') (ha : a' ≤ e) : RdS M' R e n a' mny dp row kd fr := by
  obtain ⟨w8, w9, w10, w12, w15, w3, w4, x1, x2, x3, x4, x5, x6, x7, x8⟩ := h
  exact ⟨by rw [hM 8 (by decide) (by decide) (by decide)]; exact w8, h9, by rw [hM 10 (by decide) (by decide) (by decide)]; exact w10, by rw [hM 12 (by decide) (by decide) (by decide)]; exact w12, by rw [hM 15 (by decide) (by decide) (by decide)]; exact w15, by rw [hM 3 (by decide) (by decide) (by decide)]; exact w3, by rw [hM 4 (by decide) (by decide) (by decide)]; exact w4, x1, ha, x3, x4, x5, x6, x7, x8⟩
section M24
variable (G : Gx) (h : Nat) (ad : Nat → Nat) (M : Mt) (R : Rt)
theorem c_pat {e n a mny dp : Nat} {row : Nat → Int32} {kd fr : Nat → Nat} (hP : PatsOK R) (hS : RdS M R e n a mny dp row kd fr) (hae : a < e) {a1 dg v : Nat} (ha1 : a1 = skipTo (R 1) e (a + 1)) (hdg : dg = dgs (R 1) e a1) (hv : v = rvF (R 1) a1 dg) : mI G h ad yX7_pattern cX7_pattern 3 .boolean 2 [] M R (fun r M' R' => RdM M M' ∧ RdR R R' ∧ ((dg = 0 ∧ RdF M' e r 1 a1) ∨ (0 < dg ∧ (7 < v ∨ 2 < dg) ∧ RdF M' e r 2 a1) ∨ (0 < dg ∧ v ≤ 7 ∧ dg ≤ 2 ∧ R 5 v ≠ nI n ∧ RdF M' e r 3 a1) ∨ (∃ z, 0 < dg ∧ v ≤ 7 ∧ dg ≤ 2 ∧ PatOK R v n z ∧ 300 < mny + z ∧ RdF M' e r 2 a1) ∨ (∃ z, 0 < dg ∧ v ≤ 7 ∧ dg ≤ 2 ∧ PatOK R v n z ∧ mny + z ≤ 300 ∧ r = 1 ∧ RdS M' R' e n (a1 + dg) (mny + z) dp (apR row mny (rowOf R v)) kd fr))) := by
  refine mI.intro (by decide) (Nat.le_of_ble_eq_true rfl) (cat1 (xs := [])) fun X C hR => ?_
  obtain ⟨h8, h9, h10, h12, h15, h3, h4, he, ha, hn2, hn7, hm3, hd8, hrow, hbr⟩ := id hS
  have hs1 := skipTo_le (t := R 1) (e := e) (a := a + 1) (by omega)
  rw [← ha1] at hs1
  have hdl := dgs_le (t := R 1) (e := e) (e - a1) a1 hs1.2 (Nat.le_refl _)
  rw [← hdg] at hdl
  have hM1 : RdM M (va_up (va_up M 9 (nI (a + 1))) 9 (nI a1)) := (RdM.rf.up (by omega)).up (by omega)
  refine r_aload_n C dX7_pattern_0 rfl rfl ?_
  refine r_dup C dX7_pattern_1 rfl ?_
  refine mg_at C dX7_pattern_2 ?_
  refine r_iconst (v := 1) C dX7_pattern_5 (by decide) ?_
  refine r_iadd C dX7_pattern_6 ?_
  rw [h9, nI_1]
  refine mp_at C dX7_pattern_7 ?_
  refine r_aload_n C dX7_pattern_10 rfl rfl ?_
  refine m_callv C (c_skip G h ad (va_up M 9 (nI (a + 1))) R (a := a + 1) (e := e) rfl h8 he (by omega)) kM_skip dX7_pattern_11 rfl (by decide) (by decide) (by decide) (by decide) rfl rfl (fun M1 R1 hq => ?_)
  obtain ⟨rfl, rfl⟩ := hq
  rw [← ha1, up_up]
  refine r_aload_n C dX7_pattern_14 rfl rfl ?_
  refine m_calli C (c_now G h ad (va_up M 9 (nI a1)) R1 (a := a1) (e := e) rfl h8 he hs1.2) kM_now dX7_pattern_15 rfl (by decide) (by decide) (by decide) (by decide) rfl rfl (fun r M2 R2 hq => ?_)
  obtain ⟨rfl, rfl, rfl⟩ := hq
  refine m_isDigit C dX7_pattern_18 (by decide) (by decide) (by decide) (by decide) ?_
  skip
  by_cases hno : isDg (R2 1) e a1
  rotate_left
  · have hd0 : dg = 0 := by rw [hdg]; exact dgs_stop hno
    have hr0 : (if 48 ≤ (if a1 < e then R2 1 a1 else 0) ∧ (if a1 < e then R2 1 a1 else 0) ≤ 57 then (1 : Int32) else 0) = 0 := by
      by_cases w : a1 < e
      · rw [if_pos w, if_neg (fun q => hno ⟨w, q⟩)]
      · rw [if_neg w, if_neg (by decide)]
    rw [hr0]
    refine r_if_ne (tgt := 34) C dX7_pattern_21 (by decide) (fun c21 => absurd c21 ((fun q => q rfl))) (fun c21 => ?_)
    refine r_aload_n C dX7_pattern_24 rfl rfl ?_
    refine r_iconst (v := 1) C dX7_pattern_25 (by decide) ?_
    refine r_aload_n C dX7_pattern_26 rfl rfl ?_
    refine mg_at C dX7_pattern_27 ?_
    refine m_calli C (c_wrong G h ad (va_up M 9 (nI a1)) R2 1 (nI a1)) kM_wrong dX7_pattern_30 rfl (by decide) (by decide) (by decide) (by decide) rfl rfl (fun r M3 R3 hq => ?_)
    obtain ⟨rfl, rfl, rfl⟩ := hq
    rw [if_pos (show va_up M 9 (nI a1) 3 = 0 from h3)]
    exact hR _ _ _ _ _ rfl dX7_pattern_33 ⟨((RdM.rf.up (by omega)).up (by omega)).up (by omega), RdR.rf, Or.inl ⟨hd0, rfl, rfl, rfl, h8, a1, hs1.2, rfl⟩⟩
  have hlt := hno.1
  rw [if_pos hlt, if_pos hno.2]
  have hdp : 0 < dg := by rw [hdg, dgs_go hno]; omega
  have hvl : v ≤ 10009 := by
    rw [hv]
    refine rvF_le dg (fun q hq => ?_)
    have hq2 : isDg (R2 1) e (a1 + q) := by
      have gen : ∀ (f b : Nat), e - b ≤ f → ∀ q, q < dgs (R2 1) e b → isDg (R2 1) e (b + q) := by
        intro f
        induction f with
        | zero => intro b hb q hq; rw [dgs_stop (fun w => by have := w.1; omega)] at hq; omega
        | succ f ih =>
          intro b hb q hq
          by_cases w : isDg (R2 1) e b
          · rw [dgs_go w] at hq
            by_cases q0 : q = 0
            · subst q0; exact w
            · have := w.1
              have := ih (b + 1) (by omega) (q - 1) (by omega)
              rw [show b + 1 + (q - 1) = b + q by omega] at this
              exact this
          · rw [dgs_stop w] at hq; omega
      exact gen e a1 (by omega) q (by rw [← hdg]; exact hq)
    obtain ⟨_, _, w2, _, w4⟩ := dg_cl hq2.2.1 hq2.2.2
    omega
  -- behind the number
  have j39 : ∀ M3 : Mt, M3 = va_up (va_up (va_up (va_up M 9 (nI a1)) 16 (nI a1)) 17 (nI dg)) 9 (nI (a1 + dg)) → V X 0 0 39 [some (.ref h), some (.int (nI v)), none] [] (mW G h ad M3 R2) := by
    intro M3 hM3
    have g3 : M3 3 = 0 := by rw [hM3]; exact h3
    have g16 : M3 16 = nI a1 := by rw [hM3]; rfl
    have g17 : M3 17 = nI dg := by rw [hM3]; rfl
    have g8 : M3 8 = nI e := by rw [hM3]; exact h8
    have g9 : M3 9 = nI (a1 + dg) := by rw [hM3]; rfl
    have g10 : M3 10 = nI n := by rw [hM3]; exact h10
    have g12 : M3 12 = nI mny := by rw [hM3]; exact h12
    have gM : RdM M M3 := by rw [hM3]; exact (((RdM.rf.up (by omega)).up (by omega)).up (by omega)).up (by omega)
    have wr : ∀ kind : Int32, RdM M (va_up (va_up M3 3 kind) 4 (nI a1)) ∧ RdF (va_up (va_up M3 3 kind) 4 (nI a1)) e 0 kind a1 := fun kind => ⟨(gM.up (by omega)).up (by omega), rfl, rfl, rfl, g8, a1 + dg, hdl, g9⟩
    have c7 : (7 : Int32) = nI 7 := rfl
    have c2 : (2 : Int32) = nI 2 := rfl
    have j53 : (7 < v ∨ 2 < dg) → V X 0 0 53 [some (.ref h), some (.int (nI v)), none] [] (mW G h ad M3 R2) := by
      intro hor
      refine r_aload_n C dX7_pattern_53 rfl rfl ?_
      refine r_iconst (v := 2) C dX7_pattern_54 (by decide) ?_
      refine r_aload_n C dX7_pattern_55 rfl rfl ?_
      refine mg_numberAt C dX7_pattern_56 ?_
      rw [g16]
      refine m_calli C (c_wrong G h ad M3 R2 2 (nI a1)) kM_wrong dX7_pattern_59 rfl (by decide) (by decide) (by decide) (by decide) rfl rfl (fun r M4 R4 hq => ?_)
      obtain ⟨rfl, rfl, rfl⟩ := hq
      rw [if_pos g3]
      exact hR _ _ _ _ _ rfl dX7_pattern_62 ⟨(wr 2).1, RdR.rf, Or.inr (Or.inl ⟨hdp, hor, (wr 2).2⟩)⟩
    have j63 : v ≤ 7 → dg ≤ 2 → V X 0 0 63 [some (.ref h), some (.int (nI v)), none] [] (mW G h ad M3 R2) := by
      intro hv7 hd2
      have hbv : vp_in (nI v) 8 := vp_in_nI (by omega) (by decide)
      by_cases hst : R2 5 v = nI n
      rotate_left
      · refine r_aload_n C dX7_pattern_63 rfl rfl ?_
        refine mg_straws C dX7_pattern_64 ?_
        refine r_iload_n C dX7_pattern_67 rfl rfl ?_
        refine ml_straws C dX7_pattern_68 (hbv) ?_
        rw [nI_clamp (by omega)]
        refine r_aload_n C dX7_pattern_69 rfl rfl ?_
        refine mg_n C dX7_pattern_70 ?_
        rw [g10]
        refine r_icmp_eq (tgt := 86) C dX7_pattern_73 (by decide) (fun c73 => absurd c73 (hst)) (fun c73 => ?_)
        refine r_aload_n C dX7_pattern_76 rfl rfl ?_
        refine r_iconst (v := 3) C dX7_pattern_77 (by decide) ?_
        refine r_aload_n C dX7_pattern_78 rfl rfl ?_
        refine mg_numberAt C dX7_pattern_79 ?_
        rw [g16]
        refine m_calli C (c_wrong G h ad M3 R2 3 (nI a1)) kM_wrong dX7_pattern_82 rfl (by decide) (by decide) (by decide) (by decide) rfl rfl (fun r M4 R4 hq => ?_)
        obtain ⟨rfl, rfl, rfl⟩ := hq
        rw [if_pos g3]
        exact hR _ _ _ _ _ rfl dX7_pattern_85 ⟨(wr 3).1, RdR.rf, Or.inr (Or.inr (Or.inl ⟨hdp, hv7, hd2, hst, (wr 3).2⟩))⟩
      obtain ⟨s', z, hp'⟩ := hP v (by omega) (by rw [hst]; exact pos_nI (by omega) (by omega))
      have es : s' = n := by
        have := hp'.1.symm.trans hst
        rw [nI_eq (by have := hp'.2.2.1; omega) (by omega)] at this
        exact this
      subst es
      obtain ⟨p5, p2, p7, pz, pz3, pok⟩ := id hp'
      have j113 : mny + z ≤ 300 → V X 0 0 113 [some (.ref h), some (.int (nI v)), none] [] (mW G h ad M3 R2) := by
        intro hle
        have key : ∀ (f i : Nat) (P : Nat → Int32), i + f = z → (∀ q, q < mny → P q = R2 11 q) → (∀ q, q < i → P (mny + q) = rowOf R2 v q) → V X 0 0 115 [some (.ref h), some (.int (nI v)), some (.int (nI i))] [] (mW G h ad M3 (va_up R2 11 P)) := by
          intro f
          induction f with
          | zero =>
            intro i P hif q1 q2
            have hiz : i = z := by omega
            subst hiz
            refine r_iload_n C dX7_pattern_115 rfl rfl ?_
            refine r_aload_n C dX7_pattern_116 rfl rfl ?_
            refine mg_sizes C dX7_pattern_117 ?_
            refine r_iload_n C dX7_pattern_120 rfl rfl ?_
            refine ml_sizes C dX7_pattern_121 (hbv) ?_
            rw [nI_clamp (by omega), show va_up R2 11 P 6 v = nI i from pz]
            refine r_icmp_ge (tgt := 154) C dX7_pattern_122 (by decide) (fun c122 => ?_) (fun c122 => absurd c122 ((fun q => q (nI_le (by omega) (by omega)))))
            refine r_aload_n C dX7_pattern_154 rfl rfl ?_
            refine r_dup C dX7_pattern_155 rfl ?_
            refine mg_many C dX7_pattern_156 ?_
            refine r_aload_n C dX7_pattern_159 rfl rfl ?_
            refine mg_sizes C dX7_pattern_160 ?_
            refine r_iload_n C dX7_pattern_163 rfl rfl ?_
            refine ml_sizes C dX7_pattern_164 (hbv) ?_
            rw [nI_clamp (by omega), show va_up R2 11 P 6 v = nI i from pz, g12]
            refine r_iadd C dX7_pattern_165 ?_
            rw [nI_add]
            refine mp_many C dX7_pattern_166 ?_
            refine r_iconst (v := 1) C dX7_pattern_169 (by decide) ?_
            exact hR _ _ _ _ _ rfl dX7_pattern_170 ⟨gM.up (by omega), RdR.rf.up (by omega), Or.inr (Or.inr (Or.inr (Or.inr ⟨i, hdp, hv7, hd2, hp', hle, rfl, g8, g9, g10, rfl, by rw [hM3]; exact h15, g3, by rw [hM3]; exact h4, he, hdl, hn2, hn7, hle, hd8, fun q hq => by
              show P q = apR row mny (rowOf R2 v) q ∧ okC s' (apR row mny (rowOf R2 v) q)
              unfold apR
              by_cases w : q < mny
              · rw [if_pos w, q1 q w]; exact hrow q w
              · rw [if_neg w]
                have := q2 (q - mny) (by omega)
                rw [show mny + (q - mny) = q by omega] at this
                exact ⟨this, pok _ (by omega)⟩, fun q hq => by
              obtain ⟨w1, w2, w3, w4⟩ := hbr q hq
              exact ⟨w1, w2, w3, by omega⟩⟩)))⟩
          | succ f ih =>
            intro i P hif q1 q2
            refine r_iload_n C dX7_pattern_115 rfl rfl ?_
            refine r_aload_n C dX7_pattern_116 rfl rfl ?_
            refine mg_sizes C dX7_pattern_117 ?_
            refine r_iload_n C dX7_pattern_120 rfl rfl ?_
            refine ml_sizes C dX7_pattern_121 (hbv) ?_
            rw [nI_clamp (by omega), show va_up R2 11 P 6 v = nI z from pz]
            refine r_icmp_ge (tgt := 154) C dX7_pattern_122 (by decide) (fun c122 => absurd c122 ((nI_ge (by omega) (by omega)))) (fun c122 => ?_)
            refine r_aload_n C dX7_pattern_125 rfl rfl ?_
            refine mg_made C dX7_pattern_126 ?_
            refine r_aload_n C dX7_pattern_129 rfl rfl ?_
            refine mg_many C dX7_pattern_130 ?_
            refine r_iload_n C dX7_pattern_133 rfl rfl ?_
            refine r_iadd C dX7_pattern_134 ?_
            refine r_aload_n C dX7_pattern_135 rfl rfl ?_
            refine mg_rows C dX7_pattern_136 ?_
            refine r_sipush (v := 300) C dX7_pattern_139 (by decide) ?_
            refine r_iload_n C dX7_pattern_142 rfl rfl ?_
            refine r_imul C dX7_pattern_143 ?_
            refine r_iload_n C dX7_pattern_144 rfl rfl ?_
            refine r_iadd C dX7_pattern_145 ?_
            show V X 0 0 146 _ [.int (nI 300 * nI v + nI i), .ref (ad 7), .int (M3 12 + nI i), .ref (ad 11)] _
            rw [pk_mul, nI_add, g12, nI_add]
            refine ml_rows C dX7_pattern_146 (vp_in_nI (show 300 * v + i < 2400 by omega) (by decide)) ?_
            rw [nI_clamp (by omega)]
            show V X 0 0 147 _ (.int (rowOf R2 v i) :: _) _
            refine ms_made C dX7_pattern_147 (vp_in_nI (show mny + i < 300 by omega) (by decide)) ?_
            rw [nI_clamp (by omega)]
            show V X 0 0 148 _ _ (mW G h ad _ (va_up (va_up R2 11 P) 11 (upd P (mny + i) (rowOf R2 v i))))
            rw [up_up]
            refine r_iinc (v := _ + 1) C dX7_pattern_148 rfl (by rfl) (by decide) ?_
            rw [nI_1]
            refine r_goto (tgt := 115) C dX7_pattern_151 (by decide) ?_
            exact ih (i + 1) _ (by omega) (fun q hq => by rw [pk_un (by omega)]; exact q1 q hq) (fun q hq => by
              by_cases w : q = i
              · subst w; exact pk_us
              · rw [pk_un (by omega)]; exact q2 q (by omega))
        have q0 := key z 0 (R2 11) (by omega) (fun q _ => rfl) (fun q hq => by omega)
        rw [up_same rfl] at q0
        refine r_iconst (v := 0) C dX7_pattern_113 (by decide) ?_
        refine r_istore_n C dX7_pattern_114 rfl (by decide) ?_
        exact q0
      refine r_aload_n C dX7_pattern_63 rfl rfl ?_
      refine mg_straws C dX7_pattern_64 ?_
      refine r_iload_n C dX7_pattern_67 rfl rfl ?_
      refine ml_straws C dX7_pattern_68 (hbv) ?_
      rw [nI_clamp (by omega)]
      refine r_aload_n C dX7_pattern_69 rfl rfl ?_
      refine mg_n C dX7_pattern_70 ?_
      rw [g10]
      refine r_icmp_eq (tgt := 86) C dX7_pattern_73 (by decide) (fun c73 => ?_) (fun c73 => absurd c73 ((fun q => q hst)))
      refine r_aload_n C dX7_pattern_86 rfl rfl ?_
      refine mg_many C dX7_pattern_87 ?_
      refine r_aload_n C dX7_pattern_90 rfl rfl ?_
      refine mg_sizes C dX7_pattern_91 ?_
      refine r_iload_n C dX7_pattern_94 rfl rfl ?_
      refine ml_sizes C dX7_pattern_95 (hbv) ?_
      rw [nI_clamp (by omega), pz, g12]
      refine r_iadd C dX7_pattern_96 ?_
      rw [nI_add]
      refine r_sipush (v := 300) C dX7_pattern_97 (by decide) ?_
      rw [show (300 : Int32) = nI 300 from rfl]
      refine r_icmp_le (tgt := 113) C dX7_pattern_100 (by decide) (fun c100 => ?_) (fun c100 => ?_)
      · exact j113 (by rw [nI_leI (by omega) (by omega)] at c100; exact c100)
      · rw [nI_leI (by omega) (by omega)] at c100
        refine r_aload_n C dX7_pattern_103 rfl rfl ?_
        refine r_iconst (v := 2) C dX7_pattern_104 (by decide) ?_
        refine r_aload_n C dX7_pattern_105 rfl rfl ?_
        refine mg_numberAt C dX7_pattern_106 ?_
        rw [g16]
        refine m_calli C (c_wrong G h ad M3 R2 2 (nI a1)) kM_wrong dX7_pattern_109 rfl (by decide) (by decide) (by decide) (by decide) rfl rfl (fun r M4 R4 hq => ?_)
        obtain ⟨rfl, rfl, rfl⟩ := hq
        rw [if_pos g3]
        exact hR _ _ _ _ _ rfl dX7_pattern_112 ⟨(wr 2).1, RdR.rf, Or.inr (Or.inr (Or.inr (Or.inl ⟨z, hdp, hv7, hd2, hp', by omega, (wr 2).2⟩)))⟩
    refine r_iload_n C dX7_pattern_39 rfl rfl ?_
    refine r_bipush (v := 7) C dX7_pattern_40 (by decide) ?_
    refine r_icmp_gt (tgt := 53) C dX7_pattern_42 (by decide) (fun c42 => ?_) (fun c42 => ?_)
    · first
        | exact j53 (Or.inl (by rw [c7, nI_ltI (by omega) (by omega)] at c42; omega))
        | exact j53 (Or.inr (by rw [nI_leI (by omega) (by omega)] at c50; omega))
    · rw [c7, nI_ltI (by omega) (by omega)] at c42
      refine r_aload_n C dX7_pattern_45 rfl rfl ?_
      refine mg_digits C dX7_pattern_46 ?_
      refine r_iconst (v := 2) C dX7_pattern_49 (by decide) ?_
      rw [g17, c2]
      refine r_icmp_le (tgt := 63) C dX7_pattern_50 (by decide) (fun c50 => ?_) (fun c50 => ?_)
      · exact j63 (by omega) (by rw [nI_leI (by omega) (by omega)] at c50; omega)
      · first
          | exact j53 (Or.inl (by rw [c7, nI_ltI (by omega) (by omega)] at c42; omega))
          | exact j53 (Or.inr (by rw [nI_leI (by omega) (by omega)] at c50; omega))
  refine r_if_ne (tgt := 34) C dX7_pattern_21 (by decide) (fun c21 => ?_) (fun c21 => absurd c21 ((by decide)))
  refine r_aload_n C dX7_pattern_34 rfl rfl ?_
  refine m_calli C (c_number G h ad (va_up M 9 (nI a1)) R2 (a := a1) (e := e) rfl h8 he hs1.2) kM_number dX7_pattern_35 rfl (by decide) (by decide) (by decide) (by decide) rfl rfl (fun r M3 R3 hq => ?_)
  obtain ⟨rfl, hM3, rfl⟩ := hq
  rw [← hdg] at hM3 ⊢
  rw [← hv]
  refine r_istore_n C dX7_pattern_38 rfl (by decide) ?_
  exact j39 M3 hM3
end M24
