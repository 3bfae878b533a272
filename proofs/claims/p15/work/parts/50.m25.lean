/-! the reference: item -/
def opO (M' : Mt) (R' : Rt) (e n a mny dp : Nat) (row : Nat → Int32) (kd fr : Nat → Nat) (kv : Nat) (r : Int32) : Prop := (dp = 8 ∧ RdF M' e r 2 a) ∨ (dp < 8 ∧ r = 1 ∧ RdS M' R' e n (a + 1) mny (dp + 1) row (va_up kd dp kv) (va_up fr dp mny))
def clO (M' : Mt) (R' : Rt) (e n a mny dp : Nat) (row : Nat → Int32) (kd fr : Nat → Nat) (r : Int32) : Prop := (dp = 0 ∧ RdF M' e r 1 a) ∨ (0 < dp ∧ kd (dp - 1) < 100 ∧ 300 < fr (dp - 1) + (mny - fr (dp - 1)) * kd (dp - 1) ∧ RdF M' e r 2 a) ∨ (0 < dp ∧ clN (kd (dp - 1)) (fr (dp - 1)) (mny - fr (dp - 1)) ≤ 300 ∧ r = 1 ∧ RdS M' R' e n (a + 1) (clN (kd (dp - 1)) (fr (dp - 1)) (mny - fr (dp - 1))) (dp - 1) (clR n (kd (dp - 1)) row (fr (dp - 1)) (mny - fr (dp - 1))) kd fr)
def ptO (R : Rt) (M' : Mt) (R' : Rt) (e n mny dp : Nat) (row : Nat → Int32) (kd fr : Nat → Nat) (a1 dg v : Nat) (r : Int32) : Prop := (dg = 0 ∧ RdF M' e r 1 a1) ∨ (0 < dg ∧ (7 < v ∨ 2 < dg) ∧ RdF M' e r 2 a1) ∨ (0 < dg ∧ v ≤ 7 ∧ dg ≤ 2 ∧ R 5 v ≠ nI n ∧ RdF M' e r 3 a1) ∨ (∃ z, 0 < dg ∧ v ≤ 7 ∧ dg ≤ 2 ∧ PatOK R v n z ∧ 300 < mny + z ∧ RdF M' e r 2 a1) ∨ (∃ z, 0 < dg ∧ v ≤ 7 ∧ dg ≤ 2 ∧ PatOK R v n z ∧ mny + z ≤ 300 ∧ r = 1 ∧ RdS M' R' e n (a1 + dg) (mny + z) dp (apR row mny (rowOf R v)) kd fr)
def nuO (M' : Mt) (R' : Rt) (e n mny dp : Nat) (row : Nat → Int32) (kd fr : Nat → Nat) (a a3 v : Nat) (c1 r : Int32) : Prop :=
  (c1 = 40 ∧ 1 ≤ v ∧ v ≤ 50 ∧ opO M' R' e n a3 mny dp row kd fr v r) ∨ (c1 = 40 ∧ ¬ (1 ≤ v ∧ v ≤ 50) ∧ RdF M' e r 2 a) ∨ (c1 ≠ 40 ∧ c1 ≠ 43 ∧ c1 ≠ 45 ∧ RdF M' e r 1 a3) ∨ ((c1 = 43 ∨ c1 = 45) ∧ ¬ (1 ≤ v ∧ v < n) ∧ RdF M' e r 2 a) ∨ ((c1 = 43 ∨ c1 = 45) ∧ 1 ≤ v ∧ v < n ∧ mny = 300 ∧ RdF M' e r 2 a3) ∨ ((c1 = 43 ∨ c1 = 45) ∧ 1 ≤ v ∧ v < n ∧ mny < 300 ∧ r = 1 ∧ RdS M' R' e n (a3 + 1) (mny + 1) dp (upd row mny (if c1 = 43 then nI v else -nI v)) kd fr)
/-- what one item does -/
def itO (R : Rt) (M' : Mt) (R' : Rt) (e n a mny dp : Nat) (row : Nat → Int32) (kd fr : Nat → Nat) (r : Int32) : Prop :=
  (R 1 a = 41 ∧ clO M' R' e n a mny dp row kd fr r) ∨
  ((∃ kv : Nat, (kv = 117 ∨ kv = 109 ∨ kv = 116) ∧ R 1 a = nI kv ∧ ((skipTo (R 1) e (a + 1) < e ∧ R 1 (skipTo (R 1) e (a + 1)) = 40 ∧ opO M' R' e n (skipTo (R 1) e (a + 1)) mny dp row kd fr kv r) ∨ (¬ (skipTo (R 1) e (a + 1) < e ∧ R 1 (skipTo (R 1) e (a + 1)) = 40) ∧ RdF M' e r 1 (skipTo (R 1) e (a + 1)))))) ∨
  (R 1 a = 112 ∧ ptO R M' R' e n mny dp row kd fr (skipTo (R 1) e (a + 1)) (dgs (R 1) e (skipTo (R 1) e (a + 1))) (rvF (R 1) (skipTo (R 1) e (a + 1)) (dgs (R 1) e (skipTo (R 1) e (a + 1)))) r) ∨
  (R 1 a ≠ 41 ∧ R 1 a ≠ 117 ∧ R 1 a ≠ 109 ∧ R 1 a ≠ 116 ∧ R 1 a ≠ 112 ∧ ¬ isDg (R 1) e a ∧ RdF M' e r 1 a) ∨
  (isDg (R 1) e a ∧ nuO M' R' e n mny dp row kd fr a (skipTo (R 1) e (a + dgs (R 1) e a)) (rvF (R 1) a (dgs (R 1) e a)) (if skipTo (R 1) e (a + dgs (R 1) e a) < e then R 1 (skipTo (R 1) e (a + dgs (R 1) e a)) else 0) r)
theorem rv_bound {t : Nat → Int32} {e a : Nat} (ha : a ≤ e) : rvF t a (dgs t e a) ≤ 10009 := by
  refine rvF_le _ (fun q hq => ?_)
  have gen : ∀ (f b : Nat), e - b ≤ f → ∀ q, q < dgs t e b → isDg t e (b + q) := by
    intro f
    induction f with
    | zero => intro b hb q hq; rw [dgs_stop (fun w => by have := w.1; omega)] at hq; omega
    | succ f ih =>
      intro b hb q hq
      by_cases w : isDg t e b
      · rw [dgs_go w] at hq
        by_cases q0 : q = 0
        · subst q0; exact w
        · have := w.1
          have := ih (b + 1) (by omega) (q - 1) (by omega)
          rw [show b + 1 + (q - 1) = b + q by omega] at this
          exact this
      · rw [dgs_stop w] at hq; omega
  have hq2 := gen e a (by omega) q hq
  obtain ⟨_, _, w2, _, w4⟩ := dg_cl hq2.2.1 hq2.2.2
  omega
section M25
variable (G : Gx) (h : Nat) (ad : Nat → Nat) (M : Mt) (R : Rt)
theorem c_item {e n a mny dp : Nat} {row : Nat → Int32} {kd fr : Nat → Nat} (hP : PatsOK R) (hS : RdS M R e n a mny dp row kd fr) (hae : a < e) : mI G h ad yX7_item cX7_item 4 .boolean 3 [] M R (fun r M' R' => RdM M M' ∧ RdR R R' ∧ itO R M' R' e n a mny dp row kd fr r) := by
  refine mI.intro (by decide) (Nat.le_of_ble_eq_true rfl) (cat1 (xs := [])) fun X C hR => ?_
  obtain ⟨h8, h9, h10, h12, h15, h3, h4, he, ha, hn2, hn7, hm3, hd8, hrow, hbr⟩ := id hS
  have r01 : ∀ {r : Int32} {P Q : Prop}, (r = 0 ∧ P) ∨ (r = 1 ∧ Q) → narrow .boolean (.int r) = .int r := fun q => by rcases q with q | q <;> rw [q.1] <;> rfl
  have hsk := skipTo_le (t := R 1) (e := e) (a := a + 1) (by omega)
  have j34 : ∀ kv : Nat, (kv = 117 ∨ kv = 109 ∨ kv = 116) → R 1 a = nI kv → V X 0 0 34 [some (.ref h), some (.int (nI kv)), none, none] [] (mW G h ad M R) := by
    intro kv hkv hta
    obtain ⟨a1, ha1⟩ : ∃ q, q = skipTo (R 1) e (a + 1) := ⟨_, rfl⟩
    rw [← ha1] at hsk
    have hS1 : RdS (va_up M 9 (nI a1)) R e n a1 mny dp row kd fr := hS.at (fun i h1 _ _ => va_up_no h1) rfl hsk.2
    refine r_aload_n C dX7_item_34 rfl rfl ?_
    refine r_dup C dX7_item_35 rfl ?_
    refine mg_at C dX7_item_36 ?_
    refine r_iconst (v := 1) C dX7_item_39 (by decide) ?_
    refine r_iadd C dX7_item_40 ?_
    rw [h9, nI_1]
    refine mp_at C dX7_item_41 ?_
    refine r_aload_n C dX7_item_44 rfl rfl ?_
    refine m_callv C (c_skip G h ad (va_up M 9 (nI (a + 1))) R (a := a + 1) (e := e) rfl h8 he (by omega)) kM_skip dX7_item_45 rfl (by decide) (by decide) (by decide) (by decide) rfl rfl (fun M1 R1 hq => ?_)
    obtain ⟨rfl, rfl⟩ := hq
    rw [← ha1, up_up]
    refine r_aload_n C dX7_item_48 rfl rfl ?_
    refine m_calli C (c_now G h ad (va_up M 9 (nI a1)) R1 (a := a1) (e := e) rfl h8 he hsk.2) kM_now dX7_item_49 rfl (by decide) (by decide) (by decide) (by decide) rfl rfl (fun r M2 R2 hq => ?_)
    obtain ⟨rfl, rfl, rfl⟩ := hq
    skip
    by_cases hop : a1 < e ∧ R2 1 a1 = 40
    · rw [if_pos hop.1, hop.2]
      refine r_bipush (v := 40) C dX7_item_52 (by decide) ?_
      refine r_icmp_ne (tgt := 65) C dX7_item_54 (by decide) (fun c54 => absurd c54 ((fun q => q rfl))) (fun c54 => ?_)
      refine r_aload_n C dX7_item_57 rfl rfl ?_
      refine r_iload_n C dX7_item_58 rfl rfl ?_
      refine m_calli C (c_opens G h ad (va_up M 9 (nI a1)) R2 kv (by rcases hkv with q | q | q <;> subst q <;> first | exact Or.inr (Or.inl rfl) | exact Or.inr (Or.inr (Or.inl rfl)) | exact Or.inr (Or.inr (Or.inr rfl))) hS1 hop.1) kM_opens dX7_item_59 rfl (by decide) (by decide) (by decide) (by decide) rfl rfl (fun r M3 R3 hq => ?_)
      obtain ⟨q1, q2, q3⟩ := hq
      refine r_goto (tgt := 74) C dX7_item_62 (by decide) ?_
      exact hR _ _ _ _ _ (r01 (P := True) (Q := True) (q3.elim (fun w => Or.inl ⟨w.2.1, trivial⟩) (fun w => Or.inr ⟨w.2.1, trivial⟩))) dX7_item_74 ⟨(RdM.rf.up (by omega)).tr q1, q2, Or.inr (Or.inl ⟨kv, hkv, hta, Or.inl ⟨by rw [← ha1]; exact hop.1, by rw [← ha1]; exact hop.2, by rw [← ha1]; exact q3.elim (fun w => Or.inl ⟨w.1, w.2.1, w.2.2.1, w.2.2.2.1, w.2.2.2.2.1, a1, hsk.2, w.2.2.2.2.2⟩) Or.inr⟩⟩)⟩
    · have hne : ¬ (if a1 < e then R2 1 a1 else 0) = 40 := by
        by_cases w : a1 < e
        · rw [if_pos w]; exact fun q => hop ⟨w, q⟩
        · rw [if_neg w]; decide
      refine r_bipush (v := 40) C dX7_item_52 (by decide) ?_
      refine r_icmp_ne (tgt := 65) C dX7_item_54 (by decide) (fun c54 => ?_) (fun c54 => absurd c54 ((fun q => hne q)))
      refine r_aload_n C dX7_item_65 rfl rfl ?_
      refine r_iconst (v := 1) C dX7_item_66 (by decide) ?_
      refine r_aload_n C dX7_item_67 rfl rfl ?_
      refine mg_at C dX7_item_68 ?_
      refine m_calli C (c_wrong G h ad (va_up M 9 (nI a1)) R2 1 (nI a1)) kM_wrong dX7_item_71 rfl (by decide) (by decide) (by decide) (by decide) rfl rfl (fun r M3 R3 hq => ?_)
      obtain ⟨rfl, rfl, rfl⟩ := hq
      rw [if_pos (show va_up M 9 (nI a1) 3 = 0 from h3)]
      exact hR _ _ _ _ _ rfl dX7_item_74 ⟨((RdM.rf.up (by omega)).up (by omega)).up (by omega), RdR.rf, Or.inr (Or.inl ⟨kv, hkv, hta, Or.inr ⟨by rw [← ha1]; exact hop, by rw [← ha1]; exact ⟨rfl, rfl, rfl, h8, a1, hsk.2, rfl⟩⟩⟩)⟩
  have j103 : isDg (R 1) e a → ∀ o1 : Option Value, V X 0 0 103 [some (.ref h), o1, none, none] [] (mW G h ad M R) := by
    intro hdg o1
    obtain ⟨dg, hdgE⟩ : ∃ q, q = dgs (R 1) e a := ⟨_, rfl⟩
    obtain ⟨v, hvE⟩ : ∃ q, q = rvF (R 1) a dg := ⟨_, rfl⟩
    have hdl := dgs_le (t := R 1) (e := e) (e - a) a ha (Nat.le_refl _)
    rw [← hdgE] at hdl
    have hvl : v ≤ 10009 := by rw [hvE, hdgE]; exact rv_bound ha
    obtain ⟨a3, ha3⟩ : ∃ q, q = skipTo (R 1) e (a + dg) := ⟨_, rfl⟩
    have hs3 := skipTo_le (t := R 1) (e := e) (a := a + dg) hdl
    rw [← ha3] at hs3
    obtain ⟨c1, hc1⟩ : ∃ q, q = (if a3 < e then R 1 a3 else 0) := ⟨_, rfl⟩
    have out : ∀ (r : Int32) (M' : Mt) (R' : Rt) (pc : Nat) (L : List (Option Value)), narrow .boolean (.int r) = .int r → decode cX7_item pc = .ok (.ireturn, 1) → RdM M M' → RdR R R' → nuO M' R' e n mny dp row kd fr a a3 v c1 r → V X 0 0 pc L [.int r] (mW G h ad M' R') := by
      intro r M' R' pc L w1 w2 w3 w4 w5
      refine hR _ _ _ _ _ w1 w2 ⟨w3, w4, Or.inr (Or.inr (Or.inr (Or.inr ⟨hdg, ?_⟩)))⟩
      rw [← hdgE, ← ha3, ← hvE, ← hc1]
      exact w5
    have j122 : ∀ M3 : Mt, (∀ i, i ≠ 9 → i ≠ 16 → i ≠ 17 → M3 i = M i) → M3 9 = nI a3 → RdM M M3 → V X 0 0 122 [some (.ref h), some (.int c1), some (.int (nI v)), some (.int (nI a))] [] (mW G h ad M3 R) := by
      intro M3 hM3 g9 gM
      have hS3 : RdS M3 R e n a3 mny dp row kd fr := hS.at hM3 g9 hs3.2
      obtain ⟨g8, -, g10, g12, g15, g3, g4, -⟩ := id hS3
      have wr : ∀ (kind : Int32) (pl : Nat), RdM M (va_up (va_up M3 3 kind) 4 (nI pl)) ∧ RdF (va_up (va_up M3 3 kind) 4 (nI pl)) e 0 kind pl := fun kind pl => ⟨(gM.up (by omega)).up (by omega), rfl, rfl, rfl, g8, a3, hs3.2, g9⟩
      have one : (1 : Int32) = nI 1 := rfl
      by_cases k40 : c1 = 40
      · have h3e : a3 < e := by
          rcases Nat.lt_or_ge a3 e with w | w
          · exact w
          · rw [hc1, if_neg (by omega)] at k40; exact absurd k40 (by decide)
        have j147 : ¬ (1 ≤ v ∧ v ≤ 50) → V X 0 0 147 [some (.ref h), some (.int c1), some (.int (nI v)), some (.int (nI a))] [] (mW G h ad M3 R) := by
          intro hno
          refine r_aload_n C dX7_item_147 rfl rfl ?_
          refine r_iconst (v := 2) C dX7_item_148 (by decide) ?_
          refine r_iload_n C dX7_item_149 rfl rfl ?_
          refine m_calli C (c_wrong G h ad M3 R 2 (nI a)) kM_wrong dX7_item_150 rfl (by decide) (by decide) (by decide) (by decide) rfl rfl (fun r M4 R4 hq => ?_)
          obtain ⟨rfl, rfl, rfl⟩ := hq
          rw [if_pos g3]
          exact out _ _ _ _ _ rfl dX7_item_153 (wr 2 a).1 RdR.rf (Or.inr (Or.inl ⟨k40, hno, (wr 2 a).2⟩))
        refine r_iload_n C dX7_item_122 rfl rfl ?_
        refine r_bipush (v := 40) C dX7_item_123 (by decide) ?_
        refine r_icmp_ne (tgt := 154) C dX7_item_125 (by decide) (fun c125 => absurd c125 ((fun q => q k40))) (fun c125 => ?_)
        refine r_iload_n C dX7_item_128 rfl rfl ?_
        refine r_iconst (v := 1) C dX7_item_129 (by decide) ?_
        refine r_icmp_lt (tgt := 147) C dX7_item_130 (by decide) (fun c130 => ?_) (fun c130 => ?_)
        · first
            | exact j147 (fun w => by rw [one, nI_ltI (by omega) (by omega)] at c130; omega)
            | exact j147 (fun w => by rw [show (50 : Int32) = nI 50 from rfl, nI_ltI (by omega) (by omega)] at c136; omega)
        · refine r_iload_n C dX7_item_133 rfl rfl ?_
          refine r_bipush (v := 50) C dX7_item_134 (by decide) ?_
          refine r_icmp_gt (tgt := 147) C dX7_item_136 (by decide) (fun c136 => ?_) (fun c136 => ?_)
          · first
              | exact j147 (fun w => by rw [one, nI_ltI (by omega) (by omega)] at c130; omega)
              | exact j147 (fun w => by rw [show (50 : Int32) = nI 50 from rfl, nI_ltI (by omega) (by omega)] at c136; omega)
          · rw [one, nI_ltI (by omega) (by omega)] at c130
            rw [show (50 : Int32) = nI 50 from rfl, nI_ltI (by omega) (by omega)] at c136
            refine r_aload_n C dX7_item_139 rfl rfl ?_
            refine r_iload_n C dX7_item_140 rfl rfl ?_
            refine m_calli C (c_opens G h ad M3 R v (Or.inl ⟨by omega, by omega⟩) hS3 h3e) kM_opens dX7_item_141 rfl (by decide) (by decide) (by decide) (by decide) rfl rfl (fun r M4 R4 hq => ?_)
            obtain ⟨q1, q2, q3⟩ := hq
            refine r_goto (tgt := 153) C dX7_item_144 (by decide) ?_
            exact out _ _ _ _ _ (r01 (P := True) (Q := True) (q3.elim (fun w => Or.inl ⟨w.2.1, trivial⟩) (fun w => Or.inr ⟨w.2.1, trivial⟩))) dX7_item_153 (gM.tr q1) q2 (Or.inl ⟨k40, by omega, by omega, q3.elim (fun w => Or.inl ⟨w.1, w.2.1, w.2.2.1, w.2.2.2.1, w.2.2.2.2.1, a3, hs3.2, w.2.2.2.2.2⟩) Or.inr⟩)
      · by_cases kpm : c1 = 43 ∨ c1 = 45
        · have h3e : a3 < e := by
            rcases Nat.lt_or_ge a3 e with w | w
            · exact w
            · rw [hc1, if_neg (by omega)] at kpm; exact absurd kpm (by decide)
          have j189 : ¬ (1 ≤ v ∧ v < n) → V X 0 0 189 [some (.ref h), some (.int c1), some (.int (nI v)), some (.int (nI a))] [] (mW G h ad M3 R) := by
            intro hno
            refine r_aload_n C dX7_item_189 rfl rfl ?_
            refine r_iconst (v := 2) C dX7_item_190 (by decide) ?_
            refine r_iload_n C dX7_item_191 rfl rfl ?_
            refine m_calli C (c_wrong G h ad M3 R 2 (nI a)) kM_wrong dX7_item_192 rfl (by decide) (by decide) (by decide) (by decide) rfl rfl (fun r M4 R4 hq => ?_)
            obtain ⟨rfl, rfl, rfl⟩ := hq
            rw [if_pos g3]
            exact out _ _ _ _ _ rfl dX7_item_195 (wr 2 a).1 RdR.rf (Or.inr (Or.inr (Or.inr (Or.inl ⟨kpm, hno, (wr 2 a).2⟩))))
          have j196 : 1 ≤ v → v < n → V X 0 0 196 [some (.ref h), some (.int c1), some (.int (nI v)), some (.int (nI a))] [] (mW G h ad M3 R) := by
            intro hv1 hv2
            have hcl : (M3 12).toNatClampNeg = mny := by rw [g12, nI_clamp (by omega)]
            have j236 : mny < 300 → ∀ cv : Int32, cv = (if c1 = 43 then nI v else -nI v) → V X 0 0 236 [some (.ref h), some (.int c1), some (.int (nI v)), some (.int (nI a))] [.int cv, .int (M3 12), .ref (ad 11)] (mW G h ad M3 R) := by
              intro hm cv hcv
              have hokv : okC n cv := by
                rw [hcv]
                split
                · exact ⟨v, hv1, hv2, Or.inl rfl⟩
                · exact ⟨v, hv1, hv2, Or.inr rfl⟩
              refine ms_made C dX7_item_236 (by rw [g12]; exact vp_in_nI (show mny < 300 by omega) (by decide)) ?_
              rw [hcl]
              refine r_aload_n C dX7_item_237 rfl rfl ?_
              refine r_dup C dX7_item_238 rfl ?_
              refine mg_many C dX7_item_239 ?_
              refine r_iconst (v := 1) C dX7_item_242 (by decide) ?_
              refine r_iadd C dX7_item_243 ?_
              show V X 0 0 244 _ [.int (M3 12 + 1), .ref h] _
              rw [g12, nI_1]
              refine mp_many C dX7_item_244 ?_
              refine r_aload_n C dX7_item_247 rfl rfl ?_
              refine r_dup C dX7_item_248 rfl ?_
              refine mg_at C dX7_item_249 ?_
              refine r_iconst (v := 1) C dX7_item_252 (by decide) ?_
              refine r_iadd C dX7_item_253 ?_
              show V X 0 0 254 _ [.int (M3 9 + 1), .ref h] _
              rw [g9, nI_1]
              refine mp_at C dX7_item_254 ?_
              refine r_iconst (v := 1) C dX7_item_257 (by decide) ?_
              exact out _ _ _ _ _ rfl dX7_item_258 ((gM.up (by omega)).up (by omega)) (RdR.rf.up (by omega)) (Or.inr (Or.inr (Or.inr (Or.inr (Or.inr ⟨kpm, hv1, hv2, hm, rfl, g8, rfl, g10, rfl, g15, g3, g4, he, by omega, hn2, hn7, by omega, hd8, fun i hi => by
                show upd (R 11) mny cv i = upd row mny _ i ∧ okC n (upd row mny _ i)
                rw [← hcv]
                by_cases w : i = mny
                · subst w; rw [pk_us, pk_us]; exact ⟨rfl, hokv⟩
                · rw [pk_un w, pk_un w]; exact hrow i (by omega), fun i hi => by
                obtain ⟨w1, w2, w3, w4⟩ := hbr i hi
                exact ⟨w1, w2, w3, by omega⟩⟩)))))
            refine r_aload_n C dX7_item_196 rfl rfl ?_
            refine mg_many C dX7_item_197 ?_
            refine r_sipush (v := 300) C dX7_item_200 (by decide) ?_
            rw [g12]
            refine r_icmp_ne (tgt := 216) C dX7_item_203 (by decide) (fun c203 => ?_) (fun c203 => ?_)
            · refine r_aload_n C dX7_item_216 rfl rfl ?_
              refine mg_made C dX7_item_217 ?_
              refine r_aload_n C dX7_item_220 rfl rfl ?_
              refine mg_many C dX7_item_221 ?_
              refine r_iload_n C dX7_item_224 rfl rfl ?_
              refine r_bipush (v := 43) C dX7_item_225 (by decide) ?_
              refine r_icmp_ne (tgt := 234) C dX7_item_227 (by decide) (fun c227 => ?_) (fun c227 => ?_)
              · refine r_iload_n C dX7_item_234 rfl rfl ?_
                refine r_ineg C dX7_item_235 ?_
                first
                  | exact j236 (by have : mny ≠ 300 := fun q => c203 (by rw [q]; rfl); omega) _ (by rw [if_pos c227])
                  | exact j236 (by have : mny ≠ 300 := fun q => c203 (by rw [q]; rfl); omega) _ (by rw [if_neg c227])
              · refine r_iload_n C dX7_item_230 rfl rfl ?_
                refine r_goto (tgt := 236) C dX7_item_231 (by decide) ?_
                first
                  | exact j236 (by have : mny ≠ 300 := fun q => c203 (by rw [q]; rfl); omega) _ (by rw [if_pos c227])
                  | exact j236 (by have : mny ≠ 300 := fun q => c203 (by rw [q]; rfl); omega) _ (by rw [if_neg c227])
            · have hm : mny = 300 := (nI_eq (b := 300) (by omega) (by decide)).mp c203
              refine r_aload_n C dX7_item_206 rfl rfl ?_
              refine r_iconst (v := 2) C dX7_item_207 (by decide) ?_
              refine r_aload_n C dX7_item_208 rfl rfl ?_
              refine mg_at C dX7_item_209 ?_
              rw [g9]
              refine m_calli C (c_wrong G h ad M3 R 2 (nI a3)) kM_wrong dX7_item_212 rfl (by decide) (by decide) (by decide) (by decide) rfl rfl (fun r M4 R4 hq => ?_)
              obtain ⟨rfl, rfl, rfl⟩ := hq
              rw [if_pos g3]
              exact out _ _ _ _ _ rfl dX7_item_215 (wr 2 a3).1 RdR.rf (Or.inr (Or.inr (Or.inr (Or.inr (Or.inl ⟨kpm, hv1, hv2, hm, (wr 2 a3).2⟩)))))
          have j176 : V X 0 0 176 [some (.ref h), some (.int c1), some (.int (nI v)), some (.int (nI a))] [] (mW G h ad M3 R) := by
            refine r_iload_n C dX7_item_176 rfl rfl ?_
            refine r_iconst (v := 1) C dX7_item_177 (by decide) ?_
            refine r_icmp_lt (tgt := 189) C dX7_item_178 (by decide) (fun c178 => ?_) (fun c178 => ?_)
            · first
                | exact j189 (fun w => by rw [one, nI_ltI (by omega) (by omega)] at c178; omega)
                | exact j189 (fun w => by rw [nI_ltI (by omega) (by omega)] at c186; omega)
            · refine r_iload_n C dX7_item_181 rfl rfl ?_
              refine r_aload_n C dX7_item_182 rfl rfl ?_
              refine mg_n C dX7_item_183 ?_
              rw [g10]
              refine r_icmp_lt (tgt := 196) C dX7_item_186 (by decide) (fun c186 => ?_) (fun c186 => ?_)
              · exact j196 (by rw [one, nI_ltI (by omega) (by omega)] at c178; omega) (by rw [nI_ltI (by omega) (by omega)] at c186; exact c186)
              · first
                  | exact j189 (fun w => by rw [one, nI_ltI (by omega) (by omega)] at c178; omega)
                  | exact j189 (fun w => by rw [nI_ltI (by omega) (by omega)] at c186; omega)
          rcases kpm with k43 | k45
          · refine r_iload_n C dX7_item_122 rfl rfl ?_
            refine r_bipush (v := 40) C dX7_item_123 (by decide) ?_
            refine r_icmp_ne (tgt := 154) C dX7_item_125 (by decide) (fun c125 => ?_) (fun c125 => absurd c125 (k40))
            refine r_iload_n C dX7_item_154 rfl rfl ?_
            refine r_bipush (v := 43) C dX7_item_155 (by decide) ?_
            refine r_icmp_eq (tgt := 176) C dX7_item_157 (by decide) (fun c157 => ?_) (fun c157 => absurd c157 ((fun q => q k43)))
            exact j176
          · refine r_iload_n C dX7_item_122 rfl rfl ?_
            refine r_bipush (v := 40) C dX7_item_123 (by decide) ?_
            refine r_icmp_ne (tgt := 154) C dX7_item_125 (by decide) (fun c125 => ?_) (fun c125 => absurd c125 (k40))
            refine r_iload_n C dX7_item_154 rfl rfl ?_
            refine r_bipush (v := 43) C dX7_item_155 (by decide) ?_
            refine r_icmp_eq (tgt := 176) C dX7_item_157 (by decide) (fun c157 => absurd c157 ((fun q => absurd (q.symm.trans k45) (by decide)))) (fun c157 => ?_)
            refine r_iload_n C dX7_item_160 rfl rfl ?_
            refine r_bipush (v := 45) C dX7_item_161 (by decide) ?_
            refine r_icmp_eq (tgt := 176) C dX7_item_163 (by decide) (fun c163 => ?_) (fun c163 => absurd c163 ((fun q => q k45)))
            exact j176
        · refine r_iload_n C dX7_item_122 rfl rfl ?_
          refine r_bipush (v := 40) C dX7_item_123 (by decide) ?_
          refine r_icmp_ne (tgt := 154) C dX7_item_125 (by decide) (fun c125 => ?_) (fun c125 => absurd c125 (k40))
          refine r_iload_n C dX7_item_154 rfl rfl ?_
          refine r_bipush (v := 43) C dX7_item_155 (by decide) ?_
          refine r_icmp_eq (tgt := 176) C dX7_item_157 (by decide) (fun c157 => absurd c157 ((fun q => kpm (Or.inl q)))) (fun c157 => ?_)
          refine r_iload_n C dX7_item_160 rfl rfl ?_
          refine r_bipush (v := 45) C dX7_item_161 (by decide) ?_
          refine r_icmp_eq (tgt := 176) C dX7_item_163 (by decide) (fun c163 => absurd c163 ((fun q => kpm (Or.inr q)))) (fun c163 => ?_)
          refine r_aload_n C dX7_item_166 rfl rfl ?_
          refine r_iconst (v := 1) C dX7_item_167 (by decide) ?_
          refine r_aload_n C dX7_item_168 rfl rfl ?_
          refine mg_at C dX7_item_169 ?_
          rw [g9]
          refine m_calli C (c_wrong G h ad M3 R 1 (nI a3)) kM_wrong dX7_item_172 rfl (by decide) (by decide) (by decide) (by decide) rfl rfl (fun r M4 R4 hq => ?_)
          obtain ⟨rfl, rfl, rfl⟩ := hq
          rw [if_pos g3]
          exact out _ _ _ _ _ rfl dX7_item_175 (wr 1 a3).1 RdR.rf (Or.inr (Or.inr (Or.inl ⟨k40, fun q => kpm (Or.inl q), fun q => kpm (Or.inr q), (wr 1 a3).2⟩)))
    refine r_aload_n C dX7_item_103 rfl rfl ?_
    refine m_calli C (c_number G h ad M R (a := a) (e := e) h9 h8 he ha) kM_number dX7_item_104 rfl (by decide) (by decide) (by decide) (by decide) rfl rfl (fun r M2 R2 hq => ?_)
    obtain ⟨rfl, rfl, rfl⟩ := hq
    rw [← hdgE, ← hvE]
    refine r_istore_n C dX7_item_107 rfl (by decide) ?_
    refine r_aload_n C dX7_item_108 rfl rfl ?_
    refine mg_numberAt C dX7_item_109 ?_
    show V X 0 0 112 _ [.int (nI a)] _
    refine r_istore_n C dX7_item_112 rfl (by decide) ?_
    refine r_aload_n C dX7_item_113 rfl rfl ?_
    refine m_callv C (c_skip G h ad (va_up (va_up (va_up M 16 (nI a)) 17 (nI dg)) 9 (nI (a + dg))) R2 (a := a + dg) (e := e) rfl h8 he hdl) kM_skip dX7_item_114 rfl (by decide) (by decide) (by decide) (by decide) rfl rfl (fun M3 R3 hq => ?_)
    obtain ⟨rfl, rfl⟩ := hq
    rw [← ha3, up_up]
    refine r_aload_n C dX7_item_117 rfl rfl ?_
    refine m_calli C (c_now G h ad (va_up (va_up (va_up M 16 (nI a)) 17 (nI dg)) 9 (nI a3)) R3 (a := a3) (e := e) rfl h8 he hs3.2) kM_now dX7_item_118 rfl (by decide) (by decide) (by decide) (by decide) rfl rfl (fun r M4 R4 hq => ?_)
    obtain ⟨rfl, rfl, rfl⟩ := hq
    rw [← hc1]
    refine r_istore_n C dX7_item_121 rfl (by decide) ?_
    exact j122 _ (fun i h1 h2 h3 => by rw [va_up_no h1, va_up_no h3, va_up_no h2]) rfl (((RdM.rf.up (by omega)).up (by omega)).up (by omega))
  have j90 : R 1 a ≠ 41 → R 1 a ≠ 117 → R 1 a ≠ 109 → R 1 a ≠ 116 → R 1 a ≠ 112 → V X 0 0 90 [some (.ref h), some (.int (R 1 a)), none, none] [.int (if 48 ≤ R 1 a ∧ R 1 a ≤ 57 then 1 else 0)] (mW G h ad M R) := by
    intro c8 c19 c25 c31 c78
    by_cases hdd : isDg (R 1) e a
    · rw [if_pos hdd.2]
      refine r_if_ne (tgt := 103) C dX7_item_90 (by decide) (fun c90 => ?_) (fun c90 => absurd c90 ((by decide)))
      exact j103 hdd _
    · rw [if_neg (fun q => hdd ⟨hae, q⟩)]
      refine r_if_ne (tgt := 103) C dX7_item_90 (by decide) (fun c90 => absurd c90 ((fun q => q rfl))) (fun c90 => ?_)
      refine r_aload_n C dX7_item_93 rfl rfl ?_
      refine r_iconst (v := 1) C dX7_item_94 (by decide) ?_
      refine r_aload_n C dX7_item_95 rfl rfl ?_
      refine mg_at C dX7_item_96 ?_
      rw [h9]
      refine m_calli C (c_wrong G h ad M R 1 (nI a)) kM_wrong dX7_item_99 rfl (by decide) (by decide) (by decide) (by decide) rfl rfl (fun r M4 R4 hq => ?_)
      obtain ⟨rfl, rfl, rfl⟩ := hq
      rw [if_pos h3]
      exact hR _ _ _ _ _ rfl dX7_item_102 ⟨(RdM.rf.up (by omega)).up (by omega), RdR.rf, Or.inr (Or.inr (Or.inr (Or.inl ⟨c8, c19, c25, c31, c78, hdd, rfl, rfl, rfl, h8, a, ha, h9⟩)))⟩
  refine r_aload_n C dX7_item_0 rfl rfl ?_
  refine m_calli C (c_now G h ad M R (a := a) (e := e) h9 h8 he ha) kM_now dX7_item_1 rfl (by decide) (by decide) (by decide) (by decide) rfl rfl (fun r M2 R2 hq => ?_)
  obtain ⟨rfl, rfl, rfl⟩ := hq
  rw [if_pos hae]
  refine r_istore_n C dX7_item_4 rfl (by decide) ?_
  refine r_iload_n C dX7_item_5 rfl rfl ?_
  refine r_bipush (v := 41) C dX7_item_6 (by decide) ?_
  refine r_icmp_ne (tgt := 16) C dX7_item_8 (by decide) (fun c8 => ?_) (fun c8 => ?_)
  · refine r_iload_n C dX7_item_16 rfl rfl ?_
    refine r_bipush (v := 117) C dX7_item_17 (by decide) ?_
    refine r_icmp_eq (tgt := 34) C dX7_item_19 (by decide) (fun c19 => ?_) (fun c19 => ?_)
    · first
        | (have e1 : R2 1 a = nI 117 := c19; rw [e1]; exact j34 117 (Or.inl rfl) e1)
        | (have e1 : R2 1 a = nI 109 := c25; rw [e1]; exact j34 109 (Or.inr (Or.inl rfl)) e1)
        | (have e1 : R2 1 a = nI 116 := c31; rw [e1]; exact j34 116 (Or.inr (Or.inr rfl)) e1)
    · refine r_iload_n C dX7_item_22 rfl rfl ?_
      refine r_bipush (v := 109) C dX7_item_23 (by decide) ?_
      refine r_icmp_eq (tgt := 34) C dX7_item_25 (by decide) (fun c25 => ?_) (fun c25 => ?_)
      · first
          | (have e1 : R2 1 a = nI 117 := c19; rw [e1]; exact j34 117 (Or.inl rfl) e1)
          | (have e1 : R2 1 a = nI 109 := c25; rw [e1]; exact j34 109 (Or.inr (Or.inl rfl)) e1)
          | (have e1 : R2 1 a = nI 116 := c31; rw [e1]; exact j34 116 (Or.inr (Or.inr rfl)) e1)
      · refine r_iload_n C dX7_item_28 rfl rfl ?_
        refine r_bipush (v := 116) C dX7_item_29 (by decide) ?_
        refine r_icmp_ne (tgt := 75) C dX7_item_31 (by decide) (fun c31 => ?_) (fun c31 => ?_)
        · refine r_iload_n C dX7_item_75 rfl rfl ?_
          refine r_bipush (v := 112) C dX7_item_76 (by decide) ?_
          refine r_icmp_ne (tgt := 86) C dX7_item_78 (by decide) (fun c78 => ?_) (fun c78 => ?_)
          · refine r_iload_n C dX7_item_86 rfl rfl ?_
            refine m_isDigit C dX7_item_87 (by decide) (by decide) (by decide) (by decide) ?_
            exact j90 c8 c19 c25 c31 c78
          · refine r_aload_n C dX7_item_81 rfl rfl ?_
            refine m_calli C (c_pat G h ad M2 R2 hP hS hae rfl rfl rfl) kM_pattern dX7_item_82 rfl (by decide) (by decide) (by decide) (by decide) rfl rfl (fun r M3 R3 hq => ?_)
            obtain ⟨q1, q2, q3⟩ := hq
            exact hR _ _ _ _ _ (by rcases q3 with q | q | q | ⟨z, q⟩ | ⟨z, q⟩ <;> first | (rw [q.2.1]; rfl) | (rw [q.2.2.1]; rfl) | (rw [q.2.2.2.2.1]; rfl) | (rw [q.2.2.2.2.2.1]; rfl)) dX7_item_85 ⟨q1, q2, Or.inr (Or.inr (Or.inl ⟨c78, q3⟩))⟩
        · first
            | (have e1 : R2 1 a = nI 117 := c19; rw [e1]; exact j34 117 (Or.inl rfl) e1)
            | (have e1 : R2 1 a = nI 109 := c25; rw [e1]; exact j34 109 (Or.inr (Or.inl rfl)) e1)
            | (have e1 : R2 1 a = nI 116 := c31; rw [e1]; exact j34 116 (Or.inr (Or.inr rfl)) e1)
  · refine r_aload_n C dX7_item_11 rfl rfl ?_
    refine m_calli C (c_closes G h ad M2 R2 hS hae) kM_closes dX7_item_12 rfl (by decide) (by decide) (by decide) (by decide) rfl rfl (fun r M3 R3 hq => ?_)
    obtain ⟨q1, q2, q3⟩ := hq
    exact hR _ _ _ _ _ (by rcases q3 with q | q | q <;> first | (rw [q.2.1]; rfl) | (rw [q.2.2.2.1]; rfl) | (rw [q.2.2.1]; rfl)) dX7_item_15 ⟨q1, q2, Or.inl ⟨c8, by rcases q3 with q | q | q; exact Or.inl ⟨q.1, q.2.1, q.2.2.1, q.2.2.2.1, q.2.2.2.2.1, a, ha, q.2.2.2.2.2⟩; exact Or.inr (Or.inl ⟨q.1, q.2.1, q.2.2.1, q.2.2.2.1, q.2.2.2.2.1, q.2.2.2.2.2.1, q.2.2.2.2.2.2.1, a, ha, q.2.2.2.2.2.2.2⟩); exact Or.inr (Or.inr q)⟩⟩
end M25
