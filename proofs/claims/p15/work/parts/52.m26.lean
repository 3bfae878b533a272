/-! the reference: pattern(III) -/
/-- the row as it is kept behind a text read -/
def keepR (R7 : Nat → Int32) (j mny : Nat) (row : Nat → Int32) : Nat → Int32 := fun x => if 300 * j ≤ x ∧ x < 300 * j + mny then row (x - 300 * j) else R7 x
theorem keepR_0 {R7 : Nat → Int32} {j : Nat} {row : Nat → Int32} : keepR R7 j 0 row = R7 := funext fun x => if_neg (by omega)
theorem keepR_s {R7 : Nat → Int32} {j i : Nat} {row : Nat → Int32} {v : Int32} (hv : v = row i) : upd (keepR R7 j i row) (300 * j + i) v = keepR R7 j (i + 1) row := funext fun x => by
  by_cases e : x = 300 * j + i
  · subst e
    rw [pk_us]
    unfold keepR
    rw [if_pos (by omega), hv, show 300 * j + i - 300 * j = i by omega]
  · rw [pk_un e]
    unfold keepR
    by_cases q : 300 * j ≤ x ∧ x < 300 * j + i
    · rw [if_pos q, if_pos (by omega)]
    · rw [if_neg q, if_neg (by omega)]
def okP (tp : Nat) (k s z : Int32) (j n e : Nat) : Prop := k = nI j ∧ j < 8 ∧ s = nI n ∧ 2 ≤ n ∧ n ≤ 7 ∧ z = nI e ∧ e ≤ tp
/-- what pattern leaves when its arguments are right -/
def ptQ (M M' : Mt) (R R' : Rt) (j n e : Nat) (r : Int32) (o : Rout) : Prop := M' 0 = 0 ∧ M' 2 = 0 ∧ (∀ i, 19 ≤ i → i ≤ 44 → M' i = M i) ∧ match o with
  | .inl f => r = f.1 ∧ M' 3 = f.1 ∧ M' 4 = nI f.2 ∧ RdR R R'
  | .inr q => r = 0 ∧ M' 3 = 0 ∧ M' 4 = -1 ∧ R' 5 = upd (R 5) j (nI n) ∧ R' 6 = upd (R 6) j (nI q.2.1) ∧ R' 7 = keepR (R 7) j q.2.1 q.2.2.2.1 ∧ (∀ i, i ≠ 5 → i ≠ 6 → i ≠ 7 → i ≠ 11 → i ≠ 13 → i ≠ 14 → R' i = R i) ∧ q.2.1 ≤ 300 ∧ ∀ i, i < q.2.1 → okC n (q.2.2.2.1 i)
section M26
variable (G : Gx) (h : Nat) (ad : Nat → Nat) (M : Mt) (R : Rt)
theorem c_patt {tp : Nat} (hP : PatsOK R) (h2 : M 2 = nI tp) (htp : tp ≤ 800) (k s z : Int32) : mI G h ad yX7_pattern_ cX7_pattern_ 6 .int 4 [.int k, .int s, .int z] M R (fun r M' R' => ((¬ ∃ j n e, okP tp k s z j n e) ∧ r = 0 ∧ M' = va_up M 0 1 ∧ R' = R) ∨ ∃ j n e, okP tp k s z j n e ∧ ptQ M M' R R' j n e r (readF false (R 1) (R 5) (R 6) (R 7) e n)) := by
  refine mI.intro (by decide) (Nat.le_of_ble_eq_true rfl) (cat1 (xs := [k, s, z])) fun X C hR => ?_
  by_cases hok : ∃ j n e, okP tp k s z j n e
  rotate_left
  · have j43 : V X 0 0 43 (ent [.ref h, .int k, .int s, .int z] 6) [.ref h] (mW G h ad (va_up M 0 0) R) := by
      refine r_iconst (v := 0) C dX7_pattern__43 (by decide) ?_
      refine r_iconst (v := 1) C dX7_pattern__44 (by decide) ?_
      refine m_calli C (c_right0 G h ad _ _ 1 (by decide) rfl) kM_right dX7_pattern__45 rfl (by decide) (by decide) (by decide) (by decide) rfl rfl (fun r M1 R1 hp => ?_)
      obtain ⟨rfl, rfl, rfl⟩ := hp
      refine r_if_ne (tgt := 53) C dX7_pattern__48 (by decide) (fun c48 => absurd c48 ((fun q => q rfl))) (fun c48 => ?_)
      refine r_iconst (v := 0) C dX7_pattern__51 (by decide) ?_
      exact hR _ _ _ _ _ rfl dX7_pattern__52 (Or.inl ⟨hok, rfl, up_up, rfl⟩)
    refine r_aload_n C dX7_pattern__0 rfl rfl ?_
    refine r_iconst (v := 0) C dX7_pattern__1 (by decide) ?_
    refine mp_thrown C dX7_pattern__2 ?_
    refine r_aload_n C dX7_pattern__5 rfl rfl ?_
    refine r_iload_n C dX7_pattern__6 rfl rfl ?_
    refine r_if_lt (tgt := 43) C dX7_pattern__7 (by decide) (fun c7 => ?_) (fun c7 => ?_)
    · exact j43
    · refine r_iload_n C dX7_pattern__10 rfl rfl ?_
      refine r_bipush (v := 7) C dX7_pattern__11 (by decide) ?_
      refine r_icmp_gt (tgt := 43) C dX7_pattern__13 (by decide) (fun c13 => ?_) (fun c13 => ?_)
      · exact j43
      · refine r_iload_n C dX7_pattern__16 rfl rfl ?_
        refine r_iconst (v := 2) C dX7_pattern__17 (by decide) ?_
        refine r_icmp_lt (tgt := 43) C dX7_pattern__18 (by decide) (fun c18 => ?_) (fun c18 => ?_)
        · exact j43
        · refine r_iload_n C dX7_pattern__21 rfl rfl ?_
          refine r_bipush (v := 7) C dX7_pattern__22 (by decide) ?_
          refine r_icmp_gt (tgt := 43) C dX7_pattern__24 (by decide) (fun c24 => ?_) (fun c24 => ?_)
          · exact j43
          · refine r_iload_n C dX7_pattern__27 rfl rfl ?_
            refine r_if_lt (tgt := 43) C dX7_pattern__28 (by decide) (fun c28 => ?_) (fun c28 => ?_)
            · exact j43
            · refine r_iload_n C dX7_pattern__31 rfl rfl ?_
              refine r_aload_n C dX7_pattern__32 rfl rfl ?_
              refine mg_taped C dX7_pattern__33 ?_
              refine r_icmp_gt (tgt := 43) C dX7_pattern__36 (by decide) (fun c36 => ?_) (fun c36 => ?_)
              · exact j43
              · exfalso
                obtain ⟨j, hj, rfl⟩ := nI_of c7
                obtain ⟨n, hn, rfl⟩ := nI_of (x := s) (fun q => c18 (Int32.lt_trans q (by decide)))
                obtain ⟨e, he, rfl⟩ := nI_of c28
                rw [show va_up M 0 0 2 = nI tp from h2, nI_ltI (by omega) (by omega)] at c36
                rw [show (7 : Int32) = nI 7 from rfl, nI_ltI (by omega) (by omega)] at c13 c24
                rw [show (2 : Int32) = nI 2 from rfl, nI_ltI (by omega) (by omega)] at c18
                exact hok ⟨j, n, e, rfl, by omega, rfl, by omega, by omega, rfl, by omega⟩
  obtain ⟨j, n, e, hok⟩ := hok
  obtain ⟨rfl, hj, rfl, hn2, hn7, rfl, hetp⟩ := id hok
  have fin : ∀ (v : Int32) (M' : Mt) (R' : Rt) (pc : Nat) (L : List (Option Value)), decode cX7_pattern_ pc = .ok (.ireturn, 1) → ptQ M M' R R' j n e v (readF false (R 1) (R 5) (R 6) (R 7) e n) → V X 0 0 pc L [.int v] (mW G h ad M' R') := fun v M' R' pc L hdg hq => hR _ _ _ _ _ rfl hdg (Or.inr ⟨j, n, e, hok, hq⟩)
  -- a fault: good is 0
  have bad : ∀ (M' : Mt) (R' : Rt) (f : Int32 × Nat) (L5 : Option Value), readF false (R 1) (R 5) (R 6) (R 7) e n = .inl f → M' 0 = 0 → M' 2 = 0 → (∀ i, 19 ≤ i → i ≤ 44 → M' i = M i) → RdR R R' → M' 3 = f.1 → M' 4 = nI f.2 → V X 0 0 152 [some (.ref h), some (.int (nI j)), some (.int (nI n)), some (.int (nI e)), some (.int 0), L5] [] (mW G h ad M' R') := by
    intro M' R' f L5 hrd w0 w2 w19 wR w3 w4
    refine r_iload C dX7_pattern__152 rfl ?_
    refine r_if_ne (tgt := 162) C dX7_pattern__154 (by decide) (fun c154 => absurd c154 ((fun q => q rfl))) (fun c154 => ?_)
    refine r_aload_n C dX7_pattern__157 rfl rfl ?_
    refine mg_faultKind C dX7_pattern__158 ?_
    exact fin _ _ _ _ _ dX7_pattern__161 ⟨w0, w2, w19, by rw [hrd]; exact ⟨w3, w3, w4, wR⟩⟩
  -- the end: the row is kept
  have good : ∀ (M' : Mt) (R' : Rt) (a mny dp : Nat) (row : Nat → Int32) (kd fr : Nat → Nat) (L5 : Option Value), readF false (R 1) (R 5) (R 6) (R 7) e n = .inr (a, mny, dp, row, kd, fr) → M' 0 = 0 → M' 2 = 0 → (∀ i, 19 ≤ i → i ≤ 44 → M' i = M i) → RdR R R' → RdS M' R' e n a mny dp row kd fr → V X 0 0 152 [some (.ref h), some (.int (nI j)), some (.int (nI n)), some (.int (nI e)), some (.int 1), L5] [] (mW G h ad M' R') := by
    intro M' R' a mny dp row kd fr L5 hrd w0 w2 w19 wR hS
    obtain ⟨h8, h9, h10, h12, h15, h3, h4, he, ha, -, -, hm3, hd8, hrow, hbr⟩ := id hS
    have cj : (nI j).toNatClampNeg = j := nI_clamp (by omega)
    have lp : ∀ (f i : Nat), mny - i = f → i ≤ mny → V X 0 0 185 [some (.ref h), some (.int (nI j)), some (.int (nI n)), some (.int (nI e)), some (.int 1), some (.int (nI i))] [] (mW G h ad M' (va_up (va_up (va_up R' 5 (upd (R' 5) j (nI n))) 6 (upd (R' 6) j (nI mny))) 7 (keepR (R' 7) j i row))) := by
      intro f
      induction f with
      | zero =>
        intro i hf hi
        refine r_iload C dX7_pattern__185 rfl ?_
        refine r_aload_n C dX7_pattern__187 rfl rfl ?_
        refine mg_many C dX7_pattern__188 ?_
        rw [h12]
        refine r_icmp_ge (tgt := 220) C dX7_pattern__191 (by decide) (fun c191 => ?_) (fun c191 => absurd c191 ((by rw [nI_leI (by omega) (by omega)]; omega)))
        refine r_iconst (v := 0) C dX7_pattern__220 (by decide) ?_
        exact fin _ _ _ _ _ dX7_pattern__221 ⟨w0, w2, w19, by
          rw [hrd, show mny = i by omega]
          refine ⟨rfl, h3, h4, ?_, ?_, ?_, fun q q5 q6 q7 q11 q13 q14 => ?_, by show i ≤ 300; omega, fun q hq => (hrow q (by have : q < i := hq; omega)).2⟩
          · show upd (R' 5) j (nI n) = _
            rw [wR 5 (by decide) (by decide) (by decide)]
          · show upd (R' 6) j (nI i) = _
            rw [wR 6 (by decide) (by decide) (by decide)]
          · show keepR (R' 7) j i row = _
            rw [wR 7 (by decide) (by decide) (by decide)]
          · rw [va_up_no q7, va_up_no q6, va_up_no q5]
            exact wR q q11 q13 q14⟩
      | succ f ih =>
        intro i hf hi
        refine r_iload C dX7_pattern__185 rfl ?_
        refine r_aload_n C dX7_pattern__187 rfl rfl ?_
        refine mg_many C dX7_pattern__188 ?_
        rw [h12]
        refine r_icmp_ge (tgt := 220) C dX7_pattern__191 (by decide) (fun c191 => absurd c191 ((by rw [nI_leI (by omega) (by omega)]; omega))) (fun c191 => ?_)
        refine r_aload_n C dX7_pattern__194 rfl rfl ?_
        refine mg_rows C dX7_pattern__195 ?_
        refine r_sipush (v := 300) C dX7_pattern__198 (by decide) ?_
        refine r_iload_n C dX7_pattern__201 rfl rfl ?_
        refine r_imul C dX7_pattern__202 ?_
        refine r_iload C dX7_pattern__203 rfl ?_
        refine r_iadd C dX7_pattern__205 ?_
        show V X 0 0 206 _ [.int (nI 300 * nI j + nI i), .ref (ad 7)] _
        rw [pk_mul, nI_add]
        refine r_aload_n C dX7_pattern__206 rfl rfl ?_
        refine mg_made C dX7_pattern__207 ?_
        refine r_iload C dX7_pattern__210 rfl ?_
        refine ml_made C dX7_pattern__212 (vp_in_nI (show i < 300 by omega) (by decide)) ?_
        show V X 0 0 213 _ [.int (R' 11 (nI i).toNatClampNeg), .int (nI (300 * j + i)), .ref (ad 7)] _
        rw [nI_clamp (by omega)]
        refine ms_rows C dX7_pattern__213 (vp_in_nI (show 300 * j + i < 2400 by omega) (by decide)) ?_
        show V X 0 0 214 _ _ (mW G h ad M' (va_up (va_up (va_up (va_up R' 5 (upd (R' 5) j (nI n))) 6 (upd (R' 6) j (nI mny))) 7 (keepR (R' 7) j i row)) 7 (upd (keepR (R' 7) j i row) (nI (300 * j + i)).toNatClampNeg (R' 11 i))))
        rw [nI_clamp (by omega), up_up, keepR_s (hrow i (by omega)).1]
        refine r_iinc (v := _ + 1) C dX7_pattern__214 rfl (by rfl) (by decide) ?_
        refine r_goto (tgt := 185) C dX7_pattern__217 (by decide) ?_
        show V X 0 0 185 [_, _, _, _, _, some (.int (nI i + 1))] _ _
        rw [nI_1]
        exact ih (i + 1) (by omega) (by omega)
    refine r_iload C dX7_pattern__152 rfl ?_
    refine r_if_ne (tgt := 162) C dX7_pattern__154 (by decide) (fun c154 => ?_) (fun c154 => absurd c154 ((by decide)))
    refine r_aload_n C dX7_pattern__162 rfl rfl ?_
    refine mg_straws C dX7_pattern__163 ?_
    refine r_iload_n C dX7_pattern__166 rfl rfl ?_
    refine r_aload_n C dX7_pattern__167 rfl rfl ?_
    refine mg_n C dX7_pattern__168 ?_
    refine ms_straws C dX7_pattern__171 (vp_in_nI hj (by decide)) ?_
    refine r_aload_n C dX7_pattern__172 rfl rfl ?_
    refine mg_sizes C dX7_pattern__173 ?_
    refine r_iload_n C dX7_pattern__176 rfl rfl ?_
    refine r_aload_n C dX7_pattern__177 rfl rfl ?_
    refine mg_many C dX7_pattern__178 ?_
    refine ms_sizes C dX7_pattern__181 (vp_in_nI hj (by decide)) ?_
    refine r_iconst (v := 0) C dX7_pattern__182 (by decide) ?_
    refine r_istore C dX7_pattern__183 (by decide) ?_
    rw [h10, h12, cj]
    have q := lp mny 0 (by omega) (by omega)
    rw [keepR_0] at q
    rw [show (va_up (va_up (va_up R' 5 (upd (R' 5) j (nI n))) 6 (upd (R' 6) j (nI mny))) 7 (R' 7)) = (va_up (va_up R' 5 (upd (R' 5) j (nI n))) 6 (upd (R' 6) j (nI mny))) from up_same rfl] at q
    exact q
  -- the loop over items
  have loop : ∀ (f : Nat) (M' : Mt) (R' : Rt) (a mny dp : Nat) (row : Nat → Int32) (kd fr : Nat → Nat), e - a < f → M' 0 = 0 → M' 2 = 0 → (∀ i, 19 ≤ i → i ≤ 44 → M' i = M i) → RdR R R' → RdS M' R' e n a mny dp row kd fr → readF false (R 1) (R 5) (R 6) (R 7) e n = runF false (R 1) (R 5) (R 6) (R 7) e n f (a, mny, dp, row, kd, fr) → V X 0 0 100 [some (.ref h), some (.int (nI j)), some (.int (nI n)), some (.int (nI e)), some (.int 1), none] [] (mW G h ad M' R') := by
    intro f
    induction f with
    | zero => intro M' R' a mny dp row kd fr hf; omega
    | succ f ih =>
      intro M' R' a mny dp row kd fr hf w0 w2 w19 wR hS hrd
      obtain ⟨h8, h9, h10, h12, h15, h3, h4, he, ha, -, -, hm3, hd8, hrow, hbr⟩ := id hS
      have p1 : R' 1 = R 1 := wR 1 (by decide) (by decide) (by decide)
      have p5 : R' 5 = R 5 := wR 5 (by decide) (by decide) (by decide)
      have p6 : R' 6 = R 6 := wR 6 (by decide) (by decide) (by decide)
      have p7 : R' 7 = R 7 := wR 7 (by decide) (by decide) (by decide)
      have hP' : PatsOK R' := fun i hi hp => by
        rw [p5] at hp
        obtain ⟨s, z, q1, q2, q3, q4, q5, q6⟩ := hP i hi hp
        refine ⟨s, z, by rw [p5]; exact q1, q2, q3, by rw [p6]; exact q4, q5, fun x hx => ?_⟩
        have := q6 x hx
        unfold rowOf at this ⊢
        rw [p7]
        exact this
      by_cases hae : a < e
      · refine r_iload C dX7_pattern__100 rfl ?_
        refine r_if_eq (tgt := 129) C dX7_pattern__102 (by decide) (fun c102 => absurd c102 ((by decide))) (fun c102 => ?_)
        refine r_aload_n C dX7_pattern__105 rfl rfl ?_
        refine mg_at C dX7_pattern__106 ?_
        refine r_aload_n C dX7_pattern__109 rfl rfl ?_
        refine mg_end C dX7_pattern__110 ?_
        rw [h9, h8]
        refine r_icmp_ge (tgt := 129) C dX7_pattern__113 (by decide) (fun c113 => absurd c113 ((by rw [nI_leI (by omega) (by omega)]; omega))) (fun c113 => ?_)
        refine r_aload_n C dX7_pattern__116 rfl rfl ?_
        refine m_calli C (c_item G h ad M' R' hP' hS hae) kM_item dX7_pattern__117 rfl (by decide) (by decide) (by decide) (by decide) rfl rfl (fun r M1 R1 hp => ?_)
        obtain ⟨qM, qR, qi⟩ := hp
        have qi := itO_real qi
        rw [p1, p5, p6, p7] at qi
        have v0 : M1 0 = 0 := (qM 0 (by omega)).trans w0
        have v2 : M1 2 = 0 := (qM 2 (by omega)).trans w2
        have v19 : ∀ i, 19 ≤ i → i ≤ 44 → M1 i = M i := fun i a1 a2 => (qM i (by omega)).trans (w19 i a1 a2)
        have vR : RdR R R1 := wR.tr qR
        have v1 : R1 1 = R 1 := vR 1 (by decide) (by decide) (by decide)
        skip
        obtain ⟨o, ho⟩ : ∃ o, o = stepF false (R 1) (R 5) (R 6) (R 7) e n (a, mny, dp, row, kd, fr) := ⟨_, rfl⟩
        rw [← ho] at qi
        cases o with
        | inl x =>
          obtain ⟨rfl, x3, x4, x8, a'', xa, x9⟩ := qi
          refine r_istore C dX7_pattern__120 (by decide) ?_
          refine r_aload_n C dX7_pattern__122 rfl rfl ?_
          refine m_callv C (c_skip G h ad M1 R1 (a := a'') (e := e) x9 x8 he xa) kM_skip dX7_pattern__123 rfl (by decide) (by decide) (by decide) (by decide) rfl rfl (fun M2 R2 hq => ?_)
          obtain ⟨rfl, rfl⟩ := hq
          refine r_goto (tgt := 100) C dX7_pattern__126 (by decide) ?_
          refine r_iload C dX7_pattern__100 rfl ?_
          refine r_if_eq (tgt := 129) C dX7_pattern__102 (by decide) (fun c102 => ?_) (fun c102 => absurd c102 ((fun q => q rfl)))
          refine r_iload C dX7_pattern__129 rfl ?_
          refine r_if_eq (tgt := 152) C dX7_pattern__131 (by decide) (fun c131 => ?_) (fun c131 => absurd c131 ((fun q => q rfl)))
          exact bad _ _ x none (by rw [hrd]; exact runF_bad hae ho.symm) v0 v2 (fun i a1 a2 => by rw [va_up_no (by omega)]; exact v19 i a1 a2) vR x3 x4
        | inr q =>
          obtain ⟨a', mny', dp', row', kd', fr'⟩ := q
          obtain ⟨rfl, hS'⟩ := qi
          have hlt := stepF_lt (q := (a, mny, dp, row, kd, fr)) hae ho.symm
          have hlt : a < a' := hlt
          obtain ⟨x8, x9, -, -, -, -, -, -, xa, -⟩ := id hS'
          have hsk := skipTo_le (t := R 1) (e := e) (a := a') xa
          refine r_istore C dX7_pattern__120 (by decide) ?_
          refine r_aload_n C dX7_pattern__122 rfl rfl ?_
          refine m_callv C (c_skip G h ad M1 R1 (a := a') (e := e) x9 x8 he xa) kM_skip dX7_pattern__123 rfl (by decide) (by decide) (by decide) (by decide) rfl rfl (fun M2 R2 hq => ?_)
          obtain ⟨rfl, rfl⟩ := hq
          rw [v1]
          refine r_goto (tgt := 100) C dX7_pattern__126 (by decide) ?_
          exact ih _ _ (skipTo (R 1) e a') mny' dp' row' kd' fr' (by omega) v0 v2 (fun i a1 a2 => by rw [va_up_no (by omega)]; exact v19 i a1 a2) vR (hS'.at (fun i h1 _ _ => va_up_no h1) rfl hsk.2) (by rw [hrd]; exact runF_go hae ho.symm)
      · have hstop := runF_stop (md := false) (t := R 1) (p5 := R 5) (p6 := R 6) (p7 := R 7) (e := e) (n := n) (f := f) (q := (a, mny, dp, row, kd, fr)) hae
        by_cases hdp : 0 < dp
        · refine r_iload C dX7_pattern__100 rfl ?_
          refine r_if_eq (tgt := 129) C dX7_pattern__102 (by decide) (fun c102 => absurd c102 ((by decide))) (fun c102 => ?_)
          refine r_aload_n C dX7_pattern__105 rfl rfl ?_
          refine mg_at C dX7_pattern__106 ?_
          refine r_aload_n C dX7_pattern__109 rfl rfl ?_
          refine mg_end C dX7_pattern__110 ?_
          rw [h9, h8]
          refine r_icmp_ge (tgt := 129) C dX7_pattern__113 (by decide) (fun c113 => ?_) (fun c113 => absurd c113 ((by rw [nI_leI (by omega) (by omega)]; omega)))
          refine r_iload C dX7_pattern__129 rfl ?_
          refine r_if_eq (tgt := 152) C dX7_pattern__131 (by decide) (fun c131 => absurd c131 ((by decide))) (fun c131 => ?_)
          refine r_aload_n C dX7_pattern__134 rfl rfl ?_
          refine mg_deep C dX7_pattern__135 ?_
          rw [h15]
          refine r_if_le (tgt := 152) C dX7_pattern__138 (by decide) (fun c138 => absurd c138 ((nI_nle hdp (by omega)))) (fun c138 => ?_)
          refine r_aload_n C dX7_pattern__141 rfl rfl ?_
          refine r_iconst (v := 1) C dX7_pattern__142 (by decide) ?_
          refine r_aload_n C dX7_pattern__143 rfl rfl ?_
          refine mg_end C dX7_pattern__144 ?_
          refine m_calli C (c_wrong G h ad M' R' 1 (M' 8)) kM_wrong dX7_pattern__147 rfl (by decide) (by decide) (by decide) (by decide) rfl rfl (fun r M1 R1 hq => ?_)
          obtain ⟨rfl, rfl, rfl⟩ := hq
          rw [if_pos h3]
          refine r_istore C dX7_pattern__150 (by decide) ?_
          exact bad _ _ (1, e) none (by rw [hrd, hstop]; exact if_pos hdp) w0 w2 (fun i a1 a2 => by rw [va_up_no (by omega), va_up_no (by omega)]; exact w19 i a1 a2) wR rfl h8
        · refine r_iload C dX7_pattern__100 rfl ?_
          refine r_if_eq (tgt := 129) C dX7_pattern__102 (by decide) (fun c102 => absurd c102 ((by decide))) (fun c102 => ?_)
          refine r_aload_n C dX7_pattern__105 rfl rfl ?_
          refine mg_at C dX7_pattern__106 ?_
          refine r_aload_n C dX7_pattern__109 rfl rfl ?_
          refine mg_end C dX7_pattern__110 ?_
          rw [h9, h8]
          refine r_icmp_ge (tgt := 129) C dX7_pattern__113 (by decide) (fun c113 => ?_) (fun c113 => absurd c113 ((by rw [nI_leI (by omega) (by omega)]; omega)))
          refine r_iload C dX7_pattern__129 rfl ?_
          refine r_if_eq (tgt := 152) C dX7_pattern__131 (by decide) (fun c131 => absurd c131 ((by decide))) (fun c131 => ?_)
          refine r_aload_n C dX7_pattern__134 rfl rfl ?_
          refine mg_deep C dX7_pattern__135 ?_
          rw [h15, show dp = 0 by omega]
          refine r_if_le (tgt := 152) C dX7_pattern__138 (by decide) (fun c138 => ?_) (fun c138 => absurd c138 ((fun q => absurd (show nI 0 ≤ 0 by decide) q)))
          exact good _ _ a mny dp row kd fr none (by rw [hrd, hstop]; exact if_neg hdp) w0 w2 w19 wR hS
  have hsk := skipTo_le (t := R 1) (e := e) (a := 0) (by omega)
  refine r_aload_n C dX7_pattern__0 rfl rfl ?_
  refine r_iconst (v := 0) C dX7_pattern__1 (by decide) ?_
  refine mp_thrown C dX7_pattern__2 ?_
  refine r_aload_n C dX7_pattern__5 rfl rfl ?_
  refine r_iload_n C dX7_pattern__6 rfl rfl ?_
  refine r_if_lt (tgt := 43) C dX7_pattern__7 (by decide) (fun c7 => absurd c7 ((nI_pos (by omega)))) (fun c7 => ?_)
  refine r_iload_n C dX7_pattern__10 rfl rfl ?_
  refine r_bipush (v := 7) C dX7_pattern__11 (by decide) ?_
  refine r_icmp_gt (tgt := 43) C dX7_pattern__13 (by decide) (fun c13 => absurd c13 ((by rw [show (7 : Int32) = nI 7 from rfl, nI_ltI (by omega) (by omega)]; omega))) (fun c13 => ?_)
  refine r_iload_n C dX7_pattern__16 rfl rfl ?_
  refine r_iconst (v := 2) C dX7_pattern__17 (by decide) ?_
  refine r_icmp_lt (tgt := 43) C dX7_pattern__18 (by decide) (fun c18 => absurd c18 ((by rw [show (2 : Int32) = nI 2 from rfl, nI_ltI (by omega) (by omega)]; omega))) (fun c18 => ?_)
  refine r_iload_n C dX7_pattern__21 rfl rfl ?_
  refine r_bipush (v := 7) C dX7_pattern__22 (by decide) ?_
  refine r_icmp_gt (tgt := 43) C dX7_pattern__24 (by decide) (fun c24 => absurd c24 ((by rw [show (7 : Int32) = nI 7 from rfl, nI_ltI (by omega) (by omega)]; omega))) (fun c24 => ?_)
  refine r_iload_n C dX7_pattern__27 rfl rfl ?_
  refine r_if_lt (tgt := 43) C dX7_pattern__28 (by decide) (fun c28 => absurd c28 ((nI_pos (by omega)))) (fun c28 => ?_)
  refine r_iload_n C dX7_pattern__31 rfl rfl ?_
  refine r_aload_n C dX7_pattern__32 rfl rfl ?_
  refine mg_taped C dX7_pattern__33 ?_
  rw [show va_up M 0 0 2 = nI tp from h2]
  refine r_icmp_gt (tgt := 43) C dX7_pattern__36 (by decide) (fun c36 => absurd c36 ((by rw [nI_ltI (by omega) (by omega)]; omega))) (fun c36 => ?_)
  refine r_iconst (v := 1) C dX7_pattern__39 (by decide) ?_
  refine r_goto (tgt := 44) C dX7_pattern__40 (by decide) ?_
  refine r_iconst (v := 1) C dX7_pattern__44 (by decide) ?_
  refine m_calli C (c_right1 G h ad _ _ 1 rfl) kM_right dX7_pattern__45 rfl (by decide) (by decide) (by decide) (by decide) rfl rfl (fun r M1 R1 hp => ?_)
  obtain ⟨rfl, rfl, rfl⟩ := hp
  refine r_if_ne (tgt := 53) C dX7_pattern__48 (by decide) (fun c48 => ?_) (fun c48 => absurd c48 ((by decide)))
  refine r_aload_n C dX7_pattern__53 rfl rfl ?_
  refine r_iload_n C dX7_pattern__54 rfl rfl ?_
  refine mp_end C dX7_pattern__55 ?_
  refine r_aload_n C dX7_pattern__58 rfl rfl ?_
  refine r_iconst (v := 0) C dX7_pattern__59 (by decide) ?_
  refine mp_taped C dX7_pattern__60 ?_
  refine r_aload_n C dX7_pattern__63 rfl rfl ?_
  refine r_iconst (v := 0) C dX7_pattern__64 (by decide) ?_
  refine mp_at C dX7_pattern__65 ?_
  refine r_aload_n C dX7_pattern__68 rfl rfl ?_
  refine r_iload_n C dX7_pattern__69 rfl rfl ?_
  refine mp_n C dX7_pattern__70 ?_
  refine r_aload_n C dX7_pattern__73 rfl rfl ?_
  refine r_iconst (v := 0) C dX7_pattern__74 (by decide) ?_
  refine mp_many C dX7_pattern__75 ?_
  refine r_aload_n C dX7_pattern__78 rfl rfl ?_
  refine r_iconst (v := 0) C dX7_pattern__79 (by decide) ?_
  refine mp_deep C dX7_pattern__80 ?_
  refine r_aload_n C dX7_pattern__83 rfl rfl ?_
  refine r_iconst (v := 0) C dX7_pattern__84 (by decide) ?_
  refine mp_faultKind C dX7_pattern__85 ?_
  refine r_aload_n C dX7_pattern__88 rfl rfl ?_
  refine r_iconst (v := -1) C dX7_pattern__89 (by decide) ?_
  refine mp_faultPlace C dX7_pattern__90 ?_
  refine r_iconst (v := 1) C dX7_pattern__93 (by decide) ?_
  refine r_istore C dX7_pattern__94 (by decide) ?_
  refine r_aload_n C dX7_pattern__96 rfl rfl ?_
  refine m_callv C (c_skip G h ad _ R1 (a := 0) (e := e) rfl rfl (by omega) (by omega)) kM_skip dX7_pattern__97 rfl (by decide) (by decide) (by decide) (by decide) rfl rfl (fun M2 R2 hq => ?_)
  obtain ⟨rfl, rfl⟩ := hq
  exact loop (e + 1) _ _ (skipTo (R2 1) e 0) 0 0 (fun _ => 0) (fun _ => 0) (fun _ => 0) (by omega) rfl rfl (fun i a1 a2 => by simp only [va_up_no (show i ≠ 9 by omega), va_up_no (show i ≠ 4 by omega), va_up_no (show i ≠ 3 by omega), va_up_no (show i ≠ 15 by omega), va_up_no (show i ≠ 12 by omega), va_up_no (show i ≠ 10 by omega), va_up_no (show i ≠ 2 by omega), va_up_no (show i ≠ 8 by omega), va_up_no (show i ≠ 0 by omega)]) RdR.rf ⟨rfl, rfl, rfl, rfl, rfl, rfl, rfl, by omega, hsk.2, hn2, hn7, by omega, by omega, fun i hi => absurd hi (by omega), fun i hi => absurd hi (by omega)⟩ rfl
end M26
