/-! the reference: factors as permutations: from, behind, turns, isAll, isNothing, coded -/
theorem perm_surj {F : Nat → Nat} {s i : Nat} (h : PermOn F s) (h1 : 1 ≤ i) (h2 : i ≤ s) : ∃ x, 1 ≤ x ∧ x ≤ s ∧ F x = i := by
  obtain ⟨k, hk1, -, e⟩ := itr_cyc h h1 h2
  have hin := itr_in h h1 h2 (k - 1)
  refine ⟨itr F (k - 1) i, hin.1, hin.2, ?_⟩
  have : k = (k - 1) + 1 := by omega
  rw [this] at e
  exact e
/-- factor f is the permutation F of 1 .. s -/
def FacOK (R : Rt) (f s : Nat) (F : Nat → Nat) : Prop := (∀ x, 1 ≤ x → x ≤ s → R 18 (8 * f + x) = nI (F x)) ∧ PermOn F s
def codeF (F : Nat → Nat) : Nat → Int32
  | 0 => 0
  | x + 1 => codeF F x ||| (nI (F (x + 1)) <<< (nI (3 * (x + 1) - 3) &&& 31))
section M13
variable (G : Gx) (h : Nat) (ad : Nat → Nat) (M : Mt) (R : Rt)
theorem c_from {f s i : Nat} {F : Nat → Nat} (hf : f ≤ 600) (hs : s ≤ 7) (hF : FacOK R f s F) (h1 : 1 ≤ i) (h2 : i ≤ s) : mI G h ad yX7_from cX7_from 4 .int 1 [.int (nI f), .int (nI i)] M R (fun r M' R' => (∃ x, 1 ≤ x ∧ x ≤ s ∧ F x = i ∧ r = nI x) ∧ M' = M ∧ R' = R) := by
  refine mI.intro (by decide) (Nat.le_of_ble_eq_true rfl) (cat1 (xs := [nI f, nI i])) fun X C hR => ?_
  obtain ⟨x0, hx1, hx2, hx0⟩ := perm_surj hF.2 h1 h2
  have key : ∀ (n x : Nat), x + n = x0 → 1 ≤ x → V X 0 0 2 [some (.ref h), some (.int (nI f)), some (.int (nI i)), some (.int (nI x))] [] (mW G h ad M R) := by
    intro n
    induction n with
    | zero =>
      intro x hxn hxx
      have hxe : x = x0 := by omega
      subst hxe
      refine r_aload_n C dX7_from_2 rfl rfl ?_
      refine r_iload_n C dX7_from_3 rfl rfl ?_
      refine r_iload_n C dX7_from_4 rfl rfl ?_
      refine m_calli C (c_get G h ad M R f x hf (by omega)) kM_get dX7_from_5 rfl (by decide) (by decide) (by decide) (Nat.le_of_ble_eq_true rfl) rfl rfl (fun r M1 R1 hq => ?_)
      obtain ⟨rfl, rfl, rfl⟩ := hq
      rw [hF.1 x hx1 hx2, hx0]
      refine r_iload_n C dX7_from_8 rfl rfl ?_
      refine r_icmp_eq (tgt := 18) C dX7_from_9 (by decide) (fun c9 => ?_) (fun c9 => absurd c9 ((fun q => q rfl)))
      refine r_iload_n C dX7_from_18 rfl rfl ?_
      exact hR _ _ _ _ _ rfl dX7_from_19 ⟨⟨x, hx1, hx2, hx0, rfl⟩, rfl, rfl⟩
    | succ n ih =>
      intro x hxn hxx
      have hFx := hF.2.1 x hxx (by omega)
      have hne9 : ¬ nI (F x) = nI i := by
        intro e
        have e1 := (nI_eq (by omega) (by omega)).mp e
        have e2 := hF.2.2 x x0 hxx (by omega) hx1 hx2 (e1.trans hx0.symm)
        omega
      refine r_aload_n C dX7_from_2 rfl rfl ?_
      refine r_iload_n C dX7_from_3 rfl rfl ?_
      refine r_iload_n C dX7_from_4 rfl rfl ?_
      refine m_calli C (c_get G h ad M R f x hf (by omega)) kM_get dX7_from_5 rfl (by decide) (by decide) (by decide) (Nat.le_of_ble_eq_true rfl) rfl rfl (fun r M1 R1 hq => ?_)
      obtain ⟨rfl, rfl, rfl⟩ := hq
      rw [hF.1 x hxx (by omega)]
      refine r_iload_n C dX7_from_8 rfl rfl ?_
      refine r_icmp_eq (tgt := 18) C dX7_from_9 (by decide) (fun c9 => absurd c9 (hne9)) (fun c9 => ?_)
      refine r_iinc (v := _ + 1) C dX7_from_12 rfl (by rfl) (by decide) ?_
      rw [nI_1]
      refine r_goto (tgt := 2) C dX7_from_15 (by decide) ?_
      exact ih (x + 1) (by omega) (by omega)
  refine r_iconst (v := 1) C dX7_from_0 (by decide) ?_
  refine r_istore_n C dX7_from_1 rfl (by decide) ?_
  exact key (x0 - 1) 1 (by omega) (Nat.le_refl _)
theorem c_behind {f s i : Nat} {F : Nat → Nat} (hf : f ≤ 600) (hs : s ≤ 7) (hF : FacOK R f s F) (h1 : 1 ≤ i) (h2 : i < s) : mV G h ad yX7_behind cX7_behind 5 2 [.int (nI f), .int (nI i)] M R (fun M' R' => M' = M ∧ ∃ P, R' = va_up R 18 P ∧ (∀ x, 1 ≤ x → x ≤ s → P (8 * f + x) = nI (sw i (F x))) ∧ ∀ q, (q ≤ 8 * f ∨ 8 * f + s < q) → P q = R 18 q) := by
  refine mV.intro (by decide) (Nat.le_of_ble_eq_true rfl) (cat1 (xs := [nI f, nI i])) fun X C hR => ?_
  refine r_aload_n C dX7_behind_0 rfl rfl ?_
  refine r_iload_n C dX7_behind_1 rfl rfl ?_
  refine r_iload_n C dX7_behind_2 rfl rfl ?_
  refine m_calli C (c_from G h ad M R hf hs hF h1 (by omega)) kM_from dX7_behind_3 rfl (by decide) (by decide) (by decide) (Nat.le_of_ble_eq_true rfl) rfl rfl (fun r M1 R1 hq => ?_)
  obtain ⟨⟨x, hx1, hx2, hx, rfl⟩, rfl, rfl⟩ := hq
  refine r_istore_n C dX7_behind_6 rfl (by decide) ?_
  refine r_aload_n C dX7_behind_7 rfl rfl ?_
  refine r_iload_n C dX7_behind_8 rfl rfl ?_
  refine r_iload_n C dX7_behind_9 rfl rfl ?_
  refine r_iconst (v := 1) C dX7_behind_10 (by decide) ?_
  refine r_iadd C dX7_behind_11 ?_
  rw [nI_1]
  refine m_calli C (c_from G h ad M1 R1 hf hs hF (show 1 ≤ i + 1 by omega) (by omega)) kM_from dX7_behind_12 rfl (by decide) (by decide) (by decide) (Nat.le_of_ble_eq_true rfl) rfl rfl (fun r M2 R2 hq => ?_)
  obtain ⟨⟨y, hy1, hy2, hy, rfl⟩, rfl, rfl⟩ := hq
  refine r_istore C dX7_behind_15 (by decide) ?_
  refine r_aload_n C dX7_behind_17 rfl rfl ?_
  refine mg_perm C dX7_behind_18 ?_
  refine r_bipush (v := 8) C dX7_behind_21 (by decide) ?_
  refine r_iload_n C dX7_behind_23 rfl rfl ?_
  refine r_imul C dX7_behind_24 ?_
  refine r_iload_n C dX7_behind_25 rfl rfl ?_
  refine r_iadd C dX7_behind_26 ?_
  refine r_iload_n C dX7_behind_27 rfl rfl ?_
  refine r_iconst (v := 1) C dX7_behind_28 (by decide) ?_
  refine r_iadd C dX7_behind_29 ?_
  show V X 0 0 30 _ [.int (nI i + 1), .int (nI 8 * nI f + nI x), .ref (ad 18)] _
  rw [pk_mul, nI_add, nI_1]
  refine ms_perm C dX7_behind_30 (vp_in_nI (show 8 * f + x < 4808 by omega) (by decide)) ?_
  rw [nI_clamp (by omega)]
  refine r_aload_n C dX7_behind_31 rfl rfl ?_
  refine mg_perm C dX7_behind_32 ?_
  refine r_bipush (v := 8) C dX7_behind_35 (by decide) ?_
  refine r_iload_n C dX7_behind_37 rfl rfl ?_
  refine r_imul C dX7_behind_38 ?_
  refine r_iload C dX7_behind_39 rfl ?_
  refine r_iadd C dX7_behind_41 ?_
  refine r_iload_n C dX7_behind_42 rfl rfl ?_
  show V X 0 0 43 _ [.int (nI i), .int (nI 8 * nI f + nI y), .ref (ad 18)] _
  rw [pk_mul, nI_add]
  refine ms_perm C dX7_behind_43 (vp_in_nI (show 8 * f + y < 4808 by omega) (by decide)) ?_
  rw [nI_clamp (by omega)]
  show V X 0 0 44 _ _ (mW G h ad _ (va_up (va_up R2 18 (upd (R2 18) (8 * f + x) (nI (i + 1)))) 18 (upd (upd (R2 18) (8 * f + x) (nI (i + 1))) (8 * f + y) (nI i))))
  rw [up_up]
  exact hR _ _ _ _ dX7_behind_44 ⟨rfl, _, rfl, fun q hq1 hq2 => by
    by_cases e : q = y
    · subst e
      rw [pk_us, hy, sw_r]
    · rw [pk_un (by omega)]
      by_cases e2 : q = x
      · subst e2
        rw [pk_us, hx, sw_l]
      · rw [pk_un (by omega), hF.1 q hq1 hq2, sw_n]
        · exact fun w => e2 (hF.2.2 q x hq1 hq2 hx1 hx2 (w.trans hx.symm))
        · exact fun w => e (hF.2.2 q y hq1 hq2 hy1 hy2 (w.trans hy.symm)), fun q hq => by rw [pk_un (by omega), pk_un (by omega)]⟩
theorem c_turns {f s : Nat} {F : Nat → Nat} (hf : f ≤ 600) (hs : s ≤ 7) (hF : FacOK R f s F) : mV G h ad yX7_turns cX7_turns 4 1 [.int (nI f), .int (nI s)] M R (fun M' R' => M' = M ∧ ∃ B P, R' = va_up (va_up R 21 B) 18 P ∧ (∀ x, 1 ≤ x → x ≤ s → P (8 * f + x) = nI (s + 1 - F (s + 1 - x))) ∧ ∀ q, (q ≤ 8 * f ∨ 8 * f + s < q) → P q = R 18 q) := by
  refine mV.intro (by decide) (Nat.le_of_ble_eq_true rfl) (cat1 (xs := [nI f, nI s])) fun X C hR => ?_
  have k2 : ∀ (B : Nat → Int32), (∀ x, 1 ≤ x → x ≤ s → B x = nI (s + 1 - F (s + 1 - x))) → ∀ (n x : Nat) (P : Nat → Int32), x + n = s + 1 → 1 ≤ x → (∀ q, 1 ≤ q → q < x → P (8 * f + q) = nI (s + 1 - F (s + 1 - q))) → (∀ q, (q ≤ 8 * f ∨ 8 * f + s < q) → P q = R 18 q) → V X 0 0 35 [some (.ref h), some (.int (nI f)), some (.int (nI s)), some (.int (nI x))] [] (mW G h ad M (va_up (va_up R 21 B) 18 P)) := by
    intro B hB n
    induction n with
    | zero =>
      intro x P hxn hx1 hP hQ
      refine r_iload_n C dX7_turns_35 rfl rfl ?_
      refine r_iload_n C dX7_turns_36 rfl rfl ?_
      refine r_icmp_gt (tgt := 63) C dX7_turns_37 (by decide) (fun c37 => ?_) (fun c37 => absurd c37 ((fun q => q (nI_lt (by omega) (by omega)))))
      exact hR _ _ _ _ dX7_turns_63 ⟨rfl, B, P, rfl, fun q h1 h2 => hP q h1 (by omega), hQ⟩
    | succ n ih =>
      intro x P hxn hx1 hP hQ
      refine r_iload_n C dX7_turns_35 rfl rfl ?_
      refine r_iload_n C dX7_turns_36 rfl rfl ?_
      refine r_icmp_gt (tgt := 63) C dX7_turns_37 (by decide) (fun c37 => absurd c37 ((nI_nlt (by omega) (by omega)))) (fun c37 => ?_)
      refine r_aload_n C dX7_turns_40 rfl rfl ?_
      refine mg_perm C dX7_turns_41 ?_
      refine r_bipush (v := 8) C dX7_turns_44 (by decide) ?_
      refine r_iload_n C dX7_turns_46 rfl rfl ?_
      refine r_imul C dX7_turns_47 ?_
      refine r_iload_n C dX7_turns_48 rfl rfl ?_
      refine r_iadd C dX7_turns_49 ?_
      refine r_aload_n C dX7_turns_50 rfl rfl ?_
      refine mg_back C dX7_turns_51 ?_
      refine r_iload_n C dX7_turns_54 rfl rfl ?_
      refine ml_back C dX7_turns_55 (vp_in_nI (show x < 8 by omega) (by decide)) ?_
      rw [nI_clamp (by omega)]
      show V X 0 0 56 _ [.int (B x), .int (nI 8 * nI f + nI x), .ref (ad 18)] _
      rw [hB x hx1 (by omega), pk_mul, nI_add]
      refine ms_perm C dX7_turns_56 (vp_in_nI (show 8 * f + x < 4808 by omega) (by decide)) ?_
      rw [nI_clamp (by omega)]
      show V X 0 0 57 _ _ (mW G h ad _ (va_up (va_up (va_up R 21 B) 18 P) 18 (upd P (8 * f + x) _)))
      rw [up_up]
      refine r_iinc (v := _ + 1) C dX7_turns_57 rfl (by rfl) (by decide) ?_
      rw [nI_1]
      refine r_goto (tgt := 35) C dX7_turns_60 (by decide) ?_
      exact ih (x + 1) _ (by omega) (by omega) (fun q h1 h2 => by
        by_cases e : q = x
        · subst e; exact pk_us
        · rw [pk_un (by omega)]; exact hP q h1 (by omega)) (fun q hq => by rw [pk_un (by omega)]; exact hQ q hq)
  have k1 : ∀ (n x : Nat) (B : Nat → Int32), x + n = s + 1 → 1 ≤ x → (∀ q, 1 ≤ q → q < x → B q = nI (s + 1 - F (s + 1 - q))) → V X 0 0 2 [some (.ref h), some (.int (nI f)), some (.int (nI s)), some (.int (nI x))] [] (mW G h ad M (va_up R 21 B)) := by
    intro n
    induction n with
    | zero =>
      intro x B hxn hx1 hB
      have q := k2 B (fun q h1 h2 => hB q h1 (by omega)) s 1 (R 18) (by omega) (Nat.le_refl _) (fun q h1 h2 => by omega) (fun q _ => rfl)
      rw [show va_up (va_up R 21 B) 18 (R 18) = va_up R 21 B from up_same rfl] at q
      refine r_iload_n C dX7_turns_2 rfl rfl ?_
      refine r_iload_n C dX7_turns_3 rfl rfl ?_
      refine r_icmp_gt (tgt := 33) C dX7_turns_4 (by decide) (fun c4 => ?_) (fun c4 => absurd c4 ((fun q => q (nI_lt (by omega) (by omega)))))
      refine r_iconst (v := 1) C dX7_turns_33 (by decide) ?_
      refine r_istore_n C dX7_turns_34 rfl (by decide) ?_
      exact q
    | succ n ih =>
      intro x B hxn hx1 hB
      have hFx := hF.2.1 (s + 1 - x) (by omega) (by omega)
      refine r_iload_n C dX7_turns_2 rfl rfl ?_
      refine r_iload_n C dX7_turns_3 rfl rfl ?_
      refine r_icmp_gt (tgt := 33) C dX7_turns_4 (by decide) (fun c4 => absurd c4 ((nI_nlt (by omega) (by omega)))) (fun c4 => ?_)
      refine r_aload_n C dX7_turns_7 rfl rfl ?_
      refine mg_back C dX7_turns_8 ?_
      refine r_iload_n C dX7_turns_11 rfl rfl ?_
      refine r_iload_n C dX7_turns_12 rfl rfl ?_
      refine r_iconst (v := 1) C dX7_turns_13 (by decide) ?_
      refine r_iadd C dX7_turns_14 ?_
      refine r_aload_n C dX7_turns_15 rfl rfl ?_
      refine r_iload_n C dX7_turns_16 rfl rfl ?_
      refine r_iload_n C dX7_turns_17 rfl rfl ?_
      refine r_iconst (v := 1) C dX7_turns_18 (by decide) ?_
      refine r_iadd C dX7_turns_19 ?_
      refine r_iload_n C dX7_turns_20 rfl rfl ?_
      refine r_isub C dX7_turns_21 ?_
      rw [nI_1, pk_sub (by omega)]
      refine m_calli C (c_get G h ad M (va_up R 21 B) f (s + 1 - x) hf (by omega)) kM_get dX7_turns_22 rfl (by decide) (by decide) (by decide) (Nat.le_of_ble_eq_true rfl) rfl rfl (fun r M1 R1 hq => ?_)
      obtain ⟨rfl, rfl, rfl⟩ := hq
      rw [show va_up R 21 B 18 = R 18 from rfl, hF.1 (s + 1 - x) (by omega) (by omega)]
      refine r_isub C dX7_turns_25 ?_
      rw [pk_sub (by omega)]
      refine ms_back C dX7_turns_26 (vp_in_nI (show x < 8 by omega) (by decide)) ?_
      rw [nI_clamp (by omega)]
      show V X 0 0 27 _ _ (mW G h ad _ (va_up (va_up R 21 B) 21 (upd B x _)))
      rw [up_up]
      refine r_iinc (v := _ + 1) C dX7_turns_27 rfl (by rfl) (by decide) ?_
      rw [nI_1]
      refine r_goto (tgt := 2) C dX7_turns_30 (by decide) ?_
      exact ih (x + 1) _ (by omega) (by omega) (fun q h1 h2 => by
        by_cases e : q = x
        · subst e; exact pk_us
        · rw [pk_un e]; exact hB q h1 (by omega))
  have q0 := k1 s 1 (R 21) (by omega) (Nat.le_refl _) (fun q h1 h2 => by omega)
  rw [up_same rfl] at q0
  refine r_iconst (v := 1) C dX7_turns_0 (by decide) ?_
  refine r_istore_n C dX7_turns_1 rfl (by decide) ?_
  exact q0
theorem c_isAll {f s : Nat} {F : Nat → Nat} (hf : f ≤ 600) (hs : s ≤ 7) (hF : FacOK R f s F) : mI G h ad yX7_isAll cX7_isAll 5 .boolean 1 [.int (nI f), .int (nI s)] M R (fun r M' R' => ((r = 1 ∧ ∀ x, 1 ≤ x → x ≤ s → F x = s + 1 - x) ∨ (r = 0 ∧ ¬ ∀ x, 1 ≤ x → x ≤ s → F x = s + 1 - x)) ∧ M' = M ∧ R' = R) := by
  refine mI.intro (by decide) (Nat.le_of_ble_eq_true rfl) (cat1 (xs := [nI f, nI s])) fun X C hR => ?_
  have key : ∀ (n x : Nat) (is : Int32), x + n = s + 1 → 1 ≤ x → ((is = 1 ∧ ∀ q, 1 ≤ q → q < x → F q = s + 1 - q) ∨ (is = 0 ∧ ∃ q, 1 ≤ q ∧ q ≤ s ∧ F q ≠ s + 1 - q)) → V X 0 0 5 [some (.ref h), some (.int (nI f)), some (.int (nI s)), some (.int is), some (.int (nI x))] [] (mW G h ad M R) := by
    intro n
    induction n with
    | zero =>
      intro x is hxn hx1 his
      refine r_iload C dX7_isAll_5 rfl ?_
      refine r_iload_n C dX7_isAll_7 rfl rfl ?_
      refine r_icmp_gt (tgt := 43) C dX7_isAll_8 (by decide) (fun c8 => ?_) (fun c8 => absurd c8 ((fun q => q (nI_lt (by omega) (by omega)))))
      refine r_iload_n C dX7_isAll_43 rfl rfl ?_
      exact hR _ _ _ _ _ (by rcases his with q | q <;> rw [q.1] <;> rfl) dX7_isAll_44 ⟨his.elim (fun q => Or.inl ⟨q.1, fun y h1 h2 => q.2 y h1 (by omega)⟩) (fun ⟨e, q, q1, q2, q3⟩ => Or.inr ⟨e, fun w => q3 (w q q1 q2)⟩), rfl, rfl⟩
    | succ n ih =>
      intro x is hxn hx1 his
      have hFx := hF.2.1 x hx1 (by omega)
      refine r_iload C dX7_isAll_5 rfl ?_
      refine r_iload_n C dX7_isAll_7 rfl rfl ?_
      refine r_icmp_gt (tgt := 43) C dX7_isAll_8 (by decide) (fun c8 => absurd c8 ((nI_nlt (by omega) (by omega)))) (fun c8 => ?_)
      refine r_iload_n C dX7_isAll_11 rfl rfl ?_
      refine r_if_eq (tgt := 35) C dX7_isAll_12 (by decide) (fun c12 => ?_) (fun c12 => ?_)
      · refine r_iconst (v := 0) C dX7_isAll_35 (by decide) ?_
        refine r_istore_n C dX7_isAll_36 rfl (by decide) ?_
        refine r_iinc (v := _ + 1) C dX7_isAll_37 rfl (by rfl) (by decide) ?_
        rw [nI_1]
        refine r_goto (tgt := 5) C dX7_isAll_40 (by decide) ?_
        first
          | exact ih (x + 1) 1 (by omega) (by omega) (Or.inl ⟨rfl, fun q h1 h2 => (Nat.lt_or_ge q x).elim (fun h3 => his.elim (fun w => w.2 q h1 h3) (fun w => absurd w.1 c12)) (fun h3 => (show q = x by omega) ▸ c28)⟩)
          | exact ih (x + 1) 0 (by omega) (by omega) (Or.inr ⟨rfl, x, hx1, by omega, fun e => c28 (by rw [e])⟩)
          | exact ih (x + 1) 0 (by omega) (by omega) (Or.inr ⟨rfl, his.elim (fun w => absurd (w.1.symm.trans c12) (by decide)) (fun w => w.2)⟩)
      · refine r_aload_n C dX7_isAll_15 rfl rfl ?_
        refine r_iload_n C dX7_isAll_16 rfl rfl ?_
        refine r_iload C dX7_isAll_17 rfl ?_
        refine m_calli C (c_get G h ad M R f x hf (by omega)) kM_get dX7_isAll_19 rfl (by decide) (by decide) (by decide) (Nat.le_of_ble_eq_true rfl) rfl rfl (fun r M1 R1 hq => ?_)
        obtain ⟨rfl, rfl, rfl⟩ := hq
        rw [hF.1 x hx1 (by omega)]
        refine r_iload_n C dX7_isAll_22 rfl rfl ?_
        refine r_iconst (v := 1) C dX7_isAll_23 (by decide) ?_
        refine r_iadd C dX7_isAll_24 ?_
        refine r_iload C dX7_isAll_25 rfl ?_
        refine r_isub C dX7_isAll_27 ?_
        rw [nI_1, pk_sub (by omega)]
        refine r_icmp_ne (tgt := 35) C dX7_isAll_28 (by decide) (fun c28 => ?_) (fun c28 => ?_)
        · refine r_iconst (v := 0) C dX7_isAll_35 (by decide) ?_
          refine r_istore_n C dX7_isAll_36 rfl (by decide) ?_
          refine r_iinc (v := _ + 1) C dX7_isAll_37 rfl (by rfl) (by decide) ?_
          rw [nI_1]
          refine r_goto (tgt := 5) C dX7_isAll_40 (by decide) ?_
          first
            | exact ih (x + 1) 1 (by omega) (by omega) (Or.inl ⟨rfl, fun q h1 h2 => (Nat.lt_or_ge q x).elim (fun h3 => his.elim (fun w => w.2 q h1 h3) (fun w => absurd w.1 c12)) (fun h3 => (show q = x by omega) ▸ c28)⟩)
            | exact ih (x + 1) 0 (by omega) (by omega) (Or.inr ⟨rfl, x, hx1, by omega, fun e => c28 (by rw [e])⟩)
            | exact ih (x + 1) 0 (by omega) (by omega) (Or.inr ⟨rfl, his.elim (fun w => absurd (w.1.symm.trans c12) (by decide)) (fun w => w.2)⟩)
        · rw [nI_eq (by omega) (by omega)] at c28
          refine r_iconst (v := 1) C dX7_isAll_31 (by decide) ?_
          refine r_goto (tgt := 36) C dX7_isAll_32 (by decide) ?_
          refine r_istore_n C dX7_isAll_36 rfl (by decide) ?_
          refine r_iinc (v := _ + 1) C dX7_isAll_37 rfl (by rfl) (by decide) ?_
          rw [nI_1]
          refine r_goto (tgt := 5) C dX7_isAll_40 (by decide) ?_
          first
            | exact ih (x + 1) 1 (by omega) (by omega) (Or.inl ⟨rfl, fun q h1 h2 => (Nat.lt_or_ge q x).elim (fun h3 => his.elim (fun w => w.2 q h1 h3) (fun w => absurd w.1 c12)) (fun h3 => (show q = x by omega) ▸ c28)⟩)
            | exact ih (x + 1) 0 (by omega) (by omega) (Or.inr ⟨rfl, x, hx1, by omega, fun e => c28 (by rw [e])⟩)
            | exact ih (x + 1) 0 (by omega) (by omega) (Or.inr ⟨rfl, his.elim (fun w => absurd (w.1.symm.trans c12) (by decide)) (fun w => w.2)⟩)
  refine r_iconst (v := 1) C dX7_isAll_0 (by decide) ?_
  refine r_istore_n C dX7_isAll_1 rfl (by decide) ?_
  refine r_iconst (v := 1) C dX7_isAll_2 (by decide) ?_
  refine r_istore C dX7_isAll_3 (by decide) ?_
  exact key s 1 1 (by omega) (Nat.le_refl _) (Or.inl ⟨rfl, fun q h1 h2 => by omega⟩)
theorem c_isNothing {f s : Nat} {F : Nat → Nat} (hf : f ≤ 600) (hs : s ≤ 7) (hF : FacOK R f s F) : mI G h ad yX7_isNothing cX7_isNothing 5 .boolean 1 [.int (nI f), .int (nI s)] M R (fun r M' R' => ((r = 1 ∧ ∀ x, 1 ≤ x → x ≤ s → F x = x) ∨ (r = 0 ∧ ¬ ∀ x, 1 ≤ x → x ≤ s → F x = x)) ∧ M' = M ∧ R' = R) := by
  refine mI.intro (by decide) (Nat.le_of_ble_eq_true rfl) (cat1 (xs := [nI f, nI s])) fun X C hR => ?_
  have key : ∀ (n x : Nat) (is : Int32), x + n = s + 1 → 1 ≤ x → ((is = 1 ∧ ∀ q, 1 ≤ q → q < x → F q = q) ∨ (is = 0 ∧ ∃ q, 1 ≤ q ∧ q ≤ s ∧ F q ≠ q)) → V X 0 0 5 [some (.ref h), some (.int (nI f)), some (.int (nI s)), some (.int is), some (.int (nI x))] [] (mW G h ad M R) := by
    intro n
    induction n with
    | zero =>
      intro x is hxn hx1 his
      refine r_iload C dX7_isNothing_5 rfl ?_
      refine r_iload_n C dX7_isNothing_7 rfl rfl ?_
      refine r_icmp_gt (tgt := 39) C dX7_isNothing_8 (by decide) (fun c8 => ?_) (fun c8 => absurd c8 ((fun q => q (nI_lt (by omega) (by omega)))))
      refine r_iload_n C dX7_isNothing_39 rfl rfl ?_
      exact hR _ _ _ _ _ (by rcases his with q | q <;> rw [q.1] <;> rfl) dX7_isNothing_40 ⟨his.elim (fun q => Or.inl ⟨q.1, fun y h1 h2 => q.2 y h1 (by omega)⟩) (fun ⟨e, q, q1, q2, q3⟩ => Or.inr ⟨e, fun w => q3 (w q q1 q2)⟩), rfl, rfl⟩
    | succ n ih =>
      intro x is hxn hx1 his
      have hFx := hF.2.1 x hx1 (by omega)
      refine r_iload C dX7_isNothing_5 rfl ?_
      refine r_iload_n C dX7_isNothing_7 rfl rfl ?_
      refine r_icmp_gt (tgt := 39) C dX7_isNothing_8 (by decide) (fun c8 => absurd c8 ((nI_nlt (by omega) (by omega)))) (fun c8 => ?_)
      refine r_iload_n C dX7_isNothing_11 rfl rfl ?_
      refine r_if_eq (tgt := 31) C dX7_isNothing_12 (by decide) (fun c12 => ?_) (fun c12 => ?_)
      · refine r_iconst (v := 0) C dX7_isNothing_31 (by decide) ?_
        refine r_istore_n C dX7_isNothing_32 rfl (by decide) ?_
        refine r_iinc (v := _ + 1) C dX7_isNothing_33 rfl (by rfl) (by decide) ?_
        rw [nI_1]
        refine r_goto (tgt := 5) C dX7_isNothing_36 (by decide) ?_
        first
          | exact ih (x + 1) 1 (by omega) (by omega) (Or.inl ⟨rfl, fun q h1 h2 => (Nat.lt_or_ge q x).elim (fun h3 => his.elim (fun w => w.2 q h1 h3) (fun w => absurd w.1 c12)) (fun h3 => (show q = x by omega) ▸ c24)⟩)
          | exact ih (x + 1) 0 (by omega) (by omega) (Or.inr ⟨rfl, x, hx1, by omega, fun e => c24 (by rw [e])⟩)
          | exact ih (x + 1) 0 (by omega) (by omega) (Or.inr ⟨rfl, his.elim (fun w => absurd (w.1.symm.trans c12) (by decide)) (fun w => w.2)⟩)
      · refine r_aload_n C dX7_isNothing_15 rfl rfl ?_
        refine r_iload_n C dX7_isNothing_16 rfl rfl ?_
        refine r_iload C dX7_isNothing_17 rfl ?_
        refine m_calli C (c_get G h ad M R f x hf (by omega)) kM_get dX7_isNothing_19 rfl (by decide) (by decide) (by decide) (Nat.le_of_ble_eq_true rfl) rfl rfl (fun r M1 R1 hq => ?_)
        obtain ⟨rfl, rfl, rfl⟩ := hq
        rw [hF.1 x hx1 (by omega)]
        refine r_iload C dX7_isNothing_22 rfl ?_
        refine r_icmp_ne (tgt := 31) C dX7_isNothing_24 (by decide) (fun c24 => ?_) (fun c24 => ?_)
        · refine r_iconst (v := 0) C dX7_isNothing_31 (by decide) ?_
          refine r_istore_n C dX7_isNothing_32 rfl (by decide) ?_
          refine r_iinc (v := _ + 1) C dX7_isNothing_33 rfl (by rfl) (by decide) ?_
          rw [nI_1]
          refine r_goto (tgt := 5) C dX7_isNothing_36 (by decide) ?_
          first
            | exact ih (x + 1) 1 (by omega) (by omega) (Or.inl ⟨rfl, fun q h1 h2 => (Nat.lt_or_ge q x).elim (fun h3 => his.elim (fun w => w.2 q h1 h3) (fun w => absurd w.1 c12)) (fun h3 => (show q = x by omega) ▸ c24)⟩)
            | exact ih (x + 1) 0 (by omega) (by omega) (Or.inr ⟨rfl, x, hx1, by omega, fun e => c24 (by rw [e])⟩)
            | exact ih (x + 1) 0 (by omega) (by omega) (Or.inr ⟨rfl, his.elim (fun w => absurd (w.1.symm.trans c12) (by decide)) (fun w => w.2)⟩)
        · rw [nI_eq (by omega) (by omega)] at c24
          refine r_iconst (v := 1) C dX7_isNothing_27 (by decide) ?_
          refine r_goto (tgt := 32) C dX7_isNothing_28 (by decide) ?_
          refine r_istore_n C dX7_isNothing_32 rfl (by decide) ?_
          refine r_iinc (v := _ + 1) C dX7_isNothing_33 rfl (by rfl) (by decide) ?_
          rw [nI_1]
          refine r_goto (tgt := 5) C dX7_isNothing_36 (by decide) ?_
          first
            | exact ih (x + 1) 1 (by omega) (by omega) (Or.inl ⟨rfl, fun q h1 h2 => (Nat.lt_or_ge q x).elim (fun h3 => his.elim (fun w => w.2 q h1 h3) (fun w => absurd w.1 c12)) (fun h3 => (show q = x by omega) ▸ c24)⟩)
            | exact ih (x + 1) 0 (by omega) (by omega) (Or.inr ⟨rfl, x, hx1, by omega, fun e => c24 (by rw [e])⟩)
            | exact ih (x + 1) 0 (by omega) (by omega) (Or.inr ⟨rfl, his.elim (fun w => absurd (w.1.symm.trans c12) (by decide)) (fun w => w.2)⟩)
  refine r_iconst (v := 1) C dX7_isNothing_0 (by decide) ?_
  refine r_istore_n C dX7_isNothing_1 rfl (by decide) ?_
  refine r_iconst (v := 1) C dX7_isNothing_2 (by decide) ?_
  refine r_istore C dX7_isNothing_3 (by decide) ?_
  exact key s 1 1 (by omega) (Nat.le_refl _) (Or.inl ⟨rfl, fun q h1 h2 => by omega⟩)
theorem c_coded {f s : Nat} {F : Nat → Nat} (hf : f ≤ 600) (hs : s ≤ 7) (hF : FacOK R f s F) : mI G h ad yX7_coded cX7_coded 5 .int 1 [.int (nI f), .int (nI s)] M R (fun r M' R' => r = codeF F s ∧ M' = M ∧ R' = R) := by
  refine mI.intro (by decide) (Nat.le_of_ble_eq_true rfl) (cat1 (xs := [nI f, nI s])) fun X C hR => ?_
  have key : ∀ (n x : Nat), x + n = s → V X 0 0 5 [some (.ref h), some (.int (nI f)), some (.int (nI s)), some (.int (codeF F x)), some (.int (nI (x + 1)))] [] (mW G h ad M R) := by
    intro n
    induction n with
    | zero =>
      intro x hxn
      have hxs : x = s := by omega
      subst hxs
      refine r_iload C dX7_coded_5 rfl ?_
      refine r_iload_n C dX7_coded_7 rfl rfl ?_
      refine r_icmp_gt (tgt := 34) C dX7_coded_8 (by decide) (fun c8 => ?_) (fun c8 => absurd c8 ((fun q => q (nI_lt (by omega) (by omega)))))
      refine r_iload_n C dX7_coded_34 rfl rfl ?_
      exact hR _ _ _ _ _ rfl dX7_coded_35 ⟨rfl, rfl, rfl⟩
    | succ n ih =>
      intro x hxn
      refine r_iload C dX7_coded_5 rfl ?_
      refine r_iload_n C dX7_coded_7 rfl rfl ?_
      refine r_icmp_gt (tgt := 34) C dX7_coded_8 (by decide) (fun c8 => absurd c8 ((nI_nlt (by omega) (by omega)))) (fun c8 => ?_)
      refine r_iload_n C dX7_coded_11 rfl rfl ?_
      refine r_aload_n C dX7_coded_12 rfl rfl ?_
      refine r_iload_n C dX7_coded_13 rfl rfl ?_
      refine r_iload C dX7_coded_14 rfl ?_
      refine m_calli C (c_get G h ad M R f (x + 1) hf (by omega)) kM_get dX7_coded_16 rfl (by decide) (by decide) (by decide) (Nat.le_of_ble_eq_true rfl) rfl rfl (fun r M1 R1 hq => ?_)
      obtain ⟨rfl, rfl, rfl⟩ := hq
      rw [hF.1 (x + 1) (by omega) (by omega)]
      refine r_iconst (v := 3) C dX7_coded_19 (by decide) ?_
      refine r_iload C dX7_coded_20 rfl ?_
      refine r_imul C dX7_coded_22 ?_
      refine r_iconst (v := 3) C dX7_coded_23 (by decide) ?_
      refine r_isub C dX7_coded_24 ?_
      show V X 0 0 25 _ [.int (nI 3 * nI (x + 1) - nI 3), .int _, .int _] _
      rw [pk_mul, pk_sub (by omega)]
      refine r_ishl C dX7_coded_25 ?_
      refine r_ior C dX7_coded_26 ?_
      refine r_istore_n C dX7_coded_27 rfl (by decide) ?_
      refine r_iinc (v := _ + 1) C dX7_coded_28 rfl (by rfl) (by decide) ?_
      rw [nI_1]
      refine r_goto (tgt := 5) C dX7_coded_31 (by decide) ?_
      exact ih (x + 1) (by omega)
  refine r_iconst (v := 0) C dX7_coded_0 (by decide) ?_
  refine r_istore_n C dX7_coded_1 rfl (by decide) ?_
  refine r_iconst (v := 1) C dX7_coded_2 (by decide) ?_
  refine r_istore C dX7_coded_3 (by decide) ?_
  exact key s 0 (by omega)
end M13
