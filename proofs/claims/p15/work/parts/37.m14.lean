/-! the reference: takes -/
def SeqOK (R : Rt) (N s : Nat) (A : Sq) : Prop := ∀ f, f < N → ∀ x, 1 ≤ x → x ≤ s → R 18 (8 * f + x) = nI (A f x)
theorem SeqOK.fac {R : Rt} {N s : Nat} {A : Sq} (h : SeqOK R N s A) (hc : Can s N A) {f : Nat} (hf : f < N) : FacOK R f s (A f) := ⟨h f hf, (hc.1 f).1⟩
theorem SeqOK.mv {R : Rt} {N s k i : Nat} {A : Sq} {P P2 : Nat → Int32} (h : SeqOK R N s A) (hs : s ≤ 7) (hk : k + 1 < N) (h1 : 1 ≤ i) (h2 : i < s) (hP : ∀ x, 1 ≤ x → x ≤ s → P (8 * k + x) = nI (sw i (A k x))) (hQ : ∀ q, (q ≤ 8 * k ∨ 8 * k + s < q) → P q = R 18 q) (hP2 : P2 = upd (upd P (8 * k + 8 + i) (P (8 * k + 8 + (i + 1)))) (8 * k + 8 + (i + 1)) (P (8 * k + 8 + i))) : SeqOK (va_up R 18 P2) N s (mvS A k i) := by
  intro f hf x hx1 hx2
  show P2 (8 * f + x) = _
  rw [hP2]
  by_cases e : f = k + 1
  · subst e
    rw [mvS_k1]
    show _ = nI (A (k + 1) (sw i x))
    have old : ∀ y, 1 ≤ y → y ≤ s → P (8 * k + 8 + y) = nI (A (k + 1) y) := fun y y1 y2 => by
      rw [hQ _ (by omega), show 8 * k + 8 + y = 8 * (k + 1) + y by omega]
      exact h (k + 1) hf y y1 y2
    by_cases e2 : x = i + 1
    · subst e2
      rw [show 8 * (k + 1) + (i + 1) = 8 * k + 8 + (i + 1) by omega, pk_us, sw_r]
      exact old i h1 (by omega)
    · rw [pk_un (by omega)]
      by_cases e3 : x = i
      · subst e3
        rw [show 8 * (k + 1) + x = 8 * k + 8 + x by omega, pk_us, sw_l]
        exact old (x + 1) (by omega) (by omega)
      · rw [pk_un (by omega), sw_n e3 e2, show 8 * (k + 1) + x = 8 * k + 8 + x by omega]
        exact old x hx1 hx2
  · rw [pk_un (by omega), pk_un (by omega)]
    by_cases e4 : f = k
    · subst e4
      rw [mvS_k]
      exact hP x hx1 hx2
    · rw [hQ _ (by omega), mvS_o A e4 e]
      exact h f hf x hx1 hx2
section M14
variable (G : Gx) (h : Nat) (ad : Nat → Nat) (M : Mt) (R : Rt)
theorem c_takes {k s N : Nat} {A : Sq} (hN : N ≤ 600) (hk : k + 1 < N) (hs : s ≤ 7) (hc : Can s N A) (hA : SeqOK R N s A) : mI G h ad yX7_takes cX7_takes 6 .boolean 3 [.int (nI k), .int (nI s)] M R (fun r M' R' => M' = M ∧ ∃ P A', R' = va_up R 18 P ∧ Rch s N A A' ∧ SeqOK R' N s A' ∧ (∀ i, ¬ MvOK s A' k i) ∧ ((r = 0 ∧ A' = A) ∨ (r = 1 ∧ mu s A' N < mu s A N))) := by
  refine mI.intro (by decide) (Nat.le_of_ble_eq_true rfl) (cat1 (xs := [nI k, nI s])) fun X C hR => ?_
  have main : ∀ (n : Nat) (P : Nat → Int32) (A' : Sq) (sm : Int32), mu s A' N < n → Rch s N A A' → SeqOK (va_up R 18 P) N s A' → ((sm = 0 ∧ A' = A) ∨ (sm = 1 ∧ mu s A' N < mu s A N)) → ∀ (m i : Nat) (o5 : Option Value), i + m = s ∨ (m = 0 ∧ s ≤ i) → 1 ≤ i → i ≤ 8 → (∀ q, q < i → ¬ MvOK s A' k q) → V X 0 0 5 [some (.ref h), some (.int (nI k)), some (.int (nI s)), some (.int sm), some (.int (nI i)), o5] [] (mW G h ad M (va_up R 18 P)) := by
    intro n
    induction n with
    | zero => intro P A' sm hn; omega
    | succ n ihn =>
      intro P A' sm hn hr hA' hsm m
      have hc' := hr.can hc
      induction m with
      | zero =>
        intro i o5 hi hi1 hi8 hno
        have hfin : ∀ i, ¬ MvOK s A' k i := fun q w => by
          by_cases e : q < i
          · exact hno q e w
          · have := w.2.1
            omega
        refine r_iload C dX7_takes_5 rfl ?_
        refine r_iload_n C dX7_takes_7 rfl rfl ?_
        refine r_icmp_ge (tgt := 130) C dX7_takes_8 (by decide) (fun c8 => ?_) (fun c8 => absurd c8 ((fun q => q (nI_le (by omega) (by omega)))))
        refine r_iload_n C dX7_takes_130 rfl rfl ?_
        exact hR _ _ _ _ _ (by rcases hsm with q | q <;> rw [q.1] <;> rfl) dX7_takes_131 ⟨rfl, P, A', rfl, hr, hA', hfin, hsm⟩
      | succ m ihm =>
        intro i o5 hi hi1 hi8 hno
        have his : i < s := by omega
        have hb1 := (hc'.1 (k + 1)).1.1 i hi1 (by omega)
        have hb2 := (hc'.1 (k + 1)).1.1 (i + 1) (by omega) (by omega)
        have fa : FacOK (va_up R 18 P) k s (A' k) := hA'.fac hc' (by omega)
        have go : ∀ o5 : Option Value, ¬ MvOK s A' k i → V X 0 0 124 [some (.ref h), some (.int (nI k)), some (.int (nI s)), some (.int sm), some (.int (nI i)), o5] [] (mW G h ad M (va_up R 18 P)) := by
          intro o5 hn2
          refine r_iinc (v := _ + 1) C dX7_takes_124 rfl (by rfl) (by decide) ?_
          rw [nI_1]
          refine r_goto (tgt := 5) C dX7_takes_127 (by decide) ?_
          exact ihm (i + 1) _ (by omega) (by omega) (by omega) (fun q hq => by
            by_cases e : q = i
            · subst e; exact hn2
            · exact hno q (by omega))
        have g1 : va_up R 18 P 18 (8 * (k + 1) + i) = nI (A' (k + 1) i) := hA' (k + 1) hk i hi1 (by omega)
        have g2 : va_up R 18 P 18 (8 * (k + 1) + (i + 1)) = nI (A' (k + 1) (i + 1)) := hA' (k + 1) hk (i + 1) (by omega) (by omega)
        have mvd : ∀ o5 : Option Value, MvOK s A' k i → V X 0 0 53 [some (.ref h), some (.int (nI k)), some (.int (nI s)), some (.int sm), some (.int (nI i)), o5] [] (mW G h ad M (va_up R 18 P)) := by
          intro o5 hok
          have hstep : Step s N A' (mvS A' k i) := ⟨k, i, hk, hok, rfl⟩
          have hmu := hstep.mu hc'
          refine r_aload_n C dX7_takes_53 rfl rfl ?_
          refine r_iload_n C dX7_takes_54 rfl rfl ?_
          refine r_iload C dX7_takes_55 rfl ?_
          refine m_callv C (c_behind G h ad M (va_up R 18 P) (show k ≤ 600 by omega) hs fa hi1 his) kM_behind dX7_takes_57 rfl (by decide) (by decide) (by decide) (Nat.le_of_ble_eq_true rfl) rfl rfl (fun M1 R1 hq => ?_)
          obtain ⟨rfl, P1, rfl, hP1, hQ1⟩ := hq
          rw [up_up]
          refine r_aload_n C dX7_takes_60 rfl rfl ?_
          refine r_iload_n C dX7_takes_61 rfl rfl ?_
          refine r_iconst (v := 1) C dX7_takes_62 (by decide) ?_
          refine r_iadd C dX7_takes_63 ?_
          refine r_iload C dX7_takes_64 rfl ?_
          rw [nI_1]
          refine m_calli C (c_get G h ad M1 (va_up R 18 P1) (k + 1) i (by omega) (by omega)) kM_get dX7_takes_66 rfl (by decide) (by decide) (by decide) (Nat.le_of_ble_eq_true rfl) rfl rfl (fun r M2 R2 hq => ?_)
          obtain ⟨rfl, rfl, rfl⟩ := hq
          refine r_istore C dX7_takes_69 (by decide) ?_
          refine r_aload_n C dX7_takes_71 rfl rfl ?_
          refine mg_perm C dX7_takes_72 ?_
          refine r_bipush (v := 8) C dX7_takes_75 (by decide) ?_
          refine r_iload_n C dX7_takes_77 rfl rfl ?_
          refine r_imul C dX7_takes_78 ?_
          refine r_bipush (v := 8) C dX7_takes_79 (by decide) ?_
          refine r_iadd C dX7_takes_81 ?_
          refine r_iload C dX7_takes_82 rfl ?_
          refine r_iadd C dX7_takes_84 ?_
          refine r_aload_n C dX7_takes_85 rfl rfl ?_
          refine r_iload_n C dX7_takes_86 rfl rfl ?_
          refine r_iconst (v := 1) C dX7_takes_87 (by decide) ?_
          refine r_iadd C dX7_takes_88 ?_
          refine r_iload C dX7_takes_89 rfl ?_
          refine r_iconst (v := 1) C dX7_takes_91 (by decide) ?_
          refine r_iadd C dX7_takes_92 ?_
          rw [nI_1, nI_1]
          refine m_calli C (c_get G h ad M2 (va_up R 18 P1) (k + 1) (i + 1) (by omega) (by omega)) kM_get dX7_takes_93 rfl (by decide) (by decide) (by decide) (Nat.le_of_ble_eq_true rfl) rfl rfl (fun r M3 R3 hq => ?_)
          obtain ⟨rfl, rfl, rfl⟩ := hq
          show V X 0 0 96 _ [.int (P1 (8 * (k + 1) + (i + 1))), .int (nI 8 * nI k + nI 8 + nI i), .ref (ad 18)] _
          rw [pk_mul, nI_add, nI_add, show 8 * (k + 1) + (i + 1) = 8 * k + 8 + (i + 1) by omega]
          refine ms_perm C dX7_takes_96 (vp_in_nI (show 8 * k + 8 + i < 4808 by omega) (by decide)) ?_
          rw [nI_clamp (by omega)]
          show V X 0 0 97 _ _ (mW G h ad _ (va_up (va_up R 18 P1) 18 (upd P1 (8 * k + 8 + i) _)))
          rw [up_up]
          refine r_aload_n C dX7_takes_97 rfl rfl ?_
          refine mg_perm C dX7_takes_98 ?_
          refine r_bipush (v := 8) C dX7_takes_101 (by decide) ?_
          refine r_iload_n C dX7_takes_103 rfl rfl ?_
          refine r_imul C dX7_takes_104 ?_
          refine r_bipush (v := 8) C dX7_takes_105 (by decide) ?_
          refine r_iadd C dX7_takes_107 ?_
          refine r_iload C dX7_takes_108 rfl ?_
          refine r_iadd C dX7_takes_110 ?_
          refine r_iconst (v := 1) C dX7_takes_111 (by decide) ?_
          refine r_iadd C dX7_takes_112 ?_
          refine r_iload C dX7_takes_113 rfl ?_
          show V X 0 0 115 _ [.int (P1 (8 * (k + 1) + i)), .int (nI 8 * nI k + nI 8 + nI i + nI 1), .ref (ad 18)] _
          rw [pk_mul, nI_add, nI_add, nI_add, show 8 * (k + 1) + i = 8 * k + 8 + i by omega]
          refine ms_perm C dX7_takes_115 (vp_in_nI (show 8 * k + 8 + i + 1 < 4808 by omega) (by decide)) ?_
          rw [nI_clamp (by omega)]
          show V X 0 0 116 _ _ (mW G h ad _ (va_up (va_up R 18 _) 18 (upd (upd P1 (8 * k + 8 + i) (P1 (8 * k + 8 + (i + 1)))) (8 * k + 8 + (i + 1)) (P1 (8 * k + 8 + i)))))
          rw [up_up]
          refine r_iconst (v := 1) C dX7_takes_116 (by decide) ?_
          refine r_istore_n C dX7_takes_117 rfl (by decide) ?_
          refine r_iconst (v := 1) C dX7_takes_118 (by decide) ?_
          refine r_istore C dX7_takes_119 (by decide) ?_
          refine r_goto (tgt := 5) C dX7_takes_121 (by decide) ?_
          exact ihn _ (mvS A' k i) 1 (by omega) (hr.step hstep) (by
            have q := SeqOK.mv hA' hs hk hi1 his hP1 hQ1 rfl
            rw [up_up] at q
            exact q) (Or.inr ⟨rfl, by rcases hsm with q | q; rw [← q.2]; exact hmu; omega⟩) (s - 1) 1 _ (by omega) (Nat.le_refl _) (by omega) (fun q hq w => by have := w.1; omega)
        refine r_iload C dX7_takes_5 rfl ?_
        refine r_iload_n C dX7_takes_7 rfl rfl ?_
        refine r_icmp_ge (tgt := 130) C dX7_takes_8 (by decide) (fun c8 => absurd c8 ((nI_ge (by omega) (by omega)))) (fun c8 => ?_)
        refine r_aload_n C dX7_takes_11 rfl rfl ?_
        refine r_iload_n C dX7_takes_12 rfl rfl ?_
        refine r_iconst (v := 1) C dX7_takes_13 (by decide) ?_
        refine r_iadd C dX7_takes_14 ?_
        refine r_iload C dX7_takes_15 rfl ?_
        rw [nI_1]
        refine m_calli C (c_get G h ad M (va_up R 18 P) (k + 1) i (by omega) (by omega)) kM_get dX7_takes_17 rfl (by decide) (by decide) (by decide) (Nat.le_of_ble_eq_true rfl) rfl rfl (fun r M1 R1 hq => ?_)
        obtain ⟨rfl, rfl, rfl⟩ := hq
        rw [g1]
        refine r_aload_n C dX7_takes_20 rfl rfl ?_
        refine r_iload_n C dX7_takes_21 rfl rfl ?_
        refine r_iconst (v := 1) C dX7_takes_22 (by decide) ?_
        refine r_iadd C dX7_takes_23 ?_
        refine r_iload C dX7_takes_24 rfl ?_
        refine r_iconst (v := 1) C dX7_takes_26 (by decide) ?_
        refine r_iadd C dX7_takes_27 ?_
        rw [nI_1, nI_1]
        refine m_calli C (c_get G h ad M1 (va_up R 18 P) (k + 1) (i + 1) (by omega) (by omega)) kM_get dX7_takes_28 rfl (by decide) (by decide) (by decide) (Nat.le_of_ble_eq_true rfl) rfl rfl (fun r M2 R2 hq => ?_)
        obtain ⟨rfl, rfl, rfl⟩ := hq
        rw [g2]
        refine r_icmp_le (tgt := 124) C dX7_takes_31 (by decide) (fun c31 => ?_) (fun c31 => ?_)
        · first
            | exact go _ (fun w => absurd (w.2.2.2 x y hx1 hx2 hy1 hy2 hx hy) (by rw [nI_leI (by omega) (by omega)] at c50; omega))
            | exact go _ (fun w => absurd w.2.2.1 (by rw [nI_leI (by omega) (by omega)] at c31; omega))
        · refine r_aload_n C dX7_takes_34 rfl rfl ?_
          refine r_iload_n C dX7_takes_35 rfl rfl ?_
          refine r_iload C dX7_takes_36 rfl ?_
          refine m_calli C (c_from G h ad M2 (va_up R 18 P) (show k ≤ 600 by omega) hs fa hi1 (by omega)) kM_from dX7_takes_38 rfl (by decide) (by decide) (by decide) (Nat.le_of_ble_eq_true rfl) rfl rfl (fun r M3 R3 hq => ?_)
          obtain ⟨⟨x, hx1, hx2, hx, rfl⟩, rfl, rfl⟩ := hq
          refine r_aload_n C dX7_takes_41 rfl rfl ?_
          refine r_iload_n C dX7_takes_42 rfl rfl ?_
          refine r_iload C dX7_takes_43 rfl ?_
          refine r_iconst (v := 1) C dX7_takes_45 (by decide) ?_
          refine r_iadd C dX7_takes_46 ?_
          rw [nI_1]
          refine m_calli C (c_from G h ad M3 (va_up R 18 P) (show k ≤ 600 by omega) hs fa (show 1 ≤ i + 1 by omega) (by omega)) kM_from dX7_takes_47 rfl (by decide) (by decide) (by decide) (Nat.le_of_ble_eq_true rfl) rfl rfl (fun r M4 R4 hq => ?_)
          obtain ⟨⟨y, hy1, hy2, hy, rfl⟩, rfl, rfl⟩ := hq
          refine r_icmp_ge (tgt := 124) C dX7_takes_50 (by decide) (fun c50 => ?_) (fun c50 => ?_)
          · first
              | exact go _ (fun w => absurd (w.2.2.2 x y hx1 hx2 hy1 hy2 hx hy) (by rw [nI_leI (by omega) (by omega)] at c50; omega))
              | exact go _ (fun w => absurd w.2.2.1 (by rw [nI_leI (by omega) (by omega)] at c31; omega))
          · exact mvd _ ⟨hi1, his, by rw [nI_leI (by omega) (by omega)] at c31; omega, fun p q p1 p2 q1 q2 ep eq => by
              have e1 := fa.2.2 p x p1 p2 hx1 hx2 (ep.trans hx.symm)
              have e2 := fa.2.2 q y q1 q2 hy1 hy2 (eq.trans hy.symm)
              rw [nI_leI (by omega) (by omega)] at c50
              omega⟩
  have q0 := main (mu s A N + 1) (R 18) A 0 (by omega) Rch.rf (by rw [up_same rfl]; exact hA) (Or.inl ⟨rfl, rfl⟩) (s - 1) 1 none (by omega) (Nat.le_refl _) (by omega) (fun q hq w => by have := w.1; omega)
  rw [up_same rfl] at q0
  refine r_iconst (v := 0) C dX7_takes_0 (by decide) ?_
  refine r_istore_n C dX7_takes_1 rfl (by decide) ?_
  refine r_iconst (v := 1) C dX7_takes_2 (by decide) ?_
  refine r_istore C dX7_takes_3 (by decide) ?_
  exact q0
end M14
