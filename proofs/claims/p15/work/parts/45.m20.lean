/-! the reference: alike -/
def alQ (c c' : Nat → Int32) (s z z' : Nat) : Prop := ∃ n first B n' first' B', NFof c s z z n first B ∧ NFof c' s z' z' n' first' B' ∧ n - first = n' - first' ∧ -nI (ngd c z z z) + nI first = -nI (ngd c' z' z' z') + nI first' ∧ ∀ f, f < n' - first' → codeF (B (f + first)) s = codeF (B' (f + first')) s
section M20
variable (G : Gx) (h : Nat) (ad : Nat → Nat) (M : Mt) (R : Rt)
theorem c_alike (kk ll : Int32) (hP : PatsOK R) : mI G h ad yX7_alike cX7_alike 5 .boolean 5 [.int kk, .int ll] M R (fun r M' R' => SamM M M' ∧ SamP R R' ∧ ((∃ j s z j' z', j < 8 ∧ kk = nI j ∧ PatOK R j s z ∧ j' < 8 ∧ ll = nI j' ∧ PatOK R j' s z' ∧ ((r = 1 ∧ alQ (rowOf R j) (rowOf R j') s z z') ∨ (r = 0 ∧ ¬ alQ (rowOf R j) (rowOf R j') s z z')) ∧ M' 0 = 0) ∨ (∃ j s z j' s' z', j < 8 ∧ kk = nI j ∧ PatOK R j s z ∧ j' < 8 ∧ ll = nI j' ∧ PatOK R j' s' z' ∧ s ≠ s' ∧ r = 0 ∧ M' 0 = 0) ∨ ((¬ isPat R kk ∨ ¬ isPat R ll) ∧ r = 0 ∧ M' 0 = 1))) := by
  refine mI.intro (by decide) (Nat.le_of_ble_eq_true rfl) (cat1 (xs := [kk, ll])) fun X C hR => ?_
  refine r_aload_n C dX7_alike_0 rfl rfl ?_
  refine r_iload_n C dX7_alike_1 rfl rfl ?_
  refine m_calli C (c_isPattern G h ad M R kk) kM_isPattern dX7_alike_2 rfl (by decide) (by decide) (by decide) (by decide) rfl rfl (fun r M1 R1 hq => ?_)
  obtain ⟨rfl, ⟨hpat, rfl, rfl⟩ | ⟨hpat, rfl, rfl⟩⟩ := hq
  rotate_left
  · refine r_if_eq (tgt := 31) C dX7_alike_5 (by decide) (fun c5 => ?_) (fun c5 => absurd c5 ((fun q => q rfl)))
    refine r_iconst (v := 0) C dX7_alike_31 (by decide) ?_
    exact hR _ _ _ _ _ rfl dX7_alike_32 ⟨SamM.rf.up (by omega), SamP.rf, Or.inr (Or.inr ⟨Or.inl hpat, rfl, rfl⟩)⟩
  refine r_if_eq (tgt := 31) C dX7_alike_5 (by decide) (fun c5 => absurd c5 ((by decide))) (fun c5 => ?_)
  refine r_aload_n C dX7_alike_8 rfl rfl ?_
  refine r_iload_n C dX7_alike_9 rfl rfl ?_
  refine m_calli C (c_isPattern G h ad (va_up M 0 0) R1 ll) kM_isPattern dX7_alike_10 rfl (by decide) (by decide) (by decide) (by decide) rfl rfl (fun r M1 R2 hq => ?_)
  obtain ⟨rfl, ⟨hpat2, rfl, rfl⟩ | ⟨hpat2, rfl, rfl⟩⟩ := hq
  rotate_left
  · refine r_if_eq (tgt := 31) C dX7_alike_13 (by decide) (fun c13 => ?_) (fun c13 => absurd c13 ((fun q => q rfl)))
    refine r_iconst (v := 0) C dX7_alike_31 (by decide) ?_
    exact hR _ _ _ _ _ rfl dX7_alike_32 ⟨(SamM.rf.up (by omega)).up (by omega), SamP.rf, Or.inr (Or.inr ⟨Or.inr hpat2, rfl, rfl⟩)⟩
  rw [up_up]
  obtain ⟨j, s, z, hj, rfl, hp⟩ := isPat_at hpat hP
  obtain ⟨j', s', z', hj', rfl, hp'⟩ := isPat_at hpat2 hP
  obtain ⟨hs5, hs2, hs7, hz, hz3, hok⟩ := id hp
  obtain ⟨hs5', hs2', hs7', hz', hz3', hok'⟩ := id hp'
  have hS0 : SamM M (va_up M 0 0) := SamM.rf.up (by omega)
  by_cases hss : s = s'
  rotate_left
  · refine r_if_eq (tgt := 31) C dX7_alike_13 (by decide) (fun c13 => absurd c13 ((by decide))) (fun c13 => ?_)
    refine r_aload_n C dX7_alike_16 rfl rfl ?_
    refine mg_straws C dX7_alike_17 ?_
    refine r_iload_n C dX7_alike_20 rfl rfl ?_
    refine ml_straws C dX7_alike_21 (vp_in_nI hj (by decide)) ?_
    rw [nI_clamp (by omega), hs5]
    refine r_aload_n C dX7_alike_22 rfl rfl ?_
    refine mg_straws C dX7_alike_23 ?_
    refine r_iload_n C dX7_alike_26 rfl rfl ?_
    refine ml_straws C dX7_alike_27 (vp_in_nI hj' (by decide)) ?_
    rw [nI_clamp (by omega), hs5']
    refine r_icmp_eq (tgt := 33) C dX7_alike_28 (by decide) (fun c28 => absurd c28 ((fun e => hss ((nI_eq (by omega) (by omega)).mp e)))) (fun c28 => ?_)
    refine r_iconst (v := 0) C dX7_alike_31 (by decide) ?_
    exact hR _ _ _ _ _ rfl dX7_alike_32 ⟨hS0, SamP.rf, Or.inr (Or.inl ⟨j, s, z, j', s', z', hj, rfl, hp, hj', rfl, hp', hss, rfl, rfl⟩)⟩
  subst hss
  have last : ∀ (n first n' first' : Nat) (B B' : Sq) (M1 : Mt) (Rc : Rt), NFof (rowOf R2 j) s z z n first B → NFof (rowOf R2 j') s z' z' n' first' B' → SamM M M1 → SamP R2 Rc → M1 0 = 0 → M1 19 = nI (n' - first') → SeqOK Rc (n' - first') s (fun f => B' (f + first')) → (∀ f, f < n - first → Rc 22 f = codeF (B (f + first)) s) → ∀ (d f : Nat) (is : Int32), f + d = n' - first' → ((is = 1 ∧ n - first = n' - first' ∧ -nI (ngd (rowOf R2 j) z z z) + nI first = -nI (ngd (rowOf R2 j') z' z' z') + nI first' ∧ ∀ q, q < f → codeF (B (q + first)) s = codeF (B' (q + first')) s) ∨ (is = 0 ∧ ¬ alQ (rowOf R2 j) (rowOf R2 j') s z z')) → V X 0 0 125 [some (.ref h), some (.int (nI j)), some (.int (nI j')), some (.int is), some (.int (nI f))] [] (mW G h ad M1 Rc) := by
    intro n first n' first' B B' M1 Rc hnf hnf' hSM hSP hM0 hM19 hSeq hkept d
    have hl := hnf.2.1
    have hl' := hnf'.2.1
    have hcB' := hnf'.2.2.1.can (seq0_can hs7 (by omega) hok')
    induction d with
    | zero =>
      intro f is hfd his
      have hfin : (is = 1 ∧ alQ (rowOf R2 j) (rowOf R2 j') s z z') ∨ (is = 0 ∧ ¬ alQ (rowOf R2 j) (rowOf R2 j') s z z') := his.elim (fun q => Or.inl ⟨q.1, n, first, B, n', first', B', hnf, hnf', q.2.1, q.2.2.1, fun g hg => q.2.2.2 g (by omega)⟩) Or.inr
      refine r_iload C dX7_alike_125 rfl ?_
      refine r_aload_n C dX7_alike_127 rfl rfl ?_
      refine mg_perms C dX7_alike_128 ?_
      rw [hM19]
      refine r_icmp_ge (tgt := 172) C dX7_alike_131 (by decide) (fun c131 => ?_) (fun c131 => absurd c131 ((fun q => q (nI_le (by omega) (by omega)))))
      refine r_iload_n C dX7_alike_172 rfl rfl ?_
      exact hR _ _ _ _ _ (by rcases hfin with q | q <;> rw [q.1] <;> rfl) dX7_alike_173 ⟨hSM, hSP, Or.inl ⟨j, s, z, j', z', hj, rfl, hp, hj', rfl, hp', hfin, hM0⟩⟩
    | succ d ih =>
      intro f is hfd his
      refine r_iload C dX7_alike_125 rfl ?_
      refine r_aload_n C dX7_alike_127 rfl rfl ?_
      refine mg_perms C dX7_alike_128 ?_
      rw [hM19]
      refine r_icmp_ge (tgt := 172) C dX7_alike_131 (by decide) (fun c131 => absurd c131 ((nI_ge (by omega) (by omega)))) (fun c131 => ?_)
      refine r_iload_n C dX7_alike_134 rfl rfl ?_
      refine r_if_eq (tgt := 172) C dX7_alike_135 (by decide) (fun c135 => ?_) (fun c135 => ?_)
      · refine r_iload_n C dX7_alike_172 rfl rfl ?_
        exact hR _ _ _ _ _ (by rw [c135]; rfl) dX7_alike_173 ⟨hSM, hSP, Or.inl ⟨j, s, z, j', z', hj, rfl, hp, hj', rfl, hp', Or.inr ⟨c135, his.elim (fun q => absurd (q.1.symm.trans c135) (by decide)) (fun q => q.2)⟩, hM0⟩⟩
      · have hi1 := his.elim id (fun q => absurd q.1 c135)
        refine r_aload_n C dX7_alike_138 rfl rfl ?_
        refine mg_kept C dX7_alike_139 ?_
        refine r_iload C dX7_alike_142 rfl ?_
        refine ml_kept C dX7_alike_144 (vp_in_nI (show f < 4808 by omega) (by decide)) ?_
        rw [nI_clamp (by omega), hkept f (by have := hi1.2.1; omega)]
        refine r_aload_n C dX7_alike_145 rfl rfl ?_
        refine r_iload C dX7_alike_146 rfl ?_
        refine r_aload_n C dX7_alike_148 rfl rfl ?_
        refine mg_straws C dX7_alike_149 ?_
        refine r_iload_n C dX7_alike_152 rfl rfl ?_
        refine ml_straws C dX7_alike_153 (vp_in_nI hj' (by decide)) ?_
        rw [nI_clamp (by omega), hSP 5 (by omega), hs5']
        refine m_calli C (c_coded G h ad _ _ (f := f) (s := s) (F := B' (f + first')) (by omega) hs7 ⟨hSeq f (by omega), (hcB'.1 _).1⟩) kM_coded dX7_alike_154 rfl (by decide) (by decide) (by decide) (Nat.le_of_ble_eq_true rfl) rfl rfl (fun r M4 R4 hq => ?_)
        obtain ⟨rfl, rfl, rfl⟩ := hq
        refine r_icmp_ne (tgt := 164) C dX7_alike_157 (by decide) (fun c157 => ?_) (fun c157 => ?_)
        · refine r_iconst (v := 0) C dX7_alike_164 (by decide) ?_
          refine r_istore_n C dX7_alike_165 rfl (by decide) ?_
          refine r_iinc (v := _ + 1) C dX7_alike_166 rfl (by rfl) (by decide) ?_
          rw [nI_1]
          refine r_goto (tgt := 125) C dX7_alike_169 (by decide) ?_
          first
            | exact ih (f + 1) 1 (by omega) (Or.inl ⟨rfl, hi1.2.1, hi1.2.2.1, fun q hq => (Nat.lt_or_ge q f).elim (fun w => hi1.2.2.2 q w) (fun w => (show q = f by omega) ▸ c157)⟩)
            | exact ih (f + 1) 0 (by omega) (Or.inr ⟨rfl, fun ⟨a1, a2, a3, b1, b2, b3, w1, w2, _, _, w5⟩ => by
                obtain ⟨e1, e2, e3⟩ := NFof.one hs7 (by omega) hok hnf w1
                obtain ⟨e4, e5, e6⟩ := NFof.one hs7 (by omega) hok' hnf' w2
                subst e1; subst e2; subst e3; subst e4; subst e5; subst e6
                exact c157 (w5 f (by omega))⟩)
        · refine r_iconst (v := 1) C dX7_alike_160 (by decide) ?_
          refine r_goto (tgt := 165) C dX7_alike_161 (by decide) ?_
          refine r_istore_n C dX7_alike_165 rfl (by decide) ?_
          refine r_iinc (v := _ + 1) C dX7_alike_166 rfl (by rfl) (by decide) ?_
          rw [nI_1]
          refine r_goto (tgt := 125) C dX7_alike_169 (by decide) ?_
          first
            | exact ih (f + 1) 1 (by omega) (Or.inl ⟨rfl, hi1.2.1, hi1.2.2.1, fun q hq => (Nat.lt_or_ge q f).elim (fun w => hi1.2.2.2 q w) (fun w => (show q = f by omega) ▸ c157)⟩)
            | exact ih (f + 1) 0 (by omega) (Or.inr ⟨rfl, fun ⟨a1, a2, a3, b1, b2, b3, w1, w2, _, _, w5⟩ => by
                obtain ⟨e1, e2, e3⟩ := NFof.one hs7 (by omega) hok hnf w1
                obtain ⟨e4, e5, e6⟩ := NFof.one hs7 (by omega) hok' hnf' w2
                subst e1; subst e2; subst e3; subst e4; subst e5; subst e6
                exact c157 (w5 f (by omega))⟩)
  have mid : ∀ (n first : Nat) (B : Sq) (M1 : Mt) (Rc : Rt), NFof (rowOf R2 j) s z z n first B → SamM M M1 → SamP R2 Rc → M1 0 = 0 → M1 19 = nI (n - first) → M1 23 = nI (n - first) → M1 24 = -nI (ngd (rowOf R2 j) z z z) + nI first → SeqOK Rc (n - first) s (fun f => B (f + first)) → ∀ (d f : Nat) (K : Nat → Int32), f + d = n - first → (∀ q, q < f → K q = codeF (B (q + first)) s) → V X 0 0 57 [some (.ref h), some (.int (nI j)), some (.int (nI j')), some (.int (nI f)), none] [] (mW G h ad M1 (va_up Rc 22 K)) := by
    intro n first B M1 Rc hnf hSM hSP hM0 hM19 hM23 hM24 hSeq d
    have hl := hnf.2.1
    have hcB := hnf.2.2.1.can (seq0_can hs7 (by omega) hok)
    induction d with
    | zero =>
      intro f K hfd hK
      have hSP2 : SamP R2 (va_up Rc 22 K) := hSP.up (by omega)
      have j94 : ∀ (M2 : Mt) (R3 : Rt), FormOut (rowOf R2 j') s z' z' M1 M2 (va_up Rc 22 K) R3 → V X 0 0 94 [some (.ref h), some (.int (nI j)), some (.int (nI j')), some (.int (nI f)), none] [] (mW G h ad M2 R3) := by
        intro M2 R3 hq
        have hM23' : M2 23 = M1 23 := by obtain ⟨_, _, _, _, _, _, _, _, _, _, _, _, _, rfl, _, _⟩ := hq; rfl
        have hM24' : M2 24 = M1 24 := by obtain ⟨_, _, _, _, _, _, _, _, _, _, _, _, _, rfl, _, _⟩ := hq; rfl
        obtain ⟨n', first', B', hnf', hN19, hN20, hN0, hNM, hNP, hNSeq, hN22⟩ := hq.get
        have hl' := hnf'.2.1
        have hf' := hnf'.1
        have fin := last n first n' first' B B' M2 R3 hnf hnf' (hSM.tr hNM) (hSP2.tr hNP) (hN0.trans hM0) hN19 hNSeq (fun q hq => by rw [hN22]; exact hK q (by omega)) (n' - first') 0
        refine r_aload_n C dX7_alike_94 rfl rfl ?_
        refine mg_keptPerms C dX7_alike_95 ?_
        refine r_aload_n C dX7_alike_98 rfl rfl ?_
        refine mg_perms C dX7_alike_99 ?_
        rw [hM23', hM23, hN19]
        refine r_icmp_ne (tgt := 120) C dX7_alike_102 (by decide) (fun c102 => ?_) (fun c102 => ?_)
        · refine r_iconst (v := 0) C dX7_alike_120 (by decide) ?_
          refine r_istore_n C dX7_alike_121 rfl (by decide) ?_
          refine r_iconst (v := 0) C dX7_alike_122 (by decide) ?_
          refine r_istore C dX7_alike_123 (by decide) ?_
          first
            | exact V.keep [true, true, true, true, true] (fin 1 (by omega) (Or.inl ⟨rfl, c102, c113, fun q hq => by omega⟩))
            | exact V.keep [true, true, true, true, true] (fin 0 (by omega) (Or.inr ⟨rfl, fun ⟨a1, a2, a3, b1, b2, b3, w1, w2, w3, w4, w5⟩ => by
                obtain ⟨e1, e2, e3⟩ := NFof.one hs7 (by omega) hok hnf w1
                obtain ⟨e4, e5, e6⟩ := NFof.one hs7 (by omega) hok' hnf' w2
                subst e1; subst e2; subst e3; subst e4; subst e5; subst e6
                first | exact c113 w4 | exact c102 (by rw [w3])⟩))
        · rw [nI_eq (by omega) (by omega)] at c102
          refine r_aload_n C dX7_alike_105 rfl rfl ?_
          refine mg_keptPower C dX7_alike_106 ?_
          refine r_aload_n C dX7_alike_109 rfl rfl ?_
          refine mg_power C dX7_alike_110 ?_
          rw [hM24', hM24, hN20]
          refine r_icmp_ne (tgt := 120) C dX7_alike_113 (by decide) (fun c113 => ?_) (fun c113 => ?_)
          · refine r_iconst (v := 0) C dX7_alike_120 (by decide) ?_
            refine r_istore_n C dX7_alike_121 rfl (by decide) ?_
            refine r_iconst (v := 0) C dX7_alike_122 (by decide) ?_
            refine r_istore C dX7_alike_123 (by decide) ?_
            first
              | exact V.keep [true, true, true, true, true] (fin 1 (by omega) (Or.inl ⟨rfl, c102, c113, fun q hq => by omega⟩))
              | exact V.keep [true, true, true, true, true] (fin 0 (by omega) (Or.inr ⟨rfl, fun ⟨a1, a2, a3, b1, b2, b3, w1, w2, w3, w4, w5⟩ => by
                  obtain ⟨e1, e2, e3⟩ := NFof.one hs7 (by omega) hok hnf w1
                  obtain ⟨e4, e5, e6⟩ := NFof.one hs7 (by omega) hok' hnf' w2
                  subst e1; subst e2; subst e3; subst e4; subst e5; subst e6
                  first | exact c113 w4 | exact c102 (by rw [w3])⟩))
          · refine r_iconst (v := 1) C dX7_alike_116 (by decide) ?_
            refine r_goto (tgt := 121) C dX7_alike_117 (by decide) ?_
            refine r_istore_n C dX7_alike_121 rfl (by decide) ?_
            refine r_iconst (v := 0) C dX7_alike_122 (by decide) ?_
            refine r_istore C dX7_alike_123 (by decide) ?_
            first
              | exact V.keep [true, true, true, true, true] (fin 1 (by omega) (Or.inl ⟨rfl, c102, c113, fun q hq => by omega⟩))
              | exact V.keep [true, true, true, true, true] (fin 0 (by omega) (Or.inr ⟨rfl, fun ⟨a1, a2, a3, b1, b2, b3, w1, w2, w3, w4, w5⟩ => by
                  obtain ⟨e1, e2, e3⟩ := NFof.one hs7 (by omega) hok hnf w1
                  obtain ⟨e4, e5, e6⟩ := NFof.one hs7 (by omega) hok' hnf' w2
                  subst e1; subst e2; subst e3; subst e4; subst e5; subst e6
                  first | exact c113 w4 | exact c102 (by rw [w3])⟩))
      refine r_iload_n C dX7_alike_57 rfl rfl ?_
      refine r_aload_n C dX7_alike_58 rfl rfl ?_
      refine mg_perms C dX7_alike_59 ?_
      rw [hM19]
      refine r_icmp_ge (tgt := 88) C dX7_alike_62 (by decide) (fun c62 => ?_) (fun c62 => absurd c62 ((fun q => q (nI_le (by omega) (by omega)))))
      refine r_aload_n C dX7_alike_88 rfl rfl ?_
      refine r_iload_n C dX7_alike_89 rfl rfl ?_
      refine r_iconst (v := 1) C dX7_alike_90 (by decide) ?_
      refine m_callv C (c_form G h ad _ _ (T := 1) hj' (hSP2.pat hp') (by decide) (by omega)) kM_form dX7_alike_91 rfl (by decide) (by decide) (by decide) (by decide) rfl rfl (fun M2 R3 hq => ?_)
      rw [Nat.mul_one, hSP2.row] at hq
      exact j94 M2 R3 hq
    | succ d ih =>
      intro f K hfd hK
      refine r_iload_n C dX7_alike_57 rfl rfl ?_
      refine r_aload_n C dX7_alike_58 rfl rfl ?_
      refine mg_perms C dX7_alike_59 ?_
      rw [hM19]
      refine r_icmp_ge (tgt := 88) C dX7_alike_62 (by decide) (fun c62 => absurd c62 ((nI_ge (by omega) (by omega)))) (fun c62 => ?_)
      refine r_aload_n C dX7_alike_65 rfl rfl ?_
      refine mg_kept C dX7_alike_66 ?_
      refine r_iload_n C dX7_alike_69 rfl rfl ?_
      refine r_aload_n C dX7_alike_70 rfl rfl ?_
      refine r_iload_n C dX7_alike_71 rfl rfl ?_
      refine r_aload_n C dX7_alike_72 rfl rfl ?_
      refine mg_straws C dX7_alike_73 ?_
      refine r_iload_n C dX7_alike_76 rfl rfl ?_
      refine ml_straws C dX7_alike_77 (vp_in_nI hj (by decide)) ?_
      rw [nI_clamp (by omega), show va_up Rc 22 K 5 j = nI s from (by rw [← hs5]; exact congrFun (hSP 5 (by omega)) j)]
      refine m_calli C (c_coded G h ad M1 (va_up Rc 22 K) (f := f) (s := s) (F := B (f + first)) (by omega) hs7 ⟨hSeq f (by omega), (hcB.1 _).1⟩) kM_coded dX7_alike_78 rfl (by decide) (by decide) (by decide) (Nat.le_of_ble_eq_true rfl) rfl rfl (fun r M4 R4 hq => ?_)
      obtain ⟨rfl, rfl, rfl⟩ := hq
      refine ms_kept C dX7_alike_81 (vp_in_nI (show f < 4808 by omega) (by decide)) ?_
      rw [nI_clamp (by omega)]
      show V X 0 0 82 _ _ (mW G h ad _ (va_up (va_up Rc 22 K) 22 (upd K f (codeF (B (f + first)) s))))
      rw [up_up]
      refine r_iinc (v := _ + 1) C dX7_alike_82 rfl (by rfl) (by decide) ?_
      rw [nI_1]
      refine r_goto (tgt := 57) C dX7_alike_85 (by decide) ?_
      exact ih (f + 1) _ (by omega) (fun q hq => by
        by_cases e : q = f
        · subst e; exact pk_us
        · rw [pk_un e]; exact hK q (by omega))
  refine r_if_eq (tgt := 31) C dX7_alike_13 (by decide) (fun c13 => absurd c13 ((by decide))) (fun c13 => ?_)
  refine r_aload_n C dX7_alike_16 rfl rfl ?_
  refine mg_straws C dX7_alike_17 ?_
  refine r_iload_n C dX7_alike_20 rfl rfl ?_
  refine ml_straws C dX7_alike_21 (vp_in_nI hj (by decide)) ?_
  rw [nI_clamp (by omega), hs5]
  refine r_aload_n C dX7_alike_22 rfl rfl ?_
  refine mg_straws C dX7_alike_23 ?_
  refine r_iload_n C dX7_alike_26 rfl rfl ?_
  refine ml_straws C dX7_alike_27 (vp_in_nI hj' (by decide)) ?_
  rw [nI_clamp (by omega), hs5']
  refine r_icmp_eq (tgt := 33) C dX7_alike_28 (by decide) (fun c28 => ?_) (fun c28 => absurd c28 ((fun q => q rfl)))
  refine r_aload_n C dX7_alike_33 rfl rfl ?_
  refine r_iload_n C dX7_alike_34 rfl rfl ?_
  refine r_iconst (v := 1) C dX7_alike_35 (by decide) ?_
  refine m_callv C (c_form G h ad (va_up M 0 0) R2 (T := 1) hj hp (by decide) (by omega)) kM_form dX7_alike_36 rfl (by decide) (by decide) (by decide) (by decide) rfl rfl (fun M2 R3 hq => ?_)
  rw [Nat.mul_one] at hq
  obtain ⟨n, first, B, hnf, hN19, hN20, hN0, hNM, hNP, hNSeq, hN22⟩ := hq.get
  refine r_aload_n C dX7_alike_39 rfl rfl ?_
  refine r_aload_n C dX7_alike_40 rfl rfl ?_
  refine mg_perms C dX7_alike_41 ?_
  refine mp_keptPerms C dX7_alike_44 ?_
  refine r_aload_n C dX7_alike_47 rfl rfl ?_
  refine r_aload_n C dX7_alike_48 rfl rfl ?_
  refine mg_power C dX7_alike_49 ?_
  refine mp_keptPower C dX7_alike_52 ?_
  refine r_iconst (v := 0) C dX7_alike_55 (by decide) ?_
  refine r_istore_n C dX7_alike_56 rfl (by decide) ?_
  skip
  have q := mid n first B (va_up (va_up M2 23 (M2 19)) 24 (M2 20)) R3 hnf (((hS0.tr hNM).up (by omega)).up (by omega)) hNP hN0 hN19 hN19 hN20 hNSeq (n - first) 0 (R3 22) (by omega) (fun q hq => by omega)
  rw [up_same rfl] at q
  exact V.keep [true, true, true, true, true] q
end M20
