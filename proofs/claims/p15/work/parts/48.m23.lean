/-! the reference: closes -/
def tnC (n : Nat) (c : Int32) : Int32 := if 0 < c then nI n - c else -nI n - c
theorem ok_neg {s : Nat} {c : Int32} (h : okC s c) : okC s (-c) := by
  obtain ⟨i, h1, h2, rfl | rfl⟩ := h
  · exact ⟨i, h1, h2, Or.inr rfl⟩
  · exact ⟨i, h1, h2, Or.inl Int32.neg_neg⟩
theorem ok_tn {s : Nat} {c : Int32} (hs : s ≤ 7) (h : okC s c) : okC s (tnC s c) := by
  obtain ⟨i, h1, h2, rfl | rfl⟩ := h
  · unfold tnC
    rw [if_pos (pos_nI h1 (by omega)), pk_sub (by omega)]
    exact ⟨s - i, by omega, by omega, Or.inl rfl⟩
  · unfold tnC
    rw [if_neg (neg_npos h1 (by omega))]
    refine ⟨s - i, by omega, by omega, Or.inr ?_⟩
    rw [← pk_sub (show i ≤ s by omega), Int32.neg_sub, Int32.sub_eq_add_neg, Int32.neg_neg, Int32.add_comm, ← Int32.sub_eq_add_neg]
/-- a part closed: made again, undone, mirrored, turned -/
def clR (n kind : Nat) (row : Nat → Int32) (fm own : Nat) : Nat → Int32 := fun i =>
  if i < fm then row i else if kind < 100 then row (fm + (i - fm) % own) else if kind = 117 then -row (fm + (own - 1 - (i - fm))) else if kind = 109 then -row i else tnC n (row i)
def clN (kind fm own : Nat) : Nat := if kind < 100 then fm + own * kind else fm + own
theorem clR_ok {n kind fm own : Nat} {row : Nat → Int32} (hn : n ≤ 7) (h : ∀ i, i < fm + own → okC n (row i)) : ∀ i, i < clN kind fm own → okC n (clR n kind row fm own i) := by
  intro i hi
  unfold clN at hi
  unfold clR
  by_cases e1 : i < fm
  · rw [if_pos e1]; exact h i (by omega)
  · rw [if_neg e1]
    by_cases e2 : kind < 100
    · rw [if_pos e2]
      rw [if_pos e2] at hi
      have hown : 0 < own := by
        rcases Nat.eq_zero_or_pos own with q | q
        · rw [q, Nat.zero_mul] at hi; omega
        · exact q
      have := Nat.mod_lt (i - fm) hown
      exact h _ (by omega)
    · rw [if_neg e2]
      rw [if_neg e2] at hi
      by_cases e3 : kind = 117
      · rw [if_pos e3]; exact ok_neg (h _ (by omega))
      · rw [if_neg e3]
        by_cases e4 : kind = 109
        · rw [if_pos e4]; exact ok_neg (h i hi)
        · rw [if_neg e4]; exact ok_tn hn (h i hi)
section M23
variable (G : Gx) (h : Nat) (ad : Nat → Nat) (M : Mt) (R : Rt)
theorem c_closes {e n a mny dp : Nat} {row : Nat → Int32} {kd fr : Nat → Nat} (hS : RdS M R e n a mny dp row kd fr) (hae : a < e) : mI G h ad yX7_closes cX7_closes 6 .boolean 1 [] M R (fun r M' R' => RdM M M' ∧ RdR R R' ∧ ((dp = 0 ∧ r = 0 ∧ M' 3 = 1 ∧ M' 4 = nI a ∧ M' 8 = nI e ∧ M' 9 = nI a) ∨ (0 < dp ∧ kd (dp - 1) < 100 ∧ 300 < fr (dp - 1) + (mny - fr (dp - 1)) * kd (dp - 1) ∧ r = 0 ∧ M' 3 = 2 ∧ M' 4 = nI a ∧ M' 8 = nI e ∧ M' 9 = nI a) ∨ (0 < dp ∧ clN (kd (dp - 1)) (fr (dp - 1)) (mny - fr (dp - 1)) ≤ 300 ∧ r = 1 ∧ RdS M' R' e n (a + 1) (clN (kd (dp - 1)) (fr (dp - 1)) (mny - fr (dp - 1))) (dp - 1) (clR n (kd (dp - 1)) row (fr (dp - 1)) (mny - fr (dp - 1))) kd fr))) := by
  refine mI.intro (by decide) (Nat.le_of_ble_eq_true rfl) (cat1 (xs := [])) fun X C hR => ?_
  obtain ⟨h8, h9, h10, h12, h15, h3, h4, he, ha, hn2, hn7, hm3, hd8, hrow, hbr⟩ := id hS
  by_cases hd0 : dp = 0
  · subst hd0
    refine r_aload_n C dX7_closes_0 rfl rfl ?_
    refine mg_deep C dX7_closes_1 ?_
    rw [h15]
    refine r_if_ne (tgt := 17) C dX7_closes_4 (by decide) (fun c4 => absurd c4 ((fun q => q rfl))) (fun c4 => ?_)
    refine r_aload_n C dX7_closes_7 rfl rfl ?_
    refine r_iconst (v := 1) C dX7_closes_8 (by decide) ?_
    refine r_aload_n C dX7_closes_9 rfl rfl ?_
    refine mg_at C dX7_closes_10 ?_
    refine m_calli C (c_wrong G h ad M R 1 (M 9)) kM_wrong dX7_closes_13 rfl (by decide) (by decide) (by decide) (by decide) rfl rfl (fun r M1 R1 hq => ?_)
    obtain ⟨rfl, rfl, rfl⟩ := hq
    rw [if_pos h3]
    exact hR _ _ _ _ _ rfl dX7_closes_16 ⟨(RdM.rf.up (by omega)).up (by omega), RdR.rf, Or.inl ⟨rfl, rfl, rfl, h9, h8, h9⟩⟩
  obtain ⟨dq, rfl⟩ : ∃ q, dp = q + 1 := ⟨dp - 1, by omega⟩
  rw [Nat.add_sub_cancel] at hR
  obtain ⟨hb1, hb2, hb3, hb4⟩ := hbr dq (by omega)
  obtain ⟨kind, hkind⟩ : ∃ q, q = kd dq := ⟨_, rfl⟩
  obtain ⟨fm, hfm⟩ : ∃ q, q = fr dq := ⟨_, rfl⟩
  rw [← hkind] at hb1 hb2 hR
  rw [← hfm] at hb3 hb4 hR
  obtain ⟨own, rfl⟩ : ∃ q, mny = fm + q := ⟨mny - fm, by omega⟩
  rw [Nat.add_sub_cancel_left] at hR
  have hkk : kind ≤ 117 := by rcases hb2 with q | q | q | q <;> omega
  -- the end: row P is the closed one
  have fin : ∀ (M' : Mt) (P : Nat → Int32), M' = va_up (va_up (va_up M 15 (nI dq)) 9 (nI (a + 1))) 12 (nI (clN kind fm own)) → clN kind fm own ≤ 300 → (∀ i, i < clN kind fm own → P i = clR n kind row fm own i) → RdM M M' ∧ RdR R (va_up R 11 P) ∧ RdS M' (va_up R 11 P) e n (a + 1) (clN kind fm own) dq (clR n kind row fm own) kd fr := by
    intro M' P hM' hle hP
    subst hM'
    have hge : fm + own ≤ clN kind fm own := by
      unfold clN
      split
      · have : 1 ≤ kind := by rcases hb2 with q | q | q | q <;> omega
        have := Nat.mul_le_mul (Nat.le_refl own) this
        omega
      · exact Nat.le_refl _
    exact ⟨((RdM.rf.up (by omega)).up (by omega)).up (by omega), RdR.rf.up (by omega), h8, rfl, h10, rfl, rfl, h3, h4, he, by omega, hn2, hn7, hle, by omega, fun i hi => ⟨hP i hi, clR_ok hn7 (fun q hq => (hrow q hq).2) i hi⟩, fun i hi => by
      obtain ⟨w1, w2, w3, w4⟩ := hbr i (by omega)
      exact ⟨w1, w2, w3, by omega⟩⟩
  have e9 : nI (dq + 1) - 1 = nI dq := nI_pred dq
  have c100 : (100 : Int32) = nI 100 := rfl
  have M1e : ∀ P : Nat → Int32, kind < 100 → fm + own * kind ≤ 300 → (∀ i, i < fm + own * kind → P i = clR n kind row fm own i) → V X 0 0 138 [some (.ref h), some (.int (nI kind)), some (.int (nI fm)), some (.int (nI own)), none, none] [] (mW G h ad (va_up (va_up M 15 (nI dq)) 9 (nI (a + 1))) (va_up R 11 P)) := by
    intro P hk hle hP
    have hcl : clN kind fm own = fm + own * kind := by unfold clN; rw [if_pos hk]
    obtain ⟨f1, f2, f3⟩ := fin _ P rfl (by omega) (fun i hi => hP i (by omega))
    refine r_aload_n C dX7_closes_138 rfl rfl ?_
    refine r_iload_n C dX7_closes_139 rfl rfl ?_
    refine r_iload_n C dX7_closes_140 rfl rfl ?_
    refine r_iload_n C dX7_closes_141 rfl rfl ?_
    refine r_imul C dX7_closes_142 ?_
    refine r_iadd C dX7_closes_143 ?_
    rw [pk_mul, nI_add, ← hcl]
    refine mp_many C dX7_closes_144 ?_
    refine r_iconst (v := 1) C dX7_closes_147 (by decide) ?_
    exact hR _ _ _ _ _ rfl dX7_closes_148 ⟨f1, f2, Or.inr (Or.inr ⟨by omega, by omega, rfl, f3⟩)⟩
  have kA : kind < 100 → fm + own * kind ≤ 300 → ∀ (f k : Nat) (P : Nat → Int32), k + f = own * kind → own ≤ k → (∀ i, i < fm + k → P i = clR n kind row fm own i) → V X 0 0 104 [some (.ref h), some (.int (nI kind)), some (.int (nI fm)), some (.int (nI own)), some (.int (nI k)), none] [] (mW G h ad (va_up (va_up M 15 (nI dq)) 9 (nI (a + 1))) (va_up R 11 P)) := by
    intro hk hle f
    induction f with
    | zero =>
      intro k P hkf hko hP
      refine r_iload C dX7_closes_104 rfl ?_
      refine r_iload_n C dX7_closes_106 rfl rfl ?_
      refine r_iload_n C dX7_closes_107 rfl rfl ?_
      refine r_imul C dX7_closes_108 ?_
      rw [pk_mul]
      refine r_icmp_ge (tgt := 138) C dX7_closes_109 (by decide) (fun c109 => ?_) (fun c109 => absurd c109 ((fun q => q (nI_le (by omega) (by omega)))))
      exact V.keep [true, true, true, true, false, false] (M1e P hk hle (fun i hi => hP i (by omega)))
    | succ f ih =>
      intro k P hkf hko hP
      have hown : 0 < own := by
        rcases Nat.eq_zero_or_pos own with q | q
        · rw [q, Nat.zero_mul] at hkf; omega
        · exact q
      have hval : P (fm + k - own) = clR n kind row fm own (fm + k) := by
        rw [hP _ (by omega)]
        unfold clR
        rw [if_neg (show ¬ fm + k - own < fm by omega), if_pos hk, if_neg (show ¬ fm + k < fm by omega), if_pos hk, show fm + k - own - fm = k - own by omega, show fm + k - fm = k by omega, Nat.mod_eq_sub_mod hko]
      refine r_iload C dX7_closes_104 rfl ?_
      refine r_iload_n C dX7_closes_106 rfl rfl ?_
      refine r_iload_n C dX7_closes_107 rfl rfl ?_
      refine r_imul C dX7_closes_108 ?_
      rw [pk_mul]
      refine r_icmp_ge (tgt := 138) C dX7_closes_109 (by decide) (fun c109 => absurd c109 ((nI_ge (by omega) (by omega)))) (fun c109 => ?_)
      refine r_aload_n C dX7_closes_112 rfl rfl ?_
      refine mg_made C dX7_closes_113 ?_
      refine r_iload_n C dX7_closes_116 rfl rfl ?_
      refine r_iload C dX7_closes_117 rfl ?_
      refine r_iadd C dX7_closes_119 ?_
      refine r_aload_n C dX7_closes_120 rfl rfl ?_
      refine mg_made C dX7_closes_121 ?_
      refine r_iload_n C dX7_closes_124 rfl rfl ?_
      refine r_iload C dX7_closes_125 rfl ?_
      refine r_iadd C dX7_closes_127 ?_
      refine r_iload_n C dX7_closes_128 rfl rfl ?_
      refine r_isub C dX7_closes_129 ?_
      rw [nI_add, pk_sub (by omega)]
      refine ml_made C dX7_closes_130 (vp_in_nI (show fm + k - own < 300 by omega) (by decide)) ?_
      rw [nI_clamp (by omega)]
      show V X 0 0 131 _ (.int (P (fm + k - own)) :: _) _
      rw [hval]
      refine ms_made C dX7_closes_131 (vp_in_nI (show fm + k < 300 by omega) (by decide)) ?_
      rw [nI_clamp (by omega)]
      show V X 0 0 132 _ _ (mW G h ad _ (va_up (va_up R 11 P) 11 (upd P (fm + k) _)))
      rw [up_up]
      refine r_iinc (v := _ + 1) C dX7_closes_132 rfl (by rfl) (by decide) ?_
      rw [nI_1]
      refine r_goto (tgt := 104) C dX7_closes_135 (by decide) ?_
      exact ih (k + 1) _ (by omega) (by omega) (fun i hi => by
        by_cases q : i = fm + k
        · subst q; exact pk_us
        · rw [pk_un q]; exact hP i (by omega))
  -- undone, mirrored, turned: as long as it was
  have j300 : ∀ (P : Nat → Int32) (o4 o5 : Option Value), ¬ kind < 100 → (∀ i, i < fm + own → P i = clR n kind row fm own i) → V X 0 0 300 [some (.ref h), some (.int (nI kind)), some (.int (nI fm)), some (.int (nI own)), o4, o5] [] (mW G h ad (va_up (va_up M 15 (nI dq)) 9 (nI (a + 1))) (va_up R 11 P)) := by
    intro P o4 o5 hk hP
    have hcl : clN kind fm own = fm + own := by unfold clN; rw [if_neg hk]
    obtain ⟨f1, f2, f3⟩ := fin _ P rfl (by omega) (fun i hi => hP i (by omega))
    have e12 : va_up (va_up (va_up M 15 (nI dq)) 9 (nI (a + 1))) 12 (nI (clN kind fm own)) = va_up (va_up M 15 (nI dq)) 9 (nI (a + 1)) := up_same (by rw [hcl]; exact h12)
    rw [e12] at f1 f3
    refine r_iconst (v := 1) C dX7_closes_300 (by decide) ?_
    exact hR _ _ _ _ _ rfl dX7_closes_301 ⟨f1, f2, Or.inr (Or.inr ⟨by omega, by omega, rfl, f3⟩)⟩
  have kC : kind = 117 → ∀ (f k : Nat) (P : Nat → Int32) (o5 : Option Value), own - 2 * k ≤ f → 2 * k ≤ own + 1 → (∀ i, i < fm → P i = row i) → (∀ q, q < k → q < own → P (fm + q) = -row (fm + (own - 1 - q)) ∧ P (fm + (own - 1 - q)) = -row (fm + q)) → (∀ q, k ≤ q → q + k < own → P (fm + q) = row (fm + q)) → V X 0 0 228 [some (.ref h), some (.int (nI kind)), some (.int (nI fm)), some (.int (nI own)), some (.int (nI k)), o5] [] (mW G h ad (va_up (va_up M 15 (nI dq)) 9 (nI (a + 1))) (va_up R 11 P)) := by
    intro hk f
    have hcl : ∀ (k : Nat) (P : Nat → Int32), own ≤ 2 * k → 2 * k ≤ own + 1 → (∀ i, i < fm → P i = row i) → (∀ q, q < k → q < own → P (fm + q) = -row (fm + (own - 1 - q)) ∧ P (fm + (own - 1 - q)) = -row (fm + q)) → ∀ i, i < fm + own → P i = clR n kind row fm own i := by
      intro k P w1 w2 w3 w4 i hi
      unfold clR
      by_cases e1 : i < fm
      · rw [if_pos e1]; exact w3 i e1
      · rw [if_neg e1, if_neg (by omega), if_pos hk]
        obtain ⟨q, rfl⟩ : ∃ q, i = fm + q := ⟨i - fm, by omega⟩
        rw [Nat.add_sub_cancel_left]
        by_cases e2 : q < k
        · exact (w4 q e2 (by omega)).1
        · have := (w4 (own - 1 - q) (by omega) (by omega)).2
          rw [show own - 1 - (own - 1 - q) = q by omega] at this
          exact this
    induction f with
    | zero =>
      intro k P o5 hf h2k q1 q2 q3
      refine r_iconst (v := 2) C dX7_closes_228 (by decide) ?_
      refine r_iload C dX7_closes_229 rfl ?_
      refine r_imul C dX7_closes_231 ?_
      rw [show (2 : Int32) = nI 2 from rfl, pk_mul]
      refine r_iload_n C dX7_closes_232 rfl rfl ?_
      refine r_icmp_ge (tgt := 300) C dX7_closes_233 (by decide) (fun c233 => ?_) (fun c233 => absurd c233 ((fun q => q (nI_le (by omega) (by omega)))))
      exact j300 P _ _ (by omega) (hcl k P (by omega) h2k q1 q2)
    | succ f ih =>
      intro k P o5 hf h2k q1 q2 q3
      by_cases hlt : 2 * k < own
      rotate_left
      · refine r_iconst (v := 2) C dX7_closes_228 (by decide) ?_
        refine r_iload C dX7_closes_229 rfl ?_
        refine r_imul C dX7_closes_231 ?_
        rw [show (2 : Int32) = nI 2 from rfl, pk_mul]
        refine r_iload_n C dX7_closes_232 rfl rfl ?_
        refine r_icmp_ge (tgt := 300) C dX7_closes_233 (by decide) (fun c233 => ?_) (fun c233 => absurd c233 ((fun q => q (nI_le (by omega) (by omega)))))
        exact j300 P _ _ (by omega) (hcl k P (by omega) h2k q1 q2)
      have v1 := q3 k (Nat.le_refl _) (by omega)
      have v2 := q3 (own - 1 - k) (by omega) (by omega)
      refine r_iconst (v := 2) C dX7_closes_228 (by decide) ?_
      refine r_iload C dX7_closes_229 rfl ?_
      refine r_imul C dX7_closes_231 ?_
      rw [show (2 : Int32) = nI 2 from rfl, pk_mul]
      refine r_iload_n C dX7_closes_232 rfl rfl ?_
      refine r_icmp_ge (tgt := 300) C dX7_closes_233 (by decide) (fun c233 => absurd c233 ((nI_ge (by omega) (by omega)))) (fun c233 => ?_)
      refine r_iload_n C dX7_closes_236 rfl rfl ?_
      refine r_bipush (v := 117) C dX7_closes_237 (by decide) ?_
      refine r_icmp_ne (tgt := 300) C dX7_closes_239 (by decide) (fun c239 => absurd c239 ((fun q => q (by rw [hk]; rfl)))) (fun c239 => ?_)
      refine r_aload_n C dX7_closes_242 rfl rfl ?_
      refine mg_made C dX7_closes_243 ?_
      refine r_iload_n C dX7_closes_246 rfl rfl ?_
      refine r_iload C dX7_closes_247 rfl ?_
      refine r_iadd C dX7_closes_249 ?_
      rw [nI_add]
      refine ml_made C dX7_closes_250 (vp_in_nI (show fm + k < 300 by omega) (by decide)) ?_
      rw [nI_clamp (by omega)]
      show V X 0 0 251 _ [.int (P (fm + k))] _
      rw [v1]
      refine r_istore C dX7_closes_251 (by decide) ?_
      refine r_aload_n C dX7_closes_253 rfl rfl ?_
      refine mg_made C dX7_closes_254 ?_
      refine r_iload_n C dX7_closes_257 rfl rfl ?_
      refine r_iload C dX7_closes_258 rfl ?_
      refine r_iadd C dX7_closes_260 ?_
      refine r_aload_n C dX7_closes_261 rfl rfl ?_
      refine mg_made C dX7_closes_262 ?_
      refine r_aload_n C dX7_closes_265 rfl rfl ?_
      refine mg_many C dX7_closes_266 ?_
      refine r_iconst (v := 1) C dX7_closes_269 (by decide) ?_
      refine r_isub C dX7_closes_270 ?_
      refine r_iload C dX7_closes_271 rfl ?_
      refine r_isub C dX7_closes_273 ?_
      show V X 0 0 274 _ [.int (M 12 - nI 1 - nI k), .ref _, .int (nI fm + nI k), .ref _] _
      rw [h12, pk_sub (by omega), pk_sub (by omega), nI_add, show fm + own - 1 - k = fm + (own - 1 - k) by omega]
      refine ml_made C dX7_closes_274 (vp_in_nI (show fm + (own - 1 - k) < 300 by omega) (by decide)) ?_
      rw [nI_clamp (by omega)]
      show V X 0 0 275 _ (.int (P (fm + (own - 1 - k))) :: _) _
      rw [v2]
      refine r_ineg C dX7_closes_275 ?_
      refine ms_made C dX7_closes_276 (vp_in_nI (show fm + k < 300 by omega) (by decide)) ?_
      rw [nI_clamp (by omega)]
      show V X 0 0 277 _ _ (mW G h ad _ (va_up (va_up R 11 P) 11 (upd P (fm + k) (-row (fm + (own - 1 - k))))))
      rw [up_up]
      refine r_aload_n C dX7_closes_277 rfl rfl ?_
      refine mg_made C dX7_closes_278 ?_
      refine r_aload_n C dX7_closes_281 rfl rfl ?_
      refine mg_many C dX7_closes_282 ?_
      refine r_iconst (v := 1) C dX7_closes_285 (by decide) ?_
      refine r_isub C dX7_closes_286 ?_
      refine r_iload C dX7_closes_287 rfl ?_
      refine r_isub C dX7_closes_289 ?_
      refine r_iload C dX7_closes_290 rfl ?_
      refine r_ineg C dX7_closes_292 ?_
      show V X 0 0 293 _ [.int _, .int (M 12 - nI 1 - nI k), .ref _] _
      rw [h12, pk_sub (by omega), pk_sub (by omega), show fm + own - 1 - k = fm + (own - 1 - k) by omega]
      refine ms_made C dX7_closes_293 (vp_in_nI (show fm + (own - 1 - k) < 300 by omega) (by decide)) ?_
      rw [nI_clamp (by omega)]
      show V X 0 0 294 _ _ (mW G h ad _ (va_up (va_up R 11 _) 11 (upd (upd P (fm + k) (-row (fm + (own - 1 - k)))) (fm + (own - 1 - k)) (-row (fm + k)))))
      rw [up_up]
      refine r_iinc (v := _ + 1) C dX7_closes_294 rfl (by rfl) (by decide) ?_
      rw [nI_1]
      refine r_goto (tgt := 228) C dX7_closes_297 (by decide) ?_
      exact ih (k + 1) _ _ (by omega) (by omega) (fun i hi => by rw [pk_un (by omega), pk_un (by omega)]; exact q1 i hi) (fun q hq hqo => by
        by_cases e1 : q = k
        · subst e1
          refine ⟨?_, pk_us⟩
          by_cases e2 : own - 1 - q = q
          · rw [e2, pk_us]
          · rw [pk_un (by omega), pk_us]
        · have w := q2 q (by omega) hqo
          rw [pk_un (by omega), pk_un (by omega), pk_un (by omega), pk_un (by omega)]
          exact w) (fun q w1 w2 => by rw [pk_un (by omega), pk_un (by omega)]; exact q3 q (by omega) (by omega))
  have kB : ¬ kind < 100 → kind ≠ 117 → ∀ (f k : Nat) (P : Nat → Int32) (o5 : Option Value), k + f = own → (∀ i, i < fm + k → P i = clR n kind row fm own i) → (∀ i, fm + k ≤ i → i < fm + own → P i = row i) → V X 0 0 152 [some (.ref h), some (.int (nI kind)), some (.int (nI fm)), some (.int (nI own)), some (.int (nI k)), o5] [] (mW G h ad (va_up (va_up M 15 (nI dq)) 9 (nI (a + 1))) (va_up R 11 P)) := by
    intro hk hk2 f
    have e117 : ¬ nI kind = 117 := fun q => hk2 ((nI_eq (b := 117) (by omega) (by decide)).mp q)
    induction f with
    | zero =>
      intro k P o5 hkf hP hP2
      refine r_iload C dX7_closes_152 rfl ?_
      refine r_iload_n C dX7_closes_154 rfl rfl ?_
      refine r_icmp_ge (tgt := 225) C dX7_closes_155 (by decide) (fun c155 => ?_) (fun c155 => absurd c155 ((fun q => q (nI_le (by omega) (by omega)))))
      refine r_iconst (v := 0) C dX7_closes_225 (by decide) ?_
      refine r_istore C dX7_closes_226 (by decide) ?_
      refine r_iconst (v := 2) C dX7_closes_228 (by decide) ?_
      refine r_iload C dX7_closes_229 rfl ?_
      refine r_imul C dX7_closes_231 ?_
      rw [show (2 : Int32) = nI 2 from rfl]
      refine r_iload_n C dX7_closes_232 rfl rfl ?_
      refine r_icmp_ge (tgt := 300) C dX7_closes_233 (by decide) (fun c233 => ?_) (fun c233 => ?_)
      · exact j300 P _ _ hk (fun i hi => hP i (by omega))
      · refine r_iload_n C dX7_closes_236 rfl rfl ?_
        refine r_bipush (v := 117) C dX7_closes_237 (by decide) ?_
        refine r_icmp_ne (tgt := 300) C dX7_closes_239 (by decide) (fun c239 => ?_) (fun c239 => absurd c239 ((fun q => e117 q)))
        exact j300 P _ _ hk (fun i hi => hP i (by omega))
    | succ f ih =>
      intro k P o5 hkf hP hP2
      have v1 := hP2 (fm + k) (Nat.le_refl _) (by omega)
      have hclv : clR n kind row fm own (fm + k) = if kind = 109 then -row (fm + k) else tnC n (row (fm + k)) := by
        unfold clR
        rw [if_neg (by omega), if_neg hk, if_neg hk2]
      have nx : ∀ v : Int32, v = clR n kind row fm own (fm + k) → V X 0 0 218 [some (.ref h), some (.int (nI kind)), some (.int (nI fm)), some (.int (nI own)), some (.int (nI k)), some (.int (row (fm + k)))] [.int v, .int (nI (fm + k)), .ref (ad 11)] (mW G h ad (va_up (va_up M 15 (nI dq)) 9 (nI (a + 1))) (va_up R 11 P)) := by
        intro v hv
        refine ms_made C dX7_closes_218 (vp_in_nI (show fm + k < 300 by omega) (by decide)) ?_
        rw [nI_clamp (by omega)]
        show V X 0 0 219 _ _ (mW G h ad _ (va_up (va_up R 11 P) 11 (upd P (fm + k) v)))
        rw [up_up]
        refine r_iinc (v := _ + 1) C dX7_closes_219 rfl (by rfl) (by decide) ?_
        rw [nI_1]
        refine r_goto (tgt := 152) C dX7_closes_222 (by decide) ?_
        exact ih (k + 1) _ _ (by omega) (fun i hi => by
          by_cases q : i = fm + k
          · subst q; rw [pk_us]; exact hv
          · rw [pk_un q]; exact hP i (by omega)) (fun i w1 w2 => by rw [pk_un (by omega)]; exact hP2 i (by omega) w2)
      refine r_iload C dX7_closes_152 rfl ?_
      refine r_iload_n C dX7_closes_154 rfl rfl ?_
      refine r_icmp_ge (tgt := 225) C dX7_closes_155 (by decide) (fun c155 => absurd c155 ((nI_ge (by omega) (by omega)))) (fun c155 => ?_)
      refine r_iload_n C dX7_closes_158 rfl rfl ?_
      refine r_bipush (v := 117) C dX7_closes_159 (by decide) ?_
      refine r_icmp_eq (tgt := 225) C dX7_closes_161 (by decide) (fun c161 => absurd c161 (e117)) (fun c161 => ?_)
      refine r_aload_n C dX7_closes_164 rfl rfl ?_
      refine mg_made C dX7_closes_165 ?_
      refine r_iload_n C dX7_closes_168 rfl rfl ?_
      refine r_iload C dX7_closes_169 rfl ?_
      refine r_iadd C dX7_closes_171 ?_
      rw [nI_add]
      refine ml_made C dX7_closes_172 (vp_in_nI (show fm + k < 300 by omega) (by decide)) ?_
      rw [nI_clamp (by omega)]
      show V X 0 0 173 _ [.int (P (fm + k))] _
      rw [v1]
      refine r_istore C dX7_closes_173 (by decide) ?_
      refine r_aload_n C dX7_closes_175 rfl rfl ?_
      refine mg_made C dX7_closes_176 ?_
      refine r_iload_n C dX7_closes_179 rfl rfl ?_
      refine r_iload C dX7_closes_180 rfl ?_
      refine r_iadd C dX7_closes_182 ?_
      rw [nI_add]
      refine r_iload_n C dX7_closes_183 rfl rfl ?_
      refine r_bipush (v := 109) C dX7_closes_184 (by decide) ?_
      refine r_icmp_ne (tgt := 195) C dX7_closes_186 (by decide) (fun c186 => ?_) (fun c186 => ?_)
      · have k109 : kind ≠ 109 := fun q => c186 (by rw [q]; rfl)
        refine r_iload C dX7_closes_195 rfl ?_
        refine r_if_le (tgt := 210) C dX7_closes_197 (by decide) (fun c197 => ?_) (fun c197 => ?_)
        · refine r_aload_n C dX7_closes_210 rfl rfl ?_
          refine mg_n C dX7_closes_211 ?_
          show V X 0 0 214 _ (.int (M 10) :: _) _
          rw [h10]
          refine r_ineg C dX7_closes_214 ?_
          refine r_iload C dX7_closes_215 rfl ?_
          refine r_isub C dX7_closes_217 ?_
          first
            | exact nx _ (by rw [hclv, if_pos k109])
            | exact nx _ (by rw [hclv, if_neg k109]; unfold tnC; rw [if_pos (Int32.not_le.mp c197)])
            | exact nx _ (by rw [hclv, if_neg k109]; unfold tnC; rw [if_neg (Int32.not_lt.mpr c197)])
        · refine r_aload_n C dX7_closes_200 rfl rfl ?_
          refine mg_n C dX7_closes_201 ?_
          show V X 0 0 204 _ (.int (M 10) :: _) _
          rw [h10]
          refine r_iload C dX7_closes_204 rfl ?_
          refine r_isub C dX7_closes_206 ?_
          refine r_goto (tgt := 218) C dX7_closes_207 (by decide) ?_
          first
            | exact nx _ (by rw [hclv, if_pos k109])
            | exact nx _ (by rw [hclv, if_neg k109]; unfold tnC; rw [if_pos (Int32.not_le.mp c197)])
            | exact nx _ (by rw [hclv, if_neg k109]; unfold tnC; rw [if_neg (Int32.not_lt.mpr c197)])
      · have k109 : kind = 109 := (nI_eq (b := 109) (by omega) (by decide)).mp c186
        refine r_iload C dX7_closes_189 rfl ?_
        refine r_ineg C dX7_closes_191 ?_
        refine r_goto (tgt := 218) C dX7_closes_192 (by decide) ?_
        first
          | exact nx _ (by rw [hclv, if_pos k109])
          | exact nx _ (by rw [hclv, if_neg k109]; unfold tnC; rw [if_pos (Int32.not_le.mp c197)])
          | exact nx _ (by rw [hclv, if_neg k109]; unfold tnC; rw [if_neg (Int32.not_lt.mpr c197)])
  have hcl0 : ∀ i, i < fm → R 11 i = clR n kind row fm own i := fun i hi => by
    unfold clR
    rw [if_pos hi]
    exact (hrow i (by omega)).1
  have hsame : va_up R 11 (R 11) = R := up_same rfl
  have hd1 : vp_in (M 15 - 1) 9 := by rw [h15, e9]; exact vp_in_nI (show dq < 9 by omega) (by decide)
  have hcl9 : (M 15 - 1).toNatClampNeg = dq := by rw [h15, e9, nI_clamp (by omega)]
  have j75 : (kind < 100 → fm + own * kind ≤ 300) → V X 0 0 75 [some (.ref h), some (.int (nI kind)), some (.int (nI fm)), some (.int (nI own)), none, none] [] (mW G h ad M R) := by
    intro hle
    refine r_aload_n C dX7_closes_75 rfl rfl ?_
    refine r_dup C dX7_closes_76 rfl ?_
    refine mg_deep C dX7_closes_77 ?_
    refine r_iconst (v := 1) C dX7_closes_80 (by decide) ?_
    refine r_isub C dX7_closes_81 ?_
    rw [h15, e9]
    refine mp_deep C dX7_closes_82 ?_
    refine r_aload_n C dX7_closes_85 rfl rfl ?_
    refine r_dup C dX7_closes_86 rfl ?_
    refine mg_at C dX7_closes_87 ?_
    refine r_iconst (v := 1) C dX7_closes_90 (by decide) ?_
    refine r_iadd C dX7_closes_91 ?_
    show V X 0 0 92 _ [.int (M 9 + 1), .ref h] _
    rw [h9, nI_1]
    refine mp_at C dX7_closes_92 ?_
    refine r_iload_n C dX7_closes_95 rfl rfl ?_
    refine r_bipush (v := 100) C dX7_closes_96 (by decide) ?_
    refine r_icmp_ge (tgt := 149) C dX7_closes_98 (by decide) (fun c98 => ?_) (fun c98 => ?_)
    · rw [c100, nI_leI (by omega) (by omega)] at c98
      refine r_iconst (v := 0) C dX7_closes_149 (by decide) ?_
      refine r_istore C dX7_closes_150 (by decide) ?_
      exact (by
        by_cases w : kind = 117
        · have q := kC w (own + 1) 0 (R 11) none (by omega) (by omega) (fun i hi => (hrow i (by omega)).1) (fun q hq => by omega) (fun q _ hq => (hrow _ (by omega)).1)
          rw [hsame] at q
          have e117 : nI kind = 117 := by rw [w]; rfl
          by_cases o0 : own = 0
          · refine r_iload C dX7_closes_152 rfl ?_
            refine r_iload_n C dX7_closes_154 rfl rfl ?_
            refine r_icmp_ge (tgt := 225) C dX7_closes_155 (by decide) (fun _ => ?_) (fun c => absurd (show nI own ≤ 0 by rw [o0]; decide) c)
            refine r_iconst (v := 0) C dX7_closes_225 (by decide) ?_
            refine r_istore C dX7_closes_226 (by decide) ?_
            exact q
          · refine r_iload C dX7_closes_152 rfl ?_
            refine r_iload_n C dX7_closes_154 rfl rfl ?_
            refine r_icmp_ge (tgt := 225) C dX7_closes_155 (by decide) (fun c => absurd c (nI_nle (by omega) (by omega))) (fun _ => ?_)
            refine r_iload_n C dX7_closes_158 rfl rfl ?_
            refine r_bipush (v := 117) C dX7_closes_159 (by decide) ?_
            refine r_icmp_eq (tgt := 225) C dX7_closes_161 (by decide) (fun _ => ?_) (fun c => absurd e117 c)
            refine r_iconst (v := 0) C dX7_closes_225 (by decide) ?_
            refine r_istore C dX7_closes_226 (by decide) ?_
            exact q
        · have q := kB (by omega) w own 0 (R 11) none (by omega) (fun i hi => hcl0 i (by omega)) (fun i _ hi => (hrow i hi).1)
          rw [hsame] at q
          exact q)
    · rw [c100, nI_leI (by omega) (by omega)] at c98
      refine r_iload_n C dX7_closes_101 rfl rfl ?_
      refine r_istore C dX7_closes_102 (by decide) ?_
      exact (by
        have q := kA (by omega) (hle (by omega)) (own * kind - own) own (R 11) (by
          have : 1 ≤ kind := by rcases hb2 with q | q | q | q <;> omega
          have := Nat.mul_le_mul (Nat.le_refl own) this
          omega) (Nat.le_refl _) (fun i hi => by
          by_cases w : i < fm
          · exact hcl0 i w
          · unfold clR
            rw [if_neg w, if_pos (by omega), Nat.mod_eq_of_lt (by omega), show fm + (i - fm) = i by omega]
            exact (hrow i hi).1)
        rw [hsame] at q
        exact q)
  refine r_aload_n C dX7_closes_0 rfl rfl ?_
  refine mg_deep C dX7_closes_1 ?_
  rw [h15]
  refine r_if_ne (tgt := 17) C dX7_closes_4 (by decide) (fun c4 => ?_) (fun c4 => absurd c4 ((nI_ne0 (by omega) (by omega))))
  refine r_aload_n C dX7_closes_17 rfl rfl ?_
  refine mg_openKind C dX7_closes_18 ?_
  refine r_aload_n C dX7_closes_21 rfl rfl ?_
  refine mg_deep C dX7_closes_22 ?_
  refine r_iconst (v := 1) C dX7_closes_25 (by decide) ?_
  refine r_isub C dX7_closes_26 ?_
  refine ml_openKind C dX7_closes_27 (hd1) ?_
  rw [hcl9, hb1]
  refine r_istore_n C dX7_closes_28 rfl (by decide) ?_
  refine r_aload_n C dX7_closes_29 rfl rfl ?_
  refine mg_openFrom C dX7_closes_30 ?_
  refine r_aload_n C dX7_closes_33 rfl rfl ?_
  refine mg_deep C dX7_closes_34 ?_
  refine r_iconst (v := 1) C dX7_closes_37 (by decide) ?_
  refine r_isub C dX7_closes_38 ?_
  refine ml_openFrom C dX7_closes_39 (hd1) ?_
  rw [hcl9, hb3]
  refine r_istore_n C dX7_closes_40 rfl (by decide) ?_
  refine r_aload_n C dX7_closes_41 rfl rfl ?_
  refine mg_many C dX7_closes_42 ?_
  refine r_iload_n C dX7_closes_45 rfl rfl ?_
  refine r_isub C dX7_closes_46 ?_
  show V X 0 0 47 _ [.int (M 12 - nI fm)] _
  rw [h12, pk_sub (by omega), Nat.add_sub_cancel_left]
  refine r_istore_n C dX7_closes_47 rfl (by decide) ?_
  refine r_iload_n C dX7_closes_48 rfl rfl ?_
  refine r_bipush (v := 100) C dX7_closes_49 (by decide) ?_
  refine r_icmp_ge (tgt := 75) C dX7_closes_51 (by decide) (fun c51 => ?_) (fun c51 => ?_)
  · first
      | exact j75 (fun _ => by
          have hb : own * kind ≤ 300 * 50 := Nat.mul_le_mul (by omega) (by rcases hb2 with q | q | q | q <;> omega)
          rw [nI_leI (by omega) (by omega)] at c62
          exact c62)
      | exact j75 (fun w => by rw [c100, nI_leI (by omega) (by omega)] at c51; omega)
  · rw [c100, nI_leI (by omega) (by omega)] at c51
    refine r_iload_n C dX7_closes_54 rfl rfl ?_
    refine r_iload_n C dX7_closes_55 rfl rfl ?_
    refine r_iload_n C dX7_closes_56 rfl rfl ?_
    refine r_imul C dX7_closes_57 ?_
    refine r_iadd C dX7_closes_58 ?_
    refine r_sipush (v := 300) C dX7_closes_59 (by decide) ?_
    rw [pk_mul, nI_add, show (300 : Int32) = nI 300 from rfl]
    refine r_icmp_le (tgt := 75) C dX7_closes_62 (by decide) (fun c62 => ?_) (fun c62 => ?_)
    · first
        | exact j75 (fun _ => by
            have hb : own * kind ≤ 300 * 50 := Nat.mul_le_mul (by omega) (by rcases hb2 with q | q | q | q <;> omega)
            rw [nI_leI (by omega) (by omega)] at c62
            exact c62)
        | exact j75 (fun w => by rw [c100, nI_leI (by omega) (by omega)] at c51; omega)
    · have hbo : own * kind ≤ 300 * 50 := Nat.mul_le_mul (by omega) (by rcases hb2 with q | q | q | q <;> omega)
      rw [nI_leI (by omega) (by omega)] at c62
      refine r_aload_n C dX7_closes_65 rfl rfl ?_
      refine r_iconst (v := 2) C dX7_closes_66 (by decide) ?_
      refine r_aload_n C dX7_closes_67 rfl rfl ?_
      refine mg_at C dX7_closes_68 ?_
      refine m_calli C (c_wrong G h ad M R 2 (M 9)) kM_wrong dX7_closes_71 rfl (by decide) (by decide) (by decide) (by decide) rfl rfl (fun r M1 R1 hq => ?_)
      obtain ⟨rfl, rfl, rfl⟩ := hq
      rw [if_pos h3]
      exact hR _ _ _ _ _ rfl dX7_closes_74 ⟨(RdM.rf.up (by omega)).up (by omega), RdR.rf, Or.inr (Or.inl ⟨by omega, by omega, by omega, rfl, rfl, h9, h8, h9⟩)⟩
end M23
