/-! the reference: levels, useOf -/
def near (a b : Nat) : Prop := a < b + 2 ∧ b < a + 2
theorem sub_ge2 {a b : Nat} (ha : a < 2 ^ 30) (hb : b < 2 ^ 30) : (2 : Int32) ≤ nI a - nI b ↔ b + 2 ≤ a := by
  rw [Int32.le_iff_toInt_le, pk_sub_toInt ha hb]
  have : (2 : Int32).toInt = 2 := rfl
  omega
def lvIn (lv : Nat → Nat) (c : Nat → Int32) (i : Nat) : Nat → Nat
  | 0 => 1
  | h + 1 => if (ai (c h) < i + 2 ∧ i < ai (c h) + 2) ∧ lvIn lv c i h ≤ lv h then lv h + 1 else lvIn lv c i h
def lvF (c : Nat → Int32) : Nat → Nat → Nat
  | 0 => fun _ => 0
  | j + 1 => fun q => if q = j then lvIn (lvF c j) c (ai (c j)) j else lvF c j q
def lvMost (c : Nat → Int32) : Nat → Nat
  | 0 => 0
  | j + 1 => max (lvMost c j) (lvIn (lvF c j) c (ai (c j)) j)
theorem lvIn_le {lv : Nat → Nat} {c : Nat → Int32} {i : Nat} : ∀ h, (∀ q, q < h → lv q ≤ q + 1) → lvIn lv c i h ≤ h + 1
  | 0, _ => Nat.le_refl _
  | h + 1, hq => by
    have ih := lvIn_le (c := c) (i := i) h (fun q hq' => hq q (by omega))
    have h1 := hq h (by omega)
    unfold lvIn
    split <;> omega
theorem lvF_le {c : Nat → Int32} : ∀ j q, q < j → lvF c j q ≤ q + 1
  | 0, q, h => by omega
  | j + 1, q, h => by
    unfold lvF
    split
    · next e => rw [e]; exact lvIn_le j (fun q' hq' => lvF_le j q' hq')
    · exact lvF_le j q (by omega)
theorem lvMost_le {c : Nat → Int32} : ∀ j, lvMost c j ≤ j
  | 0 => Nat.le_refl _
  | j + 1 => by
    have ih := lvMost_le (c := c) j
    have h1 := lvIn_le (c := c) (i := ai (c j)) j (fun q' hq' => lvF_le (c := c) j q' hq')
    unfold lvMost
    omega
/-- whether a straw at x lies over, under, at a crossing -/
def isOv (x : Nat) (c : Int32) : Prop := (x = ai c ∧ 0 < c) ∨ (x = ai c + 1 ∧ ¬ 0 < c)
def isUn (x : Nat) (c : Int32) : Prop := (x = ai c ∧ ¬ 0 < c) ∨ (x = ai c + 1 ∧ 0 < c)
noncomputable def sd (x : Nat) (c : Int32) : Nat := @ite _ (isOv x c) (Classical.propDecidable _) 1 (@ite _ (isUn x c) (Classical.propDecidable _) 2 0)
theorem sd_ov {x : Nat} {c : Int32} (h : isOv x c) : sd x c = 1 := by unfold sd; rw [if_pos h]
theorem sd_un {x : Nat} {c : Int32} (h : isUn x c) : sd x c = 2 := by
  unfold sd
  rw [if_neg, if_pos h]
  intro q
  rcases h with ⟨a, b⟩ | ⟨a, b⟩ <;> rcases q with ⟨e, f⟩ | ⟨e, f⟩ <;> first | exact absurd f b | exact absurd b f | omega
theorem sd_no {x : Nat} {c : Int32} (h1 : x ≠ ai c) (h2 : x ≠ ai c + 1) : sd x c = 0 := by
  unfold sd
  rw [if_neg, if_neg]
  · intro q
    rcases q with q | q
    · exact h1 q.1
    · exact h2 q.1
  · intro q
    rcases q with q | q
    · exact h1 q.1
    · exact h2 q.1
noncomputable def usF (c : Nat → Int32) (p : Nat) : Nat → Nat
  | 0 => 0
  | z + 1 => usF c p z + if sd (gT c z p) (c z) = 1 then 1 else 0
theorem usF_le {c : Nat → Int32} {p : Nat} : ∀ z, usF c p z ≤ z
  | 0 => Nat.le_refl _
  | z + 1 => by
    have ih := usF_le (c := c) (p := p) z
    unfold usF
    split <;> omega
section M7
variable (G : Gx) (h : Nat) (ad : Nat → Nat) (M : Mt) (R : Rt)
theorem c_levels {j s z : Nat} (hj : j < 8) (hp : PatOK R j s z) : mI G h ad yX7_levels cX7_levels 7 .int 0 [.int (nI j)] M R (fun r M' R' => r = nI (lvMost (rowOf R j) z) ∧ M' = M ∧ ∃ P, R' = va_up R 27 P) := by
  refine mI.intro (by decide) (Nat.le_of_ble_eq_true rfl) (cat1 (xs := [nI j])) fun X C hR => ?_
  obtain ⟨hs5, hs2, hs7, hz, hz3, hok⟩ := hp
  obtain ⟨c, hc⟩ : ∃ c, c = rowOf R j := ⟨_, rfl⟩
  have hrow : ∀ (i : Nat) (P : Nat → Int32), va_up R 27 P 7 (300 * j + i) = c i := fun i P => by rw [hc]; rfl
  rw [← hc] at hok hR
  have key : ∀ (f i : Nat) (P : Nat → Int32), i + f = z → (∀ q, q < i → P q = nI (lvF c i q)) → V X 0 0 4 [some (.ref h), some (.int (nI j)), some (.int (nI (lvMost c i))), some (.int (nI i)), none, none, none] [] (mW G h ad M (va_up R 27 P)) := by
    intro f
    induction f with
    | zero =>
      intro i P hi hP
      have hiz : i = z := by omega
      subst hiz
      refine r_iload_n C dX7_levels_4 rfl rfl ?_
      refine r_aload_n C dX7_levels_5 rfl rfl ?_
      refine mg_sizes C dX7_levels_6 ?_
      refine r_iload_n C dX7_levels_9 rfl rfl ?_
      refine ml_sizes C dX7_levels_10 (vp_in_nI hj (by decide)) ?_
      rw [nI_clamp (by omega)]
      show V X 0 0 11 _ [.int (R 6 j), .int (nI i)] _
      rw [hz]
      refine r_icmp_ge (tgt := 171) C dX7_levels_11 (by decide) (fun c11 => ?_) (fun c11 => absurd c11 ((fun q => q (nI_le (by omega) (by omega)))))
      refine r_iload_n C dX7_levels_171 rfl rfl ?_
      exact hR _ _ _ _ _ rfl dX7_levels_172 ⟨rfl, rfl, P, rfl⟩
    | succ f ih =>
      intro i P hi hP
      obtain ⟨i0, hi1, hi2, hci⟩ := hok i (by omega)
      have hai : ai (c i) = i0 := by rcases hci with hci | hci <;> rw [hci] <;> first | exact ai_nI (by omega) | exact ai_neg (by omega)
      have hmost := lvMost_le (c := c) i
      have j144 : ∀ (P' : Nat → Int32) (o5 o6 : Option Value), (∀ q, q < i → P' q = nI (lvF c i q)) → P' i = nI (lvIn (lvF c i) c i0 i) → V X 0 0 144 [some (.ref h), some (.int (nI j)), some (.int (nI (lvMost c i))), some (.int (nI i)), some (.int (nI i0)), o5, o6] [] (mW G h ad M (va_up R 27 P')) := by
        intro P' o5 o6 hP1 hP2
        have hle := lvIn_le (c := c) (i := i0) i (fun q' hq' => lvF_le (c := c) i q' hq')
        have nx := ih (i + 1) P' (by omega) (fun q hq => by
          show _ = nI (if q = i then lvIn (lvF c i) c (ai (c i)) i else lvF c i q)
          split
          · next e => rw [e, hai]; exact hP2
          · exact hP1 q (by omega))
        have hm : lvMost c (i + 1) = max (lvMost c i) (lvIn (lvF c i) c i0 i) := by show max _ (lvIn _ _ (ai (c i)) _) = _; rw [hai]
        rw [hm] at nx
        refine r_aload_n C dX7_levels_144 rfl rfl ?_
        refine mg_level C dX7_levels_145 ?_
        refine r_iload_n C dX7_levels_148 rfl rfl ?_
        refine ml_level C dX7_levels_149 (vp_in_nI (show i < 300 by omega) (by decide)) ?_
        rw [nI_clamp (by omega)]
        show V X 0 0 150 _ [.int (P' i)] _
        rw [hP2]
        refine r_iload_n C dX7_levels_150 rfl rfl ?_
        refine r_icmp_le (tgt := 163) C dX7_levels_151 (by decide) (fun c151 => ?_) (fun c151 => ?_)
        · rw [nI_leI (by omega) (by omega)] at c151
          refine r_iload_n C dX7_levels_163 rfl rfl ?_
          refine r_istore_n C dX7_levels_164 rfl (by decide) ?_
          refine r_iinc (v := _ + 1) C dX7_levels_165 rfl (by rfl) (by decide) ?_
          rw [nI_1]
          refine r_goto (tgt := 4) C dX7_levels_168 (by decide) ?_
          exact V.keep [true, true, true, true, false, false, false] (by first | (rw [Nat.max_eq_right (by omega)] at nx; exact nx) | (rw [Nat.max_eq_left (by omega)] at nx; exact nx))
        · rw [nI_leI (by omega) (by omega)] at c151
          refine r_aload_n C dX7_levels_154 rfl rfl ?_
          refine mg_level C dX7_levels_155 ?_
          refine r_iload_n C dX7_levels_158 rfl rfl ?_
          refine ml_level C dX7_levels_159 (vp_in_nI (show i < 300 by omega) (by decide)) ?_
          rw [nI_clamp (by omega)]
          show V X 0 0 160 _ [.int (P' i)] _
          rw [hP2]
          refine r_goto (tgt := 164) C dX7_levels_160 (by decide) ?_
          refine r_istore_n C dX7_levels_164 rfl (by decide) ?_
          refine r_iinc (v := _ + 1) C dX7_levels_165 rfl (by rfl) (by decide) ?_
          rw [nI_1]
          refine r_goto (tgt := 4) C dX7_levels_168 (by decide) ?_
          exact V.keep [true, true, true, true, false, false, false] (by first | (rw [Nat.max_eq_right (by omega)] at nx; exact nx) | (rw [Nat.max_eq_left (by omega)] at nx; exact nx))
      have inner : ∀ (f' hh : Nat) (P' : Nat → Int32) (o6 : Option Value), hh + f' = i → (∀ q, q < i → P' q = nI (lvF c i q)) → P' i = nI (lvIn (lvF c i) c i0 hh) → V X 0 0 53 [some (.ref h), some (.int (nI j)), some (.int (nI (lvMost c i))), some (.int (nI i)), some (.int (nI i0)), some (.int (nI hh)), o6] [] (mW G h ad M (va_up R 27 P')) := by
        intro f'
        induction f' with
        | zero =>
          intro hh P' o6 hf hP1 hP2
          have hhi : hh = i := by omega
          subst hhi
          refine r_iload C dX7_levels_53 rfl ?_
          refine r_iload_n C dX7_levels_55 rfl rfl ?_
          refine r_icmp_ge (tgt := 144) C dX7_levels_56 (by decide) (fun c56 => ?_) (fun c56 => absurd c56 ((fun q => q (nI_le (by omega) (by omega)))))
          exact j144 P' _ _ hP1 hP2
        | succ f' ih' =>
          intro hh P' o6 hf hP1 hP2
          obtain ⟨g0, hg1, hg2, hcg⟩ := hok hh (by omega)
          have hag : ai (c hh) = g0 := by rcases hcg with hcg | hcg <;> rw [hcg] <;> first | exact ai_nI (by omega) | exact ai_neg (by omega)
          have hle := lvIn_le (c := c) (i := i0) hh (fun q' hq' => lvF_le (c := c) i q' (by omega))
          have hle2 := lvF_le (c := c) i hh (by omega)
          have hst : lvIn (lvF c i) c i0 (hh + 1) = if (g0 < i0 + 2 ∧ i0 < g0 + 2) ∧ lvIn (lvF c i) c i0 hh ≤ lvF c i hh then lvF c i hh + 1 else lvIn (lvF c i) c i0 hh := by
            show (if (ai (c hh) < i0 + 2 ∧ i0 < ai (c hh) + 2) ∧ _ then _ else _) = _
            rw [hag]
          have j138 : ∀ o, ¬ ((g0 < i0 + 2 ∧ i0 < g0 + 2) ∧ lvIn (lvF c i) c i0 hh ≤ lvF c i hh) → V X 0 0 138 [some (.ref h), some (.int (nI j)), some (.int (nI (lvMost c i))), some (.int (nI i)), some (.int (nI i0)), some (.int (nI hh)), o] [] (mW G h ad M (va_up R 27 P')) := by
            intro o hno
            rw [if_neg hno] at hst
            refine r_iinc (v := _ + 1) C dX7_levels_138 rfl (by rfl) (by decide) ?_
            rw [nI_1]
            refine r_goto (tgt := 53) C dX7_levels_141 (by decide) ?_
            exact ih' (hh + 1) P' _ (by omega) hP1 (by rw [hst]; exact hP2)
          have j138b : ∀ o, lvIn (lvF c i) c i0 (hh + 1) = lvF c i hh + 1 → V X 0 0 138 [some (.ref h), some (.int (nI j)), some (.int (nI (lvMost c i))), some (.int (nI i)), some (.int (nI i0)), some (.int (nI hh)), o] [] (mW G h ad M (va_up R 27 (upd P' i (nI (lvF c i hh + 1))))) := by
            intro o hst
            refine r_iinc (v := _ + 1) C dX7_levels_138 rfl (by rfl) (by decide) ?_
            rw [nI_1]
            refine r_goto (tgt := 53) C dX7_levels_141 (by decide) ?_
            exact ih' (hh + 1) (upd P' i (nI (lvF c i hh + 1))) _ (by omega) (fun q hq => by rw [pk_un (by omega)]; exact hP1 q hq) (by rw [hst, pk_us])
          have j89 : V X 0 0 89 [some (.ref h), some (.int (nI j)), some (.int (nI (lvMost c i))), some (.int (nI i)), some (.int (nI i0)), some (.int (nI hh)), some (.int (nI g0))] [] (mW G h ad M (va_up R 27 P')) := by
            refine r_iload C dX7_levels_89 rfl ?_
            refine r_iload C dX7_levels_91 rfl ?_
            refine r_isub C dX7_levels_93 ?_
            refine r_iconst (v := 2) C dX7_levels_94 (by decide) ?_
            refine r_icmp_ge (tgt := 138) C dX7_levels_95 (by decide) (fun c95 => ?_) (fun c95 => ?_)
            · first
                | exact j138 _ (fun q => by rw [sub_ge2 (by omega) (by omega)] at c95; omega)
                | exact j138 _ (fun q => by rw [sub_ge2 (by omega) (by omega)] at c104; omega)
                | exact j138 _ (fun q => by rw [nI_ltI (by omega) (by omega)] at c120; omega)
                | (rw [nI_clamp (by omega)]; show V X 0 0 138 _ _ (mW G h ad M (va_up (va_up R 27 P') 27 (upd P' i (nI (lvF c i hh + 1))))); rw [up_up]; exact j138b _ hst)
            · rw [sub_ge2 (by omega) (by omega)] at c95
              refine r_iload C dX7_levels_98 rfl ?_
              refine r_iload C dX7_levels_100 rfl ?_
              refine r_isub C dX7_levels_102 ?_
              refine r_iconst (v := 2) C dX7_levels_103 (by decide) ?_
              refine r_icmp_ge (tgt := 138) C dX7_levels_104 (by decide) (fun c104 => ?_) (fun c104 => ?_)
              · first
                  | exact j138 _ (fun q => by rw [sub_ge2 (by omega) (by omega)] at c95; omega)
                  | exact j138 _ (fun q => by rw [sub_ge2 (by omega) (by omega)] at c104; omega)
                  | exact j138 _ (fun q => by rw [nI_ltI (by omega) (by omega)] at c120; omega)
                  | (rw [nI_clamp (by omega)]; show V X 0 0 138 _ _ (mW G h ad M (va_up (va_up R 27 P') 27 (upd P' i (nI (lvF c i hh + 1))))); rw [up_up]; exact j138b _ hst)
              · rw [sub_ge2 (by omega) (by omega)] at c104
                refine r_aload_n C dX7_levels_107 rfl rfl ?_
                refine mg_level C dX7_levels_108 ?_
                refine r_iload C dX7_levels_111 rfl ?_
                refine ml_level C dX7_levels_113 (vp_in_nI (show hh < 300 by omega) (by decide)) ?_
                rw [nI_clamp (by omega)]
                show V X 0 0 114 _ [.int (P' hh)] _
                rw [hP1 hh (by omega)]
                refine r_aload_n C dX7_levels_114 rfl rfl ?_
                refine mg_level C dX7_levels_115 ?_
                refine r_iload_n C dX7_levels_118 rfl rfl ?_
                refine ml_level C dX7_levels_119 (vp_in_nI (show i < 300 by omega) (by decide)) ?_
                rw [nI_clamp (by omega)]
                show V X 0 0 120 _ [.int (P' i), .int _] _
                rw [hP2]
                refine r_icmp_lt (tgt := 138) C dX7_levels_120 (by decide) (fun c120 => ?_) (fun c120 => ?_)
                · first
                    | exact j138 _ (fun q => by rw [sub_ge2 (by omega) (by omega)] at c95; omega)
                    | exact j138 _ (fun q => by rw [sub_ge2 (by omega) (by omega)] at c104; omega)
                    | exact j138 _ (fun q => by rw [nI_ltI (by omega) (by omega)] at c120; omega)
                    | (rw [nI_clamp (by omega)]; show V X 0 0 138 _ _ (mW G h ad M (va_up (va_up R 27 P') 27 (upd P' i (nI (lvF c i hh + 1))))); rw [up_up]; exact j138b _ hst)
                · rw [nI_ltI (by omega) (by omega)] at c120
                  rw [if_pos ⟨⟨by omega, by omega⟩, by omega⟩] at hst
                  refine r_aload_n C dX7_levels_123 rfl rfl ?_
                  refine mg_level C dX7_levels_124 ?_
                  refine r_iload_n C dX7_levels_127 rfl rfl ?_
                  refine r_aload_n C dX7_levels_128 rfl rfl ?_
                  refine mg_level C dX7_levels_129 ?_
                  refine r_iload C dX7_levels_132 rfl ?_
                  refine ml_level C dX7_levels_134 (vp_in_nI (show hh < 300 by omega) (by decide)) ?_
                  rw [nI_clamp (by omega)]
                  show V X 0 0 135 _ [.int (P' hh), .int _, .ref _] _
                  rw [hP1 hh (by omega)]
                  refine r_iconst (v := 1) C dX7_levels_135 (by decide) ?_
                  refine r_iadd C dX7_levels_136 ?_
                  rw [nI_1]
                  refine ms_level C dX7_levels_137 (vp_in_nI (show i < 300 by omega) (by decide)) ?_
                  first
                    | exact j138 _ (fun q => by rw [sub_ge2 (by omega) (by omega)] at c95; omega)
                    | exact j138 _ (fun q => by rw [sub_ge2 (by omega) (by omega)] at c104; omega)
                    | exact j138 _ (fun q => by rw [nI_ltI (by omega) (by omega)] at c120; omega)
                    | (rw [nI_clamp (by omega)]; show V X 0 0 138 _ _ (mW G h ad M (va_up (va_up R 27 P') 27 (upd P' i (nI (lvF c i hh + 1))))); rw [up_up]; exact j138b _ hst)
          refine r_iload C dX7_levels_53 rfl ?_
          refine r_iload_n C dX7_levels_55 rfl rfl ?_
          refine r_icmp_ge (tgt := 144) C dX7_levels_56 (by decide) (fun c56 => absurd c56 ((nI_ge (by omega) (by omega)))) (fun c56 => ?_)
          refine r_aload_n C dX7_levels_59 rfl rfl ?_
          refine mg_rows C dX7_levels_60 ?_
          refine r_sipush (v := 300) C dX7_levels_63 (by decide) ?_
          refine r_iload_n C dX7_levels_66 rfl rfl ?_
          refine r_imul C dX7_levels_67 ?_
          refine r_iload C dX7_levels_68 rfl ?_
          refine r_iadd C dX7_levels_70 ?_
          show V X 0 0 71 _ [.int (nI 300 * nI j + nI hh), .ref (ad 7)] _
          rw [pk_mul, nI_add]
          refine ml_rows C dX7_levels_71 (vp_in_nI (show 300 * j + hh < 2400 by omega) (by decide)) ?_
          rw [nI_clamp (by omega), hrow]
          rcases hcg with hcg | hcg <;> rw [hcg]
          · refine r_istore C dX7_levels_72 (by decide) ?_
            refine r_iload C dX7_levels_74 rfl ?_
            refine r_if_ge (tgt := 85) C dX7_levels_76 (by decide) (fun c76 => ?_) (fun c76 => absurd c76 ((fun q => q (nI_pos' (by omega)))))
            refine r_iload C dX7_levels_85 rfl ?_
            refine r_istore C dX7_levels_87 (by decide) ?_
            exact j89
          · refine r_istore C dX7_levels_72 (by decide) ?_
            refine r_iload C dX7_levels_74 rfl ?_
            refine r_if_ge (tgt := 85) C dX7_levels_76 (by decide) (fun c76 => absurd c76 ((Int32.not_le.mpr (neg_lt0 hg1 (by omega))))) (fun c76 => ?_)
            refine r_iload C dX7_levels_79 rfl ?_
            refine r_ineg C dX7_levels_81 ?_
            refine r_goto (tgt := 87) C dX7_levels_82 (by decide) ?_
            rw [Int32.neg_neg]
            refine r_istore C dX7_levels_87 (by decide) ?_
            exact j89
      have j43 : V X 0 0 43 [some (.ref h), some (.int (nI j)), some (.int (nI (lvMost c i))), some (.int (nI i)), some (.int (nI i0)), none, none] [] (mW G h ad M (va_up R 27 P)) := by
        refine r_aload_n C dX7_levels_43 rfl rfl ?_
        refine mg_level C dX7_levels_44 ?_
        refine r_iload_n C dX7_levels_47 rfl rfl ?_
        refine r_iconst (v := 1) C dX7_levels_48 (by decide) ?_
        refine ms_level C dX7_levels_49 (vp_in_nI (show i < 300 by omega) (by decide)) ?_
        rw [nI_clamp (by omega)]
        show V X 0 0 50 _ _ (mW G h ad M (va_up (va_up R 27 P) 27 (upd P i 1)))
        rw [up_up]
        refine r_iconst (v := 0) C dX7_levels_50 (by decide) ?_
        refine r_istore C dX7_levels_51 (by decide) ?_
        exact inner i 0 (upd P i 1) _ (by omega) (fun q hq => by rw [pk_un (by omega)]; exact hP q hq) (by rw [pk_us]; rfl)
      refine r_iload_n C dX7_levels_4 rfl rfl ?_
      refine r_aload_n C dX7_levels_5 rfl rfl ?_
      refine mg_sizes C dX7_levels_6 ?_
      refine r_iload_n C dX7_levels_9 rfl rfl ?_
      refine ml_sizes C dX7_levels_10 (vp_in_nI hj (by decide)) ?_
      rw [nI_clamp (by omega)]
      show V X 0 0 11 _ [.int (R 6 j), .int (nI i)] _
      rw [hz]
      refine r_icmp_ge (tgt := 171) C dX7_levels_11 (by decide) (fun c11 => absurd c11 ((nI_ge (by omega) (by omega)))) (fun c11 => ?_)
      refine r_aload_n C dX7_levels_14 rfl rfl ?_
      refine mg_rows C dX7_levels_15 ?_
      refine r_sipush (v := 300) C dX7_levels_18 (by decide) ?_
      refine r_iload_n C dX7_levels_21 rfl rfl ?_
      refine r_imul C dX7_levels_22 ?_
      refine r_iload_n C dX7_levels_23 rfl rfl ?_
      refine r_iadd C dX7_levels_24 ?_
      show V X 0 0 25 _ [.int (nI 300 * nI j + nI i), .ref (ad 7)] _
      rw [pk_mul, nI_add]
      refine ml_rows C dX7_levels_25 (vp_in_nI (show 300 * j + i < 2400 by omega) (by decide)) ?_
      rw [nI_clamp (by omega), hrow]
      rcases hci with hci | hci <;> rw [hci]
      · refine r_istore C dX7_levels_26 (by decide) ?_
        refine r_iload C dX7_levels_28 rfl ?_
        refine r_if_ge (tgt := 39) C dX7_levels_30 (by decide) (fun c30 => ?_) (fun c30 => absurd c30 ((fun q => q (nI_pos' (by omega)))))
        refine r_iload C dX7_levels_39 rfl ?_
        refine r_istore C dX7_levels_41 (by decide) ?_
        exact j43
      · refine r_istore C dX7_levels_26 (by decide) ?_
        refine r_iload C dX7_levels_28 rfl ?_
        refine r_if_ge (tgt := 39) C dX7_levels_30 (by decide) (fun c30 => absurd c30 ((Int32.not_le.mpr (neg_lt0 hi1 (by omega))))) (fun c30 => ?_)
        refine r_iload C dX7_levels_33 rfl ?_
        refine r_ineg C dX7_levels_35 ?_
        refine r_goto (tgt := 41) C dX7_levels_36 (by decide) ?_
        rw [Int32.neg_neg]
        refine r_istore C dX7_levels_41 (by decide) ?_
        exact j43
  have q0 := key z 0 (R 27) (by omega) (fun q hq => by omega)
  rw [up_same rfl] at q0
  refine r_iconst (v := 0) C dX7_levels_0 (by decide) ?_
  refine r_istore_n C dX7_levels_1 rfl (by decide) ?_
  refine r_iconst (v := 0) C dX7_levels_2 (by decide) ?_
  refine r_istore_n C dX7_levels_3 rfl (by decide) ?_
  exact q0
end M7
