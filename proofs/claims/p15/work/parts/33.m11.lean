/-! the reference: goes, use, twine -/
section M11
variable (G : Gx) (h : Nat) (ad : Nat → Nat) (M : Mt) (R : Rt)
/-- every pattern that is there is sound -/
def PatsOK (R : Rt) : Prop := ∀ j, j < 8 → 0 < R 5 j → ∃ s z, PatOK R j s z
theorem isPat_at {R : Rt} {k : Int32} (h : isPat R k) (hp : PatsOK R) : ∃ j s z, j < 8 ∧ k = nI j ∧ PatOK R j s z := by
  obtain ⟨j, hj, rfl, h0⟩ := h
  obtain ⟨s, z, q⟩ := hp j hj h0
  exact ⟨j, s, z, hj, rfl, q⟩
theorem c_goes (kk pp : Int32) (hP : PatsOK R) : mI G h ad yX7_goes cX7_goes 3 .int 2 [.int kk, .int pp] M R (fun r M' R' => R' = R ∧ ((∃ j s z p, j < 8 ∧ kk = nI j ∧ PatOK R j s z ∧ 1 ≤ p ∧ p ≤ s ∧ pp = nI p ∧ r = nI (gT (rowOf R j) z p) ∧ M' = va_up M 0 0) ∨ ((¬ isPat R kk ∨ ∃ j s z, j < 8 ∧ kk = nI j ∧ PatOK R j s z ∧ ∀ p : Nat, 1 ≤ p → p ≤ s → pp ≠ nI p) ∧ r = 0 ∧ M' = va_up M 0 1))) := by
  refine mI.intro (by decide) (Nat.le_of_ble_eq_true rfl) (cat1 (xs := [kk, pp])) fun X C hR => ?_
  refine r_aload_n C dX7_goes_0 rfl rfl ?_
  refine r_iload_n C dX7_goes_1 rfl rfl ?_
  refine m_calli C (c_isPattern G h ad M R kk) kM_isPattern dX7_goes_2 rfl (by decide) (by decide) (by decide) (by decide) rfl rfl (fun r M1 R1 hq => ?_)
  obtain ⟨rfl, ⟨hpat, rfl, rfl⟩ | ⟨hpat, rfl, rfl⟩⟩ := hq
  · obtain ⟨j, s, z, hj, rfl, hp⟩ := isPat_at hpat hP
    refine r_if_eq (tgt := 26) C dX7_goes_5 (by decide) (fun c5 => absurd c5 ((by decide))) (fun c5 => ?_)
    refine r_aload_n C dX7_goes_8 rfl rfl ?_
    refine r_iload_n C dX7_goes_9 rfl rfl ?_
    refine r_iload_n C dX7_goes_10 rfl rfl ?_
    refine m_calli C (c_isPlace G h ad (va_up M 0 0) R1 (s := s) pp hj hp.1 hp.2.2.1 rfl) kM_isPlace dX7_goes_11 rfl (by decide) (by decide) (by decide) (by decide) rfl rfl (fun r M1 R2 hq => ?_)
    obtain ⟨rfl, ⟨p, hp1, hp2, rfl, rfl, rfl⟩ | ⟨hno, rfl, rfl⟩⟩ := hq
    · refine r_if_eq (tgt := 26) C dX7_goes_14 (by decide) (fun c14 => absurd c14 ((by decide))) (fun c14 => ?_)
      refine r_aload_n C dX7_goes_17 rfl rfl ?_
      refine r_iload_n C dX7_goes_18 rfl rfl ?_
      refine r_iload_n C dX7_goes_19 rfl rfl ?_
      refine m_calli C (c_goesTo G h ad (va_up M 0 0) R2 hj hp hp1 hp2) kM_goesTo dX7_goes_20 rfl (by decide) (by decide) (by decide) (by decide) rfl rfl (fun r M1 R3 hq => ?_)
      obtain ⟨rfl, rfl, rfl⟩ := hq
      refine r_goto (tgt := 27) C dX7_goes_23 (by decide) ?_
      exact hR _ _ _ _ _ rfl dX7_goes_27 ⟨rfl, Or.inl ⟨j, s, z, p, hj, rfl, hp, hp1, hp2, rfl, rfl, rfl⟩⟩
    · refine r_if_eq (tgt := 26) C dX7_goes_14 (by decide) (fun c14 => ?_) (fun c14 => absurd c14 ((fun q => q rfl)))
      refine r_iconst (v := 0) C dX7_goes_26 (by decide) ?_
      exact hR _ _ _ _ _ rfl dX7_goes_27 ⟨rfl, Or.inr ⟨Or.inr ⟨j, s, z, hj, rfl, hp, hno⟩, rfl, up_up⟩⟩
  · refine r_if_eq (tgt := 26) C dX7_goes_5 (by decide) (fun c5 => ?_) (fun c5 => absurd c5 ((fun q => q rfl)))
    refine r_iconst (v := 0) C dX7_goes_26 (by decide) ?_
    exact hR _ _ _ _ _ rfl dX7_goes_27 ⟨rfl, Or.inr ⟨Or.inl hpat, rfl, rfl⟩⟩
theorem c_use (kk pp : Int32) (hP : PatsOK R) : mI G h ad yX7_use cX7_use 3 .int 2 [.int kk, .int pp] M R (fun r M' R' => (∃ P, R' = va_up R 27 P) ∧ ((∃ j s z p, j < 8 ∧ kk = nI j ∧ PatOK R j s z ∧ 1 ≤ p ∧ p ≤ s ∧ pp = nI p ∧ r = nI (2 * lvMost (rowOf R j) z + usF (rowOf R j) p z) ∧ M' = va_up M 0 0) ∨ ((¬ isPat R kk ∨ ∃ j s z, j < 8 ∧ kk = nI j ∧ PatOK R j s z ∧ ∀ p : Nat, 1 ≤ p → p ≤ s → pp ≠ nI p) ∧ r = 0 ∧ M' = va_up M 0 1))) := by
  refine mI.intro (by decide) (Nat.le_of_ble_eq_true rfl) (cat1 (xs := [kk, pp])) fun X C hR => ?_
  have hsame : R = va_up R 27 (R 27) := (up_same rfl).symm
  refine r_aload_n C dX7_use_0 rfl rfl ?_
  refine r_iload_n C dX7_use_1 rfl rfl ?_
  refine m_calli C (c_isPattern G h ad M R kk) kM_isPattern dX7_use_2 rfl (by decide) (by decide) (by decide) (by decide) rfl rfl (fun r M1 R1 hq => ?_)
  obtain ⟨rfl, ⟨hpat, rfl, rfl⟩ | ⟨hpat, rfl, rfl⟩⟩ := hq
  · obtain ⟨j, s, z, hj, rfl, hp⟩ := isPat_at hpat hP
    refine r_if_eq (tgt := 26) C dX7_use_5 (by decide) (fun c5 => absurd c5 ((by decide))) (fun c5 => ?_)
    refine r_aload_n C dX7_use_8 rfl rfl ?_
    refine r_iload_n C dX7_use_9 rfl rfl ?_
    refine r_iload_n C dX7_use_10 rfl rfl ?_
    refine m_calli C (c_isPlace G h ad (va_up M 0 0) R1 (s := s) pp hj hp.1 hp.2.2.1 rfl) kM_isPlace dX7_use_11 rfl (by decide) (by decide) (by decide) (by decide) rfl rfl (fun r M1 R2 hq => ?_)
    obtain ⟨rfl, ⟨p, hp1, hp2, rfl, rfl, rfl⟩ | ⟨hno, rfl, rfl⟩⟩ := hq
    · refine r_if_eq (tgt := 26) C dX7_use_14 (by decide) (fun c14 => absurd c14 ((by decide))) (fun c14 => ?_)
      refine r_aload_n C dX7_use_17 rfl rfl ?_
      refine r_iload_n C dX7_use_18 rfl rfl ?_
      refine r_iload_n C dX7_use_19 rfl rfl ?_
      refine m_calli C (c_useOf G h ad (va_up M 0 0) R2 hj hp hp1 hp2) kM_useOf dX7_use_20 rfl (by decide) (by decide) (by decide) (by decide) rfl rfl (fun r M1 R3 hq => ?_)
      obtain ⟨rfl, rfl, P, rfl⟩ := hq
      refine r_goto (tgt := 27) C dX7_use_23 (by decide) ?_
      exact hR _ _ _ _ _ rfl dX7_use_27 ⟨⟨P, rfl⟩, Or.inl ⟨j, s, z, p, hj, rfl, hp, hp1, hp2, rfl, rfl, rfl⟩⟩
    · refine r_if_eq (tgt := 26) C dX7_use_14 (by decide) (fun c14 => ?_) (fun c14 => absurd c14 ((fun q => q rfl)))
      refine r_iconst (v := 0) C dX7_use_26 (by decide) ?_
      exact hR _ _ _ _ _ rfl dX7_use_27 ⟨⟨_, hsame⟩, Or.inr ⟨Or.inr ⟨j, s, z, hj, rfl, hp, hno⟩, rfl, up_up⟩⟩
  · refine r_if_eq (tgt := 26) C dX7_use_5 (by decide) (fun c5 => ?_) (fun c5 => absurd c5 ((fun q => q rfl)))
    refine r_iconst (v := 0) C dX7_use_26 (by decide) ?_
    exact hR _ _ _ _ _ rfl dX7_use_27 ⟨⟨_, hsame⟩, Or.inr ⟨Or.inl hpat, rfl, rfl⟩⟩
/-- what twine() answers, of a pattern and two places of it -/
def twAns (c : Nat → Int32) (z s a b : Nat) (r : Int32) : Prop := ∃ m, isHome (gT c z) s m ∧ m ≤ 420 ∧ r = (twt c z a b m).2.2
theorem c_twine (kk aa bb : Int32) (hP : PatsOK R) : mI G h ad yX7_twine cX7_twine 14 .int 2 [.int kk, .int aa, .int bb] M R (fun r M' R' => (∃ P, R' = va_up R 26 P) ∧ ((∃ j s z a b, j < 8 ∧ kk = nI j ∧ PatOK R j s z ∧ 1 ≤ a ∧ a ≤ s ∧ aa = nI a ∧ 1 ≤ b ∧ b ≤ s ∧ bb = nI b ∧ a ≠ b ∧ twAns (rowOf R j) z s a b r ∧ M' = va_up M 0 0) ∨ ((¬ isPat R kk ∨ ∃ j s z, j < 8 ∧ kk = nI j ∧ PatOK R j s z ∧ ∀ a b : Nat, 1 ≤ a → a ≤ s → 1 ≤ b → b ≤ s → a ≠ b → ¬ (aa = nI a ∧ bb = nI b)) ∧ r = 0 ∧ M' = va_up M 0 1))) := by
  refine mI.intro (by decide) (Nat.le_of_ble_eq_true rfl) (cat1 (xs := [kk, aa, bb])) fun X C hR => ?_
  have hsame : R = va_up R 26 (R 26) := (up_same rfl).symm
  refine r_aload_n C dX7_twine_0 rfl rfl ?_
  refine r_iload_n C dX7_twine_1 rfl rfl ?_
  refine m_calli C (c_isPattern G h ad M R kk) kM_isPattern dX7_twine_2 rfl (by decide) (by decide) (by decide) (by decide) rfl rfl (fun r M1 R1 hq => ?_)
  obtain ⟨rfl, ⟨hpat, rfl, rfl⟩ | ⟨hpat, rfl, rfl⟩⟩ := hq
  rotate_left
  · refine r_if_eq (tgt := 44) C dX7_twine_5 (by decide) (fun c5 => ?_) (fun c5 => absurd c5 ((fun q => q rfl)))
    refine r_iconst (v := 0) C dX7_twine_44 (by decide) ?_
    exact hR _ _ _ _ _ rfl dX7_twine_45 ⟨⟨_, hsame⟩, Or.inr ⟨Or.inl hpat, rfl, rfl⟩⟩
  obtain ⟨j, s, z, hj, rfl, hp⟩ := isPat_at hpat hP
  obtain ⟨hs5, hs2, hs7, hz, hz3, hok⟩ := id hp
  refine r_if_eq (tgt := 44) C dX7_twine_5 (by decide) (fun c5 => absurd c5 ((by decide))) (fun c5 => ?_)
  refine r_aload_n C dX7_twine_8 rfl rfl ?_
  refine r_iload_n C dX7_twine_9 rfl rfl ?_
  refine r_iload_n C dX7_twine_10 rfl rfl ?_
  refine m_calli C (c_isPlace G h ad (va_up M 0 0) R1 (s := s) aa hj hp.1 hp.2.2.1 rfl) kM_isPlace dX7_twine_11 rfl (by decide) (by decide) (by decide) (by decide) rfl rfl (fun r M1 R2 hq => ?_)
  obtain ⟨rfl, ⟨a, ha1, ha2, rfl, rfl, rfl⟩ | ⟨hno, rfl, rfl⟩⟩ := hq
  rotate_left
  · refine r_if_eq (tgt := 44) C dX7_twine_14 (by decide) (fun c14 => ?_) (fun c14 => absurd c14 ((fun q => q rfl)))
    refine r_iconst (v := 0) C dX7_twine_44 (by decide) ?_
    exact hR _ _ _ _ _ rfl dX7_twine_45 ⟨⟨_, hsame⟩, Or.inr ⟨Or.inr ⟨j, s, z, hj, rfl, hp, fun a b h1 h2 _ _ _ e => hno a h1 h2 e.1⟩, rfl, up_up⟩⟩
  refine r_if_eq (tgt := 44) C dX7_twine_14 (by decide) (fun c14 => absurd c14 ((by decide))) (fun c14 => ?_)
  refine r_aload_n C dX7_twine_17 rfl rfl ?_
  refine r_iload_n C dX7_twine_18 rfl rfl ?_
  refine r_iload_n C dX7_twine_19 rfl rfl ?_
  refine m_calli C (c_isPlace G h ad (va_up M 0 0) R2 (s := s) bb hj hp.1 hp.2.2.1 rfl) kM_isPlace dX7_twine_20 rfl (by decide) (by decide) (by decide) (by decide) rfl rfl (fun r M1 R3 hq => ?_)
  obtain ⟨rfl, ⟨b, hb1, hb2, rfl, rfl, rfl⟩ | ⟨hno, rfl, rfl⟩⟩ := hq
  rotate_left
  · refine r_if_eq (tgt := 44) C dX7_twine_23 (by decide) (fun c23 => ?_) (fun c23 => absurd c23 ((fun q => q rfl)))
    refine r_iconst (v := 0) C dX7_twine_44 (by decide) ?_
    exact hR _ _ _ _ _ rfl dX7_twine_45 ⟨⟨_, hsame⟩, Or.inr ⟨Or.inr ⟨j, s, z, hj, rfl, hp, fun a b _ _ h1 h2 _ e => hno b h1 h2 e.2⟩, rfl, up_up⟩⟩
  by_cases hab : a = b
  · subst hab
    refine r_if_eq (tgt := 44) C dX7_twine_23 (by decide) (fun c23 => absurd c23 ((by decide))) (fun c23 => ?_)
    refine r_aload_n C dX7_twine_26 rfl rfl ?_
    refine r_iload_n C dX7_twine_27 rfl rfl ?_
    refine r_iload_n C dX7_twine_28 rfl rfl ?_
    refine r_icmp_eq (tgt := 36) C dX7_twine_29 (by decide) (fun c29 => ?_) (fun c29 => absurd c29 ((fun q => q rfl)))
    refine r_iconst (v := 0) C dX7_twine_36 (by decide) ?_
    refine r_iconst (v := 1) C dX7_twine_37 (by decide) ?_
    refine m_calli C (c_right0 G h ad _ _ 1 (by decide) rfl) kM_right dX7_twine_38 rfl (by decide) (by decide) (by decide) (by decide) rfl rfl (fun r M1 R4 hp => ?_)
    obtain ⟨rfl, rfl, rfl⟩ := hp
    refine r_if_ne (tgt := 46) C dX7_twine_41 (by decide) (fun c41 => absurd c41 ((fun q => q rfl))) (fun c41 => ?_)
    refine r_iconst (v := 0) C dX7_twine_44 (by decide) ?_
    exact hR _ _ _ _ _ rfl dX7_twine_45 ⟨⟨_, hsame⟩, Or.inr ⟨Or.inr ⟨j, s, z, hj, rfl, hp, fun a' b' h1 h2 h3 h4 h5 e => by
      have e1 := (nI_eq (by omega) (by omega)).mp e.1
      have e2 := (nI_eq (by omega) (by omega)).mp e.2
      omega⟩, rfl, up_up⟩⟩
  obtain ⟨c, hc⟩ : ∃ c, c = rowOf R3 j := ⟨_, rfl⟩
  rw [← hc] at hok
  refine r_if_eq (tgt := 44) C dX7_twine_23 (by decide) (fun c23 => absurd c23 ((by decide))) (fun c23 => ?_)
  refine r_aload_n C dX7_twine_26 rfl rfl ?_
  refine r_iload_n C dX7_twine_27 rfl rfl ?_
  refine r_iload_n C dX7_twine_28 rfl rfl ?_
  refine r_icmp_eq (tgt := 36) C dX7_twine_29 (by decide) (fun c29 => absurd c29 ((fun e => hab ((nI_eq (by omega) (by omega)).mp e)))) (fun c29 => ?_)
  refine r_iconst (v := 1) C dX7_twine_32 (by decide) ?_
  refine r_goto (tgt := 37) C dX7_twine_33 (by decide) ?_
  refine r_iconst (v := 1) C dX7_twine_37 (by decide) ?_
  refine m_calli C (c_right1 G h ad _ _ 1 rfl) kM_right dX7_twine_38 rfl (by decide) (by decide) (by decide) (by decide) rfl rfl (fun r M1 R4 hp => ?_)
  obtain ⟨rfl, rfl, rfl⟩ := hp
  refine r_if_ne (tgt := 46) C dX7_twine_41 (by decide) (fun c41 => ?_) (fun c41 => absurd c41 ((by decide)))
  refine r_aload_n C dX7_twine_46 rfl rfl ?_
  refine r_iload_n C dX7_twine_47 rfl rfl ?_
  refine m_calli C (c_home G h ad _ R4 hj hp) kM_home dX7_twine_48 rfl (by decide) (by decide) (by decide) (by decide) rfl rfl (fun r M1 R5 hq => ?_)
  obtain ⟨⟨m, hm, hm4, rfl⟩, rfl, P, rfl⟩ := hq
  refine r_istore C dX7_twine_51 (by decide) ?_
  refine r_iload_n C dX7_twine_53 rfl rfl ?_
  refine r_istore C dX7_twine_54 (by decide) ?_
  refine r_iload_n C dX7_twine_56 rfl rfl ?_
  refine r_istore C dX7_twine_57 (by decide) ?_
  refine r_iconst (v := 0) C dX7_twine_59 (by decide) ?_
  refine r_istore C dX7_twine_60 (by decide) ?_
  refine r_iconst (v := 0) C dX7_twine_62 (by decide) ?_
  refine r_istore C dX7_twine_63 (by decide) ?_
  skip
  have hrow : ∀ (i : Nat), va_up R4 26 P 7 (300 * j + i) = c i := fun i => by rw [hc]; rfl
  have outer : ∀ (f t : Nat), t + f = m → V X 0 0 65 [some (.ref h), some (.int (nI j)), some (.int (nI a)), some (.int (nI b)), some (.int (nI m)), some (.int (nI (twt c z a b t).1)), some (.int (nI (twt c z a b t).2.1)), some (.int (twt c z a b t).2.2), some (.int (nI t)), none, none, none, none, none] [] (mW G h ad (va_up M 0 0) (va_up R4 26 P)) := by
    intro f
    induction f with
    | zero =>
      intro t ht
      have htm : t = m := by omega
      subst htm
      refine r_iload C dX7_twine_65 rfl ?_
      refine r_iload C dX7_twine_67 rfl ?_
      refine r_icmp_ge (tgt := 245) C dX7_twine_69 (by decide) (fun c69 => ?_) (fun c69 => absurd c69 ((fun q => q (nI_le (by omega) (by omega)))))
      refine r_iload C dX7_twine_245 rfl ?_
      exact hR _ _ _ _ _ rfl dX7_twine_247 ⟨⟨P, rfl⟩, Or.inl ⟨j, s, z, a, b, hj, rfl, hp, ha1, ha2, rfl, hb1, hb2, rfl, hab, ⟨t, hm, hm4, by rw [← hc]⟩, rfl⟩⟩
    | succ f ih =>
      intro t ht
      have hti := twt_in (c := c) (z := z) hs7 ⟨ha1, ha2⟩ ⟨hb1, hb2⟩ hok t
      have nxt := ih (t + 1) (by omega)
      have inner : ∀ (f' i : Nat), i + f' = z → V X 0 0 75 [some (.ref h), some (.int (nI j)), some (.int (nI a)), some (.int (nI b)), some (.int (nI m)), some (.int (nI (twj c (twt c z a b t) i).1)), some (.int (nI (twj c (twt c z a b t) i).2.1)), some (.int (twj c (twt c z a b t) i).2.2), some (.int (nI t)), some (.int (nI i)), none, none, none, none] [] (mW G h ad (va_up M 0 0) (va_up R4 26 P)) := by
        intro f'
        induction f' with
        | zero =>
          intro i hi
          have hiz : i = z := by omega
          subst hiz
          refine r_iload C dX7_twine_75 rfl ?_
          refine r_aload_n C dX7_twine_77 rfl rfl ?_
          refine mg_sizes C dX7_twine_78 ?_
          refine r_iload_n C dX7_twine_81 rfl rfl ?_
          refine ml_sizes C dX7_twine_82 (vp_in_nI hj (by decide)) ?_
          rw [nI_clamp (by omega), show va_up R4 26 P 6 j = nI i from hz]
          refine r_icmp_ge (tgt := 239) C dX7_twine_83 (by decide) (fun c83 => ?_) (fun c83 => absurd c83 ((fun q => q (nI_le (by omega) (by omega)))))
          refine r_iinc (v := _ + 1) C dX7_twine_239 rfl (by rfl) (by decide) ?_
          rw [nI_1]
          refine r_goto (tgt := 65) C dX7_twine_242 (by decide) ?_
          exact V.keep [true, true, true, true, true, true, true, true, true, false, false, false, false, false] nxt
        | succ f' ih' =>
          intro i hi
          have hin := twj_in (c := c) (q := twt c z a b t) hs7 hti.1 hti.2 i (fun q hq => hok q (by omega))
          have nx := ih' (i + 1) (by omega)
          have hst : twj c (twt c z a b t) (i + 1) = twS (c i) (twj c (twt c z a b t) i) := rfl
          rw [hst] at nx
          obtain ⟨i0, hi1, hi2, hci⟩ := hok i (by omega)
          have hai : ai (c i) = i0 := by rcases hci with hci | hci <;> rw [hci] <;> first | exact ai_nI (by omega) | exact ai_neg (by omega)
          generalize twj c (twt c z a b t) i = Q at hin nx ⊢
          obtain ⟨x, y, v⟩ := Q
          unfold twS at nx
          dsimp only at hin nx ⊢
          rw [hai] at nx
          obtain ⟨v2, hv2⟩ : ∃ v2, v2 = (if (x = i0 ∨ x = i0 + 1) ∧ (y = i0 ∨ y = i0 + 1) then v + (if 0 < c i then 1 else -1) else v) := ⟨_, rfl⟩
          rw [← hv2] at nx
          have j210 : ∀ (sec : Int32) (o12 : Option Value), ((sec = 1 ∧ (y = i0 ∨ y = i0 + 1)) ∨ (sec = 0 ∧ ¬ (y = i0 ∨ y = i0 + 1))) → V X 0 0 210 [some (.ref h), some (.int (nI j)), some (.int (nI a)), some (.int (nI b)), some (.int (nI m)), some (.int (nI (sw i0 x))), some (.int (nI y)), some (.int v2), some (.int (nI t)), some (.int (nI i)), some (.int (c i)), some (.int (nI i0)), o12, some (.int sec)] [] (mW G h ad (va_up M 0 0) (va_up R4 26 P)) := by
            intro sec o12 hsec
            have m0 : [true, true, true, true, true, true, true, true, true, true, false, false, false, false] = [true, true, true, true, true, true, true, true, true, true, false, false, false, false] := rfl
            refine r_iload C dX7_twine_210 rfl ?_
            refine r_if_eq (tgt := 233) C dX7_twine_212 (by decide) (fun c212 => ?_) (fun c212 => ?_)
            · refine r_iinc (v := _ + 1) C dX7_twine_233 rfl (by rfl) (by decide) ?_
              rw [nI_1]
              refine r_goto (tgt := 75) C dX7_twine_236 (by decide) ?_
              first
                | exact V.keep [true, true, true, true, true, true, true, true, true, true, false, false, false, false] (by rw [show sw i0 y = y from sw_n (fun e => (hsec.elim (fun w => absurd (w.1.symm.trans c212) (by decide)) (fun w => w.2)) (Or.inl e)) (fun e => (hsec.elim (fun w => absurd (w.1.symm.trans c212) (by decide)) (fun w => w.2)) (Or.inr e))] at nx; exact nx)
                | exact V.keep [true, true, true, true, true, true, true, true, true, true, false, false, false, false] (by rw [show sw i0 y = i0 + 1 by rw [c219, sw_l]] at nx; exact nx)
                | exact V.keep [true, true, true, true, true, true, true, true, true, true, false, false, false, false] (by rw [show sw i0 y = i0 by rw [show y = i0 + 1 by omega, sw_r]] at nx; exact nx)
            · have hy : y = i0 ∨ y = i0 + 1 := hsec.elim (fun w => w.2) (fun w => absurd w.1 c212)
              refine r_iload C dX7_twine_215 rfl ?_
              refine r_iload C dX7_twine_217 rfl ?_
              refine r_icmp_ne (tgt := 229) C dX7_twine_219 (by decide) (fun c219 => ?_) (fun c219 => ?_)
              · rw [nI_eq (by omega) (by omega)] at c219
                refine r_iload C dX7_twine_229 rfl ?_
                refine r_istore C dX7_twine_231 (by decide) ?_
                refine r_iinc (v := _ + 1) C dX7_twine_233 rfl (by rfl) (by decide) ?_
                rw [nI_1]
                refine r_goto (tgt := 75) C dX7_twine_236 (by decide) ?_
                first
                  | exact V.keep [true, true, true, true, true, true, true, true, true, true, false, false, false, false] (by rw [show sw i0 y = y from sw_n (fun e => (hsec.elim (fun w => absurd (w.1.symm.trans c212) (by decide)) (fun w => w.2)) (Or.inl e)) (fun e => (hsec.elim (fun w => absurd (w.1.symm.trans c212) (by decide)) (fun w => w.2)) (Or.inr e))] at nx; exact nx)
                  | exact V.keep [true, true, true, true, true, true, true, true, true, true, false, false, false, false] (by rw [show sw i0 y = i0 + 1 by rw [c219, sw_l]] at nx; exact nx)
                  | exact V.keep [true, true, true, true, true, true, true, true, true, true, false, false, false, false] (by rw [show sw i0 y = i0 by rw [show y = i0 + 1 by omega, sw_r]] at nx; exact nx)
              · rw [nI_eq (by omega) (by omega)] at c219
                refine r_iload C dX7_twine_222 rfl ?_
                refine r_iconst (v := 1) C dX7_twine_224 (by decide) ?_
                refine r_iadd C dX7_twine_225 ?_
                rw [nI_1]
                refine r_goto (tgt := 231) C dX7_twine_226 (by decide) ?_
                refine r_istore C dX7_twine_231 (by decide) ?_
                refine r_iinc (v := _ + 1) C dX7_twine_233 rfl (by rfl) (by decide) ?_
                rw [nI_1]
                refine r_goto (tgt := 75) C dX7_twine_236 (by decide) ?_
                first
                  | exact V.keep [true, true, true, true, true, true, true, true, true, true, false, false, false, false] (by rw [show sw i0 y = y from sw_n (fun e => (hsec.elim (fun w => absurd (w.1.symm.trans c212) (by decide)) (fun w => w.2)) (Or.inl e)) (fun e => (hsec.elim (fun w => absurd (w.1.symm.trans c212) (by decide)) (fun w => w.2)) (Or.inr e))] at nx; exact nx)
                  | exact V.keep [true, true, true, true, true, true, true, true, true, true, false, false, false, false] (by rw [show sw i0 y = i0 + 1 by rw [c219, sw_l]] at nx; exact nx)
                  | exact V.keep [true, true, true, true, true, true, true, true, true, true, false, false, false, false] (by rw [show sw i0 y = i0 by rw [show y = i0 + 1 by omega, sw_r]] at nx; exact nx)
          have j187 : ∀ (fs sec : Int32), ((fs = 1 ∧ (x = i0 ∨ x = i0 + 1)) ∨ (fs = 0 ∧ ¬ (x = i0 ∨ x = i0 + 1))) → ((sec = 1 ∧ (y = i0 ∨ y = i0 + 1)) ∨ (sec = 0 ∧ ¬ (y = i0 ∨ y = i0 + 1))) → V X 0 0 187 [some (.ref h), some (.int (nI j)), some (.int (nI a)), some (.int (nI b)), some (.int (nI m)), some (.int (nI x)), some (.int (nI y)), some (.int v2), some (.int (nI t)), some (.int (nI i)), some (.int (c i)), some (.int (nI i0)), some (.int fs), some (.int sec)] [] (mW G h ad (va_up M 0 0) (va_up R4 26 P)) := by
            intro fs sec hfs hsec
            have q := fun o => j210 sec o hsec
            refine r_iload C dX7_twine_187 rfl ?_
            refine r_if_eq (tgt := 210) C dX7_twine_189 (by decide) (fun c189 => ?_) (fun c189 => ?_)
            · first
                | (rw [show sw i0 x = x from sw_n (fun e => (hfs.elim (fun w => absurd (w.1.symm.trans c189) (by decide)) (fun w => w.2)) (Or.inl e)) (fun e => (hfs.elim (fun w => absurd (w.1.symm.trans c189) (by decide)) (fun w => w.2)) (Or.inr e))] at q; exact q _)
                | (rw [show sw i0 x = i0 + 1 by rw [c196, sw_l]] at q; exact q _)
                | (rw [show sw i0 x = i0 by rw [show x = i0 + 1 by omega, sw_r]] at q; exact q _)
            · have hx : x = i0 ∨ x = i0 + 1 := hfs.elim (fun w => w.2) (fun w => absurd w.1 c189)
              refine r_iload C dX7_twine_192 rfl ?_
              refine r_iload C dX7_twine_194 rfl ?_
              refine r_icmp_ne (tgt := 206) C dX7_twine_196 (by decide) (fun c196 => ?_) (fun c196 => ?_)
              · rw [nI_eq (by omega) (by omega)] at c196
                refine r_iload C dX7_twine_206 rfl ?_
                refine r_istore C dX7_twine_208 (by decide) ?_
                first
                  | (rw [show sw i0 x = x from sw_n (fun e => (hfs.elim (fun w => absurd (w.1.symm.trans c189) (by decide)) (fun w => w.2)) (Or.inl e)) (fun e => (hfs.elim (fun w => absurd (w.1.symm.trans c189) (by decide)) (fun w => w.2)) (Or.inr e))] at q; exact q _)
                  | (rw [show sw i0 x = i0 + 1 by rw [c196, sw_l]] at q; exact q _)
                  | (rw [show sw i0 x = i0 by rw [show x = i0 + 1 by omega, sw_r]] at q; exact q _)
              · rw [nI_eq (by omega) (by omega)] at c196
                refine r_iload C dX7_twine_199 rfl ?_
                refine r_iconst (v := 1) C dX7_twine_201 (by decide) ?_
                refine r_iadd C dX7_twine_202 ?_
                rw [nI_1]
                refine r_goto (tgt := 208) C dX7_twine_203 (by decide) ?_
                refine r_istore C dX7_twine_208 (by decide) ?_
                first
                  | (rw [show sw i0 x = x from sw_n (fun e => (hfs.elim (fun w => absurd (w.1.symm.trans c189) (by decide)) (fun w => w.2)) (Or.inl e)) (fun e => (hfs.elim (fun w => absurd (w.1.symm.trans c189) (by decide)) (fun w => w.2)) (Or.inr e))] at q; exact q _)
                  | (rw [show sw i0 x = i0 + 1 by rw [c196, sw_l]] at q; exact q _)
                  | (rw [show sw i0 x = i0 by rw [show x = i0 + 1 by omega, sw_r]] at q; exact q _)
          have j162 : ∀ (fs sec : Int32), ((fs = 1 ∧ (x = i0 ∨ x = i0 + 1)) ∨ (fs = 0 ∧ ¬ (x = i0 ∨ x = i0 + 1))) → ((sec = 1 ∧ (y = i0 ∨ y = i0 + 1)) ∨ (sec = 0 ∧ ¬ (y = i0 ∨ y = i0 + 1))) → V X 0 0 162 [some (.ref h), some (.int (nI j)), some (.int (nI a)), some (.int (nI b)), some (.int (nI m)), some (.int (nI x)), some (.int (nI y)), some (.int v), some (.int (nI t)), some (.int (nI i)), some (.int (c i)), some (.int (nI i0)), some (.int fs), some (.int sec)] [] (mW G h ad (va_up M 0 0) (va_up R4 26 P)) := by
            intro fs sec hfs hsec
            have q := j187 fs sec hfs hsec
            refine r_iload C dX7_twine_162 rfl ?_
            refine r_if_eq (tgt := 187) C dX7_twine_164 (by decide) (fun c164 => ?_) (fun c164 => ?_)
            · first
                | (rw [hv2, if_pos ⟨hfs.elim (fun w => w.2) (fun w => absurd w.1 c164), hsec.elim (fun w => w.2) (fun w => absurd w.1 c169)⟩, if_pos (Int32.not_le.mp c176)] at q; exact q)
                | (rw [hv2, if_pos ⟨hfs.elim (fun w => w.2) (fun w => absurd w.1 c164), hsec.elim (fun w => w.2) (fun w => absurd w.1 c169)⟩, if_neg (Int32.not_lt.mpr c176)] at q; exact q)
                | (rw [hv2, if_neg (fun e => hsec.elim (fun w => absurd (w.1.symm.trans c169) (by decide)) (fun w => w.2 e.2))] at q; exact q)
                | (rw [hv2, if_neg (fun e => hfs.elim (fun w => absurd (w.1.symm.trans c164) (by decide)) (fun w => w.2 e.1))] at q; exact q)
            · refine r_iload C dX7_twine_167 rfl ?_
              refine r_if_eq (tgt := 187) C dX7_twine_169 (by decide) (fun c169 => ?_) (fun c169 => ?_)
              · first
                  | (rw [hv2, if_pos ⟨hfs.elim (fun w => w.2) (fun w => absurd w.1 c164), hsec.elim (fun w => w.2) (fun w => absurd w.1 c169)⟩, if_pos (Int32.not_le.mp c176)] at q; exact q)
                  | (rw [hv2, if_pos ⟨hfs.elim (fun w => w.2) (fun w => absurd w.1 c164), hsec.elim (fun w => w.2) (fun w => absurd w.1 c169)⟩, if_neg (Int32.not_lt.mpr c176)] at q; exact q)
                  | (rw [hv2, if_neg (fun e => hsec.elim (fun w => absurd (w.1.symm.trans c169) (by decide)) (fun w => w.2 e.2))] at q; exact q)
                  | (rw [hv2, if_neg (fun e => hfs.elim (fun w => absurd (w.1.symm.trans c164) (by decide)) (fun w => w.2 e.1))] at q; exact q)
              · refine r_iload C dX7_twine_172 rfl ?_
                refine r_iload C dX7_twine_174 rfl ?_
                refine r_if_le (tgt := 183) C dX7_twine_176 (by decide) (fun c176 => ?_) (fun c176 => ?_)
                · refine r_iconst (v := -1) C dX7_twine_183 (by decide) ?_
                  refine r_iadd C dX7_twine_184 ?_
                  refine r_istore C dX7_twine_185 (by decide) ?_
                  first
                    | (rw [hv2, if_pos ⟨hfs.elim (fun w => w.2) (fun w => absurd w.1 c164), hsec.elim (fun w => w.2) (fun w => absurd w.1 c169)⟩, if_pos (Int32.not_le.mp c176)] at q; exact q)
                    | (rw [hv2, if_pos ⟨hfs.elim (fun w => w.2) (fun w => absurd w.1 c164), hsec.elim (fun w => w.2) (fun w => absurd w.1 c169)⟩, if_neg (Int32.not_lt.mpr c176)] at q; exact q)
                    | (rw [hv2, if_neg (fun e => hsec.elim (fun w => absurd (w.1.symm.trans c169) (by decide)) (fun w => w.2 e.2))] at q; exact q)
                    | (rw [hv2, if_neg (fun e => hfs.elim (fun w => absurd (w.1.symm.trans c164) (by decide)) (fun w => w.2 e.1))] at q; exact q)
                · refine r_iconst (v := 1) C dX7_twine_179 (by decide) ?_
                  refine r_goto (tgt := 184) C dX7_twine_180 (by decide) ?_
                  refine r_iadd C dX7_twine_184 ?_
                  refine r_istore C dX7_twine_185 (by decide) ?_
                  first
                    | (rw [hv2, if_pos ⟨hfs.elim (fun w => w.2) (fun w => absurd w.1 c164), hsec.elim (fun w => w.2) (fun w => absurd w.1 c169)⟩, if_pos (Int32.not_le.mp c176)] at q; exact q)
                    | (rw [hv2, if_pos ⟨hfs.elim (fun w => w.2) (fun w => absurd w.1 c164), hsec.elim (fun w => w.2) (fun w => absurd w.1 c169)⟩, if_neg (Int32.not_lt.mpr c176)] at q; exact q)
                    | (rw [hv2, if_neg (fun e => hsec.elim (fun w => absurd (w.1.symm.trans c169) (by decide)) (fun w => w.2 e.2))] at q; exact q)
                    | (rw [hv2, if_neg (fun e => hfs.elim (fun w => absurd (w.1.symm.trans c164) (by decide)) (fun w => w.2 e.1))] at q; exact q)
          have j139 : ∀ (fs : Int32), ((fs = 1 ∧ (x = i0 ∨ x = i0 + 1)) ∨ (fs = 0 ∧ ¬ (x = i0 ∨ x = i0 + 1))) → V X 0 0 139 [some (.ref h), some (.int (nI j)), some (.int (nI a)), some (.int (nI b)), some (.int (nI m)), some (.int (nI x)), some (.int (nI y)), some (.int v), some (.int (nI t)), some (.int (nI i)), some (.int (c i)), some (.int (nI i0)), some (.int fs), none] [] (mW G h ad (va_up M 0 0) (va_up R4 26 P)) := by
            intro fs hfs
            refine r_iload C dX7_twine_139 rfl ?_
            refine r_iload C dX7_twine_141 rfl ?_
            refine r_icmp_eq (tgt := 155) C dX7_twine_143 (by decide) (fun c143 => ?_) (fun c143 => ?_)
            · refine r_iconst (v := 1) C dX7_twine_155 (by decide) ?_
              refine r_goto (tgt := 160) C dX7_twine_156 (by decide) ?_
              refine r_istore C dX7_twine_160 (by decide) ?_
              first
                | exact j162 fs 0 hfs (Or.inr ⟨rfl, fun e => e.elim c143 c152⟩)
                | exact j162 fs 1 hfs (Or.inl ⟨rfl, Or.inl ((nI_eq (by omega) (by omega)).mp c143)⟩)
                | exact j162 fs 1 hfs (Or.inl ⟨rfl, Or.inr ((nI_eq (by omega) (by omega)).mp c152)⟩)
            · rw [nI_eq (by omega) (by omega)] at c143
              refine r_iload C dX7_twine_146 rfl ?_
              refine r_iload C dX7_twine_148 rfl ?_
              refine r_iconst (v := 1) C dX7_twine_150 (by decide) ?_
              refine r_iadd C dX7_twine_151 ?_
              rw [nI_1]
              refine r_icmp_ne (tgt := 159) C dX7_twine_152 (by decide) (fun c152 => ?_) (fun c152 => ?_)
              · rw [nI_eq (by omega) (by omega)] at c152
                refine r_iconst (v := 0) C dX7_twine_159 (by decide) ?_
                refine r_istore C dX7_twine_160 (by decide) ?_
                first
                  | exact j162 fs 0 hfs (Or.inr ⟨rfl, fun e => e.elim c143 c152⟩)
                  | exact j162 fs 1 hfs (Or.inl ⟨rfl, Or.inl ((nI_eq (by omega) (by omega)).mp c143)⟩)
                  | exact j162 fs 1 hfs (Or.inl ⟨rfl, Or.inr ((nI_eq (by omega) (by omega)).mp c152)⟩)
              · refine r_iconst (v := 1) C dX7_twine_155 (by decide) ?_
                refine r_goto (tgt := 160) C dX7_twine_156 (by decide) ?_
                refine r_istore C dX7_twine_160 (by decide) ?_
                first
                  | exact j162 fs 0 hfs (Or.inr ⟨rfl, fun e => e.elim c143 c152⟩)
                  | exact j162 fs 1 hfs (Or.inl ⟨rfl, Or.inl ((nI_eq (by omega) (by omega)).mp c143)⟩)
                  | exact j162 fs 1 hfs (Or.inl ⟨rfl, Or.inr ((nI_eq (by omega) (by omega)).mp c152)⟩)
          have j116 : V X 0 0 116 [some (.ref h), some (.int (nI j)), some (.int (nI a)), some (.int (nI b)), some (.int (nI m)), some (.int (nI x)), some (.int (nI y)), some (.int v), some (.int (nI t)), some (.int (nI i)), some (.int (c i)), some (.int (nI i0)), none, none] [] (mW G h ad (va_up M 0 0) (va_up R4 26 P)) := by
            refine r_iload C dX7_twine_116 rfl ?_
            refine r_iload C dX7_twine_118 rfl ?_
            refine r_icmp_eq (tgt := 132) C dX7_twine_120 (by decide) (fun c120 => ?_) (fun c120 => ?_)
            · refine r_iconst (v := 1) C dX7_twine_132 (by decide) ?_
              refine r_goto (tgt := 137) C dX7_twine_133 (by decide) ?_
              refine r_istore C dX7_twine_137 (by decide) ?_
              first
                | exact j139 0 (Or.inr ⟨rfl, fun e => e.elim c120 c129⟩)
                | exact j139 1 (Or.inl ⟨rfl, Or.inl ((nI_eq (by omega) (by omega)).mp c120)⟩)
                | exact j139 1 (Or.inl ⟨rfl, Or.inr ((nI_eq (by omega) (by omega)).mp c129)⟩)
            · rw [nI_eq (by omega) (by omega)] at c120
              refine r_iload C dX7_twine_123 rfl ?_
              refine r_iload C dX7_twine_125 rfl ?_
              refine r_iconst (v := 1) C dX7_twine_127 (by decide) ?_
              refine r_iadd C dX7_twine_128 ?_
              rw [nI_1]
              refine r_icmp_ne (tgt := 136) C dX7_twine_129 (by decide) (fun c129 => ?_) (fun c129 => ?_)
              · rw [nI_eq (by omega) (by omega)] at c129
                refine r_iconst (v := 0) C dX7_twine_136 (by decide) ?_
                refine r_istore C dX7_twine_137 (by decide) ?_
                first
                  | exact j139 0 (Or.inr ⟨rfl, fun e => e.elim c120 c129⟩)
                  | exact j139 1 (Or.inl ⟨rfl, Or.inl ((nI_eq (by omega) (by omega)).mp c120)⟩)
                  | exact j139 1 (Or.inl ⟨rfl, Or.inr ((nI_eq (by omega) (by omega)).mp c129)⟩)
              · refine r_iconst (v := 1) C dX7_twine_132 (by decide) ?_
                refine r_goto (tgt := 137) C dX7_twine_133 (by decide) ?_
                refine r_istore C dX7_twine_137 (by decide) ?_
                first
                  | exact j139 0 (Or.inr ⟨rfl, fun e => e.elim c120 c129⟩)
                  | exact j139 1 (Or.inl ⟨rfl, Or.inl ((nI_eq (by omega) (by omega)).mp c120)⟩)
                  | exact j139 1 (Or.inl ⟨rfl, Or.inr ((nI_eq (by omega) (by omega)).mp c129)⟩)
          refine r_iload C dX7_twine_75 rfl ?_
          refine r_aload_n C dX7_twine_77 rfl rfl ?_
          refine mg_sizes C dX7_twine_78 ?_
          refine r_iload_n C dX7_twine_81 rfl rfl ?_
          refine ml_sizes C dX7_twine_82 (vp_in_nI hj (by decide)) ?_
          rw [nI_clamp (by omega), show va_up R4 26 P 6 j = nI z from hz]
          refine r_icmp_ge (tgt := 239) C dX7_twine_83 (by decide) (fun c83 => absurd c83 ((nI_ge (by omega) (by omega)))) (fun c83 => ?_)
          refine r_aload_n C dX7_twine_86 rfl rfl ?_
          refine mg_rows C dX7_twine_87 ?_
          refine r_sipush (v := 300) C dX7_twine_90 (by decide) ?_
          refine r_iload_n C dX7_twine_93 rfl rfl ?_
          refine r_imul C dX7_twine_94 ?_
          refine r_iload C dX7_twine_95 rfl ?_
          refine r_iadd C dX7_twine_97 ?_
          show V X 0 0 98 _ [.int (nI 300 * nI j + nI i), .ref (ad 7)] _
          rw [pk_mul, nI_add]
          refine ml_rows C dX7_twine_98 (vp_in_nI (show 300 * j + i < 2400 by omega) (by decide)) ?_
          rw [nI_clamp (by omega), hrow]
          refine r_istore C dX7_twine_99 (by decide) ?_
          rcases hci with hci | hci <;> rw [hci] at j116 ⊢
          · refine r_iload C dX7_twine_101 rfl ?_
            refine r_if_le (tgt := 111) C dX7_twine_103 (by decide) (fun c103 => absurd c103 ((Int32.not_le.mpr (pos_nI hi1 (by omega))))) (fun c103 => ?_)
            refine r_iload C dX7_twine_106 rfl ?_
            refine r_goto (tgt := 114) C dX7_twine_108 (by decide) ?_
            refine r_istore C dX7_twine_114 (by decide) ?_
            exact j116
          · refine r_iload C dX7_twine_101 rfl ?_
            refine r_if_le (tgt := 111) C dX7_twine_103 (by decide) (fun c103 => ?_) (fun c103 => absurd c103 ((fun q => q (Int32.le_of_lt (neg_lt0 hi1 (by omega))))))
            refine r_iload C dX7_twine_111 rfl ?_
            refine r_ineg C dX7_twine_113 ?_
            rw [Int32.neg_neg]
            refine r_istore C dX7_twine_114 (by decide) ?_
            exact j116
      refine r_iload C dX7_twine_65 rfl ?_
      refine r_iload C dX7_twine_67 rfl ?_
      refine r_icmp_ge (tgt := 245) C dX7_twine_69 (by decide) (fun c69 => absurd c69 ((nI_ge (by omega) (by omega)))) (fun c69 => ?_)
      refine r_iconst (v := 0) C dX7_twine_72 (by decide) ?_
      refine r_istore C dX7_twine_73 (by decide) ?_
      exact inner z 0 (by omega)
  exact outer m 0 (by omega)
end M11
