/-! the class: Form: a row put behind -/
theorem and_1 : ∀ w, w < 601 → (nI w &&& 1 = 1 ↔ w % 2 = 1) := by decide +kernel
theorem okC_sg {s : Nat} {c : Int32} (hs : s ≤ 7) (hc : okC s c) : (c < 0 ∧ ¬ 0 < c) ∨ (¬ c < 0 ∧ 0 < c) := by
  obtain ⟨i, i1, i2, rfl | rfl⟩ := hc
  · exact Or.inr ⟨nI_pos (by omega), pos_nI i1 (by omega)⟩
  · exact Or.inl ⟨neg_lt0 i1 (by omega), neg_npos i1 (by omega)⟩
theorem FmF.congr {S S' : Sq} {s m hd tl : Nat} {base : Int32} {Z : Nat} {n r1 : Nat → Int32} {B : Sq} (h : FmF S s m hd tl base Z n r1 B) (e : ∀ q, q < m → S q = S' q) : FmF S' s m hd tl base Z n r1 B := by
  have f := h.fn.congr e
  obtain ⟨⟨h1, h2, h3, h4, h5, h6⟩, h7⟩ := h
  exact ⟨⟨h1, h2, h3, h4, f.2.2.1, h6⟩, h7⟩
section F5
variable (G : Gx) (Z : Nat) (A : Nat → Nat) (P : va_W) (N : Nt) (R : Rt) (Q : Qt)
theorem c_make {c row : Nat → Int32} {s z k hd tl ra : Nat} {base : Int32} {B : Sq} (hok : ∀ i, i < z → okC s (c i)) (hrow : ∀ i, i < z → row i = c i) (hF : FmF (seq0 c s z (z * k)) s (z * k) hd tl base Z (N 0) (R 1) B) (hz3 : z ≤ 300) (hkZ : z * (k + 1) ≤ Z) (hZ : Z ≤ 600) : CV G yX1_make cX1_make 7 4 0 0 [.ref (A 0), .ref ra, .int (nI z)] (fW G Z A N R Q ++ ((ra, .inl (G.2.2 0, 300, .inl row)) :: P)) (S := Nt × Rt) (fun u => ∃ hd' tl' B', FmF (seq0 c s z (z * (k + 1))) s (z * (k + 1)) hd' tl' (base - nI (ngd c z z z)) Z (u.1 0) (u.2 1) B') (fun u => fW G Z A u.1 u.2 Q ++ ((ra, .inl (G.2.2 0, 300, .inl row)) :: P)) := by
  have s7 : s ≤ 7 := hF.1.1.2.2.1
  have s2 : 2 ≤ s := hF.1.1.2.1
  have hzk : 0 < z ∨ z * k = 0 := by
    rcases Nat.eq_zero_or_pos z with w | w
    · right; rw [w, Nat.zero_mul]
    · exact Or.inl w
  have hzk1 : 0 < z ∨ z * (k + 1) = 0 := by
    rcases Nat.eq_zero_or_pos z with w | w
    · right; rw [w, Nat.zero_mul]
    · exact Or.inl w
  have hS1 := seq0_canF (all := z * (k + 1)) s7 hzk1 hok
  have hmul : z * (k + 1) = z * k + z := Nat.mul_succ _ _
  have nle : ∀ d, d ≤ z → ngd c z z d ≤ 300 := fun d hd => by have := ngd_le c z z d; omega
  refine CV.intro (by decide) (Nat.le_of_ble_eq_true rfl) catM fun X C hR => ?_
  obtain ⟨b1, hb1⟩ : ∃ b1, b1 = base - nI (ngd c z z z) := ⟨_, rfl⟩
  rw [← hb1] at hR
  have k51 : ∀ (f i hd tl : Nat) (N' : Nt) (R' : Rt) (B2 : Sq) (o5 o6 : Option Value), i + f = z → FmF (seq0 c s z (z * (k + 1))) s (z * k + i) hd tl b1 Z (N' 0) (R' 1) B2 → V X 0 0 51 [some (.ref (A 0)), some (.ref ra), some (.int (nI z)), some (.int (nI (ngd c z z (z - i)))), some (.int (nI i)), o5, o6] [] (fW G Z A N' R' Q ++ ((ra, .inl (G.2.2 0, 300, .inl row)) :: P)) := by
    intro f
    induction f with
    | zero =>
      intro i hd tl N' R' B2 o5 o6 hi hF'
      have hiz : i = z := by omega
      subst hiz
      rw [← hmul] at hF'
      refine r_iload C dX1_make_51 rfl ?_
      refine r_iload_n C dX1_make_53 rfl rfl ?_
      refine r_icmp_ge (tgt := 148) C dX1_make_54 (by decide) (fun c54 => ?_) (fun c54 => absurd c54 ((fun q => q (by rw [nI_leI (by omega) (by omega)]; omega))))
      exact hR _ _ _ _ (N', R') (by decide) (by decide) ⟨hd, tl, B2, hF'⟩ dX1_make_148
    | succ f ih =>
      intro i hd tl N' R' B2 o5 o6 hi hF'
      have hlt : i < z := by omega
      have hck := hok i hlt
      have hai := okC_ai hck s7
      obtain ⟨⟨⟨d4, -⟩, d5, d6, -⟩, -⟩ := id hF'
      have bi : vp_in (nI i) 300 := vp_in_nI (by omega) (by decide)
      have ki : (nI i).toNatClampNeg = i := nI_clamp (by omega)
      have hab : (if 0 ≤ row i then row i else 0 - row i) = nI (ai (c i)) := by rw [hrow i hlt]; exact abs_ai s7 hck
      have hnx := ngd_at c hlt
      have hw := nle (z - 1 - i) (by omega)
      obtain ⟨w, hwd⟩ : ∃ w, w = ngd c z z (z - 1 - i) := ⟨_, rfl⟩
      have hzi : z - (i + 1) = z - 1 - i := by omega
      have hnew := seq0_new c s (k := k) hlt
      -- the factor's number and the factor
      have j139 : ∀ (R2 : Rt) (o : Int32) (y : Int32) (o6 : Option Value), R2 1 = R' 1 → y = codeF (seq0 c s z (z * (k + 1)) (z * k + i)) s → V X 0 0 139 [some (.ref (A 0)), some (.ref ra), some (.int (nI z)), some (.int (nI w)), some (.int (nI i)), some (.int o), o6] [.int y, .ref (A 0)] (fW G Z A N' R2 Q ++ ((ra, .inl (G.2.2 0, 300, .inl row)) :: P)) := by
        intro R2 o y o6 h1 hy
        rw [hy]
        rw [← h1] at hF'
        refine a_callVv C (c_append G Z A _ N' R2 Q hS1 hF' (by omega) (by omega)) kcX1_X1_append dX1_make_139 rfl (by decide) (by decide) (by decide) (Nat.le_of_ble_eq_true rfl) 0 rfl (ci := 1) rfl rfl rfl (fun u hu => ?_)
        obtain ⟨hd2, tl2, B3, hF2⟩ := hu
        refine r_iinc (v := _ + 1) C dX1_make_142 rfl (by rfl) (by decide) ?_
        refine r_goto (tgt := 51) C dX1_make_145 (by decide) ?_
        show V X 0 0 51 [_, _, _, _, some (.int (nI i + 1)), _, _] _ _
        rw [nI_1, hwd, ← hzi]
        exact ih (i + 1) hd2 tl2 u.1 u.2 B3 _ _ (by omega) hF2
      have j108 : ∀ (v : Nat) (o : Int32) (o6 : Option Value), 1 ≤ v → v < s → ((o = 1 ∧ codeF (mvL v idF) s = codeF (seq0 c s z (z * (k + 1)) (z * k + i)) s) ∨ (o = 0 ∧ codeF (mvL v (revF s)) s = codeF (seq0 c s z (z * (k + 1)) (z * k + i)) s)) → V X 0 0 108 [some (.ref (A 0)), some (.ref ra), some (.int (nI z)), some (.int (nI w)), some (.int (nI i)), some (.int o), o6] [.int (nI v)] (fW G Z A N' R' Q ++ ((ra, .inl (G.2.2 0, 300, .inl row)) :: P)) := by
        intro v o o6 v1 v2 ho
        rcases ho with ⟨rfl, hv⟩ | ⟨rfl, hv⟩
        · refine r_istore C dX1_make_108 (by decide) ?_
          refine r_aload_n C dX1_make_110 rfl rfl ?_
          refine r_iload C dX1_make_111 rfl ?_
          refine r_if_eq (tgt := 129) C dX1_make_113 (by decide) (fun c113 => absurd c113 ((by decide))) (fun c113 => ?_)
          refine r_aload_n C dX1_make_116 rfl rfl ?_
          refine r_aload_n C dX1_make_117 rfl rfl ?_
          refine fg_X1_27 C dX1_make_118 ?_
          refine r_iload C dX1_make_121 rfl ?_
          rw [d6]
          refine a_callVi C (c_withNumbersChanged G Z A _ N' R' Q (F := idF) (i := v) d4 s7 (idF_can s).1 v1 v2) kcX1_X1_withNumbersChanged dX1_make_123 rfl (by decide) (by decide) (by decide) (Nat.le_of_ble_eq_true rfl) 0 rfl (ci := 1) rfl rfl rfl (fun r g hr => ?_)
          refine r_goto (tgt := 139) C dX1_make_126 (by decide) ?_
          exact j139 _ _ _ _ rfl (hr.trans hv)
        · refine r_istore C dX1_make_108 (by decide) ?_
          refine r_aload_n C dX1_make_110 rfl rfl ?_
          refine r_iload C dX1_make_111 rfl ?_
          refine r_if_eq (tgt := 129) C dX1_make_113 (by decide) (fun c113 => ?_) (fun c113 => absurd c113 ((fun q => q rfl)))
          refine r_aload_n C dX1_make_129 rfl rfl ?_
          refine r_aload_n C dX1_make_130 rfl rfl ?_
          refine fg_X1_24 C dX1_make_131 ?_
          refine r_iload C dX1_make_134 rfl ?_
          rw [d5]
          refine a_callVi C (c_withNumbersChanged G Z A _ N' R' Q (F := revF s) (i := v) d4 s7 (revF_can s).1 v1 v2) kcX1_X1_withNumbersChanged dX1_make_136 rfl (by decide) (by decide) (by decide) (Nat.le_of_ble_eq_true rfl) 0 rfl (ci := 1) rfl rfl rfl (fun r g hr => ?_)
          exact j139 _ _ _ _ rfl (hr.trans hv)
      have j79 : ∀ (o : Int32), ((o = 1 ∧ 0 < c i) ∨ (o = 0 ∧ ¬ 0 < c i)) → V X 0 0 79 [some (.ref (A 0)), some (.ref ra), some (.int (nI z)), some (.int (nI w)), some (.int (nI i)), some (.int o), o6] [] (fW G Z A N' R' Q ++ ((ra, .inl (G.2.2 0, 300, .inl row)) :: P)) := by
        intro o ho
        by_cases hodd : w % 2 = 1
        · have hne := hnew
          rw [← hwd, if_pos hodd] at hne
          refine r_iload_n C dX1_make_79 rfl rfl ?_
          refine r_iconst (v := 1) C dX1_make_80 (by decide) ?_
          refine r_iand C dX1_make_81 ?_
          refine r_iconst (v := 1) C dX1_make_82 (by decide) ?_
          refine r_icmp_ne (tgt := 101) C dX1_make_83 (by decide) (fun c83 => absurd c83 ((fun q => q ((and_1 w (by omega)).mpr hodd)))) (fun c83 => ?_)
          refine r_aload_n C dX1_make_86 rfl rfl ?_
          refine fg_X1_21 C dX1_make_87 ?_
          refine r_aload_n C dX1_make_90 rfl rfl ?_
          refine r_iload C dX1_make_91 rfl ?_
          refine r_iald C 4 rfl bi dX1_make_93 ?_
          rw [ki]
          refine r_mabs C km_X1_60 (by decide) (by decide) (by decide) (Nat.le_of_ble_eq_true rfl) dX1_make_94 ?_
          rw [hab]
          refine r_isub C dX1_make_97 ?_
          refine r_goto (tgt := 108) C dX1_make_98 (by decide) ?_
          show V X 0 0 108 _ [.int (N' 0 4 - nI (ai (c i)))] _
          rw [d4, pk_sub (by omega)]
          refine j108 (s - ai (c i)) o _ (by omega) (by omega) ?_
          rcases ho with ⟨rfl, hp⟩ | ⟨rfl, hp⟩
          · refine Or.inl ⟨rfl, ?_⟩
            rw [hne]
            unfold e0F
            rw [if_pos hp, turn_mvL (idF_can s) hai.1 hai.2, turnF_id]
          · refine Or.inr ⟨rfl, ?_⟩
            rw [hne]
            unfold e0F
            rw [if_neg hp, turn_mvL (revF_can s) hai.1 hai.2, turnF_rev]
        · have hne := hnew
          rw [← hwd, if_neg hodd] at hne
          refine r_iload_n C dX1_make_79 rfl rfl ?_
          refine r_iconst (v := 1) C dX1_make_80 (by decide) ?_
          refine r_iand C dX1_make_81 ?_
          refine r_iconst (v := 1) C dX1_make_82 (by decide) ?_
          refine r_icmp_ne (tgt := 101) C dX1_make_83 (by decide) (fun c83 => ?_) (fun c83 => absurd c83 ((fun q => hodd ((and_1 w (by omega)).mp q))))
          refine r_aload_n C dX1_make_101 rfl rfl ?_
          refine r_iload C dX1_make_102 rfl ?_
          refine r_iald C 4 rfl bi dX1_make_104 ?_
          rw [ki]
          refine r_mabs C km_X1_60 (by decide) (by decide) (by decide) (Nat.le_of_ble_eq_true rfl) dX1_make_105 ?_
          rw [hab]
          refine j108 (ai (c i)) o _ hai.1 hai.2 ?_
          rcases ho with ⟨rfl, hp⟩ | ⟨rfl, hp⟩
          · refine Or.inl ⟨rfl, ?_⟩
            rw [hne]
            unfold e0F
            rw [if_pos hp]
          · refine Or.inr ⟨rfl, ?_⟩
            rw [hne]
            unfold e0F
            rw [if_neg hp]
      rcases okC_sg s7 hck with ⟨n1, n2⟩ | ⟨n1, n2⟩
      · rw [if_pos n1] at hnx
        rw [hnx, ← hwd]
        refine r_iload C dX1_make_51 rfl ?_
        refine r_iload_n C dX1_make_53 rfl rfl ?_
        refine r_icmp_ge (tgt := 148) C dX1_make_54 (by decide) (fun c54 => absurd c54 ((by rw [nI_leI (by omega) (by omega)]; omega))) (fun c54 => ?_)
        refine r_aload_n C dX1_make_57 rfl rfl ?_
        refine r_iload C dX1_make_58 rfl ?_
        refine r_iald C 4 rfl bi dX1_make_60 ?_
        rw [ki, hrow i hlt]
        refine r_if_le (tgt := 68) C dX1_make_61 (by decide) (fun c61 => ?_) (fun c61 => absurd c61 ((fun q => n2 (Int32.not_le.mp q))))
        refine r_iconst (v := 0) C dX1_make_68 (by decide) ?_
        refine r_istore C dX1_make_69 (by decide) ?_
        refine r_iload C dX1_make_71 rfl ?_
        refine r_if_ne (tgt := 79) C dX1_make_73 (by decide) (fun c73 => absurd c73 ((fun q => q rfl))) (fun c73 => ?_)
        refine r_iinc (v := _ + (-1)) C dX1_make_76 rfl (by rfl) (by decide) ?_
        show V X 0 0 79 [_, _, _, some (.int (nI (w + 1) + (-1))), _, _, _] _ _
        rw [nI_m1, nI_pred]
        exact j79 0 (Or.inr ⟨rfl, n2⟩)
      · rw [if_neg n1, Nat.add_zero] at hnx
        rw [hnx, ← hwd]
        refine r_iload C dX1_make_51 rfl ?_
        refine r_iload_n C dX1_make_53 rfl rfl ?_
        refine r_icmp_ge (tgt := 148) C dX1_make_54 (by decide) (fun c54 => absurd c54 ((by rw [nI_leI (by omega) (by omega)]; omega))) (fun c54 => ?_)
        refine r_aload_n C dX1_make_57 rfl rfl ?_
        refine r_iload C dX1_make_58 rfl ?_
        refine r_iald C 4 rfl bi dX1_make_60 ?_
        rw [ki, hrow i hlt]
        refine r_if_le (tgt := 68) C dX1_make_61 (by decide) (fun c61 => absurd c61 ((fun q => absurd (Int32.lt_of_lt_of_le n2 q) Int32.lt_irrefl))) (fun c61 => ?_)
        refine r_iconst (v := 1) C dX1_make_64 (by decide) ?_
        refine r_goto (tgt := 69) C dX1_make_65 (by decide) ?_
        refine r_istore C dX1_make_69 (by decide) ?_
        refine r_iload C dX1_make_71 rfl ?_
        refine r_if_ne (tgt := 79) C dX1_make_73 (by decide) (fun c73 => ?_) (fun c73 => absurd c73 ((by decide)))
        exact j79 1 (Or.inl ⟨rfl, n2⟩)
  have j48 : ∀ (N' : Nt) (R' : Rt) (B2 : Sq) (o4 : Option Value), FmF (seq0 c s z (z * (k + 1))) s (z * k) hd tl b1 Z (N' 0) (R' 1) B2 → V X 0 0 48 [some (.ref (A 0)), some (.ref ra), some (.int (nI z)), some (.int (nI (ngd c z z z))), o4, none, none] [] (fW G Z A N' R' Q ++ ((ra, .inl (G.2.2 0, 300, .inl row)) :: P)) := by
    intro N' R' B2 o4 hF'
    refine r_iconst (v := 0) C dX1_make_48 (by decide) ?_
    refine r_istore C dX1_make_49 (by decide) ?_
    exact k51 z 0 hd tl N' R' B2 none none (by omega) hF'
  have k5 : ∀ (f i x : Nat), i + f = z → x + ngd c z z (z - i) = ngd c z z z → V X 0 0 5 [some (.ref (A 0)), some (.ref ra), some (.int (nI z)), some (.int (nI x)), some (.int (nI i)), none, none] [] (fW G Z A N R Q ++ ((ra, .inl (G.2.2 0, 300, .inl row)) :: P)) := by
    intro f
    induction f with
    | zero =>
      intro i x hi hx
      have hiz : i = z := by omega
      subst hiz
      rw [Nat.sub_self] at hx
      have hx' : x = ngd c i i i := hx
      subst hx'
      have hu := nle i (Nat.le_refl _)
      -- the power less all that are undone
      have hF1 : FmF (seq0 c s i (i * k)) s (i * k) hd tl b1 Z (va_up (N 0) 0 (N 0 0 - nI (ngd c i i i))) (R 1) B := by
        obtain ⟨⟨h1, h2, h3, h4, h5⟩, h6⟩ := hF
        refine ⟨⟨h1, h2, h3, ?_, h5⟩, h6⟩
        show N 0 0 - nI (ngd c i i i) = b1 + nI hd
        rw [hb1, h4, Int32.sub_eq_add_neg, Int32.sub_eq_add_neg, Int32.add_assoc, Int32.add_assoc, Int32.add_comm (nI hd)]
      by_cases hodd : ngd c i i i % 2 = 1
      · refine r_iload C dX1_make_5 rfl ?_
        refine r_iload_n C dX1_make_7 rfl rfl ?_
        refine r_icmp_ge (tgt := 27) C dX1_make_8 (by decide) (fun c8 => ?_) (fun c8 => absurd c8 ((fun q => q (by rw [nI_leI (by omega) (by omega)]; omega))))
        refine r_aload_n C dX1_make_27 rfl rfl ?_
        refine r_dup C dX1_make_28 rfl ?_
        refine fg_X1_9 C dX1_make_29 ?_
        refine r_iload_n C dX1_make_32 rfl rfl ?_
        refine r_isub C dX1_make_33 ?_
        refine fp_X1_9 C dX1_make_34 ?_
        refine r_iload_n C dX1_make_37 rfl rfl ?_
        refine r_iconst (v := 1) C dX1_make_38 (by decide) ?_
        refine r_iand C dX1_make_39 ?_
        refine r_iconst (v := 1) C dX1_make_40 (by decide) ?_
        refine r_icmp_ne (tgt := 48) C dX1_make_41 (by decide) (fun c41 => absurd c41 ((fun q => q ((and_1 _ (by omega)).mpr hodd)))) (fun c41 => ?_)
        refine r_aload_n C dX1_make_44 rfl rfl ?_
        refine a_callVv C (c_turnFactors G Z A _ (va_up N 0 (va_up (N 0) 0 (N 0 0 - nI (ngd c i i i)))) R Q (seq0_canF s7 hzk hok) hF1 (by omega)) kcX1_X1_turnFactors dX1_make_45 rfl (by decide) (by decide) (by decide) (Nat.le_of_ble_eq_true rfl) 0 rfl (ci := 1) rfl rfl rfl (fun R2 hR2 => ?_)
        exact j48 _ R2 (turnS s B) _ (hR2.congr (fun q hq => by rw [seq0_old s7 hok hq, if_pos hodd]; rfl))
      · refine r_iload C dX1_make_5 rfl ?_
        refine r_iload_n C dX1_make_7 rfl rfl ?_
        refine r_icmp_ge (tgt := 27) C dX1_make_8 (by decide) (fun c8 => ?_) (fun c8 => absurd c8 ((fun q => q (by rw [nI_leI (by omega) (by omega)]; omega))))
        refine r_aload_n C dX1_make_27 rfl rfl ?_
        refine r_dup C dX1_make_28 rfl ?_
        refine fg_X1_9 C dX1_make_29 ?_
        refine r_iload_n C dX1_make_32 rfl rfl ?_
        refine r_isub C dX1_make_33 ?_
        refine fp_X1_9 C dX1_make_34 ?_
        refine r_iload_n C dX1_make_37 rfl rfl ?_
        refine r_iconst (v := 1) C dX1_make_38 (by decide) ?_
        refine r_iand C dX1_make_39 ?_
        refine r_iconst (v := 1) C dX1_make_40 (by decide) ?_
        refine r_icmp_ne (tgt := 48) C dX1_make_41 (by decide) (fun c41 => ?_) (fun c41 => absurd c41 ((fun q => hodd ((and_1 _ (by omega)).mp q))))
        exact j48 _ R B _ (hF1.congr (fun q hq => by rw [seq0_old s7 hok hq, if_neg hodd]))
    | succ f ih =>
      intro i x hi hx
      have hlt : i < z := by omega
      have hnx := ngd_at c hlt
      have hzi : z - (i + 1) = z - 1 - i := by omega
      have j21 : ∀ x : Nat, x + ngd c z z (z - (i + 1)) = ngd c z z z → V X 0 0 21 [some (.ref (A 0)), some (.ref ra), some (.int (nI z)), some (.int (nI x)), some (.int (nI i)), none, none] [] (fW G Z A N R Q ++ ((ra, .inl (G.2.2 0, 300, .inl row)) :: P)) := by
        intro x hx
        refine r_iinc (v := _ + 1) C dX1_make_21 rfl (by rfl) (by decide) ?_
        refine r_goto (tgt := 5) C dX1_make_24 (by decide) ?_
        show V X 0 0 5 [_, _, _, _, some (.int (nI i + 1)), _, _] _ _
        rw [nI_1]
        exact ih (i + 1) x (by omega) hx
      by_cases hneg : c i < 0
      · rw [if_pos hneg] at hnx
        refine r_iload C dX1_make_5 rfl ?_
        refine r_iload_n C dX1_make_7 rfl rfl ?_
        refine r_icmp_ge (tgt := 27) C dX1_make_8 (by decide) (fun c8 => absurd c8 ((by rw [nI_leI (by omega) (by omega)]; omega))) (fun c8 => ?_)
        refine r_aload_n C dX1_make_11 rfl rfl ?_
        refine r_iload C dX1_make_12 rfl ?_
        refine r_iald C 4 rfl (vp_in_nI (show i < 300 by omega) (by decide)) dX1_make_14 ?_
        rw [nI_clamp (by omega), hrow i hlt]
        refine r_if_ge (tgt := 21) C dX1_make_15 (by decide) (fun c15 => absurd c15 ((fun q => absurd (Int32.lt_of_lt_of_le hneg q) Int32.lt_irrefl))) (fun c15 => ?_)
        refine r_iinc (v := _ + 1) C dX1_make_18 rfl (by rfl) (by decide) ?_
        show V X 0 0 21 [_, _, _, some (.int (nI x + 1)), _, _, _] _ _
        rw [nI_1]
        exact j21 (x + 1) (by rw [hzi]; omega)
      · rw [if_neg hneg] at hnx
        refine r_iload C dX1_make_5 rfl ?_
        refine r_iload_n C dX1_make_7 rfl rfl ?_
        refine r_icmp_ge (tgt := 27) C dX1_make_8 (by decide) (fun c8 => absurd c8 ((by rw [nI_leI (by omega) (by omega)]; omega))) (fun c8 => ?_)
        refine r_aload_n C dX1_make_11 rfl rfl ?_
        refine r_iload C dX1_make_12 rfl ?_
        refine r_iald C 4 rfl (vp_in_nI (show i < 300 by omega) (by decide)) dX1_make_14 ?_
        rw [nI_clamp (by omega), hrow i hlt]
        refine r_if_ge (tgt := 21) C dX1_make_15 (by decide) (fun c15 => ?_) (fun c15 => absurd c15 ((fun q => hneg (Int32.not_le.mp q))))
        exact j21 x (by rw [hzi]; omega)
  refine r_iconst (v := 0) C dX1_make_0 (by decide) ?_
  refine r_istore_n C dX1_make_1 rfl (by decide) ?_
  refine r_iconst (v := 0) C dX1_make_2 (by decide) ?_
  refine r_istore C dX1_make_3 (by decide) ?_
  exact k5 z 0 0 (by omega) (by rw [Nat.sub_zero]; omega)
end F5
