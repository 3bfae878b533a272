/-! Pattern: cross -/
section PC2
variable (G : Gx) (A : Nat → Nat) (P : va_W) (N : Nt) (R : Rt) (Q : Qt)
/-- what crossings leave as it was -/
def crK (N N' : Nt) (R R' : Rt) : Prop := (∀ i, i ≠ 0 → N' i = N i) ∧ (∀ j, j ≠ 4 → j ≠ 14 → N' 0 j = N 0 j) ∧ ∀ i, (i < 3 ∨ 17 ≤ i) → R' i = R i
theorem crK.rf {N : Nt} {R : Rt} : crK N N R R := ⟨fun _ _ => rfl, fun _ _ _ => rfl, fun _ _ => rfl⟩
theorem crK.tr {N N1 N2 : Nt} {R R1 R2 : Rt} (h : crK N N1 R R1) (h' : crK N1 N2 R1 R2) : crK N N2 R R2 := ⟨fun i q => (h'.1 i q).trans (h.1 i q), fun j a b => (h'.2.1 j a b).trans (h.2.1 j a b), fun i q => (h'.2.2 i q).trans (h.2.2 i q)⟩
theorem lieN_14 {N : Nt} {R : Rt} {p : Nat} {sv : Int32} : lieN N R p sv 0 14 = if R 7 p = sv then 0 else N 0 14 := by
  unfold lieN
  by_cases w : R 7 p = sv
  · rw [if_pos w, if_pos w]; rfl
  · rw [if_neg w, if_neg w]
theorem lieN_0 {N : Nt} {R : Rt} {p : Nat} {sv : Int32} {i : Nat} (hi : i ≠ 0) : lieN N R p sv i = N i := by
  unfold lieN
  by_cases w : R 7 p = sv
  · rw [if_pos w, va_up_no hi]
  · rw [if_neg w]
theorem lieN_j {N : Nt} {R : Rt} {p : Nat} {sv : Int32} {j : Nat} (hj : j ≠ 14) : lieN N R p sv 0 j = N 0 j := by
  unfold lieN
  by_cases w : R 7 p = sv
  · rw [if_pos w, va_up_at, va_up_no hj]
  · rw [if_neg w]
theorem lieR_no {R : Rt} {p : Nat} {sv : Int32} {c : Nat} (h5 : c ≠ 5) (h6 : c ≠ 6) (h7 : c ≠ 7) : lieR R p sv c = R c := by
  unfold lieR
  rw [va_up_no h5, va_up_no h7, va_up_no h6]
theorem c_cross {c : Nat → Int32} {s z : Nat} (hT : TrOK c s z (N 0) R) (hs7 : s ≤ 7) (hok : ∀ j, j < z + 1 → okC s (c j)) (hz : z < 1000) (h3 : N 0 3 = nI s) : CV G yX3_cross cX3_cross 6 1 0 0 [.ref (A 0), .int (c z)] (pW G A N R Q ++ P) (S := Nt × Rt) (fun u => TrOK c s (z + 1) (u.1 0) u.2 ∧ crK N u.1 R u.2) (fun u => pW G A u.1 u.2 Q ++ P) := by
  refine CV.intro (by decide) (Nat.le_of_ble_eq_true rfl) (cat1 (xs := [c z])) fun X C hR => ?_
  have hokz := hok z (by omega)
  have hok' : ∀ j, j < z → okC s (c j) := fun j hj => hok j (by omega)
  obtain ⟨i, hi⟩ : ∃ i, i = ai (c z) := ⟨_, rfl⟩
  have hia := okC_ai hokz hs7
  rw [← hi] at hia
  have hab : (if 0 ≤ c z then c z else 0 - c z) = nI i := by rw [abs_ai hs7 hokz, hi]
  have hP := gT_perm (z := z) hs7 hok'
  obtain ⟨lo, lo1, lo2, hlo⟩ := perm_surj hP hia.1 (by omega)
  obtain ⟨up, up1, up2, hup⟩ := perm_surj hP (show 1 ≤ i + 1 by omega) (by omega)
  have hne : lo ≠ up := fun q => by rw [q, hup] at hlo; omega
  have e3l : R 3 i = nI lo := by have := hT.1 lo lo1 lo2; rw [hlo] at this; exact this
  have e3u : R 3 (i + 1) = nI up := by have := hT.1 up up1 up2; rw [hup] at this; exact this
  have bi : vp_in (nI i) 8 := vp_in_nI (by omega) (by decide)
  have bi1 : vp_in (nI (i + 1)) 8 := vp_in_nI (by omega) (by decide)
  have bim : vp_in (nI (i - 1)) 8 := vp_in_nI (by omega) (by decide)
  have blo : vp_in (nI lo) 8 := vp_in_nI (by omega) (by decide)
  have bup : vp_in (nI up) 8 := vp_in_nI (by omega) (by decide)
  have ci : (nI i).toNatClampNeg = i := nI_clamp (by omega)
  have ci1 : (nI (i + 1)).toNatClampNeg = i + 1 := nI_clamp (by omega)
  have cim : (nI (i - 1)).toNatClampNeg = i - 1 := nI_clamp (by omega)
  have clo : (nI lo).toNatClampNeg = lo := nI_clamp (by omega)
  have cup : (nI up).toNatClampNeg = up := nI_clamp (by omega)
  have em : nI i - 1 = nI (i - 1) := by rw [show (1 : Int32) = nI 1 from rfl, pk_sub hia.1]
  have hge1 : ∀ j, j < z → 1 ≤ ai (c j) := fun j hj => (okC_ai (hok' j hj) hs7).1
  have hla := la_lv (la_I z hge1) (by rw [← hi]; exact hia.1)
  rw [← hi] at hla
  have hlb : ∀ q, la c z q < 2 ^ 31 := fun q => by have := la_le (i := q) hge1; omega
  have hlm := lvMost_le (c := c) z
  have la1 : la c (z + 1) i = 1 + max (la c z i) (max (la c z (i - 1)) (la c z (i + 1))) := by
    show (if i = ai (c z) then _ else _) = _
    rw [if_pos hi]
  have lv1 : lvMost c (z + 1) = max (lvMost c z) (la c (z + 1) i) := by
    rw [la1, ← hla]
    show max (lvMost c z) (lvIn (lvF c z) c (ai (c z)) z) = _
    rw [hi]
  have hl1 : la c (z + 1) i < 2 ^ 31 := by
    have := la_le (c := c) (z := z + 1) (i := i) (fun j hj => (okC_ai (hok j hj) hs7).1)
    omega
  have j76 : ∀ ov uv : Int32, (ov = if 0 < c z then 1 else -1) → (uv = if 0 < c z then -1 else 1) → V X 0 0 76 [some (.ref (A 0)), some (.int (c z)), some (.int (nI i)), some (.int (nI lo)), some (.int (nI up)), some (.int ov)] [] (pW G A (lieN (lieN N R lo ov) (lieR R lo ov) up uv) (lieR (lieR R lo ov) up uv) Q ++ P) := by
    intro ov uv hov huv
    obtain ⟨N2, hN2⟩ : ∃ N2, N2 = lieN (lieN N R lo ov) (lieR R lo ov) up uv := ⟨_, rfl⟩
    obtain ⟨R2, hR2⟩ : ∃ R2, R2 = lieR (lieR R lo ov) up uv := ⟨_, rfl⟩
    rw [← hN2, ← hR2]
    have r2 : ∀ q, q ≠ 5 → q ≠ 6 → q ≠ 7 → R2 q = R q := fun q a b d => by rw [hR2, lieR_no a b d, lieR_no a b d]
    have e9l : R2 (9 + lo) = R (9 + lo) := r2 _ (by omega) (by omega) (by omega)
    have e9u : R2 (9 + up) = R (9 + up) := r2 _ (by omega) (by omega) (by omega)
    have e4 : ∀ q, q ≤ 7 → R2 4 q = nI (la c z q) := fun q hq => by rw [r2 4 (by decide) (by decide) (by decide)]; exact hT.2.1 q hq
    have n4 : N2 0 4 = nI (lvMost c z) := by rw [hN2, lieN_j (by decide), lieN_j (by decide)]; exact hT.2.2.1
    have h9u : ∀ F, (va_up R2 (9 + lo) F) (9 + up) = R (9 + up) := fun F => by rw [va_up_no (by omega)]; exact e9u
    refine r_aload_n C dX3_cross_76 rfl rfl ?_
    refine pg_X3_55 C dX3_cross_77 ?_
    refine r_iload_n C dX3_cross_80 rfl rfl ?_
    refine p_twl C (show lo < 8 by omega) dX3_cross_81 ?_
    refine r_iload C dX3_cross_82 rfl ?_
    refine r_dup2 C dX3_cross_84 rfl rfl ?_
    refine p_twld C (show lo < 8 by omega) dX3_cross_85 bup ?_
    rw [cup, e9l]
    refine r_iload C dX3_cross_86 rfl ?_
    refine r_iadd C dX3_cross_88 ?_
    refine p_tws C (show lo < 8 by omega) dX3_cross_89 bup ?_
    rw [cup, e9l]
    refine r_aload_n C dX3_cross_90 rfl rfl ?_
    refine pg_X3_55 C dX3_cross_91 ?_
    refine r_iload C dX3_cross_94 rfl ?_
    refine p_twl C (show up < 8 by omega) dX3_cross_96 ?_
    refine r_iload_n C dX3_cross_97 rfl rfl ?_
    refine r_dup2 C dX3_cross_98 rfl rfl ?_
    refine p_twld C (show up < 8 by omega) dX3_cross_99 blo ?_
    rw [clo, h9u]
    refine r_iload C dX3_cross_100 rfl ?_
    refine r_iadd C dX3_cross_102 ?_
    refine p_tws C (show up < 8 by omega) dX3_cross_103 blo ?_
    rw [clo, h9u]
    obtain ⟨R4, hR4⟩ : ∃ R4, R4 = va_up (va_up R2 (9 + lo) (upd (R (9 + lo)) up (R (9 + lo) up + ov))) (9 + up) (upd (R (9 + up)) lo (R (9 + up) lo + ov)) := ⟨_, rfl⟩
    rw [← hR4]
    have r4 : ∀ q, (q < 9 ∨ 17 ≤ q) → R4 q = R2 q := fun q hq => by rw [hR4, va_up_no (by omega), va_up_no (by omega)]
    have e4' : ∀ q, q ≤ 7 → R4 4 q = nI (la c z q) := fun q hq => by rw [r4 4 (by omega)]; exact e4 q hq
    refine r_aload_n C dX3_cross_104 rfl rfl ?_
    refine pg_X3_38 C dX3_cross_105 ?_
    refine r_iload_n C dX3_cross_108 rfl rfl ?_
    refine r_iload C dX3_cross_109 rfl ?_
    refine ps_3 C dX3_cross_111 (bi) ?_
    rw [ci]
    refine r_aload_n C dX3_cross_112 rfl rfl ?_
    refine pg_X3_38 C dX3_cross_113 ?_
    refine r_iload_n C dX3_cross_116 rfl rfl ?_
    refine r_iconst (v := 1) C dX3_cross_117 (by decide) ?_
    refine r_iadd C dX3_cross_118 ?_
    rw [nI_1]
    refine r_iload_n C dX3_cross_119 rfl rfl ?_
    refine ps_3 C dX3_cross_120 (bi1) ?_
    rw [ci1]
    refine r_aload_n C dX3_cross_121 rfl rfl ?_
    refine pg_X3_41 C dX3_cross_122 ?_
    refine r_iload_n C dX3_cross_125 rfl rfl ?_
    refine r_iconst (v := 1) C dX3_cross_126 (by decide) ?_
    refine r_aload_n C dX3_cross_127 rfl rfl ?_
    refine pg_X3_41 C dX3_cross_128 ?_
    refine r_iload_n C dX3_cross_131 rfl rfl ?_
    refine pl_4 C dX3_cross_132 (bi) ?_
    rw [ci]
    refine r_aload_n C dX3_cross_133 rfl rfl ?_
    refine pg_X3_41 C dX3_cross_134 ?_
    refine r_iload_n C dX3_cross_137 rfl rfl ?_
    refine r_iconst (v := 1) C dX3_cross_138 (by decide) ?_
    refine r_isub C dX3_cross_139 ?_
    rw [em]
    refine pl_4 C dX3_cross_140 (bim) ?_
    rw [cim]
    refine r_aload_n C dX3_cross_141 rfl rfl ?_
    refine pg_X3_41 C dX3_cross_142 ?_
    refine r_iload_n C dX3_cross_145 rfl rfl ?_
    refine r_iconst (v := 1) C dX3_cross_146 (by decide) ?_
    refine r_iadd C dX3_cross_147 ?_
    rw [nI_1]
    refine pl_4 C dX3_cross_148 (bi1) ?_
    rw [ci1]
    show V X 0 0 149 _ (.int (R4 4 (i + 1)) :: .int (R4 4 (i - 1)) :: .int (R4 4 i) :: .int 1 :: .int (nI i) :: .ref (A 4) :: []) _
    rw [e4' _ (by omega), e4' _ (by omega), e4' _ (by omega)]
    refine r_mmax C km_X3_125 (by decide) (by decide) (by decide) (Nat.le_of_ble_eq_true rfl) dX3_cross_149 ?_
    rw [mx_nI (hlb _) (hlb _)]
    refine r_mmax C km_X3_125 (by decide) (by decide) (by decide) (Nat.le_of_ble_eq_true rfl) dX3_cross_152 ?_
    have b1 := hlb i; have b2 := hlb (i - 1); have b3 := hlb (i + 1)
    rw [mx_nI (hlb _) (by omega)]
    refine r_iadd C dX3_cross_155 ?_
    rw [show (1 : Int32) = nI 1 from rfl, nI_add, ← la1]
    refine ps_4 C dX3_cross_156 (bi) ?_
    rw [ci]
    refine r_aload_n C dX3_cross_157 rfl rfl ?_
    refine r_aload_n C dX3_cross_158 rfl rfl ?_
    refine pg_X3_25 C dX3_cross_159 ?_
    refine r_aload_n C dX3_cross_162 rfl rfl ?_
    refine pg_X3_41 C dX3_cross_163 ?_
    refine r_iload_n C dX3_cross_166 rfl rfl ?_
    refine pl_4 C dX3_cross_167 (bi) ?_
    show V X 0 0 168 _ (.int ((upd (R4 4) i (nI (la c (z + 1) i))) (nI i).toNatClampNeg) :: .int (N2 0 4) :: .ref (A 0) :: []) _
    rw [ci, pk_us, n4]
    refine r_mmax C km_X3_125 (by decide) (by decide) (by decide) (Nat.le_of_ble_eq_true rfl) dX3_cross_168 ?_
    rw [mx_nI (by omega) hl1, ← lv1]
    refine pp_X3_25 C dX3_cross_171 ?_
    refine hR _ _ _ _ (_, _) (by decide) (by decide) ⟨?_, ?_⟩ dX3_cross_174
    · refine Tr_step (i := i) (lo := lo) (up := up) (ov := ov) (uv := uv) hT hs7 hok hi.symm lo1 lo2 hlo up1 up2 hup hov huv ?_ ?_ ?_ ?_ ?_ ?_ ?_ ?_
      · show upd (upd (R4 3) i (nI up)) (i + 1) (nI lo) = _
        rw [r4 3 (by omega), r2 3 (by decide) (by decide) (by decide)]
      · show upd (R4 4) i _ = _
        rw [r4 4 (by omega), r2 4 (by decide) (by decide) (by decide)]
      · rfl
      · show R4 6 = _
        rw [r4 6 (by omega), hR2]
        rfl
      · show R4 7 = _
        rw [r4 7 (by omega), hR2]
        rfl
      · show N2 0 14 = _
        rw [hN2, lieN_14, lieN_14]
        rfl
      · show R4 5 = _
        rw [r4 5 (by omega), hR2]
        rfl
      · refine ⟨fun a a1 a2 => ?_, ?_, ?_⟩
        · show va_up (va_up (va_up R4 3 _) 3 _) 4 _ (9 + a) = _
          rw [va_up_no (by omega), va_up_no (by omega), va_up_no (by omega), hR4, va_up_no (by omega), va_up_no (by omega), r2 _ (by omega) (by omega) (by omega)]
        · show va_up (va_up (va_up R4 3 _) 3 _) 4 _ (9 + lo) = _
          rw [va_up_no (by omega), va_up_no (by omega), va_up_no (by omega), hR4, va_up_no (by omega), va_up_at]
        · show va_up (va_up (va_up R4 3 _) 3 _) 4 _ (9 + up) = _
          rw [va_up_no (by omega), va_up_no (by omega), va_up_no (by omega), hR4, va_up_at]
    · refine ⟨fun q hq => ?_, fun q a b => ?_, fun q hq => ?_⟩
      · show va_up N2 0 _ q = _
        rw [va_up_no hq, hN2, lieN_0 hq, lieN_0 hq]
      · show va_up (N2 0) 4 _ q = _
        rw [va_up_no a, hN2, lieN_j b, lieN_j b]
      · show va_up (va_up (va_up R4 3 _) 3 _) 4 _ q = _
        rw [va_up_no (by omega), va_up_no (by omega), va_up_no (by omega), r4 q (by omega), r2 _ (by omega) (by omega) (by omega)]
  have hlt : nI i < nI s := nI_lt hia.2 (by omega)
  by_cases hpos : 0 < c z
  · refine r_iload_n C dX3_cross_0 rfl rfl ?_
    refine r_mabs C km_X3_118 (by decide) (by decide) (by decide) (Nat.le_of_ble_eq_true rfl) dX3_cross_1 ?_
    rw [hab]
    refine r_istore_n C dX3_cross_4 rfl (by decide) ?_
    refine r_iload_n C dX3_cross_5 rfl rfl ?_
    refine r_iconst (v := 1) C dX3_cross_6 (by decide) ?_
    refine r_icmp_lt (tgt := 18) C dX3_cross_7 (by decide) (fun c7 => absurd c7 ((by rw [show (1 : Int32) = nI 1 from rfl, nI_ltI (by omega) (by decide)]; omega))) (fun c7 => ?_)
    refine r_iload_n C dX3_cross_10 rfl rfl ?_
    refine r_aload_n C dX3_cross_11 rfl rfl ?_
    refine pg_X3_22 C dX3_cross_12 ?_
    rw [h3]
    refine r_icmp_lt (tgt := 19) C dX3_cross_15 (by decide) (fun c15 => ?_) (fun c15 => absurd c15 ((fun q => q hlt)))
    refine r_aload_n C dX3_cross_19 rfl rfl ?_
    refine pg_X3_38 C dX3_cross_20 ?_
    refine r_iload_n C dX3_cross_23 rfl rfl ?_
    refine pl_3 C dX3_cross_24 (bi) ?_
    rw [ci, e3l]
    refine r_istore_n C dX3_cross_25 rfl (by decide) ?_
    refine r_aload_n C dX3_cross_26 rfl rfl ?_
    refine pg_X3_38 C dX3_cross_27 ?_
    refine r_iload_n C dX3_cross_30 rfl rfl ?_
    refine r_iconst (v := 1) C dX3_cross_31 (by decide) ?_
    refine r_iadd C dX3_cross_32 ?_
    rw [nI_1]
    refine pl_3 C dX3_cross_33 (bi1) ?_
    rw [ci1, e3u]
    refine r_istore C dX3_cross_34 (by decide) ?_
    refine r_aload_n C dX3_cross_36 rfl rfl ?_
    refine r_iload_n C dX3_cross_37 rfl rfl ?_
    refine r_iload_n C dX3_cross_38 rfl rfl ?_
    refine r_if_le (tgt := 46) C dX3_cross_39 (by decide) (fun c39 => absurd c39 ((fun q => absurd (Int32.lt_of_lt_of_le hpos q) Int32.lt_irrefl))) (fun c39 => ?_)
    refine r_iconst (v := 1) C dX3_cross_42 (by decide) ?_
    refine r_goto (tgt := 47) C dX3_cross_43 (by decide) ?_
    refine a_callVv C (c_lieAt G A P N R Q (p := lo) 1 (by omega)) kcX3_X3_lieAt dX3_cross_47 rfl (by decide) (by decide) (by decide) (Nat.le_of_ble_eq_true rfl) 0 rfl (ci := 3) rfl rfl rfl (fun u hu => ?_)
    rw [hu.1, hu.2]
    refine r_aload_n C dX3_cross_50 rfl rfl ?_
    refine r_iload C dX3_cross_51 rfl ?_
    refine r_iload_n C dX3_cross_53 rfl rfl ?_
    refine r_if_le (tgt := 61) C dX3_cross_54 (by decide) (fun c54 => absurd c54 ((fun q => absurd (Int32.lt_of_lt_of_le hpos q) Int32.lt_irrefl))) (fun c54 => ?_)
    refine r_iconst (v := -1) C dX3_cross_57 (by decide) ?_
    refine r_goto (tgt := 62) C dX3_cross_58 (by decide) ?_
    refine a_callVv C (c_lieAt G A P _ _ Q (p := up) (-1) (by omega)) kcX3_X3_lieAt dX3_cross_62 rfl (by decide) (by decide) (by decide) (Nat.le_of_ble_eq_true rfl) 0 rfl (ci := 3) rfl rfl rfl (fun u hu => ?_)
    rw [hu.1, hu.2]
    refine r_iload_n C dX3_cross_65 rfl rfl ?_
    refine r_if_le (tgt := 73) C dX3_cross_66 (by decide) (fun c66 => absurd c66 ((fun q => absurd (Int32.lt_of_lt_of_le hpos q) Int32.lt_irrefl))) (fun c66 => ?_)
    refine r_iconst (v := 1) C dX3_cross_69 (by decide) ?_
    refine r_goto (tgt := 74) C dX3_cross_70 (by decide) ?_
    refine r_istore C dX3_cross_74 (by decide) ?_
    exact j76 1 (-1) (by rw [if_pos hpos]) (by rw [if_pos hpos])
  · refine r_iload_n C dX3_cross_0 rfl rfl ?_
    refine r_mabs C km_X3_118 (by decide) (by decide) (by decide) (Nat.le_of_ble_eq_true rfl) dX3_cross_1 ?_
    rw [hab]
    refine r_istore_n C dX3_cross_4 rfl (by decide) ?_
    refine r_iload_n C dX3_cross_5 rfl rfl ?_
    refine r_iconst (v := 1) C dX3_cross_6 (by decide) ?_
    refine r_icmp_lt (tgt := 18) C dX3_cross_7 (by decide) (fun c7 => absurd c7 ((by rw [show (1 : Int32) = nI 1 from rfl, nI_ltI (by omega) (by decide)]; omega))) (fun c7 => ?_)
    refine r_iload_n C dX3_cross_10 rfl rfl ?_
    refine r_aload_n C dX3_cross_11 rfl rfl ?_
    refine pg_X3_22 C dX3_cross_12 ?_
    rw [h3]
    refine r_icmp_lt (tgt := 19) C dX3_cross_15 (by decide) (fun c15 => ?_) (fun c15 => absurd c15 ((fun q => q hlt)))
    refine r_aload_n C dX3_cross_19 rfl rfl ?_
    refine pg_X3_38 C dX3_cross_20 ?_
    refine r_iload_n C dX3_cross_23 rfl rfl ?_
    refine pl_3 C dX3_cross_24 (bi) ?_
    rw [ci, e3l]
    refine r_istore_n C dX3_cross_25 rfl (by decide) ?_
    refine r_aload_n C dX3_cross_26 rfl rfl ?_
    refine pg_X3_38 C dX3_cross_27 ?_
    refine r_iload_n C dX3_cross_30 rfl rfl ?_
    refine r_iconst (v := 1) C dX3_cross_31 (by decide) ?_
    refine r_iadd C dX3_cross_32 ?_
    rw [nI_1]
    refine pl_3 C dX3_cross_33 (bi1) ?_
    rw [ci1, e3u]
    refine r_istore C dX3_cross_34 (by decide) ?_
    refine r_aload_n C dX3_cross_36 rfl rfl ?_
    refine r_iload_n C dX3_cross_37 rfl rfl ?_
    refine r_iload_n C dX3_cross_38 rfl rfl ?_
    refine r_if_le (tgt := 46) C dX3_cross_39 (by decide) (fun c39 => ?_) (fun c39 => absurd c39 ((fun q => hpos (Int32.not_le.mp q))))
    refine r_iconst (v := -1) C dX3_cross_46 (by decide) ?_
    refine a_callVv C (c_lieAt G A P N R Q (p := lo) (-1) (by omega)) kcX3_X3_lieAt dX3_cross_47 rfl (by decide) (by decide) (by decide) (Nat.le_of_ble_eq_true rfl) 0 rfl (ci := 3) rfl rfl rfl (fun u hu => ?_)
    rw [hu.1, hu.2]
    refine r_aload_n C dX3_cross_50 rfl rfl ?_
    refine r_iload C dX3_cross_51 rfl ?_
    refine r_iload_n C dX3_cross_53 rfl rfl ?_
    refine r_if_le (tgt := 61) C dX3_cross_54 (by decide) (fun c54 => ?_) (fun c54 => absurd c54 ((fun q => hpos (Int32.not_le.mp q))))
    refine r_iconst (v := 1) C dX3_cross_61 (by decide) ?_
    refine a_callVv C (c_lieAt G A P _ _ Q (p := up) 1 (by omega)) kcX3_X3_lieAt dX3_cross_62 rfl (by decide) (by decide) (by decide) (Nat.le_of_ble_eq_true rfl) 0 rfl (ci := 3) rfl rfl rfl (fun u hu => ?_)
    rw [hu.1, hu.2]
    refine r_iload_n C dX3_cross_65 rfl rfl ?_
    refine r_if_le (tgt := 73) C dX3_cross_66 (by decide) (fun c66 => ?_) (fun c66 => absurd c66 ((fun q => hpos (Int32.not_le.mp q))))
    refine r_iconst (v := -1) C dX3_cross_73 (by decide) ?_
    refine r_istore C dX3_cross_74 (by decide) ?_
    exact j76 (-1) 1 (by rw [if_neg hpos]) (by rw [if_neg hpos])
end PC2
