/-! the patterns of a bench, each in its cells -/
abbrev PbT : Type := (Nat → Nat) × Nt × Rt
def pbW (G : Gx) (o : Option PbT) : va_W := match o with
  | none => []
  | some b => pW G b.1 b.2.1 b.2.2 zQ
def plB (G : Gx) (pb : Nat → Option PbT) : va_W := (List.range 8).flatMap (fun k => pbW G (pb k))
def plO (G : Gx) (pb : Nat → Option PbT) (j : Nat) : va_W := ((List.range 8).erase j).flatMap (fun k => pbW G (pb k))
theorem pl_out {G : Gx} {pb : Nat → Option PbT} {j : Nat} (hj : j < 8) : (plB G pb).Perm (pbW G (pb j) ++ plO G pb j) :=
  (List.perm_cons_erase (List.mem_range.mpr hj)).flatMap_right (fun k => pbW G (pb k))
theorem plO_same {G : Gx} {pb : Nat → Option PbT} {j : Nat} {o : Option PbT} : plO G (va_up pb j o) j = plO G pb j := by
  unfold plO
  rw [List.flatMap_def, List.flatMap_def]
  congr 1
  refine List.map_congr_left (fun k hk => ?_)
  have : k ≠ j := fun e => by
    subst e
    exact (List.nodup_range.mem_erase_iff.mp hk).1 rfl
  rw [va_up_no this]
theorem pl_front {G : Gx} {pb : Nat → Option PbT} {j : Nat} {b : PbT} {w P : va_W} (hj : j < 8) (hb : pb j = some b) : (w ++ (plB G pb ++ P)).Perm (pW G b.1 b.2.1 b.2.2 zQ ++ (w ++ (plO G pb j ++ P))) := by
  have h := pl_out (G := G) (pb := pb) hj
  rw [hb] at h
  refine ((h.append_right P).append_left w).trans ?_
  rw [List.append_assoc]
  exact List.perm_append_comm_assoc w _ _
theorem pl_back {G : Gx} {pb : Nat → Option PbT} {j : Nat} {b : PbT} {w P : va_W} (hj : j < 8) : (pW G b.1 b.2.1 b.2.2 zQ ++ (w ++ (plO G pb j ++ P))).Perm (w ++ (plB G (va_up pb j (some b)) ++ P)) := by
  have h := pl_front (G := G) (pb := va_up pb j (some b)) (w := w) (P := P) hj va_up_at
  rw [plO_same] at h
  exact h.symm
/-- the patterns are as the rows T tell -/
def PtI (pb : Nat → Option PbT) (Q2 : Nat → Option Nat) (T : Rt) : Prop := ∀ j, j < 8 → (pb j = none ∧ Q2 j = none ∧ T 5 j = 0) ∨ ∃ b s z, pb j = some b ∧ Q2 j = some (b.1 0) ∧ PatOK T j s z ∧ PtK (rowOf T j) s z (b.2.1 0) b.2.2 ∧ ∃ s' hd tl, FmB (b.2.1 17) 300 s' hd tl
theorem PtI.up {pb : Nat → Option PbT} {Q2 : Nat → Option Nat} {T : Rt} (h : PtI pb Q2 T) {j s z : Nat} {b : PbT} {N' : Nt} {R' : Rt} (hb : pb j = some b) (hj : j < 8) (hQ : Q2 j = some (b.1 0)) (hp : PatOK T j s z) (hK : PtK (rowOf T j) s z (N' 0) R') (hF : ∃ s' hd tl, FmB (N' 17) 300 s' hd tl) : PtI (va_up pb j (some (b.1, N', R'))) Q2 T := by
  intro i hi
  by_cases e : i = j
  · subst e
    exact Or.inr ⟨(b.1, N', R'), s, z, va_up_at, hQ, hp, hK, hF⟩
  · rw [va_up_no e]
    exact h i hi
theorem PtI.pats {pb : Nat → Option PbT} {Q2 : Nat → Option Nat} {T : Rt} (h : PtI pb Q2 T) : PatsOK T := fun j hj h0 => by
  rcases h j hj with ⟨-, -, e⟩ | ⟨b, s, z, -, -, hp, -⟩
  · rw [e] at h0; exact absurd h0 (by decide)
  · exact ⟨s, z, hp⟩
/-- a number is no pattern's, or one's -/
theorem pat_case {pb : Nat → Option PbT} {Q : Qt} {T : Rt} (h : PtI pb (Q 2) T) (kk : Int32) : (patQ Q kk = none ∧ ¬ isPat T kk) ∨ ∃ j b s z, j < 8 ∧ kk = nI j ∧ pb j = some b ∧ Q 2 j = some (b.1 0) ∧ patQ Q kk = some (b.1 0) ∧ isPat T kk ∧ PatOK T j s z ∧ PtK (rowOf T j) s z (b.2.1 0) b.2.2 ∧ ∃ s' hd tl, FmB (b.2.1 17) 300 s' hd tl := by
  unfold patQ
  by_cases hk : ¬ kk < 0 ∧ kk < 8
  · obtain ⟨j, hj0, rfl⟩ := nI_of hk.1
    have hj : j < 8 := (nI_ltI (b := 8) hj0 (by decide)).mp hk.2
    rw [if_pos hk, cl_nI hj0]
    rcases h j hj with ⟨h1, h2, h3⟩ | ⟨b, s, z, h1, h2, h3, h4, h5⟩
    · refine Or.inl ⟨h2, ?_⟩
      rintro ⟨i, hi, e, h0⟩
      have := (nI_eq hj0 (by omega)).mp e
      subst this
      rw [h3] at h0
      exact absurd h0 (by decide)
    · refine Or.inr ⟨j, b, s, z, hj, rfl, h1, h2, h2, ⟨j, hj, rfl, ?_⟩, h3, h4, h5⟩
      rw [h3.1]
      exact pos_nI (by have := h3.2.1; omega) (by have := h3.2.2.1; omega)
  · refine Or.inl ⟨if_neg hk, ?_⟩
    rintro ⟨i, hi, rfl, h0⟩
    exact hk ⟨nI_pos (by omega), nI_lt (b := 8) hi (by decide)⟩
theorem isPat_0 {T : Rt} {j : Nat} (h : isPat T (nI j)) (hj : j < 8) : 0 < T 5 j := by
  obtain ⟨i, hi, e, h0⟩ := h
  have := (nI_eq (show j < 2 ^ 31 by omega) (show i < 2 ^ 31 by omega)).mp e
  subst this
  exact h0
/-- .. that may throw of its own, behind a call that may -/
def bY (G : Gx) (A : Nat → Nat) (P : va_W) (y : MethodName) (b : ByteArray) (nL : Nat) (rt : FieldType) (d : Nat) (avs : List Value) (N : Nt) (R : Rt) (Q : Qt) (px : Prop) (post : Int32 → Prop) : Prop :=
  XI G y (.code y b nL (some rt)) d 2 12 (.ref (A 0) :: avs) (bW G A N R Q ++ P) (px, nse, bW G A N R Q ++ P) (S := Unit) (fun r _ => post r) (fun _ => bW G A N R Q ++ P)
section PM
variable (G : Gx) (A : Nat → Nat) (P : va_W) (N : Nt) (R : Rt) (Q : Qt) (T : Rt) (pb : Nat → Option PbT)
theorem c_bsize (hI : PtI pb (Q 2) T) (kk : Int32) : XI G yX6_size (.code yX6_size cX6_size 3 (some .int)) 1 0 0 [.ref (A 0), .int kk] (bW G A N R Q ++ (plB G pb ++ P)) (False, nse, []) (S := Unit) (fun r _ => (∃ j, j < 8 ∧ kk = nI j ∧ 0 < T 5 j ∧ r = T 6 j) ∨ (¬ isPat T kk ∧ r = -1)) (fun _ => bW G A N R Q ++ (plB G pb ++ P)) := by
  refine XI.intro (by decide) (Nat.le_of_ble_eq_true rfl) (cat1 (xs := [kk])) fun X C hE hR hO hN => ?_
  refine r_aload_n C dX6_size_0 rfl rfl ?_
  refine r_iload_n C dX6_size_1 rfl rfl ?_
  refine a_callXq C hE (c_patternOrNull G A (plB G pb ++ P) N R Q kk) kcX6_X6_patternOrNull dX6_size_2 rfl (by decide) (by decide) (by decide) (Nat.le_of_ble_eq_true rfl) 0 rfl (ci := 6) rfl rfl rfl (fun q => q.elim) (fun o u hu => ?_)
  skip
  rcases pat_case hI kk with ⟨h1, h2⟩ | ⟨j, b, s, z, hj, rfl, hb, hQ, hq, hip, hp, hK, hF⟩
  · rw [h1] at hu
    subst hu
    refine r_astore_nN C dX6_size_5 rfl (by decide) ?_
    refine r_aload_nN C dX6_size_6 rfl rfl ?_
    refine r_ifnonnullN C dX6_size_7 ?_
    refine r_iconst (v := -1) C dX6_size_10 (by decide) ?_
    refine r_goto (tgt := 18) C dX6_size_11 (by decide) ?_
    exact hR _ _ _ _ _ () (by decide) (by decide) rfl (Or.inr ⟨h2, rfl⟩) dX6_size_18
  · rw [hq] at hu
    subst hu
    refine V.perm (pl_front hj hb) ?_
    refine r_astore_n C dX6_size_5 rfl (by decide) ?_
    refine r_aload_n C dX6_size_6 rfl rfl ?_
    refine r_ifnonnullR (tgt := 14) C dX6_size_7 (by decide) ?_
    refine r_aload_n C dX6_size_14 rfl rfl ?_
    refine pg_X6_111 C dX6_size_15 ?_
    refine V.perm (pl_front hj hb).symm ?_
    exact hR _ _ _ _ _ () (by decide) (by decide) rfl (Or.inl ⟨j, hj, rfl, isPat_0 hip hj, by rw [hK.2.1.1]; exact hp.2.2.2.1.symm⟩) dX6_size_18
theorem c_bcrossing (hI : PtI pb (Q 2) T) (kk jj : Int32) : bY G A (plB G pb ++ P) yX6_crossing cX6_crossing 4 .int 7 [.int kk, .int jj] N R Q (¬ isPat T kk ∨ ∃ j s z, j < 8 ∧ kk = nI j ∧ PatOK T j s z ∧ ∀ i : Nat, i < z → jj ≠ nI i) (fun r => ∃ j s z i, j < 8 ∧ kk = nI j ∧ PatOK T j s z ∧ i < z ∧ jj = nI i ∧ r = T 7 (300 * j + i)) := by
  refine XI.intro (by decide) (Nat.le_of_ble_eq_true rfl) (cat1 (xs := [kk, jj])) fun X C hE hR hO hN => ?_
  rcases pat_case hI kk with ⟨h1, h2⟩ | ⟨j, b, s, z, hj, rfl, hb, hQ, hq, hip, hp, hK, hF⟩
  · refine r_aload_n C dX6_crossing_0 rfl rfl ?_
    refine r_iload_n C dX6_crossing_1 rfl rfl ?_
    refine a_callXq C hE (c_knownPattern G A (plB G pb ++ P) N R Q kk) kcX6_X6_knownPattern dX6_crossing_2 rfl (by decide) (by decide) (by decide) (Nat.le_of_ble_eq_true rfl) 0 rfl (ci := 6) rfl rfl rfl (fun q => hO _ _ _ _ _ (by decide) (by decide) (Or.inl h2)) (fun o u hu => absurd (hu.1.trans h1) hu.2)
  · refine r_aload_n C dX6_crossing_0 rfl rfl ?_
    refine r_iload_n C dX6_crossing_1 rfl rfl ?_
    refine a_callXq C hE (c_knownPattern G A (plB G pb ++ P) N R Q (nI j)) kcX6_X6_knownPattern dX6_crossing_2 rfl (by decide) (by decide) (by decide) (Nat.le_of_ble_eq_true rfl) 0 rfl (ci := 6) rfl rfl rfl (fun q => absurd (hq.symm.trans q) (fun w => nomatch w)) (fun o u hu => ?_)
    skip
    rw [hq] at hu
    obtain ⟨rfl, -⟩ := hu
    obtain ⟨-, ⟨k2, z3⟩, -, kr, -⟩ := id hK
    refine V.perm (pl_front hj hb) ?_
    refine r_astore_n C dX6_crossing_5 rfl (by decide) ?_
    refine r_iload_n C dX6_crossing_6 rfl rfl ?_
    refine r_if_lt (tgt := 18) C dX6_crossing_7 (by decide) (fun c7 => ?_) (fun c7 => ?_)
    · refine V.perm (pl_front hj hb).symm ?_
      exact hN _ _ _ _ _ 102 115 106 "no such crossing" (by first | decide | omega) (by first | decide | omega) (Or.inr ⟨j, s, z, hj, rfl, hp, fun i hi e => by first | exact nI_pos (by omega) (e ▸ c7) | exact c15 (by rw [e]; exact nI_lt hi (by omega))⟩) (by decide) (Nat.le_of_ble_eq_true rfl) kt_nse (by decide) rfl dX6_crossing_18 dX6_crossing_21 dX6_crossing_22 dX6_crossing_24 dX6_crossing_27
    · refine r_iload_n C dX6_crossing_10 rfl rfl ?_
      refine r_aload_n C dX6_crossing_11 rfl rfl ?_
      refine pg_X6_111 C dX6_crossing_12 ?_
      rw [k2]
      refine r_icmp_lt (tgt := 28) C dX6_crossing_15 (by decide) (fun c15 => ?_) (fun c15 => ?_)
      · obtain ⟨i, hi0, e⟩ := nI_of c7
        rw [e, nI_ltI hi0 (by omega)] at c15
        subst e
        refine r_aload_n C dX6_crossing_28 rfl rfl ?_
        refine pg_X6_117 C dX6_crossing_29 ?_
        refine r_iload_n C dX6_crossing_32 rfl rfl ?_
        refine pl_1 C dX6_crossing_33 (vp_in_nI (show i < 300 by omega) (by decide)) ?_
        rw [nI_clamp (by omega), kr i c15]
        refine V.perm (pl_front hj hb).symm ?_
        exact hR _ _ _ _ _ () (by decide) (by decide) rfl ⟨j, s, z, i, hj, rfl, hp, c15, rfl, rfl⟩ dX6_crossing_34
      · refine V.perm (pl_front hj hb).symm ?_
        exact hN _ _ _ _ _ 102 115 106 "no such crossing" (by first | decide | omega) (by first | decide | omega) (Or.inr ⟨j, s, z, hj, rfl, hp, fun i hi e => by first | exact nI_pos (by omega) (e ▸ c7) | exact c15 (by rw [e]; exact nI_lt hi (by omega))⟩) (by decide) (Nat.le_of_ble_eq_true rfl) kt_nse (by decide) rfl dX6_crossing_18 dX6_crossing_21 dX6_crossing_22 dX6_crossing_24 dX6_crossing_27
theorem c_bgoes (hI : PtI pb (Q 2) T) (kk pp : Int32) : bY G A (plB G pb ++ P) yX6_goes cX6_goes 4 .int 7 [.int kk, .int pp] N R Q (¬ isPat T kk ∨ ∃ j s z, j < 8 ∧ kk = nI j ∧ PatOK T j s z ∧ ∀ p : Nat, 1 ≤ p → p ≤ s → pp ≠ nI p) (fun r => ∃ j s z p, j < 8 ∧ kk = nI j ∧ PatOK T j s z ∧ 1 ≤ p ∧ p ≤ s ∧ pp = nI p ∧ r = nI (gT (rowOf T j) z p)) := by
  refine XI.intro (by decide) (Nat.le_of_ble_eq_true rfl) (cat1 (xs := [kk, pp])) fun X C hE hR hO hN => ?_
  rcases pat_case hI kk with ⟨h1, h2⟩ | ⟨j, b, s, z, hj, rfl, hb, hQ, hq, hip, hp, hK, hF⟩
  · refine r_aload_n C dX6_goes_0 rfl rfl ?_
    refine r_iload_n C dX6_goes_1 rfl rfl ?_
    refine a_callXq C hE (c_knownPattern G A (plB G pb ++ P) N R Q kk) kcX6_X6_knownPattern dX6_goes_2 rfl (by decide) (by decide) (by decide) (Nat.le_of_ble_eq_true rfl) 0 rfl (ci := 6) rfl rfl rfl (fun q => hO _ _ _ _ _ (by decide) (by decide) (Or.inl h2)) (fun o u hu => absurd (hu.1.trans h1) hu.2)
  · refine r_aload_n C dX6_goes_0 rfl rfl ?_
    refine r_iload_n C dX6_goes_1 rfl rfl ?_
    refine a_callXq C hE (c_knownPattern G A (plB G pb ++ P) N R Q (nI j)) kcX6_X6_knownPattern dX6_goes_2 rfl (by decide) (by decide) (by decide) (Nat.le_of_ble_eq_true rfl) 0 rfl (ci := 6) rfl rfl rfl (fun q => absurd (hq.symm.trans q) (fun w => nomatch w)) (fun o u hu => ?_)
    skip
    rw [hq] at hu
    obtain ⟨rfl, -⟩ := hu
    obtain ⟨⟨k3, s2, s7⟩, -, -, -, kg, -⟩ := id hK
    refine V.perm (pl_front hj hb) ?_
    refine r_astore_n C dX6_goes_5 rfl (by decide) ?_
    refine r_aload_n C dX6_goes_6 rfl rfl ?_
    refine r_iload_n C dX6_goes_7 rfl rfl ?_
    refine a_callVi C (c_hasPlace G b.1 _ b.2.1 b.2.2 zQ pp k3 s7) kcX6_X3_hasPlace dX6_goes_8 rfl (by decide) (by decide) (by decide) (Nat.le_of_ble_eq_true rfl) 0 rfl (ci := 3) rfl rfl rfl (fun r u hr => ?_)
    skip
    rcases hr with ⟨p, p1, p2, rfl, rfl⟩ | ⟨hno, rfl⟩
    · refine r_if_ne (tgt := 24) C dX6_goes_11 (by decide) (fun c11 => ?_) (fun c11 => absurd c11 ((by decide)))
      refine r_aload_n C dX6_goes_24 rfl rfl ?_
      refine pg_X6_165 C dX6_goes_25 ?_
      refine r_iload_n C dX6_goes_28 rfl rfl ?_
      refine pl_2 C dX6_goes_29 (vp_in_nI (show p < 8 by omega) (by decide)) ?_
      rw [nI_clamp (by omega), kg p p1 p2]
      refine V.perm (pl_front hj hb).symm ?_
      exact hR _ _ _ _ _ () (by decide) (by decide) rfl ⟨j, s, z, p, hj, rfl, hp, p1, p2, rfl, rfl⟩ dX6_goes_30
    · refine r_if_ne (tgt := 24) C dX6_goes_11 (by decide) (fun c11 => absurd c11 ((fun q => q rfl))) (fun c11 => ?_)
      refine V.perm (pl_front hj hb).symm ?_
      exact hN _ _ _ _ _ 102 163 106 "no such place" (by first | decide | omega) (by first | decide | omega) (Or.inr ⟨j, s, z, hj, rfl, hp, hno⟩) (by decide) (Nat.le_of_ble_eq_true rfl) kt_nse (by decide) rfl dX6_goes_14 dX6_goes_17 dX6_goes_18 dX6_goes_20 dX6_goes_23
theorem c_buse (hI : PtI pb (Q 2) T) (kk pp : Int32) : bY G A (plB G pb ++ P) yX6_use cX6_use 4 .int 7 [.int kk, .int pp] N R Q (¬ isPat T kk ∨ ∃ j s z, j < 8 ∧ kk = nI j ∧ PatOK T j s z ∧ ∀ p : Nat, 1 ≤ p → p ≤ s → pp ≠ nI p) (fun r => ∃ j s z p, j < 8 ∧ kk = nI j ∧ PatOK T j s z ∧ 1 ≤ p ∧ p ≤ s ∧ pp = nI p ∧ r = nI (2 * lvMost (rowOf T j) z + usF (rowOf T j) p z)) := by
  refine XI.intro (by decide) (Nat.le_of_ble_eq_true rfl) (cat1 (xs := [kk, pp])) fun X C hE hR hO hN => ?_
  rcases pat_case hI kk with ⟨h1, h2⟩ | ⟨j, b, s, z, hj, rfl, hb, hQ, hq, hip, hp, hK, hF⟩
  · refine r_aload_n C dX6_use_0 rfl rfl ?_
    refine r_iload_n C dX6_use_1 rfl rfl ?_
    refine a_callXq C hE (c_knownPattern G A (plB G pb ++ P) N R Q kk) kcX6_X6_knownPattern dX6_use_2 rfl (by decide) (by decide) (by decide) (Nat.le_of_ble_eq_true rfl) 0 rfl (ci := 6) rfl rfl rfl (fun q => hO _ _ _ _ _ (by decide) (by decide) (Or.inl h2)) (fun o u hu => absurd (hu.1.trans h1) hu.2)
  · refine r_aload_n C dX6_use_0 rfl rfl ?_
    refine r_iload_n C dX6_use_1 rfl rfl ?_
    refine a_callXq C hE (c_knownPattern G A (plB G pb ++ P) N R Q (nI j)) kcX6_X6_knownPattern dX6_use_2 rfl (by decide) (by decide) (by decide) (Nat.le_of_ble_eq_true rfl) 0 rfl (ci := 6) rfl rfl rfl (fun q => absurd (hq.symm.trans q) (fun w => nomatch w)) (fun o u hu => ?_)
    skip
    rw [hq] at hu
    obtain ⟨rfl, -⟩ := hu
    obtain ⟨⟨k3, s2, s7⟩, -⟩ := id hK
    refine V.perm (pl_front hj hb) ?_
    refine r_astore_n C dX6_use_5 rfl (by decide) ?_
    refine r_aload_n C dX6_use_6 rfl rfl ?_
    refine r_iload_n C dX6_use_7 rfl rfl ?_
    refine a_callVi C (c_hasPlace G b.1 _ b.2.1 b.2.2 zQ pp k3 s7) kcX6_X3_hasPlace dX6_use_8 rfl (by decide) (by decide) (by decide) (Nat.le_of_ble_eq_true rfl) 0 rfl (ci := 3) rfl rfl rfl (fun r u hr => ?_)
    skip
    rcases hr with ⟨p, p1, p2, rfl, rfl⟩ | ⟨hno, rfl⟩
    · refine r_if_ne (tgt := 24) C dX6_use_11 (by decide) (fun c11 => ?_) (fun c11 => absurd c11 ((by decide)))
      refine r_aload_n C dX6_use_24 rfl rfl ?_
      refine r_iload_n C dX6_use_25 rfl rfl ?_
      refine a_callVi C (c_useFrom G b.1 _ b.2.1 b.2.2 zQ hK p1 p2) kcX6_X3_useFrom dX6_use_26 rfl (by decide) (by decide) (by decide) (Nat.le_of_ble_eq_true rfl) 0 rfl (ci := 3) rfl rfl rfl (fun r u hr => ?_)
      refine V.perm (pl_front hj hb).symm ?_
      exact hR _ _ _ _ _ () (by decide) (by decide) rfl ⟨j, s, z, p, hj, rfl, hp, p1, p2, rfl, hr⟩ dX6_use_29
    · refine r_if_ne (tgt := 24) C dX6_use_11 (by decide) (fun c11 => absurd c11 ((fun q => q rfl))) (fun c11 => ?_)
      refine V.perm (pl_front hj hb).symm ?_
      exact hN _ _ _ _ _ 102 163 106 "no such place" (by first | decide | omega) (by first | decide | omega) (Or.inr ⟨j, s, z, hj, rfl, hp, hno⟩) (by decide) (Nat.le_of_ble_eq_true rfl) kt_nse (by decide) rfl dX6_use_14 dX6_use_17 dX6_use_18 dX6_use_20 dX6_use_23
theorem c_btwine (hI : PtI pb (Q 2) T) (kk aa bb : Int32) : bY G A (plB G pb ++ P) yX6_twine cX6_twine 5 .int 7 [.int kk, .int aa, .int bb] N R Q (¬ isPat T kk ∨ ∃ j s z, j < 8 ∧ kk = nI j ∧ PatOK T j s z ∧ ∀ a b : Nat, 1 ≤ a → a ≤ s → 1 ≤ b → b ≤ s → a ≠ b → ¬ (aa = nI a ∧ bb = nI b)) (fun r => ∃ j s z a b, j < 8 ∧ kk = nI j ∧ PatOK T j s z ∧ 1 ≤ a ∧ a ≤ s ∧ aa = nI a ∧ 1 ≤ b ∧ b ≤ s ∧ bb = nI b ∧ a ≠ b ∧ twAns (rowOf T j) z s a b r) := by
  refine XI.intro (by decide) (Nat.le_of_ble_eq_true rfl) (cat1 (xs := [kk, aa, bb])) fun X C hE hR hO hN => ?_
  rcases pat_case hI kk with ⟨h1, h2⟩ | ⟨j, b, s, z, hj, rfl, hb, hQ, hq, hip, hp, hK, hF⟩
  · refine r_aload_n C dX6_twine_0 rfl rfl ?_
    refine r_iload_n C dX6_twine_1 rfl rfl ?_
    refine a_callXq C hE (c_knownPattern G A (plB G pb ++ P) N R Q kk) kcX6_X6_knownPattern dX6_twine_2 rfl (by decide) (by decide) (by decide) (Nat.le_of_ble_eq_true rfl) 0 rfl (ci := 6) rfl rfl rfl (fun q => hO _ _ _ _ _ (by decide) (by decide) (Or.inl h2)) (fun o u hu => absurd (hu.1.trans h1) hu.2)
  · refine r_aload_n C dX6_twine_0 rfl rfl ?_
    refine r_iload_n C dX6_twine_1 rfl rfl ?_
    refine a_callXq C hE (c_knownPattern G A (plB G pb ++ P) N R Q (nI j)) kcX6_X6_knownPattern dX6_twine_2 rfl (by decide) (by decide) (by decide) (Nat.le_of_ble_eq_true rfl) 0 rfl (ci := 6) rfl rfl rfl (fun q => absurd (hq.symm.trans q) (fun w => nomatch w)) (fun o u hu => ?_)
    skip
    rw [hq] at hu
    obtain ⟨rfl, -⟩ := hu
    obtain ⟨⟨k3, s2, s7⟩, -⟩ := id hK
    refine V.perm (pl_front hj hb) ?_
    have j30 : (∀ a b : Nat, 1 ≤ a → a ≤ s → 1 ≤ b → b ≤ s → a ≠ b → ¬ (aa = nI a ∧ bb = nI b)) → V X 1 6 30 [some (.ref (A 0)), some (.int (nI j)), some (.int aa), some (.int bb), some (.ref (b.1 0))] [] (pW G b.1 b.2.1 b.2.2 zQ ++ (bW G A N R Q ++ (plO G pb j ++ P))) := by
      intro hno
      refine V.perm (pl_front hj hb).symm ?_
      exact hN _ _ _ _ _ 102 168 106 "no such two places" (by first | decide | omega) (by first | decide | omega) (Or.inr ⟨j, s, z, hj, rfl, hp, hno⟩) (by decide) (Nat.le_of_ble_eq_true rfl) kt_nse (by decide) rfl dX6_twine_30 dX6_twine_33 dX6_twine_34 dX6_twine_36 dX6_twine_39
    refine r_astore C dX6_twine_5 (by decide) ?_
    refine r_aload C dX6_twine_7 rfl ?_
    refine r_iload_n C dX6_twine_9 rfl rfl ?_
    refine a_callVi C (c_hasPlace G b.1 _ b.2.1 b.2.2 zQ aa k3 s7) kcX6_X3_hasPlace dX6_twine_10 rfl (by decide) (by decide) (by decide) (Nat.le_of_ble_eq_true rfl) 0 rfl (ci := 3) rfl rfl rfl (fun r u hr => ?_)
    skip
    rcases hr with ⟨a', a1, a2, rfl, rfl⟩ | ⟨hno, rfl⟩
    rotate_left
    · refine r_if_eq (tgt := 30) C dX6_twine_13 (by decide) (fun c13 => ?_) (fun c13 => absurd c13 ((fun q => q rfl)))
      exact j30 (fun a b a1 a2 _ _ _ q => hno a a1 a2 q.1)
    refine r_if_eq (tgt := 30) C dX6_twine_13 (by decide) (fun c13 => absurd c13 ((by decide))) (fun c13 => ?_)
    refine r_aload C dX6_twine_16 rfl ?_
    refine r_iload_n C dX6_twine_18 rfl rfl ?_
    refine a_callVi C (c_hasPlace G b.1 _ b.2.1 b.2.2 zQ bb k3 s7) kcX6_X3_hasPlace dX6_twine_19 rfl (by decide) (by decide) (by decide) (Nat.le_of_ble_eq_true rfl) 0 rfl (ci := 3) rfl rfl rfl (fun r u hr => ?_)
    skip
    rcases hr with ⟨b', b1, b2, rfl, rfl⟩ | ⟨hno, rfl⟩
    rotate_left
    · refine r_if_eq (tgt := 30) C dX6_twine_22 (by decide) (fun c22 => ?_) (fun c22 => absurd c22 ((fun q => q rfl)))
      exact j30 (fun a b _ _ b1 b2 _ q => hno b b1 b2 q.2)
    by_cases hab : a' = b'
    · refine r_if_eq (tgt := 30) C dX6_twine_22 (by decide) (fun c22 => absurd c22 ((by decide))) (fun c22 => ?_)
      refine r_iload_n C dX6_twine_25 rfl rfl ?_
      refine r_iload_n C dX6_twine_26 rfl rfl ?_
      refine r_icmp_ne (tgt := 40) C dX6_twine_27 (by decide) (fun c27 => absurd c27 ((fun q => q (by rw [hab])))) (fun c27 => ?_)
      exact j30 (fun a b x1 x2 y1 y2 hne q => hne (by
          have e1 := (nI_eq (by omega) (by omega)).mp q.1
          have e2 := (nI_eq (by omega) (by omega)).mp q.2
          omega))
    · refine r_if_eq (tgt := 30) C dX6_twine_22 (by decide) (fun c22 => absurd c22 ((by decide))) (fun c22 => ?_)
      refine r_iload_n C dX6_twine_25 rfl rfl ?_
      refine r_iload_n C dX6_twine_26 rfl rfl ?_
      refine r_icmp_ne (tgt := 40) C dX6_twine_27 (by decide) (fun c27 => ?_) (fun c27 => absurd c27 ((fun q => hab ((nI_eq (by omega) (by omega)).mp q))))
      refine r_aload C dX6_twine_40 rfl ?_
      refine r_iload_n C dX6_twine_42 rfl rfl ?_
      refine r_iload_n C dX6_twine_43 rfl rfl ?_
      refine a_callVi C (c_twineOf G b.1 _ b.2.1 b.2.2 zQ hK a1 a2 b1 b2 hab) kcX6_X3_twineOf dX6_twine_44 rfl (by decide) (by decide) (by decide) (Nat.le_of_ble_eq_true rfl) 0 rfl (ci := 3) rfl rfl rfl (fun r u hr => ?_)
      refine V.perm (pl_front hj hb).symm ?_
      exact hR _ _ _ _ _ () (by decide) (by decide) rfl ⟨j, s, z, a', b', hj, rfl, hp, a1, a2, rfl, b1, b2, rfl, hab, hr⟩ dX6_twine_47
end PM
