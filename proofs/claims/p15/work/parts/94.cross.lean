/-! Pattern: lieAt, cross -/
def sdI (n : Nat) : Int32 := if n = 1 then 1 else if n = 2 then -1 else 0
theorem sdI_0 {n : Nat} (h : n ≤ 2) : sdI n = 0 ↔ n = 0 := by
  rcases (show n = 0 ∨ n = 1 ∨ n = 2 by omega) with rfl | rfl | rfl <;> decide
theorem sdI_inj {n m : Nat} (h : n ≤ 2) (h' : m ≤ 2) : sdI n = sdI m ↔ n = m := by
  rcases (show n = 0 ∨ n = 1 ∨ n = 2 by omega) with rfl | rfl | rfl <;> rcases (show m = 0 ∨ m = 1 ∨ m = 2 by omega) with rfl | rfl | rfl <;> decide
theorem fsF_le {c : Nat → Int32} {p : Nat} : ∀ z, fsF c p z ≤ 2
  | 0 => by show 0 ≤ 2; omega
  | z + 1 => by
    have ih := fsF_le (c := c) (p := p) z
    have := sd_le (gT c z p) (c z)
    unfold fsF
    split <;> omega
theorem lsF_le {c : Nat → Int32} {p : Nat} : ∀ z, lsF c p z ≤ 2
  | 0 => by show 0 ≤ 2; omega
  | z + 1 => by
    have ih := lsF_le (c := c) (p := p) z
    have := sd_le (gT c z p) (c z)
    unfold lsF
    split <;> omega
theorem mx_nI {a b : Nat} (ha : a < 2 ^ 31) (hb : b < 2 ^ 31) : (if nI a < nI b then nI b else nI a) = nI (max a b) := by
  by_cases h : a < b
  · rw [if_pos (nI_lt h hb), Nat.max_eq_right (by omega)]
  · rw [if_neg (nI_nlt (by omega) ha), Nat.max_eq_left (by omega)]
theorem abs_ai {s : Nat} {c : Int32} (hs : s ≤ 7) (h : okC s c) : (if 0 ≤ c then c else 0 - c) = nI (ai c) := by
  obtain ⟨i, h1, h2, rfl | rfl⟩ := h
  · rw [if_pos (show (0 : Int32) ≤ nI i from nI_le (a := 0) (b := i) (Nat.zero_le _) (by omega)), ai_nI (by omega)]
  · rw [if_neg, ai_neg (by omega), Int32.zero_sub, Int32.neg_neg]
    intro q
    exact absurd (Int32.lt_of_le_of_lt q (neg_lt0 h1 (by omega))) (Int32.lt_irrefl)
/-- what the rows of a pattern hold behind the first z crossings -/
def TrOK (c : Nat → Int32) (s z : Nat) (N : Nat → Int32) (R : Rt) : Prop :=
  (∀ p, 1 ≤ p → p ≤ s → R 3 (gT c z p) = nI p) ∧ (∀ i, i ≤ 7 → R 4 i = nI (la c z i)) ∧ N 4 = nI (lvMost c z) ∧ (∀ p, 1 ≤ p → p ≤ s → R 5 p = nI (usF c p z)) ∧ (∀ p, 1 ≤ p → p ≤ s → R 6 p = sdI (fsF c p z) ∧ R 7 p = sdI (lsF c p z)) ∧ ((N 14 = 1 ∧ ∀ p, 1 ≤ p → p ≤ s → okT c p z) ∨ (N 14 = 0 ∧ ¬ ∀ p, 1 ≤ p → p ≤ s → okT c p z)) ∧ ∀ a b, 1 ≤ a → a ≤ s → 1 ≤ b → b ≤ s → a ≠ b → R (9 + a) b = tw1 c z a b
theorem Tr_step {c : Nat → Int32} {s z i lo up : Nat} {N N' : Nat → Int32} {R R' : Rt} {ov uv : Int32} (hT : TrOK c s z N R) (hs : s ≤ 7) (hok : ∀ j, j < z + 1 → okC s (c j)) (hi : ai (c z) = i) (lo1 : 1 ≤ lo) (lo2 : lo ≤ s) (hlo : gT c z lo = i) (up1 : 1 ≤ up) (up2 : up ≤ s) (hup : gT c z up = i + 1) (hov : ov = if 0 < c z then 1 else -1) (huv : uv = if 0 < c z then -1 else 1)
    (h3 : R' 3 = upd (upd (R 3) i (nI up)) (i + 1) (nI lo)) (h4 : R' 4 = upd (R 4) i (nI (la c (z + 1) i))) (hN4 : N' 4 = nI (lvMost c (z + 1)))
    (h6 : R' 6 = if (if R 6 lo = 0 then upd (R 6) lo ov else R 6) up = 0 then upd (if R 6 lo = 0 then upd (R 6) lo ov else R 6) up uv else (if R 6 lo = 0 then upd (R 6) lo ov else R 6))
    (h7 : R' 7 = upd (upd (R 7) lo ov) up uv) (hN14 : N' 14 = if (upd (R 7) lo ov) up = uv then 0 else if R 7 lo = ov then 0 else N 14)
    (h5 : R' 5 = if uv = 1 then upd (if ov = 1 then upd (R 5) lo (R 5 lo + 1) else R 5) up ((if ov = 1 then upd (R 5) lo (R 5 lo + 1) else R 5) up + 1) else (if ov = 1 then upd (R 5) lo (R 5 lo + 1) else R 5))
    (h9 : (∀ a, a ≠ lo → a ≠ up → R' (9 + a) = R (9 + a)) ∧ R' (9 + lo) = upd (R (9 + lo)) up (R (9 + lo) up + ov) ∧ R' (9 + up) = upd (R (9 + up)) lo (R (9 + up) lo + ov)) : TrOK c s (z + 1) N' R' := by
  obtain ⟨t3, t4, tN, t5, t67, t14, t9⟩ := hT
  have hok' : ∀ j, j < z → okC s (c j) := fun j hj => hok j (by omega)
  have hP := gT_perm (z := z) hs hok'
  have hia := okC_ai (hok z (by omega)) hs
  rw [hi] at hia
  have hne : lo ≠ up := fun q => by rw [q, hup] at hlo; omega
  have isl : ∀ p, 1 ≤ p → p ≤ s → gT c z p = i → p = lo := fun p a b e => hP.2 p lo a b lo1 lo2 (e.trans hlo.symm)
  have isu : ∀ p, 1 ≤ p → p ≤ s → gT c z p = i + 1 → p = up := fun p a b e => hP.2 p up a b up1 up2 (e.trans hup.symm)
  have sdl : sd (gT c z lo) (c z) = if 0 < c z then 1 else 2 := by
    rw [hlo]
    by_cases w : 0 < c z
    · rw [if_pos w]; exact sd_ov (Or.inl ⟨hi.symm, w⟩)
    · rw [if_neg w]; exact sd_un (Or.inl ⟨hi.symm, w⟩)
  have sdu : sd (gT c z up) (c z) = if 0 < c z then 2 else 1 := by
    rw [hup]
    by_cases w : 0 < c z
    · rw [if_pos w]; exact sd_un (Or.inr ⟨by rw [hi], w⟩)
    · rw [if_neg w]; exact sd_ov (Or.inr ⟨by rw [hi], w⟩)
  have sdn : ∀ p, 1 ≤ p → p ≤ s → p ≠ lo → p ≠ up → sd (gT c z p) (c z) = 0 := fun p a b n1 n2 => sd_no (fun q => n1 (isl p a b (by rw [q, hi]))) (fun q => n2 (isu p a b (by rw [q, hi])))
  have eov : ov = sdI (sd (gT c z lo) (c z)) := by rw [sdl, hov]; by_cases w : 0 < c z <;> simp [w, sdI]
  have euv : uv = sdI (sd (gT c z up) (c z)) := by rw [sdu, huv]; by_cases w : 0 < c z <;> simp [w, sdI]
  have sdl0 : sd (gT c z lo) (c z) ≠ 0 := by rw [sdl]; split <;> omega
  have sdu0 : sd (gT c z up) (c z) ≠ 0 := by rw [sdu]; split <;> omega
  have gl : gT c (z + 1) lo = i + 1 := by show sw (ai (c z)) (gT c z lo) = _; rw [hi, hlo, sw_l]
  have gu : gT c (z + 1) up = i := by show sw (ai (c z)) (gT c z up) = _; rw [hi, hup, sw_r]
  have gn : ∀ p, 1 ≤ p → p ≤ s → p ≠ lo → p ≠ up → gT c (z + 1) p = gT c z p ∧ gT c z p ≠ i ∧ gT c z p ≠ i + 1 := fun p a b n1 n2 => by
    have q1 : gT c z p ≠ i := fun q => n1 (isl p a b q)
    have q2 : gT c z p ≠ i + 1 := fun q => n2 (isu p a b q)
    refine ⟨?_, q1, q2⟩
    show sw (ai (c z)) (gT c z p) = _
    rw [hi, sw_n q1 q2]
  have hF : ∀ p, fsF c p (z + 1) = if fsF c p z = 0 then sd (gT c z p) (c z) else fsF c p z := fun _ => rfl
  have hL : ∀ p, lsF c p (z + 1) = if sd (gT c z p) (c z) = 0 then lsF c p z else sd (gT c z p) (c z) := fun _ => rfl
  have hU : ∀ p, usF c p (z + 1) = usF c p z + if sd (gT c z p) (c z) = 1 then 1 else 0 := fun _ => rfl
  have hO : ∀ p, okT c p (z + 1) ↔ okT c p z ∧ (sd (gT c z p) (c z) = 0 ∨ sd (gT c z p) (c z) ≠ lsF c p z) := fun _ => Iff.rfl
  have f6 : ∀ p, 1 ≤ p → p ≤ s → (R 6 p = 0 ↔ fsF c p z = 0) := fun p a b => by rw [(t67 p a b).1]; exact sdI_0 (fsF_le z)
  have r6l : (if R 6 lo = 0 then upd (R 6) lo ov else R 6) lo = sdI (fsF c lo (z + 1)) := by
    rw [hF]
    by_cases w : R 6 lo = 0
    · rw [if_pos w, pk_us, if_pos ((f6 lo lo1 lo2).mp w), eov]
    · rw [if_neg w, if_neg (fun q => w ((f6 lo lo1 lo2).mpr q))]; exact (t67 lo lo1 lo2).1
  have r6n : ∀ p, p ≠ lo → (if R 6 lo = 0 then upd (R 6) lo ov else R 6) p = R 6 p := fun p n1 => by
    by_cases w : R 6 lo = 0
    · rw [if_pos w, pk_un n1]
    · rw [if_neg w]
  have r5l : (if ov = 1 then upd (R 5) lo (R 5 lo + 1) else R 5) lo = nI (usF c lo (z + 1)) := by
    rw [hU, sdl, hov]
    by_cases w : 0 < c z
    · simp only [w, if_true]; rw [pk_us, t5 lo lo1 lo2, nI_1]
    · simp only [w, if_false]
      rw [if_neg (by decide), if_neg (by decide), Nat.add_zero]; exact t5 lo lo1 lo2
  have r5n : ∀ p, p ≠ lo → (if ov = 1 then upd (R 5) lo (R 5 lo + 1) else R 5) p = R 5 p := fun p n1 => by
    by_cases w : ov = 1
    · rw [if_pos w, pk_un n1]
    · rw [if_neg w]
  refine ⟨fun p a b => ?_, fun i' hi' => ?_, hN4, fun p a b => ?_, fun p a b => ⟨?_, ?_⟩, ?_, fun a b a1 a2 b1 b2 hab => ?_⟩
  · rw [h3]
    by_cases e1 : p = lo
    · subst e1; rw [gl]; exact pk_us
    · by_cases e2 : p = up
      · subst e2; rw [gu, pk_un (by omega)]; exact pk_us
      · obtain ⟨q1, q2, q3⟩ := gn p a b e1 e2
        rw [q1, pk_un q3, pk_un q2]; exact t3 p a b
  · rw [h4]
    by_cases e : i' = i
    · subst e; exact pk_us
    · rw [pk_un e, t4 i' hi']
      show nI _ = nI (if i' = ai (c z) then _ else _)
      rw [if_neg (by rw [hi]; exact e)]
  · rw [h5]
    by_cases e1 : p = lo
    · subst e1
      by_cases w : uv = 1
      · rw [if_pos w, pk_un hne]; exact r5l
      · rw [if_neg w]; exact r5l
    · by_cases e2 : p = up
      · subst e2
        by_cases w : 0 < c z
        · have hu0 : usF c p (z + 1) = usF c p z := by rw [hU, sdu, if_pos w]; rfl
          have huv1 : ¬ uv = 1 := by rw [huv, if_pos w]; decide
          rw [hu0, if_neg huv1, r5n p e1]; exact t5 p a b
        · have hu0 : usF c p (z + 1) = usF c p z + 1 := by rw [hU, sdu, if_neg w]; rfl
          have huv1 : uv = 1 := by rw [huv, if_neg w]
          rw [hu0, if_pos huv1, pk_us, r5n p e1, t5 p a b, nI_1]
      · have hu0 : usF c p (z + 1) = usF c p z := by rw [hU, sdn p a b e1 e2]; rfl
        rw [hu0]
        by_cases w : uv = 1
        · rw [if_pos w, pk_un e2, r5n p e1]; exact t5 p a b
        · rw [if_neg w, r5n p e1]; exact t5 p a b
  · rw [h6]
    by_cases e1 : p = lo
    · subst e1
      by_cases w : (if R 6 p = 0 then upd (R 6) p ov else R 6) up = 0
      · rw [if_pos w, pk_un hne]; exact r6l
      · rw [if_neg w]; exact r6l
    · by_cases e2 : p = up
      · subst e2
        rw [hF, r6n p e1]
        by_cases w : R 6 p = 0
        · rw [if_pos w, pk_us, if_pos ((f6 p a b).mp w), euv]
        · rw [if_neg w, r6n p e1, if_neg (fun q => w ((f6 p a b).mpr q))]; exact (t67 p a b).1
      · have hsd := sdn p a b e1 e2
        have : fsF c p (z + 1) = fsF c p z := by
          rw [hF, hsd]
          by_cases w : fsF c p z = 0
          · rw [if_pos w, w]
          · rw [if_neg w]
        rw [this]
        by_cases w : (if R 6 lo = 0 then upd (R 6) lo ov else R 6) up = 0
        · rw [if_pos w, pk_un e2, r6n p e1]; exact (t67 p a b).1
        · rw [if_neg w, r6n p e1]; exact (t67 p a b).1
  · rw [h7, hL]
    by_cases e2 : p = up
    · subst e2; rw [pk_us, if_neg sdu0, euv]
    · rw [pk_un e2]
      by_cases e1 : p = lo
      · subst e1; rw [pk_us, if_neg sdl0, eov]
      · rw [pk_un e1, sdn p a b e1 e2, if_pos rfl]; exact (t67 p a b).2
  · rw [hN14, pk_un (Ne.symm hne), (t67 up up1 up2).2, (t67 lo lo1 lo2).2, eov, euv]
    have q1 : sdI (lsF c up z) = sdI (sd (gT c z up) (c z)) ↔ sd (gT c z up) (c z) = lsF c up z := (sdI_inj (lsF_le z) (sd_le _ _)).trans ⟨Eq.symm, Eq.symm⟩
    have q2 : sdI (lsF c lo z) = sdI (sd (gT c z lo) (c z)) ↔ sd (gT c z lo) (c z) = lsF c lo z := (sdI_inj (lsF_le z) (sd_le _ _)).trans ⟨Eq.symm, Eq.symm⟩
    by_cases w1 : sdI (lsF c up z) = sdI (sd (gT c z up) (c z))
    · rw [if_pos w1]
      exact Or.inr ⟨rfl, fun h => (((hO up).mp (h up up1 up2)).2.resolve_left sdu0) (q1.mp w1)⟩
    · rw [if_neg w1]
      by_cases w2 : sdI (lsF c lo z) = sdI (sd (gT c z lo) (c z))
      · rw [if_pos w2]
        exact Or.inr ⟨rfl, fun h => (((hO lo).mp (h lo lo1 lo2)).2.resolve_left sdl0) (q2.mp w2)⟩
      · rw [if_neg w2]
        have hall : (∀ p, 1 ≤ p → p ≤ s → okT c p (z + 1)) ↔ ∀ p, 1 ≤ p → p ≤ s → okT c p z := by
          refine ⟨fun h p a b => ((hO p).mp (h p a b)).1, fun h p a b => (hO p).mpr ⟨h p a b, ?_⟩⟩
          by_cases e1 : p = lo
          · subst e1; exact Or.inr (fun q => w2 (q2.mpr q))
          · by_cases e2 : p = up
            · subst e2; exact Or.inr (fun q => w1 (q1.mpr q))
            · exact Or.inl (sdn p a b e1 e2)
        rcases t14 with ⟨u1, u2⟩ | ⟨u1, u2⟩
        · exact Or.inl ⟨u1, hall.mpr u2⟩
        · exact Or.inr ⟨u1, fun h => u2 (hall.mp h)⟩
  · obtain ⟨k1, k2, k3⟩ := h9
    rw [tw1_s, hi]
    by_cases e1 : a = lo
    · subst e1
      rw [k2]
      by_cases e2 : b = up
      · subst e2
        rw [pk_us, if_pos ⟨Or.inl hlo, Or.inr hup⟩, t9 a b a1 a2 b1 b2 hab, hov]
      · rw [pk_un e2, if_neg (fun q => q.2.elim (fun w => hab (isl b b1 b2 w).symm) (fun w => e2 (isu b b1 b2 w)))]; exact t9 a b a1 a2 b1 b2 hab
    · by_cases e3 : a = up
      · subst e3
        rw [k3]
        by_cases e2 : b = lo
        · subst e2
          rw [pk_us, if_pos ⟨Or.inr hup, Or.inl hlo⟩, t9 a b a1 a2 b1 b2 hab, hov]
        · rw [pk_un e2, if_neg (fun q => q.2.elim (fun w => e2 (isl b b1 b2 w)) (fun w => hab (isu b b1 b2 w).symm))]; exact t9 a b a1 a2 b1 b2 hab
      · rw [k1 a e1 e3, if_neg (fun q => q.1.elim (fun w => e1 (isl a a1 a2 w)) (fun w => e3 (isu a a1 a2 w)))]; exact t9 a b a1 a2 b1 b2 hab
def lieR (R : Rt) (p : Nat) (sv : Int32) : Rt := va_up (va_up (va_up R 6 (if R 6 p = 0 then upd (R 6) p sv else R 6)) 7 (upd (R 7) p sv)) 5 (if sv = 1 then upd (R 5) p (R 5 p + 1) else R 5)
def lieN (N : Nt) (R : Rt) (p : Nat) (sv : Int32) : Nt := if R 7 p = sv then va_up N 0 (va_up (N 0) 14 0) else N
section PC
variable (G : Gx) (A : Nat → Nat) (P : va_W) (N : Nt) (R : Rt) (Q : Qt)
theorem c_lieAt {p : Nat} (sv : Int32) (hp : p < 8) : CV G yX3_lieAt cX3_lieAt 3 0 0 0 [.ref (A 0), .int (nI p), .int sv] (pW G A N R Q ++ P) (S := Nt × Rt) (fun u => u.1 = lieN N R p sv ∧ u.2 = lieR R p sv) (fun u => pW G A u.1 u.2 Q ++ P) := by
  refine CV.intro (by decide) (Nat.le_of_ble_eq_true rfl) (cat1 (xs := [nI p, sv])) fun X C hR => ?_
  have bp : vp_in (nI p) 8 := vp_in_nI hp (by decide)
  have cp : (nI p).toNatClampNeg = p := nI_clamp (by omega)
  have j53 : ∀ (N' : Nt) (R' : Rt), N' = lieN N R p sv → R' = lieR R p sv → V X 0 0 53 (ent [.ref (A 0), .int (nI p), .int sv] 3) [] (pW G A N' R' Q ++ P) := by
    intro N' R' h1 h2
    exact hR _ _ _ _ (N', R') (by decide) (by decide) ⟨h1, h2⟩ dX3_lieAt_53
  have j31 : ∀ (N' : Nt) (F : Nat → Int32), N' = lieN N R p sv → F = (if R 6 p = 0 then upd (R 6) p sv else R 6) → V X 0 0 31 (ent [.ref (A 0), .int (nI p), .int sv] 3) [] (pW G A N' (va_up R 6 F) Q ++ P) := by
    intro N' F h1 h2
    subst h2
    refine r_aload_n C dX3_lieAt_31 rfl rfl ?_
    refine pg_X3_50 C dX3_lieAt_32 ?_
    refine r_iload_n C dX3_lieAt_35 rfl rfl ?_
    refine r_iload_n C dX3_lieAt_36 rfl rfl ?_
    refine ps_7 C dX3_lieAt_37 (bp) ?_
    rw [cp]
    refine r_iload_n C dX3_lieAt_38 rfl rfl ?_
    refine r_iconst (v := 1) C dX3_lieAt_39 (by decide) ?_
    refine r_icmp_ne (tgt := 53) C dX3_lieAt_40 (by decide) (fun c40 => ?_) (fun c40 => ?_)
    · first | (rw [cp]; exact j53 _ _ h1 (by unfold lieR; rw [if_pos c40]; rfl)) | exact j53 _ _ h1 (by unfold lieR; rw [if_neg c40]; exact (up_same rfl).symm)
    · refine r_aload_n C dX3_lieAt_43 rfl rfl ?_
      refine pg_X3_44 C dX3_lieAt_44 ?_
      refine r_iload_n C dX3_lieAt_47 rfl rfl ?_
      refine r_dup2 C dX3_lieAt_48 rfl rfl ?_
      refine pl_5 C dX3_lieAt_49 (bp) ?_
      refine r_iconst (v := 1) C dX3_lieAt_50 (by decide) ?_
      refine r_iadd C dX3_lieAt_51 ?_
      rw [cp]
      refine ps_5 C dX3_lieAt_52 (bp) ?_
      first | (rw [cp]; exact j53 _ _ h1 (by unfold lieR; rw [if_pos c40]; rfl)) | exact j53 _ _ h1 (by unfold lieR; rw [if_neg c40]; exact (up_same rfl).symm)
  have j16 : ∀ (F : Nat → Int32), F = (if R 6 p = 0 then upd (R 6) p sv else R 6) → V X 0 0 16 (ent [.ref (A 0), .int (nI p), .int sv] 3) [] (pW G A N (va_up R 6 F) Q ++ P) := by
    intro F h2
    refine r_aload_n C dX3_lieAt_16 rfl rfl ?_
    refine pg_X3_50 C dX3_lieAt_17 ?_
    refine r_iload_n C dX3_lieAt_20 rfl rfl ?_
    refine pl_7 C dX3_lieAt_21 (bp) ?_
    refine r_iload_n C dX3_lieAt_22 rfl rfl ?_
    rw [cp]
    show V X 0 0 23 _ [.int sv, .int (R 7 p)] _
    refine r_icmp_ne (tgt := 31) C dX3_lieAt_23 (by decide) (fun c23 => ?_) (fun c23 => ?_)
    · first | exact j31 _ F (by unfold lieN; rw [if_pos c23]) h2 | exact j31 _ F (by unfold lieN; rw [if_neg c23]) h2
    · refine r_aload_n C dX3_lieAt_26 rfl rfl ?_
      refine r_iconst (v := 0) C dX3_lieAt_27 (by decide) ?_
      refine pp_X3_58 C (Or.inl rfl) dX3_lieAt_28 ?_
      first | exact j31 _ F (by unfold lieN; rw [if_pos c23]) h2 | exact j31 _ F (by unfold lieN; rw [if_neg c23]) h2
  refine r_aload_n C dX3_lieAt_0 rfl rfl ?_
  refine pg_X3_47 C dX3_lieAt_1 ?_
  refine r_iload_n C dX3_lieAt_4 rfl rfl ?_
  refine pl_6 C dX3_lieAt_5 (bp) ?_
  rw [cp]
  refine r_if_ne (tgt := 16) C dX3_lieAt_6 (by decide) (fun c6 => ?_) (fun c6 => ?_)
  · first | (rw [cp]; exact j16 _ (by rw [if_pos c6])) | (rw [← up_same (f := R) (k := 6) rfl]; exact j16 _ (by rw [if_neg c6]))
  · refine r_aload_n C dX3_lieAt_9 rfl rfl ?_
    refine pg_X3_47 C dX3_lieAt_10 ?_
    refine r_iload_n C dX3_lieAt_13 rfl rfl ?_
    refine r_iload_n C dX3_lieAt_14 rfl rfl ?_
    refine ps_6 C dX3_lieAt_15 (bp) ?_
    first | (rw [cp]; exact j16 _ (by rw [if_pos c6])) | (rw [← up_same (f := R) (k := 6) rfl]; exact j16 _ (by rw [if_neg c6]))
end PC
