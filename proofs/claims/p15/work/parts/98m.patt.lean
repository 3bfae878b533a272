/-! what is told of a row depends on its crossings alone -/
section CG
variable {c c' : Nat → Int32}
theorem gT_cg : ∀ z, (∀ k, k < z → c k = c' k) → gT c z = gT c' z
  | 0, _ => rfl
  | z + 1, h => by
    funext p
    show sw (ai (c z)) (gT c z p) = sw (ai (c' z)) (gT c' z p)
    rw [h z (by omega), gT_cg z (fun k hk => h k (by omega))]
theorem lvIn_cg {lv : Nat → Nat} {i : Nat} : ∀ z, (∀ k, k < z → c k = c' k) → lvIn lv c i z = lvIn lv c' i z
  | 0, _ => rfl
  | z + 1, h => by
    unfold lvIn
    rw [h z (by omega), lvIn_cg z (fun k hk => h k (by omega))]
theorem lvF_cg : ∀ z, (∀ k, k < z → c k = c' k) → lvF c z = lvF c' z
  | 0, _ => rfl
  | z + 1, h => by
    funext q
    have ih := lvF_cg z (fun k hk => h k (by omega))
    show (if q = z then lvIn (lvF c z) c (ai (c z)) z else lvF c z q) = (if q = z then lvIn (lvF c' z) c' (ai (c' z)) z else lvF c' z q)
    rw [ih, h z (by omega), lvIn_cg z (fun k hk => h k (by omega))]
theorem lvMost_cg : ∀ z, (∀ k, k < z → c k = c' k) → lvMost c z = lvMost c' z
  | 0, _ => rfl
  | z + 1, h => by
    show max (lvMost c z) (lvIn (lvF c z) c (ai (c z)) z) = max (lvMost c' z) (lvIn (lvF c' z) c' (ai (c' z)) z)
    rw [lvMost_cg z (fun k hk => h k (by omega)), lvF_cg z (fun k hk => h k (by omega)), h z (by omega), lvIn_cg z (fun k hk => h k (by omega))]
theorem usF_cg {p : Nat} : ∀ z, (∀ k, k < z → c k = c' k) → usF c p z = usF c' p z
  | 0, _ => rfl
  | z + 1, h => by
    show usF c p z + (if sd (gT c z p) (c z) = 1 then 1 else 0) = usF c' p z + (if sd (gT c' z p) (c' z) = 1 then 1 else 0)
    rw [usF_cg z (fun k hk => h k (by omega)), gT_cg z (fun k hk => h k (by omega)), h z (by omega)]
theorem twj_cg {q : TwT} : ∀ z, (∀ k, k < z → c k = c' k) → twj c q z = twj c' q z
  | 0, _ => rfl
  | z + 1, h => by
    show twS (c z) (twj c q z) = twS (c' z) (twj c' q z)
    rw [h z (by omega), twj_cg z (fun k hk => h k (by omega))]
theorem itj_cg {q : Option ItT} : ∀ z, (∀ k, k < z → c k = c' k) → itj c q z = itj c' q z
  | 0, _ => rfl
  | z + 1, h => by
    show (itj c q z).bind (itS (c z)) = (itj c' q z).bind (itS (c' z))
    rw [h z (by omega), itj_cg z (fun k hk => h k (by omega))]
theorem itt_cg {z p : Nat} (h : ∀ k, k < z → c k = c' k) : ∀ t, itt c z p t = itt c' z p t
  | 0 => rfl
  | t + 1 => by
    show itj c (itt c z p t) z = itj c' (itt c' z p t) z
    rw [itt_cg h t, itj_cg z h]
theorem there_cg {z i : Nat} (h : ∀ k, k < z → c k = c' k) : thereIs c z i ↔ thereIs c' z i :=
  ⟨fun ⟨j, hj, e⟩ => ⟨j, hj, by rw [← h j hj]; exact e⟩, fun ⟨j, hj, e⟩ => ⟨j, hj, by rw [h j hj]; exact e⟩⟩
theorem Holds_cg {z s : Nat} (h : ∀ k, k < z → c k = c' k) : HoldsP c z s ↔ HoldsP c' z s := by
  unfold HoldsP
  rw [gT_cg z h]
  refine and_congr (forall_congr' fun i => forall_congr' fun _ => forall_congr' fun _ => there_cg h) (exists_congr fun m => and_congr Iff.rfl (forall_congr' fun p => forall_congr' fun _ => forall_congr' fun _ => ?_))
  rw [itt_cg h]
theorem PtK.cg {s z : Nat} {N : Nat → Int32} {R : Rt} (hK : PtK c s z N R) (h : ∀ k, k < z → c k = c' k) : PtK c' s z N R := by
  obtain ⟨⟨k3, s2, s7⟩, ⟨k2, z3⟩, hok, k1, kg, k4, k5, k6, k7, ku, k9⟩ := hK
  rw [gT_cg z h] at kg k5 k6
  rw [lvMost_cg z h] at k4
  rw [Holds_cg h] at k7
  refine ⟨⟨k3, s2, s7⟩, ⟨k2, z3⟩, fun i hi => by rw [← h i hi]; exact hok i hi, fun i hi => by rw [← h i hi]; exact k1 i hi, kg, k4, k5, k6, k7, fun p a b => by rw [← usF_cg z h]; exact ku p a b, fun a b a1 a2 b1 b2 hab => ?_⟩
  rw [k9 a b a1 a2 b1 b2 hab]
  show (twj c (a, b, 0) z).2.2 = (twj c' (a, b, 0) z).2.2
  rw [twj_cg z h]
end CG
/-- the rows with pattern j made anew -/
def ptT (T : Rt) (j n : Nat) (q : Rst) : Rt := va_up (va_up (va_up T 5 (upd (T 5) j (nI n))) 6 (upd (T 6) j (nI q.2.1))) 7 (keepR (T 7) j q.2.1 q.2.2.2.1)
theorem ptT_row {T : Rt} {j n : Nat} {q : Rst} {i : Nat} (hi : i < q.2.1) : rowOf (ptT T j n q) j i = q.2.2.2.1 i := by
  show keepR (T 7) j q.2.1 q.2.2.2.1 (300 * j + i) = _
  unfold keepR
  rw [if_pos (by omega), Nat.add_sub_cancel_left]
theorem ptT_oth {T : Rt} {j n : Nat} {q : Rst} {i k : Nat} (hij : i ≠ j) (hk : k < 300) (hm : q.2.1 ≤ 300) : rowOf (ptT T j n q) i k = rowOf T i k := by
  show keepR (T 7) j q.2.1 q.2.2.2.1 (300 * i + k) = _
  unfold keepR
  rw [if_neg (by omega)]
  rfl
theorem ptT_I {pb : Nat → Option PbT} {Q2 : Nat → Option Nat} {T : Rt} (h : PtI pb Q2 T) {j n : Nat} {q : Rst} {b' : PbT} (hj : j < 8) (hn2 : 2 ≤ n) (hn7 : n ≤ 7) (hm : q.2.1 ≤ 300) (hok : ∀ i, i < q.2.1 → okC n (q.2.2.2.1 i)) (hK : PtK q.2.2.2.1 n q.2.1 (b'.2.1 0) b'.2.2) (hF : ∃ s' hd tl, FmB (b'.2.1 17) 300 s' hd tl) : PtI (va_up pb j (some b')) (va_up Q2 j (some (b'.1 0))) (ptT T j n q) := by
  intro i hi
  by_cases e : i = j
  · subst e
    refine Or.inr ⟨b', n, q.2.1, va_up_at, va_up_at, ⟨?_, hn2, hn7, ?_, hm, fun k hk => ?_⟩, hK.cg (fun k hk => (ptT_row hk).symm), hF⟩
    · show upd (T 5) i (nI n) i = _; exact pk_us
    · show upd (T 6) i (nI q.2.1) i = _; exact pk_us
    · rw [ptT_row hk]; exact hok k hk
  · rw [va_up_no e, va_up_no e]
    rcases h i hi with ⟨a1, a2, a3⟩ | ⟨b, s, z, a1, a2, hp, hKb, hFb⟩
    · refine Or.inl ⟨a1, a2, ?_⟩
      show upd (T 5) j (nI n) i = 0
      rw [pk_un e]; exact a3
    · obtain ⟨p5, p2, p7, p6, pz, pok⟩ := id hp
      refine Or.inr ⟨b, s, z, a1, a2, ⟨?_, p2, p7, ?_, pz, fun k hk => ?_⟩, hKb.cg (fun k hk => (ptT_oth e (by omega) hm).symm), hFb⟩
      · show upd (T 5) j (nI n) i = _; rw [pk_un e]; exact p5
      · show upd (T 6) j (nI q.2.1) i = _; rw [pk_un e]; exact p6
      · rw [ptT_oth e (by omega) hm]; exact pok k hk
/-! pattern -/
theorem Pool_of {G : Gx} {pb : Nat → Option PbT} {Q2 : Nat → Option Nat} {T : Rt} {w P : va_W} (h : PtI pb Q2 T) : Pool G (w ++ (plB G pb ++ P)) Q2 (T 5) (T 6) (T 7) := by
  intro v hv
  rcases h v hv with ⟨a1, a2, a3⟩ | ⟨b, s, z, a1, a2, hp, hK, -⟩
  · exact Or.inl ⟨a2, a3⟩
  · obtain ⟨p5, p2, p7, p6, pz, pok⟩ := id hp
    obtain ⟨⟨k3, -⟩, ⟨k2, -⟩, -, k1, -⟩ := id hK
    exact Or.inr ⟨b.1, b.2.1, b.2.2, zQ, w ++ (plO G pb v ++ P), s, z, a2, pl_front hv a1, p5, p2, p7, p6, pz, k3, k2, fun i hi => ⟨k1 i hi, pok i hi⟩⟩
/-- what pattern leaves in the class -/
def ptB (N N' : Nt) (R R' : Rt) (Q Q' : Qt) (T : Rt) (pb pb' : Nat → Option PbT) (j n : Nat) (r : Int32) (o : Rout) : Prop := N' 0 = va_up (N 0) 1 0 ∧ R' 1 = R 1 ∧ (∀ i, i ≠ 2 → Q' i = Q i) ∧ match o with
  | .inl f => r = f.1 ∧ N' 3 2 = f.1 ∧ N' 3 3 = nI f.2 ∧ Q' = Q ∧ pb' = pb
  | .inr q => r = 0 ∧ N' 3 2 = 0 ∧ N' 3 3 = -1 ∧ PtI pb' (Q' 2) (ptT T j n q)
section PTN
variable (G : Gx) (A : Nat → Nat) (P : va_W) (N : Nt) (R : Rt) (Q : Qt) (T : Rt) (pb : Nat → Option PbT)
def rdR (R R1 : Rt) : Rt := va_up (va_up (va_up (va_up R 1 (R1 4)) 4 (R1 1)) 5 (R1 2)) 6 (R1 3)
def rdX (G : Gx) (A : Nat → Nat) (N : Nt) (R : Rt) (Q : Qt) (n : Nat → Int32) (R1 : Rt) (P : va_W) : va_W := rW G (fun i => A (rsel i)) (fun _ => n) R1 (fun i => Q (rsel i)) ++ ((bW G A N R Q).take 1 ++ ((bW G A N R Q).drop 7 ++ P))
theorem rd_in {X : Fx} {k n pc : Nat} {L : List (Option Value)} {st : List Value} (kk : V X k n pc L st (rdX G A N R Q (N 3) (fun i => R (rsel i)) P)) : V X k n pc L st (bW G A N R Q ++ P) :=
  V.re (m := 14) (ws' := rW G (fun i => A (rsel i)) (fun _ => N 3) (fun i => R (rsel i)) (fun i => Q (rsel i)) ++ ((bW G A N R Q).take 1 ++ (bW G A N R Q).drop 7)) rfl [3, 4, 5, 6, 1, 2, 0, 7, 8, 9, 10, 11, 12, 13] (by decide) rfl (by decide) kk
theorem rd_out {X : Fx} {k n pc : Nat} {L : List (Option Value)} {st : List Value} {nn : Nat → Int32} {R1 : Rt} (kk : V X k n pc L st (bW G A (va_up N 3 nn) (rdR R R1) Q ++ P)) : V X k n pc L st (rdX G A N R Q nn R1 P) :=
  show V X k n pc L st ((rW G (fun i => A (rsel i)) (fun _ => nn) R1 (fun i => Q (rsel i)) ++ ((bW G A N R Q).take 1 ++ (bW G A N R Q).drop 7)) ++ P) from
  V.re (m := 14) (ws' := bW G A (va_up N 3 nn) (rdR R R1) Q) rfl [6, 4, 5, 0, 1, 2, 3, 7, 8, 9, 10, 11, 12, 13] (by decide) rfl (by decide) kk
/-- a pattern's cells ahead, the reader's row behind them -/
def bcX (G : Gx) (A : Nat → Nat) (N : Nt) (R : Rt) (Q : Qt) (B : Nat → Nat) (NB : Nt) (RB : Rt) (P : va_W) : va_W := pW G B NB RB zQ ++ ((A 4, .inl (G.2.2 0, 300, .inl (R 4))) :: ((bW G A N R Q).take 4 ++ ((bW G A N R Q).drop 5 ++ P)))
theorem bc_in {X : Fx} {k n pc : Nat} {L : List (Option Value)} {st : List Value} {B : Nat → Nat} {NB : Nt} {RB : Rt} (kk : V X k n pc L st (bcX G A N R Q B NB RB P)) : V X k n pc L st (pW G B NB RB zQ ++ (bW G A N R Q ++ P)) :=
  show V X k n pc L st ((pW G B NB RB zQ ++ bW G A N R Q) ++ P) from
  V.re (m := 35) (ws' := pW G B NB RB zQ ++ ((A 4, .inl (G.2.2 0, 300, .inl (R 4))) :: ((bW G A N R Q).take 4 ++ (bW G A N R Q).drop 5))) rfl [0, 1, 2, 3, 4, 5, 6, 7, 8, 9, 10, 11, 12, 13, 14, 15, 16, 17, 18, 19, 20, 25, 21, 22, 23, 24, 26, 27, 28, 29, 30, 31, 32, 33, 34] (by decide) rfl (by decide) kk
theorem bc_out {X : Fx} {k n pc : Nat} {L : List (Option Value)} {st : List Value} {B : Nat → Nat} {NB : Nt} {RB : Rt} (kk : V X k n pc L st (pW G B NB RB zQ ++ (bW G A N R Q ++ P))) : V X k n pc L st (bcX G A N R Q B NB RB P) :=
  show V X k n pc L st ((pW G B NB RB zQ ++ ((A 4, .inl (G.2.2 0, 300, .inl (R 4))) :: ((bW G A N R Q).take 4 ++ (bW G A N R Q).drop 5))) ++ P) from
  V.re (m := 35) (ws' := pW G B NB RB zQ ++ bW G A N R Q) rfl [0, 1, 2, 3, 4, 5, 6, 7, 8, 9, 10, 11, 12, 13, 14, 15, 16, 17, 18, 19, 20, 22, 23, 24, 25, 21, 26, 27, 28, 29, 30, 31, 32, 33, 34] (by decide) rfl (by decide) kk
theorem c_bpattern {tp : Nat} (hI : PtI pb (Q 2) T) (hBt : BtOK (R 1)) (ht : N 0 1 = nI tp) (htp : tp ≤ 800) (kk s z : Int32) : XI G yX6_pattern (.code yX6_pattern cX6_pattern 4 (some .int)) 6 21 763 [.ref (A 0), .int kk, .int s, .int z] (bW G A N R Q ++ (plB G pb ++ P)) (¬ (∃ j n e, okP tp kk s z j n e), iae, bW G A N R Q ++ (plB G pb ++ P)) (S := Nt × Rt × Qt × (Nat → Option PbT)) (fun r u => ∃ j n e, okP tp kk s z j n e ∧ ptB N u.1 R u.2.1 Q u.2.2.1 T pb u.2.2.2 j n r (readF true (txt (R 1)) (T 5) (T 6) (T 7) e n)) (fun u => bW G A u.1 u.2.1 u.2.2.1 ++ (plB G u.2.2.2 ++ P)) := by
  refine XI.intro (by decide) (Nat.le_of_ble_eq_true rfl) (cat1 (xs := [kk, s, z])) fun X C hE hR hO hN => ?_
  by_cases hok : ∃ j n e, okP tp kk s z j n e
  rotate_left
  · refine r_iload_n C dX6_pattern_0 rfl rfl ?_
    refine r_if_lt (tgt := 21) C dX6_pattern_1 (by decide) (fun c1 => ?_) (fun c1 => ?_)
    · exact hN _ _ _ _ _ 71 73 75 "no such pattern or straws" (by first | decide | omega) (by first | decide | omega) (hok) (by decide) (Nat.le_of_ble_eq_true rfl) kt_iae (by decide) rfl dX6_pattern_21 dX6_pattern_24 dX6_pattern_25 dX6_pattern_27 dX6_pattern_30
    · refine r_iload_n C dX6_pattern_4 rfl rfl ?_
      refine r_bipush (v := 8) C dX6_pattern_5 (by decide) ?_
      refine r_icmp_ge (tgt := 21) C dX6_pattern_7 (by decide) (fun c7 => ?_) (fun c7 => ?_)
      · exact hN _ _ _ _ _ 71 73 75 "no such pattern or straws" (by first | decide | omega) (by first | decide | omega) (hok) (by decide) (Nat.le_of_ble_eq_true rfl) kt_iae (by decide) rfl dX6_pattern_21 dX6_pattern_24 dX6_pattern_25 dX6_pattern_27 dX6_pattern_30
      · refine r_iload_n C dX6_pattern_10 rfl rfl ?_
        refine r_iconst (v := 2) C dX6_pattern_11 (by decide) ?_
        refine r_icmp_lt (tgt := 21) C dX6_pattern_12 (by decide) (fun c12 => ?_) (fun c12 => ?_)
        · exact hN _ _ _ _ _ 71 73 75 "no such pattern or straws" (by first | decide | omega) (by first | decide | omega) (hok) (by decide) (Nat.le_of_ble_eq_true rfl) kt_iae (by decide) rfl dX6_pattern_21 dX6_pattern_24 dX6_pattern_25 dX6_pattern_27 dX6_pattern_30
        · refine r_iload_n C dX6_pattern_15 rfl rfl ?_
          refine r_bipush (v := 7) C dX6_pattern_16 (by decide) ?_
          refine r_icmp_le (tgt := 31) C dX6_pattern_18 (by decide) (fun c18 => ?_) (fun c18 => ?_)
          · refine r_iload_n C dX6_pattern_31 rfl rfl ?_
            refine r_if_lt (tgt := 43) C dX6_pattern_32 (by decide) (fun c32 => ?_) (fun c32 => ?_)
            · exact hN _ _ _ _ _ 71 78 75 "the tape has not so many bytes" (by first | decide | omega) (by first | decide | omega) (hok) (by decide) (Nat.le_of_ble_eq_true rfl) kt_iae (by decide) rfl dX6_pattern_43 dX6_pattern_46 dX6_pattern_47 dX6_pattern_49 dX6_pattern_52
            · refine r_iload_n C dX6_pattern_35 rfl rfl ?_
              refine r_aload_n C dX6_pattern_36 rfl rfl ?_
              refine bg_X6_13 C dX6_pattern_37 ?_
              rw [ht]
              refine r_icmp_le (tgt := 53) C dX6_pattern_40 (by decide) (fun c40 => ?_) (fun c40 => ?_)
              · exfalso
                obtain ⟨j, hj, rfl⟩ := nI_of c1
                obtain ⟨n, hn, rfl⟩ := nI_of (x := s) (fun q => c12 (Int32.lt_trans q (by decide)))
                obtain ⟨e, he, rfl⟩ := nI_of c32
                rw [show (8 : Int32) = nI 8 from rfl, nI_leI (by decide) (by omega)] at c7
                rw [show (2 : Int32) = nI 2 from rfl, nI_ltI (by omega) (by omega)] at c12
                rw [show (7 : Int32) = nI 7 from rfl, nI_leI (by omega) (by omega)] at c18
                rw [nI_leI (by omega) (by omega)] at c40
                exact hok ⟨j, n, e, rfl, by omega, rfl, by omega, by omega, rfl, by omega⟩
              · exact hN _ _ _ _ _ 71 78 75 "the tape has not so many bytes" (by first | decide | omega) (by first | decide | omega) (hok) (by decide) (Nat.le_of_ble_eq_true rfl) kt_iae (by decide) rfl dX6_pattern_43 dX6_pattern_46 dX6_pattern_47 dX6_pattern_49 dX6_pattern_52
          · exact hN _ _ _ _ _ 71 73 75 "no such pattern or straws" (by first | decide | omega) (by first | decide | omega) (hok) (by decide) (Nat.le_of_ble_eq_true rfl) kt_iae (by decide) rfl dX6_pattern_21 dX6_pattern_24 dX6_pattern_25 dX6_pattern_27 dX6_pattern_30
  obtain ⟨j, n, e, hok⟩ := hok
  obtain ⟨rfl, hj, rfl, hn2, hn7, rfl, he⟩ := id hok
  refine r_iload_n C dX6_pattern_0 rfl rfl ?_
  refine r_if_lt (tgt := 21) C dX6_pattern_1 (by decide) (fun c1 => absurd c1 ((nI_pos (by omega)))) (fun c1 => ?_)
  refine r_iload_n C dX6_pattern_4 rfl rfl ?_
  refine r_bipush (v := 8) C dX6_pattern_5 (by decide) ?_
  refine r_icmp_ge (tgt := 21) C dX6_pattern_7 (by decide) (fun c7 => absurd c7 ((by rw [show (8 : Int32) = nI 8 from rfl, nI_leI (by decide) (by omega)]; omega))) (fun c7 => ?_)
  refine r_iload_n C dX6_pattern_10 rfl rfl ?_
  refine r_iconst (v := 2) C dX6_pattern_11 (by decide) ?_
  refine r_icmp_lt (tgt := 21) C dX6_pattern_12 (by decide) (fun c12 => absurd c12 ((by rw [show (2 : Int32) = nI 2 from rfl, nI_ltI (by omega) (by omega)]; omega))) (fun c12 => ?_)
  refine r_iload_n C dX6_pattern_15 rfl rfl ?_
  refine r_bipush (v := 7) C dX6_pattern_16 (by decide) ?_
  refine r_icmp_le (tgt := 31) C dX6_pattern_18 (by decide) (fun c18 => ?_) (fun c18 => absurd c18 ((fun q => q (by rw [show (7 : Int32) = nI 7 from rfl, nI_leI (by omega) (by omega)]; omega))))
  refine r_iload_n C dX6_pattern_31 rfl rfl ?_
  refine r_if_lt (tgt := 43) C dX6_pattern_32 (by decide) (fun c32 => absurd c32 ((nI_pos (by omega)))) (fun c32 => ?_)
  refine r_iload_n C dX6_pattern_35 rfl rfl ?_
  refine r_aload_n C dX6_pattern_36 rfl rfl ?_
  refine bg_X6_13 C dX6_pattern_37 ?_
  rw [ht]
  refine r_icmp_le (tgt := 53) C dX6_pattern_40 (by decide) (fun c40 => ?_) (fun c40 => absurd c40 ((fun q => q (by rw [nI_leI (by omega) (by omega)]; exact he))))
  refine r_aload_n C dX6_pattern_53 rfl rfl ?_
  refine bg_X6_28 C dX6_pattern_54 ?_
  refine r_iload_n C dX6_pattern_57 rfl rfl ?_
  refine r_iload_n C dX6_pattern_58 rfl rfl ?_
  refine rd_in G A (plB G pb ++ P) N R Q ?_
  refine a_callVv C (c_read G (fun i => A (rsel i)) _ (fun _ => N 3) (fun i => R (rsel i)) (fun i => Q (rsel i)) (e := e) (n := n) (p5 := T 5) (p6 := T 6) (p7 := T 7) hBt (by omega) hn2 hn7 (Pool_of (w := (bW G A N R Q).take 1 ++ (bW G A N R Q).drop 7) hI)) kcX6_X4_read dX6_pattern_59 rfl (by decide) (by decide) (by decide) (Nat.le_of_ble_eq_true rfl) 0 rfl (ci := 4) rfl rfl rfl (fun u hu => ?_)
  refine rd_out G A (plB G pb ++ P) N R Q (nn := u.1 0) (R1 := u.2) ?_
  skip
  obtain ⟨hu4, hu⟩ := hu
  have hu4 : u.2 4 = R 1 := hu4
  have hu : RcO (u.1 0) u.2 e n (readF true (txt (R 1)) (T 5) (T 6) (T 7) e n) := hu
  obtain ⟨o, ho⟩ : ∃ o, o = readF true (txt (R 1)) (T 5) (T 6) (T 7) e n := ⟨_, rfl⟩
  rw [← ho] at hu
  obtain ⟨N1, hN1⟩ : ∃ N1, N1 = va_up (va_up N 3 (u.1 0)) 0 (va_up (N 0) 1 0) := ⟨_, rfl⟩
  obtain ⟨R1, hR1⟩ : ∃ R1, R1 = rdR R u.2 := ⟨_, rfl⟩
  have n3 : N1 3 = u.1 0 := by rw [hN1]; rfl
  have r4 : R1 4 = u.2 1 := by rw [hR1]; rfl
  have r1 : R1 1 = R 1 := by rw [hR1]; exact hu4
  have n0 : N1 0 = va_up (N 0) 1 0 := by rw [hN1]; rfl
  cases o with
  | inl f =>
    obtain ⟨f2, f3, f0⟩ := hu
    refine r_aload_n C dX6_pattern_62 rfl rfl ?_
    refine r_iconst (v := 0) C dX6_pattern_63 (by decide) ?_
    refine bp_X6_13 C dX6_pattern_64 ?_
    show V X _ _ 67 _ _ (bW G A (va_up (va_up N 3 (u.1 0)) 0 (va_up (N 0) 1 0)) (rdR R u.2) Q ++ (plB G pb ++ P))
    rw [← hN1, ← hR1]
    refine r_aload_n C dX6_pattern_67 rfl rfl ?_
    refine bg_X6_28 C dX6_pattern_68 ?_
    refine bg_X6_84 C dX6_pattern_71 ?_
    rw [n3, f2]
    refine r_if_ne (tgt := 123) C dX6_pattern_74 (by decide) (fun c74 => ?_) (fun c74 => absurd c74 (f0))
    refine r_aload_n C dX6_pattern_123 rfl rfl ?_
    refine bg_X6_28 C dX6_pattern_124 ?_
    refine bg_X6_84 C dX6_pattern_127 ?_
    rw [n3, f2]
    exact hR _ _ _ _ _ (N1, R1, Q, pb) (by decide) (by decide) rfl ⟨j, n, e, hok, by rw [← ho]; exact ⟨n0, r1, fun _ _ => rfl, rfl, by show N1 3 2 = _; rw [n3]; exact f2, by show N1 3 3 = _; rw [n3]; exact f3, rfl, rfl⟩⟩ dX6_pattern_130
  | inr q =>
    obtain ⟨⟨k9, k10, k11, k1, k6, k2, k3⟩, ⟨-, -, -, -, hm3, -⟩, hrow, -⟩ := id hu
    have fin : ∀ (Q1 : Qt) (pb1 : Nat → Option PbT) (b : PbT) (kc nc : Nat), kc ≤ 21 → nc ≤ 763 → pb1 j = some b → Q1 2 j = some (b.1 0) → (∀ i, i ≠ 2 → Q1 i = Q i) → (∀ b' : PbT, b'.1 = b.1 → PtK q.2.2.2.1 n q.2.1 (b'.2.1 0) b'.2.2 → (∃ s' hd tl, FmB (b'.2.1 17) 300 s' hd tl) → PtI (va_up pb1 j (some b')) (Q1 2) (ptT T j n q)) → (∃ s' hd tl, FmB (b.2.1 17) 300 s' hd tl) → V X kc nc 99 (ent [.ref (A 0), .int (nI j), .int (nI n), .int (nI e)] 4) [] (bW G A N1 R1 Q1 ++ (plB G pb1 ++ P)) := by
      intro Q1 pb1 b kc nc hkc hnc hb1 hQ1 hQo hPt hF
      refine r_aload_n C dX6_pattern_99 rfl rfl ?_
      refine bg_X6_19 C dX6_pattern_100 ?_
      refine r_iload_n C dX6_pattern_103 rfl rfl ?_
      refine bl_2 C dX6_pattern_104 (vp_in_nI hj (by decide)) ?_
      rw [nI_clamp (by omega), hQ1]
      show V X kc nc 105 _ [.ref (b.1 0)] _
      refine r_iload_n C dX6_pattern_105 rfl rfl ?_
      refine r_aload_n C dX6_pattern_106 rfl rfl ?_
      refine bg_X6_28 C dX6_pattern_107 ?_
      refine bg_X6_88 C dX6_pattern_110 ?_
      refine r_aload_n C dX6_pattern_113 rfl rfl ?_
      refine bg_X6_28 C dX6_pattern_114 ?_
      refine bg_X6_92 C dX6_pattern_117 ?_
      rw [n3, k1]
      refine V.perm (pl_front hj hb1) ?_
      refine bc_in G A (plO G pb1 j ++ P) N1 R1 Q1 ?_
      refine a_callVv C (c_become G b.1 _ b.2.1 b.2.2 zQ (c := q.2.2.2.1) (row := R1 4) (s := n) (z := q.2.1) (ra := A 4) hn2 hn7 hm3 (fun i hi => (hrow i hi).2) (fun i hi => by rw [r4]; exact (hrow i hi).1)) kcX6_X3_become dX6_pattern_120 rfl (by decide) (by omega) (by omega) (Nat.le_of_ble_eq_true rfl) 0 rfl (ci := 3) rfl rfl rfl (fun u2 hu2 => ?_)
      obtain ⟨hK2, -, hkN, hkR⟩ := hu2
      refine bc_out G A (plO G pb1 j ++ P) N1 R1 Q1 (B := b.1) (NB := u2.1) (RB := u2.2) ?_
      refine V.perm (pl_back (b := (b.1, u2.1, u2.2)) hj) ?_
      refine r_aload_n C dX6_pattern_123 rfl rfl ?_
      refine bg_X6_28 C dX6_pattern_124 ?_
      refine bg_X6_84 C dX6_pattern_127 ?_
      rw [n3, k2]
      exact hR _ _ _ _ _ (N1, R1, Q1, va_up pb1 j (some (b.1, u2.1, u2.2))) (by omega) (by omega) rfl ⟨j, n, e, hok, by rw [← ho]; exact ⟨n0, r1, hQo, rfl, by show N1 3 2 = _; rw [n3]; exact k2, by show N1 3 3 = _; rw [n3]; exact k3, hPt (b.1, u2.1, u2.2) rfl hK2 (by show ∃ s' hd tl, FmB (u2.1 17) 300 s' hd tl; rw [hkN 17 (by decide)]; exact hF)⟩⟩ dX6_pattern_130
    have hokr : ∀ i, i < q.2.1 → okC n (q.2.2.2.1 i) := fun i hi => (hrow i hi).2
    rcases hI j hj with ⟨a1, a2, a3⟩ | ⟨b, s, z, a1, a2, hp, hKb, hFb⟩
    · refine r_aload_n C dX6_pattern_62 rfl rfl ?_
      refine r_iconst (v := 0) C dX6_pattern_63 (by decide) ?_
      refine bp_X6_13 C dX6_pattern_64 ?_
      show V X _ _ 67 _ _ (bW G A (va_up (va_up N 3 (u.1 0)) 0 (va_up (N 0) 1 0)) (rdR R u.2) Q ++ (plB G pb ++ P))
      rw [← hN1, ← hR1]
      refine r_aload_n C dX6_pattern_67 rfl rfl ?_
      refine bg_X6_28 C dX6_pattern_68 ?_
      refine bg_X6_84 C dX6_pattern_71 ?_
      rw [n3, k2]
      refine r_if_ne (tgt := 123) C dX6_pattern_74 (by decide) (fun c74 => absurd c74 ((fun q => q rfl))) (fun c74 => ?_)
      refine r_aload_n C dX6_pattern_77 rfl rfl ?_
      refine bg_X6_19 C dX6_pattern_78 ?_
      refine r_iload_n C dX6_pattern_81 rfl rfl ?_
      refine bl_2 C dX6_pattern_82 (vp_in_nI hj (by decide)) ?_
      rw [nI_clamp (by omega), a2]
      refine r_ifnonnullN C dX6_pattern_83 ?_
      refine r_aload_n C dX6_pattern_86 rfl rfl ?_
      refine bg_X6_19 C dX6_pattern_87 ?_
      refine r_iload_n C dX6_pattern_90 rfl rfl ?_
      skip
      refine r_new (ci := 3) C [.null, .null, .int 0, .int 0, .int 0, .int 0, .int 0, .int 0, .null, .null, .null, .null, .null, .null, .int 0, .null, .int 0, .int 0] rfl inX3 tyX3_ok cl_X6_17 ni_X3.1 ni_X3.2 (fun j hj => by rcases (show j = 0 ∨ j = 1 ∨ j = 2 ∨ j = 3 ∨ j = 4 ∨ j = 5 ∨ j = 6 ∨ j = 7 ∨ j = 8 ∨ j = 9 ∨ j = 10 ∨ j = 11 ∨ j = 12 ∨ j = 13 ∨ j = 14 ∨ j = 15 ∨ j = 16 ∨ j = 17 by omega) with rfl | rfl | rfl | rfl | rfl | rfl | rfl | rfl | rfl | rfl | rfl | rfl | rfl | rfl | rfl | rfl | rfl | rfl <;> rfl) (by decide) (by decide) dX6_pattern_91 (fun q0 => ?_)
      refine r_dup C dX6_pattern_94 rfl ?_
      refine r_callINv C hE (c_X3_init G q0) kcX6_X3_init dX6_pattern_95 (by decide) (by decide) (by decide) (Nat.le_of_ble_eq_true rfl) [_] (List.range _) nd_1 nw_C nw_R all_nd nw_d (fun Ap hu => ?_)
      obtain ⟨Ap, hq0⟩ := Ap
      subst hq0
      refine V.perm (List.perm_append_comm) ?_
      refine r_aast (t0 := 5) (ci := 3) (r := (RX3, TX3, 18)) (ws' := pW G Ap pN0 zR zQ ++ (bW G A N1 R1 (va_up Q 2 (va_up (Q 2) (nI j).toNatClampNeg (some (Ap 0)))) ++ (plB G pb ++ P))) C 23 0 (fun _ => rfl) rfl rfl rfl (vp_in_nI hj (by decide)) rfl dX6_pattern_98 ?_
      rw [nI_clamp (by omega)]
      have hpl : (pW G Ap pN0 zR zQ ++ (bW G A N1 R1 (va_up Q 2 (va_up (Q 2) j (some (Ap 0)))) ++ (plB G pb ++ P))).Perm (bW G A N1 R1 (va_up Q 2 (va_up (Q 2) j (some (Ap 0)))) ++ (plB G (va_up pb j (some (Ap, pN0, zR))) ++ P)) := by
        have h0 := pl_out (G := G) (pb := pb) hj
        rw [a1] at h0
        exact ((h0.append_right P).append_left _ |>.append_left _).trans (pl_back (b := (Ap, pN0, zR)) hj)
      refine V.perm hpl ?_
      refine fin (va_up Q 2 (va_up (Q 2) j (some (Ap 0)))) (va_up pb j (some (Ap, pN0, zR))) (Ap, pN0, zR) _ _ (by decide) (by decide) va_up_at va_up_at (fun i hi => va_up_no hi) (fun b' hb' hK' hF' => ?_) ⟨2, 0, 0, rfl, by decide, by decide, rfl, rfl, Nat.le_refl _, Nat.zero_le _⟩
      have := ptT_I hI (b' := b') hj hn2 hn7 hm3 hokr hK' hF'
      rw [hb'] at this
      rw [up_up]
      exact this
    · refine r_aload_n C dX6_pattern_62 rfl rfl ?_
      refine r_iconst (v := 0) C dX6_pattern_63 (by decide) ?_
      refine bp_X6_13 C dX6_pattern_64 ?_
      show V X _ _ 67 _ _ (bW G A (va_up (va_up N 3 (u.1 0)) 0 (va_up (N 0) 1 0)) (rdR R u.2) Q ++ (plB G pb ++ P))
      rw [← hN1, ← hR1]
      refine r_aload_n C dX6_pattern_67 rfl rfl ?_
      refine bg_X6_28 C dX6_pattern_68 ?_
      refine bg_X6_84 C dX6_pattern_71 ?_
      rw [n3, k2]
      refine r_if_ne (tgt := 123) C dX6_pattern_74 (by decide) (fun c74 => absurd c74 ((fun q => q rfl))) (fun c74 => ?_)
      refine r_aload_n C dX6_pattern_77 rfl rfl ?_
      refine bg_X6_19 C dX6_pattern_78 ?_
      refine r_iload_n C dX6_pattern_81 rfl rfl ?_
      refine bl_2 C dX6_pattern_82 (vp_in_nI hj (by decide)) ?_
      rw [nI_clamp (by omega), a2]
      refine r_ifnonnullR (tgt := 99) C dX6_pattern_83 (by decide) ?_
      refine fin Q pb b _ _ (by decide) (by decide) a1 a2 (fun _ _ => rfl) (fun b' hb' hK' hF' => ?_) hFb
      have := ptT_I hI (b' := b') hj hn2 hn7 hm3 hokr hK' hF'
      rw [hb', up_same a2] at this
      exact this
end PTN
