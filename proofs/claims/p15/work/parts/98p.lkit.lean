/-! the law's loop: cells in order, calls, what holds between two calls -/
theorem q_o {w a b c d m x : va_W} : (w ++ (a ++ (b ++ (c ++ (d ++ (m ++ x)))))).Perm (x ++ (w ++ (a ++ (b ++ (c ++ (d ++ m)))))) := by
  refine ((((((List.perm_append_comm (l₁ := m) (l₂ := x)).append_left d).append_left c).append_left b).append_left a).append_left w).trans ?_
  refine (((((List.perm_append_comm_assoc d x _).append_left c).append_left b).append_left a).append_left w).trans ?_
  refine ((((List.perm_append_comm_assoc c x _).append_left b).append_left a).append_left w).trans ?_
  refine (((List.perm_append_comm_assoc b x _).append_left a).append_left w).trans ?_
  refine ((List.perm_append_comm_assoc a x _).append_left w).trans ?_
  exact (List.perm_append_comm_assoc w x _)
theorem q_op {w a b c d m x : va_W} : (w ++ (a ++ (b ++ (c ++ (d ++ (m ++ x)))))).Perm (x ++ (w ++ (d ++ (a ++ (b ++ (c ++ m)))))) := by
  refine ((((((List.perm_append_comm (l₁ := m) (l₂ := x)).append_left d).append_left c).append_left b).append_left a).append_left w).trans ?_
  refine (((((List.perm_append_comm_assoc d x _).append_left c).append_left b).append_left a).append_left w).trans ?_
  refine ((((List.perm_append_comm_assoc c x _).append_left b).append_left a).append_left w).trans ?_
  refine (((List.perm_append_comm_assoc b x _).append_left a).append_left w).trans ?_
  refine ((List.perm_append_comm_assoc a x _).append_left w).trans ?_
  refine (List.perm_append_comm_assoc w x _).trans ?_
  refine (((((List.perm_append_comm_assoc c d _).append_left b).append_left a).append_left w).append_left x).trans ?_
  refine ((((List.perm_append_comm_assoc b d _).append_left a).append_left w).append_left x).trans ?_
  exact (((List.perm_append_comm_assoc a d _).append_left w).append_left x)
theorem q_os {w a b c d m x : va_W} : (w ++ (a ++ (b ++ (c ++ (d ++ (m ++ x)))))).Perm (x ++ (w ++ (b ++ (a ++ (c ++ (d ++ m)))))) := by
  refine ((((((List.perm_append_comm (l₁ := m) (l₂ := x)).append_left d).append_left c).append_left b).append_left a).append_left w).trans ?_
  refine (((((List.perm_append_comm_assoc d x _).append_left c).append_left b).append_left a).append_left w).trans ?_
  refine ((((List.perm_append_comm_assoc c x _).append_left b).append_left a).append_left w).trans ?_
  refine (((List.perm_append_comm_assoc b x _).append_left a).append_left w).trans ?_
  refine ((List.perm_append_comm_assoc a x _).append_left w).trans ?_
  refine (List.perm_append_comm_assoc w x _).trans ?_
  exact (((List.perm_append_comm_assoc a b _).append_left w).append_left x)
theorem q_oh {w a b c d m x : va_W} : (w ++ (a ++ (b ++ (c ++ (d ++ (m ++ x)))))).Perm (x ++ (w ++ (c ++ (a ++ (b ++ (d ++ m)))))) := by
  refine ((((((List.perm_append_comm (l₁ := m) (l₂ := x)).append_left d).append_left c).append_left b).append_left a).append_left w).trans ?_
  refine (((((List.perm_append_comm_assoc d x _).append_left c).append_left b).append_left a).append_left w).trans ?_
  refine ((((List.perm_append_comm_assoc c x _).append_left b).append_left a).append_left w).trans ?_
  refine (((List.perm_append_comm_assoc b x _).append_left a).append_left w).trans ?_
  refine ((List.perm_append_comm_assoc a x _).append_left w).trans ?_
  refine (List.perm_append_comm_assoc w x _).trans ?_
  refine ((((List.perm_append_comm_assoc b c _).append_left a).append_left w).append_left x).trans ?_
  exact (((List.perm_append_comm_assoc a c _).append_left w).append_left x)
theorem q_m {w a b c d m x : va_W} : (w ++ (a ++ (b ++ (c ++ (d ++ (m ++ x)))))).Perm (m ++ (w ++ (a ++ (b ++ (c ++ (d ++ x)))))) := by
  refine (((((List.perm_append_comm_assoc d m _).append_left c).append_left b).append_left a).append_left w).trans ?_
  refine ((((List.perm_append_comm_assoc c m _).append_left b).append_left a).append_left w).trans ?_
  refine (((List.perm_append_comm_assoc b m _).append_left a).append_left w).trans ?_
  refine ((List.perm_append_comm_assoc a m _).append_left w).trans ?_
  exact (List.perm_append_comm_assoc w m _)
theorem q_p {w a b c d m x : va_W} : (w ++ (a ++ (b ++ (c ++ (d ++ (m ++ x)))))).Perm (w ++ (d ++ (a ++ (b ++ (c ++ (m ++ x)))))) := by
  refine ((((List.perm_append_comm_assoc c d _).append_left b).append_left a).append_left w).trans ?_
  refine (((List.perm_append_comm_assoc b d _).append_left a).append_left w).trans ?_
  exact ((List.perm_append_comm_assoc a d _).append_left w)
theorem q_sc {w a b c d m x : va_W} : (w ++ (a ++ (b ++ (c ++ (d ++ (m ++ x)))))).Perm (w ++ (a ++ (b ++ (d ++ (c ++ (m ++ x)))))) := by
  exact ((((List.perm_append_comm_assoc c d _).append_left b).append_left a).append_left w)
theorem q_h {w a b c d m x : va_W} : (w ++ (a ++ (b ++ (c ++ (d ++ (m ++ x)))))).Perm (w ++ (b ++ (c ++ (a ++ (d ++ (m ++ x)))))) := by
  refine ((List.perm_append_comm_assoc a b _).append_left w).trans ?_
  exact (((List.perm_append_comm_assoc a c _).append_left b).append_left w)
theorem bp_b (x : Int32) : x.toInt8.toInt32 &&& 255 = x &&& 255 := by
  apply Int32.toBitVec_inj.mp
  rw [Int32.toBitVec_and, Int32.toBitVec_and, Int8.toBitVec_toInt32, Int32.toBitVec_toInt8]
  apply BitVec.eq_of_getLsbD_eq
  intro i hi
  rw [BitVec.getLsbD_and, BitVec.getLsbD_and]
  have hm : ∀ i < 32, 8 ≤ i → (255 : Int32).toBitVec.getLsbD i = false := by decide
  rcases Nat.lt_or_ge i 8 with z | z
  · rw [BitVec.getLsbD_signExtend, BitVec.getLsbD_signExtend, if_pos z, if_pos hi]
    simp only [z, hi, decide_true, Bool.true_and]
  · rw [hm i hi z]; simp
section LK2
variable {X : Fx} {G : Gx} {nL : Nat} {cc : ByteArray} {own : String} {d mc ms k n pc : Nat} {L : List (Option Value)} {st : List Value} {ws P : va_W} {h : Nat} {ad : Nat → Nat} {M : Mt} {R : Rt}
theorem a_callHi (C : Cx X G nL cc own d mc ms) (hE : Ev X) {y : MethodName} {b : ByteArray} {nL' idx np : Nat} {rt : FieldType} {hh : List (Nat × Nat × Nat × Nat)} {d' mc' ms' : Nat} {As : List Value} {S : Type} {post : Int32 → S → Prop} {wo : S → va_W} (hM : XI G y (.codeWith y b nL' (some rt) hh) d' mc' ms' As ws (False, "", []) post wo) (hI : KH own idx y b nL' (some rt) hh np) (hdg : decode cc pc = .ok (.invokestatic idx, 3)) (hnp : As.length = np) (hd : d' + 1 ≤ d) (hk : k + mc' ≤ mc) (hn : n + ms' ≤ ms) (hst : (st.map fun v => v.category).sum ≤ 8)
    {st0 : List Value} (hs0 : st0 = As.reverse ++ st) (kk : ∀ (r : Int32) (u : S), post r u → V X (k + mc') (n + ms') (pc + 3) L (.int r :: st) (wo u)) : V X k n pc L st0 ws :=
  r_callHi C hE hM hI hdg hnp hd hk hn hst (List.range ws.length) [] all_nd all_is (wr := []) rfl rfl (fun _ h => absurd h List.not_mem_nil) hs0 kk
theorem lm_calli (C : Cx X G nL cc own d mc ms) {y : MethodName} {b : ByteArray} {nL' idx np d' : Nat} {rt : FieldType} {As : List Value} {post : Int32 → Mt → Rt → Prop} (hM : mI G h ad y b nL' rt d' As M R post) (hI : KV own idx y b nL' (some rt) np) (hdg : decode cc pc = .ok (.invokevirtual idx, 3)) (hnp : As.length = np) (hd : d' + 1 ≤ d) (hk : k ≤ mc) (hn : n ≤ ms) (hst : (st.map fun v => v.category).sum ≤ 8) (hy : RX7 = y.cls)
    {st0 : List Value} (hs0 : st0 = As.reverse ++ .ref h :: st) (kk : ∀ (r : Int32) (M' : Mt) (R' : Rt), post r M' R' → V X k n (pc + 3) L (.int r :: st) (mW G h ad M' R' ++ P)) : V X k n pc L st0 (mW G h ad M R ++ P) :=
  r_callVi C hM hI hdg hnp hd hk hn hst 0 (ci := 7) rfl rfl hy is28 ([] ++ tlx 28 P) (by decide) (tl_C rfl) (wr := [] ++ P) (tl_R (wr := []) rfl rfl) (tl_nd rfl (fun _ q => absurd q List.not_mem_nil)) (tl_dis (fun _ q => absurd q List.not_mem_nil) (by decide)) hs0 (fun r u hu => V.perm (List.perm_append_comm (l₁ := [] ++ P)) (kk r u.1 u.2 hu))
end LK2
section LH2
variable {G : Gx}
theorem h_factorJ {wc : va_W} {x o d mc ms : Nat} {fs : List Value} {f : Nat → Int64} {SX : Type} {px : SX → Prop} {wx : SX → va_W} {S : Type} {post : Int32 → S → Prop} {wo : S → va_W} (p0 p1 : Int32) (hM : XJ G yX6_factor (.code yX6_factor cX6_factor 4 (some .int)) d mc ms [.ref x, .int p0, .int p1] wc px nse wx post wo) (he : wc[0]? = some (x, .inr (6, fs))) : XI G yL_factor (.codeWith yL_factor cL_factor 5 (some .int) [(0, 10, 13, 19)]) (d + 1) mc ms [.ref x, .int p0, .int p1, .ref o] ([(o, .inl (G.2.2 2, 1, .inr (.inl f)))] ++ wc) (False, "", []) (S := SX ⊕ (S × Int32)) (fun r u => match u with
    | .inl s => px s ∧ r = 1
    | .inr (s, v) => post v s ∧ r = 0) (fun u => match u with
    | .inl s => [(o, .inl (G.2.2 2, 1, .inr (.inl f)))] ++ wx s
    | .inr (s, v) => [(o, .inl (G.2.2 2, 1, .inr (.inl (vp_updL f 0 v.toInt64))))] ++ wo s) := by
  refine HI.intro (by decide) (Nat.le_of_ble_eq_true rfl) (catL (xs := [p0, p1])) fun X C hE hT hR => ?_
  refine r_aload_n C dL_factor_0 rfl rfl ?_
  refine r_iconst (v := 0) C dL_factor_1 (by decide) ?_
  refine r_aload_n C dL_factor_2 rfl rfl ?_
  refine r_iload_n C dL_factor_3 rfl rfl ?_
  refine r_iload_n C dL_factor_4 rfl rfl ?_
  refine r_callXj C hE hM kcL_X6_factor dL_factor_5 rfl (Nat.le_refl _) (by omega) (by omega) (Nat.le_of_ble_eq_true rfl) 0 he (ci := 6) rfl rfl ([] ++ tlx 1 wc) [0] (tl_nd rfl (fun _ h => absurd h List.not_mem_nil)) (tl_R (ws := [(o, .inl (G.2.2 2, 1, .inr (.inl f)))]) (wr := []) rfl rfl) (wr := [(o, .inl (G.2.2 2, 1, .inr (.inl f)))]) (tl_C rfl) rfl (fun i hi hc => absurd (tl_m hc) (by rw [List.mem_singleton.mp hi]; decide)) rfl (fun u0 hpx => ?_) (fun v u hu => ?_)
  · refine r_catch C hE hT (Or.inr rfl) lkL_nse (by decide) (by decide) (by decide) (fun q9 => ?_)
    refine r_astore C dL_factor_13 (by decide) ?_
    refine r_iconst (v := 1) C dL_factor_15 (by decide) ?_
    exact hR _ _ _ _ _ (.inl u0) (by omega) (by omega) rfl ⟨hpx, rfl⟩ dL_factor_16
  · refine r_i2l C dL_factor_8 ?_
    refine r_last (ws' := [(o, .inl (G.2.2 2, 1, .inr (.inl (vp_updL f 0 v.toInt64))))] ++ wo u) C 0 rfl (vp_in_nI (n := 0) (by decide) (by decide)) rfl dL_factor_9 ?_
    refine r_goto (tgt := 17) C dL_factor_10 (by decide) ?_
    refine r_iconst (v := 0) C dL_factor_17 (by decide) ?_
    exact hR _ _ _ _ _ (.inr (u, v)) (by omega) (by omega) rfl ⟨hu, rfl⟩ dL_factor_18
end LH2
theorem sl_0 {i : Nat} : nI i = nI (i + 0) := rfl
theorem sl_1 {i : Nat} : nI i + 1 = nI (i + 1) := nI_1 i
theorem sl_2 {i : Nat} : nI i + 2 = nI (i + 2) := nI_add i 2
theorem sl_3 {i : Nat} : nI i + 3 = nI (i + 3) := nI_add i 3
theorem sl_4 {i : Nat} : nI i + 4 = nI (i + 4) := nI_add i 4
theorem sl_5 {i : Nat} : nI i + 5 = nI (i + 5) := nI_add i 5
/-! the tape -/
theorem txt_upd {f : Nat → Int32} {k : Nat} {y : Int32} : txt (upd f k y.toInt8.toInt32) = upd (txt f) k (y &&& 255) := by
  funext i
  unfold txt
  by_cases e : i = k
  · subst e; rw [pk_us, pk_us, bp_b]
  · rw [pk_un e, pk_un e]
theorem txt_lay {f : Nat → Int32} {t : Nat} {v : Int32} : ∀ i, txt (layB f t v i) = layN (txt f) t v i
  | 0 => rfl
  | i + 1 => by
    show txt (upd (layB f t v i) (t + i) _) = upd (layN (txt f) t v i) (t + i) _
    rw [txt_upd, txt_lay i]
theorem bt_lay {f : Nat → Int32} {t : Nat} {v : Int32} (h : BtOK f) : ∀ i, BtOK (layB f t v i)
  | 0 => h
  | i + 1 => fun j => by
    show (upd (layB f t v i) (t + i) (v >>> (ks i &&& 31)).toInt8.toInt32 j).toInt8.toInt32 = upd (layB f t v i) (t + i) (v >>> (ks i &&& 31)).toInt8.toInt32 j
    by_cases e : j = t + i
    · subst e; rw [pk_us]; simp
    · rw [pk_un e]; exact bt_lay h i j
theorem txt_feed {f : Nat → Int32} {t : Nat} {a b c d e : Int32} : txt (feedB f t a b c d e) = feedT (txt f) t a b c d e := by
  unfold feedB feedT
  rw [txt_lay, txt_lay, txt_lay, txt_lay, txt_lay]
theorem bt_feed {f : Nat → Int32} {t : Nat} {a b c d e : Int32} (h : BtOK f) : BtOK (feedB f t a b c d e) := bt_lay (bt_lay (bt_lay (bt_lay (bt_lay h 4) 4) 4) 4) 4
/-! the two readings differ in a fault's kind alone -/
section MD2
variable {t p5 p6 p7 : Nat → Int32} {e n : Nat}
theorem pt_md {q : Rst} {a1 dg v : Nat} : ptF true p5 p6 p7 n q a1 dg v = ptF false p5 p6 p7 n q a1 dg v ∨ ∃ p, ptF true p5 p6 p7 n q a1 dg v = .inl (2, p) ∧ ptF false p5 p6 p7 n q a1 dg v = .inl (3, p) := by
  unfold ptF
  by_cases h1 : dg = 0
  · left; rw [if_pos h1, if_pos h1]
  · rw [if_neg h1, if_neg h1]
    by_cases h2 : 7 < v ∨ 2 < dg
    · left; rw [if_pos h2, if_pos h2]
    · rw [if_neg h2, if_neg h2]
      by_cases h3 : p5 v ≠ nI n
      · rw [if_pos h3, if_pos h3]
        by_cases h4 : 0 < p5 v ∧ 300 < q.2.1 + cl (p6 v)
        · right; exact ⟨a1, by rw [if_pos ⟨rfl, h4⟩], by rw [if_neg (fun w => absurd w.1 (by decide))]⟩
        · left; rw [if_neg (fun w => h4 w.2), if_neg (fun w => absurd w.1 (by decide))]
      · left; rw [if_neg h3, if_neg h3]
theorem step_md {q : Rst} : stepF true t p5 p6 p7 e n q = stepF false t p5 p6 p7 e n q ∨ ∃ p, stepF true t p5 p6 p7 e n q = .inl (2, p) ∧ stepF false t p5 p6 p7 e n q = .inl (3, p) := by
  unfold stepF
  by_cases h1 : t q.1 = 41
  · left; rw [if_pos h1, if_pos h1]
  · rw [if_neg h1, if_neg h1]
    by_cases h2 : t q.1 = 117 ∨ t q.1 = 109 ∨ t q.1 = 116
    · left; rw [if_pos h2, if_pos h2]
    · rw [if_neg h2, if_neg h2]
      by_cases h3 : t q.1 = 112
      · rw [if_pos h3, if_pos h3]; exact pt_md
      · left; rw [if_neg h3, if_neg h3]
theorem run_md : ∀ (f : Nat) (q : Rst), runF true t p5 p6 p7 e n f q = runF false t p5 p6 p7 e n f q ∨ ∃ p, runF true t p5 p6 p7 e n f q = .inl (2, p) ∧ runF false t p5 p6 p7 e n f q = .inl (3, p)
  | 0, q => Or.inl rfl
  | f + 1, q => by
    by_cases hq : q.1 < e
    · rcases step_md (t := t) (p5 := p5) (p6 := p6) (p7 := p7) (e := e) (n := n) (q := q) with h | ⟨p, h1, h2⟩
      · cases hs : stepF false t p5 p6 p7 e n q with
        | inl x => left; rw [runF_bad hq hs, runF_bad hq (h.trans hs)]
        | inr q' => rw [runF_go hq hs, runF_go hq (h.trans hs)]; exact run_md f _
      · right; exact ⟨p, runF_bad hq h1, runF_bad hq h2⟩
    · left; rw [runF_stop hq, runF_stop hq]
theorem read_md : readF true t p5 p6 p7 e n = readF false t p5 p6 p7 e n ∨ ∃ p, readF true t p5 p6 p7 e n = .inl (2, p) ∧ readF false t p5 p6 p7 e n = .inl (3, p) := run_md _ _
end MD2
/-! what holds between two calls -/
def LI (N : Nt) (R : Rt) (Q : Qt) (pb : Nat → Option PbT) (ba sa hA : Nat → Nat) (nb ns nh : Nat) (M : Mt) (T : Rt) : Prop :=
  (∃ tp, tp ≤ 800 ∧ N 0 1 = nI tp ∧ M 2 = nI tp) ∧ (BtOK (R 1) ∧ txt (R 1) = T 1) ∧ (N 0 6 = nI nb ∧ M 28 = nI nb ∧ nb ≤ 40 ∧ (∀ i, i < nb → Q 11 i = some (ba i)) ∧ NumOK (T 33) nb 5000) ∧ (N 0 8 = nI ns ∧ M 29 = nI ns ∧ ns ≤ 60 ∧ (∀ i, i < ns → Q 12 i = some (sa i)) ∧ NumOK (T 35) ns 120000) ∧ (N 0 10 = nI nh ∧ M 30 = nI nh ∧ nh ≤ 60 ∧ ∀ i, i < nh → Q 13 i = some (hA i)) ∧ PtI pb (Q 2) T
/-- the reference's numbers and rows that tell -/
def KM (M M' : Mt) : Prop := ∀ i, (i = 2 ∨ i = 28 ∨ i = 29 ∨ i = 30) → M' i = M i
def KT' (T T' : Rt) : Prop := ∀ i, (i = 1 ∨ i = 5 ∨ i = 6 ∨ i = 7 ∨ (31 ≤ i ∧ i ≤ 42)) → T' i = T i
theorem KM.up0 {M : Mt} {v : Int32} : KM M (va_up M 0 v) := fun i hi => va_up_no (by omega)
theorem KT'.rf {T : Rt} : KT' T T := fun _ _ => rfl
theorem KT'.up {T : Rt} {k : Nat} {P : Nat → Int32} (h : k ≠ 1 ∧ k ≠ 5 ∧ k ≠ 6 ∧ k ≠ 7 ∧ (k < 31 ∨ 42 < k)) : KT' T (va_up T k P) := fun i hi => va_up_no (by omega)
theorem PtI.cgT {pb : Nat → Option PbT} {Q2 : Nat → Option Nat} {T T' : Rt} (h5 : T' 5 = T 5) (h6 : T' 6 = T 6) (h7 : T' 7 = T 7) (h : PtI pb Q2 T) : PtI pb Q2 T' := by
  unfold PtI PatOK rowOf at *
  rw [h5, h6, h7]
  exact h
theorem LI.keep {N : Nt} {R : Rt} {Q : Qt} {pb : Nat → Option PbT} {ba sa hA : Nat → Nat} {nb ns nh : Nat} {M M' : Mt} {T T' : Rt} (hM : KM M M') (hT : KT' T T') (h : LI N R Q pb ba sa hA nb ns nh M T) : LI N R Q pb ba sa hA nb ns nh M' T' := by
  unfold LI at *
  rw [hM 2 (by omega), hM 28 (by omega), hM 29 (by omega), hM 30 (by omega), hT 1 (by omega), hT 33 (by omega), hT 35 (by omega)]
  obtain ⟨h1, h2, h3, h4, h5, h6⟩ := h
  exact ⟨h1, h2, h3, h4, h5, h6.cgT (hT 5 (by omega)) (hT 6 (by omega)) (hT 7 (by omega))⟩
def LV (G : Gx) (A : Nat → Nat) (h : Nat) (ad : Nat → Nat) (o : Nat) (N : Nt) (R : Rt) (Q : Qt) (pb : Nat → Option PbT) (ba sa hA : Nat → Nat) (nb ns nh : Nat) (T : Rt) (M : Mt) (Rm : Rt) (f : Nat → Int64) : va_W := bW G A N R Q ++ (rgm nb (bnC ba T) ++ (rgm ns (scC sa T) ++ (rgm nh (haC hA T) ++ (plB G pb ++ (mW G h ad M Rm ++ [(o, .inl (G.2.2 2, 1, .inr (.inl f)))])))))
theorem LV_cg {G : Gx} {A : Nat → Nat} {h : Nat} {ad : Nat → Nat} {o : Nat} {N : Nt} {R : Rt} {Q : Qt} {pb : Nat → Option PbT} {ba sa hA : Nat → Nat} {nb ns nh : Nat} {T T' : Rt} {M : Mt} {Rm : Rt} {f : Nat → Int64} (hT : KT' T T') : LV G A h ad o N R Q pb ba sa hA nb ns nh T M Rm f = LV G A h ad o N R Q pb ba sa hA nb ns nh T' M Rm f := by
  unfold LV
  rw [rgm_congr (f := bnC ba T) (f' := bnC ba T') (fun i _ => by unfold bnC; rw [hT 31 (by omega), hT 32 (by omega), hT 33 (by omega)]), rgm_congr (f := scC sa T) (f' := scC sa T') (fun i _ => by unfold scC; rw [hT 34 (by omega), hT 35 (by omega), hT 36 (by omega), hT 37 (by omega), hT 38 (by omega)]), rgm_congr (f := haC hA T) (f' := haC hA T') (fun i _ => by unfold haC; rw [hT 39 (by omega), hT 40 (by omega), hT 41 (by omega), hT 42 (by omega)])]
/-- the stock's rows alone -/
def KZ (T T' : Rt) : Prop := ∀ i, 31 ≤ i → i ≤ 42 → T' i = T i
theorem LV_cs {G : Gx} {A : Nat → Nat} {h : Nat} {ad : Nat → Nat} {o : Nat} {N : Nt} {R : Rt} {Q : Qt} {pb : Nat → Option PbT} {ba sa hA : Nat → Nat} {nb ns nh : Nat} {T T' : Rt} {M : Mt} {Rm : Rt} {f : Nat → Int64} (hT : KZ T T') : LV G A h ad o N R Q pb ba sa hA nb ns nh T M Rm f = LV G A h ad o N R Q pb ba sa hA nb ns nh T' M Rm f := by
  unfold LV
  rw [rgm_congr (f := bnC ba T) (f' := bnC ba T') (fun i _ => by unfold bnC; rw [hT 31 (by omega) (by omega), hT 32 (by omega) (by omega), hT 33 (by omega) (by omega)]), rgm_congr (f := scC sa T) (f' := scC sa T') (fun i _ => by unfold scC; rw [hT 34 (by omega) (by omega), hT 35 (by omega) (by omega), hT 36 (by omega) (by omega), hT 37 (by omega) (by omega), hT 38 (by omega) (by omega)]), rgm_congr (f := haC hA T) (f' := haC hA T') (fun i _ => by unfold haC; rw [hT 39 (by omega) (by omega), hT 40 (by omega) (by omega), hT 41 (by omega) (by omega), hT 42 (by omega) (by omega)])]
theorem LI.pb {N : Nt} {R : Rt} {Q : Qt} {pb pb' : Nat → Option PbT} {ba sa hA : Nat → Nat} {nb ns nh : Nat} {M : Mt} {T : Rt} (h : LI N R Q pb ba sa hA nb ns nh M T) (hp : PtI pb' (Q 2) T) : LI N R Q pb' ba sa hA nb ns nh M T := by
  obtain ⟨h1, h2, h3, h4, h5, -⟩ := h
  exact ⟨h1, h2, h3, h4, h5, hp⟩
theorem LI.bk {N N' : Nt} {R R' : Rt} {Q : Qt} {pb pb' : Nat → Option PbT} {ba sa hA : Nat → Nat} {nb ns nh : Nat} {M : Mt} {T : Rt} (h : LI N R Q pb ba sa hA nb ns nh M T) (hp : PtI pb' (Q 2) T) (hb : BK N N' R R') : LI N' R' Q pb' ba sa hA nb ns nh M T := by
  unfold LI at *
  rw [hb.1 0 (by decide), hb.2 1 (by decide)]
  obtain ⟨h1, h2, h3, h4, h5, -⟩ := h
  exact ⟨h1, h2, h3, h4, h5, hp⟩
theorem bn_cells {ba : Nat → Nat} {T : Rt} {nb q : Nat} {x y z : Int32} : rgm nb (bnC ba T) ++ [(q, (.inr (0, [.int x, .int y, .int z]) : va_E))] = rgm (nb + 1) (bnC (va_up ba nb q) (va_up (va_up (va_up T 31 (upd (T 31) nb x)) 32 (upd (T 32) nb y)) 33 (upd (T 33) nb z))) := by
  rw [rgm_s]
  congr 1
  · refine rgm_congr (fun i hi => ?_)
    show bnC ba T i = (va_up ba nb q i, (.inr (0, [.int (upd (T 31) nb x i), .int (upd (T 32) nb y i), .int (upd (T 33) nb z i)]) : va_E))
    rw [va_up_no (by omega), pk_un (by omega), pk_un (by omega), pk_un (by omega)]
    rfl
  · show [_] = [(va_up ba nb q nb, (.inr (0, [.int (upd (T 31) nb x nb), .int (upd (T 32) nb y nb), .int (upd (T 33) nb z nb)]) : va_E))]
    rw [va_up_at, pk_us, pk_us, pk_us]
theorem okP_uniq {tp : Nat} {k s z : Int32} {j n e j' n' e' : Nat} (htp : tp ≤ 800) (h : okP tp k s z j n e) (h' : okP tp k s z j' n' e') : j = j' ∧ n = n' ∧ e = e' := by
  obtain ⟨rfl, hj, rfl, hn2, hn7, rfl, he⟩ := h
  obtain ⟨e1, hj', e2, hn2', hn7', e3, he'⟩ := h'
  exact ⟨(nI_eq (by omega) (by omega)).mp e1, (nI_eq (by omega) (by omega)).mp e2, (nI_eq (by omega) (by omega)).mp e3⟩
theorem okS_uniq {T : Rt} {ns : Nat} {k t w : Int32} {j s z Tn wn j' s' z' Tn' wn' : Nat} (h : okS T ns k t w j s z Tn wn) (h' : okS T ns k t w j' s' z' Tn' wn') : j = j' ∧ s = s' ∧ z = z' ∧ Tn = Tn' ∧ wn = wn' := by
  obtain ⟨-, hj, rfl, hp, rfl, t1, t2, rfl, w1, w9, -⟩ := h
  obtain ⟨-, hj', e1, hp', e2, t1', t2', e3, w1', w9', -⟩ := h'
  have ej := (nI_eq (by omega) (by omega)).mp e1
  subst ej
  have := PatOK_uniq hp hp'
  exact ⟨rfl, this.1, this.2, (nI_eq (by omega) (by omega)).mp e2, (nI_eq (by omega) (by omega)).mp e3⟩
theorem okH_uniq {nh : Nat} {w r : Int32} {wn rn wn' rn' : Nat} (h : okH nh w r wn rn) (h' : okH nh w r wn' rn') : wn = wn' ∧ rn = rn' := by
  obtain ⟨-, rfl, rfl, w1, w9, r1, r4, -⟩ := h
  obtain ⟨-, e1, e2, w1', w9', r1', r4', -⟩ := h'
  exact ⟨(nI_eq (by omega) (by omega)).mp e1, (nI_eq (by omega) (by omega)).mp e2⟩
abbrev lM (b x h o i : Nat) (L5 L6 : Option Value) : List (Option Value) := [some (.ref b), some (.ref x), some (.ref h), some (.ref o), some (.int (nI i)), L5, L6]
/-- the call is behind: the loop goes on at pc -/
def NX (X : Fx) (G : Gx) (A : Nat → Nat) (h : Nat) (ad : Nat → Nat) (o b i pc k n : Nat) : Prop := ∀ (N : Nt) (R : Rt) (Q : Qt) (pb : Nat → Option PbT) (ba sa hA : Nat → Nat) (nb ns nh : Nat) (M : Mt) (T : Rt) (f : Nat → Int64) (L5 L6 : Option Value) (k' n' : Nat), LI N R Q pb ba sa hA nb ns nh M T → k' ≤ k + 30 → n' ≤ n + 800 → V X k' n' pc (lM b (A 0) h o i L5 L6) [] (LV G A h ad o N R Q pb ba sa hA nb ns nh T M T f)
theorem cr_arg {pb : Nat → Option PbT} {Q2 : Nat → Option Nat} {T : Rt} (hI : PtI pb Q2 T) (kk : Int32) : ∃ j z, isPat T kk → kk = nI j ∧ j < 8 ∧ T 6 j = nI z ∧ z ≤ 300 := by
  by_cases h : isPat T kk
  · obtain ⟨j, s, z, hj, e, hp⟩ := isPat_at h hI.pats
    exact ⟨j, z, fun _ => ⟨e, hj, hp.2.2.2.1, hp.2.2.2.2.1⟩⟩
  · exact ⟨0, 0, fun q => absurd q h⟩
theorem sz_arg {kk : Int32} (h0 : ¬ kk < 0) (h7 : ¬ 7 < kk) : kk = nI (cl kk) ∧ cl kk < 8 := by
  obtain ⟨j, hj, rfl⟩ := nI_of h0
  rw [show (7 : Int32) = nI 7 from rfl, nI_ltI (by decide) hj] at h7
  rw [cl_nI hj]
  exact ⟨rfl, by omega⟩
theorem p05 {pb : Nat → Option PbT} {Q2 : Nat → Option Nat} {T : Rt} (hI : PtI pb Q2 T) : ∀ j, j < 8 → T 5 j = 0 ∨ 0 < T 5 j := fun j hj => by
  rcases hI j hj with ⟨-, -, e⟩ | ⟨b, s, z, -, -, hp, -⟩
  · exact Or.inl e
  · exact Or.inr (by rw [hp.1]; exact pos_nI (by have := hp.2.1; omega) (by have := hp.2.2.1; omega))
