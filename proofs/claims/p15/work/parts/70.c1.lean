/-! the class: feed, fault, which pattern there is -/
abbrev Nt : Type := Nat → Nat → Int32
abbrev Qt : Type := Nat → Nat → Option Nat
abbrev nse : String := "java/util/NoSuchElementException"
abbrev iae : String := "java/lang/IllegalArgumentException"
def bI (G : Gx) (A : Nat → Nat) (P : va_W) (y : MethodName) (b : ByteArray) (nL : Nat) (rt : FieldType) (d : Nat) (avs : List Value) (N : Nt) (R : Rt) (Q : Qt) (post : Int32 → Nt → Rt → Prop) : Prop :=
  CI G y b nL rt d 0 0 (.ref (A 0) :: avs) (bW G A N R Q ++ P) (S := Nt × Rt) (fun r u => post r u.1 u.2) (fun u => bW G A u.1 u.2 Q ++ P)
def bV (G : Gx) (A : Nat → Nat) (P : va_W) (y : MethodName) (b : ByteArray) (nL : Nat) (d : Nat) (avs : List Value) (N : Nt) (R : Rt) (Q : Qt) (post : Nt → Rt → Prop) : Prop :=
  CV G y b nL d 0 0 (.ref (A 0) :: avs) (bW G A N R Q ++ P) (S := Nt × Rt) (fun u => post u.1 u.2) (fun u => bW G A u.1 u.2 Q ++ P)
theorem bI.intro {G : Gx} {A : Nat → Nat} {P : va_W} {y : MethodName} {b : ByteArray} {nL : Nat} {rt : FieldType} {d : Nat} {avs : List Value} {N : Nt} {R : Rt} {Q : Qt} {post : Int32 → Nt → Rt → Prop} (hy : plainName y.cls = true) (hn : (Value.ref (A 0) :: avs).length ≤ nL) (hc : ∀ v ∈ (Value.ref (A 0) :: avs), v.category = 1)
    (body : ∀ X : Fx, Cx X G nL b y.cls d 0 0 → (∀ (pc : Nat) (L : List (Option Value)) (v : Int32) (N' : Nt) (R' : Rt), narrow rt (.int v) = .int v → decode b pc = .ok (.ireturn, 1) → post v N' R' → V X 0 0 pc L [.int v] (bW G A N' R' Q ++ P)) → V X 0 0 0 (ent (.ref (A 0) :: avs) nL) [] (bW G A N R Q ++ P)) : bI G A P y b nL rt d avs N R Q post :=
  CI.intro hy hn hc fun X C hR => body X C fun pc L v N' R' h1 h2 h3 => hR 0 0 pc L v (N', R') (Nat.le_refl _) (Nat.le_refl _) h1 h3 h2
theorem bV.intro {G : Gx} {A : Nat → Nat} {P : va_W} {y : MethodName} {b : ByteArray} {nL : Nat} {d : Nat} {avs : List Value} {N : Nt} {R : Rt} {Q : Qt} {post : Nt → Rt → Prop} (hy : plainName y.cls = true) (hn : (Value.ref (A 0) :: avs).length ≤ nL) (hc : ∀ v ∈ (Value.ref (A 0) :: avs), v.category = 1)
    (body : ∀ X : Fx, Cx X G nL b y.cls d 0 0 → (∀ (pc : Nat) (L : List (Option Value)) (N' : Nt) (R' : Rt), decode b pc = .ok (.return_, 1) → post N' R' → V X 0 0 pc L [] (bW G A N' R' Q ++ P)) → V X 0 0 0 (ent (.ref (A 0) :: avs) nL) [] (bW G A N R Q ++ P)) : bV G A P y b nL d avs N R Q post :=
  CV.intro hy hn hc fun X C hR => body X C fun pc L N' R' h2 h3 => hR 0 0 pc L (N', R') (Nat.le_refl _) (Nat.le_refl _) h3 h2
section BC
variable {X : Fx} {G : Gx} {nL : Nat} {cc : ByteArray} {own : String} {d mc ms k n pc : Nat} {L : List (Option Value)} {st : List Value} {A : Nat → Nat} {P : va_W} {N : Nt} {R : Rt} {Q : Qt}
theorem b_calli (C : Cx X G nL cc own d mc ms) {y : MethodName} {b : ByteArray} {nL' idx np d' : Nat} {rt : FieldType} {As : List Value} {post : Int32 → Nt → Rt → Prop} (hM : bI G A P y b nL' rt d' As N R Q post) (hI : KV own idx y b nL' (some rt) np) (hdg : decode cc pc = .ok (.invokevirtual idx, 3)) (hnp : As.length = np) (hd : d' + 1 ≤ d) (hk : k ≤ mc) (hn : n ≤ ms) (hst : (st.map fun v => v.category).sum ≤ 8) (hy : RX6 = y.cls)
    {st0 : List Value} (hs0 : st0 = As.reverse ++ .ref (A 0) :: st) (kk : ∀ (r : Int32) (N' : Nt) (R' : Rt), post r N' R' → V X k n (pc + 3) L (.int r :: st) (bW G A N' R' Q ++ P)) : V X k n pc L st0 (bW G A N R Q ++ P) :=
  a_callVi C hM hI hdg hnp hd hk hn hst 0 (ci := 6) rfl rfl hy hs0 (fun r u hu => kk r u.1 u.2 hu)
theorem b_callv (C : Cx X G nL cc own d mc ms) {y : MethodName} {b : ByteArray} {nL' idx np d' : Nat} {As : List Value} {post : Nt → Rt → Prop} (hM : bV G A P y b nL' d' As N R Q post) (hI : KV own idx y b nL' none np) (hdg : decode cc pc = .ok (.invokevirtual idx, 3)) (hnp : As.length = np) (hd : d' + 1 ≤ d) (hk : k ≤ mc) (hn : n ≤ ms) (hst : (st.map fun v => v.category).sum ≤ 8) (hy : RX6 = y.cls)
    {st0 : List Value} (hs0 : st0 = As.reverse ++ .ref (A 0) :: st) (kk : ∀ (N' : Nt) (R' : Rt), post N' R' → V X k n (pc + 3) L st (bW G A N' R' Q ++ P)) : V X k n pc L st0 (bW G A N R Q ++ P) :=
  a_callVv C hM hI hdg hnp hd hk hn hst 0 (ci := 6) rfl rfl hy hs0 (fun u hu => kk u.1 u.2 hu)
end BC
/-- .. that may throw NoSuchElementException, and leaves all as it was -/
def bX (G : Gx) (A : Nat → Nat) (P : va_W) (y : MethodName) (b : ByteArray) (nL : Nat) (rt : FieldType) (d : Nat) (avs : List Value) (N : Nt) (R : Rt) (Q : Qt) (px : Prop) (post : Int32 → Prop) : Prop :=
  XI G y (.code y b nL (some rt)) d 1 6 (.ref (A 0) :: avs) (bW G A N R Q ++ P) (px, nse, bW G A N R Q ++ P) (S := Unit) (fun r _ => post r) (fun _ => bW G A N R Q ++ P)
theorem cat0 {xs : List Int32} : ∀ v ∈ xs.map Value.int, v.category = 1 := by
  intro v hv
  obtain ⟨x, -, rfl⟩ := List.mem_map.mp hv
  rfl
def layB (f : Nat → Int32) (t : Nat) (v : Int32) : Nat → Nat → Int32
  | 0 => f
  | i + 1 => upd (layB f t v i) (t + i) (v >>> (ks i &&& 31)).toInt8.toInt32
theorem nar_b (x : Int32) : vp_nar .byte x.toInt8.toInt32 = x.toInt8.toInt32 := by unfold vp_nar; rw [pk_nb]
section C1
variable (G : Gx) (A : Nat → Nat) (P : va_W) (N : Nt) (R : Rt) (Q : Qt)
theorem c_isWidth (w : Int32) : CI G yX6_isWidth cX6_isWidth 1 .boolean 0 0 0 [.int w] [] (S := Unit) (fun r _ => r = if ¬ w < 1 ∧ ¬ 9 < w then 1 else 0) (fun _ => []) := by
  refine CI.intro (by decide) (Nat.le_of_ble_eq_true rfl) (cat0 (xs := [w])) fun X C hR => ?_
  have j16 : ∀ v : Int32, (v = 0 ∨ v = 1) → v = (if ¬ w < 1 ∧ ¬ 9 < w then 1 else 0) → V X 0 0 16 (ent [.int w] 1) [.int v] [] := by
    intro v h1 h2
    exact hR _ _ _ _ _ () (by decide) (by decide) (by rcases h1 with q | q <;> rw [q] <;> rfl) h2 dX6_isWidth_16
  refine r_iload_n C dX6_isWidth_0 rfl rfl ?_
  refine r_iconst (v := 1) C dX6_isWidth_1 (by decide) ?_
  refine r_icmp_lt (tgt := 15) C dX6_isWidth_2 (by decide) (fun c2 => ?_) (fun c2 => ?_)
  · refine r_iconst (v := 0) C dX6_isWidth_15 (by decide) ?_
    exact j16 _ (by first | exact Or.inl rfl | exact Or.inr rfl) (by simp_all)
  · refine r_iload_n C dX6_isWidth_5 rfl rfl ?_
    refine r_bipush (v := 9) C dX6_isWidth_6 (by decide) ?_
    refine r_icmp_gt (tgt := 15) C dX6_isWidth_8 (by decide) (fun c8 => ?_) (fun c8 => ?_)
    · refine r_iconst (v := 0) C dX6_isWidth_15 (by decide) ?_
      exact j16 _ (by first | exact Or.inl rfl | exact Or.inr rfl) (by simp_all)
    · refine r_iconst (v := 1) C dX6_isWidth_11 (by decide) ?_
      refine r_goto (tgt := 16) C dX6_isWidth_12 (by decide) ?_
      exact j16 _ (by first | exact Or.inl rfl | exact Or.inr rfl) (by simp_all)
theorem c_tapeBytes {t : Nat} (v : Int32) (ht : N 0 1 = nI t) (h8 : t + 4 ≤ 800) : bV G A P yX6_tapeBytes cX6_tapeBytes 3 0 [.int v] N R Q (fun N' R' => N' = va_up N 0 (va_up (N 0) 1 (nI (t + 4))) ∧ R' = va_up R 1 (layB (R 1) t v 4)) := by
  refine bV.intro (by decide) (Nat.le_of_ble_eq_true rfl) (cat1 (xs := [v])) fun X C hR => ?_
  have key : ∀ (f i : Nat), i + f = 4 → V X 0 0 3 [some (.ref (A 0)), some (.int v), some (.int (ks i))] [] (bW G A (va_up N 0 (va_up (N 0) 1 (nI (t + i)))) (va_up R 1 (layB (R 1) t v i)) Q ++ P) := by
    intro f
    induction f with
    | zero =>
      intro i hi
      have hi4 : i = 4 := by omega
      subst hi4
      refine r_iload_n C dX6_tapeBytes_3 rfl rfl ?_
      refine r_if_lt (tgt := 46) C dX6_tapeBytes_4 (by decide) (fun c4 => ?_) (fun c4 => absurd c4 ((by decide)))
      exact hR _ _ _ _ dX6_tapeBytes_46 ⟨rfl, rfl⟩
    | succ f ih =>
      intro i hi
      have hp : ¬ ks i < 0 := by
        rcases (show i = 0 ∨ i = 1 ∨ i = 2 ∨ i = 3 by omega) with rfl | rfl | rfl | rfl <;> decide
      have hq : ks i + (-8) = ks (i + 1) := by
        rcases (show i = 0 ∨ i = 1 ∨ i = 2 ∨ i = 3 by omega) with rfl | rfl | rfl | rfl <;> decide
      have c800 : (800 : Int32) = nI 800 := rfl
      refine r_iload_n C dX6_tapeBytes_3 rfl rfl ?_
      refine r_if_lt (tgt := 46) C dX6_tapeBytes_4 (by decide) (fun c4 => absurd c4 (hp)) (fun c4 => ?_)
      refine r_aload_n C dX6_tapeBytes_7 rfl rfl ?_
      refine bg_X6_13 C dX6_tapeBytes_8 ?_
      refine r_sipush (v := 800) C dX6_tapeBytes_11 (by decide) ?_
      show V X 0 0 14 _ [.int 800, .int (nI (t + i))] _
      rw [c800]
      refine r_icmp_ge (tgt := 46) C dX6_tapeBytes_14 (by decide) (fun c14 => absurd c14 ((by rw [nI_leI (by omega) (by omega)]; omega))) (fun c14 => ?_)
      refine r_aload_n C dX6_tapeBytes_17 rfl rfl ?_
      refine bg_X6_9 C dX6_tapeBytes_18 ?_
      refine r_aload_n C dX6_tapeBytes_21 rfl rfl ?_
      refine bg_X6_13 C dX6_tapeBytes_22 ?_
      refine r_iload_n C dX6_tapeBytes_25 rfl rfl ?_
      refine r_iload_n C dX6_tapeBytes_26 rfl rfl ?_
      refine r_ishr C dX6_tapeBytes_27 ?_
      refine r_i2b C dX6_tapeBytes_28 ?_
      refine bs_1 C dX6_tapeBytes_29 (vp_in_nI (show t + i < 800 by omega) (by decide)) ?_
      show V X 0 0 30 _ _ (bW G A (va_up N 0 (va_up (N 0) 1 (nI (t + i)))) (va_up (va_up R 1 (layB (R 1) t v i)) 1 (upd (layB (R 1) t v i) (nI (t + i)).toNatClampNeg (vp_nar .byte (v >>> (ks i &&& 31)).toInt8.toInt32))) Q ++ P)
      rw [nI_clamp (by omega), up_up, nar_b]
      refine r_aload_n C dX6_tapeBytes_30 rfl rfl ?_
      refine r_dup C dX6_tapeBytes_31 rfl ?_
      refine bg_X6_13 C dX6_tapeBytes_32 ?_
      refine r_iconst (v := 1) C dX6_tapeBytes_35 (by decide) ?_
      refine r_iadd C dX6_tapeBytes_36 ?_
      refine bp_X6_13 C dX6_tapeBytes_37 ?_
      show V X 0 0 40 _ _ (bW G A (va_up (va_up N 0 (va_up (N 0) 1 (nI (t + i)))) 0 (va_up (va_up (N 0) 1 (nI (t + i))) 1 (nI (t + i) + 1))) _ Q ++ P)
      rw [up_up, up_up, nI_1]
      refine r_iinc (v := _ + (-8)) C dX6_tapeBytes_40 rfl (by rfl) (by decide) ?_
      show V X 0 0 43 [some (.ref (A 0)), some (.int v), some (.int (ks i + (-8)))] _ _
      rw [hq]
      refine r_goto (tgt := 3) C dX6_tapeBytes_43 (by decide) ?_
      exact ih (i + 1) (by omega)
  have k0 := key 4 0 rfl
  rw [Nat.add_zero, up_same ht, up_same rfl, show layB (R 1) t v 0 = R 1 from rfl, up_same rfl] at k0
  refine r_bipush (v := 24) C dX6_tapeBytes_0 (by decide) ?_
  refine r_istore_n C dX6_tapeBytes_2 rfl (by decide) ?_
  exact k0
def feedB (f : Nat → Int32) (t : Nat) (a b c d e : Int32) : Nat → Int32 := layB (layB (layB (layB (layB f t a 4) (t + 4) b 4) (t + 8) c 4) (t + 12) d 4) (t + 16) e 4
theorem c_bfeed {t : Nat} (a b c d e : Int32) (ht : N 0 1 = nI t) (h8 : t ≤ 800) : bI G A P yX6_feed cX6_feed 6 .int 1 [.int a, .int b, .int c, .int d, .int e] N R Q (fun r N' R' => if t ≤ 780 then r = nI (t + 20) ∧ N' = va_up N 0 (va_up (N 0) 1 (nI (t + 20))) ∧ R' = va_up R 1 (feedB (R 1) t a b c d e) else r = -1 ∧ N' = N ∧ R' = R) := by
  refine bI.intro (by decide) (Nat.le_of_ble_eq_true rfl) (cat1 (xs := [a, b, c, d, e])) fun X C hR => ?_
  have c780 : (780 : Int32) = nI 780 := rfl
  refine r_aload_n C dX6_feed_0 rfl rfl ?_
  refine bg_X6_13 C dX6_feed_1 ?_
  refine r_sipush (v := 780) C dX6_feed_4 (by decide) ?_
  rw [ht, c780]
  refine r_icmp_le (tgt := 12) C dX6_feed_7 (by decide) (fun c7 => ?_) (fun c7 => ?_)
  · rw [nI_leI (by omega) (by omega)] at c7
    refine r_aload_n C dX6_feed_12 rfl rfl ?_
    refine r_iload_n C dX6_feed_13 rfl rfl ?_
    refine b_callv C (c_tapeBytes G A P N R Q (t := t) a ht (by omega)) kcX6_X6_tapeBytes dX6_feed_14 rfl (by decide) (by decide) (by decide) (Nat.le_of_ble_eq_true rfl) rfl rfl (fun N1 R1 hu => ?_)
    obtain ⟨rfl, rfl⟩ := hu
    refine r_aload_n C dX6_feed_17 rfl rfl ?_
    refine r_iload_n C dX6_feed_18 rfl rfl ?_
    refine b_callv C (c_tapeBytes G A P _ _ Q (t := t + 4) b rfl (by omega)) kcX6_X6_tapeBytes dX6_feed_19 rfl (by decide) (by decide) (by decide) (Nat.le_of_ble_eq_true rfl) rfl rfl (fun N1 R1 hu => ?_)
    obtain ⟨rfl, rfl⟩ := hu
    refine r_aload_n C dX6_feed_22 rfl rfl ?_
    refine r_iload_n C dX6_feed_23 rfl rfl ?_
    refine b_callv C (c_tapeBytes G A P _ _ Q (t := t + 8) c rfl (by omega)) kcX6_X6_tapeBytes dX6_feed_24 rfl (by decide) (by decide) (by decide) (Nat.le_of_ble_eq_true rfl) rfl rfl (fun N1 R1 hu => ?_)
    obtain ⟨rfl, rfl⟩ := hu
    refine r_aload_n C dX6_feed_27 rfl rfl ?_
    refine r_iload C dX6_feed_28 rfl ?_
    refine b_callv C (c_tapeBytes G A P _ _ Q (t := t + 12) d rfl (by omega)) kcX6_X6_tapeBytes dX6_feed_30 rfl (by decide) (by decide) (by decide) (Nat.le_of_ble_eq_true rfl) rfl rfl (fun N1 R1 hu => ?_)
    obtain ⟨rfl, rfl⟩ := hu
    refine r_aload_n C dX6_feed_33 rfl rfl ?_
    refine r_iload C dX6_feed_34 rfl ?_
    refine b_callv C (c_tapeBytes G A P _ _ Q (t := t + 16) e rfl (by omega)) kcX6_X6_tapeBytes dX6_feed_36 rfl (by decide) (by decide) (by decide) (Nat.le_of_ble_eq_true rfl) rfl rfl (fun N1 R1 hu => ?_)
    obtain ⟨rfl, rfl⟩ := hu
    refine r_aload_n C dX6_feed_39 rfl rfl ?_
    refine bg_X6_13 C dX6_feed_40 ?_
    exact hR _ _ _ _ _ rfl dX6_feed_43 (by rw [if_pos (by omega)]; exact ⟨rfl, by simp only [up_up, va_up_at], by simp only [up_up]; rfl⟩)
  · rw [nI_leI (by omega) (by omega)] at c7
    refine r_iconst (v := -1) C dX6_feed_10 (by decide) ?_
    exact hR _ _ _ _ _ rfl dX6_feed_11 (by rw [if_neg (by omega)]; exact ⟨rfl, rfl, rfl⟩)
theorem c_bfault (w : Int32) : bX G A P yX6_fault cX6_fault 2 .int 6 [.int w] N R Q (w ≠ 0 ∧ w ≠ 1) (fun r => (w = 0 ∧ r = N 3 2) ∨ (w = 1 ∧ r = N 3 3)) := by
  refine XI.intro (by decide) (Nat.le_of_ble_eq_true rfl) (cat1 (xs := [w])) fun X C hE hR hO hN => ?_
  refine r_iload_n C dX6_fault_0 rfl rfl ?_
  refine r_look (t0 := 28) (t1 := 36) (td := 44) C dX6_fault_1 (by decide) (by decide) (by decide) (fun c1 => ?_) (fun c1 => ?_) (fun c1a c1b => ?_)
  · refine r_aload_n C dX6_fault_28 rfl rfl ?_
    refine bg_X6_28 C dX6_fault_29 ?_
    refine bg_X6_84 C dX6_fault_32 ?_
    exact hR _ _ _ _ _ () (by decide) (by decide) rfl (Or.inl ⟨c1, rfl⟩) dX6_fault_35
  · refine r_aload_n C dX6_fault_36 rfl rfl ?_
    refine bg_X6_28 C dX6_fault_37 ?_
    refine bg_X6_99 C dX6_fault_40 ?_
    exact hR _ _ _ _ _ () (by decide) (by decide) rfl (Or.inr ⟨c1, rfl⟩) dX6_fault_43
  · exact hN _ _ _ _ _ 102 104 106 "no such question" (by first | decide | omega) (by first | decide | omega) (⟨c1a, c1b⟩) (by decide) (Nat.le_of_ble_eq_true rfl) kt_nse (by decide) rfl dX6_fault_44 dX6_fault_47 dX6_fault_48 dX6_fault_50 dX6_fault_53
/-- the pattern of this number, or none -/
def patQ (Q : Qt) (k : Int32) : Option Nat := if ¬ k < 0 ∧ k < 8 then Q 2 (cl k) else none
theorem c_patternOrNull (kk : Int32) : XQ G yX6_patternOrNull (.code yX6_patternOrNull cX6_patternOrNull 2 (some (.object "PlaitBench$Pattern"))) 0 0 0 [.ref (A 0), .int kk] (bW G A N R Q ++ P) (False, nse, []) (S := Unit) (fun o _ => o = patQ Q kk) (fun _ => bW G A N R Q ++ P) := by
  refine XQ.intro (Or.inl ⟨_, rfl⟩) (by decide) (Nat.le_of_ble_eq_true rfl) (cat1 (xs := [kk])) fun X C hE hR hO hN => ?_
  have j20 : ∀ o : Option Nat, o = patQ Q kk → V X 0 0 20 (ent [.ref (A 0), .int kk] 2) [va_rf o] (bW G A N R Q ++ P) := fun o ho => hR _ _ _ _ o () (by decide) (by decide) ho dX6_patternOrNull_20
  refine r_iload_n C dX6_patternOrNull_0 rfl rfl ?_
  refine r_if_lt (tgt := 10) C dX6_patternOrNull_1 (by decide) (fun c1 => ?_) (fun c1 => ?_)
  · refine r_null C dX6_patternOrNull_10 ?_
    refine r_goto (tgt := 20) C dX6_patternOrNull_11 (by decide) ?_
    exact j20 none (by unfold patQ; rw [if_neg (fun q => by first | exact q.1 c1 | exact c7 q.2)])
  · refine r_iload_n C dX6_patternOrNull_4 rfl rfl ?_
    refine r_bipush (v := 8) C dX6_patternOrNull_5 (by decide) ?_
    refine r_icmp_lt (tgt := 14) C dX6_patternOrNull_7 (by decide) (fun c7 => ?_) (fun c7 => ?_)
    · refine r_aload_n C dX6_patternOrNull_14 rfl rfl ?_
      refine bg_X6_19 C dX6_patternOrNull_15 ?_
      refine r_iload_n C dX6_patternOrNull_18 rfl rfl ?_
      refine bl_2 C dX6_patternOrNull_19 (by obtain ⟨j, hj, rfl⟩ := nI_of c1; exact vp_in_nI ((nI_ltI (b := 8) hj (by decide)).mp c7) (by decide)) ?_
      exact j20 _ (by unfold patQ; first | (rw [if_neg (fun q => by simp_all [Int32.not_le, Int32.not_lt])]; done) | (rw [if_pos ⟨c1, c7⟩]; rfl))
    · refine r_null C dX6_patternOrNull_10 ?_
      refine r_goto (tgt := 20) C dX6_patternOrNull_11 (by decide) ?_
      exact j20 none (by unfold patQ; rw [if_neg (fun q => by first | exact q.1 c1 | exact c7 q.2)])
theorem c_knownPattern (kk : Int32) : XQ G yX6_knownPattern (.code yX6_knownPattern cX6_knownPattern 3 (some (.object "PlaitBench$Pattern"))) 6 1 6 [.ref (A 0), .int kk] (bW G A N R Q ++ P) (patQ Q kk = none, nse, bW G A N R Q ++ P) (S := Unit) (fun o _ => o = patQ Q kk ∧ o ≠ none) (fun _ => bW G A N R Q ++ P) := by
  refine XQ.intro (Or.inl ⟨_, rfl⟩) (by decide) (Nat.le_of_ble_eq_true rfl) (cat1 (xs := [kk])) fun X C hE hR hO hN => ?_
  refine r_aload_n C dX6_knownPattern_0 rfl rfl ?_
  refine r_iload_n C dX6_knownPattern_1 rfl rfl ?_
  refine a_callXq C hE (c_patternOrNull G A P N R Q kk) kcX6_X6_patternOrNull dX6_knownPattern_2 rfl (by decide) (by decide) (by decide) (Nat.le_of_ble_eq_true rfl) 0 rfl (ci := 6) rfl rfl rfl (fun q => q.elim) (fun o u hu => ?_)
  skip
  cases o with
  | none =>
    refine r_astore_nN C dX6_knownPattern_5 rfl (by decide) ?_
    refine r_aload_nN C dX6_knownPattern_6 rfl rfl ?_
    refine r_ifnonnullN C dX6_knownPattern_7 ?_
    exact hN _ _ _ _ _ 102 240 106 "no such pattern" (by first | decide | omega) (by first | decide | omega) (hu.symm) (by decide) (Nat.le_of_ble_eq_true rfl) kt_nse (by decide) rfl dX6_knownPattern_10 dX6_knownPattern_13 dX6_knownPattern_14 dX6_knownPattern_16 dX6_knownPattern_19
  | some a =>
    refine r_astore_n C dX6_knownPattern_5 rfl (by decide) ?_
    refine r_aload_n C dX6_knownPattern_6 rfl rfl ?_
    refine r_ifnonnullR (tgt := 20) C dX6_knownPattern_7 (by decide) ?_
    refine r_aload_n C dX6_knownPattern_20 rfl rfl ?_
    exact hR _ _ _ _ (some a) () (by decide) (by decide) ⟨hu, fun q => nomatch q⟩ dX6_knownPattern_21
end C1
