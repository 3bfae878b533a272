/-! the stock: straws taken, scores sewn -/
theorem mn_nI {a b : Nat} (ha : a < 2 ^ 31) (hb : b < 2 ^ 31) : (if nI b < nI a then nI b else nI a) = nI (min b a) := by
  by_cases h : b < a
  · rw [if_pos (nI_lt h ha), Nat.min_eq_left (by omega)]
  · rw [if_neg (nI_nlt (by omega) hb), Nat.min_eq_right (by omega)]
theorem nle0 {n : Nat} (h : n < 2 ^ 31) : nI n ≤ 0 ↔ n = 0 := by
  rw [show (0 : Int32) = nI 0 from rfl, nI_leI h (by decide)]
  omega
theorem catH {a b : Nat} {x : Int32} : ∀ v ∈ [Value.ref a, Value.ref b, Value.int x], v.category = 1 := catM
theorem bn_put {w P : va_W} {m n i : Nat} {ba : Nat → Nat} {T : Rt} {q1 : Nat → Int32} {v : Int32} (hm : w.length = m) (hi : i < n) : (w ++ (rgm n (bnC ba (va_up T 33 q1)) ++ P)).set (m + i) (ba i, .inr (0, [.int (T 31 i), .int (T 32 i), .int v])) = w ++ (rgm n (bnC ba (va_up T 33 (upd q1 i v))) ++ P) := by
  have e : (ba i, (.inr (0, [.int (T 31 i), .int (T 32 i), .int v]) : va_E)) = bnC ba (va_up T 33 (upd q1 i v)) i := by
    show _ = (ba i, (.inr (0, [.int (T 31 i), .int (T 32 i), .int (upd q1 i v i)]) : va_E))
    rw [pk_us]
  rw [e]
  refine rgm_set hm hi (fun j _ hji => ?_)
  show (ba j, (.inr (0, [.int (T 31 j), .int (T 32 j), .int (upd q1 i v j)]) : va_E)) = (ba j, .inr (0, [.int (T 31 j), .int (T 32 j), .int (q1 j)]))
  rw [pk_un hji]
theorem sc_put {w P : va_W} {m n i : Nat} {sa : Nat → Nat} {T : Rt} {q1 : Nat → Int32} {v : Int32} (hm : w.length = m) (hi : i < n) : (w ++ (rgm n (scC sa (va_up T 35 q1)) ++ P)).set (m + i) (sa i, .inr (5, [.int (T 36 i), .int (T 34 i), .int (T 37 i), .int (T 38 i), .int v])) = w ++ (rgm n (scC sa (va_up T 35 (upd q1 i v))) ++ P) := by
  have e : (sa i, (.inr (5, [.int (T 36 i), .int (T 34 i), .int (T 37 i), .int (T 38 i), .int v]) : va_E)) = scC sa (va_up T 35 (upd q1 i v)) i := by
    show _ = (sa i, (.inr (5, [.int (T 36 i), .int (T 34 i), .int (T 37 i), .int (T 38 i), .int (upd q1 i v i)]) : va_E))
    rw [pk_us]
  rw [e]
  refine rgm_set hm hi (fun j _ hji => ?_)
  show (sa j, (.inr (5, [.int (T 36 j), .int (T 34 j), .int (T 37 j), .int (T 38 j), .int (upd q1 i v j)]) : va_E)) = (sa j, .inr (5, [.int (T 36 j), .int (T 34 j), .int (T 37 j), .int (T 38 j), .int (q1 j)]))
  rw [pk_un hji]
section ST2
variable (G : Gx) (A : Nat → Nat) (P : va_W) (N : Nt) (R : Rt) (Q : Qt) (T : Rt) (ba sa hA : Nat → Nat)
theorem c_takeStraws {nb need : Nat} (w : Int32) (hb : N 0 6 = nI nb) (hb40 : nb ≤ 40) (hq : ∀ i, i < nb → Q 11 i = some (ba i)) (hL : NumOK (T 33) nb 5000) (hn : need < 2 ^ 30) : CI G yX6_takeStraws cX6_takeStraws 8 .int 1 0 0 [.ref (A 0), .int w, .int (nI need)] (bW G A N R Q ++ (rgm nb (bnC ba T) ++ P)) (S := Unit) (fun r _ => r = (tk (T 32) (fB T) w (T 33) need nb).2.2.1) (fun _ => bW G A N R Q ++ (rgm nb (bnC ba (va_up T 33 (tk (T 32) (fB T) w (T 33) need nb).1)) ++ P)) := by
  refine CI.intro (by decide) (Nat.le_of_ble_eq_true rfl) (cat1 (xs := [w, nI need])) fun X C hR => ?_
  have key : ∀ (f i : Nat) (o6 o7 : Option Value), i + f = nb → V X 0 0 8 [some (.ref (A 0)), some (.int w), some (.int (nI need)), some (.int (tk (T 32) (fB T) w (T 33) need i).2.2.1), some (.int (nI (tk (T 32) (fB T) w (T 33) need i).2.1)), some (.int (nI i)), o6, o7] [] (bW G A N R Q ++ (rgm nb (bnC ba (va_up T 33 (tk (T 32) (fB T) w (T 33) need i).1)) ++ P)) := by
    intro f
    induction f with
    | zero =>
      intro i o6 o7 hi
      have : i = nb := by omega
      subst this
      refine r_iload C dX6_takeStraws_8 rfl ?_
      refine r_aload_n C dX6_takeStraws_10 rfl rfl ?_
      refine bg_X6_47 C dX6_takeStraws_11 ?_
      rw [hb]
      refine r_icmp_ge (tgt := 95) C dX6_takeStraws_14 (by decide) (fun c14 => ?_) (fun c14 => absurd c14 ((fun q => q (by rw [nI_leI (by omega) (by omega)]; omega))))
      refine r_iload_n C dX6_takeStraws_95 rfl rfl ?_
      exact hR _ _ _ _ _ () (by decide) (by decide) rfl rfl dX6_takeStraws_96
    | succ f ih =>
      intro i o6 o7 hi
      have hin : i < nb := by omega
      obtain ⟨q, hqd⟩ : ∃ q, q = tk (T 32) (fB T) w (T 33) need i := ⟨_, rfl⟩
      have hok := tk_ok (W := T 32) (F := fB T) (w := w) (need := need) (by decide : 5000 < 2 ^ 31) hL i
      have hs : tk (T 32) (fB T) w (T 33) need (i + 1) = tkS (T 32) (fB T) w i q := by rw [hqd]; rfl
      rw [← hqd] at hok ⊢
      have h1 := hok.1 i hin
      obtain ⟨lv, hlv⟩ : ∃ lv, lv = cl (q.1 i) := ⟨_, rfl⟩
      rw [← hlv] at h1
      have hq2 := hok.2
      by_cases hz : q.2.1 = 0
      · have hst := tk_stop (W := T 32) (F := fB T) (w := w) (lf := T 33) (need := need) (s := i) (by rw [← hqd]; exact hz) (f + 1)
        rw [hi, ← hqd] at hst
        rw [hst] at hR
        refine r_iload C dX6_takeStraws_8 rfl ?_
        refine r_aload_n C dX6_takeStraws_10 rfl rfl ?_
        refine bg_X6_47 C dX6_takeStraws_11 ?_
        rw [hb]
        refine r_icmp_ge (tgt := 95) C dX6_takeStraws_14 (by decide) (fun c14 => absurd c14 ((by rw [nI_leI (by omega) (by omega)]; omega))) (fun c14 => ?_)
        refine r_iload C dX6_takeStraws_17 rfl ?_
        refine r_if_le (tgt := 95) C dX6_takeStraws_19 (by decide) (fun c19 => ?_) (fun c19 => absurd c19 ((fun w => w ((nle0 (by omega)).mpr hz))))
        refine r_iload_n C dX6_takeStraws_95 rfl rfl ?_
        exact hR _ _ _ _ _ () (by decide) (by decide) rfl rfl dX6_takeStraws_96
      · have j89 : ∀ (q' : TkT) (o6 o7 : Option Value), q' = tkS (T 32) (fB T) w i q → V X 0 0 89 [some (.ref (A 0)), some (.int w), some (.int (nI need)), some (.int q'.2.2.1), some (.int (nI q'.2.1)), some (.int (nI i)), o6, o7] [] (bW G A N R Q ++ (rgm nb (bnC ba (va_up T 33 q'.1)) ++ P)) := by
          intro q' o6 o7 hq'
          rw [hq', ← hs]
          refine r_iinc (v := _ + 1) C dX6_takeStraws_89 rfl (by rfl) (by decide) ?_
          refine r_goto (tgt := 8) C dX6_takeStraws_92 (by decide) ?_
          show V X 0 0 8 [_, _, _, _, _, some (.int (nI i + 1)), _, _] _ _
          rw [nI_1]
          exact ih (i + 1) o6 o7 (by omega)
        have j40 : T 32 i = w → ∀ o7 : Option Value, V X 0 0 40 [some (.ref (A 0)), some (.int w), some (.int (nI need)), some (.int q.2.2.1), some (.int (nI q.2.1)), some (.int (nI i)), some (.ref (ba i)), o7] [] (bW G A N R Q ++ (rgm nb (bnC ba (va_up T 33 q.1)) ++ P)) := by
          intro c37 o7
          by_cases hl0 : lv = 0
          · refine r_aload C dX6_takeStraws_40 rfl ?_
            refine r_get C (14 + i) 2 (rgm_at rfl hin) rfl inX0 (by decide) lk_X6_185 rfl dX6_takeStraws_42 ?_
            show V X 0 0 45 _ [.int (q.1 i)] _
            rw [h1.1]
            refine r_if_le (tgt := 89) C dX6_takeStraws_45 (by decide) (fun c45 => ?_) (fun c45 => absurd c45 ((fun w => w ((nle0 (by omega)).mpr hl0))))
            exact j89 q _ _ (by unfold tkS; rw [if_neg (fun e => e.2.2 (by rw [h1.1, hl0]; rfl))])
          · have hne : q.1 i ≠ 0 := by rw [h1.1]; exact nI_ne0 (by omega) (by omega)
            have hts : tkS (T 32) (fB T) w i q = (upd q.1 i (nI (lv - min lv q.2.1)), q.2.1 - min lv q.2.1, q.2.2.1 ||| fB T i, if i < 31 then q.2.2.2 ||| ((1 : Int32) <<< (nI i &&& 31)) else q.2.2.2) := by
              unfold tkS
              rw [if_pos ⟨by omega, c37, hne⟩, ← hlv]
            refine r_aload C dX6_takeStraws_40 rfl ?_
            refine r_get C (14 + i) 2 (rgm_at rfl hin) rfl inX0 (by decide) lk_X6_185 rfl dX6_takeStraws_42 ?_
            show V X 0 0 45 _ [.int (q.1 i)] _
            rw [h1.1]
            refine r_if_le (tgt := 89) C dX6_takeStraws_45 (by decide) (fun c45 => absurd c45 ((fun w => hl0 ((nle0 (by omega)).mp w)))) (fun c45 => ?_)
            refine r_iload C dX6_takeStraws_48 rfl ?_
            refine r_aload C dX6_takeStraws_50 rfl ?_
            refine r_get C (14 + i) 2 (rgm_at rfl hin) rfl inX0 (by decide) lk_X6_185 rfl dX6_takeStraws_52 ?_
            show V X 0 0 55 _ [.int (q.1 i), .int (nI q.2.1)] _
            rw [h1.1]
            refine r_mmin C km_X6_243 (by decide) (by decide) (by decide) (Nat.le_of_ble_eq_true rfl) dX6_takeStraws_55 ?_
            rw [mn_nI (by omega) (by omega)]
            refine r_istore C dX6_takeStraws_58 (by decide) ?_
            refine r_aload C dX6_takeStraws_60 rfl ?_
            refine r_dup C dX6_takeStraws_62 rfl ?_
            refine r_get C (14 + i) 2 (rgm_at rfl hin) rfl inX0 (by decide) lk_X6_185 rfl dX6_takeStraws_63 ?_
            show V X 0 0 66 _ [.int (q.1 i), .ref (ba i)] _
            rw [h1.1]
            refine r_iload C dX6_takeStraws_66 rfl ?_
            refine r_isub C dX6_takeStraws_68 ?_
            rw [pk_sub (Nat.min_le_left _ _)]
            refine r_put (ws' := bW G A N R Q ++ (rgm nb (bnC ba (va_up T 33 (upd q.1 i (nI (lv - min lv q.2.1))))) ++ P)) C (14 + i) 2 (rgm_at rfl hin) rfl inX0 tyX0_ok nmX0 (by decide) lk_X6_185 rfl (ty := .int) rfl rfl rfl (by show 2 < 3; decide) (bn_put rfl hin) dX6_takeStraws_69 ?_
            refine r_iload C dX6_takeStraws_72 rfl ?_
            refine r_iload C dX6_takeStraws_74 rfl ?_
            refine r_isub C dX6_takeStraws_76 ?_
            rw [pk_sub (Nat.min_le_right _ _)]
            refine r_istore C dX6_takeStraws_77 (by decide) ?_
            refine r_iload_n C dX6_takeStraws_79 rfl rfl ?_
            refine r_iconst (v := 1) C dX6_takeStraws_80 (by decide) ?_
            refine r_aload C dX6_takeStraws_81 rfl ?_
            refine r_get C (14 + i) 0 (rgm_at rfl hin) rfl inX0 (by decide) lk_X6_248 rfl dX6_takeStraws_83 ?_
            refine r_ishl C dX6_takeStraws_86 ?_
            refine r_ior C dX6_takeStraws_87 ?_
            refine r_istore_n C dX6_takeStraws_88 rfl (by decide) ?_
            exact j89 (upd q.1 i (nI (lv - min lv q.2.1)), q.2.1 - min lv q.2.1, q.2.2.1 ||| fB T i, if i < 31 then q.2.2.2 ||| ((1 : Int32) <<< (nI i &&& 31)) else q.2.2.2) _ _ hts.symm
        refine r_iload C dX6_takeStraws_8 rfl ?_
        refine r_aload_n C dX6_takeStraws_10 rfl rfl ?_
        refine bg_X6_47 C dX6_takeStraws_11 ?_
        rw [hb]
        refine r_icmp_ge (tgt := 95) C dX6_takeStraws_14 (by decide) (fun c14 => absurd c14 ((by rw [nI_leI (by omega) (by omega)]; omega))) (fun c14 => ?_)
        refine r_iload C dX6_takeStraws_17 rfl ?_
        refine r_if_le (tgt := 95) C dX6_takeStraws_19 (by decide) (fun c19 => absurd c19 ((fun w => hz ((nle0 (by omega)).mp w)))) (fun c19 => ?_)
        refine r_aload_n C dX6_takeStraws_22 rfl rfl ?_
        refine bg_X6_43 C dX6_takeStraws_23 ?_
        refine r_iload C dX6_takeStraws_26 rfl ?_
        refine bl_11 C dX6_takeStraws_28 (vp_in_nI (show i < 40 by omega) (by decide)) ?_
        rw [nI_clamp (by omega), hq i hin]
        show V X 0 0 29 _ [.ref (ba i)] _
        refine r_astore C dX6_takeStraws_29 (by decide) ?_
        refine r_aload C dX6_takeStraws_31 rfl ?_
        refine r_get C (14 + i) 1 (rgm_at rfl hin) rfl inX0 (by decide) lk_X6_242 rfl dX6_takeStraws_33 ?_
        show V X 0 0 36 _ [.int (T 32 i)] _
        refine r_iload_n C dX6_takeStraws_36 rfl rfl ?_
        refine r_icmp_ne (tgt := 89) C dX6_takeStraws_37 (by decide) (fun c37 => ?_) (fun c37 => ?_)
        · exact j89 q _ _ (by unfold tkS; rw [if_neg (fun e => c37 e.2.1)])
        · exact j40 c37 _
  have k0 := key nb 0 none none (by omega)
  rw [show (tk (T 32) (fB T) w (T 33) need 0).1 = T 33 from rfl, up_same rfl] at k0
  refine r_iconst (v := 0) C dX6_takeStraws_0 (by decide) ?_
  refine r_istore_n C dX6_takeStraws_1 rfl (by decide) ?_
  refine r_iload_n C dX6_takeStraws_2 rfl rfl ?_
  refine r_istore C dX6_takeStraws_3 (by decide) ?_
  refine r_iconst (v := 0) C dX6_takeStraws_5 (by decide) ?_
  refine r_istore C dX6_takeStraws_6 (by decide) ?_
  exact k0
/-- a hat that is being sewn -/
def hwC (hh : Nat) (ln tn : Int32) (q : TkT) : Nat × va_E := (hh, .inr (2, [.int ln, .int tn, .int q.2.2.1, .int q.2.2.2]))
theorem c_sewFromScores {ns need hh : Nat} (w tn : Int32) (hb : N 0 8 = nI ns) (hb60 : ns ≤ 60) (hq : ∀ i, i < ns → Q 12 i = some (sa i)) (hL : NumOK (T 35) ns 120000) (hn : need < 2 ^ 30) : CV G yX6_sewFromScores cX6_sewFromScores 7 1 0 0 [.ref (A 0), .ref hh, .int w] (bW G A N R Q ++ (rgm ns (scC sa T) ++ ((hh, .inr (2, [.int (nI need), .int tn, .int 0, .int 0])) :: P))) (S := Unit) (fun _ => True) (fun _ => bW G A N R Q ++ (rgm ns (scC sa (va_up T 35 (tk (T 36) (T 37) w (T 35) need ns).1)) ++ (hwC hh (nI need) tn (tk (T 36) (T 37) w (T 35) need ns) :: P))) := by
  refine CV.intro (by decide) (Nat.le_of_ble_eq_true rfl) catH fun X C hR => ?_
  have key : ∀ (f i : Nat) (o5 o6 : Option Value), i + f = ns → V X 0 0 8 [some (.ref (A 0)), some (.ref hh), some (.int w), some (.int (nI (tk (T 36) (T 37) w (T 35) need i).2.1)), some (.int (nI i)), o5, o6] [] (bW G A N R Q ++ (rgm ns (scC sa (va_up T 35 (tk (T 36) (T 37) w (T 35) need i).1)) ++ (hwC hh (nI need) tn (tk (T 36) (T 37) w (T 35) need i) :: P))) := by
    intro f
    induction f with
    | zero =>
      intro i o5 o6 hi
      have : i = ns := by omega
      subst this
      refine r_iload C dX6_sewFromScores_8 rfl ?_
      refine r_aload_n C dX6_sewFromScores_10 rfl rfl ?_
      refine bg_X6_56 C dX6_sewFromScores_11 ?_
      rw [hb]
      refine r_icmp_ge (tgt := 115) C dX6_sewFromScores_14 (by decide) (fun c14 => ?_) (fun c14 => absurd c14 ((fun q => q (by rw [nI_leI (by omega) (by omega)]; omega))))
      exact hR _ _ _ _ () (by decide) (by decide) trivial dX6_sewFromScores_115
    | succ f ih =>
      intro i o5 o6 hi
      have hin : i < ns := by omega
      obtain ⟨q, hqd⟩ : ∃ q, q = tk (T 36) (T 37) w (T 35) need i := ⟨_, rfl⟩
      have hok := tk_ok (W := T 36) (F := T 37) (w := w) (need := need) (by decide : 120000 < 2 ^ 31) hL i
      have hs : tk (T 36) (T 37) w (T 35) need (i + 1) = tkS (T 36) (T 37) w i q := by rw [hqd]; rfl
      rw [← hqd] at hok ⊢
      have h1 := hok.1 i hin
      obtain ⟨lv, hlv⟩ : ∃ lv, lv = cl (q.1 i) := ⟨_, rfl⟩
      rw [← hlv] at h1
      have hq2 := hok.2
      by_cases hz : q.2.1 = 0
      · have hst := tk_stop (W := T 36) (F := T 37) (w := w) (lf := T 35) (need := need) (s := i) (by rw [← hqd]; exact hz) (f + 1)
        rw [hi, ← hqd] at hst
        rw [hst] at hR
        refine r_iload C dX6_sewFromScores_8 rfl ?_
        refine r_aload_n C dX6_sewFromScores_10 rfl rfl ?_
        refine bg_X6_56 C dX6_sewFromScores_11 ?_
        rw [hb]
        refine r_icmp_ge (tgt := 115) C dX6_sewFromScores_14 (by decide) (fun c14 => absurd c14 ((by rw [nI_leI (by omega) (by omega)]; omega))) (fun c14 => ?_)
        refine r_iload_n C dX6_sewFromScores_17 rfl rfl ?_
        refine r_if_le (tgt := 115) C dX6_sewFromScores_18 (by decide) (fun c18 => ?_) (fun c18 => absurd c18 ((fun w => w ((nle0 (by omega)).mpr hz))))
        exact hR _ _ _ _ () (by decide) (by decide) trivial dX6_sewFromScores_115
      · have j109 : ∀ (q' : TkT) (o5 o6 : Option Value), q' = tkS (T 36) (T 37) w i q → V X 0 0 109 [some (.ref (A 0)), some (.ref hh), some (.int w), some (.int (nI q'.2.1)), some (.int (nI i)), o5, o6] [] (bW G A N R Q ++ (rgm ns (scC sa (va_up T 35 q'.1)) ++ (hwC hh (nI need) tn q' :: P))) := by
          intro q' o5 o6 hq'
          rw [hq', ← hs]
          refine r_iinc (v := _ + 1) C dX6_sewFromScores_109 rfl (by rfl) (by decide) ?_
          refine r_goto (tgt := 8) C dX6_sewFromScores_112 (by decide) ?_
          show V X 0 0 8 [_, _, _, _, some (.int (nI i + 1)), _, _] _ _
          rw [nI_1]
          exact ih (i + 1) o5 o6 (by omega)
        have j39 : T 36 i = w → ∀ o6 : Option Value, V X 0 0 39 [some (.ref (A 0)), some (.ref hh), some (.int w), some (.int (nI q.2.1)), some (.int (nI i)), some (.ref (sa i)), o6] [] (bW G A N R Q ++ (rgm ns (scC sa (va_up T 35 q.1)) ++ (hwC hh (nI need) tn q :: P))) := by
          intro c36 o6
          by_cases hl0 : lv = 0
          · refine r_aload C dX6_sewFromScores_39 rfl ?_
            refine r_get C (14 + i) 4 (rgm_at rfl hin) rfl inX5 (by decide) lk_X6_203 rfl dX6_sewFromScores_41 ?_
            show V X 0 0 44 _ [.int (q.1 i)] _
            rw [h1.1]
            refine r_if_le (tgt := 109) C dX6_sewFromScores_44 (by decide) (fun c44 => ?_) (fun c44 => absurd c44 ((fun w => w ((nle0 (by omega)).mpr hl0))))
            exact j109 q _ _ (by unfold tkS; rw [if_neg (fun e => e.2.2 (by rw [h1.1, hl0]; rfl))])
          · have hne : q.1 i ≠ 0 := by rw [h1.1]; exact nI_ne0 (by omega) (by omega)
            have hts : tkS (T 36) (T 37) w i q = (upd q.1 i (nI (lv - min lv q.2.1)), q.2.1 - min lv q.2.1, q.2.2.1 ||| T 37 i, if i < 31 then q.2.2.2 ||| ((1 : Int32) <<< (nI i &&& 31)) else q.2.2.2) := by
              unfold tkS
              rw [if_pos ⟨by omega, c36, hne⟩, ← hlv]
            refine r_aload C dX6_sewFromScores_39 rfl ?_
            refine r_get C (14 + i) 4 (rgm_at rfl hin) rfl inX5 (by decide) lk_X6_203 rfl dX6_sewFromScores_41 ?_
            show V X 0 0 44 _ [.int (q.1 i)] _
            rw [h1.1]
            refine r_if_le (tgt := 109) C dX6_sewFromScores_44 (by decide) (fun c44 => absurd c44 ((fun w => hl0 ((nle0 (by omega)).mp w)))) (fun c44 => ?_)
            refine r_iload_n C dX6_sewFromScores_47 rfl rfl ?_
            refine r_aload C dX6_sewFromScores_48 rfl ?_
            refine r_get C (14 + i) 4 (rgm_at rfl hin) rfl inX5 (by decide) lk_X6_203 rfl dX6_sewFromScores_50 ?_
            show V X 0 0 53 _ [.int (q.1 i), .int (nI q.2.1)] _
            rw [h1.1]
            refine r_mmin C km_X6_243 (by decide) (by decide) (by decide) (Nat.le_of_ble_eq_true rfl) dX6_sewFromScores_53 ?_
            rw [mn_nI (by omega) (by omega)]
            refine r_istore C dX6_sewFromScores_56 (by decide) ?_
            refine r_aload C dX6_sewFromScores_58 rfl ?_
            refine r_dup C dX6_sewFromScores_60 rfl ?_
            refine r_get C (14 + i) 4 (rgm_at rfl hin) rfl inX5 (by decide) lk_X6_203 rfl dX6_sewFromScores_61 ?_
            show V X 0 0 64 _ [.int (q.1 i), .ref (sa i)] _
            rw [h1.1]
            refine r_iload C dX6_sewFromScores_64 rfl ?_
            refine r_isub C dX6_sewFromScores_66 ?_
            rw [pk_sub (Nat.min_le_left _ _)]
            refine r_put (ws' := bW G A N R Q ++ (rgm ns (scC sa (va_up T 35 (upd q.1 i (nI (lv - min lv q.2.1))))) ++ (hwC hh (nI need) tn q :: P))) C (14 + i) 4 (rgm_at rfl hin) rfl inX5 tyX5_ok nmX5 (by decide) lk_X6_203 rfl (ty := .int) rfl rfl rfl (by show 4 < 5; decide) (sc_put rfl hin) dX6_sewFromScores_67 ?_
            refine r_iload_n C dX6_sewFromScores_70 rfl rfl ?_
            refine r_iload C dX6_sewFromScores_71 rfl ?_
            refine r_isub C dX6_sewFromScores_73 ?_
            rw [pk_sub (Nat.min_le_right _ _)]
            refine r_istore_n C dX6_sewFromScores_74 rfl (by decide) ?_
            refine r_aload_n C dX6_sewFromScores_75 rfl rfl ?_
            refine r_dup C dX6_sewFromScores_76 rfl ?_
            refine r_get C (14 + ns) 2 (rgm_next rfl) rfl inX2 (by decide) lk_X6_233 rfl dX6_sewFromScores_77 ?_
            refine r_aload C dX6_sewFromScores_80 rfl ?_
            refine r_get C (14 + i) 2 (rgm_at rfl hin) rfl inX5 (by decide) lk_X6_209 rfl dX6_sewFromScores_82 ?_
            refine r_ior C dX6_sewFromScores_85 ?_
            refine r_put (ws' := bW G A N R Q ++ (rgm ns (scC sa (va_up T 35 (upd q.1 i (nI (lv - min lv q.2.1))))) ++ ((hh, .inr (2, [.int (nI need), .int tn, .int (q.2.2.1 ||| T 37 i), .int q.2.2.2])) :: P))) C (14 + ns) 2 (rgm_next rfl) rfl inX2 tyX2_ok nmX2 (by decide) lk_X6_233 rfl (ty := .int) rfl rfl rfl (by show 2 < 4; decide) (rgm_nset rfl) dX6_sewFromScores_86 ?_
            refine r_iload C dX6_sewFromScores_89 rfl ?_
            refine r_bipush (v := 31) C dX6_sewFromScores_91 (by decide) ?_
            refine r_icmp_ge (tgt := 109) C dX6_sewFromScores_93 (by decide) (fun c93 => ?_) (fun c93 => ?_)
            · first | exact j109 (upd q.1 i (nI (lv - min lv q.2.1)), q.2.1 - min lv q.2.1, q.2.2.1 ||| T 37 i, q.2.2.2) _ _ (by rw [hts, if_neg (fun e => absurd (nI_lt e (by decide)) (by rw [show (nI 31 : Int32) = 31 from rfl]; exact Int32.not_lt.mpr c93))]) | exact j109 (upd q.1 i (nI (lv - min lv q.2.1)), q.2.1 - min lv q.2.1, q.2.2.1 ||| T 37 i, q.2.2.2 ||| ((1 : Int32) <<< (nI i &&& 31))) _ _ (by rw [hts, if_pos (by rw [show (31 : Int32) = nI 31 from rfl, nI_leI (by decide) (by omega)] at c93; omega)])
            · refine r_aload_n C dX6_sewFromScores_96 rfl rfl ?_
              refine r_dup C dX6_sewFromScores_97 rfl ?_
              refine r_get C (14 + ns) 3 (rgm_next rfl) rfl inX2 (by decide) lk_X6_234 rfl dX6_sewFromScores_98 ?_
              refine r_iconst (v := 1) C dX6_sewFromScores_101 (by decide) ?_
              refine r_iload C dX6_sewFromScores_102 rfl ?_
              refine r_ishl C dX6_sewFromScores_104 ?_
              refine r_ior C dX6_sewFromScores_105 ?_
              refine r_put (ws' := bW G A N R Q ++ (rgm ns (scC sa (va_up T 35 (upd q.1 i (nI (lv - min lv q.2.1))))) ++ ((hh, .inr (2, [.int (nI need), .int tn, .int (q.2.2.1 ||| T 37 i), .int (q.2.2.2 ||| ((1 : Int32) <<< (nI i &&& 31)))])) :: P))) C (14 + ns) 3 (rgm_next rfl) rfl inX2 tyX2_ok nmX2 (by decide) lk_X6_234 rfl (ty := .int) rfl rfl rfl (by show 3 < 4; decide) (rgm_nset rfl) dX6_sewFromScores_106 ?_
              first | exact j109 (upd q.1 i (nI (lv - min lv q.2.1)), q.2.1 - min lv q.2.1, q.2.2.1 ||| T 37 i, q.2.2.2) _ _ (by rw [hts, if_neg (fun e => absurd (nI_lt e (by decide)) (by rw [show (nI 31 : Int32) = 31 from rfl]; exact Int32.not_lt.mpr c93))]) | exact j109 (upd q.1 i (nI (lv - min lv q.2.1)), q.2.1 - min lv q.2.1, q.2.2.1 ||| T 37 i, q.2.2.2 ||| ((1 : Int32) <<< (nI i &&& 31))) _ _ (by rw [hts, if_pos (by rw [show (31 : Int32) = nI 31 from rfl, nI_leI (by decide) (by omega)] at c93; omega)])
        refine r_iload C dX6_sewFromScores_8 rfl ?_
        refine r_aload_n C dX6_sewFromScores_10 rfl rfl ?_
        refine bg_X6_56 C dX6_sewFromScores_11 ?_
        rw [hb]
        refine r_icmp_ge (tgt := 115) C dX6_sewFromScores_14 (by decide) (fun c14 => absurd c14 ((by rw [nI_leI (by omega) (by omega)]; omega))) (fun c14 => ?_)
        refine r_iload_n C dX6_sewFromScores_17 rfl rfl ?_
        refine r_if_le (tgt := 115) C dX6_sewFromScores_18 (by decide) (fun c18 => absurd c18 ((fun w => hz ((nle0 (by omega)).mp w)))) (fun c18 => ?_)
        refine r_aload_n C dX6_sewFromScores_21 rfl rfl ?_
        refine bg_X6_52 C dX6_sewFromScores_22 ?_
        refine r_iload C dX6_sewFromScores_25 rfl ?_
        refine bl_12 C dX6_sewFromScores_27 (vp_in_nI (show i < 60 by omega) (by decide)) ?_
        rw [nI_clamp (by omega), hq i hin]
        show V X 0 0 28 _ [.ref (sa i)] _
        refine r_astore C dX6_sewFromScores_28 (by decide) ?_
        refine r_aload C dX6_sewFromScores_30 rfl ?_
        refine r_get C (14 + i) 0 (rgm_at rfl hin) rfl inX5 (by decide) lk_X6_206 rfl dX6_sewFromScores_32 ?_
        show V X 0 0 35 _ [.int (T 36 i)] _
        refine r_iload_n C dX6_sewFromScores_35 rfl rfl ?_
        refine r_icmp_ne (tgt := 109) C dX6_sewFromScores_36 (by decide) (fun c36 => ?_) (fun c36 => ?_)
        · exact j109 q _ _ (by unfold tkS; rw [if_neg (fun e => c36 e.2.1)])
        · exact j39 c36 _
  have k0 := key ns 0 none none (by omega)
  rw [show (tk (T 36) (T 37) w (T 35) need 0).1 = T 35 from rfl, up_same rfl] at k0
  refine r_aload_n C dX6_sewFromScores_0 rfl rfl ?_
  refine r_get C (14 + ns) 0 (rgm_next rfl) rfl inX2 (by decide) lk_X6_229 rfl dX6_sewFromScores_1 ?_
  refine r_istore_n C dX6_sewFromScores_4 rfl (by decide) ?_
  refine r_iconst (v := 0) C dX6_sewFromScores_5 (by decide) ?_
  refine r_istore C dX6_sewFromScores_6 (by decide) ?_
  exact k0
end ST2
