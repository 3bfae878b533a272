/-! Reader: where it stands; crossings, brackets -/
def kc (k : Nat) : Int32 := if k < 100 then nI k else if k = 117 then 0 else if k = 109 then -1 else -2
/-- a reading stands at q -/
def RcS (N : Nat → Int32) (R : Rt) (e n : Nat) (q : Rst) : Prop :=
  (N 9 = nI e ∧ N 10 = nI q.1 ∧ N 11 = nI n ∧ N 1 = nI q.2.1 ∧ N 6 = nI q.2.2.1 ∧ N 2 = 0 ∧ N 3 = -1) ∧ (e ≤ 800 ∧ q.1 ≤ e ∧ 2 ≤ n ∧ n ≤ 7 ∧ q.2.1 ≤ 300 ∧ q.2.2.1 ≤ 8) ∧ (∀ i, i < q.2.1 → R 1 i = q.2.2.2.1 i ∧ okC n (q.2.2.2.1 i)) ∧ ∀ i, i < q.2.2.1 → R 2 i = kc (q.2.2.2.2.1 i) ∧ okK (q.2.2.2.2.1 i) ∧ R 3 i = nI (q.2.2.2.2.2 i) ∧ q.2.2.2.2.2 i ≤ q.2.1
/-- a reading has come to an end, or stands on -/
def RcO (N : Nat → Int32) (R : Rt) (e n : Nat) (o : Rout) : Prop := match o with
  | .inl f => N 2 = f.1 ∧ N 3 = nI f.2 ∧ f.1 ≠ 0
  | .inr q => RcS N R e n q
section RD2
variable (G : Gx) (A : Nat → Nat) (P : va_W) (N : Nt) (R : Rt) (Q : Qt)
theorem c_addCrossing {e n a3 v : Nat} {q : Rst} {cs : Int32} (hS : RcS (N 0) R e n (a3, q.2)) (hc : cs = 1 ∨ cs = -1) (h3 : a3 < e) (na : Nat) : CV G yX4_addCrossing cX4_addCrossing 4 1 0 0 [.ref (A 0), .int cs, .int (nI (min 1000 v)), .int (nI na)] (rW G A N R Q ++ P) (S := Nt × Rt) (fun u => u.2 4 = R 4 ∧ RcO (u.1 0) u.2 e n (nuF n (na, q.2) a3 v (if cs = 1 then 43 else 45))) (fun u => rW G A u.1 u.2 Q ++ P) := by
  obtain ⟨a0, mny, dp, row, kd, fr⟩ := q
  obtain ⟨⟨k9, k10, k11, k1, k6, k2, k3⟩, ⟨he, hae, hn2, hn7, hm3, hd8⟩, hrow, hbr⟩ := id hS
  dsimp only at k9 k10 k11 k1 k6 k2 k3 he hae hn2 hn7 hm3 hd8 hrow hbr
  refine CV.intro (by decide) (Nat.le_of_ble_eq_true rfl) (cat1 (xs := [cs, nI (min 1000 v), nI na])) fun X C hR => ?_
  have c40 : ¬ (if cs = 1 then (43 : Int32) else 45) = 40 := by rcases hc with w | w <;> rw [w] <;> decide
  have c43 : ¬ ((if cs = 1 then (43 : Int32) else 45) ≠ 43 ∧ (if cs = 1 then (43 : Int32) else 45) ≠ 45) := by rcases hc with w | w <;> rw [w] <;> decide
  have hnu : nuF n (na, (a0, mny, dp, row, kd, fr).2) a3 v (if cs = 1 then 43 else 45) = if ¬ (1 ≤ v ∧ v < n) then .inl (2, na) else if 300 ≤ mny then .inl (2, a3) else .inr (a3 + 1, mny + 1, dp, upd row mny (if (if cs = 1 then (43 : Int32) else 45) = 43 then nI v else -nI v), kd, fr) := by
    unfold nuF
    rw [if_neg c40, if_neg c43]
  rw [hnu] at hR
  have j13 : ¬ (1 ≤ v ∧ v < n) → V X 0 0 13 (ent [.ref (A 0), .int cs, .int (nI (min 1000 v)), .int (nI na)] 4) [] (rW G A N R Q ++ P) := by
    intro hv
    refine r_aload_n C dX4_addCrossing_13 rfl rfl ?_
    refine r_iconst (v := 2) C dX4_addCrossing_14 (by decide) ?_
    refine r_iload_n C dX4_addCrossing_15 rfl rfl ?_
    refine a_callVv C (c_refuse G A P N R Q _ _) kcX4_X4_refuse dX4_addCrossing_16 rfl (by decide) (by decide) (by decide) (Nat.le_of_ble_eq_true rfl) 0 rfl (ci := 4) rfl rfl rfl (fun u hu => ?_)
    refine r_goto (tgt := 76) C dX4_addCrossing_19 (by decide) ?_
    exact hR _ _ _ _ (_, R) (by decide) (by decide) ⟨rfl, by rw [if_pos hv]; exact ⟨rfl, rfl, show (2 : Int32) ≠ 0 by decide⟩⟩ dX4_addCrossing_76
  by_cases hv : 1 ≤ v ∧ v < n
  · have hmin : min 1000 v = v := Nat.min_eq_right (by omega)
    rw [if_neg (fun w => w hv)] at hR
    rw [hmin]
    by_cases hm : 300 ≤ mny
    · rw [if_pos hm] at hR
      refine r_iload_n C dX4_addCrossing_0 rfl rfl ?_
      refine r_iconst (v := 1) C dX4_addCrossing_1 (by decide) ?_
      refine r_icmp_lt (tgt := 13) C dX4_addCrossing_2 (by decide) (fun c2 => absurd c2 ((by rw [show (1 : Int32) = nI 1 from rfl, nI_ltI (by omega) (by decide)]; omega))) (fun c2 => ?_)
      refine r_iload_n C dX4_addCrossing_5 rfl rfl ?_
      refine r_aload_n C dX4_addCrossing_6 rfl rfl ?_
      refine rg_X4_40 C dX4_addCrossing_7 ?_
      rw [k11]
      refine r_icmp_lt (tgt := 22) C dX4_addCrossing_10 (by decide) (fun c10 => ?_) (fun c10 => absurd c10 ((fun q => q (nI_lt hv.2 (by omega)))))
      refine r_aload_n C dX4_addCrossing_22 rfl rfl ?_
      refine rg_X4_15 C dX4_addCrossing_23 ?_
      refine r_sipush (v := 300) C dX4_addCrossing_26 (by decide) ?_
      rw [k1, show (300 : Int32) = nI 300 from rfl]
      refine r_icmp_lt (tgt := 44) C dX4_addCrossing_29 (by decide) (fun c29 => absurd c29 ((nI_nlt (by omega) (by omega)))) (fun c29 => ?_)
      refine r_aload_n C dX4_addCrossing_32 rfl rfl ?_
      refine r_iconst (v := 2) C dX4_addCrossing_33 (by decide) ?_
      refine r_aload_n C dX4_addCrossing_34 rfl rfl ?_
      refine rg_X4_37 C dX4_addCrossing_35 ?_
      rw [k10]
      refine a_callVv C (c_refuse G A P N R Q _ _) kcX4_X4_refuse dX4_addCrossing_38 rfl (by decide) (by decide) (by decide) (Nat.le_of_ble_eq_true rfl) 0 rfl (ci := 4) rfl rfl rfl (fun u hu => ?_)
      refine r_goto (tgt := 76) C dX4_addCrossing_41 (by decide) ?_
      exact hR _ _ _ _ (_, R) (by decide) (by decide) ⟨rfl, rfl, rfl, show (2 : Int32) ≠ 0 by decide⟩ dX4_addCrossing_76
    · rw [if_neg hm] at hR
      have hval : cs * nI v = if (if cs = 1 then (43 : Int32) else 45) = 43 then nI v else -nI v := by
        rcases hc with w | w
        · rw [w, if_pos rfl, if_pos rfl, Int32.one_mul]
        · rw [w, if_neg (show ¬ (if (-1 : Int32) = 1 then (43 : Int32) else 45) = 43 by decide), Int32.neg_mul, Int32.one_mul]
      refine r_iload_n C dX4_addCrossing_0 rfl rfl ?_
      refine r_iconst (v := 1) C dX4_addCrossing_1 (by decide) ?_
      refine r_icmp_lt (tgt := 13) C dX4_addCrossing_2 (by decide) (fun c2 => absurd c2 ((by rw [show (1 : Int32) = nI 1 from rfl, nI_ltI (by omega) (by decide)]; omega))) (fun c2 => ?_)
      refine r_iload_n C dX4_addCrossing_5 rfl rfl ?_
      refine r_aload_n C dX4_addCrossing_6 rfl rfl ?_
      refine rg_X4_40 C dX4_addCrossing_7 ?_
      rw [k11]
      refine r_icmp_lt (tgt := 22) C dX4_addCrossing_10 (by decide) (fun c10 => ?_) (fun c10 => absurd c10 ((fun q => q (nI_lt hv.2 (by omega)))))
      refine r_aload_n C dX4_addCrossing_22 rfl rfl ?_
      refine rg_X4_15 C dX4_addCrossing_23 ?_
      refine r_sipush (v := 300) C dX4_addCrossing_26 (by decide) ?_
      rw [k1, show (300 : Int32) = nI 300 from rfl]
      refine r_icmp_lt (tgt := 44) C dX4_addCrossing_29 (by decide) (fun c29 => ?_) (fun c29 => absurd c29 ((fun q => q (nI_lt (by omega) (by decide)))))
      refine r_aload_n C dX4_addCrossing_44 rfl rfl ?_
      refine rg_X4_9 C dX4_addCrossing_45 ?_
      refine r_aload_n C dX4_addCrossing_48 rfl rfl ?_
      refine rg_X4_15 C dX4_addCrossing_49 ?_
      refine r_iload_n C dX4_addCrossing_52 rfl rfl ?_
      refine r_iload_n C dX4_addCrossing_53 rfl rfl ?_
      refine r_imul C dX4_addCrossing_54 ?_
      rw [k1, hval]
      refine rs_1 C dX4_addCrossing_55 (vp_in_nI (show mny < 300 by omega) (by decide)) ?_
      rw [nI_clamp (by omega)]
      refine r_aload_n C dX4_addCrossing_56 rfl rfl ?_
      refine r_dup C dX4_addCrossing_57 rfl ?_
      refine rg_X4_15 C dX4_addCrossing_58 ?_
      refine r_iconst (v := 1) C dX4_addCrossing_61 (by decide) ?_
      refine r_iadd C dX4_addCrossing_62 ?_
      rw [k1, nI_1]
      refine rp_X4_15 C dX4_addCrossing_63 ?_
      refine r_aload_n C dX4_addCrossing_66 rfl rfl ?_
      refine r_dup C dX4_addCrossing_67 rfl ?_
      refine rg_X4_37 C dX4_addCrossing_68 ?_
      refine r_iconst (v := 1) C dX4_addCrossing_71 (by decide) ?_
      refine r_iadd C dX4_addCrossing_72 ?_
      show V X 0 0 73 _ [.int (N 0 10 + 1), .ref (A 0)] _
      rw [k10, nI_1]
      refine rp_X4_37 C dX4_addCrossing_73 ?_
      refine hR _ _ _ _ (_, _) (by decide) (by decide) ⟨rfl, ⟨k9, rfl, k11, rfl, k6, k2, k3⟩, ⟨he, by show a3 + 1 ≤ e; omega, hn2, hn7, by show mny + 1 ≤ 300; omega, hd8⟩, fun i hi => ?_, fun i hi => ?_⟩ dX4_addCrossing_76
      · show upd (R 1) mny _ i = upd row mny _ i ∧ okC n (upd row mny _ i)
        have hi : i < mny + 1 := hi
        by_cases w : i = mny
        · subst w
          rw [pk_us, pk_us]
          refine ⟨rfl, v, hv.1, hv.2, ?_⟩
          split
          · exact Or.inl rfl
          · exact Or.inr rfl
        · rw [pk_un w, pk_un w]; exact hrow i (by omega)
      · obtain ⟨b1, b2, b3, b4⟩ := hbr i hi
        exact ⟨b1, b2, b3, by show fr i ≤ mny + 1; omega⟩
  · by_cases h0 : v = 0
    · subst h0
      refine r_iload_n C dX4_addCrossing_0 rfl rfl ?_
      refine r_iconst (v := 1) C dX4_addCrossing_1 (by decide) ?_
      refine r_icmp_lt (tgt := 13) C dX4_addCrossing_2 (by decide) (fun c2 => ?_) (fun c2 => absurd c2 ((fun q => q (by decide))))
      exact j13 hv
    · refine r_iload_n C dX4_addCrossing_0 rfl rfl ?_
      refine r_iconst (v := 1) C dX4_addCrossing_1 (by decide) ?_
      refine r_icmp_lt (tgt := 13) C dX4_addCrossing_2 (by decide) (fun c2 => absurd c2 ((by rw [show (1 : Int32) = nI 1 from rfl, nI_ltI (by omega) (by decide)]; omega))) (fun c2 => ?_)
      refine r_iload_n C dX4_addCrossing_5 rfl rfl ?_
      refine r_aload_n C dX4_addCrossing_6 rfl rfl ?_
      refine rg_X4_40 C dX4_addCrossing_7 ?_
      rw [k11]
      refine r_icmp_lt (tgt := 22) C dX4_addCrossing_10 (by decide) (fun c10 => absurd c10 ((nI_nlt (by omega) (by omega)))) (fun c10 => ?_)
      exact j13 hv
theorem c_openBracket {e n a kv : Nat} {q : Rst} (hS : RcS (N 0) R e n (a, q.2)) (hk : okK kv) (ha : a < e) : CV G yX4_openBracket cX4_openBracket 2 1 0 0 [.ref (A 0), .int (kc kv)] (rW G A N R Q ++ P) (S := Nt × Rt) (fun u => u.2 4 = R 4 ∧ RcO (u.1 0) u.2 e n (opF a q kv)) (fun u => rW G A u.1 u.2 Q ++ P) := by
  obtain ⟨a0, mny, dp, row, kd, fr⟩ := q
  obtain ⟨⟨k9, k10, k11, k1, k6, k2, k3⟩, ⟨he, hae, hn2, hn7, hm3, hd8⟩, hrow, hbr⟩ := id hS
  dsimp only at k9 k10 k11 k1 k6 k2 k3 he hae hn2 hn7 hm3 hd8 hrow hbr
  refine CV.intro (by decide) (Nat.le_of_ble_eq_true rfl) (cat1 (xs := [kc kv])) fun X C hR => ?_
  by_cases h8 : dp = 8
  · have ho : opF a (a0, mny, dp, row, kd, fr) kv = .inl (2, a) := if_pos h8
    rw [ho] at hR
    refine r_aload_n C dX4_openBracket_0 rfl rfl ?_
    refine rg_X4_31 C dX4_openBracket_1 ?_
    refine r_bipush (v := 8) C dX4_openBracket_4 (by decide) ?_
    rw [k6, h8]
    refine r_icmp_lt (tgt := 19) C dX4_openBracket_6 (by decide) (fun c6 => absurd c6 ((by decide))) (fun c6 => ?_)
    refine r_aload_n C dX4_openBracket_9 rfl rfl ?_
    refine r_iconst (v := 2) C dX4_openBracket_10 (by decide) ?_
    refine r_aload_n C dX4_openBracket_11 rfl rfl ?_
    refine rg_X4_37 C dX4_openBracket_12 ?_
    rw [k10]
    refine a_callVv C (c_refuse G A P N R Q _ _) kcX4_X4_refuse dX4_openBracket_15 rfl (by decide) (by decide) (by decide) (Nat.le_of_ble_eq_true rfl) 0 rfl (ci := 4) rfl rfl rfl (fun u hu => ?_)
    exact hR _ _ _ _ (_, R) (by decide) (by decide) ⟨rfl, rfl, rfl, show (2 : Int32) ≠ 0 by decide⟩ dX4_openBracket_18
  · have ho : opF a (a0, mny, dp, row, kd, fr) kv = .inr (a + 1, mny, dp + 1, row, va_up kd dp kv, va_up fr dp mny) := if_neg h8
    rw [ho] at hR
    have bd : vp_in (nI dp) 8 := vp_in_nI (by omega) (by decide)
    have cd : (nI dp).toNatClampNeg = dp := nI_clamp (by omega)
    refine r_aload_n C dX4_openBracket_0 rfl rfl ?_
    refine rg_X4_31 C dX4_openBracket_1 ?_
    refine r_bipush (v := 8) C dX4_openBracket_4 (by decide) ?_
    rw [k6, show (8 : Int32) = nI 8 from rfl]
    refine r_icmp_lt (tgt := 19) C dX4_openBracket_6 (by decide) (fun c6 => ?_) (fun c6 => absurd c6 ((fun q => q (nI_lt (by omega) (by decide)))))
    refine r_aload_n C dX4_openBracket_19 rfl rfl ?_
    refine rg_X4_25 C dX4_openBracket_20 ?_
    refine r_aload_n C dX4_openBracket_23 rfl rfl ?_
    refine rg_X4_31 C dX4_openBracket_24 ?_
    refine r_iload_n C dX4_openBracket_27 rfl rfl ?_
    rw [k6]
    refine rs_2 C dX4_openBracket_28 (bd) ?_
    rw [cd]
    refine r_aload_n C dX4_openBracket_29 rfl rfl ?_
    refine rg_X4_28 C dX4_openBracket_30 ?_
    refine r_aload_n C dX4_openBracket_33 rfl rfl ?_
    refine rg_X4_31 C dX4_openBracket_34 ?_
    refine r_aload_n C dX4_openBracket_37 rfl rfl ?_
    refine rg_X4_15 C dX4_openBracket_38 ?_
    rw [k6, k1]
    refine rs_3 C dX4_openBracket_41 (bd) ?_
    rw [cd]
    refine r_aload_n C dX4_openBracket_42 rfl rfl ?_
    refine r_dup C dX4_openBracket_43 rfl ?_
    refine rg_X4_31 C dX4_openBracket_44 ?_
    refine r_iconst (v := 1) C dX4_openBracket_47 (by decide) ?_
    refine r_iadd C dX4_openBracket_48 ?_
    rw [k6, nI_1]
    refine rp_X4_31 C dX4_openBracket_49 ?_
    refine r_aload_n C dX4_openBracket_52 rfl rfl ?_
    refine r_dup C dX4_openBracket_53 rfl ?_
    refine rg_X4_37 C dX4_openBracket_54 ?_
    refine r_iconst (v := 1) C dX4_openBracket_57 (by decide) ?_
    refine r_iadd C dX4_openBracket_58 ?_
    show V X 0 0 59 _ [.int (N 0 10 + 1), .ref (A 0)] _
    rw [k10, nI_1]
    refine rp_X4_37 C dX4_openBracket_59 ?_
    refine hR _ _ _ _ (_, _) (by decide) (by decide) ⟨rfl, ⟨k9, rfl, k11, k1, rfl, k2, k3⟩, ⟨he, by show a + 1 ≤ e; omega, hn2, hn7, hm3, by show dp + 1 ≤ 8; omega⟩, hrow, fun i hi => ?_⟩ dX4_openBracket_62
    have hi : i < dp + 1 := hi
    show upd (R 2) dp (kc kv) i = kc (va_up kd dp kv i) ∧ okK (va_up kd dp kv i) ∧ upd (R 3) dp (nI mny) i = nI (va_up fr dp mny i) ∧ va_up fr dp mny i ≤ mny
    by_cases w : i = dp
    · subst w
      rw [pk_us, pk_us, va_up_at, va_up_at]
      exact ⟨rfl, hk, rfl, Nat.le_refl _⟩
    · rw [pk_un w, pk_un w, va_up_no w, va_up_no w]
      exact hbr i (by omega)
/-- a part of the row changed from fm on: mirrored, turned, undone -/
theorem c_mirror {fm mny : Nat} {row : Nat → Int32} (k1 : N 0 1 = nI mny) (hm : mny ≤ 300) (hf : fm ≤ mny) (hr : ∀ i, i < mny → R 1 i = row i) : CV G yX4_mirror cX4_mirror 3 0 0 0 [.ref (A 0), .int (nI fm)] (rW G A N R Q ++ P) (S := Nat → Int32) (fun F => ∀ i, i < mny → F i = if i < fm then row i else -row i) (fun F => rW G A N (va_up R 1 F) Q ++ P) := by
  refine CV.intro (by decide) (Nat.le_of_ble_eq_true rfl) (cat1 (xs := [nI fm])) fun X C hR => ?_
  have key : ∀ (f j : Nat) (F : Nat → Int32), j + f = mny → fm ≤ j → (∀ i, i < mny → F i = if i < fm then row i else if i < j then -row i else row i) → V X 0 0 2 [some (.ref (A 0)), some (.int (nI fm)), some (.int (nI j))] [] (rW G A N (va_up R 1 F) Q ++ P) := by
    intro f
    induction f with
    | zero =>
      intro j F hj hjf hF
      refine r_iload_n C dX4_mirror_2 rfl rfl ?_
      refine r_aload_n C dX4_mirror_3 rfl rfl ?_
      refine rg_X4_15 C dX4_mirror_4 ?_
      rw [k1]
      refine r_icmp_ge (tgt := 29) C dX4_mirror_7 (by decide) (fun c7 => ?_) (fun c7 => absurd c7 ((fun q => q (by rw [nI_leI (by omega) (by omega)]; omega))))
      exact hR _ _ _ _ F (by decide) (by decide) (fun i hi => by rw [hF i hi, if_pos (show i < j by omega)]) dX4_mirror_29
    | succ f ih =>
      intro j F hj hjf hF
      have bj : vp_in (nI j) 300 := vp_in_nI (by omega) (by decide)
      have cj : (nI j).toNatClampNeg = j := nI_clamp (by omega)
      refine r_iload_n C dX4_mirror_2 rfl rfl ?_
      refine r_aload_n C dX4_mirror_3 rfl rfl ?_
      refine rg_X4_15 C dX4_mirror_4 ?_
      rw [k1]
      refine r_icmp_ge (tgt := 29) C dX4_mirror_7 (by decide) (fun c7 => absurd c7 ((by rw [nI_leI (by omega) (by omega)]; omega))) (fun c7 => ?_)
      refine r_aload_n C dX4_mirror_10 rfl rfl ?_
      refine rg_X4_9 C dX4_mirror_11 ?_
      refine r_iload_n C dX4_mirror_14 rfl rfl ?_
      refine r_aload_n C dX4_mirror_15 rfl rfl ?_
      refine rg_X4_9 C dX4_mirror_16 ?_
      refine r_iload_n C dX4_mirror_19 rfl rfl ?_
      refine rl_1 C dX4_mirror_20 (bj) ?_
      rw [cj]
      refine r_ineg C dX4_mirror_21 ?_
      refine rs_1 C dX4_mirror_22 (bj) ?_
      rw [cj, up_up, va_up_at]
      refine r_iinc (v := _ + 1) C dX4_mirror_23 rfl (by rfl) (by decide) ?_
      refine r_goto (tgt := 2) C dX4_mirror_26 (by decide) ?_
      show V X 0 0 2 [_, _, some (.int (nI j + 1))] _ _
      rw [nI_1]
      refine ih (j + 1) _ (by omega) (by omega) (fun i hi => ?_)
      by_cases w : i = j
      · subst w
        rw [pk_us, hF i hi, if_neg (by omega), if_neg (by omega), if_neg (by omega), if_pos (by omega)]
      · rw [pk_un w, hF i hi]
        by_cases w2 : i < j
        · rw [if_pos w2, if_pos (show i < j + 1 by omega)]
        · rw [if_neg w2, if_neg (show ¬ i < j + 1 by omega)]
  have k0 := key (mny - fm) fm (R 1) (by omega) (Nat.le_refl _) (fun i hi => by
    rw [hr i hi]
    by_cases w : i < fm
    · rw [if_pos w]
    · rw [if_neg w, if_neg w])
  rw [up_same rfl] at k0
  refine r_iload_n C dX4_mirror_0 rfl rfl ?_
  refine r_istore_n C dX4_mirror_1 rfl (by decide) ?_
  exact k0
theorem c_turn4 {fm mny n : Nat} {row : Nat → Int32} (k1 : N 0 1 = nI mny) (k11 : N 0 11 = nI n) (hm : mny ≤ 300) (hf : fm ≤ mny) (hr : ∀ i, i < mny → R 1 i = row i) : CV G yX4_turn cX4_turn 3 0 0 0 [.ref (A 0), .int (nI fm)] (rW G A N R Q ++ P) (S := Nat → Int32) (fun F => ∀ i, i < mny → F i = if i < fm then row i else tnC n (row i)) (fun F => rW G A N (va_up R 1 F) Q ++ P) := by
  refine CV.intro (by decide) (Nat.le_of_ble_eq_true rfl) (cat1 (xs := [nI fm])) fun X C hR => ?_
  have key : ∀ (f j : Nat) (F : Nat → Int32), j + f = mny → fm ≤ j → (∀ i, i < mny → F i = if i < fm then row i else if i < j then tnC n (row i) else row i) → V X 0 0 2 [some (.ref (A 0)), some (.int (nI fm)), some (.int (nI j))] [] (rW G A N (va_up R 1 F) Q ++ P) := by
    intro f
    induction f with
    | zero =>
      intro j F hj hjf hF
      refine r_iload_n C dX4_turn_2 rfl rfl ?_
      refine r_aload_n C dX4_turn_3 rfl rfl ?_
      refine rg_X4_15 C dX4_turn_4 ?_
      rw [k1]
      refine r_icmp_ge (tgt := 57) C dX4_turn_7 (by decide) (fun c7 => ?_) (fun c7 => absurd c7 ((fun q => q (by rw [nI_leI (by omega) (by omega)]; omega))))
      exact hR _ _ _ _ F (by decide) (by decide) (fun i hi => by rw [hF i hi, if_pos (show i < j by omega)]) dX4_turn_57
    | succ f ih =>
      intro j F hj hjf hF
      have bj : vp_in (nI j) 300 := vp_in_nI (by omega) (by decide)
      have cj : (nI j).toNatClampNeg = j := nI_clamp (by omega)
      have hFj : F j = row j := by rw [hF j (by omega), if_neg (by omega), if_neg (by omega)]
      have j50 : ∀ x : Int32, x = tnC n (row j) → V X 0 0 50 [some (.ref (A 0)), some (.int (nI fm)), some (.int (nI j))] [.int x, .int (nI j), .ref (A 1)] (rW G A N (va_up R 1 F) Q ++ P) := by
        intro x hx
        subst hx
        refine rs_1 C dX4_turn_50 (bj) ?_
        rw [cj, up_up, va_up_at]
        refine r_iinc (v := _ + 1) C dX4_turn_51 rfl (by rfl) (by decide) ?_
        refine r_goto (tgt := 2) C dX4_turn_54 (by decide) ?_
        show V X 0 0 2 [_, _, some (.int (nI j + 1))] _ _
        rw [nI_1]
        refine ih (j + 1) _ (by omega) (by omega) (fun i hi => ?_)
        by_cases w : i = j
        · subst w
          rw [pk_us, if_neg (by omega), if_pos (by omega)]
        · rw [pk_un w, hF i hi]
          by_cases w2 : i < j
          · rw [if_pos w2, if_pos (show i < j + 1 by omega)]
          · rw [if_neg w2, if_neg (show ¬ i < j + 1 by omega)]
      refine r_iload_n C dX4_turn_2 rfl rfl ?_
      refine r_aload_n C dX4_turn_3 rfl rfl ?_
      refine rg_X4_15 C dX4_turn_4 ?_
      rw [k1]
      refine r_icmp_ge (tgt := 57) C dX4_turn_7 (by decide) (fun c7 => absurd c7 ((by rw [nI_leI (by omega) (by omega)]; omega))) (fun c7 => ?_)
      refine r_aload_n C dX4_turn_10 rfl rfl ?_
      refine rg_X4_9 C dX4_turn_11 ?_
      refine r_iload_n C dX4_turn_14 rfl rfl ?_
      refine r_aload_n C dX4_turn_15 rfl rfl ?_
      refine rg_X4_9 C dX4_turn_16 ?_
      refine r_iload_n C dX4_turn_19 rfl rfl ?_
      refine rl_1 C dX4_turn_20 (bj) ?_
      rw [cj]
      show V X 0 0 21 _ [.int (F j), .int (nI j), .ref (A 1)] _
      rw [hFj]
      refine r_if_le (tgt := 38) C dX4_turn_21 (by decide) (fun c21 => ?_) (fun c21 => ?_)
      · refine r_aload_n C dX4_turn_38 rfl rfl ?_
        refine rg_X4_40 C dX4_turn_39 ?_
        rw [k11]
        refine r_ineg C dX4_turn_42 ?_
        refine r_aload_n C dX4_turn_43 rfl rfl ?_
        refine rg_X4_9 C dX4_turn_44 ?_
        refine r_iload_n C dX4_turn_47 rfl rfl ?_
        refine rl_1 C dX4_turn_48 (bj) ?_
        rw [cj]
        show V X 0 0 49 _ [.int (F j), .int (-nI n), .int (nI j), .ref (A 1)] _
        rw [hFj]
        refine r_isub C dX4_turn_49 ?_
        exact j50 _ (by unfold tnC; first | (rw [if_pos (Int32.not_le.mp c21)]; done) | (rw [if_neg (fun q => absurd (Int32.lt_of_lt_of_le q c21) Int32.lt_irrefl)]; done))
      · refine r_aload_n C dX4_turn_24 rfl rfl ?_
        refine rg_X4_40 C dX4_turn_25 ?_
        rw [k11]
        refine r_aload_n C dX4_turn_28 rfl rfl ?_
        refine rg_X4_9 C dX4_turn_29 ?_
        refine r_iload_n C dX4_turn_32 rfl rfl ?_
        refine rl_1 C dX4_turn_33 (bj) ?_
        rw [cj]
        show V X 0 0 34 _ [.int (F j), .int (nI n), .int (nI j), .ref (A 1)] _
        rw [hFj]
        refine r_isub C dX4_turn_34 ?_
        refine r_goto (tgt := 50) C dX4_turn_35 (by decide) ?_
        exact j50 _ (by unfold tnC; first | (rw [if_pos (Int32.not_le.mp c21)]; done) | (rw [if_neg (fun q => absurd (Int32.lt_of_lt_of_le q c21) Int32.lt_irrefl)]; done))
  have k0 := key (mny - fm) fm (R 1) (by omega) (Nat.le_refl _) (fun i hi => by
    rw [hr i hi]
    by_cases w : i < fm
    · rw [if_pos w]
    · rw [if_neg w, if_neg w])
  rw [up_same rfl] at k0
  refine r_iload_n C dX4_turn_0 rfl rfl ?_
  refine r_istore_n C dX4_turn_1 rfl (by decide) ?_
  exact k0
theorem c_undo {fm mny : Nat} {row : Nat → Int32} (k1 : N 0 1 = nI mny) (hm : mny ≤ 300) (hf : fm ≤ mny) (hr : ∀ i, i < mny → R 1 i = row i) : CV G yX4_undo cX4_undo 5 0 0 0 [.ref (A 0), .int (nI fm)] (rW G A N R Q ++ P) (S := Nat → Int32) (fun F => ∀ i, i < mny → F i = if i < fm then row i else -row (fm + (mny - fm - 1 - (i - fm)))) (fun F => rW G A N (va_up R 1 F) Q ++ P) := by
  refine CV.intro (by decide) (Nat.le_of_ble_eq_true rfl) (cat1 (xs := [nI fm])) fun X C hR => ?_
  have key : ∀ (f k : Nat) (F : Nat → Int32) (o4 : Option Value), 2 * k + f = mny - fm + 1 → (∀ i, i < mny → F i = if i < fm then row i else if i < fm + k ∨ mny ≤ i + k then -row (fm + (mny - fm - 1 - (i - fm))) else row i) → V X 0 0 9 [some (.ref (A 0)), some (.int (nI fm)), some (.int (nI (mny - k) - 1)), some (.int (nI (fm + k))), o4] [] (rW G A N (va_up R 1 F) Q ++ P) := by
    intro f
    induction f using Nat.strongRecOn with
    | ind f ih =>
      intro k F o4 hk hF
      by_cases hend : f ≤ 1
      · have hx : nI (mny - k) - 1 < nI (fm + k) := (m1_lt (by omega) (by omega)).mpr (by omega)
        refine r_iload_n C dX4_undo_9 rfl rfl ?_
        refine r_iload_n C dX4_undo_10 rfl rfl ?_
        refine r_icmp_gt (tgt := 53) C dX4_undo_11 (by decide) (fun c11 => ?_) (fun c11 => absurd c11 ((fun q => q hx)))
        refine hR _ _ _ _ F (by decide) (by decide) (fun i hi => ?_) dX4_undo_53
        rw [hF i hi]
        by_cases w : i < fm
        · rw [if_pos w, if_pos w]
        · rw [if_neg w, if_neg w]
          rw [if_pos (by omega)]
      · have hpred : nI (mny - k) - 1 = nI (mny - k - 1) := by rw [show mny - k = (mny - k - 1) + 1 by omega, nI_pred]; rfl
        have bl : vp_in (nI (fm + k)) 300 := vp_in_nI (by omega) (by decide)
        have bh : vp_in (nI (mny - k - 1)) 300 := vp_in_nI (by omega) (by decide)
        have cl1 : (nI (fm + k)).toNatClampNeg = fm + k := nI_clamp (by omega)
        have ch1 : (nI (mny - k - 1)).toNatClampNeg = mny - k - 1 := nI_clamp (by omega)
        have hFl : F (fm + k) = row (fm + k) := by rw [hF _ (by omega), if_neg (by omega), if_neg (by omega)]
        have hFh : F (mny - k - 1) = row (mny - k - 1) := by rw [hF _ (by omega), if_neg (by omega), if_neg (by omega)]
        rw [hpred]
        refine r_iload_n C dX4_undo_9 rfl rfl ?_
        refine r_iload_n C dX4_undo_10 rfl rfl ?_
        refine r_icmp_gt (tgt := 53) C dX4_undo_11 (by decide) (fun c11 => absurd c11 ((by rw [nI_ltI (by omega) (by omega)]; omega))) (fun c11 => ?_)
        refine r_aload_n C dX4_undo_14 rfl rfl ?_
        refine rg_X4_9 C dX4_undo_15 ?_
        refine r_iload_n C dX4_undo_18 rfl rfl ?_
        refine rl_1 C dX4_undo_19 (bl) ?_
        rw [cl1]
        show V X 0 0 20 _ [.int (F (fm + k))] _
        rw [hFl]
        refine r_istore C dX4_undo_20 (by decide) ?_
        refine r_aload_n C dX4_undo_22 rfl rfl ?_
        refine rg_X4_9 C dX4_undo_23 ?_
        refine r_iload_n C dX4_undo_26 rfl rfl ?_
        refine r_aload_n C dX4_undo_27 rfl rfl ?_
        refine rg_X4_9 C dX4_undo_28 ?_
        refine r_iload_n C dX4_undo_31 rfl rfl ?_
        refine rl_1 C dX4_undo_32 (bh) ?_
        rw [ch1]
        show V X 0 0 33 _ [.int (F (mny - k - 1)), .int (nI (fm + k)), .ref (A 1)] _
        rw [hFh]
        refine r_ineg C dX4_undo_33 ?_
        refine rs_1 C dX4_undo_34 (bl) ?_
        rw [cl1, up_up, va_up_at]
        refine r_aload_n C dX4_undo_35 rfl rfl ?_
        refine rg_X4_9 C dX4_undo_36 ?_
        refine r_iload_n C dX4_undo_39 rfl rfl ?_
        refine r_iload C dX4_undo_40 rfl ?_
        refine r_ineg C dX4_undo_42 ?_
        refine rs_1 C dX4_undo_43 (bh) ?_
        rw [ch1, up_up, va_up_at]
        refine r_iinc (v := _ + (-1)) C dX4_undo_44 rfl (by rfl) (by decide) ?_
        show V X 0 0 47 [_, _, some (.int (nI (mny - k - 1) + (-1))), _, _] _ _
        rw [nI_m1, show mny - k - 1 = mny - (k + 1) by omega]
        refine r_iinc (v := _ + 1) C dX4_undo_47 rfl (by rfl) (by decide) ?_
        refine r_goto (tgt := 9) C dX4_undo_50 (by decide) ?_
        show V X 0 0 9 [_, _, _, some (.int (nI (fm + k) + 1)), _] _ _
        rw [nI_1]
        refine ih (f - 2) (by omega) (k + 1) _ _ (by omega) (fun i hi => ?_)
        by_cases w1 : i = mny - (k + 1)
        · subst w1
          rw [pk_us, if_neg (by omega), if_pos (by omega)]
          congr 2
          omega
        · rw [pk_un w1]
          by_cases w2 : i = fm + k
          · subst w2
            rw [pk_us, if_neg (by omega), if_pos (by omega)]
            congr 2
            omega
          · rw [pk_un w2, hF i hi]
            by_cases w : i < fm
            · rw [if_pos w, if_pos w]
            · rw [if_neg w, if_neg w]
              by_cases w3 : i < fm + k ∨ mny ≤ i + k
              · rw [if_pos w3, if_pos (by omega)]
              · rw [if_neg w3, if_neg (by omega)]
  have k0 := key (mny - fm + 1) 0 (R 1) none (by omega) (fun i hi => by
    rw [hr i hi]
    by_cases w : i < fm
    · rw [if_pos w]
    · rw [if_neg w, if_neg (by omega)])
  rw [up_same rfl, Nat.sub_zero, Nat.add_zero] at k0
  refine r_aload_n C dX4_undo_0 rfl rfl ?_
  refine rg_X4_15 C dX4_undo_1 ?_
  refine r_iconst (v := 1) C dX4_undo_4 (by decide) ?_
  refine r_isub C dX4_undo_5 ?_
  rw [k1]
  refine r_istore_n C dX4_undo_6 rfl (by decide) ?_
  refine r_iload_n C dX4_undo_7 rfl rfl ?_
  refine r_istore_n C dX4_undo_8 rfl (by decide) ?_
  exact k0
theorem c_repeat {fm mny kd : Nat} {row : Nat → Int32} (k1 : N 0 1 = nI mny) (hf : fm ≤ mny) (hk1 : 1 ≤ kd) (hk5 : kd ≤ 50) (hlen : fm + (mny - fm) * kd ≤ 300) (hm : mny ≤ 300) (hr : ∀ i, i < mny → R 1 i = row i) : CV G yX4_repeat cX4_repeat 5 1 0 0 [.ref (A 0), .int (nI fm), .int (nI kd)] (rW G A N R Q ++ P) (S := Nat → Int32) (fun F => ∀ i, i < fm + (mny - fm) * kd → F i = if i < fm then row i else row (fm + (i - fm) % (mny - fm))) (fun F => rW G A (va_up N 0 (va_up (N 0) 1 (nI (fm + (mny - fm) * kd)))) (va_up R 1 F) Q ++ P) := by
  refine CV.intro (by decide) (Nat.le_of_ble_eq_true rfl) (cat1 (xs := [nI fm, nI kd])) fun X C hR => ?_
  obtain ⟨own, hown⟩ : ∃ own, own = mny - fm := ⟨_, rfl⟩
  rw [← hown] at hlen hR
  have hmul : ∀ m, m ≤ kd → own * m ≤ own * kd := fun m hm => Nat.mul_le_mul_left _ hm
  have key : ∀ (f m : Nat) (F : Nat → Int32), m + f = kd → 1 ≤ m → (∀ i, i < fm + own * m → F i = if i < fm then row i else row (fm + (i - fm) % own)) → V X 0 0 10 [some (.ref (A 0)), some (.int (nI fm)), some (.int (nI kd)), some (.int (nI own)), some (.int (nI m))] [] (rW G A (va_up N 0 (va_up (N 0) 1 (nI (fm + own * m)))) (va_up R 1 F) Q ++ P) := by
    intro f
    induction f with
    | zero =>
      intro m F hmf h1 hF
      have hmk : m = kd := by omega
      subst hmk
      refine r_iload C dX4_repeat_10 rfl ?_
      refine r_iload_n C dX4_repeat_12 rfl rfl ?_
      refine r_icmp_ge (tgt := 61) C dX4_repeat_13 (by decide) (fun c13 => ?_) (fun c13 => absurd c13 ((fun q => q (by rw [nI_leI (by omega) (by omega)]; omega))))
      exact hR _ _ _ _ F (by decide) (by decide) hF dX4_repeat_61
    | succ f ih =>
      intro m F hmf h1 hF
      have hms : own * (m + 1) = own * m + own := Nat.mul_succ own m
      have hm1 := hmul (m + 1) (by omega)
      refine r_iload C dX4_repeat_10 rfl ?_
      refine r_iload_n C dX4_repeat_12 rfl rfl ?_
      refine r_icmp_ge (tgt := 61) C dX4_repeat_13 (by decide) (fun c13 => absurd c13 ((by rw [nI_leI (by omega) (by omega)]; omega))) (fun c13 => ?_)
      refine r_aload_n C dX4_repeat_16 rfl rfl ?_
      refine rg_X4_15 C dX4_repeat_17 ?_
      refine r_iload_n C dX4_repeat_20 rfl rfl ?_
      refine r_iadd C dX4_repeat_21 ?_
      refine r_sipush (v := 300) C dX4_repeat_22 (by decide) ?_
      show V X 0 0 25 _ [.int 300, .int (nI (fm + own * m) + nI own)] _
      rw [nI_add, show (300 : Int32) = nI 300 from rfl]
      refine r_icmp_gt (tgt := 61) C dX4_repeat_25 (by decide) (fun c25 => absurd c25 ((nI_nlt (by omega) (by decide)))) (fun c25 => ?_)
      refine r_aload_n C dX4_repeat_28 rfl rfl ?_
      refine rg_X4_9 C dX4_repeat_29 ?_
      refine r_iload_n C dX4_repeat_32 rfl rfl ?_
      refine r_aload_n C dX4_repeat_33 rfl rfl ?_
      refine rg_X4_9 C dX4_repeat_34 ?_
      refine r_aload_n C dX4_repeat_37 rfl rfl ?_
      refine rg_X4_15 C dX4_repeat_38 ?_
      refine r_iload_n C dX4_repeat_41 rfl rfl ?_
      show V X 0 0 42 _ [.int (nI own), .int (nI (fm + own * m)), .ref (A 1), .int (nI fm), .ref (A 1)] _
      refine r_copyi (n0 := 300) (n1 := 300) (sp := fm) (dp := fm + own * m) (nn := own) (f := F) (g := F) (ws' := rW G A (va_up N 0 (va_up (N 0) 1 (nI (fm + own * m)))) (va_up R 1 (va_cpy F F fm (fm + own * m) own)) Q ++ P) C 1 1 ka_X4_107 rfl rfl (by have := hmul 1 hk1; omega) (by omega) (by decide) (by decide) (by decide) (Nat.le_of_ble_eq_true rfl) rfl dX4_repeat_42 ?_
      refine r_aload_n C dX4_repeat_45 rfl rfl ?_
      refine r_dup C dX4_repeat_46 rfl ?_
      refine rg_X4_15 C dX4_repeat_47 ?_
      refine r_iload_n C dX4_repeat_50 rfl rfl ?_
      refine r_iadd C dX4_repeat_51 ?_
      show V X 0 0 52 _ [.int (nI (fm + own * m) + nI own), .ref (A 0)] _
      rw [nI_add, Nat.add_assoc, ← hms]
      refine rp_X4_15 C dX4_repeat_52 ?_
      refine r_iinc (v := _ + 1) C dX4_repeat_55 rfl (by rfl) (by decide) ?_
      refine r_goto (tgt := 10) C dX4_repeat_58 (by decide) ?_
      show V X 0 0 10 [_, _, _, _, some (.int (nI m + 1))] _ _
      rw [nI_1, up_up, va_up_at, up_up]
      refine ih (m + 1) _ (by omega) (by omega) (fun i hi => ?_)
      unfold va_cpy
      by_cases w : fm + own * m ≤ i ∧ i < fm + own * m + own
      · rw [if_pos w]
        have hm0 := hmul 1 hk1
        have hle : own * 1 ≤ own * m := Nat.mul_le_mul_left _ h1
        rw [hF _ (by omega), if_neg (by omega), if_neg (by omega)]
        congr 1
        rw [show fm + (i - (fm + own * m)) - fm = i - fm - own * m by omega]
        rw [Nat.sub_mul_mod (by omega)]
      · rw [if_neg w]
        exact hF i (by omega)
  have k0 := key (kd - 1) 1 (R 1) (by omega) (Nat.le_refl _) (fun i hi => by
    rw [Nat.mul_one] at hi
    rw [hr i (by omega)]
    by_cases w : i < fm
    · rw [if_pos w]
    · rw [if_neg w, Nat.mod_eq_of_lt (by omega), show fm + (i - fm) = i by omega])
  rw [up_same rfl, Nat.mul_one, show fm + own = mny by omega, up_same (show N 0 = va_up (N 0) 1 (nI mny) from (up_same k1).symm)] at k0
  refine r_aload_n C dX4_repeat_0 rfl rfl ?_
  refine rg_X4_15 C dX4_repeat_1 ?_
  refine r_iload_n C dX4_repeat_4 rfl rfl ?_
  rw [k1]
  refine r_isub C dX4_repeat_5 ?_
  rw [pk_sub hf, ← hown]
  refine r_istore_n C dX4_repeat_6 rfl (by decide) ?_
  refine r_iconst (v := 1) C dX4_repeat_7 (by decide) ?_
  refine r_istore C dX4_repeat_8 (by decide) ?_
  exact k0
end RD2
