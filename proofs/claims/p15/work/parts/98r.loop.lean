/-! the law's loop -/
theorem ni_X7 : Cond.instantiable RX7 45 ∈ ALLW ∧ Cond.initialized RX7 ∈ ALLW := ⟨aw_at 817 (by decide +kernel) rfl, aw_at 73 (by decide +kernel) rfl⟩
section LLP
variable {X : Fx} {G : Gx} {b : Nat} {xs : Nat → Int32} {h o : Nat} {A ad : Nat → Nat}
theorem lw_loop {L : Nat} (C : Cx X G 7 code RL 11 601024 7293033) (hE : Ev X) (hSc : Scr X b L xs) (hL : L ≤ 3072) (hRL : RLw X) : ∀ (m i k n : Nat) (N : Nt) (R : Rt) (Q : Qt) (pb : Nat → Option PbT) (ba sa hA : Nat → Nat) (nb ns nh : Nat) (M : Mt) (T : Rt) (f : Nat → Int64) (L5 L6 : Option Value), L ≤ i + 6 * m + 5 → i ≤ 3072 → k + 30 * m + 100 ≤ 601024 → n + 800 * m + 2000 ≤ 7293033 → LI N R Q pb ba sa hA nb ns nh M T → V X k n 23 (lM b (A 0) h o i L5 L6) [] (LV G A h ad o N R Q pb ba sa hA nb ns nh T M T f) := by
  intro m
  induction m with
  | zero =>
    intro i k n N R Q pb ba sa hA nb ns nh M T f L5 L6 hm hi hk hn hI
    have hlt : nI L - 6 < nI i := by
      by_cases h6 : 6 ≤ L
      · rw [show (6 : Int32) = nI 6 from rfl, pk_sub h6]
        exact nI_lt (by omega) (by omega)
      · exact Int32.lt_of_lt_of_le (pk_sneg (b := 6) (by decide) (by omega)) (nI_le (a := 0) (Nat.zero_le _) (by omega))
    refine r_iload C dL_law_23 rfl ?_
    refine r_aload_n C dL_law_25 rfl rfl ?_
    refine r_slen C hSc dL_law_26 ?_
    refine r_bipush (v := 6) C dL_law_27 (by decide) ?_
    refine r_isub C dL_law_29 ?_
    refine r_icmp_gt (tgt := 935) C dL_law_30 (by decide) (fun c30 => ?_) (fun c30 => absurd hlt c30)
    refine r_iconst (v := 1) C dL_law_935 (by decide) ?_
    exact hRL _ _ _ _ _ (by omega) (by omega) dL_law_936
  | succ m ih =>
    intro i k n N R Q pb ba sa hA nb ns nh M T f L5 L6 hm hi hk hn hI
    by_cases hgo : i + 6 ≤ L
    rotate_left
    · have hlt : nI L - 6 < nI i := by
        by_cases h6 : 6 ≤ L
        · rw [show (6 : Int32) = nI 6 from rfl, pk_sub h6]
          exact nI_lt (by omega) (by omega)
        · exact Int32.lt_of_lt_of_le (pk_sneg (b := 6) (by decide) (by omega)) (nI_le (a := 0) (Nat.zero_le _) (by omega))
      refine r_iload C dL_law_23 rfl ?_
      refine r_aload_n C dL_law_25 rfl rfl ?_
      refine r_slen C hSc dL_law_26 ?_
      refine r_bipush (v := 6) C dL_law_27 (by decide) ?_
      refine r_isub C dL_law_29 ?_
      refine r_icmp_gt (tgt := 935) C dL_law_30 (by decide) (fun c30 => ?_) (fun c30 => absurd hlt c30)
      refine r_iconst (v := 1) C dL_law_935 (by decide) ?_
      exact hRL _ _ _ _ _ (by omega) (by omega) dL_law_936
    have nx : NX X G A h ad o b i 929 k n := by
      intro N R Q pb ba sa hA nb ns nh M T f L5 L6 k' n' hI' hk' hn'
      refine r_iinc (v := nI i + 6) C dL_law_929 rfl (by rfl) (by decide) ?_
      refine r_goto (tgt := 23) C dL_law_932 (by decide) ?_
      refine V.eqL (L' := lM b (A 0) h o (i + 6) L5 L6) (by
        rw [show nI i + 6 = nI (i + 6) from nI_add i 6]
        rfl) ?_
      exact ih (i + 6) k' n' N R Q pb ba sa hA nb ns nh M T f L5 L6 (by omega) (by omega) (by omega) (by omega) hI'
    have hge : ¬ nI L - 6 < nI i := by
      rw [show (6 : Int32) = nI 6 from rfl, pk_sub (show 6 ≤ L by omega)]
      exact nI_nlt (by omega) (by omega)
    refine r_iload C dL_law_23 rfl ?_
    refine r_aload_n C dL_law_25 rfl rfl ?_
    refine r_slen C hSc dL_law_26 ?_
    refine r_bipush (v := 6) C dL_law_27 (by decide) ?_
    refine r_isub C dL_law_29 ?_
    refine r_icmp_gt (tgt := 935) C dL_law_30 (by decide) (fun c30 => absurd c30 hge) (fun c30 => ?_)
    refine r_aload_n C dL_law_33 rfl rfl ?_
    refine r_iload C dL_law_34 rfl ?_
    refine r_sld (j := i + 0) C hSc sl_0 (by omega) (by omega) dL_law_36 ?_
    refine r_bipush (v := 31) C dL_law_37 (by decide) ?_
    refine r_iand C dL_law_39 ?_
    refine r_tab C dL_law_40 (by decide) (by decide) (fun i40 off40 ho40 hx40 => ?_) (fun hx40 => ⟨929, by decide, ?_⟩)
    · have hi40 : i40 < 19 := (Array.getElem?_eq_some_iff.mp ho40).1
      rcases (show i40 = 0 ∨ i40 = 1 ∨ i40 = 2 ∨ i40 = 3 ∨ i40 = 4 ∨ i40 = 5 ∨ i40 = 6 ∨ i40 = 7 ∨ i40 = 8 ∨ i40 = 9 ∨ i40 = 10 ∨ i40 = 11 ∨ i40 = 12 ∨ i40 = 13 ∨ i40 = 14 ∨ i40 = 15 ∨ i40 = 16 ∨ i40 = 17 ∨ i40 = 18 by omega) with rfl | rfl | rfl | rfl | rfl | rfl | rfl | rfl | rfl | rfl | rfl | rfl | rfl | rfl | rfl | rfl | rfl | rfl | rfl
      · cases ho40
        refine ⟨132, by decide, ?_⟩
        exact l_feed C hE hSc hgo hL (by omega) (by omega) hI nx
      · cases ho40
        refine ⟨205, by decide, ?_⟩
        exact l_pattern C hE hSc hgo hL (by omega) (by omega) hI nx
      · cases ho40
        refine ⟨257, by decide, ?_⟩
        exact l_fault C hE hSc hgo hL (by omega) (by omega) hI nx
      · cases ho40
        refine ⟨285, by decide, ?_⟩
        exact l_size C hE hSc hgo hL (by omega) (by omega) hI nx
      · cases ho40
        refine ⟨310, by decide, ?_⟩
        exact l_crossing C hE hSc hgo hL (by omega) (by omega) hI nx
      · cases ho40
        refine ⟨350, by decide, ?_⟩
        exact l_about C hE hSc hgo hL (by omega) (by omega) hI nx
      · cases ho40
        refine ⟨390, by decide, ?_⟩
        exact l_factor C hE hSc hgo hL (by omega) (by omega) hI nx
      · cases ho40
        refine ⟨430, by decide, ?_⟩
        exact l_alike C hE hSc hgo hL (by omega) (by omega) hI nx
      · cases ho40
        refine ⟨470, by decide, ?_⟩
        exact l_untwined C hE hSc hgo hL (by omega) (by omega) hI nx
      · cases ho40
        refine ⟨498, by decide, ?_⟩
        exact l_goes C hE hSc hgo hL (by omega) (by omega) hI nx
      · cases ho40
        refine ⟨538, by decide, ?_⟩
        exact l_twine C hE hSc hgo hL (by omega) (by omega) hI nx
      · cases ho40
        refine ⟨590, by decide, ?_⟩
        exact l_use C hE hSc hgo hL (by omega) (by omega) hI nx
      · cases ho40
        refine ⟨630, by decide, ?_⟩
        exact l_bundle C hE hSc hgo hL (by omega) (by omega) hI nx
      · cases ho40
        refine ⟨679, by decide, ?_⟩
        exact l_left C hE hSc hgo hL (by omega) (by omega) hI nx
      · cases ho40
        refine ⟨735, by decide, ?_⟩
        exact l_score C hE hSc hgo hL (by omega) (by omega) hI nx
      · cases ho40
        refine ⟨784, by decide, ?_⟩
        exact l_scored C hE hSc hgo hL (by omega) (by omega) hI nx
      · cases ho40
        refine ⟨824, by decide, ?_⟩
        exact l_hat C hE hSc hgo hL (by omega) (by omega) hI nx
      · cases ho40
        refine ⟨861, by decide, ?_⟩
        exact l_sewn C hE hSc hgo hL (by omega) (by omega) hI nx
      · cases ho40
        refine ⟨901, by decide, ?_⟩
        exact l_count C hE hSc hgo hL (by omega) (by omega) hI nx
    · exact nx N R Q pb ba sa hA nb ns nh M T f _ _ _ _ hI (by omega) (by omega)
theorem li_0 : LI bN0 zR zQ (fun _ => none) (fun _ => 0) (fun _ => 0) (fun _ => 0) 0 0 0 mM0 zR := by
  refine ⟨⟨0, by decide, rfl, rfl⟩, ⟨fun i => by show (0 : Int32).toInt8.toInt32 = 0; decide, funext fun i => by show (0 : Int32) &&& 255 = 0; decide⟩, ⟨rfl, rfl, by decide, fun i hi => absurd hi (Nat.not_lt_zero _), fun i hi => absurd hi (Nat.not_lt_zero _)⟩, ⟨rfl, rfl, by decide, fun i hi => absurd hi (Nat.not_lt_zero _), fun i hi => absurd hi (Nat.not_lt_zero _)⟩, ⟨rfl, rfl, by decide, fun i hi => absurd hi (Nat.not_lt_zero _)⟩, fun j hj => Or.inl ⟨rfl, rfl, rfl⟩⟩
theorem lw_law {L : Nat} (C : Cx X G 7 code RL 11 601024 7293033) (hE : Ev X) (hSc : Scr X b L xs) (hL : L ≤ 3072) (hRL : RLw X) : V X 0 0 0 (ent [.ref b] 7) [] [] := by
  refine r_new (ci := 6) C [.null, .int 0, .null, .null, .null, .null, .int 0, .null, .int 0, .null, .int 0] rfl inX6 tyX6_ok cl_L_8 ni_X6.1 ni_X6.2 (fun j hj => by rcases (show j = 0 ∨ j = 1 ∨ j = 2 ∨ j = 3 ∨ j = 4 ∨ j = 5 ∨ j = 6 ∨ j = 7 ∨ j = 8 ∨ j = 9 ∨ j = 10 by omega) with rfl | rfl | rfl | rfl | rfl | rfl | rfl | rfl | rfl | rfl | rfl <;> rfl) (by omega) (by omega) dL_law_0 (fun x => ?_)
  refine r_dup C dL_law_3 rfl ?_
  refine r_callIvE C hE (c_X6_init G x) kcL_X6_init dL_law_4 rfl (by omega) (by omega) (by omega) (Nat.le_of_ble_eq_true rfl) [0] [] (by decide) rfl (wr := []) rfl rfl (fun _ q => absurd q List.not_mem_nil) rfl (fun A hu => ?_)
  obtain ⟨A, hA0⟩ := A
  subst hA0
  refine r_astore_n C dL_law_7 rfl (by decide) ?_
  refine r_new (ci := 7) C [.int 0, .null, .int 0, .int 0, .int 0, .null, .null, .null, .int 0, .int 0, .int 0, .null, .int 0, .null, .null, .int 0, .int 0, .int 0, .null, .int 0, .int 0, .null, .null, .int 0, .int 0, .null, .null, .null, .int 0, .int 0, .int 0, .null, .null, .null, .null, .null, .null, .null, .null, .null, .null, .null, .null, .null, .null] rfl inM tyX7_ok cl_L_60 ni_X7.1 ni_X7.2 (fun j hj => by rcases (show j = 0 ∨ j = 1 ∨ j = 2 ∨ j = 3 ∨ j = 4 ∨ j = 5 ∨ j = 6 ∨ j = 7 ∨ j = 8 ∨ j = 9 ∨ j = 10 ∨ j = 11 ∨ j = 12 ∨ j = 13 ∨ j = 14 ∨ j = 15 ∨ j = 16 ∨ j = 17 ∨ j = 18 ∨ j = 19 ∨ j = 20 ∨ j = 21 ∨ j = 22 ∨ j = 23 ∨ j = 24 ∨ j = 25 ∨ j = 26 ∨ j = 27 ∨ j = 28 ∨ j = 29 ∨ j = 30 ∨ j = 31 ∨ j = 32 ∨ j = 33 ∨ j = 34 ∨ j = 35 ∨ j = 36 ∨ j = 37 ∨ j = 38 ∨ j = 39 ∨ j = 40 ∨ j = 41 ∨ j = 42 ∨ j = 43 ∨ j = 44 by omega) with rfl | rfl | rfl | rfl | rfl | rfl | rfl | rfl | rfl | rfl | rfl | rfl | rfl | rfl | rfl | rfl | rfl | rfl | rfl | rfl | rfl | rfl | rfl | rfl | rfl | rfl | rfl | rfl | rfl | rfl | rfl | rfl | rfl | rfl | rfl | rfl | rfl | rfl | rfl | rfl | rfl | rfl | rfl | rfl | rfl <;> rfl) (by omega) (by omega) dL_law_8 (fun h => ?_)
  refine r_dup C dL_law_11 rfl ?_
  refine r_callIv C (c_X7_init G h) kcL_X7_init dL_law_12 rfl (by omega) (by omega) (by omega) (Nat.le_of_ble_eq_true rfl) [14] [0, 1, 2, 3, 4, 5, 6, 7, 8, 9, 10, 11, 12, 13] (by decide) rfl (wr := bW G A bN0 zR zQ) rfl (by decide) (by decide) rfl (fun ad hu => ?_)
  refine r_astore_n C dL_law_15 rfl (by decide) ?_
  refine r_iconst (v := 1) C dL_law_16 (by decide) ?_
  refine r_newl (N := 1) C rfl (by decide) (by omega) (by omega) dL_law_17 (fun o => ?_)
  refine r_astore_n C dL_law_19 rfl (by decide) ?_
  refine r_iconst (v := 0) C dL_law_20 (by decide) ?_
  refine r_istore C dL_law_21 (by decide) ?_
  refine V.widen (k' := 50) (n' := 17000) (by decide) (by decide) ?_
  refine V.eqW (ws' := LV G A h ad o bN0 zR zQ (fun _ => none) (fun _ => 0) (fun _ => 0) (fun _ => 0) 0 0 0 zR mM0 zR (fun _ => 0)) ?_ ?_
  · exact List.append_assoc _ _ _
  exact lw_loop C hE hSc hL hRL 512 0 50 17000 bN0 zR zQ (fun _ => none) (fun _ => 0) (fun _ => 0) (fun _ => 0) 0 0 0 mM0 zR (fun _ => 0) none none (by omega) (by omega) (by omega) (by omega) li_0
end LLP
