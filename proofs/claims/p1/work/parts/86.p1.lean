/-! the law of a script that holds one call at most -/
theorem ni_X7 : Cond.instantiable RX7 45 ∈ ALLW ∧ Cond.initialized RX7 ∈ ALLW := ⟨aw_at 817 (by decide +kernel) rfl, aw_at 73 (by decide +kernel) rfl⟩
section P1L
variable {X : Fx} {G : Gx} {d mc ms b L : Nat} {xs : Nat → Int32}
theorem p1_loop {h o : Nat} {A ad : Nat → Nat} (C : Cx X G 7 code RL d mc ms) (hE : Ev X) (hSc : Scr X b L xs) (hL : L ≤ 6) (hd : 11 ≤ d) (hmc : 100 ≤ mc) (hms : 20000 ≤ ms) (hRL : ∀ (k n pc : Nat) (L : List (Option Value)) (ws : va_W), k ≤ 100 → n ≤ 20000 → decode code pc = .ok (.ireturn, 1) → V X k n pc L [.int 1] ws) : V X 50 17000 23 (lL b (A 0) h o none none) [] ([(o, .inl (G.2.2 2, 1, .inr (.inl (fun _ => 0))))] ++ (bW G A bN0 zR zQ ++ mW G h ad mM0 zR)) := by
  refine r_iload C dL_law_23 rfl ?_
  refine r_aload_n C dL_law_25 rfl rfl ?_
  refine r_slen C hSc dL_law_26 ?_
  refine r_bipush (v := 6) C dL_law_27 (by decide) ?_
  refine r_isub C dL_law_29 ?_
  by_cases h6 : L = 6
  rotate_left
  · have hlt : nI L - 6 < 0 := pk_sneg (b := 6) (by decide) (by omega)
    refine r_icmp_gt (tgt := 1306) C dL_law_30 (by decide) (fun c30 => ?_) (fun c30 => absurd hlt c30)
    refine r_iconst (v := 1) C dL_law_1306 (by decide) ?_
    exact hRL _ _ _ _ _ (by decide) (by decide) dL_law_1307
  subst h6
  refine r_icmp_gt (tgt := 1306) C dL_law_30 (by decide) (fun c30 => absurd c30 (show ¬ nI 6 - 6 < 0 by decide)) (fun c30 => ?_)
  have hEnd : ∀ {k n : Nat} {L5 L6 : Option Value} {ws : va_W}, k ≤ 100 → n ≤ 20000 → V X k n 1300 (lL b (A 0) h o L5 L6) [] ws := fun hk hn => l_end C hSc hRL hk hn
  refine r_aload_n C dL_law_33 rfl rfl ?_
  refine r_iload C dL_law_34 rfl ?_
  refine r_sld (j := 0) C hSc (by decide) (by decide) (by decide) dL_law_36 ?_
  refine r_bipush (v := 31) C dL_law_37 (by decide) ?_
  refine r_iand C dL_law_39 ?_
  refine r_tab C dL_law_40 (by decide) (by decide) (fun i40 off40 ho40 hx40 => ?_) (fun hx40 => ⟨1300, by decide, ?_⟩)
  · have hi40 : i40 < 19 := (Array.getElem?_eq_some_iff.mp ho40).1
    rcases (show i40 = 0 ∨ i40 = 1 ∨ i40 = 2 ∨ i40 = 3 ∨ i40 = 4 ∨ i40 = 5 ∨ i40 = 6 ∨ i40 = 7 ∨ i40 = 8 ∨ i40 = 9 ∨ i40 = 10 ∨ i40 = 11 ∨ i40 = 12 ∨ i40 = 13 ∨ i40 = 14 ∨ i40 = 15 ∨ i40 = 16 ∨ i40 = 17 ∨ i40 = 18 by omega) with rfl | rfl | rfl | rfl | rfl | rfl | rfl | rfl | rfl | rfl | rfl | rfl | rfl | rfl | rfl | rfl | rfl | rfl | rfl
    · cases ho40
      refine ⟨132, by decide, ?_⟩
      exact l_feed C hE hSc hd hmc hms hEnd
    · cases ho40
      refine ⟨205, by decide, ?_⟩
      exact l_pattern C hE hSc hd hmc hms hEnd
    · cases ho40
      refine ⟨285, by decide, ?_⟩
      exact l_fault C hE hSc hd hmc hms hEnd
    · cases ho40
      refine ⟨341, by decide, ?_⟩
      exact l_size C hE hSc hd hmc hms hEnd
    · cases ho40
      refine ⟨366, by decide, ?_⟩
      exact l_crossing C hE hSc hd hmc hms hEnd
    · cases ho40
      refine ⟨434, by decide, ?_⟩
      exact l_about C hE hSc hd hmc hms hEnd
    · cases ho40
      refine ⟨502, by decide, ?_⟩
      exact l_factor C hE hSc hd hmc hms hEnd
    · cases ho40
      refine ⟨570, by decide, ?_⟩
      exact l_alike C hE hSc hd hmc hms hEnd
    · cases ho40
      refine ⟨645, by decide, ?_⟩
      exact l_untwined C hE hSc hd hmc hms hEnd
    · cases ho40
      refine ⟨701, by decide, ?_⟩
      exact l_goes C hE hSc hd hmc hms hEnd
    · cases ho40
      refine ⟨769, by decide, ?_⟩
      exact l_twine C hE hSc hd hmc hms hEnd
    · cases ho40
      refine ⟨849, by decide, ?_⟩
      exact l_use C hE hSc hd hmc hms hEnd
    · cases ho40
      refine ⟨917, by decide, ?_⟩
      exact l_bundle C hE hSc hd hmc hms hEnd
    · cases ho40
      refine ⟨966, by decide, ?_⟩
      exact l_left C hE hSc hd hmc hms hEnd
    · cases ho40
      refine ⟨1022, by decide, ?_⟩
      exact l_score C hE hSc hd hmc hms hEnd
    · cases ho40
      refine ⟨1071, by decide, ?_⟩
      exact l_scored C hE hSc hd hmc hms hEnd
    · cases ho40
      refine ⟨1139, by decide, ?_⟩
      exact l_hat C hE hSc hd hmc hms hEnd
    · cases ho40
      refine ⟨1176, by decide, ?_⟩
      exact l_sewn C hE hSc hd hmc hms hEnd
    · cases ho40
      refine ⟨1244, by decide, ?_⟩
      exact l_count C hE hSc hd hmc hms hEnd
  · exact hEnd (by decide) (by decide)
theorem p1_law (C : Cx X G 7 code RL d mc ms) (hE : Ev X) (hSc : Scr X b L xs) (hL : L ≤ 6) (hd : 11 ≤ d) (hmc : 100 ≤ mc) (hms : 20000 ≤ ms) (hRL : ∀ (k n pc : Nat) (L : List (Option Value)) (ws : va_W), k ≤ 100 → n ≤ 20000 → decode code pc = .ok (.ireturn, 1) → V X k n pc L [.int 1] ws) : V X 0 0 0 (ent [.ref b] 7) [] [] := by
  refine r_new (ci := 6) C [.null, .int 0, .null, .null, .null, .null, .int 0, .null, .int 0, .null, .int 0] rfl inX6 tyX6_ok cl_L_8 ni_X6.1 ni_X6.2 (fun j hj => by rcases (show j = 0 ∨ j = 1 ∨ j = 2 ∨ j = 3 ∨ j = 4 ∨ j = 5 ∨ j = 6 ∨ j = 7 ∨ j = 8 ∨ j = 9 ∨ j = 10 by omega) with rfl | rfl | rfl | rfl | rfl | rfl | rfl | rfl | rfl | rfl | rfl <;> rfl) (by omega) (by omega) dL_law_0 (fun x => ?_)
  refine r_dup C dL_law_3 rfl ?_
  refine r_callIvE C hE (c_X6_init G x) kcL_X6_init dL_law_4 rfl (by omega) (by omega) (by omega) (Nat.le_of_ble_eq_true rfl) [0] [] (by decide) rfl (wr := []) rfl rfl (fun _ q => absurd q List.not_mem_nil) rfl (fun A hu => ?_)
  obtain ⟨A, hA0⟩ := A
  subst hA0
  refine r_astore_n C dL_law_7 rfl (by decide) ?_
  refine r_new (ci := 7) C [.int 0, .null, .int 0, .int 0, .int 0, .null, .null, .null, .int 0, .int 0, .int 0, .null, .int 0, .null, .null, .int 0, .int 0, .int 0, .null, .int 0, .int 0, .null, .null, .int 0, .int 0, .null, .null, .null, .int 0, .int 0, .int 0, .null, .null, .null, .null, .null, .null, .null, .null, .null, .null, .null, .null, .null, .null] rfl inM tyX7_ok cl_L_60 ni_X7.1 ni_X7.2 (fun j hj => by rcases (show j = 0 ∨ j = 1 ∨ j = 2 ∨ j = 3 ∨ j = 4 ∨ j = 5 ∨ j = 6 ∨ j = 7 ∨ j = 8 ∨ j = 9 ∨ j = 10 ∨ j = 11 ∨ j = 12 ∨ j = 13 ∨ j = 14 ∨ j = 15 ∨ j = 16 ∨ j = 17 ∨ j = 18 ∨ j = 19 ∨ j = 20 ∨ j = 21 ∨ j = 22 ∨ j = 23 ∨ j = 24 ∨ j = 25 ∨ j = 26 ∨ j = 27 ∨ j = 28 ∨ j = 29 ∨ j = 30 ∨ j = 31 ∨ j = 32 ∨ j = 33 ∨ j = 34 ∨ j = 35 ∨ j = 36 ∨ j = 37 ∨ j = 38 ∨ j = 39 ∨ j = 40 ∨ j = 41 ∨ j = 42 ∨ j = 43 ∨ j = 44 by omega) with rfl | rfl | rfl | rfl | rfl | rfl | rfl | rfl | rfl | rfl | rfl | rfl | rfl | rfl | rfl | rfl | rfl | rfl | rfl | rfl | rfl | rfl | rfl | rfl | rfl | rfl | rfl | rfl | rfl | rfl | rfl | rfl | rfl | rfl | rfl | rfl | rfl | rfl | rfl | rfl | rfl | rfl | rfl | rfl | rfl <;> rfl) (by omega) (by omega) dL_law_8 (fun h => ?_)
  refine r_dup C dL_law_11 rfl ?_
  refine r_callIv C (c_X7_init G h) kcL_X7_init dL_law_12 rfl (by omega) (by omega) (by omega) (Nat.le_of_ble_eq_true rfl) [14] [0, 1, 2, 3, 4, 5, 6, 7, 8, 9, 10, 11, 12, 13] (by decide) rfl (wr := bW G A bN0 zR zQ) rfl (by decide) (by decide) rfl (fun ad hu => ?_)
  refine r_astore_n C dL_law_15 rfl (by decide) ?_
  refine r_iconst (v := 1) C dL_law_16 (by decide) ?_
  refine r_newl (N := 1) C rfl (by decide) (by omega) (by omega) dL_law_17 (fun o => ?_)
  refine r_astore_n C dL_law_19 rfl (by decide) ?_
  refine r_iconst (v := 0) C dL_law_20 (by decide) ?_
  refine r_istore C dL_law_21 (by decide) ?_
  refine V.sub (ws' := [(o, .inl (G.2.2 2, 1, .inr (.inl (fun _ => 0))))] ++ (bW G A bN0 zR zQ ++ mW G h ad mM0 zR)) [42, 0, 1, 2, 3, 4, 5, 6, 7, 8, 9, 10, 11, 12, 13, 14, 15, 16, 17, 18, 19, 20, 21, 22, 23, 24, 25, 26, 27, 28, 29, 30, 31, 32, 33, 34, 35, 36, 37, 38, 39, 40, 41] (by decide) rfl ?_
  refine V.widen (k' := 50) (n' := 17000) (by decide) (by decide) ?_
  exact p1_loop C hE hSc hL hd hmc hms hRL
end P1L
