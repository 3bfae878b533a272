/-! the law, where the script holds one call -/
theorem noPat {kk : Int32} : ¬ isPat zR kk := fun ⟨_, _, _, q⟩ => absurd q (show ¬ (0 : Int32) < 0 by decide)
theorem zPats : PatsOK zR := fun _ _ q => absurd q (show ¬ (0 : Int32) < 0 by decide)
theorem noPOK {j s z : Nat} : ¬ PatOK zR j s z := fun ⟨h1, h2, h3, _⟩ => nI_ne0 (n := s) (by omega) (by omega) (show nI s = 0 from h1.symm)
theorem freshB : Fr bN0 zQ := ⟨rfl, rfl, rfl, fun _ => rfl⟩
theorem lg_self (x : Int64) : lg_cmp x x = 0 := by simp [lg_cmp]
theorem zNum {c n B : Nat} : NumOK (zR c) n B := fun _ _ => ⟨rfl, Nat.zero_le _⟩
section FST
variable {X : Fx} {G : Gx} {d mc ms b : Nat} {xs : Nat → Int32} {h o : Nat} {A ad : Nat → Nat}
abbrev lL (b x h o : Nat) (L5 L6 : Option Value) : List (Option Value) := [some (.ref b), some (.ref x), some (.ref h), some (.ref o), some (.int 0), L5, L6]
/-- past the call: the script is at its end -/
theorem l_end (C : Cx X G 7 code RL d mc ms) (hSc : Scr X b 6 xs) (hRL : ∀ (k n pc : Nat) (L : List (Option Value)) (ws : va_W), k ≤ 100 → n ≤ 20000 → decode code pc = .ok (.ireturn, 1) → V X k n pc L [.int 1] ws) {k n x : Nat} {L5 L6 : Option Value} {ws : va_W} (hk : k ≤ 100) (hn : n ≤ 20000) : V X k n 1300 (lL b x h o L5 L6) [] ws := by
  refine r_iinc (v := 6) C dL_law_1300 rfl (by decide) (by decide) ?_
  refine r_goto (tgt := 23) C dL_law_1303 (by decide) ?_
  refine r_iload C dL_law_23 rfl ?_
  refine r_aload_n C dL_law_25 rfl rfl ?_
  refine r_slen C hSc dL_law_26 ?_
  refine r_bipush (v := 6) C dL_law_27 (by decide) ?_
  refine r_isub C dL_law_29 ?_
  refine r_icmp_gt (tgt := 1306) C dL_law_30 (by decide) (fun c30 => ?_) (fun c30 => absurd (show nI 6 - 6 < 6 by decide) c30)
  refine r_iconst (v := 1) C dL_law_1306 (by decide) ?_
  exact hRL _ _ _ _ _ hk hn dL_law_1307
theorem l_crossing (C : Cx X G 7 code RL d mc ms) (hE : Ev X) (hSc : Scr X b 6 xs) (hd : 11 ≤ d) (hmc : 100 ≤ mc) (hms : 20000 ≤ ms) (hEnd : ∀ {k n : Nat} {L5 L6 : Option Value} {ws : va_W}, k ≤ 100 → n ≤ 20000 → V X k n 1300 (lL b (A 0) h o L5 L6) [] ws) : V X 50 17000 366 (lL b (A 0) h o none none) [] ([(o, .inl (G.2.2 2, 1, .inr (.inl (fun _ => 0))))] ++ (bW G A bN0 zR zQ ++ mW G h ad mM0 zR)) := by
  refine r_aload_n C dL_law_366 rfl rfl ?_
  refine r_aload_n C dL_law_367 rfl rfl ?_
  refine r_iload C dL_law_368 rfl ?_
  refine r_iconst (v := 1) C dL_law_370 (by decide) ?_
  refine r_iadd C dL_law_371 ?_
  refine r_sld (j := 1) C hSc (by decide) (by decide) (by decide) dL_law_372 ?_
  refine r_aload_n C dL_law_373 rfl rfl ?_
  refine r_iload C dL_law_374 rfl ?_
  refine r_iconst (v := 2) C dL_law_376 (by decide) ?_
  refine r_iadd C dL_law_377 ?_
  refine r_sld (j := 2) C hSc (by decide) (by decide) (by decide) dL_law_378 ?_
  refine r_aload_n C dL_law_379 rfl rfl ?_
  refine r_callHi C hE (h_crossing (G := G) (o := o) (f := fun _ => 0) (xs 1) (xs 2) (f_crossing G A [] bN0 zR zQ freshB (xs 1) (xs 2)) rfl) kcL_L_crossing dL_law_380 rfl (by omega) (by omega) (by omega) (Nat.le_of_ble_eq_true rfl) [0, 1, 2, 3, 4, 5, 6, 7, 8, 9, 10, 11, 12, 13, 14] [15, 16, 17, 18, 19, 20, 21, 22, 23, 24, 25, 26, 27, 28, 29, 30, 31, 32, 33, 34, 35, 36, 37, 38, 39, 40, 41, 42] (by decide) rfl (wr := mW G h ad mM0 zR) rfl (by decide) (by decide) rfl (fun r u hu => ?_)
  rcases u with _ | ⟨u1, v⟩
  rotate_left
  · exact False.elim hu.1
  obtain ⟨-, rfl⟩ := hu
  refine V.sub (ws' := mW G h ad mM0 zR ++ [(o, .inl (G.2.2 2, 1, .inr (.inl (fun _ => 0))))]) [0, 1, 2, 3, 4, 5, 6, 7, 8, 9, 10, 11, 12, 13, 14, 15, 16, 17, 18, 19, 20, 21, 22, 23, 24, 25, 26, 27, 28] (by decide) rfl ?_
  refine r_istore C dL_law_383 (by decide) ?_
  refine r_aload_n C dL_law_385 rfl rfl ?_
  refine r_aload_n C dL_law_386 rfl rfl ?_
  refine r_iload C dL_law_387 rfl ?_
  refine r_iconst (v := 1) C dL_law_389 (by decide) ?_
  refine r_iadd C dL_law_390 ?_
  refine r_sld (j := 1) C hSc (by decide) (by decide) (by decide) dL_law_391 ?_
  refine r_aload_n C dL_law_392 rfl rfl ?_
  refine r_iload C dL_law_393 rfl ?_
  refine r_iconst (v := 2) C dL_law_395 (by decide) ?_
  refine r_iadd C dL_law_396 ?_
  refine r_sld (j := 2) C hSc (by decide) (by decide) (by decide) dL_law_397 ?_
  refine r_callVi C (c_crossing G h ad mM0 zR (j := 0) (z := 0) (xs 1) (xs 2) (fun q => (noPat q).elim)) kcL_X7_crossing dL_law_398 rfl (by omega) (by omega) (by omega) (Nat.le_of_ble_eq_true rfl) 0 rfl (ci := 7) rfl rfl [0, 1, 2, 3, 4, 5, 6, 7, 8, 9, 10, 11, 12, 13, 14, 15, 16, 17, 18, 19, 20, 21, 22, 23, 24, 25, 26, 27] [28] (by decide) rfl (wr := [(o, .inl (G.2.2 2, 1, .inr (.inl (fun _ => 0))))]) rfl (by decide) (by decide) rfl (fun r2 u2 hu2 => ?_)
  have ht : u2.1 0 = 1 := by
    rcases hu2.2 with w | w
    · exact (noPat w.1).elim
    · rw [w.2.2]; rfl
  refine r_istore C dL_law_401 (by decide) ?_
  refine r_aload_n C dL_law_403 rfl rfl ?_
  refine r_callVi C (c_thrown G h ad u2.1 u2.2) kcL_X7_thrown dL_law_404 rfl (by omega) (by omega) (by omega) (Nat.le_of_ble_eq_true rfl) 0 rfl (ci := 7) rfl rfl [1, 2, 3, 4, 5, 6, 7, 8, 9, 10, 11, 12, 13, 14, 15, 16, 17, 18, 19, 20, 21, 22, 23, 24, 25, 26, 27, 28] [0] (by decide) rfl (wr := [(o, .inl (G.2.2 2, 1, .inr (.inl (fun _ => 0))))]) rfl (by decide) (by decide) rfl (fun r3 u3 hu3 => ?_)
  have hr3 : r3 = 1 := hu3.1.trans ht
  subst hr3
  refine r_iload C dL_law_407 rfl ?_
  refine r_icmp_eq (tgt := 414) C dL_law_409 (by decide) (fun c409 => ?_) (fun c409 => absurd c409 ((fun q => q rfl)))
  refine r_iload C dL_law_414 rfl ?_
  refine r_if_ne (tgt := 431) C dL_law_416 (by decide) (fun c416 => ?_) (fun c416 => absurd c416 ((by decide)))
  refine r_goto (tgt := 1300) C dL_law_431 (by decide) ?_
  exact hEnd (by omega) (by omega)
theorem l_about (C : Cx X G 7 code RL d mc ms) (hE : Ev X) (hSc : Scr X b 6 xs) (hd : 11 ≤ d) (hmc : 100 ≤ mc) (hms : 20000 ≤ ms) (hEnd : ∀ {k n : Nat} {L5 L6 : Option Value} {ws : va_W}, k ≤ 100 → n ≤ 20000 → V X k n 1300 (lL b (A 0) h o L5 L6) [] ws) : V X 50 17000 434 (lL b (A 0) h o none none) [] ([(o, .inl (G.2.2 2, 1, .inr (.inl (fun _ => 0))))] ++ (bW G A bN0 zR zQ ++ mW G h ad mM0 zR)) := by
  refine r_aload_n C dL_law_434 rfl rfl ?_
  refine r_aload_n C dL_law_435 rfl rfl ?_
  refine r_iload C dL_law_436 rfl ?_
  refine r_iconst (v := 1) C dL_law_438 (by decide) ?_
  refine r_iadd C dL_law_439 ?_
  refine r_sld (j := 1) C hSc (by decide) (by decide) (by decide) dL_law_440 ?_
  refine r_aload_n C dL_law_441 rfl rfl ?_
  refine r_iload C dL_law_442 rfl ?_
  refine r_iconst (v := 2) C dL_law_444 (by decide) ?_
  refine r_iadd C dL_law_445 ?_
  refine r_sld (j := 2) C hSc (by decide) (by decide) (by decide) dL_law_446 ?_
  refine r_aload_n C dL_law_447 rfl rfl ?_
  refine r_callHi C hE (h_about (G := G) (o := o) (f := fun _ => 0) (xs 1) (xs 2) (f_about G A [] bN0 zR zQ freshB (xs 1) (xs 2)) rfl) kcL_L_about dL_law_448 rfl (by omega) (by omega) (by omega) (Nat.le_of_ble_eq_true rfl) [0, 1, 2, 3, 4, 5, 6, 7, 8, 9, 10, 11, 12, 13, 14] [15, 16, 17, 18, 19, 20, 21, 22, 23, 24, 25, 26, 27, 28, 29, 30, 31, 32, 33, 34, 35, 36, 37, 38, 39, 40, 41, 42] (by decide) rfl (wr := mW G h ad mM0 zR) rfl (by decide) (by decide) rfl (fun r u hu => ?_)
  rcases u with _ | ⟨u1, v⟩
  rotate_left
  · exact False.elim hu.1
  obtain ⟨-, rfl⟩ := hu
  refine V.sub (ws' := mW G h ad mM0 zR ++ [(o, .inl (G.2.2 2, 1, .inr (.inl (fun _ => 0))))]) [0, 1, 2, 3, 4, 5, 6, 7, 8, 9, 10, 11, 12, 13, 14, 15, 16, 17, 18, 19, 20, 21, 22, 23, 24, 25, 26, 27, 28] (by decide) rfl ?_
  refine r_istore C dL_law_451 (by decide) ?_
  refine r_aload_n C dL_law_453 rfl rfl ?_
  refine r_aload_n C dL_law_454 rfl rfl ?_
  refine r_iload C dL_law_455 rfl ?_
  refine r_iconst (v := 1) C dL_law_457 (by decide) ?_
  refine r_iadd C dL_law_458 ?_
  refine r_sld (j := 1) C hSc (by decide) (by decide) (by decide) dL_law_459 ?_
  refine r_aload_n C dL_law_460 rfl rfl ?_
  refine r_iload C dL_law_461 rfl ?_
  refine r_iconst (v := 2) C dL_law_463 (by decide) ?_
  refine r_iadd C dL_law_464 ?_
  refine r_sld (j := 2) C hSc (by decide) (by decide) (by decide) dL_law_465 ?_
  refine r_callVi C (c_about G h ad mM0 zR (xs 1) (xs 2) zPats) kcL_X7_about dL_law_466 rfl (by omega) (by omega) (by omega) (Nat.le_of_ble_eq_true rfl) 0 rfl (ci := 7) rfl rfl [0, 1, 2, 3, 4, 5, 6, 7, 8, 9, 10, 11, 12, 13, 14, 15, 16, 17, 18, 19, 20, 21, 22, 23, 24, 25, 26, 27] [28] (by decide) rfl (wr := [(o, .inl (G.2.2 2, 1, .inr (.inl (fun _ => 0))))]) rfl (by decide) (by decide) rfl (fun r2 u2 hu2 => ?_)
  have ht : u2.1 0 = 1 := by
    rcases hu2.2.2 with ⟨_, _, _, _, _, _, hp, _⟩ | w
    · exact (noPOK hp).elim
    · exact w.2.2
  refine r_istore C dL_law_469 (by decide) ?_
  refine r_aload_n C dL_law_471 rfl rfl ?_
  refine r_callVi C (c_thrown G h ad u2.1 u2.2) kcL_X7_thrown dL_law_472 rfl (by omega) (by omega) (by omega) (Nat.le_of_ble_eq_true rfl) 0 rfl (ci := 7) rfl rfl [1, 2, 3, 4, 5, 6, 7, 8, 9, 10, 11, 12, 13, 14, 15, 16, 17, 18, 19, 20, 21, 22, 23, 24, 25, 26, 27, 28] [0] (by decide) rfl (wr := [(o, .inl (G.2.2 2, 1, .inr (.inl (fun _ => 0))))]) rfl (by decide) (by decide) rfl (fun r3 u3 hu3 => ?_)
  have hr3 : r3 = 1 := hu3.1.trans ht
  subst hr3
  refine r_iload C dL_law_475 rfl ?_
  refine r_icmp_eq (tgt := 482) C dL_law_477 (by decide) (fun c477 => ?_) (fun c477 => absurd c477 ((fun q => q rfl)))
  refine r_iload C dL_law_482 rfl ?_
  refine r_if_ne (tgt := 499) C dL_law_484 (by decide) (fun c484 => ?_) (fun c484 => absurd c484 ((by decide)))
  refine r_goto (tgt := 1300) C dL_law_499 (by decide) ?_
  exact hEnd (by omega) (by omega)
theorem l_factor (C : Cx X G 7 code RL d mc ms) (hE : Ev X) (hSc : Scr X b 6 xs) (hd : 11 ≤ d) (hmc : 100 ≤ mc) (hms : 20000 ≤ ms) (hEnd : ∀ {k n : Nat} {L5 L6 : Option Value} {ws : va_W}, k ≤ 100 → n ≤ 20000 → V X k n 1300 (lL b (A 0) h o L5 L6) [] ws) : V X 50 17000 502 (lL b (A 0) h o none none) [] ([(o, .inl (G.2.2 2, 1, .inr (.inl (fun _ => 0))))] ++ (bW G A bN0 zR zQ ++ mW G h ad mM0 zR)) := by
  refine r_aload_n C dL_law_502 rfl rfl ?_
  refine r_aload_n C dL_law_503 rfl rfl ?_
  refine r_iload C dL_law_504 rfl ?_
  refine r_iconst (v := 1) C dL_law_506 (by decide) ?_
  refine r_iadd C dL_law_507 ?_
  refine r_sld (j := 1) C hSc (by decide) (by decide) (by decide) dL_law_508 ?_
  refine r_aload_n C dL_law_509 rfl rfl ?_
  refine r_iload C dL_law_510 rfl ?_
  refine r_iconst (v := 2) C dL_law_512 (by decide) ?_
  refine r_iadd C dL_law_513 ?_
  refine r_sld (j := 2) C hSc (by decide) (by decide) (by decide) dL_law_514 ?_
  refine r_aload_n C dL_law_515 rfl rfl ?_
  refine r_callHi C hE (h_factor (G := G) (o := o) (f := fun _ => 0) (xs 1) (xs 2) (f_factor G A [] bN0 zR zQ freshB (xs 1) (xs 2)) rfl) kcL_L_factor dL_law_516 rfl (by omega) (by omega) (by omega) (Nat.le_of_ble_eq_true rfl) [0, 1, 2, 3, 4, 5, 6, 7, 8, 9, 10, 11, 12, 13, 14] [15, 16, 17, 18, 19, 20, 21, 22, 23, 24, 25, 26, 27, 28, 29, 30, 31, 32, 33, 34, 35, 36, 37, 38, 39, 40, 41, 42] (by decide) rfl (wr := mW G h ad mM0 zR) rfl (by decide) (by decide) rfl (fun r u hu => ?_)
  rcases u with _ | ⟨u1, v⟩
  rotate_left
  · exact False.elim hu.1
  obtain ⟨-, rfl⟩ := hu
  refine V.sub (ws' := mW G h ad mM0 zR ++ [(o, .inl (G.2.2 2, 1, .inr (.inl (fun _ => 0))))]) [0, 1, 2, 3, 4, 5, 6, 7, 8, 9, 10, 11, 12, 13, 14, 15, 16, 17, 18, 19, 20, 21, 22, 23, 24, 25, 26, 27, 28] (by decide) rfl ?_
  refine r_istore C dL_law_519 (by decide) ?_
  refine r_aload_n C dL_law_521 rfl rfl ?_
  refine r_aload_n C dL_law_522 rfl rfl ?_
  refine r_iload C dL_law_523 rfl ?_
  refine r_iconst (v := 1) C dL_law_525 (by decide) ?_
  refine r_iadd C dL_law_526 ?_
  refine r_sld (j := 1) C hSc (by decide) (by decide) (by decide) dL_law_527 ?_
  refine r_aload_n C dL_law_528 rfl rfl ?_
  refine r_iload C dL_law_529 rfl ?_
  refine r_iconst (v := 2) C dL_law_531 (by decide) ?_
  refine r_iadd C dL_law_532 ?_
  refine r_sld (j := 2) C hSc (by decide) (by decide) (by decide) dL_law_533 ?_
  refine r_callVi C (c_factor G h ad mM0 zR (xs 1) (xs 2) zPats) kcL_X7_factor dL_law_534 rfl (by omega) (by omega) (by omega) (Nat.le_of_ble_eq_true rfl) 0 rfl (ci := 7) rfl rfl [0, 1, 2, 3, 4, 5, 6, 7, 8, 9, 10, 11, 12, 13, 14, 15, 16, 17, 18, 19, 20, 21, 22, 23, 24, 25, 26, 27] [28] (by decide) rfl (wr := [(o, .inl (G.2.2 2, 1, .inr (.inl (fun _ => 0))))]) rfl (by decide) (by decide) rfl (fun r2 u2 hu2 => ?_)
  have ht : u2.1 0 = 1 := by
    rcases hu2.2.2 with ⟨_, _, _, _, _, _, _, _, _, hp, _⟩ | w
    · exact (noPOK hp).elim
    · exact w.2.2
  refine r_istore C dL_law_537 (by decide) ?_
  refine r_aload_n C dL_law_539 rfl rfl ?_
  refine r_callVi C (c_thrown G h ad u2.1 u2.2) kcL_X7_thrown dL_law_540 rfl (by omega) (by omega) (by omega) (Nat.le_of_ble_eq_true rfl) 0 rfl (ci := 7) rfl rfl [1, 2, 3, 4, 5, 6, 7, 8, 9, 10, 11, 12, 13, 14, 15, 16, 17, 18, 19, 20, 21, 22, 23, 24, 25, 26, 27, 28] [0] (by decide) rfl (wr := [(o, .inl (G.2.2 2, 1, .inr (.inl (fun _ => 0))))]) rfl (by decide) (by decide) rfl (fun r3 u3 hu3 => ?_)
  have hr3 : r3 = 1 := hu3.1.trans ht
  subst hr3
  refine r_iload C dL_law_543 rfl ?_
  refine r_icmp_eq (tgt := 550) C dL_law_545 (by decide) (fun c545 => ?_) (fun c545 => absurd c545 ((fun q => q rfl)))
  refine r_iload C dL_law_550 rfl ?_
  refine r_if_ne (tgt := 567) C dL_law_552 (by decide) (fun c552 => ?_) (fun c552 => absurd c552 ((by decide)))
  refine r_goto (tgt := 1300) C dL_law_567 (by decide) ?_
  exact hEnd (by omega) (by omega)
theorem l_alike (C : Cx X G 7 code RL d mc ms) (hE : Ev X) (hSc : Scr X b 6 xs) (hd : 11 ≤ d) (hmc : 100 ≤ mc) (hms : 20000 ≤ ms) (hEnd : ∀ {k n : Nat} {L5 L6 : Option Value} {ws : va_W}, k ≤ 100 → n ≤ 20000 → V X k n 1300 (lL b (A 0) h o L5 L6) [] ws) : V X 50 17000 570 (lL b (A 0) h o none none) [] ([(o, .inl (G.2.2 2, 1, .inr (.inl (fun _ => 0))))] ++ (bW G A bN0 zR zQ ++ mW G h ad mM0 zR)) := by
  refine r_aload_n C dL_law_570 rfl rfl ?_
  refine r_aload_n C dL_law_571 rfl rfl ?_
  refine r_iload C dL_law_572 rfl ?_
  refine r_iconst (v := 1) C dL_law_574 (by decide) ?_
  refine r_iadd C dL_law_575 ?_
  refine r_sld (j := 1) C hSc (by decide) (by decide) (by decide) dL_law_576 ?_
  refine r_aload_n C dL_law_577 rfl rfl ?_
  refine r_iload C dL_law_578 rfl ?_
  refine r_iconst (v := 2) C dL_law_580 (by decide) ?_
  refine r_iadd C dL_law_581 ?_
  refine r_sld (j := 2) C hSc (by decide) (by decide) (by decide) dL_law_582 ?_
  refine r_aload_n C dL_law_583 rfl rfl ?_
  refine r_callHi C hE (h_alike (G := G) (o := o) (f := fun _ => 0) (xs 1) (xs 2) (f_alike G A [] bN0 zR zQ freshB (xs 1) (xs 2)) rfl) kcL_L_alike dL_law_584 rfl (by omega) (by omega) (by omega) (Nat.le_of_ble_eq_true rfl) [0, 1, 2, 3, 4, 5, 6, 7, 8, 9, 10, 11, 12, 13, 14] [15, 16, 17, 18, 19, 20, 21, 22, 23, 24, 25, 26, 27, 28, 29, 30, 31, 32, 33, 34, 35, 36, 37, 38, 39, 40, 41, 42] (by decide) rfl (wr := mW G h ad mM0 zR) rfl (by decide) (by decide) rfl (fun r u hu => ?_)
  rcases u with _ | ⟨u1, v⟩
  rotate_left
  · exact False.elim hu.1
  obtain ⟨-, rfl⟩ := hu
  refine V.sub (ws' := mW G h ad mM0 zR ++ [(o, .inl (G.2.2 2, 1, .inr (.inl (fun _ => 0))))]) [0, 1, 2, 3, 4, 5, 6, 7, 8, 9, 10, 11, 12, 13, 14, 15, 16, 17, 18, 19, 20, 21, 22, 23, 24, 25, 26, 27, 28] (by decide) rfl ?_
  refine r_istore C dL_law_587 (by decide) ?_
  refine r_aload_n C dL_law_589 rfl rfl ?_
  refine r_aload_n C dL_law_590 rfl rfl ?_
  refine r_iload C dL_law_591 rfl ?_
  refine r_iconst (v := 1) C dL_law_593 (by decide) ?_
  refine r_iadd C dL_law_594 ?_
  refine r_sld (j := 1) C hSc (by decide) (by decide) (by decide) dL_law_595 ?_
  refine r_aload_n C dL_law_596 rfl rfl ?_
  refine r_iload C dL_law_597 rfl ?_
  refine r_iconst (v := 2) C dL_law_599 (by decide) ?_
  refine r_iadd C dL_law_600 ?_
  refine r_sld (j := 2) C hSc (by decide) (by decide) (by decide) dL_law_601 ?_
  refine r_callVi C (c_alike G h ad mM0 zR (xs 1) (xs 2) zPats) kcL_X7_alike dL_law_602 rfl (by omega) (by omega) (by omega) (Nat.le_of_ble_eq_true rfl) 0 rfl (ci := 7) rfl rfl [0, 1, 2, 3, 4, 5, 6, 7, 8, 9, 10, 11, 12, 13, 14, 15, 16, 17, 18, 19, 20, 21, 22, 23, 24, 25, 26, 27] [28] (by decide) rfl (wr := [(o, .inl (G.2.2 2, 1, .inr (.inl (fun _ => 0))))]) rfl (by decide) (by decide) rfl (fun r2 u2 hu2 => ?_)
  have ht : u2.1 0 = 1 := by
    rcases hu2.2.2 with ⟨_, _, _, _, _, _, _, hp, _⟩ | ⟨_, _, _, _, _, _, _, _, hp, _⟩ | w
    · exact (noPOK hp).elim
    · exact (noPOK hp).elim
    · exact w.2.2
  refine r_istore C dL_law_605 (by decide) ?_
  refine r_aload_n C dL_law_607 rfl rfl ?_
  refine r_callVi C (c_thrown G h ad u2.1 u2.2) kcL_X7_thrown dL_law_608 rfl (by omega) (by omega) (by omega) (Nat.le_of_ble_eq_true rfl) 0 rfl (ci := 7) rfl rfl [1, 2, 3, 4, 5, 6, 7, 8, 9, 10, 11, 12, 13, 14, 15, 16, 17, 18, 19, 20, 21, 22, 23, 24, 25, 26, 27, 28] [0] (by decide) rfl (wr := [(o, .inl (G.2.2 2, 1, .inr (.inl (fun _ => 0))))]) rfl (by decide) (by decide) rfl (fun r3 u3 hu3 => ?_)
  have hr3 : r3 = 1 := hu3.1.trans ht
  subst hr3
  refine r_iload C dL_law_611 rfl ?_
  refine r_icmp_eq (tgt := 618) C dL_law_613 (by decide) (fun c613 => ?_) (fun c613 => absurd c613 ((fun q => q rfl)))
  refine r_iload C dL_law_618 rfl ?_
  refine r_if_ne (tgt := 642) C dL_law_620 (by decide) (fun c620 => ?_) (fun c620 => absurd c620 ((by decide)))
  refine r_goto (tgt := 1300) C dL_law_642 (by decide) ?_
  exact hEnd (by omega) (by omega)
theorem l_untwined (C : Cx X G 7 code RL d mc ms) (hE : Ev X) (hSc : Scr X b 6 xs) (hd : 11 ≤ d) (hmc : 100 ≤ mc) (hms : 20000 ≤ ms) (hEnd : ∀ {k n : Nat} {L5 L6 : Option Value} {ws : va_W}, k ≤ 100 → n ≤ 20000 → V X k n 1300 (lL b (A 0) h o L5 L6) [] ws) : V X 50 17000 645 (lL b (A 0) h o none none) [] ([(o, .inl (G.2.2 2, 1, .inr (.inl (fun _ => 0))))] ++ (bW G A bN0 zR zQ ++ mW G h ad mM0 zR)) := by
  refine r_aload_n C dL_law_645 rfl rfl ?_
  refine r_aload_n C dL_law_646 rfl rfl ?_
  refine r_iload C dL_law_647 rfl ?_
  refine r_iconst (v := 1) C dL_law_649 (by decide) ?_
  refine r_iadd C dL_law_650 ?_
  refine r_sld (j := 1) C hSc (by decide) (by decide) (by decide) dL_law_651 ?_
  refine r_aload_n C dL_law_652 rfl rfl ?_
  refine r_callHi C hE (h_untwined (G := G) (o := o) (f := fun _ => 0) (xs 1) (f_untwined G A [] bN0 zR zQ freshB (xs 1)) rfl) kcL_L_untwined dL_law_653 rfl (by omega) (by omega) (by omega) (Nat.le_of_ble_eq_true rfl) [0, 1, 2, 3, 4, 5, 6, 7, 8, 9, 10, 11, 12, 13, 14] [15, 16, 17, 18, 19, 20, 21, 22, 23, 24, 25, 26, 27, 28, 29, 30, 31, 32, 33, 34, 35, 36, 37, 38, 39, 40, 41, 42] (by decide) rfl (wr := mW G h ad mM0 zR) rfl (by decide) (by decide) rfl (fun r u hu => ?_)
  rcases u with _ | ⟨u1, v⟩
  rotate_left
  · exact False.elim hu.1
  obtain ⟨-, rfl⟩ := hu
  refine V.sub (ws' := mW G h ad mM0 zR ++ [(o, .inl (G.2.2 2, 1, .inr (.inl (fun _ => 0))))]) [0, 1, 2, 3, 4, 5, 6, 7, 8, 9, 10, 11, 12, 13, 14, 15, 16, 17, 18, 19, 20, 21, 22, 23, 24, 25, 26, 27, 28] (by decide) rfl ?_
  refine r_istore C dL_law_656 (by decide) ?_
  refine r_aload_n C dL_law_658 rfl rfl ?_
  refine r_aload_n C dL_law_659 rfl rfl ?_
  refine r_iload C dL_law_660 rfl ?_
  refine r_iconst (v := 1) C dL_law_662 (by decide) ?_
  refine r_iadd C dL_law_663 ?_
  refine r_sld (j := 1) C hSc (by decide) (by decide) (by decide) dL_law_664 ?_
  refine r_callVi C (c_untwined G h ad mM0 zR (xs 1) zPats) kcL_X7_untwined dL_law_665 rfl (by omega) (by omega) (by omega) (Nat.le_of_ble_eq_true rfl) 0 rfl (ci := 7) rfl rfl [0, 1, 2, 3, 4, 5, 6, 7, 8, 9, 10, 11, 12, 13, 14, 15, 16, 17, 18, 19, 20, 21, 22, 23, 24, 25, 26, 27] [28] (by decide) rfl (wr := [(o, .inl (G.2.2 2, 1, .inr (.inl (fun _ => 0))))]) rfl (by decide) (by decide) rfl (fun r2 u2 hu2 => ?_)
  have ht : u2.1 0 = 1 := by
    rcases hu2.2.2 with ⟨_, _, _, _, _, _, hp, _⟩ | ⟨_, _, _, _, _, hp, _⟩ | w
    · exact (noPOK hp).elim
    · exact (noPOK hp).elim
    · exact w.2.2
  refine r_istore C dL_law_668 (by decide) ?_
  refine r_aload_n C dL_law_670 rfl rfl ?_
  refine r_callVi C (c_thrown G h ad u2.1 u2.2) kcL_X7_thrown dL_law_671 rfl (by omega) (by omega) (by omega) (Nat.le_of_ble_eq_true rfl) 0 rfl (ci := 7) rfl rfl [1, 2, 3, 4, 5, 6, 7, 8, 9, 10, 11, 12, 13, 14, 15, 16, 17, 18, 19, 20, 21, 22, 23, 24, 25, 26, 27, 28] [0] (by decide) rfl (wr := [(o, .inl (G.2.2 2, 1, .inr (.inl (fun _ => 0))))]) rfl (by decide) (by decide) rfl (fun r3 u3 hu3 => ?_)
  have hr3 : r3 = 1 := hu3.1.trans ht
  subst hr3
  refine r_iload C dL_law_674 rfl ?_
  refine r_icmp_eq (tgt := 681) C dL_law_676 (by decide) (fun c676 => ?_) (fun c676 => absurd c676 ((fun q => q rfl)))
  refine r_iload C dL_law_681 rfl ?_
  refine r_if_ne (tgt := 698) C dL_law_683 (by decide) (fun c683 => ?_) (fun c683 => absurd c683 ((by decide)))
  refine r_goto (tgt := 1300) C dL_law_698 (by decide) ?_
  exact hEnd (by omega) (by omega)
theorem l_goes (C : Cx X G 7 code RL d mc ms) (hE : Ev X) (hSc : Scr X b 6 xs) (hd : 11 ≤ d) (hmc : 100 ≤ mc) (hms : 20000 ≤ ms) (hEnd : ∀ {k n : Nat} {L5 L6 : Option Value} {ws : va_W}, k ≤ 100 → n ≤ 20000 → V X k n 1300 (lL b (A 0) h o L5 L6) [] ws) : V X 50 17000 701 (lL b (A 0) h o none none) [] ([(o, .inl (G.2.2 2, 1, .inr (.inl (fun _ => 0))))] ++ (bW G A bN0 zR zQ ++ mW G h ad mM0 zR)) := by
  refine r_aload_n C dL_law_701 rfl rfl ?_
  refine r_aload_n C dL_law_702 rfl rfl ?_
  refine r_iload C dL_law_703 rfl ?_
  refine r_iconst (v := 1) C dL_law_705 (by decide) ?_
  refine r_iadd C dL_law_706 ?_
  refine r_sld (j := 1) C hSc (by decide) (by decide) (by decide) dL_law_707 ?_
  refine r_aload_n C dL_law_708 rfl rfl ?_
  refine r_iload C dL_law_709 rfl ?_
  refine r_iconst (v := 2) C dL_law_711 (by decide) ?_
  refine r_iadd C dL_law_712 ?_
  refine r_sld (j := 2) C hSc (by decide) (by decide) (by decide) dL_law_713 ?_
  refine r_aload_n C dL_law_714 rfl rfl ?_
  refine r_callHi C hE (h_goes (G := G) (o := o) (f := fun _ => 0) (xs 1) (xs 2) (f_goes G A [] bN0 zR zQ freshB (xs 1) (xs 2)) rfl) kcL_L_goes dL_law_715 rfl (by omega) (by omega) (by omega) (Nat.le_of_ble_eq_true rfl) [0, 1, 2, 3, 4, 5, 6, 7, 8, 9, 10, 11, 12, 13, 14] [15, 16, 17, 18, 19, 20, 21, 22, 23, 24, 25, 26, 27, 28, 29, 30, 31, 32, 33, 34, 35, 36, 37, 38, 39, 40, 41, 42] (by decide) rfl (wr := mW G h ad mM0 zR) rfl (by decide) (by decide) rfl (fun r u hu => ?_)
  rcases u with _ | ⟨u1, v⟩
  rotate_left
  · exact False.elim hu.1
  obtain ⟨-, rfl⟩ := hu
  refine V.sub (ws' := mW G h ad mM0 zR ++ [(o, .inl (G.2.2 2, 1, .inr (.inl (fun _ => 0))))]) [0, 1, 2, 3, 4, 5, 6, 7, 8, 9, 10, 11, 12, 13, 14, 15, 16, 17, 18, 19, 20, 21, 22, 23, 24, 25, 26, 27, 28] (by decide) rfl ?_
  refine r_istore C dL_law_718 (by decide) ?_
  refine r_aload_n C dL_law_720 rfl rfl ?_
  refine r_aload_n C dL_law_721 rfl rfl ?_
  refine r_iload C dL_law_722 rfl ?_
  refine r_iconst (v := 1) C dL_law_724 (by decide) ?_
  refine r_iadd C dL_law_725 ?_
  refine r_sld (j := 1) C hSc (by decide) (by decide) (by decide) dL_law_726 ?_
  refine r_aload_n C dL_law_727 rfl rfl ?_
  refine r_iload C dL_law_728 rfl ?_
  refine r_iconst (v := 2) C dL_law_730 (by decide) ?_
  refine r_iadd C dL_law_731 ?_
  refine r_sld (j := 2) C hSc (by decide) (by decide) (by decide) dL_law_732 ?_
  refine r_callVi C (c_goes G h ad mM0 zR (xs 1) (xs 2) zPats) kcL_X7_goes dL_law_733 rfl (by omega) (by omega) (by omega) (Nat.le_of_ble_eq_true rfl) 0 rfl (ci := 7) rfl rfl [0, 1, 2, 3, 4, 5, 6, 7, 8, 9, 10, 11, 12, 13, 14, 15, 16, 17, 18, 19, 20, 21, 22, 23, 24, 25, 26, 27] [28] (by decide) rfl (wr := [(o, .inl (G.2.2 2, 1, .inr (.inl (fun _ => 0))))]) rfl (by decide) (by decide) rfl (fun r2 u2 hu2 => ?_)
  have ht : u2.1 0 = 1 := by
    rcases hu2.2 with ⟨_, _, _, _, _, _, hp, _⟩ | w
    · exact (noPOK hp).elim
    · rw [w.2.2]; rfl
  refine r_istore C dL_law_736 (by decide) ?_
  refine r_aload_n C dL_law_738 rfl rfl ?_
  refine r_callVi C (c_thrown G h ad u2.1 u2.2) kcL_X7_thrown dL_law_739 rfl (by omega) (by omega) (by omega) (Nat.le_of_ble_eq_true rfl) 0 rfl (ci := 7) rfl rfl [1, 2, 3, 4, 5, 6, 7, 8, 9, 10, 11, 12, 13, 14, 15, 16, 17, 18, 19, 20, 21, 22, 23, 24, 25, 26, 27, 28] [0] (by decide) rfl (wr := [(o, .inl (G.2.2 2, 1, .inr (.inl (fun _ => 0))))]) rfl (by decide) (by decide) rfl (fun r3 u3 hu3 => ?_)
  have hr3 : r3 = 1 := hu3.1.trans ht
  subst hr3
  refine r_iload C dL_law_742 rfl ?_
  refine r_icmp_eq (tgt := 749) C dL_law_744 (by decide) (fun c744 => ?_) (fun c744 => absurd c744 ((fun q => q rfl)))
  refine r_iload C dL_law_749 rfl ?_
  refine r_if_ne (tgt := 766) C dL_law_751 (by decide) (fun c751 => ?_) (fun c751 => absurd c751 ((by decide)))
  refine r_goto (tgt := 1300) C dL_law_766 (by decide) ?_
  exact hEnd (by omega) (by omega)
theorem l_twine (C : Cx X G 7 code RL d mc ms) (hE : Ev X) (hSc : Scr X b 6 xs) (hd : 11 ≤ d) (hmc : 100 ≤ mc) (hms : 20000 ≤ ms) (hEnd : ∀ {k n : Nat} {L5 L6 : Option Value} {ws : va_W}, k ≤ 100 → n ≤ 20000 → V X k n 1300 (lL b (A 0) h o L5 L6) [] ws) : V X 50 17000 769 (lL b (A 0) h o none none) [] ([(o, .inl (G.2.2 2, 1, .inr (.inl (fun _ => 0))))] ++ (bW G A bN0 zR zQ ++ mW G h ad mM0 zR)) := by
  refine r_aload_n C dL_law_769 rfl rfl ?_
  refine r_aload_n C dL_law_770 rfl rfl ?_
  refine r_iload C dL_law_771 rfl ?_
  refine r_iconst (v := 1) C dL_law_773 (by decide) ?_
  refine r_iadd C dL_law_774 ?_
  refine r_sld (j := 1) C hSc (by decide) (by decide) (by decide) dL_law_775 ?_
  refine r_aload_n C dL_law_776 rfl rfl ?_
  refine r_iload C dL_law_777 rfl ?_
  refine r_iconst (v := 2) C dL_law_779 (by decide) ?_
  refine r_iadd C dL_law_780 ?_
  refine r_sld (j := 2) C hSc (by decide) (by decide) (by decide) dL_law_781 ?_
  refine r_aload_n C dL_law_782 rfl rfl ?_
  refine r_iload C dL_law_783 rfl ?_
  refine r_iconst (v := 3) C dL_law_785 (by decide) ?_
  refine r_iadd C dL_law_786 ?_
  refine r_sld (j := 3) C hSc (by decide) (by decide) (by decide) dL_law_787 ?_
  refine r_aload_n C dL_law_788 rfl rfl ?_
  refine r_callHi C hE (h_twine (G := G) (o := o) (f := fun _ => 0) (xs 1) (xs 2) (xs 3) (f_twine G A [] bN0 zR zQ freshB (xs 1) (xs 2) (xs 3)) rfl) kcL_L_twine dL_law_789 rfl (by omega) (by omega) (by omega) (Nat.le_of_ble_eq_true rfl) [0, 1, 2, 3, 4, 5, 6, 7, 8, 9, 10, 11, 12, 13, 14] [15, 16, 17, 18, 19, 20, 21, 22, 23, 24, 25, 26, 27, 28, 29, 30, 31, 32, 33, 34, 35, 36, 37, 38, 39, 40, 41, 42] (by decide) rfl (wr := mW G h ad mM0 zR) rfl (by decide) (by decide) rfl (fun r u hu => ?_)
  rcases u with _ | ⟨u1, v⟩
  rotate_left
  · exact False.elim hu.1
  obtain ⟨-, rfl⟩ := hu
  refine V.sub (ws' := mW G h ad mM0 zR ++ [(o, .inl (G.2.2 2, 1, .inr (.inl (fun _ => 0))))]) [0, 1, 2, 3, 4, 5, 6, 7, 8, 9, 10, 11, 12, 13, 14, 15, 16, 17, 18, 19, 20, 21, 22, 23, 24, 25, 26, 27, 28] (by decide) rfl ?_
  refine r_istore C dL_law_792 (by decide) ?_
  refine r_aload_n C dL_law_794 rfl rfl ?_
  refine r_aload_n C dL_law_795 rfl rfl ?_
  refine r_iload C dL_law_796 rfl ?_
  refine r_iconst (v := 1) C dL_law_798 (by decide) ?_
  refine r_iadd C dL_law_799 ?_
  refine r_sld (j := 1) C hSc (by decide) (by decide) (by decide) dL_law_800 ?_
  refine r_aload_n C dL_law_801 rfl rfl ?_
  refine r_iload C dL_law_802 rfl ?_
  refine r_iconst (v := 2) C dL_law_804 (by decide) ?_
  refine r_iadd C dL_law_805 ?_
  refine r_sld (j := 2) C hSc (by decide) (by decide) (by decide) dL_law_806 ?_
  refine r_aload_n C dL_law_807 rfl rfl ?_
  refine r_iload C dL_law_808 rfl ?_
  refine r_iconst (v := 3) C dL_law_810 (by decide) ?_
  refine r_iadd C dL_law_811 ?_
  refine r_sld (j := 3) C hSc (by decide) (by decide) (by decide) dL_law_812 ?_
  refine r_callVi C (c_twine G h ad mM0 zR (xs 1) (xs 2) (xs 3) zPats) kcL_X7_twine dL_law_813 rfl (by omega) (by omega) (by omega) (Nat.le_of_ble_eq_true rfl) 0 rfl (ci := 7) rfl rfl [0, 1, 2, 3, 4, 5, 6, 7, 8, 9, 10, 11, 12, 13, 14, 15, 16, 17, 18, 19, 20, 21, 22, 23, 24, 25, 26, 27] [28] (by decide) rfl (wr := [(o, .inl (G.2.2 2, 1, .inr (.inl (fun _ => 0))))]) rfl (by decide) (by decide) rfl (fun r2 u2 hu2 => ?_)
  have ht : u2.1 0 = 1 := by
    rcases hu2.2 with ⟨_, _, _, _, _, _, _, hp, _⟩ | w
    · exact (noPOK hp).elim
    · rw [w.2.2]; rfl
  refine r_istore C dL_law_816 (by decide) ?_
  refine r_aload_n C dL_law_818 rfl rfl ?_
  refine r_callVi C (c_thrown G h ad u2.1 u2.2) kcL_X7_thrown dL_law_819 rfl (by omega) (by omega) (by omega) (Nat.le_of_ble_eq_true rfl) 0 rfl (ci := 7) rfl rfl [1, 2, 3, 4, 5, 6, 7, 8, 9, 10, 11, 12, 13, 14, 15, 16, 17, 18, 19, 20, 21, 22, 23, 24, 25, 26, 27, 28] [0] (by decide) rfl (wr := [(o, .inl (G.2.2 2, 1, .inr (.inl (fun _ => 0))))]) rfl (by decide) (by decide) rfl (fun r3 u3 hu3 => ?_)
  have hr3 : r3 = 1 := hu3.1.trans ht
  subst hr3
  refine r_iload C dL_law_822 rfl ?_
  refine r_icmp_eq (tgt := 829) C dL_law_824 (by decide) (fun c824 => ?_) (fun c824 => absurd c824 ((fun q => q rfl)))
  refine r_iload C dL_law_829 rfl ?_
  refine r_if_ne (tgt := 846) C dL_law_831 (by decide) (fun c831 => ?_) (fun c831 => absurd c831 ((by decide)))
  refine r_goto (tgt := 1300) C dL_law_846 (by decide) ?_
  exact hEnd (by omega) (by omega)
theorem l_use (C : Cx X G 7 code RL d mc ms) (hE : Ev X) (hSc : Scr X b 6 xs) (hd : 11 ≤ d) (hmc : 100 ≤ mc) (hms : 20000 ≤ ms) (hEnd : ∀ {k n : Nat} {L5 L6 : Option Value} {ws : va_W}, k ≤ 100 → n ≤ 20000 → V X k n 1300 (lL b (A 0) h o L5 L6) [] ws) : V X 50 17000 849 (lL b (A 0) h o none none) [] ([(o, .inl (G.2.2 2, 1, .inr (.inl (fun _ => 0))))] ++ (bW G A bN0 zR zQ ++ mW G h ad mM0 zR)) := by
  refine r_aload_n C dL_law_849 rfl rfl ?_
  refine r_aload_n C dL_law_850 rfl rfl ?_
  refine r_iload C dL_law_851 rfl ?_
  refine r_iconst (v := 1) C dL_law_853 (by decide) ?_
  refine r_iadd C dL_law_854 ?_
  refine r_sld (j := 1) C hSc (by decide) (by decide) (by decide) dL_law_855 ?_
  refine r_aload_n C dL_law_856 rfl rfl ?_
  refine r_iload C dL_law_857 rfl ?_
  refine r_iconst (v := 2) C dL_law_859 (by decide) ?_
  refine r_iadd C dL_law_860 ?_
  refine r_sld (j := 2) C hSc (by decide) (by decide) (by decide) dL_law_861 ?_
  refine r_aload_n C dL_law_862 rfl rfl ?_
  refine r_callHi C hE (h_use (G := G) (o := o) (f := fun _ => 0) (xs 1) (xs 2) (f_use G A [] bN0 zR zQ freshB (xs 1) (xs 2)) rfl) kcL_L_use dL_law_863 rfl (by omega) (by omega) (by omega) (Nat.le_of_ble_eq_true rfl) [0, 1, 2, 3, 4, 5, 6, 7, 8, 9, 10, 11, 12, 13, 14] [15, 16, 17, 18, 19, 20, 21, 22, 23, 24, 25, 26, 27, 28, 29, 30, 31, 32, 33, 34, 35, 36, 37, 38, 39, 40, 41, 42] (by decide) rfl (wr := mW G h ad mM0 zR) rfl (by decide) (by decide) rfl (fun r u hu => ?_)
  rcases u with _ | ⟨u1, v⟩
  rotate_left
  · exact False.elim hu.1
  obtain ⟨-, rfl⟩ := hu
  refine V.sub (ws' := mW G h ad mM0 zR ++ [(o, .inl (G.2.2 2, 1, .inr (.inl (fun _ => 0))))]) [0, 1, 2, 3, 4, 5, 6, 7, 8, 9, 10, 11, 12, 13, 14, 15, 16, 17, 18, 19, 20, 21, 22, 23, 24, 25, 26, 27, 28] (by decide) rfl ?_
  refine r_istore C dL_law_866 (by decide) ?_
  refine r_aload_n C dL_law_868 rfl rfl ?_
  refine r_aload_n C dL_law_869 rfl rfl ?_
  refine r_iload C dL_law_870 rfl ?_
  refine r_iconst (v := 1) C dL_law_872 (by decide) ?_
  refine r_iadd C dL_law_873 ?_
  refine r_sld (j := 1) C hSc (by decide) (by decide) (by decide) dL_law_874 ?_
  refine r_aload_n C dL_law_875 rfl rfl ?_
  refine r_iload C dL_law_876 rfl ?_
  refine r_iconst (v := 2) C dL_law_878 (by decide) ?_
  refine r_iadd C dL_law_879 ?_
  refine r_sld (j := 2) C hSc (by decide) (by decide) (by decide) dL_law_880 ?_
  refine r_callVi C (c_use G h ad mM0 zR (xs 1) (xs 2) zPats) kcL_X7_use dL_law_881 rfl (by omega) (by omega) (by omega) (Nat.le_of_ble_eq_true rfl) 0 rfl (ci := 7) rfl rfl [0, 1, 2, 3, 4, 5, 6, 7, 8, 9, 10, 11, 12, 13, 14, 15, 16, 17, 18, 19, 20, 21, 22, 23, 24, 25, 26, 27] [28] (by decide) rfl (wr := [(o, .inl (G.2.2 2, 1, .inr (.inl (fun _ => 0))))]) rfl (by decide) (by decide) rfl (fun r2 u2 hu2 => ?_)
  have ht : u2.1 0 = 1 := by
    rcases hu2.2 with ⟨_, _, _, _, _, _, hp, _⟩ | w
    · exact (noPOK hp).elim
    · rw [w.2.2]; rfl
  refine r_istore C dL_law_884 (by decide) ?_
  refine r_aload_n C dL_law_886 rfl rfl ?_
  refine r_callVi C (c_thrown G h ad u2.1 u2.2) kcL_X7_thrown dL_law_887 rfl (by omega) (by omega) (by omega) (Nat.le_of_ble_eq_true rfl) 0 rfl (ci := 7) rfl rfl [1, 2, 3, 4, 5, 6, 7, 8, 9, 10, 11, 12, 13, 14, 15, 16, 17, 18, 19, 20, 21, 22, 23, 24, 25, 26, 27, 28] [0] (by decide) rfl (wr := [(o, .inl (G.2.2 2, 1, .inr (.inl (fun _ => 0))))]) rfl (by decide) (by decide) rfl (fun r3 u3 hu3 => ?_)
  have hr3 : r3 = 1 := hu3.1.trans ht
  subst hr3
  refine r_iload C dL_law_890 rfl ?_
  refine r_icmp_eq (tgt := 897) C dL_law_892 (by decide) (fun c892 => ?_) (fun c892 => absurd c892 ((fun q => q rfl)))
  refine r_iload C dL_law_897 rfl ?_
  refine r_if_ne (tgt := 914) C dL_law_899 (by decide) (fun c899 => ?_) (fun c899 => absurd c899 ((by decide)))
  refine r_goto (tgt := 1300) C dL_law_914 (by decide) ?_
  exact hEnd (by omega) (by omega)
theorem l_left (C : Cx X G 7 code RL d mc ms) (hE : Ev X) (hSc : Scr X b 6 xs) (hd : 11 ≤ d) (hmc : 100 ≤ mc) (hms : 20000 ≤ ms) (hEnd : ∀ {k n : Nat} {L5 L6 : Option Value} {ws : va_W}, k ≤ 100 → n ≤ 20000 → V X k n 1300 (lL b (A 0) h o L5 L6) [] ws) : V X 50 17000 966 (lL b (A 0) h o none none) [] ([(o, .inl (G.2.2 2, 1, .inr (.inl (fun _ => 0))))] ++ (bW G A bN0 zR zQ ++ mW G h ad mM0 zR)) := by
  refine r_aload_n C dL_law_966 rfl rfl ?_
  refine r_aload_n C dL_law_967 rfl rfl ?_
  refine r_iload C dL_law_968 rfl ?_
  refine r_iconst (v := 1) C dL_law_970 (by decide) ?_
  refine r_iadd C dL_law_971 ?_
  refine r_sld (j := 1) C hSc (by decide) (by decide) (by decide) dL_law_972 ?_
  refine r_aload_n C dL_law_973 rfl rfl ?_
  refine r_callHi C hE (h_left (G := G) (o := o) (f := fun _ => 0) (xs 1) (f_left G A [] bN0 zR zQ freshB (xs 1)) rfl) kcL_L_left dL_law_974 rfl (by omega) (by omega) (by omega) (Nat.le_of_ble_eq_true rfl) [0, 1, 2, 3, 4, 5, 6, 7, 8, 9, 10, 11, 12, 13, 14] [15, 16, 17, 18, 19, 20, 21, 22, 23, 24, 25, 26, 27, 28, 29, 30, 31, 32, 33, 34, 35, 36, 37, 38, 39, 40, 41, 42] (by decide) rfl (wr := mW G h ad mM0 zR) rfl (by decide) (by decide) rfl (fun r u hu => ?_)
  rcases u with _ | ⟨u1, v⟩
  rotate_left
  · exact False.elim hu.1
  obtain ⟨-, rfl⟩ := hu
  refine V.sub (ws' := mW G h ad mM0 zR ++ [(o, .inl (G.2.2 2, 1, .inr (.inl (fun _ => 0))))]) [0, 1, 2, 3, 4, 5, 6, 7, 8, 9, 10, 11, 12, 13, 14, 15, 16, 17, 18, 19, 20, 21, 22, 23, 24, 25, 26, 27, 28] (by decide) rfl ?_
  refine r_istore C dL_law_977 (by decide) ?_
  refine r_aload_n C dL_law_979 rfl rfl ?_
  refine r_aload_n C dL_law_980 rfl rfl ?_
  refine r_iload C dL_law_981 rfl ?_
  refine r_iconst (v := 1) C dL_law_983 (by decide) ?_
  refine r_iadd C dL_law_984 ?_
  refine r_sld (j := 1) C hSc (by decide) (by decide) (by decide) dL_law_985 ?_
  refine r_callVi C (c_left G h ad mM0 zR (b := 0) (xs 1) rfl (by decide)) kcL_X7_left dL_law_986 rfl (by omega) (by omega) (by omega) (Nat.le_of_ble_eq_true rfl) 0 rfl (ci := 7) rfl rfl [0, 1, 2, 3, 4, 5, 6, 7, 8, 9, 10, 11, 12, 13, 14, 15, 16, 17, 18, 19, 20, 21, 22, 23, 24, 25, 26, 27] [28] (by decide) rfl (wr := [(o, .inl (G.2.2 2, 1, .inr (.inl (fun _ => 0))))]) rfl (by decide) (by decide) rfl (fun r2 u2 hu2 => ?_)
  have ht : u2.1 0 = 1 := by
    rcases hu2.2 with ⟨_, hi, _⟩ | w
    · exact absurd hi (by omega)
    · rw [w.2.2]; rfl
  refine r_istore C dL_law_989 (by decide) ?_
  refine r_aload_n C dL_law_991 rfl rfl ?_
  refine r_callVi C (c_thrown G h ad u2.1 u2.2) kcL_X7_thrown dL_law_992 rfl (by omega) (by omega) (by omega) (Nat.le_of_ble_eq_true rfl) 0 rfl (ci := 7) rfl rfl [1, 2, 3, 4, 5, 6, 7, 8, 9, 10, 11, 12, 13, 14, 15, 16, 17, 18, 19, 20, 21, 22, 23, 24, 25, 26, 27, 28] [0] (by decide) rfl (wr := [(o, .inl (G.2.2 2, 1, .inr (.inl (fun _ => 0))))]) rfl (by decide) (by decide) rfl (fun r3 u3 hu3 => ?_)
  have hr3 : r3 = 1 := hu3.1.trans ht
  subst hr3
  refine r_iload C dL_law_995 rfl ?_
  refine r_icmp_eq (tgt := 1002) C dL_law_997 (by decide) (fun c997 => ?_) (fun c997 => absurd c997 ((fun q => q rfl)))
  refine r_iload C dL_law_1002 rfl ?_
  refine r_if_ne (tgt := 1019) C dL_law_1004 (by decide) (fun c1004 => ?_) (fun c1004 => absurd c1004 ((by decide)))
  refine r_goto (tgt := 1300) C dL_law_1019 (by decide) ?_
  exact hEnd (by omega) (by omega)
theorem l_scored (C : Cx X G 7 code RL d mc ms) (hE : Ev X) (hSc : Scr X b 6 xs) (hd : 11 ≤ d) (hmc : 100 ≤ mc) (hms : 20000 ≤ ms) (hEnd : ∀ {k n : Nat} {L5 L6 : Option Value} {ws : va_W}, k ≤ 100 → n ≤ 20000 → V X k n 1300 (lL b (A 0) h o L5 L6) [] ws) : V X 50 17000 1071 (lL b (A 0) h o none none) [] ([(o, .inl (G.2.2 2, 1, .inr (.inl (fun _ => 0))))] ++ (bW G A bN0 zR zQ ++ mW G h ad mM0 zR)) := by
  refine r_aload_n C dL_law_1071 rfl rfl ?_
  refine r_aload_n C dL_law_1072 rfl rfl ?_
  refine r_iload C dL_law_1073 rfl ?_
  refine r_iconst (v := 1) C dL_law_1075 (by decide) ?_
  refine r_iadd C dL_law_1076 ?_
  refine r_sld (j := 1) C hSc (by decide) (by decide) (by decide) dL_law_1077 ?_
  refine r_aload_n C dL_law_1078 rfl rfl ?_
  refine r_iload C dL_law_1079 rfl ?_
  refine r_iconst (v := 2) C dL_law_1081 (by decide) ?_
  refine r_iadd C dL_law_1082 ?_
  refine r_sld (j := 2) C hSc (by decide) (by decide) (by decide) dL_law_1083 ?_
  refine r_aload_n C dL_law_1084 rfl rfl ?_
  refine r_callHi C hE (h_scored (G := G) (o := o) (f := fun _ => 0) (xs 1) (xs 2) (f_scored G A [] bN0 zR zQ freshB (xs 1) (xs 2)) rfl) kcL_L_scored dL_law_1085 rfl (by omega) (by omega) (by omega) (Nat.le_of_ble_eq_true rfl) [0, 1, 2, 3, 4, 5, 6, 7, 8, 9, 10, 11, 12, 13, 14] [15, 16, 17, 18, 19, 20, 21, 22, 23, 24, 25, 26, 27, 28, 29, 30, 31, 32, 33, 34, 35, 36, 37, 38, 39, 40, 41, 42] (by decide) rfl (wr := mW G h ad mM0 zR) rfl (by decide) (by decide) rfl (fun r u hu => ?_)
  rcases u with _ | ⟨u1, v⟩
  rotate_left
  · exact False.elim hu.1
  obtain ⟨-, rfl⟩ := hu
  refine V.sub (ws' := mW G h ad mM0 zR ++ [(o, .inl (G.2.2 2, 1, .inr (.inl (fun _ => 0))))]) [0, 1, 2, 3, 4, 5, 6, 7, 8, 9, 10, 11, 12, 13, 14, 15, 16, 17, 18, 19, 20, 21, 22, 23, 24, 25, 26, 27, 28] (by decide) rfl ?_
  refine r_istore C dL_law_1088 (by decide) ?_
  refine r_aload_n C dL_law_1090 rfl rfl ?_
  refine r_aload_n C dL_law_1091 rfl rfl ?_
  refine r_iload C dL_law_1092 rfl ?_
  refine r_iconst (v := 1) C dL_law_1094 (by decide) ?_
  refine r_iadd C dL_law_1095 ?_
  refine r_sld (j := 1) C hSc (by decide) (by decide) (by decide) dL_law_1096 ?_
  refine r_aload_n C dL_law_1097 rfl rfl ?_
  refine r_iload C dL_law_1098 rfl ?_
  refine r_iconst (v := 2) C dL_law_1100 (by decide) ?_
  refine r_iadd C dL_law_1101 ?_
  refine r_sld (j := 2) C hSc (by decide) (by decide) (by decide) dL_law_1102 ?_
  refine r_callVi C (c_scored G h ad mM0 zR (b := 0) (xs 1) (xs 2) rfl (by decide)) kcL_X7_scored dL_law_1103 rfl (by omega) (by omega) (by omega) (Nat.le_of_ble_eq_true rfl) 0 rfl (ci := 7) rfl rfl [0, 1, 2, 3, 4, 5, 6, 7, 8, 9, 10, 11, 12, 13, 14, 15, 16, 17, 18, 19, 20, 21, 22, 23, 24, 25, 26, 27] [28] (by decide) rfl (wr := [(o, .inl (G.2.2 2, 1, .inr (.inl (fun _ => 0))))]) rfl (by decide) (by decide) rfl (fun r2 u2 hu2 => ?_)
  have ht : u2.1 0 = 1 := by
    rcases hu2.2 with ⟨_, hi, _⟩ | w
    · exact absurd hi (by omega)
    · rw [w.2.2]; rfl
  refine r_istore C dL_law_1106 (by decide) ?_
  refine r_aload_n C dL_law_1108 rfl rfl ?_
  refine r_callVi C (c_thrown G h ad u2.1 u2.2) kcL_X7_thrown dL_law_1109 rfl (by omega) (by omega) (by omega) (Nat.le_of_ble_eq_true rfl) 0 rfl (ci := 7) rfl rfl [1, 2, 3, 4, 5, 6, 7, 8, 9, 10, 11, 12, 13, 14, 15, 16, 17, 18, 19, 20, 21, 22, 23, 24, 25, 26, 27, 28] [0] (by decide) rfl (wr := [(o, .inl (G.2.2 2, 1, .inr (.inl (fun _ => 0))))]) rfl (by decide) (by decide) rfl (fun r3 u3 hu3 => ?_)
  have hr3 : r3 = 1 := hu3.1.trans ht
  subst hr3
  refine r_iload C dL_law_1112 rfl ?_
  refine r_icmp_eq (tgt := 1119) C dL_law_1114 (by decide) (fun c1114 => ?_) (fun c1114 => absurd c1114 ((fun q => q rfl)))
  refine r_iload C dL_law_1119 rfl ?_
  refine r_if_ne (tgt := 1136) C dL_law_1121 (by decide) (fun c1121 => ?_) (fun c1121 => absurd c1121 ((by decide)))
  refine r_goto (tgt := 1300) C dL_law_1136 (by decide) ?_
  exact hEnd (by omega) (by omega)
theorem l_sewn (C : Cx X G 7 code RL d mc ms) (hE : Ev X) (hSc : Scr X b 6 xs) (hd : 11 ≤ d) (hmc : 100 ≤ mc) (hms : 20000 ≤ ms) (hEnd : ∀ {k n : Nat} {L5 L6 : Option Value} {ws : va_W}, k ≤ 100 → n ≤ 20000 → V X k n 1300 (lL b (A 0) h o L5 L6) [] ws) : V X 50 17000 1176 (lL b (A 0) h o none none) [] ([(o, .inl (G.2.2 2, 1, .inr (.inl (fun _ => 0))))] ++ (bW G A bN0 zR zQ ++ mW G h ad mM0 zR)) := by
  refine r_aload_n C dL_law_1176 rfl rfl ?_
  refine r_aload_n C dL_law_1177 rfl rfl ?_
  refine r_iload C dL_law_1178 rfl ?_
  refine r_iconst (v := 1) C dL_law_1180 (by decide) ?_
  refine r_iadd C dL_law_1181 ?_
  refine r_sld (j := 1) C hSc (by decide) (by decide) (by decide) dL_law_1182 ?_
  refine r_aload_n C dL_law_1183 rfl rfl ?_
  refine r_iload C dL_law_1184 rfl ?_
  refine r_iconst (v := 2) C dL_law_1186 (by decide) ?_
  refine r_iadd C dL_law_1187 ?_
  refine r_sld (j := 2) C hSc (by decide) (by decide) (by decide) dL_law_1188 ?_
  refine r_aload_n C dL_law_1189 rfl rfl ?_
  refine r_callHi C hE (h_sewn (G := G) (o := o) (f := fun _ => 0) (xs 1) (xs 2) (f_sewn G A [] bN0 zR zQ freshB (xs 1) (xs 2)) rfl) kcL_L_sewn dL_law_1190 rfl (by omega) (by omega) (by omega) (Nat.le_of_ble_eq_true rfl) [0, 1, 2, 3, 4, 5, 6, 7, 8, 9, 10, 11, 12, 13, 14] [15, 16, 17, 18, 19, 20, 21, 22, 23, 24, 25, 26, 27, 28, 29, 30, 31, 32, 33, 34, 35, 36, 37, 38, 39, 40, 41, 42] (by decide) rfl (wr := mW G h ad mM0 zR) rfl (by decide) (by decide) rfl (fun r u hu => ?_)
  rcases u with _ | ⟨u1, v⟩
  rotate_left
  · exact False.elim hu.1
  obtain ⟨-, rfl⟩ := hu
  refine V.sub (ws' := mW G h ad mM0 zR ++ [(o, .inl (G.2.2 2, 1, .inr (.inl (fun _ => 0))))]) [0, 1, 2, 3, 4, 5, 6, 7, 8, 9, 10, 11, 12, 13, 14, 15, 16, 17, 18, 19, 20, 21, 22, 23, 24, 25, 26, 27, 28] (by decide) rfl ?_
  refine r_istore C dL_law_1193 (by decide) ?_
  refine r_aload_n C dL_law_1195 rfl rfl ?_
  refine r_aload_n C dL_law_1196 rfl rfl ?_
  refine r_iload C dL_law_1197 rfl ?_
  refine r_iconst (v := 1) C dL_law_1199 (by decide) ?_
  refine r_iadd C dL_law_1200 ?_
  refine r_sld (j := 1) C hSc (by decide) (by decide) (by decide) dL_law_1201 ?_
  refine r_aload_n C dL_law_1202 rfl rfl ?_
  refine r_iload C dL_law_1203 rfl ?_
  refine r_iconst (v := 2) C dL_law_1205 (by decide) ?_
  refine r_iadd C dL_law_1206 ?_
  refine r_sld (j := 2) C hSc (by decide) (by decide) (by decide) dL_law_1207 ?_
  refine r_callVi C (c_sewn G h ad mM0 zR (b := 0) (xs 1) (xs 2) rfl (by decide)) kcL_X7_sewn dL_law_1208 rfl (by omega) (by omega) (by omega) (Nat.le_of_ble_eq_true rfl) 0 rfl (ci := 7) rfl rfl [0, 1, 2, 3, 4, 5, 6, 7, 8, 9, 10, 11, 12, 13, 14, 15, 16, 17, 18, 19, 20, 21, 22, 23, 24, 25, 26, 27] [28] (by decide) rfl (wr := [(o, .inl (G.2.2 2, 1, .inr (.inl (fun _ => 0))))]) rfl (by decide) (by decide) rfl (fun r2 u2 hu2 => ?_)
  have ht : u2.1 0 = 1 := by
    rcases hu2.2 with ⟨_, hi, _⟩ | w
    · exact absurd hi (by omega)
    · rw [w.2.2]; rfl
  refine r_istore C dL_law_1211 (by decide) ?_
  refine r_aload_n C dL_law_1213 rfl rfl ?_
  refine r_callVi C (c_thrown G h ad u2.1 u2.2) kcL_X7_thrown dL_law_1214 rfl (by omega) (by omega) (by omega) (Nat.le_of_ble_eq_true rfl) 0 rfl (ci := 7) rfl rfl [1, 2, 3, 4, 5, 6, 7, 8, 9, 10, 11, 12, 13, 14, 15, 16, 17, 18, 19, 20, 21, 22, 23, 24, 25, 26, 27, 28] [0] (by decide) rfl (wr := [(o, .inl (G.2.2 2, 1, .inr (.inl (fun _ => 0))))]) rfl (by decide) (by decide) rfl (fun r3 u3 hu3 => ?_)
  have hr3 : r3 = 1 := hu3.1.trans ht
  subst hr3
  refine r_iload C dL_law_1217 rfl ?_
  refine r_icmp_eq (tgt := 1224) C dL_law_1219 (by decide) (fun c1219 => ?_) (fun c1219 => absurd c1219 ((fun q => q rfl)))
  refine r_iload C dL_law_1224 rfl ?_
  refine r_if_ne (tgt := 1241) C dL_law_1226 (by decide) (fun c1226 => ?_) (fun c1226 => absurd c1226 ((by decide)))
  refine r_goto (tgt := 1300) C dL_law_1241 (by decide) ?_
  exact hEnd (by omega) (by omega)
theorem l_fault (C : Cx X G 7 code RL d mc ms) (hE : Ev X) (hSc : Scr X b 6 xs) (hd : 11 ≤ d) (hmc : 100 ≤ mc) (hms : 20000 ≤ ms) (hEnd : ∀ {k n : Nat} {L5 L6 : Option Value} {ws : va_W}, k ≤ 100 → n ≤ 20000 → V X k n 1300 (lL b (A 0) h o L5 L6) [] ws) : V X 50 17000 285 (lL b (A 0) h o none none) [] ([(o, .inl (G.2.2 2, 1, .inr (.inl (fun _ => 0))))] ++ (bW G A bN0 zR zQ ++ mW G h ad mM0 zR)) := by
  refine r_aload_n C dL_law_285 rfl rfl ?_
  refine r_aload_n C dL_law_286 rfl rfl ?_
  refine r_iload C dL_law_287 rfl ?_
  refine r_iconst (v := 1) C dL_law_289 (by decide) ?_
  refine r_iadd C dL_law_290 ?_
  refine r_sld (j := 1) C hSc (by decide) (by decide) (by decide) dL_law_291 ?_
  refine r_aload_n C dL_law_292 rfl rfl ?_
  refine r_callHi C hE (h_fault (G := G) (o := o) (f := fun _ => 0) (xs 1) (c_bfault G A [] bN0 zR zQ (xs 1)) rfl) kcL_L_fault dL_law_293 rfl (by omega) (by omega) (by omega) (Nat.le_of_ble_eq_true rfl) [0, 1, 2, 3, 4, 5, 6, 7, 8, 9, 10, 11, 12, 13, 14] [15, 16, 17, 18, 19, 20, 21, 22, 23, 24, 25, 26, 27, 28, 29, 30, 31, 32, 33, 34, 35, 36, 37, 38, 39, 40, 41, 42] (by decide) rfl (wr := mW G h ad mM0 zR) rfl (by decide) (by decide) rfl (fun r u hu => ?_)
  skip
  rcases u with _ | ⟨u1, v⟩
  · obtain ⟨hu1, rfl⟩ := hu
    have hu : _ ∧ True := ⟨hu1, trivial⟩
    refine V.sub (ws' := mW G h ad mM0 zR ++ [(o, .inl (G.2.2 2, 1, .inr (.inl (fun _ => 0))))]) [0, 1, 2, 3, 4, 5, 6, 7, 8, 9, 10, 11, 12, 13, 14, 15, 16, 17, 18, 19, 20, 21, 22, 23, 24, 25, 26, 27, 28] (by decide) rfl ?_
    refine r_istore C dL_law_296 (by decide) ?_
    refine r_aload_n C dL_law_298 rfl rfl ?_
    refine r_aload_n C dL_law_299 rfl rfl ?_
    refine r_iload C dL_law_300 rfl ?_
    refine r_iconst (v := 1) C dL_law_302 (by decide) ?_
    refine r_iadd C dL_law_303 ?_
    refine r_sld (j := 1) C hSc (by decide) (by decide) (by decide) dL_law_304 ?_
    refine r_callVi C (c_fault G h ad mM0 zR (xs 1)) kcL_X7_fault dL_law_305 rfl (by omega) (by omega) (by omega) (Nat.le_of_ble_eq_true rfl) 0 rfl (ci := 7) rfl rfl [0, 1, 2, 3, 4, 5, 6, 7, 8, 9, 10, 11, 12, 13, 14, 15, 16, 17, 18, 19, 20, 21, 22, 23, 24, 25, 26, 27] [28] (by decide) rfl (wr := [(o, .inl (G.2.2 2, 1, .inr (.inl (fun _ => 0))))]) rfl (by decide) (by decide) rfl (fun r2 u2 hu2 => ?_)
    have ht : u2.1 0 = 1 := by
      have w := hu2.2
      rw [if_neg hu.1.1, if_neg hu.1.2] at w
      rw [w.2]; rfl
    refine r_istore C dL_law_308 (by decide) ?_
    refine r_aload_n C dL_law_310 rfl rfl ?_
    refine r_callVi C (c_thrown G h ad u2.1 u2.2) kcL_X7_thrown dL_law_311 rfl (by omega) (by omega) (by omega) (Nat.le_of_ble_eq_true rfl) 0 rfl (ci := 7) rfl rfl [1, 2, 3, 4, 5, 6, 7, 8, 9, 10, 11, 12, 13, 14, 15, 16, 17, 18, 19, 20, 21, 22, 23, 24, 25, 26, 27, 28] [0] (by decide) rfl (wr := [(o, .inl (G.2.2 2, 1, .inr (.inl (fun _ => 0))))]) rfl (by decide) (by decide) rfl (fun r3 u3 hu3 => ?_)
    have hr3 : r3 = 1 := hu3.1.trans ht
    subst hr3
    refine r_iload C dL_law_314 rfl ?_
    refine r_icmp_eq (tgt := 321) C dL_law_316 (by decide) (fun c316 => ?_) (fun c316 => absurd c316 ((fun q => q rfl)))
    refine r_iload C dL_law_321 rfl ?_
    refine r_if_ne (tgt := 338) C dL_law_323 (by decide) (fun c323 => ?_) (fun c323 => absurd c323 ((by decide)))
    refine r_goto (tgt := 1300) C dL_law_338 (by decide) ?_
    exact hEnd (by omega) (by omega)
  · obtain ⟨hu1, rfl⟩ := hu
    have hu : _ ∧ True := ⟨hu1, trivial⟩
    refine V.sub (ws' := mW G h ad mM0 zR ++ [(o, .inl (G.2.2 2, 1, .inr (.inl (vp_updL (fun _ => 0) 0 v.toInt64))))]) [0, 1, 2, 3, 4, 5, 6, 7, 8, 9, 10, 11, 12, 13, 14, 15, 16, 17, 18, 19, 20, 21, 22, 23, 24, 25, 26, 27, 28] (by decide) rfl ?_
    refine r_istore C dL_law_296 (by decide) ?_
    refine r_aload_n C dL_law_298 rfl rfl ?_
    refine r_aload_n C dL_law_299 rfl rfl ?_
    refine r_iload C dL_law_300 rfl ?_
    refine r_iconst (v := 1) C dL_law_302 (by decide) ?_
    refine r_iadd C dL_law_303 ?_
    refine r_sld (j := 1) C hSc (by decide) (by decide) (by decide) dL_law_304 ?_
    refine r_callVi C (c_fault G h ad mM0 zR (xs 1)) kcL_X7_fault dL_law_305 rfl (by omega) (by omega) (by omega) (Nat.le_of_ble_eq_true rfl) 0 rfl (ci := 7) rfl rfl [0, 1, 2, 3, 4, 5, 6, 7, 8, 9, 10, 11, 12, 13, 14, 15, 16, 17, 18, 19, 20, 21, 22, 23, 24, 25, 26, 27] [28] (by decide) rfl (wr := [(o, .inl (G.2.2 2, 1, .inr (.inl (vp_updL (fun _ => 0) 0 v.toInt64))))]) rfl (by decide) (by decide) rfl (fun r2 u2 hu2 => ?_)
    have ht : u2.1 0 = 0 ∧ v = r2 := by
      have w := hu2.2
      rcases hu.1 with ⟨w1, w2⟩ | ⟨w1, w2⟩
      · rw [if_pos w1] at w; exact ⟨by rw [w.2]; rfl, w2.trans w.1.symm⟩
      · rw [if_neg (by rw [w1]; decide), if_pos w1] at w; exact ⟨by rw [w.2]; rfl, w2.trans w.1.symm⟩
    obtain ⟨ht, hv⟩ := ht
    subst hv
    refine r_istore C dL_law_308 (by decide) ?_
    refine r_aload_n C dL_law_310 rfl rfl ?_
    refine r_callVi C (c_thrown G h ad u2.1 u2.2) kcL_X7_thrown dL_law_311 rfl (by omega) (by omega) (by omega) (Nat.le_of_ble_eq_true rfl) 0 rfl (ci := 7) rfl rfl [1, 2, 3, 4, 5, 6, 7, 8, 9, 10, 11, 12, 13, 14, 15, 16, 17, 18, 19, 20, 21, 22, 23, 24, 25, 26, 27, 28] [0] (by decide) rfl (wr := [(o, .inl (G.2.2 2, 1, .inr (.inl (vp_updL (fun _ => 0) 0 v.toInt64))))]) rfl (by decide) (by decide) rfl (fun r3 u3 hu3 => ?_)
    have hr3 : r3 = 0 := hu3.1.trans ht
    subst hr3
    refine r_iload C dL_law_314 rfl ?_
    refine r_icmp_eq (tgt := 321) C dL_law_316 (by decide) (fun c316 => ?_) (fun c316 => absurd c316 ((fun q => q rfl)))
    refine r_iload C dL_law_321 rfl ?_
    refine r_if_ne (tgt := 338) C dL_law_323 (by decide) (fun c323 => absurd c323 ((fun q => q rfl))) (fun c323 => ?_)
    refine r_aload_n C dL_law_326 rfl rfl ?_
    refine r_iconst (v := 0) C dL_law_327 (by decide) ?_
    refine r_lald C 0 rfl (vp_in_nI (n := 0) (by decide) (by decide)) dL_law_328 ?_
    refine r_iload C dL_law_329 rfl ?_
    refine r_i2l C dL_law_331 ?_
    show V X _ _ 332 _ [.long v.toInt64, .long (vp_updL (fun _ => 0) 0 v.toInt64 0)] _
    rw [pk_uLs]
    refine r_lcmp C dL_law_332 ?_
    rw [lg_self]
    refine r_if_eq (tgt := 338) C dL_law_333 (by decide) (fun c333 => ?_) (fun c333 => absurd c333 ((fun q => q rfl)))
    refine r_goto (tgt := 1300) C dL_law_338 (by decide) ?_
    exact hEnd (by omega) (by omega)
theorem l_count (C : Cx X G 7 code RL d mc ms) (hE : Ev X) (hSc : Scr X b 6 xs) (hd : 11 ≤ d) (hmc : 100 ≤ mc) (hms : 20000 ≤ ms) (hEnd : ∀ {k n : Nat} {L5 L6 : Option Value} {ws : va_W}, k ≤ 100 → n ≤ 20000 → V X k n 1300 (lL b (A 0) h o L5 L6) [] ws) : V X 50 17000 1244 (lL b (A 0) h o none none) [] ([(o, .inl (G.2.2 2, 1, .inr (.inl (fun _ => 0))))] ++ (bW G A bN0 zR zQ ++ mW G h ad mM0 zR)) := by
  refine r_aload_n C dL_law_1244 rfl rfl ?_
  refine r_aload_n C dL_law_1245 rfl rfl ?_
  refine r_iload C dL_law_1246 rfl ?_
  refine r_iconst (v := 1) C dL_law_1248 (by decide) ?_
  refine r_iadd C dL_law_1249 ?_
  refine r_sld (j := 1) C hSc (by decide) (by decide) (by decide) dL_law_1250 ?_
  refine r_aload_n C dL_law_1251 rfl rfl ?_
  refine r_callHi C hE (h_count (G := G) (o := o) (f := fun _ => 0) (xs 1) (f_count G A [] bN0 zR zQ freshB (xs 1)) rfl) kcL_L_count dL_law_1252 rfl (by omega) (by omega) (by omega) (Nat.le_of_ble_eq_true rfl) [0, 1, 2, 3, 4, 5, 6, 7, 8, 9, 10, 11, 12, 13, 14] [15, 16, 17, 18, 19, 20, 21, 22, 23, 24, 25, 26, 27, 28, 29, 30, 31, 32, 33, 34, 35, 36, 37, 38, 39, 40, 41, 42] (by decide) rfl (wr := mW G h ad mM0 zR) rfl (by decide) (by decide) rfl (fun r u hu => ?_)
  skip
  rcases u with _ | ⟨u1, v⟩
  · obtain ⟨hu1, rfl⟩ := hu
    have hu : _ ∧ True := ⟨hu1, trivial⟩
    refine V.sub (ws' := mW G h ad mM0 zR ++ [(o, .inl (G.2.2 2, 1, .inr (.inl (fun _ => 0))))]) [0, 1, 2, 3, 4, 5, 6, 7, 8, 9, 10, 11, 12, 13, 14, 15, 16, 17, 18, 19, 20, 21, 22, 23, 24, 25, 26, 27, 28] (by decide) rfl ?_
    refine r_istore C dL_law_1255 (by decide) ?_
    refine r_aload_n C dL_law_1257 rfl rfl ?_
    refine r_aload_n C dL_law_1258 rfl rfl ?_
    refine r_iload C dL_law_1259 rfl ?_
    refine r_iconst (v := 1) C dL_law_1261 (by decide) ?_
    refine r_iadd C dL_law_1262 ?_
    refine r_sld (j := 1) C hSc (by decide) (by decide) (by decide) dL_law_1263 ?_
    refine r_callVi C (c_count G h ad mM0 zR (b := 0) (xs 1) rfl (by decide) zNum) kcL_X7_count dL_law_1264 rfl (by omega) (by omega) (by omega) (Nat.le_of_ble_eq_true rfl) 0 rfl (ci := 7) rfl rfl [0, 1, 2, 3, 4, 5, 6, 7, 8, 9, 10, 11, 12, 13, 14, 15, 16, 17, 18, 19, 20, 21, 22, 23, 24, 25, 26, 27] [28] (by decide) rfl (wr := [(o, .inl (G.2.2 2, 1, .inr (.inl (fun _ => 0))))]) rfl (by decide) (by decide) rfl (fun r2 u2 hu2 => ?_)
    have ht : u2.1 0 = 1 := by
      rcases hu2.2 with w | w | w | w | w | w
      · exact absurd w.1 (hu.1 0 (by decide))
      · exact absurd w.1 (hu.1 1 (by decide))
      · exact absurd w.1 (hu.1 2 (by decide))
      · exact absurd w.1 (hu.1 3 (by decide))
      · exact absurd w.1 (hu.1 4 (by decide))
      · rw [w.2.2]; rfl
    refine r_istore C dL_law_1267 (by decide) ?_
    refine r_aload_n C dL_law_1269 rfl rfl ?_
    refine r_callVi C (c_thrown G h ad u2.1 u2.2) kcL_X7_thrown dL_law_1270 rfl (by omega) (by omega) (by omega) (Nat.le_of_ble_eq_true rfl) 0 rfl (ci := 7) rfl rfl [1, 2, 3, 4, 5, 6, 7, 8, 9, 10, 11, 12, 13, 14, 15, 16, 17, 18, 19, 20, 21, 22, 23, 24, 25, 26, 27, 28] [0] (by decide) rfl (wr := [(o, .inl (G.2.2 2, 1, .inr (.inl (fun _ => 0))))]) rfl (by decide) (by decide) rfl (fun r3 u3 hu3 => ?_)
    have hr3 : r3 = 1 := hu3.1.trans ht
    subst hr3
    refine r_iload C dL_law_1273 rfl ?_
    refine r_icmp_eq (tgt := 1280) C dL_law_1275 (by decide) (fun c1275 => ?_) (fun c1275 => absurd c1275 ((fun q => q rfl)))
    refine r_iload C dL_law_1280 rfl ?_
    refine r_if_ne (tgt := 1297) C dL_law_1282 (by decide) (fun c1282 => ?_) (fun c1282 => absurd c1282 ((by decide)))
    refine r_goto (tgt := 1300) C dL_law_1297 (by decide) ?_
    exact hEnd (by omega) (by omega)
  · obtain ⟨hu1, rfl⟩ := hu
    have hu : _ ∧ True := ⟨hu1, trivial⟩
    refine V.sub (ws' := mW G h ad mM0 zR ++ [(o, .inl (G.2.2 2, 1, .inr (.inl (vp_updL (fun _ => 0) 0 v.toInt64))))]) [0, 1, 2, 3, 4, 5, 6, 7, 8, 9, 10, 11, 12, 13, 14, 15, 16, 17, 18, 19, 20, 21, 22, 23, 24, 25, 26, 27, 28] (by decide) rfl ?_
    refine r_istore C dL_law_1255 (by decide) ?_
    refine r_aload_n C dL_law_1257 rfl rfl ?_
    refine r_aload_n C dL_law_1258 rfl rfl ?_
    refine r_iload C dL_law_1259 rfl ?_
    refine r_iconst (v := 1) C dL_law_1261 (by decide) ?_
    refine r_iadd C dL_law_1262 ?_
    refine r_sld (j := 1) C hSc (by decide) (by decide) (by decide) dL_law_1263 ?_
    refine r_callVi C (c_count G h ad mM0 zR (b := 0) (xs 1) rfl (by decide) zNum) kcL_X7_count dL_law_1264 rfl (by omega) (by omega) (by omega) (Nat.le_of_ble_eq_true rfl) 0 rfl (ci := 7) rfl rfl [0, 1, 2, 3, 4, 5, 6, 7, 8, 9, 10, 11, 12, 13, 14, 15, 16, 17, 18, 19, 20, 21, 22, 23, 24, 25, 26, 27] [28] (by decide) rfl (wr := [(o, .inl (G.2.2 2, 1, .inr (.inl (vp_updL (fun _ => 0) 0 v.toInt64))))]) rfl (by decide) (by decide) rfl (fun r2 u2 hu2 => ?_)
    have ht : u2.1 0 = 0 ∧ v = r2 := by
      have key : ∀ c : Int32, xs 1 = c → ¬ (c < 0 ∨ 4 < c) → (u2.1 0 = 0 ∧ v = r2) → (u2.1 0 = 0 ∧ v = r2) := fun _ _ _ q => q
      rcases hu.1 with ⟨w1, w2⟩ | ⟨w1, w2⟩ | ⟨w1, w2⟩ | ⟨w1, w2⟩ | ⟨w1, w2⟩ <;> (rcases hu2.2 with w | w | w | w | w | w <;> first | (exfalso; have e := w1.symm.trans w.1; revert e; decide) | (exfalso; have e := w.1; rw [w1] at e; revert e; decide) | exact ⟨by rw [w.2.2]; rfl, w2.trans w.2.1.symm⟩)
    obtain ⟨ht, hv⟩ := ht
    subst hv
    refine r_istore C dL_law_1267 (by decide) ?_
    refine r_aload_n C dL_law_1269 rfl rfl ?_
    refine r_callVi C (c_thrown G h ad u2.1 u2.2) kcL_X7_thrown dL_law_1270 rfl (by omega) (by omega) (by omega) (Nat.le_of_ble_eq_true rfl) 0 rfl (ci := 7) rfl rfl [1, 2, 3, 4, 5, 6, 7, 8, 9, 10, 11, 12, 13, 14, 15, 16, 17, 18, 19, 20, 21, 22, 23, 24, 25, 26, 27, 28] [0] (by decide) rfl (wr := [(o, .inl (G.2.2 2, 1, .inr (.inl (vp_updL (fun _ => 0) 0 v.toInt64))))]) rfl (by decide) (by decide) rfl (fun r3 u3 hu3 => ?_)
    have hr3 : r3 = 0 := hu3.1.trans ht
    subst hr3
    refine r_iload C dL_law_1273 rfl ?_
    refine r_icmp_eq (tgt := 1280) C dL_law_1275 (by decide) (fun c1275 => ?_) (fun c1275 => absurd c1275 ((fun q => q rfl)))
    refine r_iload C dL_law_1280 rfl ?_
    refine r_if_ne (tgt := 1297) C dL_law_1282 (by decide) (fun c1282 => absurd c1282 ((fun q => q rfl))) (fun c1282 => ?_)
    refine r_aload_n C dL_law_1285 rfl rfl ?_
    refine r_iconst (v := 0) C dL_law_1286 (by decide) ?_
    refine r_lald C 0 rfl (vp_in_nI (n := 0) (by decide) (by decide)) dL_law_1287 ?_
    refine r_iload C dL_law_1288 rfl ?_
    refine r_i2l C dL_law_1290 ?_
    show V X _ _ 1291 _ [.long v.toInt64, .long (vp_updL (fun _ => 0) 0 v.toInt64 0)] _
    rw [pk_uLs]
    refine r_lcmp C dL_law_1291 ?_
    rw [lg_self]
    refine r_if_eq (tgt := 1297) C dL_law_1292 (by decide) (fun c1292 => ?_) (fun c1292 => absurd c1292 ((fun q => q rfl)))
    refine r_goto (tgt := 1300) C dL_law_1297 (by decide) ?_
    exact hEnd (by omega) (by omega)
theorem l_pattern (C : Cx X G 7 code RL d mc ms) (hE : Ev X) (hSc : Scr X b 6 xs) (hd : 11 ≤ d) (hmc : 100 ≤ mc) (hms : 20000 ≤ ms) (hEnd : ∀ {k n : Nat} {L5 L6 : Option Value} {ws : va_W}, k ≤ 100 → n ≤ 20000 → V X k n 1300 (lL b (A 0) h o L5 L6) [] ws) : V X 50 17000 205 (lL b (A 0) h o none none) [] ([(o, .inl (G.2.2 2, 1, .inr (.inl (fun _ => 0))))] ++ (bW G A bN0 zR zQ ++ mW G h ad mM0 zR)) := by
  refine r_aload_n C dL_law_205 rfl rfl ?_
  refine r_aload_n C dL_law_206 rfl rfl ?_
  refine r_iload C dL_law_207 rfl ?_
  refine r_iconst (v := 1) C dL_law_209 (by decide) ?_
  refine r_iadd C dL_law_210 ?_
  refine r_sld (j := 1) C hSc (by decide) (by decide) (by decide) dL_law_211 ?_
  refine r_aload_n C dL_law_212 rfl rfl ?_
  refine r_iload C dL_law_213 rfl ?_
  refine r_iconst (v := 2) C dL_law_215 (by decide) ?_
  refine r_iadd C dL_law_216 ?_
  refine r_sld (j := 2) C hSc (by decide) (by decide) (by decide) dL_law_217 ?_
  refine r_aload_n C dL_law_218 rfl rfl ?_
  refine r_iload C dL_law_219 rfl ?_
  refine r_iconst (v := 3) C dL_law_221 (by decide) ?_
  refine r_iadd C dL_law_222 ?_
  refine r_sld (j := 3) C hSc (by decide) (by decide) (by decide) dL_law_223 ?_
  refine r_aload_n C dL_law_224 rfl rfl ?_
  refine r_callHi C hE (h_pattern (G := G) (o := o) (f := fun _ => 0) (xs 1) (xs 2) (xs 3) (f_pattern G A bN0 zR zQ freshB rfl (xs 1) (xs 2) (xs 3)) rfl) kcL_L_pattern dL_law_225 rfl (by omega) (by omega) (by omega) (Nat.le_of_ble_eq_true rfl) [0, 1, 2, 3, 4, 5, 6, 7, 8, 9, 10, 11, 12, 13, 14] [15, 16, 17, 18, 19, 20, 21, 22, 23, 24, 25, 26, 27, 28, 29, 30, 31, 32, 33, 34, 35, 36, 37, 38, 39, 40, 41, 42] (by decide) rfl (wr := mW G h ad mM0 zR) rfl (by decide) (by decide) rfl (fun r u hu => ?_)
  skip
  rcases u with _ | ⟨u1, v⟩
  · obtain ⟨hu1, rfl⟩ := hu
    have hu : _ ∧ True := ⟨hu1, trivial⟩
    refine V.sub (ws' := mW G h ad mM0 zR ++ [(o, .inl (G.2.2 2, 1, .inr (.inl (fun _ => 0))))]) [0, 1, 2, 3, 4, 5, 6, 7, 8, 9, 10, 11, 12, 13, 14, 15, 16, 17, 18, 19, 20, 21, 22, 23, 24, 25, 26, 27, 28] (by decide) rfl ?_
    refine r_istore C dL_law_228 (by decide) ?_
    refine r_aload_n C dL_law_230 rfl rfl ?_
    refine r_aload_n C dL_law_231 rfl rfl ?_
    refine r_iload C dL_law_232 rfl ?_
    refine r_iconst (v := 1) C dL_law_234 (by decide) ?_
    refine r_iadd C dL_law_235 ?_
    refine r_sld (j := 1) C hSc (by decide) (by decide) (by decide) dL_law_236 ?_
    refine r_aload_n C dL_law_237 rfl rfl ?_
    refine r_iload C dL_law_238 rfl ?_
    refine r_iconst (v := 2) C dL_law_240 (by decide) ?_
    refine r_iadd C dL_law_241 ?_
    refine r_sld (j := 2) C hSc (by decide) (by decide) (by decide) dL_law_242 ?_
    refine r_aload_n C dL_law_243 rfl rfl ?_
    refine r_iload C dL_law_244 rfl ?_
    refine r_iconst (v := 3) C dL_law_246 (by decide) ?_
    refine r_iadd C dL_law_247 ?_
    refine r_sld (j := 3) C hSc (by decide) (by decide) (by decide) dL_law_248 ?_
    refine r_callVi C (c_patt G h ad mM0 zR (tp := 0) zPats rfl (by decide) (xs 1) (xs 2) (xs 3)) kcL_X7_pattern_ dL_law_249 rfl (by omega) (by omega) (by omega) (Nat.le_of_ble_eq_true rfl) 0 rfl (ci := 7) rfl rfl [0, 1, 2, 3, 4, 5, 6, 7, 8, 9, 10, 11, 12, 13, 14, 15, 16, 17, 18, 19, 20, 21, 22, 23, 24, 25, 26, 27] [28] (by decide) rfl (wr := [(o, .inl (G.2.2 2, 1, .inr (.inl (fun _ => 0))))]) rfl (by decide) (by decide) rfl (fun r2 u2 hu2 => ?_)
    have ht : u2.1 0 = 1 := by
      rcases hu2 with w | ⟨j, n, e, w, _⟩
      · rw [w.2.2.1]; rfl
      · exact absurd ⟨j, n, e, w⟩ hu.1
    refine r_istore C dL_law_252 (by decide) ?_
    refine r_aload_n C dL_law_254 rfl rfl ?_
    refine r_callVi C (c_thrown G h ad u2.1 u2.2) kcL_X7_thrown dL_law_255 rfl (by omega) (by omega) (by omega) (Nat.le_of_ble_eq_true rfl) 0 rfl (ci := 7) rfl rfl [1, 2, 3, 4, 5, 6, 7, 8, 9, 10, 11, 12, 13, 14, 15, 16, 17, 18, 19, 20, 21, 22, 23, 24, 25, 26, 27, 28] [0] (by decide) rfl (wr := [(o, .inl (G.2.2 2, 1, .inr (.inl (fun _ => 0))))]) rfl (by decide) (by decide) rfl (fun r3 u3 hu3 => ?_)
    have hr3 : r3 = 1 := hu3.1.trans ht
    subst hr3
    refine r_iload C dL_law_258 rfl ?_
    refine r_icmp_eq (tgt := 265) C dL_law_260 (by decide) (fun c260 => ?_) (fun c260 => absurd c260 ((fun q => q rfl)))
    refine r_iload C dL_law_265 rfl ?_
    refine r_if_ne (tgt := 282) C dL_law_267 (by decide) (fun c267 => ?_) (fun c267 => absurd c267 ((by decide)))
    refine r_goto (tgt := 1300) C dL_law_282 (by decide) ?_
    exact hEnd (by omega) (by omega)
  · obtain ⟨hu1, rfl⟩ := hu
    have hu : _ ∧ True := ⟨hu1, trivial⟩
    refine V.sub (ws' := mW G h ad mM0 zR ++ [(o, .inl (G.2.2 2, 1, .inr (.inl (vp_updL (fun _ => 0) 0 v.toInt64))))]) [0, 1, 2, 3, 4, 5, 6, 7, 8, 9, 10, 11, 12, 13, 14, 15, 16, 17, 18, 19, 20, 21, 22, 23, 24, 25, 26, 27, 28] (by decide) rfl ?_
    refine r_istore C dL_law_228 (by decide) ?_
    refine r_aload_n C dL_law_230 rfl rfl ?_
    refine r_aload_n C dL_law_231 rfl rfl ?_
    refine r_iload C dL_law_232 rfl ?_
    refine r_iconst (v := 1) C dL_law_234 (by decide) ?_
    refine r_iadd C dL_law_235 ?_
    refine r_sld (j := 1) C hSc (by decide) (by decide) (by decide) dL_law_236 ?_
    refine r_aload_n C dL_law_237 rfl rfl ?_
    refine r_iload C dL_law_238 rfl ?_
    refine r_iconst (v := 2) C dL_law_240 (by decide) ?_
    refine r_iadd C dL_law_241 ?_
    refine r_sld (j := 2) C hSc (by decide) (by decide) (by decide) dL_law_242 ?_
    refine r_aload_n C dL_law_243 rfl rfl ?_
    refine r_iload C dL_law_244 rfl ?_
    refine r_iconst (v := 3) C dL_law_246 (by decide) ?_
    refine r_iadd C dL_law_247 ?_
    refine r_sld (j := 3) C hSc (by decide) (by decide) (by decide) dL_law_248 ?_
    refine r_callVi C (c_patt G h ad mM0 zR (tp := 0) zPats rfl (by decide) (xs 1) (xs 2) (xs 3)) kcL_X7_pattern_ dL_law_249 rfl (by omega) (by omega) (by omega) (Nat.le_of_ble_eq_true rfl) 0 rfl (ci := 7) rfl rfl [0, 1, 2, 3, 4, 5, 6, 7, 8, 9, 10, 11, 12, 13, 14, 15, 16, 17, 18, 19, 20, 21, 22, 23, 24, 25, 26, 27] [28] (by decide) rfl (wr := [(o, .inl (G.2.2 2, 1, .inr (.inl (vp_updL (fun _ => 0) 0 v.toInt64))))]) rfl (by decide) (by decide) rfl (fun r2 u2 hu2 => ?_)
    have ht : u2.1 0 = 0 ∧ v = r2 := by
      rcases hu2 with w | ⟨j, n, e, w, w0, w2, w19, wm⟩
      · exact absurd hu.1.1 w.1
      · have he : e = 0 := by have := w.2.2.2.2.2.2; omega
        subst he
        exact ⟨w0, hu.1.2.trans wm.1.symm⟩
    obtain ⟨ht, hv⟩ := ht
    subst hv
    refine r_istore C dL_law_252 (by decide) ?_
    refine r_aload_n C dL_law_254 rfl rfl ?_
    refine r_callVi C (c_thrown G h ad u2.1 u2.2) kcL_X7_thrown dL_law_255 rfl (by omega) (by omega) (by omega) (Nat.le_of_ble_eq_true rfl) 0 rfl (ci := 7) rfl rfl [1, 2, 3, 4, 5, 6, 7, 8, 9, 10, 11, 12, 13, 14, 15, 16, 17, 18, 19, 20, 21, 22, 23, 24, 25, 26, 27, 28] [0] (by decide) rfl (wr := [(o, .inl (G.2.2 2, 1, .inr (.inl (vp_updL (fun _ => 0) 0 v.toInt64))))]) rfl (by decide) (by decide) rfl (fun r3 u3 hu3 => ?_)
    have hr3 : r3 = 0 := hu3.1.trans ht
    subst hr3
    refine r_iload C dL_law_258 rfl ?_
    refine r_icmp_eq (tgt := 265) C dL_law_260 (by decide) (fun c260 => ?_) (fun c260 => absurd c260 ((fun q => q rfl)))
    refine r_iload C dL_law_265 rfl ?_
    refine r_if_ne (tgt := 282) C dL_law_267 (by decide) (fun c267 => absurd c267 ((fun q => q rfl))) (fun c267 => ?_)
    refine r_aload_n C dL_law_270 rfl rfl ?_
    refine r_iconst (v := 0) C dL_law_271 (by decide) ?_
    refine r_lald C 0 rfl (vp_in_nI (n := 0) (by decide) (by decide)) dL_law_272 ?_
    refine r_iload C dL_law_273 rfl ?_
    refine r_i2l C dL_law_275 ?_
    show V X _ _ 276 _ [.long v.toInt64, .long (vp_updL (fun _ => 0) 0 v.toInt64 0)] _
    rw [pk_uLs]
    refine r_lcmp C dL_law_276 ?_
    rw [lg_self]
    refine r_if_eq (tgt := 282) C dL_law_277 (by decide) (fun c277 => ?_) (fun c277 => absurd c277 ((fun q => q rfl)))
    refine r_goto (tgt := 1300) C dL_law_282 (by decide) ?_
    exact hEnd (by omega) (by omega)
theorem l_feed (C : Cx X G 7 code RL d mc ms) (hE : Ev X) (hSc : Scr X b 6 xs) (hd : 11 ≤ d) (hmc : 100 ≤ mc) (hms : 20000 ≤ ms) (hEnd : ∀ {k n : Nat} {L5 L6 : Option Value} {ws : va_W}, k ≤ 100 → n ≤ 20000 → V X k n 1300 (lL b (A 0) h o L5 L6) [] ws) : V X 50 17000 132 (lL b (A 0) h o none none) [] ([(o, .inl (G.2.2 2, 1, .inr (.inl (fun _ => 0))))] ++ (bW G A bN0 zR zQ ++ mW G h ad mM0 zR)) := by
  refine r_aload_n C dL_law_132 rfl rfl ?_
  refine r_aload_n C dL_law_133 rfl rfl ?_
  refine r_iload C dL_law_134 rfl ?_
  refine r_iconst (v := 1) C dL_law_136 (by decide) ?_
  refine r_iadd C dL_law_137 ?_
  refine r_sld (j := 1) C hSc (by decide) (by decide) (by decide) dL_law_138 ?_
  refine r_aload_n C dL_law_139 rfl rfl ?_
  refine r_iload C dL_law_140 rfl ?_
  refine r_iconst (v := 2) C dL_law_142 (by decide) ?_
  refine r_iadd C dL_law_143 ?_
  refine r_sld (j := 2) C hSc (by decide) (by decide) (by decide) dL_law_144 ?_
  refine r_aload_n C dL_law_145 rfl rfl ?_
  refine r_iload C dL_law_146 rfl ?_
  refine r_iconst (v := 3) C dL_law_148 (by decide) ?_
  refine r_iadd C dL_law_149 ?_
  refine r_sld (j := 3) C hSc (by decide) (by decide) (by decide) dL_law_150 ?_
  refine r_aload_n C dL_law_151 rfl rfl ?_
  refine r_iload C dL_law_152 rfl ?_
  refine r_iconst (v := 4) C dL_law_154 (by decide) ?_
  refine r_iadd C dL_law_155 ?_
  refine r_sld (j := 4) C hSc (by decide) (by decide) (by decide) dL_law_156 ?_
  refine r_aload_n C dL_law_157 rfl rfl ?_
  refine r_iload C dL_law_158 rfl ?_
  refine r_iconst (v := 5) C dL_law_160 (by decide) ?_
  refine r_iadd C dL_law_161 ?_
  refine r_sld (j := 5) C hSc (by decide) (by decide) (by decide) dL_law_162 ?_
  refine r_callVi C (c_bfeed G A [] bN0 zR zQ (t := 0) (xs 1) (xs 2) (xs 3) (xs 4) (xs 5) rfl (by decide)) kcL_X6_feed dL_law_163 rfl (by omega) (by omega) (by omega) (Nat.le_of_ble_eq_true rfl) 0 rfl (ci := 6) rfl rfl [1, 2, 3, 4, 5, 6, 7, 8, 9, 10, 11, 12, 13, 14] [0, 15, 16, 17, 18, 19, 20, 21, 22, 23, 24, 25, 26, 27, 28, 29, 30, 31, 32, 33, 34, 35, 36, 37, 38, 39, 40, 41, 42] (by decide) rfl (wr := [(o, .inl (G.2.2 2, 1, .inr (.inl (fun _ => 0))))] ++ mW G h ad mM0 zR) rfl (by decide) (by decide) rfl (fun r u hu => ?_)
  have h1 : r = nI 20 := by
    have w := hu
    dsimp only at w
    rw [if_pos (show 0 ≤ 780 by decide)] at w
    exact w.1
  refine V.sub (ws' := mW G h ad mM0 zR ++ [(o, .inl (G.2.2 2, 1, .inr (.inl (fun _ => 0))))]) [1, 2, 3, 4, 5, 6, 7, 8, 9, 10, 11, 12, 13, 14, 15, 16, 17, 18, 19, 20, 21, 22, 23, 24, 25, 26, 27, 28, 0] (by decide) rfl ?_
  refine r_aload_n C dL_law_166 rfl rfl ?_
  refine r_aload_n C dL_law_167 rfl rfl ?_
  refine r_iload C dL_law_168 rfl ?_
  refine r_iconst (v := 1) C dL_law_170 (by decide) ?_
  refine r_iadd C dL_law_171 ?_
  refine r_sld (j := 1) C hSc (by decide) (by decide) (by decide) dL_law_172 ?_
  refine r_aload_n C dL_law_173 rfl rfl ?_
  refine r_iload C dL_law_174 rfl ?_
  refine r_iconst (v := 2) C dL_law_176 (by decide) ?_
  refine r_iadd C dL_law_177 ?_
  refine r_sld (j := 2) C hSc (by decide) (by decide) (by decide) dL_law_178 ?_
  refine r_aload_n C dL_law_179 rfl rfl ?_
  refine r_iload C dL_law_180 rfl ?_
  refine r_iconst (v := 3) C dL_law_182 (by decide) ?_
  refine r_iadd C dL_law_183 ?_
  refine r_sld (j := 3) C hSc (by decide) (by decide) (by decide) dL_law_184 ?_
  refine r_aload_n C dL_law_185 rfl rfl ?_
  refine r_iload C dL_law_186 rfl ?_
  refine r_iconst (v := 4) C dL_law_188 (by decide) ?_
  refine r_iadd C dL_law_189 ?_
  refine r_sld (j := 4) C hSc (by decide) (by decide) (by decide) dL_law_190 ?_
  refine r_aload_n C dL_law_191 rfl rfl ?_
  refine r_iload C dL_law_192 rfl ?_
  refine r_iconst (v := 5) C dL_law_194 (by decide) ?_
  refine r_iadd C dL_law_195 ?_
  refine r_sld (j := 5) C hSc (by decide) (by decide) (by decide) dL_law_196 ?_
  refine r_callVi C (c_feed G h ad mM0 zR (t := 0) (xs 1) (xs 2) (xs 3) (xs 4) (xs 5) rfl (by decide)) kcL_X7_feed dL_law_197 rfl (by omega) (by omega) (by omega) (Nat.le_of_ble_eq_true rfl) 0 rfl (ci := 7) rfl rfl [0, 1, 2, 3, 4, 5, 6, 7, 8, 9, 10, 11, 12, 13, 14, 15, 16, 17, 18, 19, 20, 21, 22, 23, 24, 25, 26, 27] [28] (by decide) rfl (wr := [(o, .inl (G.2.2 2, 1, .inr (.inl (fun _ => 0))))]) rfl (by decide) (by decide) rfl (fun r2 u2 hu2 => ?_)
  have h2 : r2 = nI 20 := by
    have w := hu2
    dsimp only at w
    rw [if_pos (show 0 ≤ 780 by decide)] at w
    exact w.1
  refine r_icmp_eq (tgt := 1300) C dL_law_200 (by decide) (fun c200 => ?_) (fun c200 => absurd c200 ((fun q => q (h1.trans h2.symm))))
  exact hEnd (by omega) (by omega)
theorem l_size (C : Cx X G 7 code RL d mc ms) (hE : Ev X) (hSc : Scr X b 6 xs) (hd : 11 ≤ d) (hmc : 100 ≤ mc) (hms : 20000 ≤ ms) (hEnd : ∀ {k n : Nat} {L5 L6 : Option Value} {ws : va_W}, k ≤ 100 → n ≤ 20000 → V X k n 1300 (lL b (A 0) h o L5 L6) [] ws) : V X 50 17000 341 (lL b (A 0) h o none none) [] ([(o, .inl (G.2.2 2, 1, .inr (.inl (fun _ => 0))))] ++ (bW G A bN0 zR zQ ++ mW G h ad mM0 zR)) := by
  refine r_aload_n C dL_law_341 rfl rfl ?_
  refine r_aload_n C dL_law_342 rfl rfl ?_
  refine r_iload C dL_law_343 rfl ?_
  refine r_iconst (v := 1) C dL_law_345 (by decide) ?_
  refine r_iadd C dL_law_346 ?_
  refine r_sld (j := 1) C hSc (by decide) (by decide) (by decide) dL_law_347 ?_
  refine r_callXi C hE (f_size G A [] bN0 zR zQ freshB (xs 1)) kcL_X6_size dL_law_348 rfl (by omega) (by omega) (by omega) (Nat.le_of_ble_eq_true rfl) 0 rfl (ci := 6) rfl rfl [1, 2, 3, 4, 5, 6, 7, 8, 9, 10, 11, 12, 13, 14] [0, 15, 16, 17, 18, 19, 20, 21, 22, 23, 24, 25, 26, 27, 28, 29, 30, 31, 32, 33, 34, 35, 36, 37, 38, 39, 40, 41, 42] (by decide) rfl (wr := [(o, .inl (G.2.2 2, 1, .inr (.inl (fun _ => 0))))] ++ mW G h ad mM0 zR) rfl (by decide) (by decide) rfl (fun q => q.elim) (fun r u hu => ?_)
  have h1 : r = -1 := hu
  refine V.sub (ws' := mW G h ad mM0 zR ++ [(o, .inl (G.2.2 2, 1, .inr (.inl (fun _ => 0))))]) [1, 2, 3, 4, 5, 6, 7, 8, 9, 10, 11, 12, 13, 14, 15, 16, 17, 18, 19, 20, 21, 22, 23, 24, 25, 26, 27, 28, 0] (by decide) rfl ?_
  refine r_aload_n C dL_law_351 rfl rfl ?_
  refine r_aload_n C dL_law_352 rfl rfl ?_
  refine r_iload C dL_law_353 rfl ?_
  refine r_iconst (v := 1) C dL_law_355 (by decide) ?_
  refine r_iadd C dL_law_356 ?_
  refine r_sld (j := 1) C hSc (by decide) (by decide) (by decide) dL_law_357 ?_
  have hsz : ¬ xs 1 < 0 → ¬ 7 < xs 1 → xs 1 = nI (cl (xs 1)) ∧ cl (xs 1) < 8 := fun a1 a2 => by
    obtain ⟨q, hq, e⟩ := nI_of a1
    rw [e]
    rw [e, show (7 : Int32) = nI 7 from rfl, nI_ltI (by decide) (by omega)] at a2
    rw [cl_nI (by omega)]
    exact ⟨rfl, by omega⟩
  refine r_callVi C (c_size G h ad mM0 zR (xs 1) (cl (xs 1)) hsz) kcL_X7_size dL_law_358 rfl (by omega) (by omega) (by omega) (Nat.le_of_ble_eq_true rfl) 0 rfl (ci := 7) rfl rfl [0, 1, 2, 3, 4, 5, 6, 7, 8, 9, 10, 11, 12, 13, 14, 15, 16, 17, 18, 19, 20, 21, 22, 23, 24, 25, 26, 27] [28] (by decide) rfl (wr := [(o, .inl (G.2.2 2, 1, .inr (.inl (fun _ => 0))))]) rfl (by decide) (by decide) rfl (fun r2 u2 hu2 => ?_)
  have h2 : r2 = -1 := by
    rw [hu2.2.2, if_neg (fun q => absurd q.2.2 (show ¬ (0 : Int32) < 0 by decide))]
  refine r_icmp_eq (tgt := 1300) C dL_law_361 (by decide) (fun c361 => ?_) (fun c361 => absurd c361 ((fun q => q (h1.trans h2.symm))))
  exact hEnd (by omega) (by omega)
theorem l_bundle (C : Cx X G 7 code RL d mc ms) (hE : Ev X) (hSc : Scr X b 6 xs) (hd : 11 ≤ d) (hmc : 100 ≤ mc) (hms : 20000 ≤ ms) (hEnd : ∀ {k n : Nat} {L5 L6 : Option Value} {ws : va_W}, k ≤ 100 → n ≤ 20000 → V X k n 1300 (lL b (A 0) h o L5 L6) [] ws) : V X 50 17000 917 (lL b (A 0) h o none none) [] ([(o, .inl (G.2.2 2, 1, .inr (.inl (fun _ => 0))))] ++ (bW G A bN0 zR zQ ++ mW G h ad mM0 zR)) := by
  refine r_aload_n C dL_law_917 rfl rfl ?_
  refine r_aload_n C dL_law_918 rfl rfl ?_
  refine r_iload C dL_law_919 rfl ?_
  refine r_iconst (v := 1) C dL_law_921 (by decide) ?_
  refine r_iadd C dL_law_922 ?_
  refine r_sld (j := 1) C hSc (by decide) (by decide) (by decide) dL_law_923 ?_
  refine r_aload_n C dL_law_924 rfl rfl ?_
  refine r_iload C dL_law_925 rfl ?_
  refine r_iconst (v := 2) C dL_law_927 (by decide) ?_
  refine r_iadd C dL_law_928 ?_
  refine r_sld (j := 2) C hSc (by decide) (by decide) (by decide) dL_law_929 ?_
  refine r_aload_n C dL_law_930 rfl rfl ?_
  refine r_iload C dL_law_931 rfl ?_
  refine r_iconst (v := 3) C dL_law_933 (by decide) ?_
  refine r_iadd C dL_law_934 ?_
  refine r_sld (j := 3) C hSc (by decide) (by decide) (by decide) dL_law_935 ?_
  refine r_callVi C (c_bbundle G A [] bN0 zR zQ (nb := 0) (xs 1) (xs 2) (xs 3) rfl (by decide)) kcL_X6_bundle dL_law_936 rfl (by omega) (by omega) (by omega) (Nat.le_of_ble_eq_true rfl) 0 rfl (ci := 6) rfl rfl [1, 2, 3, 4, 5, 6, 7, 8, 9, 10, 11, 12, 13, 14] [0, 15, 16, 17, 18, 19, 20, 21, 22, 23, 24, 25, 26, 27, 28, 29, 30, 31, 32, 33, 34, 35, 36, 37, 38, 39, 40, 41, 42] (by decide) rfl (wr := [(o, .inl (G.2.2 2, 1, .inr (.inl (fun _ => 0))))] ++ mW G h ad mM0 zR) rfl (by decide) (by decide) rfl (fun r u hu => ?_)
  have h1 := hu
  refine V.sub (ws' := mW G h ad mM0 zR ++ [(o, .inl (G.2.2 2, 1, .inr (.inl (fun _ => 0))))]) [1, 2, 3, 4, 5, 6, 7, 8, 9, 10, 11, 12, 13, 14, 15, 16, 17, 18, 19, 20, 21, 22, 23, 24, 25, 26, 27, 28, 0] (by decide) rfl ?_
  refine r_aload_n C dL_law_939 rfl rfl ?_
  refine r_aload_n C dL_law_940 rfl rfl ?_
  refine r_iload C dL_law_941 rfl ?_
  refine r_iconst (v := 1) C dL_law_943 (by decide) ?_
  refine r_iadd C dL_law_944 ?_
  refine r_sld (j := 1) C hSc (by decide) (by decide) (by decide) dL_law_945 ?_
  refine r_aload_n C dL_law_946 rfl rfl ?_
  refine r_iload C dL_law_947 rfl ?_
  refine r_iconst (v := 2) C dL_law_949 (by decide) ?_
  refine r_iadd C dL_law_950 ?_
  refine r_sld (j := 2) C hSc (by decide) (by decide) (by decide) dL_law_951 ?_
  refine r_aload_n C dL_law_952 rfl rfl ?_
  refine r_iload C dL_law_953 rfl ?_
  refine r_iconst (v := 3) C dL_law_955 (by decide) ?_
  refine r_iadd C dL_law_956 ?_
  refine r_sld (j := 3) C hSc (by decide) (by decide) (by decide) dL_law_957 ?_
  refine r_callVi C (c_bundle G h ad mM0 zR (b := 0) (xs 1) (xs 2) (xs 3) rfl (by decide)) kcL_X7_bundle dL_law_958 rfl (by omega) (by omega) (by omega) (Nat.le_of_ble_eq_true rfl) 0 rfl (ci := 7) rfl rfl [0, 1, 2, 3, 4, 5, 6, 7, 8, 9, 10, 11, 12, 13, 14, 15, 16, 17, 18, 19, 20, 21, 22, 23, 24, 25, 26, 27] [28] (by decide) rfl (wr := [(o, .inl (G.2.2 2, 1, .inr (.inl (fun _ => 0))))]) rfl (by decide) (by decide) rfl (fun r2 u2 hu2 => ?_)
  have h2 : r = r2 := by
    rcases hu with w | w <;> rcases hu2 with w2 | w2
    · exact w.2.1.trans w2.2.1.symm
    · exact absurd w.1 w2.1
    · exact absurd w2.1 w.1
    · exact w.2.1.trans w2.2.1.symm
  refine r_icmp_eq (tgt := 1300) C dL_law_961 (by decide) (fun c961 => ?_) (fun c961 => absurd c961 ((fun q => q (h2))))
  exact hEnd (by omega) (by omega)
theorem l_score (C : Cx X G 7 code RL d mc ms) (hE : Ev X) (hSc : Scr X b 6 xs) (hd : 11 ≤ d) (hmc : 100 ≤ mc) (hms : 20000 ≤ ms) (hEnd : ∀ {k n : Nat} {L5 L6 : Option Value} {ws : va_W}, k ≤ 100 → n ≤ 20000 → V X k n 1300 (lL b (A 0) h o L5 L6) [] ws) : V X 50 17000 1022 (lL b (A 0) h o none none) [] ([(o, .inl (G.2.2 2, 1, .inr (.inl (fun _ => 0))))] ++ (bW G A bN0 zR zQ ++ mW G h ad mM0 zR)) := by
  refine r_aload_n C dL_law_1022 rfl rfl ?_
  refine r_aload_n C dL_law_1023 rfl rfl ?_
  refine r_iload C dL_law_1024 rfl ?_
  refine r_iconst (v := 1) C dL_law_1026 (by decide) ?_
  refine r_iadd C dL_law_1027 ?_
  refine r_sld (j := 1) C hSc (by decide) (by decide) (by decide) dL_law_1028 ?_
  refine r_aload_n C dL_law_1029 rfl rfl ?_
  refine r_iload C dL_law_1030 rfl ?_
  refine r_iconst (v := 2) C dL_law_1032 (by decide) ?_
  refine r_iadd C dL_law_1033 ?_
  refine r_sld (j := 2) C hSc (by decide) (by decide) (by decide) dL_law_1034 ?_
  refine r_aload_n C dL_law_1035 rfl rfl ?_
  refine r_iload C dL_law_1036 rfl ?_
  refine r_iconst (v := 3) C dL_law_1038 (by decide) ?_
  refine r_iadd C dL_law_1039 ?_
  refine r_sld (j := 3) C hSc (by decide) (by decide) (by decide) dL_law_1040 ?_
  refine r_callXi C hE (f_score G A [] bN0 zR zQ freshB (xs 1) (xs 2) (xs 3)) kcL_X6_score dL_law_1041 rfl (by omega) (by omega) (by omega) (Nat.le_of_ble_eq_true rfl) 0 rfl (ci := 6) rfl rfl [1, 2, 3, 4, 5, 6, 7, 8, 9, 10, 11, 12, 13, 14] [0, 15, 16, 17, 18, 19, 20, 21, 22, 23, 24, 25, 26, 27, 28, 29, 30, 31, 32, 33, 34, 35, 36, 37, 38, 39, 40, 41, 42] (by decide) rfl (wr := [(o, .inl (G.2.2 2, 1, .inr (.inl (fun _ => 0))))] ++ mW G h ad mM0 zR) rfl (by decide) (by decide) rfl (fun q => q.elim) (fun r u hu => ?_)
  have h1 : r = -1 := hu
  refine V.sub (ws' := mW G h ad mM0 zR ++ [(o, .inl (G.2.2 2, 1, .inr (.inl (fun _ => 0))))]) [1, 2, 3, 4, 5, 6, 7, 8, 9, 10, 11, 12, 13, 14, 15, 16, 17, 18, 19, 20, 21, 22, 23, 24, 25, 26, 27, 28, 0] (by decide) rfl ?_
  refine r_aload_n C dL_law_1044 rfl rfl ?_
  refine r_aload_n C dL_law_1045 rfl rfl ?_
  refine r_iload C dL_law_1046 rfl ?_
  refine r_iconst (v := 1) C dL_law_1048 (by decide) ?_
  refine r_iadd C dL_law_1049 ?_
  refine r_sld (j := 1) C hSc (by decide) (by decide) (by decide) dL_law_1050 ?_
  refine r_aload_n C dL_law_1051 rfl rfl ?_
  refine r_iload C dL_law_1052 rfl ?_
  refine r_iconst (v := 2) C dL_law_1054 (by decide) ?_
  refine r_iadd C dL_law_1055 ?_
  refine r_sld (j := 2) C hSc (by decide) (by decide) (by decide) dL_law_1056 ?_
  refine r_aload_n C dL_law_1057 rfl rfl ?_
  refine r_iload C dL_law_1058 rfl ?_
  refine r_iconst (v := 3) C dL_law_1060 (by decide) ?_
  refine r_iadd C dL_law_1061 ?_
  refine r_sld (j := 3) C hSc (by decide) (by decide) (by decide) dL_law_1062 ?_
  refine r_callVi C (c_score G h ad mM0 zR (nb := 0) (ns := 0) (xs 1) (xs 2) (xs 3) zPats (fun _ _ => Or.inl rfl) rfl (by decide) rfl (by decide) zNum) kcL_X7_score dL_law_1063 rfl (by omega) (by omega) (by omega) (Nat.le_of_ble_eq_true rfl) 0 rfl (ci := 7) rfl rfl [0, 1, 2, 3, 4, 5, 6, 7, 8, 9, 10, 11, 12, 13, 14, 15, 16, 17, 18, 19, 20, 21, 22, 23, 24, 25, 26, 27] [28] (by decide) rfl (wr := [(o, .inl (G.2.2 2, 1, .inr (.inl (fun _ => 0))))]) rfl (by decide) (by decide) rfl (fun r2 u2 hu2 => ?_)
  have h2 : r2 = -1 := by
    rcases hu2 with w | ⟨_, _, _, _, _, w, _⟩
    · exact w.2.1
    · exact (noPOK w.2.2.2.1).elim
  refine r_icmp_eq (tgt := 1300) C dL_law_1066 (by decide) (fun c1066 => ?_) (fun c1066 => absurd c1066 ((fun q => q (h1.trans h2.symm))))
  exact hEnd (by omega) (by omega)
theorem l_hat (C : Cx X G 7 code RL d mc ms) (hE : Ev X) (hSc : Scr X b 6 xs) (hd : 11 ≤ d) (hmc : 100 ≤ mc) (hms : 20000 ≤ ms) (hEnd : ∀ {k n : Nat} {L5 L6 : Option Value} {ws : va_W}, k ≤ 100 → n ≤ 20000 → V X k n 1300 (lL b (A 0) h o L5 L6) [] ws) : V X 50 17000 1139 (lL b (A 0) h o none none) [] ([(o, .inl (G.2.2 2, 1, .inr (.inl (fun _ => 0))))] ++ (bW G A bN0 zR zQ ++ mW G h ad mM0 zR)) := by
  refine r_aload_n C dL_law_1139 rfl rfl ?_
  refine r_aload_n C dL_law_1140 rfl rfl ?_
  refine r_iload C dL_law_1141 rfl ?_
  refine r_iconst (v := 1) C dL_law_1143 (by decide) ?_
  refine r_iadd C dL_law_1144 ?_
  refine r_sld (j := 1) C hSc (by decide) (by decide) (by decide) dL_law_1145 ?_
  refine r_aload_n C dL_law_1146 rfl rfl ?_
  refine r_iload C dL_law_1147 rfl ?_
  refine r_iconst (v := 2) C dL_law_1149 (by decide) ?_
  refine r_iadd C dL_law_1150 ?_
  refine r_sld (j := 2) C hSc (by decide) (by decide) (by decide) dL_law_1151 ?_
  refine r_callVi C (f_hat G A [] bN0 zR zQ freshB (xs 1) (xs 2)) kcL_X6_hat dL_law_1152 rfl (by omega) (by omega) (by omega) (Nat.le_of_ble_eq_true rfl) 0 rfl (ci := 6) rfl rfl [1, 2, 3, 4, 5, 6, 7, 8, 9, 10, 11, 12, 13, 14] [0, 15, 16, 17, 18, 19, 20, 21, 22, 23, 24, 25, 26, 27, 28, 29, 30, 31, 32, 33, 34, 35, 36, 37, 38, 39, 40, 41, 42] (by decide) rfl (wr := [(o, .inl (G.2.2 2, 1, .inr (.inl (fun _ => 0))))] ++ mW G h ad mM0 zR) rfl (by decide) (by decide) rfl (fun r u hu => ?_)
  have h1 : r = -1 := hu.1
  refine V.sub (ws' := mW G h ad mM0 zR ++ [(o, .inl (G.2.2 2, 1, .inr (.inl (fun _ => 0))))]) [1, 2, 3, 4, 5, 6, 7, 8, 9, 10, 11, 12, 13, 14, 15, 16, 17, 18, 19, 20, 21, 22, 23, 24, 25, 26, 27, 28, 0] (by decide) rfl ?_
  refine r_aload_n C dL_law_1155 rfl rfl ?_
  refine r_aload_n C dL_law_1156 rfl rfl ?_
  refine r_iload C dL_law_1157 rfl ?_
  refine r_iconst (v := 1) C dL_law_1159 (by decide) ?_
  refine r_iadd C dL_law_1160 ?_
  refine r_sld (j := 1) C hSc (by decide) (by decide) (by decide) dL_law_1161 ?_
  refine r_aload_n C dL_law_1162 rfl rfl ?_
  refine r_iload C dL_law_1163 rfl ?_
  refine r_iconst (v := 2) C dL_law_1165 (by decide) ?_
  refine r_iadd C dL_law_1166 ?_
  refine r_sld (j := 2) C hSc (by decide) (by decide) (by decide) dL_law_1167 ?_
  refine r_callVi C (c_hat G h ad mM0 zR (nh := 0) (ns := 0) (xs 1) (xs 2) rfl (by decide) rfl (by decide) zNum) kcL_X7_hat dL_law_1168 rfl (by omega) (by omega) (by omega) (Nat.le_of_ble_eq_true rfl) 0 rfl (ci := 7) rfl rfl [0, 1, 2, 3, 4, 5, 6, 7, 8, 9, 10, 11, 12, 13, 14, 15, 16, 17, 18, 19, 20, 21, 22, 23, 24, 25, 26, 27] [28] (by decide) rfl (wr := [(o, .inl (G.2.2 2, 1, .inr (.inl (fun _ => 0))))]) rfl (by decide) (by decide) rfl (fun r2 u2 hu2 => ?_)
  have h2 : r2 = -1 := by
    rcases hu2 with w | ⟨wn, rn, w1, w2, _⟩
    · exact w.2.1
    · exfalso
      obtain ⟨_, _, _, a1, a9, b1, b4, bm⟩ := w1
      have hq1 : 1 ≤ rn / wn := (Nat.one_le_div_iff (by omega)).mpr (Nat.le_of_dvd (by omega) (Nat.dvd_of_mod_eq_zero bm))
      have hge := hatNeed_ge (w := wn) (rn / wn)
      have w3 : hatNeed wn (rn / wn) ≤ 0 := w2
      omega
  refine r_icmp_eq (tgt := 1300) C dL_law_1171 (by decide) (fun c1171 => ?_) (fun c1171 => absurd c1171 ((fun q => q (h1.trans h2.symm))))
  exact hEnd (by omega) (by omega)
end FST
