/-! the law's calls, one by one, between any two -/
section LST
variable {X : Fx} {G : Gx} {b : Nat} {xs : Nat → Int32} {h o : Nat} {A ad : Nat → Nat}
theorem l_feed {i L k n nb ns nh : Nat} {N : Nt} {R : Rt} {Q : Qt} {pb : Nat → Option PbT} {ba sa hA : Nat → Nat} {M : Mt} {T : Rt} {f : Nat → Int64} {L5 L6 : Option Value} (C : Cx X G 7 code RL 11 601024 7293033) (hE : Ev X) (hSc : Scr X b L xs) (hi : i + 6 ≤ L) (hL : L ≤ 3072) (hk : k + 100 ≤ 601024) (hn : n + 2000 ≤ 7293033) (hI : LI N R Q pb ba sa hA nb ns nh M T) (nx : NX X G A h ad o b i 929 k n) : V X k n 132 (lM b (A 0) h o i L5 L6) [] (LV G A h ad o N R Q pb ba sa hA nb ns nh T M T f) := by
  obtain ⟨⟨tp, tp8, tN, tM⟩, ⟨hBt, hTx⟩, ⟨bN, bM, b40, bQ, bL⟩, ⟨sN, sM, s60, sQ, sL⟩, ⟨hN, hM0, h60, hQ⟩, hP⟩ := id hI
  refine r_aload_n C dL_law_132 rfl rfl ?_
  refine r_aload_n C dL_law_133 rfl rfl ?_
  refine r_iload C dL_law_134 rfl ?_
  refine r_iconst (v := 1) C dL_law_136 (by decide) ?_
  refine r_iadd C dL_law_137 ?_
  refine r_sld (j := i + 1) C hSc sl_1 (by omega) (by omega) dL_law_138 ?_
  refine r_aload_n C dL_law_139 rfl rfl ?_
  refine r_iload C dL_law_140 rfl ?_
  refine r_iconst (v := 2) C dL_law_142 (by decide) ?_
  refine r_iadd C dL_law_143 ?_
  refine r_sld (j := i + 2) C hSc sl_2 (by omega) (by omega) dL_law_144 ?_
  refine r_aload_n C dL_law_145 rfl rfl ?_
  refine r_iload C dL_law_146 rfl ?_
  refine r_iconst (v := 3) C dL_law_148 (by decide) ?_
  refine r_iadd C dL_law_149 ?_
  refine r_sld (j := i + 3) C hSc sl_3 (by omega) (by omega) dL_law_150 ?_
  refine r_aload_n C dL_law_151 rfl rfl ?_
  refine r_iload C dL_law_152 rfl ?_
  refine r_iconst (v := 4) C dL_law_154 (by decide) ?_
  refine r_iadd C dL_law_155 ?_
  refine r_sld (j := i + 4) C hSc sl_4 (by omega) (by omega) dL_law_156 ?_
  refine r_aload_n C dL_law_157 rfl rfl ?_
  refine r_iload C dL_law_158 rfl ?_
  refine r_iconst (v := 5) C dL_law_160 (by decide) ?_
  refine r_iadd C dL_law_161 ?_
  refine r_sld (j := i + 5) C hSc sl_5 (by omega) (by omega) dL_law_162 ?_
  refine b_calli C (c_bfeed G A _ N R Q (t := tp) (xs (i + 1)) (xs (i + 2)) (xs (i + 3)) (xs (i + 4)) (xs (i + 5)) tN tp8) kcL_X6_feed dL_law_163 rfl (by decide) (by omega) (by omega) (Nat.le_of_ble_eq_true rfl) rfl rfl (fun r N' R' hu => ?_)
  refine (show V X k n 166 (lM b (A 0) h o i L5 L6) [.int r] (LV G A h ad o N' R' Q pb ba sa hA nb ns nh T M T f) from ?_)
  refine r_pop C dL_law_166 rfl ?_
  refine r_aload_n C dL_law_167 rfl rfl ?_
  refine r_aload_n C dL_law_168 rfl rfl ?_
  refine r_iload C dL_law_169 rfl ?_
  refine r_iconst (v := 1) C dL_law_171 (by decide) ?_
  refine r_iadd C dL_law_172 ?_
  refine r_sld (j := i + 1) C hSc sl_1 (by omega) (by omega) dL_law_173 ?_
  refine r_aload_n C dL_law_174 rfl rfl ?_
  refine r_iload C dL_law_175 rfl ?_
  refine r_iconst (v := 2) C dL_law_177 (by decide) ?_
  refine r_iadd C dL_law_178 ?_
  refine r_sld (j := i + 2) C hSc sl_2 (by omega) (by omega) dL_law_179 ?_
  refine r_aload_n C dL_law_180 rfl rfl ?_
  refine r_iload C dL_law_181 rfl ?_
  refine r_iconst (v := 3) C dL_law_183 (by decide) ?_
  refine r_iadd C dL_law_184 ?_
  refine r_sld (j := i + 3) C hSc sl_3 (by omega) (by omega) dL_law_185 ?_
  refine r_aload_n C dL_law_186 rfl rfl ?_
  refine r_iload C dL_law_187 rfl ?_
  refine r_iconst (v := 4) C dL_law_189 (by decide) ?_
  refine r_iadd C dL_law_190 ?_
  refine r_sld (j := i + 4) C hSc sl_4 (by omega) (by omega) dL_law_191 ?_
  refine r_aload_n C dL_law_192 rfl rfl ?_
  refine r_iload C dL_law_193 rfl ?_
  refine r_iconst (v := 5) C dL_law_195 (by decide) ?_
  refine r_iadd C dL_law_196 ?_
  refine r_sld (j := i + 5) C hSc sl_5 (by omega) (by omega) dL_law_197 ?_
  refine V.perm q_m ?_
  refine lm_calli C (c_feed G h ad M T (t := tp) (xs (i + 1)) (xs (i + 2)) (xs (i + 3)) (xs (i + 4)) (xs (i + 5)) tM tp8) kcL_X7_feed dL_law_198 rfl (by decide) (by omega) (by omega) (Nat.le_of_ble_eq_true rfl) rfl rfl (fun r2 M2 R2 hu2 => ?_)
  refine V.perm q_m.symm ?_
  refine (show V X k n 201 (lM b (A 0) h o i L5 L6) [.int r2] (LV G A h ad o N' R' Q pb ba sa hA nb ns nh T M2 R2 f) from ?_)
  skip
  have fin : r = r2 ∧ KZ T R2 ∧ LI N' R' Q pb ba sa hA nb ns nh M2 R2 := by
    by_cases h78 : tp ≤ 780
    · rw [if_pos h78] at hu hu2
      obtain ⟨rfl, rfl, rfl⟩ := hu
      obtain ⟨rfl, rfl, rfl⟩ := hu2
      refine ⟨rfl, fun i a c => va_up_no (by omega), ⟨tp + 20, by omega, rfl, rfl⟩, ⟨bt_feed hBt, ?_⟩, ⟨bN, bM, b40, bQ, bL⟩, ⟨sN, sM, s60, sQ, sL⟩, ⟨hN, hM0, h60, hQ⟩, hP.cgT rfl rfl rfl⟩
      show txt (feedB (R 1) tp _ _ _ _ _) = feedT (T 1) tp _ _ _ _ _
      rw [txt_feed, hTx]
    · rw [if_neg h78] at hu hu2
      obtain ⟨rfl, rfl, rfl⟩ := hu
      obtain ⟨rfl, rfl, rfl⟩ := hu2
      exact ⟨rfl, fun _ _ _ => rfl, hI.keep KM.up0 KT'.rf⟩
  refine V.eqW (LV_cs fin.2.1) ?_
  refine r_pop C dL_law_201 rfl ?_
  refine r_goto (tgt := 929) C dL_law_202 (by decide) ?_
  exact nx N' R' Q pb ba sa hA nb ns nh M2 R2 f _ _ _ _ fin.2.2 (by omega) (by omega)
theorem l_fault {i L k n nb ns nh : Nat} {N : Nt} {R : Rt} {Q : Qt} {pb : Nat → Option PbT} {ba sa hA : Nat → Nat} {M : Mt} {T : Rt} {f : Nat → Int64} {L5 L6 : Option Value} (C : Cx X G 7 code RL 11 601024 7293033) (hE : Ev X) (hSc : Scr X b L xs) (hi : i + 6 ≤ L) (hL : L ≤ 3072) (hk : k + 100 ≤ 601024) (hn : n + 2000 ≤ 7293033) (hI : LI N R Q pb ba sa hA nb ns nh M T) (nx : NX X G A h ad o b i 929 k n) : V X k n 257 (lM b (A 0) h o i L5 L6) [] (LV G A h ad o N R Q pb ba sa hA nb ns nh T M T f) := by
  obtain ⟨⟨tp, tp8, tN, tM⟩, ⟨hBt, hTx⟩, ⟨bN, bM, b40, bQ, bL⟩, ⟨sN, sM, s60, sQ, sL⟩, ⟨hN, hM0, h60, hQ⟩, hP⟩ := id hI
  have key : ∀ (N' : Nt) (R' : Rt) (pb' : Nat → Option PbT) (f' : Nat → Int64) (r : Int32), LI N' R' Q pb' ba sa hA nb ns nh M T → V X (k + 1) (n + 6) 268 (lM b (A 0) h o i L5 L6) [.int r] (LV G A h ad o N' R' Q pb' ba sa hA nb ns nh T M T f') := by
    intro N' R' pb' f' r hI'
    refine r_istore C dL_law_268 (by decide) ?_
    refine r_aload_n C dL_law_270 rfl rfl ?_
    refine r_aload_n C dL_law_271 rfl rfl ?_
    refine r_iload C dL_law_272 rfl ?_
    refine r_iconst (v := 1) C dL_law_274 (by decide) ?_
    refine r_iadd C dL_law_275 ?_
    refine r_sld (j := i + 1) C hSc sl_1 (by omega) (by omega) dL_law_276 ?_
    refine V.perm q_m ?_
    refine lm_calli C (c_fault G h ad M T (xs (i + 1))) kcL_X7_fault dL_law_277 rfl (by decide) (by omega) (by omega) (Nat.le_of_ble_eq_true rfl) rfl rfl (fun r2 M2 R2 hu2 => ?_)
    have hKM : KM M M2 := by
      have w := hu2.2
      split at w
      · rw [w.2]; exact KM.up0
      · split at w
        · rw [w.2]; exact KM.up0
        · rw [w.2]; exact KM.up0
    have hKT : KT' T R2 := by rw [hu2.1]; exact KT'.rf
    refine V.perm q_m.symm ?_
    refine V.eqW (LV_cg hKT) ?_
    refine r_istore C dL_law_280 (by decide) ?_
    refine r_goto (tgt := 929) C dL_law_282 (by decide) ?_
    exact nx N' R' Q pb' ba sa hA nb ns nh M2 R2 f' _ _ _ _ (hI'.keep hKM hKT) (by omega) (by omega)
  refine r_aload_n C dL_law_257 rfl rfl ?_
  refine r_aload_n C dL_law_258 rfl rfl ?_
  refine r_iload C dL_law_259 rfl ?_
  refine r_iconst (v := 1) C dL_law_261 (by decide) ?_
  refine r_iadd C dL_law_262 ?_
  refine r_sld (j := i + 1) C hSc sl_1 (by omega) (by omega) dL_law_263 ?_
  refine r_aload_n C dL_law_264 rfl rfl ?_
  refine V.perm q_o ?_
  refine a_callHi C hE (h_fault (G := G) (o := o) (f := f) (xs (i + 1)) (c_bfault G A _ N R Q (xs (i + 1))) rfl) kcL_L_fault dL_law_265 rfl (by decide) (by omega) (by omega) (Nat.le_of_ble_eq_true rfl) rfl (fun r u hu => ?_)
  rcases u with _ | ⟨u1, v⟩
  · refine V.perm q_o.symm ?_
    exact key N R pb f r hI
  · refine V.perm q_o.symm ?_
    exact key N R pb (vp_updL f 0 v.toInt64) r hI
theorem l_crossing {i L k n nb ns nh : Nat} {N : Nt} {R : Rt} {Q : Qt} {pb : Nat → Option PbT} {ba sa hA : Nat → Nat} {M : Mt} {T : Rt} {f : Nat → Int64} {L5 L6 : Option Value} (C : Cx X G 7 code RL 11 601024 7293033) (hE : Ev X) (hSc : Scr X b L xs) (hi : i + 6 ≤ L) (hL : L ≤ 3072) (hk : k + 100 ≤ 601024) (hn : n + 2000 ≤ 7293033) (hI : LI N R Q pb ba sa hA nb ns nh M T) (nx : NX X G A h ad o b i 929 k n) : V X k n 310 (lM b (A 0) h o i L5 L6) [] (LV G A h ad o N R Q pb ba sa hA nb ns nh T M T f) := by
  obtain ⟨⟨tp, tp8, tN, tM⟩, ⟨hBt, hTx⟩, ⟨bN, bM, b40, bQ, bL⟩, ⟨sN, sM, s60, sQ, sL⟩, ⟨hN, hM0, h60, hQ⟩, hP⟩ := id hI
  obtain ⟨cj, cz, hcr⟩ := cr_arg hP (xs (i + 1))
  have key : ∀ (N' : Nt) (R' : Rt) (pb' : Nat → Option PbT) (f' : Nat → Int64) (r : Int32), LI N' R' Q pb' ba sa hA nb ns nh M T → V X (k + 2) (n + 12) 327 (lM b (A 0) h o i L5 L6) [.int r] (LV G A h ad o N' R' Q pb' ba sa hA nb ns nh T M T f') := by
    intro N' R' pb' f' r hI'
    refine r_istore C dL_law_327 (by decide) ?_
    refine r_aload_n C dL_law_329 rfl rfl ?_
    refine r_aload_n C dL_law_330 rfl rfl ?_
    refine r_iload C dL_law_331 rfl ?_
    refine r_iconst (v := 1) C dL_law_333 (by decide) ?_
    refine r_iadd C dL_law_334 ?_
    refine r_sld (j := i + 1) C hSc sl_1 (by omega) (by omega) dL_law_335 ?_
    refine r_aload_n C dL_law_336 rfl rfl ?_
    refine r_iload C dL_law_337 rfl ?_
    refine r_iconst (v := 2) C dL_law_339 (by decide) ?_
    refine r_iadd C dL_law_340 ?_
    refine r_sld (j := i + 2) C hSc sl_2 (by omega) (by omega) dL_law_341 ?_
    refine V.perm q_m ?_
    refine lm_calli C (c_crossing G h ad M T (j := cj) (z := cz) (xs (i + 1)) (xs (i + 2)) hcr) kcL_X7_crossing dL_law_342 rfl (by decide) (by omega) (by omega) (Nat.le_of_ble_eq_true rfl) rfl rfl (fun r2 M2 R2 hu2 => ?_)
    have hKM : KM M M2 := by rcases hu2.2 with ⟨_, _, _, _, _, e⟩ | ⟨_, _, e⟩ <;> rw [e] <;> exact KM.up0
    have hKT : KT' T R2 := by rw [hu2.1]; exact KT'.rf
    refine V.perm q_m.symm ?_
    refine V.eqW (LV_cg hKT) ?_
    refine r_istore C dL_law_345 (by decide) ?_
    refine r_goto (tgt := 929) C dL_law_347 (by decide) ?_
    exact nx N' R' Q pb' ba sa hA nb ns nh M2 R2 f' _ _ _ _ (hI'.keep hKM hKT) (by omega) (by omega)
  refine r_aload_n C dL_law_310 rfl rfl ?_
  refine r_aload_n C dL_law_311 rfl rfl ?_
  refine r_iload C dL_law_312 rfl ?_
  refine r_iconst (v := 1) C dL_law_314 (by decide) ?_
  refine r_iadd C dL_law_315 ?_
  refine r_sld (j := i + 1) C hSc sl_1 (by omega) (by omega) dL_law_316 ?_
  refine r_aload_n C dL_law_317 rfl rfl ?_
  refine r_iload C dL_law_318 rfl ?_
  refine r_iconst (v := 2) C dL_law_320 (by decide) ?_
  refine r_iadd C dL_law_321 ?_
  refine r_sld (j := i + 2) C hSc sl_2 (by omega) (by omega) dL_law_322 ?_
  refine r_aload_n C dL_law_323 rfl rfl ?_
  refine V.perm q_op ?_
  refine a_callHi C hE (h_crossing (G := G) (o := o) (f := f) (xs (i + 1)) (xs (i + 2)) (c_bcrossing G A _ N R Q T pb hP (xs (i + 1)) (xs (i + 2))) rfl) kcL_L_crossing dL_law_324 rfl (by decide) (by omega) (by omega) (Nat.le_of_ble_eq_true rfl) rfl (fun r u hu => ?_)
  rcases u with _ | ⟨u1, v⟩
  · refine V.perm q_op.symm ?_
    exact key N R pb f r hI
  · refine V.perm q_op.symm ?_
    exact key N R pb (vp_updL f 0 v.toInt64) r hI
theorem l_about {i L k n nb ns nh : Nat} {N : Nt} {R : Rt} {Q : Qt} {pb : Nat → Option PbT} {ba sa hA : Nat → Nat} {M : Mt} {T : Rt} {f : Nat → Int64} {L5 L6 : Option Value} (C : Cx X G 7 code RL 11 601024 7293033) (hE : Ev X) (hSc : Scr X b L xs) (hi : i + 6 ≤ L) (hL : L ≤ 3072) (hk : k + 100 ≤ 601024) (hn : n + 2000 ≤ 7293033) (hI : LI N R Q pb ba sa hA nb ns nh M T) (nx : NX X G A h ad o b i 929 k n) : V X k n 350 (lM b (A 0) h o i L5 L6) [] (LV G A h ad o N R Q pb ba sa hA nb ns nh T M T f) := by
  obtain ⟨⟨tp, tp8, tN, tM⟩, ⟨hBt, hTx⟩, ⟨bN, bM, b40, bQ, bL⟩, ⟨sN, sM, s60, sQ, sL⟩, ⟨hN, hM0, h60, hQ⟩, hP⟩ := id hI
  have key : ∀ (N' : Nt) (R' : Rt) (pb' : Nat → Option PbT) (f' : Nat → Int64) (r : Int32), LI N' R' Q pb' ba sa hA nb ns nh M T → V X (k + 2) (n + 12) 367 (lM b (A 0) h o i L5 L6) [.int r] (LV G A h ad o N' R' Q pb' ba sa hA nb ns nh T M T f') := by
    intro N' R' pb' f' r hI'
    refine r_istore C dL_law_367 (by decide) ?_
    refine r_aload_n C dL_law_369 rfl rfl ?_
    refine r_aload_n C dL_law_370 rfl rfl ?_
    refine r_iload C dL_law_371 rfl ?_
    refine r_iconst (v := 1) C dL_law_373 (by decide) ?_
    refine r_iadd C dL_law_374 ?_
    refine r_sld (j := i + 1) C hSc sl_1 (by omega) (by omega) dL_law_375 ?_
    refine r_aload_n C dL_law_376 rfl rfl ?_
    refine r_iload C dL_law_377 rfl ?_
    refine r_iconst (v := 2) C dL_law_379 (by decide) ?_
    refine r_iadd C dL_law_380 ?_
    refine r_sld (j := i + 2) C hSc sl_2 (by omega) (by omega) dL_law_381 ?_
    refine V.perm q_m ?_
    refine lm_calli C (c_about G h ad M T (xs (i + 1)) (xs (i + 2)) hP.pats) kcL_X7_about dL_law_382 rfl (by decide) (by omega) (by omega) (Nat.le_of_ble_eq_true rfl) rfl rfl (fun r2 M2 R2 hu2 => ?_)
    have hKM : KM M M2 := fun i hi => hu2.1 i (by omega)
    have hKT : KT' T R2 := fun i hi => hu2.2.1 i hi
    refine V.perm q_m.symm ?_
    refine V.eqW (LV_cg hKT) ?_
    refine r_istore C dL_law_385 (by decide) ?_
    refine r_goto (tgt := 929) C dL_law_387 (by decide) ?_
    exact nx N' R' Q pb' ba sa hA nb ns nh M2 R2 f' _ _ _ _ (hI'.keep hKM hKT) (by omega) (by omega)
  refine r_aload_n C dL_law_350 rfl rfl ?_
  refine r_aload_n C dL_law_351 rfl rfl ?_
  refine r_iload C dL_law_352 rfl ?_
  refine r_iconst (v := 1) C dL_law_354 (by decide) ?_
  refine r_iadd C dL_law_355 ?_
  refine r_sld (j := i + 1) C hSc sl_1 (by omega) (by omega) dL_law_356 ?_
  refine r_aload_n C dL_law_357 rfl rfl ?_
  refine r_iload C dL_law_358 rfl ?_
  refine r_iconst (v := 2) C dL_law_360 (by decide) ?_
  refine r_iadd C dL_law_361 ?_
  refine r_sld (j := i + 2) C hSc sl_2 (by omega) (by omega) dL_law_362 ?_
  refine r_aload_n C dL_law_363 rfl rfl ?_
  refine V.perm q_op ?_
  refine a_callHi C hE (h_about (G := G) (o := o) (f := f) (xs (i + 1)) (xs (i + 2)) (w_babout G A _ N R Q T pb hP (xs (i + 1)) (xs (i + 2))) rfl) kcL_L_about dL_law_364 rfl (by decide) (by omega) (by omega) (Nat.le_of_ble_eq_true rfl) rfl (fun r u hu => ?_)
  rcases u with _ | ⟨u1, v⟩
  · refine V.perm q_op.symm ?_
    exact key N R pb f r hI
  · refine V.perm q_op.symm ?_
    exact key N R u1 (vp_updL f 0 v.toInt64) r (hI.pb hu.1.1)
theorem l_factor {i L k n nb ns nh : Nat} {N : Nt} {R : Rt} {Q : Qt} {pb : Nat → Option PbT} {ba sa hA : Nat → Nat} {M : Mt} {T : Rt} {f : Nat → Int64} {L5 L6 : Option Value} (C : Cx X G 7 code RL 11 601024 7293033) (hE : Ev X) (hSc : Scr X b L xs) (hi : i + 6 ≤ L) (hL : L ≤ 3072) (hk : k + 100 ≤ 601024) (hn : n + 2000 ≤ 7293033) (hI : LI N R Q pb ba sa hA nb ns nh M T) (nx : NX X G A h ad o b i 929 k n) : V X k n 390 (lM b (A 0) h o i L5 L6) [] (LV G A h ad o N R Q pb ba sa hA nb ns nh T M T f) := by
  obtain ⟨⟨tp, tp8, tN, tM⟩, ⟨hBt, hTx⟩, ⟨bN, bM, b40, bQ, bL⟩, ⟨sN, sM, s60, sQ, sL⟩, ⟨hN, hM0, h60, hQ⟩, hP⟩ := id hI
  have key : ∀ (N' : Nt) (R' : Rt) (pb' : Nat → Option PbT) (f' : Nat → Int64) (r : Int32), LI N' R' Q pb' ba sa hA nb ns nh M T → V X (k + 2) (n + 12) 407 (lM b (A 0) h o i L5 L6) [.int r] (LV G A h ad o N' R' Q pb' ba sa hA nb ns nh T M T f') := by
    intro N' R' pb' f' r hI'
    refine r_istore C dL_law_407 (by decide) ?_
    refine r_aload_n C dL_law_409 rfl rfl ?_
    refine r_aload_n C dL_law_410 rfl rfl ?_
    refine r_iload C dL_law_411 rfl ?_
    refine r_iconst (v := 1) C dL_law_413 (by decide) ?_
    refine r_iadd C dL_law_414 ?_
    refine r_sld (j := i + 1) C hSc sl_1 (by omega) (by omega) dL_law_415 ?_
    refine r_aload_n C dL_law_416 rfl rfl ?_
    refine r_iload C dL_law_417 rfl ?_
    refine r_iconst (v := 2) C dL_law_419 (by decide) ?_
    refine r_iadd C dL_law_420 ?_
    refine r_sld (j := i + 2) C hSc sl_2 (by omega) (by omega) dL_law_421 ?_
    refine V.perm q_m ?_
    refine lm_calli C (c_factor G h ad M T (xs (i + 1)) (xs (i + 2)) hP.pats) kcL_X7_factor dL_law_422 rfl (by decide) (by omega) (by omega) (Nat.le_of_ble_eq_true rfl) rfl rfl (fun r2 M2 R2 hu2 => ?_)
    have hKM : KM M M2 := fun i hi => hu2.1 i (by omega)
    have hKT : KT' T R2 := fun i hi => hu2.2.1 i hi
    refine V.perm q_m.symm ?_
    refine V.eqW (LV_cg hKT) ?_
    refine r_istore C dL_law_425 (by decide) ?_
    refine r_goto (tgt := 929) C dL_law_427 (by decide) ?_
    exact nx N' R' Q pb' ba sa hA nb ns nh M2 R2 f' _ _ _ _ (hI'.keep hKM hKT) (by omega) (by omega)
  refine r_aload_n C dL_law_390 rfl rfl ?_
  refine r_aload_n C dL_law_391 rfl rfl ?_
  refine r_iload C dL_law_392 rfl ?_
  refine r_iconst (v := 1) C dL_law_394 (by decide) ?_
  refine r_iadd C dL_law_395 ?_
  refine r_sld (j := i + 1) C hSc sl_1 (by omega) (by omega) dL_law_396 ?_
  refine r_aload_n C dL_law_397 rfl rfl ?_
  refine r_iload C dL_law_398 rfl ?_
  refine r_iconst (v := 2) C dL_law_400 (by decide) ?_
  refine r_iadd C dL_law_401 ?_
  refine r_sld (j := i + 2) C hSc sl_2 (by omega) (by omega) dL_law_402 ?_
  refine r_aload_n C dL_law_403 rfl rfl ?_
  refine V.perm q_op ?_
  refine a_callHi C hE (h_factorJ (G := G) (o := o) (f := f) (xs (i + 1)) (xs (i + 2)) (w_bfactor G A _ N R Q T pb hP (xs (i + 1)) (xs (i + 2))) rfl) kcL_L_factor dL_law_404 rfl (by decide) (by omega) (by omega) (Nat.le_of_ble_eq_true rfl) rfl (fun r u hu => ?_)
  rcases u with u1 | ⟨u1, v⟩
  · refine V.perm q_op.symm ?_
    exact key N R u1 f r (hI.pb hu.1)
  · refine V.perm q_op.symm ?_
    exact key N R u1 (vp_updL f 0 v.toInt64) r (hI.pb hu.1)
theorem l_alike {i L k n nb ns nh : Nat} {N : Nt} {R : Rt} {Q : Qt} {pb : Nat → Option PbT} {ba sa hA : Nat → Nat} {M : Mt} {T : Rt} {f : Nat → Int64} {L5 L6 : Option Value} (C : Cx X G 7 code RL 11 601024 7293033) (hE : Ev X) (hSc : Scr X b L xs) (hi : i + 6 ≤ L) (hL : L ≤ 3072) (hk : k + 100 ≤ 601024) (hn : n + 2000 ≤ 7293033) (hI : LI N R Q pb ba sa hA nb ns nh M T) (nx : NX X G A h ad o b i 929 k n) : V X k n 430 (lM b (A 0) h o i L5 L6) [] (LV G A h ad o N R Q pb ba sa hA nb ns nh T M T f) := by
  obtain ⟨⟨tp, tp8, tN, tM⟩, ⟨hBt, hTx⟩, ⟨bN, bM, b40, bQ, bL⟩, ⟨sN, sM, s60, sQ, sL⟩, ⟨hN, hM0, h60, hQ⟩, hP⟩ := id hI
  have key : ∀ (N' : Nt) (R' : Rt) (pb' : Nat → Option PbT) (f' : Nat → Int64) (r : Int32), LI N' R' Q pb' ba sa hA nb ns nh M T → V X (k + 2) (n + 12) 447 (lM b (A 0) h o i L5 L6) [.int r] (LV G A h ad o N' R' Q pb' ba sa hA nb ns nh T M T f') := by
    intro N' R' pb' f' r hI'
    refine r_istore C dL_law_447 (by decide) ?_
    refine r_aload_n C dL_law_449 rfl rfl ?_
    refine r_aload_n C dL_law_450 rfl rfl ?_
    refine r_iload C dL_law_451 rfl ?_
    refine r_iconst (v := 1) C dL_law_453 (by decide) ?_
    refine r_iadd C dL_law_454 ?_
    refine r_sld (j := i + 1) C hSc sl_1 (by omega) (by omega) dL_law_455 ?_
    refine r_aload_n C dL_law_456 rfl rfl ?_
    refine r_iload C dL_law_457 rfl ?_
    refine r_iconst (v := 2) C dL_law_459 (by decide) ?_
    refine r_iadd C dL_law_460 ?_
    refine r_sld (j := i + 2) C hSc sl_2 (by omega) (by omega) dL_law_461 ?_
    refine V.perm q_m ?_
    refine lm_calli C (c_alike G h ad M T (xs (i + 1)) (xs (i + 2)) hP.pats) kcL_X7_alike dL_law_462 rfl (by decide) (by omega) (by omega) (Nat.le_of_ble_eq_true rfl) rfl rfl (fun r2 M2 R2 hu2 => ?_)
    have hKM : KM M M2 := fun i hi => hu2.1 i (by omega)
    have hKT : KT' T R2 := fun i hi => hu2.2.1 i hi
    refine V.perm q_m.symm ?_
    refine V.eqW (LV_cg hKT) ?_
    refine r_istore C dL_law_465 (by decide) ?_
    refine r_goto (tgt := 929) C dL_law_467 (by decide) ?_
    exact nx N' R' Q pb' ba sa hA nb ns nh M2 R2 f' _ _ _ _ (hI'.keep hKM hKT) (by omega) (by omega)
  refine r_aload_n C dL_law_430 rfl rfl ?_
  refine r_aload_n C dL_law_431 rfl rfl ?_
  refine r_iload C dL_law_432 rfl ?_
  refine r_iconst (v := 1) C dL_law_434 (by decide) ?_
  refine r_iadd C dL_law_435 ?_
  refine r_sld (j := i + 1) C hSc sl_1 (by omega) (by omega) dL_law_436 ?_
  refine r_aload_n C dL_law_437 rfl rfl ?_
  refine r_iload C dL_law_438 rfl ?_
  refine r_iconst (v := 2) C dL_law_440 (by decide) ?_
  refine r_iadd C dL_law_441 ?_
  refine r_sld (j := i + 2) C hSc sl_2 (by omega) (by omega) dL_law_442 ?_
  refine r_aload_n C dL_law_443 rfl rfl ?_
  refine V.perm q_op ?_
  refine a_callHi C hE (h_alike (G := G) (o := o) (f := f) (xs (i + 1)) (xs (i + 2)) (w_balike G A _ N R Q T pb hP (xs (i + 1)) (xs (i + 2))) rfl) kcL_L_alike dL_law_444 rfl (by decide) (by omega) (by omega) (Nat.le_of_ble_eq_true rfl) rfl (fun r u hu => ?_)
  rcases u with _ | ⟨u1, v⟩
  · refine V.perm q_op.symm ?_
    exact key N R pb f r hI
  · refine V.perm q_op.symm ?_
    exact key N R u1 (vp_updL f 0 (if v = 0 then 0 else 1)) r (hI.pb hu.1.1)
theorem l_untwined {i L k n nb ns nh : Nat} {N : Nt} {R : Rt} {Q : Qt} {pb : Nat → Option PbT} {ba sa hA : Nat → Nat} {M : Mt} {T : Rt} {f : Nat → Int64} {L5 L6 : Option Value} (C : Cx X G 7 code RL 11 601024 7293033) (hE : Ev X) (hSc : Scr X b L xs) (hi : i + 6 ≤ L) (hL : L ≤ 3072) (hk : k + 100 ≤ 601024) (hn : n + 2000 ≤ 7293033) (hI : LI N R Q pb ba sa hA nb ns nh M T) (nx : NX X G A h ad o b i 929 k n) : V X k n 470 (lM b (A 0) h o i L5 L6) [] (LV G A h ad o N R Q pb ba sa hA nb ns nh T M T f) := by
  obtain ⟨⟨tp, tp8, tN, tM⟩, ⟨hBt, hTx⟩, ⟨bN, bM, b40, bQ, bL⟩, ⟨sN, sM, s60, sQ, sL⟩, ⟨hN, hM0, h60, hQ⟩, hP⟩ := id hI
  have key : ∀ (N' : Nt) (R' : Rt) (pb' : Nat → Option PbT) (f' : Nat → Int64) (r : Int32), LI N' R' Q pb' ba sa hA nb ns nh M T → V X (k + 2) (n + 12) 481 (lM b (A 0) h o i L5 L6) [.int r] (LV G A h ad o N' R' Q pb' ba sa hA nb ns nh T M T f') := by
    intro N' R' pb' f' r hI'
    refine r_istore C dL_law_481 (by decide) ?_
    refine r_aload_n C dL_law_483 rfl rfl ?_
    refine r_aload_n C dL_law_484 rfl rfl ?_
    refine r_iload C dL_law_485 rfl ?_
    refine r_iconst (v := 1) C dL_law_487 (by decide) ?_
    refine r_iadd C dL_law_488 ?_
    refine r_sld (j := i + 1) C hSc sl_1 (by omega) (by omega) dL_law_489 ?_
    refine V.perm q_m ?_
    refine lm_calli C (c_untwined G h ad M T (xs (i + 1)) hP.pats) kcL_X7_untwined dL_law_490 rfl (by decide) (by omega) (by omega) (Nat.le_of_ble_eq_true rfl) rfl rfl (fun r2 M2 R2 hu2 => ?_)
    have hKM : KM M M2 := fun i hi => hu2.1 i (by omega)
    have hKT : KT' T R2 := fun i hi => hu2.2.1 i hi
    refine V.perm q_m.symm ?_
    refine V.eqW (LV_cg hKT) ?_
    refine r_istore C dL_law_493 (by decide) ?_
    refine r_goto (tgt := 929) C dL_law_495 (by decide) ?_
    exact nx N' R' Q pb' ba sa hA nb ns nh M2 R2 f' _ _ _ _ (hI'.keep hKM hKT) (by omega) (by omega)
  refine r_aload_n C dL_law_470 rfl rfl ?_
  refine r_aload_n C dL_law_471 rfl rfl ?_
  refine r_iload C dL_law_472 rfl ?_
  refine r_iconst (v := 1) C dL_law_474 (by decide) ?_
  refine r_iadd C dL_law_475 ?_
  refine r_sld (j := i + 1) C hSc sl_1 (by omega) (by omega) dL_law_476 ?_
  refine r_aload_n C dL_law_477 rfl rfl ?_
  refine V.perm q_op ?_
  refine a_callHi C hE (h_untwined (G := G) (o := o) (f := f) (xs (i + 1)) (w_buntwined G A _ N R Q T pb hP (xs (i + 1))) rfl) kcL_L_untwined dL_law_478 rfl (by decide) (by omega) (by omega) (Nat.le_of_ble_eq_true rfl) rfl (fun r u hu => ?_)
  rcases u with _ | ⟨u1, v⟩
  · refine V.perm q_op.symm ?_
    exact key N R pb f r hI
  · refine V.perm q_op.symm ?_
    exact key u1.2.1 u1.2.2 u1.1 (vp_updL f 0 v.toInt64) r (hI.bk hu.1.1 hu.1.2.2)
theorem l_goes {i L k n nb ns nh : Nat} {N : Nt} {R : Rt} {Q : Qt} {pb : Nat → Option PbT} {ba sa hA : Nat → Nat} {M : Mt} {T : Rt} {f : Nat → Int64} {L5 L6 : Option Value} (C : Cx X G 7 code RL 11 601024 7293033) (hE : Ev X) (hSc : Scr X b L xs) (hi : i + 6 ≤ L) (hL : L ≤ 3072) (hk : k + 100 ≤ 601024) (hn : n + 2000 ≤ 7293033) (hI : LI N R Q pb ba sa hA nb ns nh M T) (nx : NX X G A h ad o b i 929 k n) : V X k n 498 (lM b (A 0) h o i L5 L6) [] (LV G A h ad o N R Q pb ba sa hA nb ns nh T M T f) := by
  obtain ⟨⟨tp, tp8, tN, tM⟩, ⟨hBt, hTx⟩, ⟨bN, bM, b40, bQ, bL⟩, ⟨sN, sM, s60, sQ, sL⟩, ⟨hN, hM0, h60, hQ⟩, hP⟩ := id hI
  have key : ∀ (N' : Nt) (R' : Rt) (pb' : Nat → Option PbT) (f' : Nat → Int64) (r : Int32), LI N' R' Q pb' ba sa hA nb ns nh M T → V X (k + 2) (n + 12) 515 (lM b (A 0) h o i L5 L6) [.int r] (LV G A h ad o N' R' Q pb' ba sa hA nb ns nh T M T f') := by
    intro N' R' pb' f' r hI'
    refine r_istore C dL_law_515 (by decide) ?_
    refine r_aload_n C dL_law_517 rfl rfl ?_
    refine r_aload_n C dL_law_518 rfl rfl ?_
    refine r_iload C dL_law_519 rfl ?_
    refine r_iconst (v := 1) C dL_law_521 (by decide) ?_
    refine r_iadd C dL_law_522 ?_
    refine r_sld (j := i + 1) C hSc sl_1 (by omega) (by omega) dL_law_523 ?_
    refine r_aload_n C dL_law_524 rfl rfl ?_
    refine r_iload C dL_law_525 rfl ?_
    refine r_iconst (v := 2) C dL_law_527 (by decide) ?_
    refine r_iadd C dL_law_528 ?_
    refine r_sld (j := i + 2) C hSc sl_2 (by omega) (by omega) dL_law_529 ?_
    refine V.perm q_m ?_
    refine lm_calli C (c_goes G h ad M T (xs (i + 1)) (xs (i + 2)) hP.pats) kcL_X7_goes dL_law_530 rfl (by decide) (by omega) (by omega) (Nat.le_of_ble_eq_true rfl) rfl rfl (fun r2 M2 R2 hu2 => ?_)
    have hKM : KM M M2 := by rcases hu2.2 with ⟨_, _, _, _, _, _, _, _, _, _, _, e⟩ | ⟨_, _, e⟩ <;> rw [e] <;> exact KM.up0
    have hKT : KT' T R2 := by rw [hu2.1]; exact KT'.rf
    refine V.perm q_m.symm ?_
    refine V.eqW (LV_cg hKT) ?_
    refine r_istore C dL_law_533 (by decide) ?_
    refine r_goto (tgt := 929) C dL_law_535 (by decide) ?_
    exact nx N' R' Q pb' ba sa hA nb ns nh M2 R2 f' _ _ _ _ (hI'.keep hKM hKT) (by omega) (by omega)
  refine r_aload_n C dL_law_498 rfl rfl ?_
  refine r_aload_n C dL_law_499 rfl rfl ?_
  refine r_iload C dL_law_500 rfl ?_
  refine r_iconst (v := 1) C dL_law_502 (by decide) ?_
  refine r_iadd C dL_law_503 ?_
  refine r_sld (j := i + 1) C hSc sl_1 (by omega) (by omega) dL_law_504 ?_
  refine r_aload_n C dL_law_505 rfl rfl ?_
  refine r_iload C dL_law_506 rfl ?_
  refine r_iconst (v := 2) C dL_law_508 (by decide) ?_
  refine r_iadd C dL_law_509 ?_
  refine r_sld (j := i + 2) C hSc sl_2 (by omega) (by omega) dL_law_510 ?_
  refine r_aload_n C dL_law_511 rfl rfl ?_
  refine V.perm q_op ?_
  refine a_callHi C hE (h_goes (G := G) (o := o) (f := f) (xs (i + 1)) (xs (i + 2)) (c_bgoes G A _ N R Q T pb hP (xs (i + 1)) (xs (i + 2))) rfl) kcL_L_goes dL_law_512 rfl (by decide) (by omega) (by omega) (Nat.le_of_ble_eq_true rfl) rfl (fun r u hu => ?_)
  rcases u with _ | ⟨u1, v⟩
  · refine V.perm q_op.symm ?_
    exact key N R pb f r hI
  · refine V.perm q_op.symm ?_
    exact key N R pb (vp_updL f 0 v.toInt64) r hI
theorem l_twine {i L k n nb ns nh : Nat} {N : Nt} {R : Rt} {Q : Qt} {pb : Nat → Option PbT} {ba sa hA : Nat → Nat} {M : Mt} {T : Rt} {f : Nat → Int64} {L5 L6 : Option Value} (C : Cx X G 7 code RL 11 601024 7293033) (hE : Ev X) (hSc : Scr X b L xs) (hi : i + 6 ≤ L) (hL : L ≤ 3072) (hk : k + 100 ≤ 601024) (hn : n + 2000 ≤ 7293033) (hI : LI N R Q pb ba sa hA nb ns nh M T) (nx : NX X G A h ad o b i 929 k n) : V X k n 538 (lM b (A 0) h o i L5 L6) [] (LV G A h ad o N R Q pb ba sa hA nb ns nh T M T f) := by
  obtain ⟨⟨tp, tp8, tN, tM⟩, ⟨hBt, hTx⟩, ⟨bN, bM, b40, bQ, bL⟩, ⟨sN, sM, s60, sQ, sL⟩, ⟨hN, hM0, h60, hQ⟩, hP⟩ := id hI
  have key : ∀ (N' : Nt) (R' : Rt) (pb' : Nat → Option PbT) (f' : Nat → Int64) (r : Int32), LI N' R' Q pb' ba sa hA nb ns nh M T → V X (k + 2) (n + 12) 561 (lM b (A 0) h o i L5 L6) [.int r] (LV G A h ad o N' R' Q pb' ba sa hA nb ns nh T M T f') := by
    intro N' R' pb' f' r hI'
    refine r_istore C dL_law_561 (by decide) ?_
    refine r_aload_n C dL_law_563 rfl rfl ?_
    refine r_aload_n C dL_law_564 rfl rfl ?_
    refine r_iload C dL_law_565 rfl ?_
    refine r_iconst (v := 1) C dL_law_567 (by decide) ?_
    refine r_iadd C dL_law_568 ?_
    refine r_sld (j := i + 1) C hSc sl_1 (by omega) (by omega) dL_law_569 ?_
    refine r_aload_n C dL_law_570 rfl rfl ?_
    refine r_iload C dL_law_571 rfl ?_
    refine r_iconst (v := 2) C dL_law_573 (by decide) ?_
    refine r_iadd C dL_law_574 ?_
    refine r_sld (j := i + 2) C hSc sl_2 (by omega) (by omega) dL_law_575 ?_
    refine r_aload_n C dL_law_576 rfl rfl ?_
    refine r_iload C dL_law_577 rfl ?_
    refine r_iconst (v := 3) C dL_law_579 (by decide) ?_
    refine r_iadd C dL_law_580 ?_
    refine r_sld (j := i + 3) C hSc sl_3 (by omega) (by omega) dL_law_581 ?_
    refine V.perm q_m ?_
    refine lm_calli C (c_twine G h ad M T (xs (i + 1)) (xs (i + 2)) (xs (i + 3)) hP.pats) kcL_X7_twine dL_law_582 rfl (by decide) (by omega) (by omega) (Nat.le_of_ble_eq_true rfl) rfl rfl (fun r2 M2 R2 hu2 => ?_)
    have hKM : KM M M2 := by rcases hu2.2 with ⟨_, _, _, _, _, _, _, _, _, _, _, _, _, _, _, _, e⟩ | ⟨_, _, e⟩ <;> rw [e] <;> exact KM.up0
    have hKT : KT' T R2 := by obtain ⟨P, e⟩ := hu2.1; rw [e]; exact KT'.up (by decide)
    refine V.perm q_m.symm ?_
    refine V.eqW (LV_cg hKT) ?_
    refine r_istore C dL_law_585 (by decide) ?_
    refine r_goto (tgt := 929) C dL_law_587 (by decide) ?_
    exact nx N' R' Q pb' ba sa hA nb ns nh M2 R2 f' _ _ _ _ (hI'.keep hKM hKT) (by omega) (by omega)
  refine r_aload_n C dL_law_538 rfl rfl ?_
  refine r_aload_n C dL_law_539 rfl rfl ?_
  refine r_iload C dL_law_540 rfl ?_
  refine r_iconst (v := 1) C dL_law_542 (by decide) ?_
  refine r_iadd C dL_law_543 ?_
  refine r_sld (j := i + 1) C hSc sl_1 (by omega) (by omega) dL_law_544 ?_
  refine r_aload_n C dL_law_545 rfl rfl ?_
  refine r_iload C dL_law_546 rfl ?_
  refine r_iconst (v := 2) C dL_law_548 (by decide) ?_
  refine r_iadd C dL_law_549 ?_
  refine r_sld (j := i + 2) C hSc sl_2 (by omega) (by omega) dL_law_550 ?_
  refine r_aload_n C dL_law_551 rfl rfl ?_
  refine r_iload C dL_law_552 rfl ?_
  refine r_iconst (v := 3) C dL_law_554 (by decide) ?_
  refine r_iadd C dL_law_555 ?_
  refine r_sld (j := i + 3) C hSc sl_3 (by omega) (by omega) dL_law_556 ?_
  refine r_aload_n C dL_law_557 rfl rfl ?_
  refine V.perm q_op ?_
  refine a_callHi C hE (h_twine (G := G) (o := o) (f := f) (xs (i + 1)) (xs (i + 2)) (xs (i + 3)) (c_btwine G A _ N R Q T pb hP (xs (i + 1)) (xs (i + 2)) (xs (i + 3))) rfl) kcL_L_twine dL_law_558 rfl (by decide) (by omega) (by omega) (Nat.le_of_ble_eq_true rfl) rfl (fun r u hu => ?_)
  rcases u with _ | ⟨u1, v⟩
  · refine V.perm q_op.symm ?_
    exact key N R pb f r hI
  · refine V.perm q_op.symm ?_
    exact key N R pb (vp_updL f 0 v.toInt64) r hI
theorem l_use {i L k n nb ns nh : Nat} {N : Nt} {R : Rt} {Q : Qt} {pb : Nat → Option PbT} {ba sa hA : Nat → Nat} {M : Mt} {T : Rt} {f : Nat → Int64} {L5 L6 : Option Value} (C : Cx X G 7 code RL 11 601024 7293033) (hE : Ev X) (hSc : Scr X b L xs) (hi : i + 6 ≤ L) (hL : L ≤ 3072) (hk : k + 100 ≤ 601024) (hn : n + 2000 ≤ 7293033) (hI : LI N R Q pb ba sa hA nb ns nh M T) (nx : NX X G A h ad o b i 929 k n) : V X k n 590 (lM b (A 0) h o i L5 L6) [] (LV G A h ad o N R Q pb ba sa hA nb ns nh T M T f) := by
  obtain ⟨⟨tp, tp8, tN, tM⟩, ⟨hBt, hTx⟩, ⟨bN, bM, b40, bQ, bL⟩, ⟨sN, sM, s60, sQ, sL⟩, ⟨hN, hM0, h60, hQ⟩, hP⟩ := id hI
  have key : ∀ (N' : Nt) (R' : Rt) (pb' : Nat → Option PbT) (f' : Nat → Int64) (r : Int32), LI N' R' Q pb' ba sa hA nb ns nh M T → V X (k + 2) (n + 12) 607 (lM b (A 0) h o i L5 L6) [.int r] (LV G A h ad o N' R' Q pb' ba sa hA nb ns nh T M T f') := by
    intro N' R' pb' f' r hI'
    refine r_istore C dL_law_607 (by decide) ?_
    refine r_aload_n C dL_law_609 rfl rfl ?_
    refine r_aload_n C dL_law_610 rfl rfl ?_
    refine r_iload C dL_law_611 rfl ?_
    refine r_iconst (v := 1) C dL_law_613 (by decide) ?_
    refine r_iadd C dL_law_614 ?_
    refine r_sld (j := i + 1) C hSc sl_1 (by omega) (by omega) dL_law_615 ?_
    refine r_aload_n C dL_law_616 rfl rfl ?_
    refine r_iload C dL_law_617 rfl ?_
    refine r_iconst (v := 2) C dL_law_619 (by decide) ?_
    refine r_iadd C dL_law_620 ?_
    refine r_sld (j := i + 2) C hSc sl_2 (by omega) (by omega) dL_law_621 ?_
    refine V.perm q_m ?_
    refine lm_calli C (c_use G h ad M T (xs (i + 1)) (xs (i + 2)) hP.pats) kcL_X7_use dL_law_622 rfl (by decide) (by omega) (by omega) (Nat.le_of_ble_eq_true rfl) rfl rfl (fun r2 M2 R2 hu2 => ?_)
    have hKM : KM M M2 := by rcases hu2.2 with ⟨_, _, _, _, _, _, _, _, _, _, _, e⟩ | ⟨_, _, e⟩ <;> rw [e] <;> exact KM.up0
    have hKT : KT' T R2 := by obtain ⟨P, e⟩ := hu2.1; rw [e]; exact KT'.up (by decide)
    refine V.perm q_m.symm ?_
    refine V.eqW (LV_cg hKT) ?_
    refine r_istore C dL_law_625 (by decide) ?_
    refine r_goto (tgt := 929) C dL_law_627 (by decide) ?_
    exact nx N' R' Q pb' ba sa hA nb ns nh M2 R2 f' _ _ _ _ (hI'.keep hKM hKT) (by omega) (by omega)
  refine r_aload_n C dL_law_590 rfl rfl ?_
  refine r_aload_n C dL_law_591 rfl rfl ?_
  refine r_iload C dL_law_592 rfl ?_
  refine r_iconst (v := 1) C dL_law_594 (by decide) ?_
  refine r_iadd C dL_law_595 ?_
  refine r_sld (j := i + 1) C hSc sl_1 (by omega) (by omega) dL_law_596 ?_
  refine r_aload_n C dL_law_597 rfl rfl ?_
  refine r_iload C dL_law_598 rfl ?_
  refine r_iconst (v := 2) C dL_law_600 (by decide) ?_
  refine r_iadd C dL_law_601 ?_
  refine r_sld (j := i + 2) C hSc sl_2 (by omega) (by omega) dL_law_602 ?_
  refine r_aload_n C dL_law_603 rfl rfl ?_
  refine V.perm q_op ?_
  refine a_callHi C hE (h_use (G := G) (o := o) (f := f) (xs (i + 1)) (xs (i + 2)) (c_buse G A _ N R Q T pb hP (xs (i + 1)) (xs (i + 2))) rfl) kcL_L_use dL_law_604 rfl (by decide) (by omega) (by omega) (Nat.le_of_ble_eq_true rfl) rfl (fun r u hu => ?_)
  rcases u with _ | ⟨u1, v⟩
  · refine V.perm q_op.symm ?_
    exact key N R pb f r hI
  · refine V.perm q_op.symm ?_
    exact key N R pb (vp_updL f 0 v.toInt64) r hI
theorem l_left {i L k n nb ns nh : Nat} {N : Nt} {R : Rt} {Q : Qt} {pb : Nat → Option PbT} {ba sa hA : Nat → Nat} {M : Mt} {T : Rt} {f : Nat → Int64} {L5 L6 : Option Value} (C : Cx X G 7 code RL 11 601024 7293033) (hE : Ev X) (hSc : Scr X b L xs) (hi : i + 6 ≤ L) (hL : L ≤ 3072) (hk : k + 100 ≤ 601024) (hn : n + 2000 ≤ 7293033) (hI : LI N R Q pb ba sa hA nb ns nh M T) (nx : NX X G A h ad o b i 929 k n) : V X k n 679 (lM b (A 0) h o i L5 L6) [] (LV G A h ad o N R Q pb ba sa hA nb ns nh T M T f) := by
  obtain ⟨⟨tp, tp8, tN, tM⟩, ⟨hBt, hTx⟩, ⟨bN, bM, b40, bQ, bL⟩, ⟨sN, sM, s60, sQ, sL⟩, ⟨hN, hM0, h60, hQ⟩, hP⟩ := id hI
  have key : ∀ (N' : Nt) (R' : Rt) (pb' : Nat → Option PbT) (f' : Nat → Int64) (r : Int32), LI N' R' Q pb' ba sa hA nb ns nh M T → (((∀ i0 : Nat, i0 < nb → (xs (i + 1)) ≠ nI i0) ∧ r = 1) ∨ (r = 0 ∧ ∃ v : Int32, f' = vp_updL f 0 v.toInt64 ∧ ∃ i0 : Nat, i0 < nb ∧ (xs (i + 1)) = nI i0 ∧ v = T 33 i0)) → V X (k + 1) (n + 6) 690 (lM b (A 0) h o i L5 L6) [.int r] (LV G A h ad o N' R' Q pb' ba sa hA nb ns nh T M T f') := by
    intro N' R' pb' f' r hI' hco
    refine r_istore C dL_law_690 (by decide) ?_
    refine r_aload_n C dL_law_692 rfl rfl ?_
    refine r_aload_n C dL_law_693 rfl rfl ?_
    refine r_iload C dL_law_694 rfl ?_
    refine r_iconst (v := 1) C dL_law_696 (by decide) ?_
    refine r_iadd C dL_law_697 ?_
    refine r_sld (j := i + 1) C hSc sl_1 (by omega) (by omega) dL_law_698 ?_
    refine V.perm q_m ?_
    refine lm_calli C (c_left G h ad M T (xs (i + 1)) bM b40) kcL_X7_left dL_law_699 rfl (by decide) (by omega) (by omega) (Nat.le_of_ble_eq_true rfl) rfl rfl (fun r2 M2 R2 hu2 => ?_)
    have hKM : KM M M2 := by rcases hu2.2 with ⟨_, _, _, _, e⟩ | ⟨_, _, e⟩ <;> rw [e] <;> exact KM.up0
    have hKT : KT' T R2 := by rw [hu2.1]; exact KT'.rf
    refine V.perm q_m.symm ?_
    refine V.eqW (LV_cg hKT) ?_
    have hag : AgT M2 r r2 f f' := ag_num (F := fun i0 => T 33 i0) (by omega) hco hu2.2
    refine r_istore C dL_law_702 (by decide) ?_
    refine r_aload_n C dL_law_704 rfl rfl ?_
    refine V.perm q_m ?_
    refine lm_calli C (c_thrown G h ad M2 R2) kcL_X7_thrown dL_law_705 rfl (by decide) (by omega) (by omega) (Nat.le_of_ble_eq_true rfl) rfl rfl (fun r3 M3 R3 hu3 => ?_)
    obtain ⟨rfl, rfl, rfl⟩ := hu3
    refine V.perm q_m.symm ?_
    rw [hag.1]
    refine r_iload C dL_law_708 rfl ?_
    refine r_icmp_eq (tgt := 715) C dL_law_710 (by decide) (fun c710 => ?_) (fun c710 => absurd c710 ((fun q => q rfl)))
    skip
    by_cases hr0 : r = 0
    · obtain ⟨v, hf, hv⟩ := hag.2 hr0
      refine r_iload C dL_law_715 rfl ?_
      refine r_if_ne (tgt := 732) C dL_law_717 (by decide) (fun c717 => absurd c717 ((fun q => q hr0))) (fun c717 => ?_)
      refine r_aload_n C dL_law_720 rfl rfl ?_
      refine r_iconst (v := 0) C dL_law_721 (by decide) ?_
      refine V.perm q_o ?_
      refine r_lald C 0 rfl (vp_in_nI (n := 0) (by decide) (by decide)) dL_law_722 ?_
      refine V.perm q_o.symm ?_
      rw [hf]
      refine r_iload C dL_law_723 rfl ?_
      refine r_i2l C dL_law_725 ?_
      rw [hv]
      show V X _ _ 726 _ [.long v.toInt64, .long (vp_updL f 0 v.toInt64 0)] _
      rw [pk_uLs]
      refine r_lcmp C dL_law_726 ?_
      rw [lg_self]
      refine r_if_eq (tgt := 732) C dL_law_727 (by decide) (fun c727 => ?_) (fun c727 => absurd c727 ((fun q => q rfl)))
      refine r_goto (tgt := 929) C dL_law_732 (by decide) ?_
      exact nx N' R' Q pb' ba sa hA nb ns nh _ _ _ _ _ _ _ (hI'.keep hKM hKT) (by omega) (by omega)
    · refine r_iload C dL_law_715 rfl ?_
      refine r_if_ne (tgt := 732) C dL_law_717 (by decide) (fun c717 => ?_) (fun c717 => absurd c717 (hr0))
      refine r_goto (tgt := 929) C dL_law_732 (by decide) ?_
      exact nx N' R' Q pb' ba sa hA nb ns nh _ _ f' _ _ _ _ (hI'.keep hKM hKT) (by omega) (by omega)
  refine r_aload_n C dL_law_679 rfl rfl ?_
  refine r_aload_n C dL_law_680 rfl rfl ?_
  refine r_iload C dL_law_681 rfl ?_
  refine r_iconst (v := 1) C dL_law_683 (by decide) ?_
  refine r_iadd C dL_law_684 ?_
  refine r_sld (j := i + 1) C hSc sl_1 (by omega) (by omega) dL_law_685 ?_
  refine r_aload_n C dL_law_686 rfl rfl ?_
  refine V.perm q_o ?_
  refine a_callHi C hE (h_left (G := G) (o := o) (f := f) (xs (i + 1)) (c_bleft G A _ N R Q T ba (xs (i + 1)) bN b40 bQ) rfl) kcL_L_left dL_law_687 rfl (by decide) (by omega) (by omega) (Nat.le_of_ble_eq_true rfl) rfl (fun r u hu => ?_)
  rcases u with _ | ⟨u1, v⟩
  · refine V.perm q_o.symm ?_
    exact key N R pb f r hI (Or.inl hu)
  · refine V.perm q_o.symm ?_
    exact key N R pb (vp_updL f 0 v.toInt64) r hI (Or.inr ⟨hu.2, v, rfl, hu.1⟩)
theorem l_scored {i L k n nb ns nh : Nat} {N : Nt} {R : Rt} {Q : Qt} {pb : Nat → Option PbT} {ba sa hA : Nat → Nat} {M : Mt} {T : Rt} {f : Nat → Int64} {L5 L6 : Option Value} (C : Cx X G 7 code RL 11 601024 7293033) (hE : Ev X) (hSc : Scr X b L xs) (hi : i + 6 ≤ L) (hL : L ≤ 3072) (hk : k + 100 ≤ 601024) (hn : n + 2000 ≤ 7293033) (hI : LI N R Q pb ba sa hA nb ns nh M T) (nx : NX X G A h ad o b i 929 k n) : V X k n 784 (lM b (A 0) h o i L5 L6) [] (LV G A h ad o N R Q pb ba sa hA nb ns nh T M T f) := by
  obtain ⟨⟨tp, tp8, tN, tM⟩, ⟨hBt, hTx⟩, ⟨bN, bM, b40, bQ, bL⟩, ⟨sN, sM, s60, sQ, sL⟩, ⟨hN, hM0, h60, hQ⟩, hP⟩ := id hI
  have key : ∀ (N' : Nt) (R' : Rt) (pb' : Nat → Option PbT) (f' : Nat → Int64) (r : Int32), LI N' R' Q pb' ba sa hA nb ns nh M T → V X (k + 1) (n + 6) 801 (lM b (A 0) h o i L5 L6) [.int r] (LV G A h ad o N' R' Q pb' ba sa hA nb ns nh T M T f') := by
    intro N' R' pb' f' r hI'
    refine r_istore C dL_law_801 (by decide) ?_
    refine r_aload_n C dL_law_803 rfl rfl ?_
    refine r_aload_n C dL_law_804 rfl rfl ?_
    refine r_iload C dL_law_805 rfl ?_
    refine r_iconst (v := 1) C dL_law_807 (by decide) ?_
    refine r_iadd C dL_law_808 ?_
    refine r_sld (j := i + 1) C hSc sl_1 (by omega) (by omega) dL_law_809 ?_
    refine r_aload_n C dL_law_810 rfl rfl ?_
    refine r_iload C dL_law_811 rfl ?_
    refine r_iconst (v := 2) C dL_law_813 (by decide) ?_
    refine r_iadd C dL_law_814 ?_
    refine r_sld (j := i + 2) C hSc sl_2 (by omega) (by omega) dL_law_815 ?_
    refine V.perm q_m ?_
    refine lm_calli C (c_scored G h ad M T (xs (i + 1)) (xs (i + 2)) sM s60) kcL_X7_scored dL_law_816 rfl (by decide) (by omega) (by omega) (Nat.le_of_ble_eq_true rfl) rfl rfl (fun r2 M2 R2 hu2 => ?_)
    have hKM : KM M M2 := by rcases hu2.2 with ⟨_, _, _, _, _, _, e⟩ | ⟨_, _, e⟩ <;> rw [e] <;> exact KM.up0
    have hKT : KT' T R2 := by rw [hu2.1]; exact KT'.rf
    refine V.perm q_m.symm ?_
    refine V.eqW (LV_cg hKT) ?_
    refine r_istore C dL_law_819 (by decide) ?_
    refine r_goto (tgt := 929) C dL_law_821 (by decide) ?_
    exact nx N' R' Q pb' ba sa hA nb ns nh M2 R2 f' _ _ _ _ (hI'.keep hKM hKT) (by omega) (by omega)
  refine r_aload_n C dL_law_784 rfl rfl ?_
  refine r_aload_n C dL_law_785 rfl rfl ?_
  refine r_iload C dL_law_786 rfl ?_
  refine r_iconst (v := 1) C dL_law_788 (by decide) ?_
  refine r_iadd C dL_law_789 ?_
  refine r_sld (j := i + 1) C hSc sl_1 (by omega) (by omega) dL_law_790 ?_
  refine r_aload_n C dL_law_791 rfl rfl ?_
  refine r_iload C dL_law_792 rfl ?_
  refine r_iconst (v := 2) C dL_law_794 (by decide) ?_
  refine r_iadd C dL_law_795 ?_
  refine r_sld (j := i + 2) C hSc sl_2 (by omega) (by omega) dL_law_796 ?_
  refine r_aload_n C dL_law_797 rfl rfl ?_
  refine V.perm q_os ?_
  refine a_callHi C hE (h_scored (G := G) (o := o) (f := f) (xs (i + 1)) (xs (i + 2)) (c_bscored G A _ N R Q T sa (xs (i + 1)) (xs (i + 2)) sN s60 sQ) rfl) kcL_L_scored dL_law_798 rfl (by decide) (by omega) (by omega) (Nat.le_of_ble_eq_true rfl) rfl (fun r u hu => ?_)
  rcases u with _ | ⟨u1, v⟩
  · refine V.perm q_os.symm ?_
    exact key N R pb f r hI
  · refine V.perm q_os.symm ?_
    exact key N R pb (vp_updL f 0 v.toInt64) r hI
theorem l_sewn {i L k n nb ns nh : Nat} {N : Nt} {R : Rt} {Q : Qt} {pb : Nat → Option PbT} {ba sa hA : Nat → Nat} {M : Mt} {T : Rt} {f : Nat → Int64} {L5 L6 : Option Value} (C : Cx X G 7 code RL 11 601024 7293033) (hE : Ev X) (hSc : Scr X b L xs) (hi : i + 6 ≤ L) (hL : L ≤ 3072) (hk : k + 100 ≤ 601024) (hn : n + 2000 ≤ 7293033) (hI : LI N R Q pb ba sa hA nb ns nh M T) (nx : NX X G A h ad o b i 929 k n) : V X k n 861 (lM b (A 0) h o i L5 L6) [] (LV G A h ad o N R Q pb ba sa hA nb ns nh T M T f) := by
  obtain ⟨⟨tp, tp8, tN, tM⟩, ⟨hBt, hTx⟩, ⟨bN, bM, b40, bQ, bL⟩, ⟨sN, sM, s60, sQ, sL⟩, ⟨hN, hM0, h60, hQ⟩, hP⟩ := id hI
  have key : ∀ (N' : Nt) (R' : Rt) (pb' : Nat → Option PbT) (f' : Nat → Int64) (r : Int32), LI N' R' Q pb' ba sa hA nb ns nh M T → V X (k + 1) (n + 6) 878 (lM b (A 0) h o i L5 L6) [.int r] (LV G A h ad o N' R' Q pb' ba sa hA nb ns nh T M T f') := by
    intro N' R' pb' f' r hI'
    refine r_istore C dL_law_878 (by decide) ?_
    refine r_aload_n C dL_law_880 rfl rfl ?_
    refine r_aload_n C dL_law_881 rfl rfl ?_
    refine r_iload C dL_law_882 rfl ?_
    refine r_iconst (v := 1) C dL_law_884 (by decide) ?_
    refine r_iadd C dL_law_885 ?_
    refine r_sld (j := i + 1) C hSc sl_1 (by omega) (by omega) dL_law_886 ?_
    refine r_aload_n C dL_law_887 rfl rfl ?_
    refine r_iload C dL_law_888 rfl ?_
    refine r_iconst (v := 2) C dL_law_890 (by decide) ?_
    refine r_iadd C dL_law_891 ?_
    refine r_sld (j := i + 2) C hSc sl_2 (by omega) (by omega) dL_law_892 ?_
    refine V.perm q_m ?_
    refine lm_calli C (c_sewn G h ad M T (xs (i + 1)) (xs (i + 2)) hM0 h60) kcL_X7_sewn dL_law_893 rfl (by decide) (by omega) (by omega) (Nat.le_of_ble_eq_true rfl) rfl rfl (fun r2 M2 R2 hu2 => ?_)
    have hKM : KM M M2 := by rcases hu2.2 with ⟨_, _, _, _, _, _, e⟩ | ⟨_, _, e⟩ <;> rw [e] <;> exact KM.up0
    have hKT : KT' T R2 := by rw [hu2.1]; exact KT'.rf
    refine V.perm q_m.symm ?_
    refine V.eqW (LV_cg hKT) ?_
    refine r_istore C dL_law_896 (by decide) ?_
    refine r_goto (tgt := 929) C dL_law_898 (by decide) ?_
    exact nx N' R' Q pb' ba sa hA nb ns nh M2 R2 f' _ _ _ _ (hI'.keep hKM hKT) (by omega) (by omega)
  refine r_aload_n C dL_law_861 rfl rfl ?_
  refine r_aload_n C dL_law_862 rfl rfl ?_
  refine r_iload C dL_law_863 rfl ?_
  refine r_iconst (v := 1) C dL_law_865 (by decide) ?_
  refine r_iadd C dL_law_866 ?_
  refine r_sld (j := i + 1) C hSc sl_1 (by omega) (by omega) dL_law_867 ?_
  refine r_aload_n C dL_law_868 rfl rfl ?_
  refine r_iload C dL_law_869 rfl ?_
  refine r_iconst (v := 2) C dL_law_871 (by decide) ?_
  refine r_iadd C dL_law_872 ?_
  refine r_sld (j := i + 2) C hSc sl_2 (by omega) (by omega) dL_law_873 ?_
  refine r_aload_n C dL_law_874 rfl rfl ?_
  refine V.perm q_oh ?_
  refine a_callHi C hE (h_sewn (G := G) (o := o) (f := f) (xs (i + 1)) (xs (i + 2)) (c_bsewn G A _ N R Q T hA (xs (i + 1)) (xs (i + 2)) hN h60 hQ) rfl) kcL_L_sewn dL_law_875 rfl (by decide) (by omega) (by omega) (Nat.le_of_ble_eq_true rfl) rfl (fun r u hu => ?_)
  rcases u with _ | ⟨u1, v⟩
  · refine V.perm q_oh.symm ?_
    exact key N R pb f r hI
  · refine V.perm q_oh.symm ?_
    exact key N R pb (vp_updL f 0 v.toInt64) r hI
theorem l_count {i L k n nb ns nh : Nat} {N : Nt} {R : Rt} {Q : Qt} {pb : Nat → Option PbT} {ba sa hA : Nat → Nat} {M : Mt} {T : Rt} {f : Nat → Int64} {L5 L6 : Option Value} (C : Cx X G 7 code RL 11 601024 7293033) (hE : Ev X) (hSc : Scr X b L xs) (hi : i + 6 ≤ L) (hL : L ≤ 3072) (hk : k + 100 ≤ 601024) (hn : n + 2000 ≤ 7293033) (hI : LI N R Q pb ba sa hA nb ns nh M T) (nx : NX X G A h ad o b i 929 k n) : V X k n 901 (lM b (A 0) h o i L5 L6) [] (LV G A h ad o N R Q pb ba sa hA nb ns nh T M T f) := by
  obtain ⟨⟨tp, tp8, tN, tM⟩, ⟨hBt, hTx⟩, ⟨bN, bM, b40, bQ, bL⟩, ⟨sN, sM, s60, sQ, sL⟩, ⟨hN, hM0, h60, hQ⟩, hP⟩ := id hI
  have key : ∀ (N' : Nt) (R' : Rt) (pb' : Nat → Option PbT) (f' : Nat → Int64) (r : Int32), LI N' R' Q pb' ba sa hA nb ns nh M T → V X (k + 1) (n + 6) 912 (lM b (A 0) h o i L5 L6) [.int r] (LV G A h ad o N' R' Q pb' ba sa hA nb ns nh T M T f') := by
    intro N' R' pb' f' r hI'
    refine r_istore C dL_law_912 (by decide) ?_
    refine r_aload_n C dL_law_914 rfl rfl ?_
    refine r_aload_n C dL_law_915 rfl rfl ?_
    refine r_iload C dL_law_916 rfl ?_
    refine r_iconst (v := 1) C dL_law_918 (by decide) ?_
    refine r_iadd C dL_law_919 ?_
    refine r_sld (j := i + 1) C hSc sl_1 (by omega) (by omega) dL_law_920 ?_
    refine V.perm q_m ?_
    refine lm_calli C (c_count G h ad M T (xs (i + 1)) bM b40 bL) kcL_X7_count dL_law_921 rfl (by decide) (by omega) (by omega) (Nat.le_of_ble_eq_true rfl) rfl rfl (fun r2 M2 R2 hu2 => ?_)
    have hKM : KM M M2 := by rcases hu2.2 with ⟨_, _, e⟩ | ⟨_, _, e⟩ | ⟨_, _, e⟩ | ⟨_, _, e⟩ | ⟨_, _, e⟩ | ⟨_, _, e⟩ <;> rw [e] <;> exact KM.up0
    have hKT : KT' T R2 := by rw [hu2.1]; exact KT'.rf
    refine V.perm q_m.symm ?_
    refine V.eqW (LV_cg hKT) ?_
    refine r_istore C dL_law_924 (by decide) ?_
    refine r_goto (tgt := 929) C dL_law_926 (by decide) ?_
    exact nx N' R' Q pb' ba sa hA nb ns nh M2 R2 f' _ _ _ _ (hI'.keep hKM hKT) (by omega) (by omega)
  refine r_aload_n C dL_law_901 rfl rfl ?_
  refine r_aload_n C dL_law_902 rfl rfl ?_
  refine r_iload C dL_law_903 rfl ?_
  refine r_iconst (v := 1) C dL_law_905 (by decide) ?_
  refine r_iadd C dL_law_906 ?_
  refine r_sld (j := i + 1) C hSc sl_1 (by omega) (by omega) dL_law_907 ?_
  refine r_aload_n C dL_law_908 rfl rfl ?_
  refine V.perm q_o ?_
  refine a_callHi C hE (h_count (G := G) (o := o) (f := f) (xs (i + 1)) (c_bcount G A _ N R Q T ba (xs (i + 1)) bN b40 bQ bL) rfl) kcL_L_count dL_law_909 rfl (by decide) (by omega) (by omega) (Nat.le_of_ble_eq_true rfl) rfl (fun r u hu => ?_)
  rcases u with _ | ⟨u1, v⟩
  · refine V.perm q_o.symm ?_
    exact key N R pb f r hI
  · refine V.perm q_o.symm ?_
    exact key N R pb (vp_updL f 0 v.toInt64) r hI
theorem l_pattern {i L k n nb ns nh : Nat} {N : Nt} {R : Rt} {Q : Qt} {pb : Nat → Option PbT} {ba sa hA : Nat → Nat} {M : Mt} {T : Rt} {f : Nat → Int64} {L5 L6 : Option Value} (C : Cx X G 7 code RL 11 601024 7293033) (hE : Ev X) (hSc : Scr X b L xs) (hi : i + 6 ≤ L) (hL : L ≤ 3072) (hk : k + 100 ≤ 601024) (hn : n + 2000 ≤ 7293033) (hI : LI N R Q pb ba sa hA nb ns nh M T) (nx : NX X G A h ad o b i 929 k n) : V X k n 205 (lM b (A 0) h o i L5 L6) [] (LV G A h ad o N R Q pb ba sa hA nb ns nh T M T f) := by
  obtain ⟨⟨tp, tp8, tN, tM⟩, ⟨hBt, hTx⟩, ⟨bN, bM, b40, bQ, bL⟩, ⟨sN, sM, s60, sQ, sL⟩, ⟨hN, hM0, h60, hQ⟩, hP⟩ := id hI
  have key : ∀ (N' : Nt) (R' : Rt) (Q' : Qt) (pb' : Nat → Option PbT) (f' : Nat → Int64) (r : Int32), (((¬ ∃ j n e, okP tp (xs (i + 1)) (xs (i + 2)) (xs (i + 3)) j n e) ∧ N' = N ∧ R' = R ∧ Q' = Q ∧ pb' = pb) ∨ ∃ j n e v, okP tp (xs (i + 1)) (xs (i + 2)) (xs (i + 3)) j n e ∧ ptB N N' R R' Q Q' T pb pb' j n v (readF true (txt (R 1)) (T 5) (T 6) (T 7) e n)) → V X (k + 21) (n + 763) 228 (lM b (A 0) h o i L5 L6) [.int r] (LV G A h ad o N' R' Q' pb' ba sa hA nb ns nh T M T f') := by
    intro N' R' Q' pb' f' r hco
    rw [hTx] at hco
    refine r_istore C dL_law_228 (by decide) ?_
    refine r_aload_n C dL_law_230 rfl rfl ?_
    refine r_aload_n C dL_law_231 rfl rfl ?_
    refine r_iload C dL_law_232 rfl ?_
    refine r_iconst (v := 1) C dL_law_234 (by decide) ?_
    refine r_iadd C dL_law_235 ?_
    refine r_sld (j := i + 1) C hSc sl_1 (by omega) (by omega) dL_law_236 ?_
    refine r_aload_n C dL_law_237 rfl rfl ?_
    refine r_iload C dL_law_238 rfl ?_
    refine r_iconst (v := 2) C dL_law_240 (by decide) ?_
    refine r_iadd C dL_law_241 ?_
    refine r_sld (j := i + 2) C hSc sl_2 (by omega) (by omega) dL_law_242 ?_
    refine r_aload_n C dL_law_243 rfl rfl ?_
    refine r_iload C dL_law_244 rfl ?_
    refine r_iconst (v := 3) C dL_law_246 (by decide) ?_
    refine r_iadd C dL_law_247 ?_
    refine r_sld (j := i + 3) C hSc sl_3 (by omega) (by omega) dL_law_248 ?_
    refine V.perm q_m ?_
    refine lm_calli C (c_patt G h ad M T (tp := tp) hP.pats tM tp8 (xs (i + 1)) (xs (i + 2)) (xs (i + 3))) kcL_X7_pattern_ dL_law_249 rfl (by decide) (by omega) (by omega) (Nat.le_of_ble_eq_true rfl) rfl rfl (fun r2 M2 R2 hu2 => ?_)
    refine V.perm q_m.symm ?_
    refine (show V X (k + 21) (n + 763) 252 (lM b (A 0) h o i (some (.int r)) L6) [.int r2] (LV G A h ad o N' R' Q' pb' ba sa hA nb ns nh T M2 R2 f') from ?_)
    skip
    have fin : KZ T R2 ∧ LI N' R' Q' pb' ba sa hA nb ns nh M2 R2 := by
      rcases hu2 with ⟨h1, -, rfl, rfl⟩ | ⟨j, n, e, h1, m0, m2, mk, h2⟩
      · rcases hco with ⟨-, rfl, rfl, rfl, rfl⟩ | ⟨j, n, e, v, h3, -⟩
        · exact ⟨fun _ _ _ => rfl, hI.keep KM.up0 KT'.rf⟩
        · exact absurd ⟨j, n, e, h3⟩ h1
      · rcases hco with ⟨h3, -⟩ | ⟨j', n', e', v, h3, n0, r1, qk, h4⟩
        · exact absurd ⟨j, n, e, h1⟩ h3
        · obtain ⟨rfl, rfl, rfl⟩ := okP_uniq tp8 h1 h3
          have base : ∀ (R2 : Rt), (∀ i, (i = 1 ∨ (31 ≤ i ∧ i ≤ 42)) → R2 i = T i) → PtI pb' (Q' 2) R2 → KZ T R2 ∧ LI N' R' Q' pb' ba sa hA nb ns nh M2 R2 := by
            intro R2 hk hPt
            refine ⟨fun i a c => hk i (by omega), ⟨0, by decide, by rw [n0]; rfl, m2⟩, ⟨by rw [r1]; exact hBt, by rw [r1, hk 1 (by omega)]; exact hTx⟩, ⟨by rw [n0]; exact bN, by rw [mk 28 (by decide) (by decide)]; exact bM, b40, by rw [qk 11 (by decide)]; exact bQ, by rw [hk 33 (by omega)]; exact bL⟩, ⟨by rw [n0]; exact sN, by rw [mk 29 (by decide) (by decide)]; exact sM, s60, by rw [qk 12 (by decide)]; exact sQ, by rw [hk 35 (by omega)]; exact sL⟩, ⟨by rw [n0]; exact hN, by rw [mk 30 (by decide) (by decide)]; exact hM0, h60, by rw [qk 13 (by decide)]; exact hQ⟩, hPt⟩
          have bad : RdR T R2 → Q' = Q → pb' = pb → KZ T R2 ∧ LI N' R' Q' pb' ba sa hA nb ns nh M2 R2 := by
            intro hR e1 e2
            refine base R2 (fun i hi => hR i (by omega) (by omega) (by omega)) ?_
            rw [e1, e2]
            exact hP.cgT (hR 5 (by decide) (by decide) (by decide)) (hR 6 (by decide) (by decide) (by decide)) (hR 7 (by decide) (by decide) (by decide))
          rcases read_md (t := T 1) (p5 := T 5) (p6 := T 6) (p7 := T 7) (e := e) (n := n) with w | ⟨p, w1, w2⟩
          · rw [w] at h4
            cases ho : readF false (T 1) (T 5) (T 6) (T 7) e n with
            | inl f0 =>
              rw [ho] at h2 h4
              exact bad h2.2.2.2 h4.2.2.2.1 h4.2.2.2.2
            | inr q =>
              rw [ho] at h2 h4
              obtain ⟨-, -, -, e5, e6, e7, eo, -, -⟩ := h2
              refine base R2 (fun i hi => eo i (by omega) (by omega) (by omega) (by omega) (by omega) (by omega)) ?_
              exact h4.2.2.2.cgT e5 e6 e7
          · rw [w1] at h4
            rw [w2] at h2
            exact bad h2.2.2.2 h4.2.2.2.1 h4.2.2.2.2
    refine V.eqW (LV_cs fin.1) ?_
    refine r_istore C dL_law_252 (by decide) ?_
    refine r_goto (tgt := 929) C dL_law_254 (by decide) ?_
    exact nx N' R' Q' pb' ba sa hA nb ns nh M2 R2 f' _ _ _ _ fin.2 (by omega) (by omega)
  refine r_aload_n C dL_law_205 rfl rfl ?_
  refine r_aload_n C dL_law_206 rfl rfl ?_
  refine r_iload C dL_law_207 rfl ?_
  refine r_iconst (v := 1) C dL_law_209 (by decide) ?_
  refine r_iadd C dL_law_210 ?_
  refine r_sld (j := i + 1) C hSc sl_1 (by omega) (by omega) dL_law_211 ?_
  refine r_aload_n C dL_law_212 rfl rfl ?_
  refine r_iload C dL_law_213 rfl ?_
  refine r_iconst (v := 2) C dL_law_215 (by decide) ?_
  refine r_iadd C dL_law_216 ?_
  refine r_sld (j := i + 2) C hSc sl_2 (by omega) (by omega) dL_law_217 ?_
  refine r_aload_n C dL_law_218 rfl rfl ?_
  refine r_iload C dL_law_219 rfl ?_
  refine r_iconst (v := 3) C dL_law_221 (by decide) ?_
  refine r_iadd C dL_law_222 ?_
  refine r_sld (j := i + 3) C hSc sl_3 (by omega) (by omega) dL_law_223 ?_
  refine r_aload_n C dL_law_224 rfl rfl ?_
  refine V.perm q_op ?_
  refine a_callHi C hE (h_pattern (G := G) (o := o) (f := f) (xs (i + 1)) (xs (i + 2)) (xs (i + 3)) (c_bpattern G A _ N R Q T pb (tp := tp) hP hBt tN tp8 (xs (i + 1)) (xs (i + 2)) (xs (i + 3))) rfl) kcL_L_pattern dL_law_225 rfl (by decide) (by omega) (by omega) (Nat.le_of_ble_eq_true rfl) rfl (fun r u hu => ?_)
  rcases u with _ | ⟨u1, v⟩
  · refine V.perm q_op.symm ?_
    exact key N R Q pb f r (Or.inl ⟨hu.1, rfl, rfl, rfl, rfl⟩)
  · refine V.perm q_op.symm ?_
    obtain ⟨⟨j, n0, e, h1, h2⟩, -⟩ := hu
    exact key u1.1 u1.2.1 u1.2.2.1 u1.2.2.2 (vp_updL f 0 v.toInt64) r (Or.inr ⟨j, n0, e, v, h1, h2⟩)
theorem l_size {i L k n nb ns nh : Nat} {N : Nt} {R : Rt} {Q : Qt} {pb : Nat → Option PbT} {ba sa hA : Nat → Nat} {M : Mt} {T : Rt} {f : Nat → Int64} {L5 L6 : Option Value} (C : Cx X G 7 code RL 11 601024 7293033) (hE : Ev X) (hSc : Scr X b L xs) (hi : i + 6 ≤ L) (hL : L ≤ 3072) (hk : k + 100 ≤ 601024) (hn : n + 2000 ≤ 7293033) (hI : LI N R Q pb ba sa hA nb ns nh M T) (nx : NX X G A h ad o b i 929 k n) : V X k n 285 (lM b (A 0) h o i L5 L6) [] (LV G A h ad o N R Q pb ba sa hA nb ns nh T M T f) := by
  obtain ⟨⟨tp, tp8, tN, tM⟩, ⟨hBt, hTx⟩, ⟨bN, bM, b40, bQ, bL⟩, ⟨sN, sM, s60, sQ, sL⟩, ⟨hN, hM0, h60, hQ⟩, hP⟩ := id hI
  have key : ∀ (_u : Unit) (r : Int32), ((∃ j, j < 8 ∧ (xs (i + 1)) = nI j ∧ 0 < T 5 j ∧ r = T 6 j) ∨ (¬ isPat T (xs (i + 1)) ∧ r = -1)) → V X (k + 0) (n + 0) 295 (lM b (A 0) h o i L5 L6) [.int r] (LV G A h ad o N R Q pb ba sa hA nb ns nh T M T f) := by
    intro _u r hco
    refine r_pop C dL_law_295 rfl ?_
    refine r_aload_n C dL_law_296 rfl rfl ?_
    refine r_aload_n C dL_law_297 rfl rfl ?_
    refine r_iload C dL_law_298 rfl ?_
    refine r_iconst (v := 1) C dL_law_300 (by decide) ?_
    refine r_iadd C dL_law_301 ?_
    refine r_sld (j := i + 1) C hSc sl_1 (by omega) (by omega) dL_law_302 ?_
    refine V.perm q_m ?_
    refine lm_calli C (c_size G h ad M T (xs (i + 1)) (cl (xs (i + 1))) (fun p q => sz_arg p q)) kcL_X7_size dL_law_303 rfl (by decide) (by omega) (by omega) (Nat.le_of_ble_eq_true rfl) rfl rfl (fun r2 M2 R2 hu2 => ?_)
    refine V.perm q_m.symm ?_
    refine (show V X (k + 0) (n + 0) 306 (lM b (A 0) h o i L5 L6) [.int r2] (LV G A h ad o N R Q pb ba sa hA nb ns nh T M2 R2 f) from ?_)
    skip
    have fin : r = r2 ∧ KZ T R2 ∧ LI N R Q pb ba sa hA nb ns nh M2 R2 := by
      obtain ⟨rfl, rfl, hr2⟩ := hu2
      refine ⟨?_, fun _ _ _ => rfl, hI.keep KM.up0 KT'.rf⟩
      rcases hco with ⟨j, hj, ej, h0, hr⟩ | ⟨hno, hr⟩
      · have hc : cl (xs (i + 1)) = j := by rw [ej]; exact cl_nI (by omega)
        rw [hr2, hc, if_pos ⟨by rw [ej]; exact nI_pos (by omega), by rw [ej, show (7 : Int32) = nI 7 from rfl, nI_ltI (by decide) (by omega)]; omega, h0⟩]; exact hr
      · rw [hr2, if_neg (fun w => hno ⟨cl (xs (i + 1)), (sz_arg w.1 w.2.1).2, (sz_arg w.1 w.2.1).1, w.2.2⟩)]; exact hr
    refine V.eqW (LV_cs fin.2.1) ?_
    refine r_pop C dL_law_306 rfl ?_
    refine r_goto (tgt := 929) C dL_law_307 (by decide) ?_
    exact nx N R Q pb ba sa hA nb ns nh M2 R2 f _ _ _ _ fin.2.2 (by omega) (by omega)
  refine r_aload_n C dL_law_285 rfl rfl ?_
  refine r_aload_n C dL_law_286 rfl rfl ?_
  refine r_iload C dL_law_287 rfl ?_
  refine r_iconst (v := 1) C dL_law_289 (by decide) ?_
  refine r_iadd C dL_law_290 ?_
  refine r_sld (j := i + 1) C hSc sl_1 (by omega) (by omega) dL_law_291 ?_
  refine V.perm q_p ?_
  refine a_callXi C hE (c_bsize G A _ N R Q T pb hP (xs (i + 1))) kcL_X6_size dL_law_292 rfl (by decide) (by omega) (by omega) (Nat.le_of_ble_eq_true rfl) 0 rfl (ci := 6) rfl rfl rfl (fun q => q.elim) (fun r u hu => ?_)
  refine V.perm q_p.symm ?_
  exact key () r hu
theorem l_bundle {i L k n nb ns nh : Nat} {N : Nt} {R : Rt} {Q : Qt} {pb : Nat → Option PbT} {ba sa hA : Nat → Nat} {M : Mt} {T : Rt} {f : Nat → Int64} {L5 L6 : Option Value} (C : Cx X G 7 code RL 11 601024 7293033) (hE : Ev X) (hSc : Scr X b L xs) (hi : i + 6 ≤ L) (hL : L ≤ 3072) (hk : k + 100 ≤ 601024) (hn : n + 2000 ≤ 7293033) (hI : LI N R Q pb ba sa hA nb ns nh M T) (nx : NX X G A h ad o b i 929 k n) : V X k n 630 (lM b (A 0) h o i L5 L6) [] (LV G A h ad o N R Q pb ba sa hA nb ns nh T M T f) := by
  obtain ⟨⟨tp, tp8, tN, tM⟩, ⟨hBt, hTx⟩, ⟨bN, bM, b40, bQ, bL⟩, ⟨sN, sM, s60, sQ, sL⟩, ⟨hN, hM0, h60, hQ⟩, hP⟩ := id hI
  have key : ∀ (N' : Nt) (Q' : Qt) (ba' : Nat → Nat) (nb' : Nat) (T' : Rt) (r : Int32), ((okB nb (xs (i + 1)) (xs (i + 2)) (xs (i + 3)) ∧ r = nI nb ∧ ∃ q, N' = va_up N 0 (va_up (N 0) 6 (nI (nb + 1))) ∧ Q' = va_up Q 11 (va_up (Q 11) nb (some q)) ∧ ba' = va_up ba nb q ∧ nb' = nb + 1 ∧ T' = va_up (va_up (va_up T 31 (upd (T 31) nb (xs (i + 1)))) 32 (upd (T 32) nb (xs (i + 2)))) 33 (upd (T 33) nb (xs (i + 3)))) ∨ (¬ okB nb (xs (i + 1)) (xs (i + 2)) (xs (i + 3)) ∧ r = -1 ∧ N' = N ∧ Q' = Q ∧ ba' = ba ∧ nb' = nb ∧ T' = T)) → V X (k + 1) (n + 3) 652 (lM b (A 0) h o i L5 L6) [.int r] (LV G A h ad o N' R Q' pb ba' sa hA nb' ns nh T' M T f) := by
    intro N' Q' ba' nb' T' r hco
    refine r_pop C dL_law_652 rfl ?_
    refine r_aload_n C dL_law_653 rfl rfl ?_
    refine r_aload_n C dL_law_654 rfl rfl ?_
    refine r_iload C dL_law_655 rfl ?_
    refine r_iconst (v := 1) C dL_law_657 (by decide) ?_
    refine r_iadd C dL_law_658 ?_
    refine r_sld (j := i + 1) C hSc sl_1 (by omega) (by omega) dL_law_659 ?_
    refine r_aload_n C dL_law_660 rfl rfl ?_
    refine r_iload C dL_law_661 rfl ?_
    refine r_iconst (v := 2) C dL_law_663 (by decide) ?_
    refine r_iadd C dL_law_664 ?_
    refine r_sld (j := i + 2) C hSc sl_2 (by omega) (by omega) dL_law_665 ?_
    refine r_aload_n C dL_law_666 rfl rfl ?_
    refine r_iload C dL_law_667 rfl ?_
    refine r_iconst (v := 3) C dL_law_669 (by decide) ?_
    refine r_iadd C dL_law_670 ?_
    refine r_sld (j := i + 3) C hSc sl_3 (by omega) (by omega) dL_law_671 ?_
    refine V.perm q_m ?_
    refine lm_calli C (c_bundle G h ad M T (b := nb) (xs (i + 1)) (xs (i + 2)) (xs (i + 3)) bM b40) kcL_X7_bundle dL_law_672 rfl (by decide) (by omega) (by omega) (Nat.le_of_ble_eq_true rfl) rfl rfl (fun r2 M2 R2 hu2 => ?_)
    refine V.perm q_m.symm ?_
    refine (show V X (k + 1) (n + 3) 675 (lM b (A 0) h o i L5 L6) [.int r2] (LV G A h ad o N' R Q' pb ba' sa hA nb' ns nh T' M2 R2 f) from ?_)
    skip
    have fin : r = r2 ∧ KZ T' R2 ∧ LI N' R Q' pb ba' sa hA nb' ns nh M2 R2 := by
      rcases hco with ⟨h1, rfl, q, rfl, rfl, rfl, rfl, rfl⟩ | ⟨h1, rfl, rfl, rfl, rfl, rfl, rfl⟩
      · rcases hu2 with ⟨-, rfl, rfl, rfl⟩ | ⟨h2, -⟩
        · obtain ⟨o1, o2, o3, o4, o5, o6, o7⟩ := id h1
          obtain ⟨qn, hqn, hq⟩ := nI_of (x := (xs (i + 3))) (fun w => o6 (Int32.lt_trans w (by decide)))
          have hq5 : qn ≤ 5000 := by
            rw [hq, show (5000 : Int32) = nI 5000 from rfl, nI_leI hqn (by decide)] at o7
            exact o7
          refine ⟨rfl, fun _ _ _ => rfl, ⟨tp, tp8, tN, tM⟩, ⟨hBt, hTx⟩, ⟨rfl, rfl, by omega, fun i hi => ?_, fun i hi => ?_⟩, ⟨sN, sM, s60, sQ, sL⟩, ⟨hN, hM0, h60, hQ⟩, hP.cgT rfl rfl rfl⟩
          · show va_up (Q 11) nb (some q) i = some (va_up ba nb q i)
            by_cases e : i = nb
            · subst e; rw [va_up_at, va_up_at]
            · rw [va_up_no e, va_up_no e]; exact bQ i (by omega)
          · show upd (T 33) nb _ i = nI (cl (upd (T 33) nb _ i)) ∧ cl (upd (T 33) nb _ i) ≤ 5000
            by_cases e : i = nb
            · subst e; rw [pk_us, hq, cl_nI hqn]; exact ⟨rfl, hq5⟩
            · rw [pk_un e]; exact bL i (by omega)
        · exact absurd h1 h2
      · rcases hu2 with ⟨h2, -⟩ | ⟨-, rfl, rfl, rfl⟩
        · exact absurd h2 h1
        · exact ⟨rfl, fun _ _ _ => rfl, hI.keep KM.up0 KT'.rf⟩
    refine V.eqW (LV_cs fin.2.1) ?_
    refine r_pop C dL_law_675 rfl ?_
    refine r_goto (tgt := 929) C dL_law_676 (by decide) ?_
    exact nx N' R Q' pb ba' sa hA nb' ns nh M2 R2 f _ _ _ _ fin.2.2 (by omega) (by omega)
  refine r_aload_n C dL_law_630 rfl rfl ?_
  refine r_aload_n C dL_law_631 rfl rfl ?_
  refine r_iload C dL_law_632 rfl ?_
  refine r_iconst (v := 1) C dL_law_634 (by decide) ?_
  refine r_iadd C dL_law_635 ?_
  refine r_sld (j := i + 1) C hSc sl_1 (by omega) (by omega) dL_law_636 ?_
  refine r_aload_n C dL_law_637 rfl rfl ?_
  refine r_iload C dL_law_638 rfl ?_
  refine r_iconst (v := 2) C dL_law_640 (by decide) ?_
  refine r_iadd C dL_law_641 ?_
  refine r_sld (j := i + 2) C hSc sl_2 (by omega) (by omega) dL_law_642 ?_
  refine r_aload_n C dL_law_643 rfl rfl ?_
  refine r_iload C dL_law_644 rfl ?_
  refine r_iconst (v := 3) C dL_law_646 (by decide) ?_
  refine r_iadd C dL_law_647 ?_
  refine r_sld (j := i + 3) C hSc sl_3 (by omega) (by omega) dL_law_648 ?_
  refine (show V X k n 649 _ _ (bW G A N R Q ++ (rgm nb (bnC ba T) ++ (rgm ns (scC sa T) ++ (rgm nh (haC hA T) ++ (plB G pb ++ (mW G h ad M T ++ [(o, .inl (G.2.2 2, 1, .inr (.inl f)))])))))) from ?_)
  refine a_callVi C (c_bbundle G A _ N R Q (nb := nb) (xs (i + 1)) (xs (i + 2)) (xs (i + 3)) bN b40) kcL_X6_bundle dL_law_649 rfl (by decide) (by omega) (by omega) (Nat.le_of_ble_eq_true rfl) 0 rfl (ci := 6) rfl rfl rfl (fun r u hu => ?_)
  rcases hu with ⟨h1, h2, h3⟩ | ⟨h1, h2, h3⟩
  · cases u with
    | none => exact absurd rfl h3
    | some q =>
      refine V.perm (List.Perm.append_left _ (show List.Perm _ ((rgm nb (bnC ba T) ++ [(q, .inr (0, [.int (xs (i + 1)), .int (xs (i + 2)), .int (xs (i + 3))]))]) ++ _) from by rw [List.append_assoc]; exact List.perm_middle.symm)) ?_
      rw [bn_cells]
      exact key _ _ (va_up ba nb q) (nb + 1) (va_up (va_up (va_up T 31 (upd (T 31) nb (xs (i + 1)))) 32 (upd (T 32) nb (xs (i + 2)))) 33 (upd (T 33) nb (xs (i + 3)))) r (Or.inl ⟨h1, h2, q, rfl, rfl, rfl, rfl, rfl⟩)
  · subst h3
    exact key N Q ba nb T r (Or.inr ⟨h1, h2, rfl, rfl, rfl, rfl, rfl⟩)
theorem l_score {i L k n nb ns nh : Nat} {N : Nt} {R : Rt} {Q : Qt} {pb : Nat → Option PbT} {ba sa hA : Nat → Nat} {M : Mt} {T : Rt} {f : Nat → Int64} {L5 L6 : Option Value} (C : Cx X G 7 code RL 11 601024 7293033) (hE : Ev X) (hSc : Scr X b L xs) (hi : i + 6 ≤ L) (hL : L ≤ 3072) (hk : k + 100 ≤ 601024) (hn : n + 2000 ≤ 7293033) (hI : LI N R Q pb ba sa hA nb ns nh M T) (nx : NX X G A h ad o b i 929 k n) : V X k n 735 (lM b (A 0) h o i L5 L6) [] (LV G A h ad o N R Q pb ba sa hA nb ns nh T M T f) := by
  obtain ⟨⟨tp, tp8, tN, tM⟩, ⟨hBt, hTx⟩, ⟨bN, bM, b40, bQ, bL⟩, ⟨sN, sM, s60, sQ, sL⟩, ⟨hN, hM0, h60, hQ⟩, hP⟩ := id hI
  have key : ∀ (N' : Nt) (Q' : Qt) (sa' : Nat → Nat) (ns' : Nat) (T' : Rt) (r : Int32), ((∃ q j s z Tn wn : Nat, okS T ns (xs (i + 1)) (xs (i + 2)) (xs (i + 3)) j s z Tn wn ∧ scNeed T j s z Tn ≤ sumW (T 32) (T 33) (xs (i + 3)) nb ∧ r = nI ns ∧ N' = va_up N 0 (va_up (N 0) 8 (nI (ns + 1))) ∧ Q' = va_up Q 12 (va_up (Q 12) ns (some q)) ∧ sa' = va_up sa ns q ∧ ns' = ns + 1 ∧ T' = scR T j s z Tn nb ns (xs (i + 3))) ∨ (r = -1 ∧ ((∀ j s z Tn wn : Nat, ¬ okS T ns (xs (i + 1)) (xs (i + 2)) (xs (i + 3)) j s z Tn wn) ∨ (∃ j s z Tn wn : Nat, okS T ns (xs (i + 1)) (xs (i + 2)) (xs (i + 3)) j s z Tn wn ∧ sumW (T 32) (T 33) (xs (i + 3)) nb < scNeed T j s z Tn)) ∧ N' = N ∧ Q' = Q ∧ sa' = sa ∧ ns' = ns ∧ T' = T)) → V X (k + 1) (n + 5) 757 (lM b (A 0) h o i L5 L6) [.int r] (LV G A h ad o N' R Q' pb ba sa' hA nb ns' nh T' M T f) := by
    intro N' Q' sa' ns' T' r hco
    refine r_pop C dL_law_757 rfl ?_
    refine r_aload_n C dL_law_758 rfl rfl ?_
    refine r_aload_n C dL_law_759 rfl rfl ?_
    refine r_iload C dL_law_760 rfl ?_
    refine r_iconst (v := 1) C dL_law_762 (by decide) ?_
    refine r_iadd C dL_law_763 ?_
    refine r_sld (j := i + 1) C hSc sl_1 (by omega) (by omega) dL_law_764 ?_
    refine r_aload_n C dL_law_765 rfl rfl ?_
    refine r_iload C dL_law_766 rfl ?_
    refine r_iconst (v := 2) C dL_law_768 (by decide) ?_
    refine r_iadd C dL_law_769 ?_
    refine r_sld (j := i + 2) C hSc sl_2 (by omega) (by omega) dL_law_770 ?_
    refine r_aload_n C dL_law_771 rfl rfl ?_
    refine r_iload C dL_law_772 rfl ?_
    refine r_iconst (v := 3) C dL_law_774 (by decide) ?_
    refine r_iadd C dL_law_775 ?_
    refine r_sld (j := i + 3) C hSc sl_3 (by omega) (by omega) dL_law_776 ?_
    refine V.perm q_m ?_
    refine lm_calli C (c_score G h ad M T (nb := nb) (ns := ns) (xs (i + 1)) (xs (i + 2)) (xs (i + 3)) hP.pats (p05 hP) bM b40 sM s60 bL) kcL_X7_score dL_law_777 rfl (by decide) (by omega) (by omega) (Nat.le_of_ble_eq_true rfl) rfl rfl (fun r2 M2 R2 hu2 => ?_)
    refine V.perm q_m.symm ?_
    refine (show V X (k + 1) (n + 5) 780 (lM b (A 0) h o i L5 L6) [.int r2] (LV G A h ad o N' R Q' pb ba sa' hA nb ns' nh T' M2 R2 f) from ?_)
    skip
    have fin : r = r2 ∧ KZ T' R2 ∧ LI N' R Q' pb ba sa' hA nb ns' nh M2 R2 := by
      rcases hco with ⟨q, j, s, z, Tn, wn, h1, h2, rfl, rfl, rfl, rfl, rfl, rfl⟩ | ⟨rfl, h3, rfl, rfl, rfl, rfl, rfl⟩
      · rcases hu2 with ⟨h4, -⟩ | ⟨j', s', z', Tn', wn', h5, h6, rfl, rfl, h7⟩
        · rcases h4 with h4 | ⟨j', s', z', Tn', wn', h5, h6⟩
          · exact absurd h1 (h4 j s z Tn wn)
          · obtain ⟨rfl, rfl, rfl, rfl, rfl⟩ := okS_uniq h1 h5
            omega
        · obtain ⟨rfl, rfl, rfl, rfl, rfl⟩ := okS_uniq h1 h5
          have hr : ∀ i0, i0 ≠ 26 → i0 ≠ 27 → i0 ≠ 43 → i0 ≠ 44 → R2 i0 = scR T j s z Tn nb ns (xs (i + 3)) i0 := h7
          obtain ⟨-, -, -, hp, -, t1, t2, -⟩ := id h1
          have hz := hp.2.2.2.2.1
          have hlv := lvMost_le (c := rowOf T j) z
          have hmul : 2 * lvMost (rowOf T j) z * Tn ≤ 600 * 200 := Nat.mul_le_mul (by omega) t2
          have hs59 : ns < 60 := by have := h1.1; omega
          refine ⟨rfl, fun i a c => hr i (by omega) (by omega) (by omega) (by omega), ⟨tp, tp8, tN, tM⟩, ⟨hBt, by rw [hr 1 (by decide) (by decide) (by decide) (by decide)]; exact hTx⟩, ⟨bN, bM, b40, bQ, ?_⟩, ⟨rfl, rfl, by omega, fun i hi => ?_, fun i hi => ?_⟩, ⟨hN, hM0, h60, hQ⟩, hP.cgT (hr 5 (by decide) (by decide) (by decide) (by decide)) (hr 6 (by decide) (by decide) (by decide) (by decide)) (hr 7 (by decide) (by decide) (by decide) (by decide))⟩
          · rw [hr 33 (by decide) (by decide) (by decide) (by decide)]
            exact (tk_ok (by decide) bL nb).1
          · show va_up (Q 12) ns (some q) i = some (va_up sa ns q i)
            by_cases e : i = ns
            · subst e; rw [va_up_at, va_up_at]
            · rw [va_up_no e, va_up_no e]; exact sQ i (by omega)
          · rw [hr 35 (by decide) (by decide) (by decide) (by decide)]
            show upd (T 35) ns _ i = nI (cl (upd (T 35) ns _ i)) ∧ cl (upd (T 35) ns _ i) ≤ 120000
            by_cases e : i = ns
            · subst e; rw [pk_us, cl_nI (by omega)]; exact ⟨rfl, by omega⟩
            · rw [pk_un e]; exact sL i (by omega)
      · rcases hu2 with ⟨-, rfl, rfl, h7⟩ | ⟨j', s', z', Tn', wn', h5, h6, -⟩
        · exact ⟨rfl, fun i a c => h7 i (by omega) (by omega) (by omega) (by omega), hI.keep KM.up0 (fun i hi => h7 i (by omega) (by omega) (by omega) (by omega))⟩
        · rcases h3 with h3 | ⟨j, s, z, Tn, wn, h1, h2⟩
          · exact absurd h5 (h3 _ _ _ _ _)
          · obtain ⟨rfl, rfl, rfl, rfl, rfl⟩ := okS_uniq h1 h5
            omega
    refine V.eqW (LV_cs fin.2.1) ?_
    refine r_pop C dL_law_780 rfl ?_
    refine r_goto (tgt := 929) C dL_law_781 (by decide) ?_
    exact nx N' R Q' pb ba sa' hA nb ns' nh M2 R2 f _ _ _ _ fin.2.2 (by omega) (by omega)
  refine r_aload_n C dL_law_735 rfl rfl ?_
  refine r_aload_n C dL_law_736 rfl rfl ?_
  refine r_iload C dL_law_737 rfl ?_
  refine r_iconst (v := 1) C dL_law_739 (by decide) ?_
  refine r_iadd C dL_law_740 ?_
  refine r_sld (j := i + 1) C hSc sl_1 (by omega) (by omega) dL_law_741 ?_
  refine r_aload_n C dL_law_742 rfl rfl ?_
  refine r_iload C dL_law_743 rfl ?_
  refine r_iconst (v := 2) C dL_law_745 (by decide) ?_
  refine r_iadd C dL_law_746 ?_
  refine r_sld (j := i + 2) C hSc sl_2 (by omega) (by omega) dL_law_747 ?_
  refine r_aload_n C dL_law_748 rfl rfl ?_
  refine r_iload C dL_law_749 rfl ?_
  refine r_iconst (v := 3) C dL_law_751 (by decide) ?_
  refine r_iadd C dL_law_752 ?_
  refine r_sld (j := i + 3) C hSc sl_3 (by omega) (by omega) dL_law_753 ?_
  refine V.perm q_sc ?_
  refine a_callXi C hE (c_bscore G A _ N R Q T pb ba sa hP (xs (i + 1)) (xs (i + 2)) (xs (i + 3)) bN b40 bQ bL sN s60) kcL_X6_score dL_law_754 rfl (by decide) (by omega) (by omega) (Nat.le_of_ble_eq_true rfl) 0 rfl (ci := 6) rfl rfl rfl (fun q => q.elim) (fun r u hu => ?_)
  rcases hu with ⟨rfl, h2, h3⟩ | ⟨q, j, s, z, Tn, wn, rfl, h1, h2, h3⟩
  · refine V.perm q_sc.symm ?_
    exact key N Q sa ns T r (Or.inr ⟨h2, h3, rfl, rfl, rfl, rfl, rfl⟩)
  · refine V.perm (show List.Perm (scoW G A _ N R Q T ba sa nb ns (xs (i + 3)) q j s z Tn) _ from q_sc.symm) ?_
    exact key _ _ (va_up sa ns q) (ns + 1) (scR T j s z Tn nb ns (xs (i + 3))) r (Or.inl ⟨q, j, s, z, Tn, wn, h1, h2, h3, rfl, rfl, rfl, rfl, rfl⟩)
theorem l_hat {i L k n nb ns nh : Nat} {N : Nt} {R : Rt} {Q : Qt} {pb : Nat → Option PbT} {ba sa hA : Nat → Nat} {M : Mt} {T : Rt} {f : Nat → Int64} {L5 L6 : Option Value} (C : Cx X G 7 code RL 11 601024 7293033) (hE : Ev X) (hSc : Scr X b L xs) (hi : i + 6 ≤ L) (hL : L ≤ 3072) (hk : k + 100 ≤ 601024) (hn : n + 2000 ≤ 7293033) (hI : LI N R Q pb ba sa hA nb ns nh M T) (nx : NX X G A h ad o b i 929 k n) : V X k n 824 (lM b (A 0) h o i L5 L6) [] (LV G A h ad o N R Q pb ba sa hA nb ns nh T M T f) := by
  obtain ⟨⟨tp, tp8, tN, tM⟩, ⟨hBt, hTx⟩, ⟨bN, bM, b40, bQ, bL⟩, ⟨sN, sM, s60, sQ, sL⟩, ⟨hN, hM0, h60, hQ⟩, hP⟩ := id hI
  have key : ∀ (N' : Nt) (Q' : Qt) (hA' : Nat → Nat) (nh' : Nat) (T' : Rt) (r : Int32), ((∃ q wn rn : Nat, okH nh (xs (i + 1)) (xs (i + 2)) wn rn ∧ hatNeed wn (rn / wn) ≤ sumW (T 36) (T 35) (xs (i + 1)) ns ∧ r = nI nh ∧ N' = va_up N 0 (va_up (N 0) 10 (nI (nh + 1))) ∧ Q' = va_up Q 13 (va_up (Q 13) nh (some q)) ∧ hA' = va_up hA nh q ∧ nh' = nh + 1 ∧ T' = hatR T (xs (i + 1)) nh ns wn rn) ∨ (r = -1 ∧ ((∀ wn rn : Nat, ¬ okH nh (xs (i + 1)) (xs (i + 2)) wn rn) ∨ (∃ wn rn : Nat, okH nh (xs (i + 1)) (xs (i + 2)) wn rn ∧ sumW (T 36) (T 35) (xs (i + 1)) ns < hatNeed wn (rn / wn))) ∧ N' = N ∧ Q' = Q ∧ hA' = hA ∧ nh' = nh ∧ T' = T)) → V X (k + 1) (n + 4) 840 (lM b (A 0) h o i L5 L6) [.int r] (LV G A h ad o N' R Q' pb ba sa hA' nb ns nh' T' M T f) := by
    intro N' Q' hA' nh' T' r hco
    refine r_pop C dL_law_840 rfl ?_
    refine r_aload_n C dL_law_841 rfl rfl ?_
    refine r_aload_n C dL_law_842 rfl rfl ?_
    refine r_iload C dL_law_843 rfl ?_
    refine r_iconst (v := 1) C dL_law_845 (by decide) ?_
    refine r_iadd C dL_law_846 ?_
    refine r_sld (j := i + 1) C hSc sl_1 (by omega) (by omega) dL_law_847 ?_
    refine r_aload_n C dL_law_848 rfl rfl ?_
    refine r_iload C dL_law_849 rfl ?_
    refine r_iconst (v := 2) C dL_law_851 (by decide) ?_
    refine r_iadd C dL_law_852 ?_
    refine r_sld (j := i + 2) C hSc sl_2 (by omega) (by omega) dL_law_853 ?_
    refine V.perm q_m ?_
    refine lm_calli C (c_hat G h ad M T (nh := nh) (ns := ns) (xs (i + 1)) (xs (i + 2)) hM0 h60 sM s60 sL) kcL_X7_hat dL_law_854 rfl (by decide) (by omega) (by omega) (Nat.le_of_ble_eq_true rfl) rfl rfl (fun r2 M2 R2 hu2 => ?_)
    refine V.perm q_m.symm ?_
    refine (show V X (k + 1) (n + 4) 857 (lM b (A 0) h o i L5 L6) [.int r2] (LV G A h ad o N' R Q' pb ba sa hA' nb ns nh' T' M2 R2 f) from ?_)
    skip
    have fin : r = r2 ∧ KZ T' R2 ∧ LI N' R Q' pb ba sa hA' nb ns nh' M2 R2 := by
      rcases hco with ⟨q, wn, rn, h1, h2, rfl, rfl, rfl, rfl, rfl, rfl⟩ | ⟨rfl, h3, rfl, rfl, rfl, rfl, rfl⟩
      · rcases hu2 with ⟨h4, -⟩ | ⟨wn', rn', h5, h6, rfl, rfl, rfl⟩
        · rcases h4 with h4 | ⟨wn', rn', h5, h6⟩
          · exact absurd h1 (h4 wn rn)
          · obtain ⟨rfl, rfl⟩ := okH_uniq h1 h5
            omega
        · obtain ⟨rfl, rfl⟩ := okH_uniq h1 h5
          have hs59 : nh < 60 := by have := h1.1; omega
          refine ⟨rfl, fun _ _ _ => rfl, ⟨tp, tp8, tN, tM⟩, ⟨hBt, hTx⟩, ⟨bN, bM, b40, bQ, bL⟩, ⟨sN, sM, s60, sQ, (tk_ok (by decide) sL ns).1⟩, ⟨rfl, rfl, by omega, fun i hi => ?_⟩, hP.cgT rfl rfl rfl⟩
          show va_up (Q 13) nh (some q) i = some (va_up hA nh q i)
          by_cases e : i = nh
          · subst e; rw [va_up_at, va_up_at]
          · rw [va_up_no e, va_up_no e]; exact hQ i (by omega)
      · rcases hu2 with ⟨-, rfl, rfl, rfl⟩ | ⟨wn', rn', h5, h6, -⟩
        · exact ⟨rfl, fun _ _ _ => rfl, hI.keep KM.up0 KT'.rf⟩
        · rcases h3 with h3 | ⟨wn, rn, h1, h2⟩
          · exact absurd h5 (h3 _ _)
          · obtain ⟨rfl, rfl⟩ := okH_uniq h1 h5
            omega
    refine V.eqW (LV_cs fin.2.1) ?_
    refine r_pop C dL_law_857 rfl ?_
    refine r_goto (tgt := 929) C dL_law_858 (by decide) ?_
    exact nx N' R Q' pb ba sa hA' nb ns nh' M2 R2 f _ _ _ _ fin.2.2 (by omega) (by omega)
  refine r_aload_n C dL_law_824 rfl rfl ?_
  refine r_aload_n C dL_law_825 rfl rfl ?_
  refine r_iload C dL_law_826 rfl ?_
  refine r_iconst (v := 1) C dL_law_828 (by decide) ?_
  refine r_iadd C dL_law_829 ?_
  refine r_sld (j := i + 1) C hSc sl_1 (by omega) (by omega) dL_law_830 ?_
  refine r_aload_n C dL_law_831 rfl rfl ?_
  refine r_iload C dL_law_832 rfl ?_
  refine r_iconst (v := 2) C dL_law_834 (by decide) ?_
  refine r_iadd C dL_law_835 ?_
  refine r_sld (j := i + 2) C hSc sl_2 (by omega) (by omega) dL_law_836 ?_
  refine V.perm q_h ?_
  refine a_callVi C (c_bhat G A _ N R Q T sa hA (xs (i + 1)) (xs (i + 2)) hN h60 sN s60 sQ sL) kcL_X6_hat dL_law_837 rfl (by decide) (by omega) (by omega) (Nat.le_of_ble_eq_true rfl) 0 rfl (ci := 6) rfl rfl rfl (fun r u hu => ?_)
  rcases hu with ⟨rfl, h2, h3⟩ | ⟨q, wn, rn, rfl, h1, h2, h3⟩
  · refine V.perm q_h.symm ?_
    exact key N Q hA nh T r (Or.inr ⟨h2, h3, rfl, rfl, rfl, rfl, rfl⟩)
  · refine V.perm (show List.Perm (hatW G A _ N R Q T sa hA ns nh (xs (i + 1)) q wn rn) _ from q_h.symm) ?_
    exact key _ _ (va_up hA nh q) (nh + 1) (hatR T (xs (i + 1)) nh ns wn rn) r (Or.inl ⟨q, wn, rn, h1, h2, h3, rfl, rfl, rfl, rfl, rfl⟩)
end LST
