/-! the reference: score -/
/-- the same but for what is scratch -/
def Sc (R R' : Rt) : Prop := ∀ i, i ≠ 26 → i ≠ 27 → i ≠ 43 → i ≠ 44 → R' i = R i
theorem Sc.rf {R : Rt} : Sc R R := fun _ _ _ _ _ => rfl
theorem Sc.up {R R' : Rt} {k : Nat} {P : Nat → Int32} (h : Sc R R') (hk : k = 26 ∨ k = 27 ∨ k = 43 ∨ k = 44) : Sc R (va_up R' k P) := by
  intro i h1 h2 h3 h4
  unfold va_up
  rw [if_neg (by omega)]
  exact h i h1 h2 h3 h4
theorem Sc.pat {R R' : Rt} (h : Sc R R') {j s z : Nat} (hp : PatOK R j s z) : PatOK R' j s z := by
  unfold PatOK rowOf at *
  rw [h 5 (by decide) (by decide) (by decide) (by decide), h 6 (by decide) (by decide) (by decide) (by decide), h 7 (by decide) (by decide) (by decide) (by decide)]
  exact hp
theorem Sc.row {R R' : Rt} (h : Sc R R') {j : Nat} : rowOf R' j = rowOf R j := by
  unfold rowOf
  rw [h 7 (by decide) (by decide) (by decide) (by decide)]
noncomputable def uOf (c : Nat → Int32) (z p : Nat) : Nat := 2 * lvMost c z + usF c p z
theorem uOf_le {c : Nat → Int32} {z p : Nat} (h : z ≤ 300) : uOf c z p ≤ 900 := by
  have h1 := lvMost_le (c := c) z
  have h2 := usF_le (c := c) (p := p) z
  unfold uOf
  omega
def usT (u g : Nat → Nat) (p : Nat) : Nat → Nat
  | 0 => 0
  | t + 1 => usT u g p t + u (itr g t p)
theorem usT_le {u g : Nat → Nat} {p B : Nat} (h : ∀ q, u q ≤ B) : ∀ t, usT u g p t ≤ t * B
  | 0 => by simp [usT]
  | t + 1 => by
    have ih := usT_le (g := g) (p := p) h t
    have h1 := h (itr g t p)
    have e : (t + 1) * B = t * B + B := Nat.succ_mul t B
    unfold usT
    omega
def needN (u g : Nat → Nat) (T : Nat) : Nat → Nat
  | 0 => 0
  | p + 1 => needN u g T p + (usT u g (p + 1) T + 99) / 100
theorem needN_le {u g : Nat → Nat} {T : Nat} (hu : ∀ q, u q ≤ 900) (hT : T ≤ 200) : ∀ p, needN u g T p ≤ p * 1801
  | 0 => by simp [needN]
  | p + 1 => by
    have ih := needN_le (g := g) hu hT p
    have h1 := usT_le (g := g) (p := p + 1) hu T
    unfold needN
    omega
def fB (R : Rt) : Nat → Int32 := fun b => (1 : Int32) <<< (R 31 b &&& 31)
noncomputable def scNeed (R : Rt) (j s z T : Nat) : Nat := needN (uOf (rowOf R j) z) (gT (rowOf R j) z) T s
noncomputable def scTk (R : Rt) (j s z T nb : Nat) (w : Int32) : TkT := tk (R 32) (fB R) w (R 33) (scNeed R j s z T) nb
noncomputable def scR (R : Rt) (j s z T nb ns : Nat) (w : Int32) : Rt :=
  va_up (va_up (va_up (va_up (va_up (va_up R 33 (scTk R j s z T nb w).1) 34 (upd (R 34) ns (nI (2 * lvMost (rowOf R j) z * T)))) 35 (upd (R 35) ns (nI (2 * lvMost (rowOf R j) z * T)))) 36 (upd (R 36) ns w)) 37 (upd (R 37) ns (scTk R j s z T nb w).2.2.1)) 38 (upd (R 38) ns (nI (scNeed R j s z T)))
def okS (R : Rt) (ns : Nat) (k t w : Int32) (j s z T wn : Nat) : Prop := ns ≠ 60 ∧ j < 8 ∧ k = nI j ∧ PatOK R j s z ∧ t = nI T ∧ 1 ≤ T ∧ T ≤ 200 ∧ w = nI wn ∧ 1 ≤ wn ∧ wn ≤ 9 ∧ HoldsP (rowOf R j) z s
section M12
variable (G : Gx) (h : Nat) (ad : Nat → Nat) (M : Mt) (R : Rt)
theorem c_score {nb ns : Nat} (k t w : Int32) (hP : PatsOK R) (h05 : ∀ j, j < 8 → R 5 j = 0 ∨ 0 < R 5 j) (hb : M 28 = nI nb) (hb40 : nb ≤ 40) (hs : M 29 = nI ns) (hs60 : ns ≤ 60) (hL : NumOK (R 33) nb 5000) : mI G h ad yX7_score cX7_score 10 .int 3 [.int k, .int t, .int w] M R (fun a M' R' => (((∀ j s z T wn : Nat, ¬ okS R ns k t w j s z T wn) ∨ (∃ j s z T wn : Nat, okS R ns k t w j s z T wn ∧ sumW (R 32) (R 33) w nb < scNeed R j s z T)) ∧ a = -1 ∧ M' = va_up M 0 0 ∧ Sc R R') ∨ (∃ j s z T wn : Nat, okS R ns k t w j s z T wn ∧ scNeed R j s z T ≤ sumW (R 32) (R 33) w nb ∧ a = nI ns ∧ M' = va_up (va_up M 0 0) 29 (nI (ns + 1)) ∧ Sc (scR R j s z T nb ns w) R')) := by
  refine mI.intro (by decide) (Nat.le_of_ble_eq_true rfl) (cat1 (xs := [k, t, w])) fun X C hR => ?_
  have j64 : ∀ Rc : Rt, Sc R Rc → (∀ j s z T wn : Nat, ¬ okS R ns k t w j s z T wn) → V X 0 0 64 (ent [.ref h, .int k, .int t, .int w] 10) [] (mW G h ad (va_up M 0 0) Rc) := by
    intro Rc hRc hno
    refine r_iconst (v := -1) C dX7_score_64 (by decide) ?_
    exact hR _ _ _ _ _ rfl dX7_score_65 (Or.inl ⟨Or.inl hno, rfl, rfl, hRc⟩)
  have c1 : (1 : Int32) = nI 1 := rfl
  have j66 : ∀ (Rc : Rt) (j s z T wn : Nat), Sc R Rc → okS R ns k t w j s z T wn → V X 0 0 66 (ent [.ref h, .int k, .int t, .int w] 10) [] (mW G h ad (va_up M 0 0) Rc) := by
    intro Rc j s z T wn hRc hoks
    obtain ⟨hn60, hj, rfl, hp, rfl, hT1, hT2, rfl, hw1, hw9, hhold⟩ := id hoks
    obtain ⟨hs5, hs2, hs7, hz, hz3, hok⟩ := id hp
    obtain ⟨c, hc⟩ : ∃ c, c = rowOf R j := ⟨_, rfl⟩
    obtain ⟨g, hg⟩ : ∃ g, g = gT c z := ⟨_, rfl⟩
    obtain ⟨u, hu⟩ : ∃ u, u = uOf c z := ⟨_, rfl⟩
    have hu9 : ∀ q, u q ≤ 900 := fun q => by rw [hu]; exact uOf_le hz3
    have hperm : PermOn g s := by rw [hg, hc]; exact gT_perm hs7 hok
    obtain ⟨need, hneed⟩ : ∃ need, need = needN u g T s := ⟨_, rfl⟩
    have hneedE : scNeed R j s z T = need := by rw [hneed, hu, hg, hc]; rfl
    have hn1 := needN_le (g := g) hu9 hT2 s
    have hsum := sumW_le (W := R 32) (w := nI wn) hL nb (Nat.le_refl _)
    have hcl : (M 29).toNatClampNeg = ns := by rw [hs, nI_clamp (by omega)]
    have hbd : vp_in (M 29) 60 := by rw [hs]; exact vp_in_nI (by omega) (by decide)
    have hlv := lvMost_le (c := c) z
    -- the end: the score is laid down
    have fin : ∀ Rc : Rt, Sc R Rc → need ≤ sumW (R 32) (R 33) (nI wn) nb → V X 0 0 359 [some (.ref h), some (.int (nI j)), some (.int (nI T)), some (.int (nI wn)), some (.int (nI need)), none, some (.int (tk (R 32) (fB R) (nI wn) (R 33) need nb).2.2.1), none, none, none] [] (mW G h ad (va_up M 0 0) (va_up Rc 33 (tk (R 32) (fB R) (nI wn) (R 33) need nb).1)) := by
      intro Rc hRc hle
      have hp2 : PatOK (va_up Rc 33 (tk (R 32) (fB R) (nI wn) (R 33) need nb).1) j s z := hRc.pat hp
      have hr2 : rowOf (va_up Rc 33 (tk (R 32) (fB R) (nI wn) (R 33) need nb).1) j = c := by rw [hc]; exact hRc.row
      refine r_aload_n C dX7_score_359 rfl rfl ?_
      refine mg_length C dX7_score_360 ?_
      refine r_aload_n C dX7_score_363 rfl rfl ?_
      refine mg_scores C dX7_score_364 ?_
      refine r_iconst (v := 2) C dX7_score_367 (by decide) ?_
      refine r_aload_n C dX7_score_368 rfl rfl ?_
      refine r_iload_n C dX7_score_369 rfl rfl ?_
      refine m_calli C (c_levels G h ad (va_up M 0 0) _ hj hp2) kM_levels dX7_score_370 rfl (by decide) (by decide) (by decide) (Nat.le_of_ble_eq_true rfl) rfl rfl (fun r M1 R1 hq => ?_)
      obtain ⟨rfl, rfl, P, rfl⟩ := hq
      rw [hr2, show (2 : Int32) = nI 2 from rfl]
      refine r_imul C dX7_score_373 ?_
      rw [pk_mul]
      refine r_iload_n C dX7_score_374 rfl rfl ?_
      refine r_imul C dX7_score_375 ?_
      rw [pk_mul]
      refine ms_length C dX7_score_376 (hbd) ?_
      show V X 0 0 377 _ _ (mW G h ad _ (va_up (va_up (va_up Rc 33 _) 27 P) 34 (upd (Rc 34) (M 29).toNatClampNeg _)))
      rw [hcl]
      refine r_aload_n C dX7_score_377 rfl rfl ?_
      refine mg_lengthLeft C dX7_score_378 ?_
      refine r_aload_n C dX7_score_381 rfl rfl ?_
      refine mg_scores C dX7_score_382 ?_
      refine r_aload_n C dX7_score_385 rfl rfl ?_
      refine mg_length C dX7_score_386 ?_
      refine r_aload_n C dX7_score_389 rfl rfl ?_
      refine mg_scores C dX7_score_390 ?_
      refine ml_length C dX7_score_393 (hbd) ?_
      show V X 0 0 394 _ [.int (upd (Rc 34) ns (nI (2 * lvMost c z * T)) (M 29).toNatClampNeg), .int (M 29), .ref (ad 35)] _
      rw [hcl, pk_us]
      refine ms_lengthLeft C dX7_score_394 (hbd) ?_
      refine r_aload_n C dX7_score_395 rfl rfl ?_
      refine mg_scoreWidth C dX7_score_396 ?_
      refine r_aload_n C dX7_score_399 rfl rfl ?_
      refine mg_scores C dX7_score_400 ?_
      refine r_iload_n C dX7_score_403 rfl rfl ?_
      refine ms_scoreWidth C dX7_score_404 (hbd) ?_
      refine r_aload_n C dX7_score_405 rfl rfl ?_
      refine mg_scoreFields C dX7_score_406 ?_
      refine r_aload_n C dX7_score_409 rfl rfl ?_
      refine mg_scores C dX7_score_410 ?_
      refine r_iload C dX7_score_413 rfl ?_
      refine ms_scoreFields C dX7_score_415 (hbd) ?_
      refine r_aload_n C dX7_score_416 rfl rfl ?_
      refine mg_scoreStraws C dX7_score_417 ?_
      refine r_aload_n C dX7_score_420 rfl rfl ?_
      refine mg_scores C dX7_score_421 ?_
      refine r_iload C dX7_score_424 rfl ?_
      refine ms_scoreStraws C dX7_score_426 (hbd) ?_
      show V X 0 0 427 _ _ (mW G h ad _ (va_up (va_up (va_up (va_up (va_up (va_up (va_up Rc 33 (tk (R 32) (fB R) (nI wn) (R 33) need nb).1) 27 P) 34 (upd (Rc 34) ns (nI (2 * lvMost c z * T)))) 35 (upd (Rc 35) (M 29).toNatClampNeg (nI (2 * lvMost c z * T)))) 36 (upd (Rc 36) (M 29).toNatClampNeg (nI wn))) 37 (upd (Rc 37) (M 29).toNatClampNeg (tk (R 32) (fB R) (nI wn) (R 33) need nb).2.2.1)) 38 (upd (Rc 38) (M 29).toNatClampNeg (nI need))))
      rw [hcl]
      refine r_aload_n C dX7_score_427 rfl rfl ?_
      refine r_dup C dX7_score_428 rfl ?_
      refine mg_scores C dX7_score_429 ?_
      refine r_iconst (v := 1) C dX7_score_432 (by decide) ?_
      refine r_iadd C dX7_score_433 ?_
      show V X 0 0 434 _ [.int (M 29 + 1), .ref h] _
      rw [hs, nI_1]
      refine mp_scores C dX7_score_434 ?_
      refine r_aload_n C dX7_score_437 rfl rfl ?_
      refine mg_scores C dX7_score_438 ?_
      refine r_iconst (v := 1) C dX7_score_441 (by decide) ?_
      refine r_isub C dX7_score_442 ?_
      show V X 0 0 443 _ [.int (nI (ns + 1) - 1)] _
      rw [nI_pred]
      exact hR _ _ _ _ _ rfl dX7_score_443 (Or.inr ⟨j, s, z, T, wn, hoks, by rw [hneedE]; exact hle, rfl, rfl, fun i h1 h2 h3 h4 => by
        have e := hRc i h1 h2 h3 h4
        unfold scR scTk
        rw [hneedE, ← hc]
        simp only [va_up]
        have e34 := hRc 34 (by decide) (by decide) (by decide) (by decide)
        have e35 := hRc 35 (by decide) (by decide) (by decide) (by decide)
        have e36 := hRc 36 (by decide) (by decide) (by decide) (by decide)
        have e37 := hRc 37 (by decide) (by decide) (by decide) (by decide)
        have e38 := hRc 38 (by decide) (by decide) (by decide) (by decide)
        rw [e34, e35, e36, e37, e38]
        rw [if_neg h2, e]⟩)
    have kD : ∀ Rc : Rt, Sc R Rc → need ≤ sumW (R 32) (R 33) (nI wn) nb → ∀ (f b : Nat), b + f = nb → V X 0 0 256 [some (.ref h), some (.int (nI j)), some (.int (nI T)), some (.int (nI wn)), some (.int (nI need)), none, some (.int (tk (R 32) (fB R) (nI wn) (R 33) need b).2.2.1), some (.int (nI (tk (R 32) (fB R) (nI wn) (R 33) need b).2.1)), some (.int (nI b)), none] [] (mW G h ad (va_up M 0 0) (va_up Rc 33 (tk (R 32) (fB R) (nI wn) (R 33) need b).1)) := by
      intro Rc hRc hle f
      have hR32 : ∀ lf, va_up Rc 33 lf 32 = R 32 := fun lf => hRc 32 (by decide) (by decide) (by decide) (by decide)
      have hR31 : ∀ lf, va_up Rc 33 lf 31 = R 31 := fun lf => hRc 31 (by decide) (by decide) (by decide) (by decide)
      induction f with
      | zero =>
        intro b hbf
        have hbn : b = nb := by omega
        subst hbn
        refine r_iload C dX7_score_256 rfl ?_
        refine r_aload_n C dX7_score_258 rfl rfl ?_
        refine mg_bundles C dX7_score_259 ?_
        show V X 0 0 262 _ [.int (M 28), .int (nI b)] _
        rw [hb]
        refine r_icmp_ge (tgt := 359) C dX7_score_262 (by decide) (fun c262 => ?_) (fun c262 => absurd c262 ((fun q => q (nI_le (by omega) (by omega)))))
        exact V.keep [true, true, true, true, true, true, true, false, false, false] (fin Rc hRc hle)
      | succ f ih =>
        intro b hbf
        have nx := ih (b + 1) (by omega)
        have hko := tk_ok (W := R 32) (F := fB R) (w := nI wn) (need := need) (by decide) hL b
        have hst : tk (R 32) (fB R) (nI wn) (R 33) need (b + 1) = tkS (R 32) (fB R) (nI wn) b (tk (R 32) (fB R) (nI wn) (R 33) need b) := rfl
        have hend : (tk (R 32) (fB R) (nI wn) (R 33) need b).2.1 = 0 → tk (R 32) (fB R) (nI wn) (R 33) need nb = tk (R 32) (fB R) (nI wn) (R 33) need b := by
          intro q
          have := tk_stop q (nb - b)
          rw [show b + (nb - b) = nb by omega] at this
          exact this
        have fin' := fin Rc hRc hle
        rw [hst] at nx
        generalize tk (R 32) (fB R) (nI wn) (R 33) need b = Q at nx hko hend ⊢
        obtain ⟨lf, more, fl, of⟩ := Q
        dsimp only at nx hko hend ⊢
        have hlf := hko.1 b (by omega)
        obtain ⟨yl, hyl⟩ : ∃ y, y = cl (lf b) := ⟨_, rfl⟩
        rw [← hyl] at hlf
        have j353 : ∀ o9 : Option Value, ¬ (0 < more ∧ R 32 b = nI wn ∧ lf b ≠ 0) → V X 0 0 353 [some (.ref h), some (.int (nI j)), some (.int (nI T)), some (.int (nI wn)), some (.int (nI need)), none, some (.int fl), some (.int (nI more)), some (.int (nI b)), o9] [] (mW G h ad (va_up M 0 0) (va_up Rc 33 lf)) := by
          intro o9 hno
          unfold tkS at nx
          rw [if_neg hno] at nx
          refine r_iinc (v := _ + 1) C dX7_score_353 rfl (by rfl) (by decide) ?_
          rw [nI_1]
          refine r_goto (tgt := 256) C dX7_score_356 (by decide) ?_
          exact V.keep [true, true, true, true, true, true, true, true, true, false] nx
        have j320 : 0 < more → R 32 b = nI wn → lf b ≠ 0 → V X 0 0 320 [some (.ref h), some (.int (nI j)), some (.int (nI T)), some (.int (nI wn)), some (.int (nI need)), none, some (.int fl), some (.int (nI more)), some (.int (nI b)), some (.int (nI (min yl more)))] [] (mW G h ad (va_up M 0 0) (va_up Rc 33 lf)) := by
          intro hm hW hl0
          unfold tkS at nx
          rw [if_pos ⟨hm, hW, hl0⟩] at nx
          dsimp only at nx
          rw [← hyl] at nx
          refine r_aload_n C dX7_score_320 rfl rfl ?_
          refine mg_leftOf C dX7_score_321 ?_
          refine r_iload C dX7_score_324 rfl ?_
          refine r_dup2 C dX7_score_326 rfl rfl ?_
          refine ml_leftOf C dX7_score_327 (vp_in_nI (show b < 40 by omega) (by decide)) ?_
          rw [nI_clamp (by omega)]
          show V X 0 0 328 _ (.int (lf b) :: _) _
          rw [hlf.1]
          refine r_iload C dX7_score_328 rfl ?_
          refine r_isub C dX7_score_330 ?_
          rw [pk_sub (Nat.min_le_left _ _)]
          refine ms_leftOf C dX7_score_331 (vp_in_nI (show b < 40 by omega) (by decide)) ?_
          rw [nI_clamp (by omega)]
          show V X 0 0 332 _ _ (mW G h ad _ (va_up (va_up Rc 33 lf) 33 (upd lf b (nI (yl - min yl more)))))
          rw [up_up]
          refine r_iload C dX7_score_332 rfl ?_
          refine r_iload C dX7_score_334 rfl ?_
          refine r_isub C dX7_score_336 ?_
          rw [pk_sub (Nat.min_le_right _ _)]
          refine r_istore C dX7_score_337 (by decide) ?_
          refine r_iload C dX7_score_339 rfl ?_
          refine r_iconst (v := 1) C dX7_score_341 (by decide) ?_
          refine r_aload_n C dX7_score_342 rfl rfl ?_
          refine mg_field C dX7_score_343 ?_
          refine r_iload C dX7_score_346 rfl ?_
          refine ml_field C dX7_score_348 (vp_in_nI (show b < 40 by omega) (by decide)) ?_
          rw [nI_clamp (by omega), hR31]
          refine r_ishl C dX7_score_349 ?_
          refine r_ior C dX7_score_350 ?_
          refine r_istore C dX7_score_351 (by decide) ?_
          refine r_iinc (v := _ + 1) C dX7_score_353 rfl (by rfl) (by decide) ?_
          rw [nI_1]
          refine r_goto (tgt := 256) C dX7_score_356 (by decide) ?_
          exact V.keep [true, true, true, true, true, true, true, true, true, false] nx
        refine r_iload C dX7_score_256 rfl ?_
        refine r_aload_n C dX7_score_258 rfl rfl ?_
        refine mg_bundles C dX7_score_259 ?_
        show V X 0 0 262 _ [.int (M 28), .int (nI b)] _
        rw [hb]
        refine r_icmp_ge (tgt := 359) C dX7_score_262 (by decide) (fun c262 => absurd c262 ((nI_ge (by omega) (by omega)))) (fun c262 => ?_)
        refine r_iload C dX7_score_265 rfl ?_
        refine r_if_le (tgt := 359) C dX7_score_267 (by decide) (fun c267 => ?_) (fun c267 => ?_)
        · exact (by
            have hm0 : more = 0 := (Nat.eq_zero_or_pos more).elim id (fun q => absurd c267 (nI_nle q (by omega)))
            rw [hend hm0] at fin'
            exact V.keep [true, true, true, true, true, true, true, false, false, false] fin')
        · have hm : 0 < more := (Nat.eq_zero_or_pos more).elim (fun q => absurd (show nI more ≤ 0 by rw [q]; decide) c267) id
          refine r_aload_n C dX7_score_270 rfl rfl ?_
          refine mg_bundleWidth C dX7_score_271 ?_
          refine r_iload C dX7_score_274 rfl ?_
          refine ml_bundleWidth C dX7_score_276 (vp_in_nI (show b < 40 by omega) (by decide)) ?_
          rw [nI_clamp (by omega), hR32]
          refine r_iload_n C dX7_score_277 rfl rfl ?_
          refine r_icmp_ne (tgt := 353) C dX7_score_278 (by decide) (fun c278 => ?_) (fun c278 => ?_)
          · first
              | exact j353 _ (fun q => c278 q.2.1)
              | exact j353 _ (fun q => q.2.2 c288)
          · refine r_aload_n C dX7_score_281 rfl rfl ?_
            refine mg_leftOf C dX7_score_282 ?_
            refine r_iload C dX7_score_285 rfl ?_
            refine ml_leftOf C dX7_score_287 (vp_in_nI (show b < 40 by omega) (by decide)) ?_
            rw [nI_clamp (by omega)]
            refine r_if_ne (tgt := 294) C dX7_score_288 (by decide) (fun c288 => ?_) (fun c288 => ?_)
            · refine r_aload_n C dX7_score_294 rfl rfl ?_
              refine mg_leftOf C dX7_score_295 ?_
              refine r_iload C dX7_score_298 rfl ?_
              refine ml_leftOf C dX7_score_300 (vp_in_nI (show b < 40 by omega) (by decide)) ?_
              rw [nI_clamp (by omega)]
              refine r_iload C dX7_score_301 rfl ?_
              show V X 0 0 303 _ [.int (nI more), .int (lf b)] _
              rw [hlf.1]
              refine r_icmp_ge (tgt := 316) C dX7_score_303 (by decide) (fun c303 => ?_) (fun c303 => ?_)
              · rw [nI_leI (by omega) (by omega)] at c303
                refine r_iload C dX7_score_316 rfl ?_
                refine r_istore C dX7_score_318 (by decide) ?_
                exact (by
                  have q := j320 hm c278 c288
                  first | (rw [Nat.min_eq_left (by omega)] at q; exact q) | (rw [Nat.min_eq_right (by omega)] at q; exact q))
              · rw [nI_leI (by omega) (by omega)] at c303
                refine r_aload_n C dX7_score_306 rfl rfl ?_
                refine mg_leftOf C dX7_score_307 ?_
                refine r_iload C dX7_score_310 rfl ?_
                refine ml_leftOf C dX7_score_312 (vp_in_nI (show b < 40 by omega) (by decide)) ?_
                rw [nI_clamp (by omega)]
                show V X 0 0 313 _ [.int (lf b)] _
                rw [hlf.1]
                refine r_goto (tgt := 318) C dX7_score_313 (by decide) ?_
                refine r_istore C dX7_score_318 (by decide) ?_
                exact (by
                  have q := j320 hm c278 c288
                  first | (rw [Nat.min_eq_left (by omega)] at q; exact q) | (rw [Nat.min_eq_right (by omega)] at q; exact q))
            · refine r_goto (tgt := 353) C dX7_score_291 (by decide) ?_
              first
                | exact j353 _ (fun q => c278 q.2.1)
                | exact j353 _ (fun q => q.2.2 c288)
    have kC : ∀ Rc : Rt, Sc R Rc → ∀ (f b : Nat), b + f = nb → V X 0 0 199 [some (.ref h), some (.int (nI j)), some (.int (nI T)), some (.int (nI wn)), some (.int (nI need)), some (.int (nI (sumW (R 32) (R 33) (nI wn) b))), some (.int (nI b)), none, none, none] [] (mW G h ad (va_up M 0 0) Rc) := by
      intro Rc hRc f
      have hR32 : Rc 32 = R 32 := hRc 32 (by decide) (by decide) (by decide) (by decide)
      have hR33 : Rc 33 = R 33 := hRc 33 (by decide) (by decide) (by decide) (by decide)
      induction f with
      | zero =>
        intro b hbf
        have hbn : b = nb := by omega
        subst hbn
        refine r_iload C dX7_score_199 rfl ?_
        refine r_aload_n C dX7_score_201 rfl rfl ?_
        refine mg_bundles C dX7_score_202 ?_
        show V X 0 0 205 _ [.int (M 28), .int (nI b)] _
        rw [hb]
        refine r_icmp_ge (tgt := 237) C dX7_score_205 (by decide) (fun c205 => ?_) (fun c205 => absurd c205 ((fun q => q (nI_le (by omega) (by omega)))))
        refine r_iload C dX7_score_237 rfl ?_
        refine r_iload C dX7_score_239 rfl ?_
        refine r_icmp_ge (tgt := 246) C dX7_score_241 (by decide) (fun c241 => ?_) (fun c241 => ?_)
        · rw [nI_leI (by omega) (by omega)] at c241
          refine r_iconst (v := 0) C dX7_score_246 (by decide) ?_
          refine r_istore C dX7_score_247 (by decide) ?_
          refine r_iload C dX7_score_249 rfl ?_
          refine r_istore C dX7_score_251 (by decide) ?_
          refine r_iconst (v := 0) C dX7_score_253 (by decide) ?_
          refine r_istore C dX7_score_254 (by decide) ?_
          exact (by
            have q := kD Rc hRc c241 b 0 (by omega)
            rw [show (tk (R 32) (fB R) (nI wn) (R 33) need 0).1 = Rc 33 from hR33.symm, up_same rfl] at q
            exact V.keep [true, true, true, true, true, false, true, true, true, false] q)
        · rw [nI_leI (by omega) (by omega)] at c241
          refine r_iconst (v := -1) C dX7_score_244 (by decide) ?_
          exact hR _ _ _ _ _ rfl dX7_score_245 (Or.inl ⟨Or.inr ⟨j, s, z, T, wn, hoks, by rw [hneedE]; omega⟩, rfl, rfl, hRc⟩)
      | succ f ih =>
        intro b hbf
        have nx := ih (b + 1) (by omega)
        have hLs := hL b (by omega)
        refine r_iload C dX7_score_199 rfl ?_
        refine r_aload_n C dX7_score_201 rfl rfl ?_
        refine mg_bundles C dX7_score_202 ?_
        show V X 0 0 205 _ [.int (M 28), .int (nI b)] _
        rw [hb]
        refine r_icmp_ge (tgt := 237) C dX7_score_205 (by decide) (fun c205 => absurd c205 ((nI_ge (by omega) (by omega)))) (fun c205 => ?_)
        refine r_aload_n C dX7_score_208 rfl rfl ?_
        refine mg_bundleWidth C dX7_score_209 ?_
        refine r_iload C dX7_score_212 rfl ?_
        refine ml_bundleWidth C dX7_score_214 (vp_in_nI (show b < 40 by omega) (by decide)) ?_
        rw [nI_clamp (by omega), hR32]
        refine r_iload_n C dX7_score_215 rfl rfl ?_
        refine r_icmp_ne (tgt := 231) C dX7_score_216 (by decide) (fun c216 => ?_) (fun c216 => ?_)
        · refine r_iinc (v := _ + 1) C dX7_score_231 rfl (by rfl) (by decide) ?_
          rw [nI_1]
          refine r_goto (tgt := 199) C dX7_score_234 (by decide) ?_
          exact (by
            unfold sumW at nx
            first | (rw [if_pos c216] at nx; exact nx) | (rw [if_neg c216] at nx; exact nx))
        · refine r_iload C dX7_score_219 rfl ?_
          refine r_aload_n C dX7_score_221 rfl rfl ?_
          refine mg_leftOf C dX7_score_222 ?_
          refine r_iload C dX7_score_225 rfl ?_
          refine ml_leftOf C dX7_score_227 (vp_in_nI (show b < 40 by omega) (by decide)) ?_
          rw [nI_clamp (by omega), hR33, hLs.1]
          refine r_iadd C dX7_score_228 ?_
          rw [nI_add]
          refine r_istore C dX7_score_229 (by decide) ?_
          refine r_iinc (v := _ + 1) C dX7_score_231 rfl (by rfl) (by decide) ?_
          rw [nI_1]
          refine r_goto (tgt := 199) C dX7_score_234 (by decide) ?_
          exact (by
            unfold sumW at nx
            first | (rw [if_pos c216] at nx; exact nx) | (rw [if_neg c216] at nx; exact nx))
    have kB : ∀ Rc : Rt, Sc R Rc → (∀ q, 1 ≤ q → q ≤ s → Rc 43 q = nI (u q) ∧ Rc 44 q = nI (g q)) → ∀ (f p : Nat) (o6 o7 o8 : Option Value), p + f = s → V X 0 0 120 [some (.ref h), some (.int (nI j)), some (.int (nI T)), some (.int (nI wn)), some (.int (nI (needN u g T p))), some (.int (nI (p + 1))), o6, o7, o8, none] [] (mW G h ad (va_up M 0 0) Rc) := by
      intro Rc hRc hug f
      have hR5 : Rc 5 j = nI s := by rw [hRc 5 (by decide) (by decide) (by decide) (by decide)]; exact hs5
      induction f with
      | zero =>
        intro p o6 o7 o8 hpf
        have hps : p = s := by omega
        subst hps
        refine r_iload C dX7_score_120 rfl ?_
        refine r_aload_n C dX7_score_122 rfl rfl ?_
        refine mg_straws C dX7_score_123 ?_
        refine r_iload_n C dX7_score_126 rfl rfl ?_
        refine ml_straws C dX7_score_127 (vp_in_nI hj (by decide)) ?_
        rw [nI_clamp (by omega), hR5]
        refine r_icmp_gt (tgt := 193) C dX7_score_128 (by decide) (fun c128 => ?_) (fun c128 => absurd c128 ((fun q => q (nI_lt (by omega) (by omega)))))
        refine r_iconst (v := 0) C dX7_score_193 (by decide) ?_
        refine r_istore C dX7_score_194 (by decide) ?_
        refine r_iconst (v := 0) C dX7_score_196 (by decide) ?_
        refine r_istore C dX7_score_197 (by decide) ?_
        exact V.keep [true, true, true, true, true, true, true, false, false, false] (by rw [← hneed]; exact kC Rc hRc nb 0 (by omega))
      | succ f ih =>
        intro p o6 o7 o8 hpf
        have hnp := needN_le (g := g) hu9 hT2 p
        have hti := usT_le (g := g) (p := p + 1) hu9 T
        have inner : ∀ (f' t' : Nat), t' + f' = T → V X 0 0 141 [some (.ref h), some (.int (nI j)), some (.int (nI T)), some (.int (nI wn)), some (.int (nI (needN u g T p))), some (.int (nI (p + 1))), some (.int (nI (itr g t' (p + 1)))), some (.int (nI (usT u g (p + 1) t'))), some (.int (nI t')), none] [] (mW G h ad (va_up M 0 0) Rc) := by
          intro f'
          induction f' with
          | zero =>
            intro t' htf
            have htT : t' = T := by omega
            subst htT
            refine r_iload C dX7_score_141 rfl ?_
            refine r_iload_n C dX7_score_143 rfl rfl ?_
            refine r_icmp_ge (tgt := 174) C dX7_score_144 (by decide) (fun c144 => ?_) (fun c144 => absurd c144 ((fun q => q (nI_le (by omega) (by omega)))))
            refine r_iload C dX7_score_174 rfl ?_
            refine r_iload C dX7_score_176 rfl ?_
            refine r_bipush (v := 99) C dX7_score_178 (by decide) ?_
            refine r_iadd C dX7_score_180 ?_
            rw [show (99 : Int32) = nI 99 from rfl, nI_add]
            refine r_bipush (v := 100) C dX7_score_181 (by decide) ?_
            rw [show (100 : Int32) = nI 100 from rfl]
            refine r_idiv C dX7_score_183 (nI_ne0 (by decide) (by decide)) ?_
            rw [pk_div (by omega) (by decide) (by decide)]
            refine r_iadd C dX7_score_184 ?_
            rw [nI_add]
            refine r_istore C dX7_score_185 (by decide) ?_
            refine r_iinc (v := _ + 1) C dX7_score_187 rfl (by rfl) (by decide) ?_
            rw [nI_1]
            refine r_goto (tgt := 120) C dX7_score_190 (by decide) ?_
            exact ih (p + 1) _ _ _ (by omega)
          | succ f' ih' =>
            intro t' htf
            have hin := itr_in hperm (show 1 ≤ p + 1 by omega) (show p + 1 ≤ s by omega) t'
            have hq := hug (itr g t' (p + 1)) hin.1 hin.2
            refine r_iload C dX7_score_141 rfl ?_
            refine r_iload_n C dX7_score_143 rfl rfl ?_
            refine r_icmp_ge (tgt := 174) C dX7_score_144 (by decide) (fun c144 => absurd c144 ((nI_ge (by omega) (by omega)))) (fun c144 => ?_)
            refine r_iload C dX7_score_147 rfl ?_
            refine r_aload_n C dX7_score_149 rfl rfl ?_
            refine mg_uses C dX7_score_150 ?_
            refine r_iload C dX7_score_153 rfl ?_
            refine ml_uses C dX7_score_155 (vp_in_nI (show itr g t' (p + 1) < 8 by omega) (by decide)) ?_
            rw [nI_clamp (by omega), hq.1]
            refine r_iadd C dX7_score_156 ?_
            rw [nI_add]
            refine r_istore C dX7_score_157 (by decide) ?_
            refine r_aload_n C dX7_score_159 rfl rfl ?_
            refine mg_next C dX7_score_160 ?_
            refine r_iload C dX7_score_163 rfl ?_
            refine ml_next C dX7_score_165 (vp_in_nI (show itr g t' (p + 1) < 8 by omega) (by decide)) ?_
            rw [nI_clamp (by omega), hq.2]
            refine r_istore C dX7_score_166 (by decide) ?_
            refine r_iinc (v := _ + 1) C dX7_score_168 rfl (by rfl) (by decide) ?_
            rw [nI_1]
            refine r_goto (tgt := 141) C dX7_score_171 (by decide) ?_
            exact ih' (t' + 1) (by omega)
        refine r_iload C dX7_score_120 rfl ?_
        refine r_aload_n C dX7_score_122 rfl rfl ?_
        refine mg_straws C dX7_score_123 ?_
        refine r_iload_n C dX7_score_126 rfl rfl ?_
        refine ml_straws C dX7_score_127 (vp_in_nI hj (by decide)) ?_
        rw [nI_clamp (by omega), hR5]
        refine r_icmp_gt (tgt := 193) C dX7_score_128 (by decide) (fun c128 => absurd c128 ((nI_nlt (by omega) (by omega)))) (fun c128 => ?_)
        refine r_iload C dX7_score_131 rfl ?_
        refine r_istore C dX7_score_133 (by decide) ?_
        refine r_iconst (v := 0) C dX7_score_135 (by decide) ?_
        refine r_istore C dX7_score_136 (by decide) ?_
        refine r_iconst (v := 0) C dX7_score_138 (by decide) ?_
        refine r_istore C dX7_score_139 (by decide) ?_
        exact inner T 0 (by omega)
    have kA : ∀ (f p : Nat) (Rc : Rt), p + f = s → Sc R Rc → (∀ q, 1 ≤ q → q ≤ p → Rc 43 q = nI (u q) ∧ Rc 44 q = nI (g q)) → V X 0 0 69 [some (.ref h), some (.int (nI j)), some (.int (nI T)), some (.int (nI wn)), some (.int (nI (p + 1))), none, none, none, none, none] [] (mW G h ad (va_up M 0 0) Rc) := by
      intro f
      induction f with
      | zero =>
        intro p Rc hpf hRc hug
        have hps : p = s := by omega
        subst hps
        have hR5 : Rc 5 j = nI p := by rw [hRc 5 (by decide) (by decide) (by decide) (by decide)]; exact hs5
        refine r_iload C dX7_score_69 rfl ?_
        refine r_aload_n C dX7_score_71 rfl rfl ?_
        refine mg_straws C dX7_score_72 ?_
        refine r_iload_n C dX7_score_75 rfl rfl ?_
        refine ml_straws C dX7_score_76 (vp_in_nI hj (by decide)) ?_
        rw [nI_clamp (by omega), hR5]
        refine r_icmp_gt (tgt := 114) C dX7_score_77 (by decide) (fun c77 => ?_) (fun c77 => absurd c77 ((fun q => q (nI_lt (by omega) (by omega)))))
        refine r_iconst (v := 0) C dX7_score_114 (by decide) ?_
        refine r_istore C dX7_score_115 (by decide) ?_
        refine r_iconst (v := 1) C dX7_score_117 (by decide) ?_
        refine r_istore C dX7_score_118 (by decide) ?_
        exact kB Rc hRc hug p 0 _ _ _ (by omega)
      | succ f ih =>
        intro p Rc hpf hRc hug
        have hR5 : Rc 5 j = nI s := by rw [hRc 5 (by decide) (by decide) (by decide) (by decide)]; exact hs5
        refine r_iload C dX7_score_69 rfl ?_
        refine r_aload_n C dX7_score_71 rfl rfl ?_
        refine mg_straws C dX7_score_72 ?_
        refine r_iload_n C dX7_score_75 rfl rfl ?_
        refine ml_straws C dX7_score_76 (vp_in_nI hj (by decide)) ?_
        rw [nI_clamp (by omega), hR5]
        refine r_icmp_gt (tgt := 114) C dX7_score_77 (by decide) (fun c77 => absurd c77 ((nI_nlt (by omega) (by omega)))) (fun c77 => ?_)
        refine r_aload_n C dX7_score_80 rfl rfl ?_
        refine mg_uses C dX7_score_81 ?_
        refine r_iload C dX7_score_84 rfl ?_
        refine r_aload_n C dX7_score_86 rfl rfl ?_
        refine r_iload_n C dX7_score_87 rfl rfl ?_
        refine r_iload C dX7_score_88 rfl ?_
        refine m_calli C (c_useOf G h ad (va_up M 0 0) Rc hj (hRc.pat hp) (show 1 ≤ p + 1 by omega) (by omega)) kM_useOf dX7_score_90 rfl (by decide) (by decide) (by decide) (Nat.le_of_ble_eq_true rfl) rfl rfl (fun r M1 R1 hq => ?_)
        obtain ⟨rfl, rfl, P, rfl⟩ := hq
        rw [hRc.row, ← hc, show 2 * lvMost c z + usF c (p + 1) z = u (p + 1) by rw [hu]; rfl]
        refine ms_uses C dX7_score_93 (vp_in_nI (show p + 1 < 8 by omega) (by decide)) ?_
        rw [nI_clamp (by omega)]
        show V X 0 0 94 _ _ (mW G h ad _ (va_up (va_up Rc 27 P) 43 (upd (Rc 43) (p + 1) _)))
        refine r_aload_n C dX7_score_94 rfl rfl ?_
        refine mg_next C dX7_score_95 ?_
        refine r_iload C dX7_score_98 rfl ?_
        refine r_aload_n C dX7_score_100 rfl rfl ?_
        refine r_iload_n C dX7_score_101 rfl rfl ?_
        refine r_iload C dX7_score_102 rfl ?_
        refine m_calli C (c_goesTo G h ad (va_up M 0 0) _ hj (s := s) (z := z) (((hRc.up (Or.inr (Or.inl rfl))).up (Or.inr (Or.inr (Or.inl rfl)))).pat hp) (show 1 ≤ p + 1 by omega) (by omega)) kM_goesTo dX7_score_104 rfl (by decide) (by decide) (by decide) (Nat.le_of_ble_eq_true rfl) rfl rfl (fun r M1 R1 hq => ?_)
        obtain ⟨rfl, rfl, rfl⟩ := hq
        rw [((hRc.up (Or.inr (Or.inl rfl))).up (Or.inr (Or.inr (Or.inl rfl)))).row, ← hc, ← hg]
        refine ms_next C dX7_score_107 (vp_in_nI (show p + 1 < 8 by omega) (by decide)) ?_
        rw [nI_clamp (by omega)]
        show V X 0 0 108 _ _ (mW G h ad _ (va_up (va_up (va_up Rc 27 P) 43 (upd (Rc 43) (p + 1) (nI (u (p + 1))))) 44 (upd (Rc 44) (p + 1) (nI (g (p + 1))))))
        refine r_iinc (v := _ + 1) C dX7_score_108 rfl (by rfl) (by decide) ?_
        rw [nI_1]
        refine r_goto (tgt := 69) C dX7_score_111 (by decide) ?_
        exact ih (p + 1) _ (by omega) (((hRc.up (Or.inr (Or.inl rfl))).up (Or.inr (Or.inr (Or.inl rfl)))).up (Or.inr (Or.inr (Or.inr rfl)))) (fun q h1 h2 => by
          show upd (Rc 43) (p + 1) _ q = _ ∧ upd (Rc 44) (p + 1) _ q = _
          by_cases e : q = p + 1
          · subst e; exact ⟨pk_us, pk_us⟩
          · rw [pk_un e, pk_un e]; exact hug q h1 (by omega))
    refine r_iconst (v := 1) C dX7_score_66 (by decide) ?_
    refine r_istore C dX7_score_67 (by decide) ?_
    exact kA s 0 Rc (by omega) hRc (fun q h1 h2 => by omega)
  refine r_aload_n C dX7_score_0 rfl rfl ?_
  refine r_iconst (v := 0) C dX7_score_1 (by decide) ?_
  refine mp_thrown C dX7_score_2 ?_
  refine r_aload_n C dX7_score_5 rfl rfl ?_
  refine mg_scores C dX7_score_6 ?_
  refine r_bipush (v := 60) C dX7_score_9 (by decide) ?_
  show V X 0 0 11 _ [.int 60, .int (M 29)] _
  rw [hs]
  refine r_icmp_eq (tgt := 64) C dX7_score_11 (by decide) (fun c11 => ?_) (fun c11 => ?_)
  · first
      | exact j64 _ (Sc.rf.up (Or.inl rfl)) (fun j' s' z' T' wn' o => by
          obtain ⟨o1, o2, ok, o3, o4, o5, o6, o7, o8, o9, o10⟩ := o
          rw [nI_eq (by omega) (by omega)] at ok
          subst ok
          have e1 := hp.1.symm.trans o3.1
          have e2 := hp.2.2.2.1.symm.trans o3.2.2.2.1
          rw [nI_eq (by have := hp.2.2.1; omega) (by have := o3.2.2.1; omega)] at e1
          rw [nI_eq (by have := hp.2.2.2.2.1; omega) (by have := o3.2.2.2.2.1; omega)] at e2
          subst e1; subst e2
          exact hr.elim (fun q => absurd (q.1.symm.trans c61) (by decide)) (fun q => q.2 o10))
      | exact j64 _ Sc.rf (fun j' s' z' T' wn' o => absurd ((nI_eq (by omega) (by decide)).mp c11) o.1)
      | exact j64 _ Sc.rf (fun j' s' z' T' wn' o => absurd c15 (by rw [o.2.2.1]; exact nI_pos (by have := o.2.1; omega)))
      | exact j64 _ Sc.rf (fun j' s' z' T' wn' o => absurd c21 (by rw [o.2.2.1, show (7 : Int32) = nI 7 from rfl, nI_ltI (by decide) (by have := o.2.1; omega)]; have := o.2.1; omega))
      | exact j64 _ Sc.rf (fun j' s' z' T' wn' o => by
          have e := (nI_eq (by omega) (by have := o.2.1; omega)).mp o.2.2.1
          rw [e, o.2.2.2.1.1] at c30
          exact absurd c30 (nI_ne0 (by have := o.2.2.2.1.2.1; omega) (by have := o.2.2.2.1.2.2.1; omega)))
      | exact j64 _ Sc.rf (fun j' s' z' T' wn' o => absurd c35 (by rw [o.2.2.2.2.1, c1, nI_ltI (by have := o.2.2.2.2.2.2.1; omega) (by decide)]; have := o.2.2.2.2.2.1; omega))
      | exact j64 _ Sc.rf (fun j' s' z' T' wn' o => absurd c42 (by rw [o.2.2.2.2.1, show (200 : Int32) = nI 200 from rfl, nI_ltI (by decide) (by have := o.2.2.2.2.2.2.1; omega)]; have := o.2.2.2.2.2.2.1; omega))
      | exact j64 _ Sc.rf (fun j' s' z' T' wn' o => absurd c47 (by rw [o.2.2.2.2.2.2.2.1, c1, nI_ltI (by have := o.2.2.2.2.2.2.2.2.2.1; omega) (by decide)]; have := o.2.2.2.2.2.2.2.2.1; omega))
      | exact j64 _ Sc.rf (fun j' s' z' T' wn' o => absurd c53 (by rw [o.2.2.2.2.2.2.2.1, show (9 : Int32) = nI 9 from rfl, nI_ltI (by decide) (by have := o.2.2.2.2.2.2.2.2.2.1; omega)]; have := o.2.2.2.2.2.2.2.2.2.1; omega))
  · refine r_iload_n C dX7_score_14 rfl rfl ?_
    refine r_if_lt (tgt := 64) C dX7_score_15 (by decide) (fun c15 => ?_) (fun c15 => ?_)
    · first
        | exact j64 _ (Sc.rf.up (Or.inl rfl)) (fun j' s' z' T' wn' o => by
            obtain ⟨o1, o2, ok, o3, o4, o5, o6, o7, o8, o9, o10⟩ := o
            rw [nI_eq (by omega) (by omega)] at ok
            subst ok
            have e1 := hp.1.symm.trans o3.1
            have e2 := hp.2.2.2.1.symm.trans o3.2.2.2.1
            rw [nI_eq (by have := hp.2.2.1; omega) (by have := o3.2.2.1; omega)] at e1
            rw [nI_eq (by have := hp.2.2.2.2.1; omega) (by have := o3.2.2.2.2.1; omega)] at e2
            subst e1; subst e2
            exact hr.elim (fun q => absurd (q.1.symm.trans c61) (by decide)) (fun q => q.2 o10))
        | exact j64 _ Sc.rf (fun j' s' z' T' wn' o => absurd ((nI_eq (by omega) (by decide)).mp c11) o.1)
        | exact j64 _ Sc.rf (fun j' s' z' T' wn' o => absurd c15 (by rw [o.2.2.1]; exact nI_pos (by have := o.2.1; omega)))
        | exact j64 _ Sc.rf (fun j' s' z' T' wn' o => absurd c21 (by rw [o.2.2.1, show (7 : Int32) = nI 7 from rfl, nI_ltI (by decide) (by have := o.2.1; omega)]; have := o.2.1; omega))
        | exact j64 _ Sc.rf (fun j' s' z' T' wn' o => by
            have e := (nI_eq (by omega) (by have := o.2.1; omega)).mp o.2.2.1
            rw [e, o.2.2.2.1.1] at c30
            exact absurd c30 (nI_ne0 (by have := o.2.2.2.1.2.1; omega) (by have := o.2.2.2.1.2.2.1; omega)))
        | exact j64 _ Sc.rf (fun j' s' z' T' wn' o => absurd c35 (by rw [o.2.2.2.2.1, c1, nI_ltI (by have := o.2.2.2.2.2.2.1; omega) (by decide)]; have := o.2.2.2.2.2.1; omega))
        | exact j64 _ Sc.rf (fun j' s' z' T' wn' o => absurd c42 (by rw [o.2.2.2.2.1, show (200 : Int32) = nI 200 from rfl, nI_ltI (by decide) (by have := o.2.2.2.2.2.2.1; omega)]; have := o.2.2.2.2.2.2.1; omega))
        | exact j64 _ Sc.rf (fun j' s' z' T' wn' o => absurd c47 (by rw [o.2.2.2.2.2.2.2.1, c1, nI_ltI (by have := o.2.2.2.2.2.2.2.2.2.1; omega) (by decide)]; have := o.2.2.2.2.2.2.2.2.1; omega))
        | exact j64 _ Sc.rf (fun j' s' z' T' wn' o => absurd c53 (by rw [o.2.2.2.2.2.2.2.1, show (9 : Int32) = nI 9 from rfl, nI_ltI (by decide) (by have := o.2.2.2.2.2.2.2.2.2.1; omega)]; have := o.2.2.2.2.2.2.2.2.2.1; omega))
    · refine r_iload_n C dX7_score_18 rfl rfl ?_
      refine r_bipush (v := 7) C dX7_score_19 (by decide) ?_
      refine r_icmp_gt (tgt := 64) C dX7_score_21 (by decide) (fun c21 => ?_) (fun c21 => ?_)
      · first
          | exact j64 _ (Sc.rf.up (Or.inl rfl)) (fun j' s' z' T' wn' o => by
              obtain ⟨o1, o2, ok, o3, o4, o5, o6, o7, o8, o9, o10⟩ := o
              rw [nI_eq (by omega) (by omega)] at ok
              subst ok
              have e1 := hp.1.symm.trans o3.1
              have e2 := hp.2.2.2.1.symm.trans o3.2.2.2.1
              rw [nI_eq (by have := hp.2.2.1; omega) (by have := o3.2.2.1; omega)] at e1
              rw [nI_eq (by have := hp.2.2.2.2.1; omega) (by have := o3.2.2.2.2.1; omega)] at e2
              subst e1; subst e2
              exact hr.elim (fun q => absurd (q.1.symm.trans c61) (by decide)) (fun q => q.2 o10))
          | exact j64 _ Sc.rf (fun j' s' z' T' wn' o => absurd ((nI_eq (by omega) (by decide)).mp c11) o.1)
          | exact j64 _ Sc.rf (fun j' s' z' T' wn' o => absurd c15 (by rw [o.2.2.1]; exact nI_pos (by have := o.2.1; omega)))
          | exact j64 _ Sc.rf (fun j' s' z' T' wn' o => absurd c21 (by rw [o.2.2.1, show (7 : Int32) = nI 7 from rfl, nI_ltI (by decide) (by have := o.2.1; omega)]; have := o.2.1; omega))
          | exact j64 _ Sc.rf (fun j' s' z' T' wn' o => by
              have e := (nI_eq (by omega) (by have := o.2.1; omega)).mp o.2.2.1
              rw [e, o.2.2.2.1.1] at c30
              exact absurd c30 (nI_ne0 (by have := o.2.2.2.1.2.1; omega) (by have := o.2.2.2.1.2.2.1; omega)))
          | exact j64 _ Sc.rf (fun j' s' z' T' wn' o => absurd c35 (by rw [o.2.2.2.2.1, c1, nI_ltI (by have := o.2.2.2.2.2.2.1; omega) (by decide)]; have := o.2.2.2.2.2.1; omega))
          | exact j64 _ Sc.rf (fun j' s' z' T' wn' o => absurd c42 (by rw [o.2.2.2.2.1, show (200 : Int32) = nI 200 from rfl, nI_ltI (by decide) (by have := o.2.2.2.2.2.2.1; omega)]; have := o.2.2.2.2.2.2.1; omega))
          | exact j64 _ Sc.rf (fun j' s' z' T' wn' o => absurd c47 (by rw [o.2.2.2.2.2.2.2.1, c1, nI_ltI (by have := o.2.2.2.2.2.2.2.2.2.1; omega) (by decide)]; have := o.2.2.2.2.2.2.2.2.1; omega))
          | exact j64 _ Sc.rf (fun j' s' z' T' wn' o => absurd c53 (by rw [o.2.2.2.2.2.2.2.1, show (9 : Int32) = nI 9 from rfl, nI_ltI (by decide) (by have := o.2.2.2.2.2.2.2.2.2.1; omega)]; have := o.2.2.2.2.2.2.2.2.2.1; omega))
      · obtain ⟨j, hj8, rfl⟩ := nI_of2 (n := 7) (by decide) c15 (Int32.not_lt.mp c21)
        refine r_aload_n C dX7_score_24 rfl rfl ?_
        refine mg_straws C dX7_score_25 ?_
        refine r_iload_n C dX7_score_28 rfl rfl ?_
        refine ml_straws C dX7_score_29 (vp_in_nI (show j < 8 by omega) (by decide)) ?_
        rw [nI_clamp (by omega)]
        refine r_if_eq (tgt := 64) C dX7_score_30 (by decide) (fun c30 => ?_) (fun c30 => ?_)
        · first
            | exact j64 _ (Sc.rf.up (Or.inl rfl)) (fun j' s' z' T' wn' o => by
                obtain ⟨o1, o2, ok, o3, o4, o5, o6, o7, o8, o9, o10⟩ := o
                rw [nI_eq (by omega) (by omega)] at ok
                subst ok
                have e1 := hp.1.symm.trans o3.1
                have e2 := hp.2.2.2.1.symm.trans o3.2.2.2.1
                rw [nI_eq (by have := hp.2.2.1; omega) (by have := o3.2.2.1; omega)] at e1
                rw [nI_eq (by have := hp.2.2.2.2.1; omega) (by have := o3.2.2.2.2.1; omega)] at e2
                subst e1; subst e2
                exact hr.elim (fun q => absurd (q.1.symm.trans c61) (by decide)) (fun q => q.2 o10))
            | exact j64 _ Sc.rf (fun j' s' z' T' wn' o => absurd ((nI_eq (by omega) (by decide)).mp c11) o.1)
            | exact j64 _ Sc.rf (fun j' s' z' T' wn' o => absurd c15 (by rw [o.2.2.1]; exact nI_pos (by have := o.2.1; omega)))
            | exact j64 _ Sc.rf (fun j' s' z' T' wn' o => absurd c21 (by rw [o.2.2.1, show (7 : Int32) = nI 7 from rfl, nI_ltI (by decide) (by have := o.2.1; omega)]; have := o.2.1; omega))
            | exact j64 _ Sc.rf (fun j' s' z' T' wn' o => by
                have e := (nI_eq (by omega) (by have := o.2.1; omega)).mp o.2.2.1
                rw [e, o.2.2.2.1.1] at c30
                exact absurd c30 (nI_ne0 (by have := o.2.2.2.1.2.1; omega) (by have := o.2.2.2.1.2.2.1; omega)))
            | exact j64 _ Sc.rf (fun j' s' z' T' wn' o => absurd c35 (by rw [o.2.2.2.2.1, c1, nI_ltI (by have := o.2.2.2.2.2.2.1; omega) (by decide)]; have := o.2.2.2.2.2.1; omega))
            | exact j64 _ Sc.rf (fun j' s' z' T' wn' o => absurd c42 (by rw [o.2.2.2.2.1, show (200 : Int32) = nI 200 from rfl, nI_ltI (by decide) (by have := o.2.2.2.2.2.2.1; omega)]; have := o.2.2.2.2.2.2.1; omega))
            | exact j64 _ Sc.rf (fun j' s' z' T' wn' o => absurd c47 (by rw [o.2.2.2.2.2.2.2.1, c1, nI_ltI (by have := o.2.2.2.2.2.2.2.2.2.1; omega) (by decide)]; have := o.2.2.2.2.2.2.2.2.1; omega))
            | exact j64 _ Sc.rf (fun j' s' z' T' wn' o => absurd c53 (by rw [o.2.2.2.2.2.2.2.1, show (9 : Int32) = nI 9 from rfl, nI_ltI (by decide) (by have := o.2.2.2.2.2.2.2.2.2.1; omega)]; have := o.2.2.2.2.2.2.2.2.2.1; omega))
        · obtain ⟨s, z, hp⟩ := hP j (by omega) ((h05 j (by omega)).elim (fun e => absurd e c30) id)
          refine r_iload_n C dX7_score_33 rfl rfl ?_
          refine r_iconst (v := 1) C dX7_score_34 (by decide) ?_
          refine r_icmp_lt (tgt := 64) C dX7_score_35 (by decide) (fun c35 => ?_) (fun c35 => ?_)
          · first
              | exact j64 _ (Sc.rf.up (Or.inl rfl)) (fun j' s' z' T' wn' o => by
                  obtain ⟨o1, o2, ok, o3, o4, o5, o6, o7, o8, o9, o10⟩ := o
                  rw [nI_eq (by omega) (by omega)] at ok
                  subst ok
                  have e1 := hp.1.symm.trans o3.1
                  have e2 := hp.2.2.2.1.symm.trans o3.2.2.2.1
                  rw [nI_eq (by have := hp.2.2.1; omega) (by have := o3.2.2.1; omega)] at e1
                  rw [nI_eq (by have := hp.2.2.2.2.1; omega) (by have := o3.2.2.2.2.1; omega)] at e2
                  subst e1; subst e2
                  exact hr.elim (fun q => absurd (q.1.symm.trans c61) (by decide)) (fun q => q.2 o10))
              | exact j64 _ Sc.rf (fun j' s' z' T' wn' o => absurd ((nI_eq (by omega) (by decide)).mp c11) o.1)
              | exact j64 _ Sc.rf (fun j' s' z' T' wn' o => absurd c15 (by rw [o.2.2.1]; exact nI_pos (by have := o.2.1; omega)))
              | exact j64 _ Sc.rf (fun j' s' z' T' wn' o => absurd c21 (by rw [o.2.2.1, show (7 : Int32) = nI 7 from rfl, nI_ltI (by decide) (by have := o.2.1; omega)]; have := o.2.1; omega))
              | exact j64 _ Sc.rf (fun j' s' z' T' wn' o => by
                  have e := (nI_eq (by omega) (by have := o.2.1; omega)).mp o.2.2.1
                  rw [e, o.2.2.2.1.1] at c30
                  exact absurd c30 (nI_ne0 (by have := o.2.2.2.1.2.1; omega) (by have := o.2.2.2.1.2.2.1; omega)))
              | exact j64 _ Sc.rf (fun j' s' z' T' wn' o => absurd c35 (by rw [o.2.2.2.2.1, c1, nI_ltI (by have := o.2.2.2.2.2.2.1; omega) (by decide)]; have := o.2.2.2.2.2.1; omega))
              | exact j64 _ Sc.rf (fun j' s' z' T' wn' o => absurd c42 (by rw [o.2.2.2.2.1, show (200 : Int32) = nI 200 from rfl, nI_ltI (by decide) (by have := o.2.2.2.2.2.2.1; omega)]; have := o.2.2.2.2.2.2.1; omega))
              | exact j64 _ Sc.rf (fun j' s' z' T' wn' o => absurd c47 (by rw [o.2.2.2.2.2.2.2.1, c1, nI_ltI (by have := o.2.2.2.2.2.2.2.2.2.1; omega) (by decide)]; have := o.2.2.2.2.2.2.2.2.1; omega))
              | exact j64 _ Sc.rf (fun j' s' z' T' wn' o => absurd c53 (by rw [o.2.2.2.2.2.2.2.1, show (9 : Int32) = nI 9 from rfl, nI_ltI (by decide) (by have := o.2.2.2.2.2.2.2.2.2.1; omega)]; have := o.2.2.2.2.2.2.2.2.2.1; omega))
          · refine r_iload_n C dX7_score_38 rfl rfl ?_
            refine r_sipush (v := 200) C dX7_score_39 (by decide) ?_
            refine r_icmp_gt (tgt := 64) C dX7_score_42 (by decide) (fun c42 => ?_) (fun c42 => ?_)
            · first
                | exact j64 _ (Sc.rf.up (Or.inl rfl)) (fun j' s' z' T' wn' o => by
                    obtain ⟨o1, o2, ok, o3, o4, o5, o6, o7, o8, o9, o10⟩ := o
                    rw [nI_eq (by omega) (by omega)] at ok
                    subst ok
                    have e1 := hp.1.symm.trans o3.1
                    have e2 := hp.2.2.2.1.symm.trans o3.2.2.2.1
                    rw [nI_eq (by have := hp.2.2.1; omega) (by have := o3.2.2.1; omega)] at e1
                    rw [nI_eq (by have := hp.2.2.2.2.1; omega) (by have := o3.2.2.2.2.1; omega)] at e2
                    subst e1; subst e2
                    exact hr.elim (fun q => absurd (q.1.symm.trans c61) (by decide)) (fun q => q.2 o10))
                | exact j64 _ Sc.rf (fun j' s' z' T' wn' o => absurd ((nI_eq (by omega) (by decide)).mp c11) o.1)
                | exact j64 _ Sc.rf (fun j' s' z' T' wn' o => absurd c15 (by rw [o.2.2.1]; exact nI_pos (by have := o.2.1; omega)))
                | exact j64 _ Sc.rf (fun j' s' z' T' wn' o => absurd c21 (by rw [o.2.2.1, show (7 : Int32) = nI 7 from rfl, nI_ltI (by decide) (by have := o.2.1; omega)]; have := o.2.1; omega))
                | exact j64 _ Sc.rf (fun j' s' z' T' wn' o => by
                    have e := (nI_eq (by omega) (by have := o.2.1; omega)).mp o.2.2.1
                    rw [e, o.2.2.2.1.1] at c30
                    exact absurd c30 (nI_ne0 (by have := o.2.2.2.1.2.1; omega) (by have := o.2.2.2.1.2.2.1; omega)))
                | exact j64 _ Sc.rf (fun j' s' z' T' wn' o => absurd c35 (by rw [o.2.2.2.2.1, c1, nI_ltI (by have := o.2.2.2.2.2.2.1; omega) (by decide)]; have := o.2.2.2.2.2.1; omega))
                | exact j64 _ Sc.rf (fun j' s' z' T' wn' o => absurd c42 (by rw [o.2.2.2.2.1, show (200 : Int32) = nI 200 from rfl, nI_ltI (by decide) (by have := o.2.2.2.2.2.2.1; omega)]; have := o.2.2.2.2.2.2.1; omega))
                | exact j64 _ Sc.rf (fun j' s' z' T' wn' o => absurd c47 (by rw [o.2.2.2.2.2.2.2.1, c1, nI_ltI (by have := o.2.2.2.2.2.2.2.2.2.1; omega) (by decide)]; have := o.2.2.2.2.2.2.2.2.1; omega))
                | exact j64 _ Sc.rf (fun j' s' z' T' wn' o => absurd c53 (by rw [o.2.2.2.2.2.2.2.1, show (9 : Int32) = nI 9 from rfl, nI_ltI (by decide) (by have := o.2.2.2.2.2.2.2.2.2.1; omega)]; have := o.2.2.2.2.2.2.2.2.2.1; omega))
            · refine r_iload_n C dX7_score_45 rfl rfl ?_
              refine r_iconst (v := 1) C dX7_score_46 (by decide) ?_
              refine r_icmp_lt (tgt := 64) C dX7_score_47 (by decide) (fun c47 => ?_) (fun c47 => ?_)
              · first
                  | exact j64 _ (Sc.rf.up (Or.inl rfl)) (fun j' s' z' T' wn' o => by
                      obtain ⟨o1, o2, ok, o3, o4, o5, o6, o7, o8, o9, o10⟩ := o
                      rw [nI_eq (by omega) (by omega)] at ok
                      subst ok
                      have e1 := hp.1.symm.trans o3.1
                      have e2 := hp.2.2.2.1.symm.trans o3.2.2.2.1
                      rw [nI_eq (by have := hp.2.2.1; omega) (by have := o3.2.2.1; omega)] at e1
                      rw [nI_eq (by have := hp.2.2.2.2.1; omega) (by have := o3.2.2.2.2.1; omega)] at e2
                      subst e1; subst e2
                      exact hr.elim (fun q => absurd (q.1.symm.trans c61) (by decide)) (fun q => q.2 o10))
                  | exact j64 _ Sc.rf (fun j' s' z' T' wn' o => absurd ((nI_eq (by omega) (by decide)).mp c11) o.1)
                  | exact j64 _ Sc.rf (fun j' s' z' T' wn' o => absurd c15 (by rw [o.2.2.1]; exact nI_pos (by have := o.2.1; omega)))
                  | exact j64 _ Sc.rf (fun j' s' z' T' wn' o => absurd c21 (by rw [o.2.2.1, show (7 : Int32) = nI 7 from rfl, nI_ltI (by decide) (by have := o.2.1; omega)]; have := o.2.1; omega))
                  | exact j64 _ Sc.rf (fun j' s' z' T' wn' o => by
                      have e := (nI_eq (by omega) (by have := o.2.1; omega)).mp o.2.2.1
                      rw [e, o.2.2.2.1.1] at c30
                      exact absurd c30 (nI_ne0 (by have := o.2.2.2.1.2.1; omega) (by have := o.2.2.2.1.2.2.1; omega)))
                  | exact j64 _ Sc.rf (fun j' s' z' T' wn' o => absurd c35 (by rw [o.2.2.2.2.1, c1, nI_ltI (by have := o.2.2.2.2.2.2.1; omega) (by decide)]; have := o.2.2.2.2.2.1; omega))
                  | exact j64 _ Sc.rf (fun j' s' z' T' wn' o => absurd c42 (by rw [o.2.2.2.2.1, show (200 : Int32) = nI 200 from rfl, nI_ltI (by decide) (by have := o.2.2.2.2.2.2.1; omega)]; have := o.2.2.2.2.2.2.1; omega))
                  | exact j64 _ Sc.rf (fun j' s' z' T' wn' o => absurd c47 (by rw [o.2.2.2.2.2.2.2.1, c1, nI_ltI (by have := o.2.2.2.2.2.2.2.2.2.1; omega) (by decide)]; have := o.2.2.2.2.2.2.2.2.1; omega))
                  | exact j64 _ Sc.rf (fun j' s' z' T' wn' o => absurd c53 (by rw [o.2.2.2.2.2.2.2.1, show (9 : Int32) = nI 9 from rfl, nI_ltI (by decide) (by have := o.2.2.2.2.2.2.2.2.2.1; omega)]; have := o.2.2.2.2.2.2.2.2.2.1; omega))
              · refine r_iload_n C dX7_score_50 rfl rfl ?_
                refine r_bipush (v := 9) C dX7_score_51 (by decide) ?_
                refine r_icmp_gt (tgt := 64) C dX7_score_53 (by decide) (fun c53 => ?_) (fun c53 => ?_)
                · first
                    | exact j64 _ (Sc.rf.up (Or.inl rfl)) (fun j' s' z' T' wn' o => by
                        obtain ⟨o1, o2, ok, o3, o4, o5, o6, o7, o8, o9, o10⟩ := o
                        rw [nI_eq (by omega) (by omega)] at ok
                        subst ok
                        have e1 := hp.1.symm.trans o3.1
                        have e2 := hp.2.2.2.1.symm.trans o3.2.2.2.1
                        rw [nI_eq (by have := hp.2.2.1; omega) (by have := o3.2.2.1; omega)] at e1
                        rw [nI_eq (by have := hp.2.2.2.2.1; omega) (by have := o3.2.2.2.2.1; omega)] at e2
                        subst e1; subst e2
                        exact hr.elim (fun q => absurd (q.1.symm.trans c61) (by decide)) (fun q => q.2 o10))
                    | exact j64 _ Sc.rf (fun j' s' z' T' wn' o => absurd ((nI_eq (by omega) (by decide)).mp c11) o.1)
                    | exact j64 _ Sc.rf (fun j' s' z' T' wn' o => absurd c15 (by rw [o.2.2.1]; exact nI_pos (by have := o.2.1; omega)))
                    | exact j64 _ Sc.rf (fun j' s' z' T' wn' o => absurd c21 (by rw [o.2.2.1, show (7 : Int32) = nI 7 from rfl, nI_ltI (by decide) (by have := o.2.1; omega)]; have := o.2.1; omega))
                    | exact j64 _ Sc.rf (fun j' s' z' T' wn' o => by
                        have e := (nI_eq (by omega) (by have := o.2.1; omega)).mp o.2.2.1
                        rw [e, o.2.2.2.1.1] at c30
                        exact absurd c30 (nI_ne0 (by have := o.2.2.2.1.2.1; omega) (by have := o.2.2.2.1.2.2.1; omega)))
                    | exact j64 _ Sc.rf (fun j' s' z' T' wn' o => absurd c35 (by rw [o.2.2.2.2.1, c1, nI_ltI (by have := o.2.2.2.2.2.2.1; omega) (by decide)]; have := o.2.2.2.2.2.1; omega))
                    | exact j64 _ Sc.rf (fun j' s' z' T' wn' o => absurd c42 (by rw [o.2.2.2.2.1, show (200 : Int32) = nI 200 from rfl, nI_ltI (by decide) (by have := o.2.2.2.2.2.2.1; omega)]; have := o.2.2.2.2.2.2.1; omega))
                    | exact j64 _ Sc.rf (fun j' s' z' T' wn' o => absurd c47 (by rw [o.2.2.2.2.2.2.2.1, c1, nI_ltI (by have := o.2.2.2.2.2.2.2.2.2.1; omega) (by decide)]; have := o.2.2.2.2.2.2.2.2.1; omega))
                    | exact j64 _ Sc.rf (fun j' s' z' T' wn' o => absurd c53 (by rw [o.2.2.2.2.2.2.2.1, show (9 : Int32) = nI 9 from rfl, nI_ltI (by decide) (by have := o.2.2.2.2.2.2.2.2.2.1; omega)]; have := o.2.2.2.2.2.2.2.2.2.1; omega))
                · obtain ⟨T, hT31, rfl⟩ := nI_of (x := t) (fun q => c35 (Int32.lt_of_lt_of_le q (by decide)))
                  obtain ⟨wn, hw31, rfl⟩ := nI_of (x := w) (fun q => c47 (Int32.lt_of_lt_of_le q (by decide)))
                  rw [c1, nI_ltI (by omega) (by omega)] at c35 c47
                  rw [show (9 : Int32) = nI 9 from rfl, nI_ltI (by omega) (by omega)] at c53
                  rw [show (200 : Int32) = nI 200 from rfl, nI_ltI (by omega) (by omega)] at c42
                  refine r_aload_n C dX7_score_56 rfl rfl ?_
                  refine r_iload_n C dX7_score_57 rfl rfl ?_
                  refine m_calli C (c_holds G h ad (va_up M 0 0) R (show j < 8 by omega) hp) kM_holds dX7_score_58 rfl (by decide) (by decide) (by decide) (Nat.le_of_ble_eq_true rfl) rfl rfl (fun r M1 R1 hq => ?_)
                  obtain ⟨hr, rfl, P, rfl⟩ := hq
                  refine r_if_ne (tgt := 66) C dX7_score_61 (by decide) (fun c61 => ?_) (fun c61 => ?_)
                  · exact j66 _ j s z T wn (Sc.rf.up (Or.inl rfl)) ⟨fun e => c11 (by rw [e]; rfl), by omega, rfl, hp, rfl, by omega, by omega, rfl, by omega, by omega, hr.elim (fun q => q.2) (fun q => absurd q.1 c61)⟩
                  · first
                      | exact j64 _ (Sc.rf.up (Or.inl rfl)) (fun j' s' z' T' wn' o => by
                          obtain ⟨o1, o2, ok, o3, o4, o5, o6, o7, o8, o9, o10⟩ := o
                          rw [nI_eq (by omega) (by omega)] at ok
                          subst ok
                          have e1 := hp.1.symm.trans o3.1
                          have e2 := hp.2.2.2.1.symm.trans o3.2.2.2.1
                          rw [nI_eq (by have := hp.2.2.1; omega) (by have := o3.2.2.1; omega)] at e1
                          rw [nI_eq (by have := hp.2.2.2.2.1; omega) (by have := o3.2.2.2.2.1; omega)] at e2
                          subst e1; subst e2
                          exact hr.elim (fun q => absurd (q.1.symm.trans c61) (by decide)) (fun q => q.2 o10))
                      | exact j64 _ Sc.rf (fun j' s' z' T' wn' o => absurd ((nI_eq (by omega) (by decide)).mp c11) o.1)
                      | exact j64 _ Sc.rf (fun j' s' z' T' wn' o => absurd c15 (by rw [o.2.2.1]; exact nI_pos (by have := o.2.1; omega)))
                      | exact j64 _ Sc.rf (fun j' s' z' T' wn' o => absurd c21 (by rw [o.2.2.1, show (7 : Int32) = nI 7 from rfl, nI_ltI (by decide) (by have := o.2.1; omega)]; have := o.2.1; omega))
                      | exact j64 _ Sc.rf (fun j' s' z' T' wn' o => by
                          have e := (nI_eq (by omega) (by have := o.2.1; omega)).mp o.2.2.1
                          rw [e, o.2.2.2.1.1] at c30
                          exact absurd c30 (nI_ne0 (by have := o.2.2.2.1.2.1; omega) (by have := o.2.2.2.1.2.2.1; omega)))
                      | exact j64 _ Sc.rf (fun j' s' z' T' wn' o => absurd c35 (by rw [o.2.2.2.2.1, c1, nI_ltI (by have := o.2.2.2.2.2.2.1; omega) (by decide)]; have := o.2.2.2.2.2.1; omega))
                      | exact j64 _ Sc.rf (fun j' s' z' T' wn' o => absurd c42 (by rw [o.2.2.2.2.1, show (200 : Int32) = nI 200 from rfl, nI_ltI (by decide) (by have := o.2.2.2.2.2.2.1; omega)]; have := o.2.2.2.2.2.2.1; omega))
                      | exact j64 _ Sc.rf (fun j' s' z' T' wn' o => absurd c47 (by rw [o.2.2.2.2.2.2.2.1, c1, nI_ltI (by have := o.2.2.2.2.2.2.2.2.2.1; omega) (by decide)]; have := o.2.2.2.2.2.2.2.2.1; omega))
                      | exact j64 _ Sc.rf (fun j' s' z' T' wn' o => absurd c53 (by rw [o.2.2.2.2.2.2.2.1, show (9 : Int32) = nI 9 from rfl, nI_ltI (by decide) (by have := o.2.2.2.2.2.2.2.2.2.1; omega)]; have := o.2.2.2.2.2.2.2.2.2.1; omega))
end M12
