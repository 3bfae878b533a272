/-! the class: Form, neighbours changed -/
section VC6
variable {X : Fx} {G : Gx} {nL : Nat} {cc : ByteArray} {own : String} {d mc ms k n pc : Nat} {L : List (Option Value)} {st : List Value} {ws : va_W}
theorem r_callSv (C : Cx X G nL cc own d mc ms) {y : MethodName} {b : ByteArray} {nL' idx np : Nat} {d' mc' ms' : Nat} {As : List Value} {wc wr : va_W} {S : Type} {post : S → Prop} {wo : S → va_W} (hM : CV G y b nL' d' mc' ms' As wc post wo) (hI : KS own idx y b nL' none np) (hdg : decode cc pc = .ok (.invokestatic idx, 3)) (hnp : As.length = np) (hd : d' + 1 ≤ d) (hk : k + mc' ≤ mc) (hn : n + ms' ≤ ms) (hst : (st.map fun v => v.category).sum ≤ 8) (isC isR : List Nat) (hnC : va_nd isC = true) (hC : isC.map (fun i => ws[i]?) = wc.map some) (hR : isR.map (fun i => ws[i]?) = wr.map some) (hnR : va_nd isR = true) (hdis : ∀ i ∈ isR, i ∉ isC)
    {st0 : List Value} (hs0 : st0 = As.reverse ++ st) (kk : ∀ (u : S), post u → V X (k + mc') (n + ms') (pc + 3) L st (wr ++ wo u)) : V X k n pc L st0 ws := by
  subst hs0
  obtain ⟨p, l, e, R, s, m, args, below, meth, c, D, cy, A, nX, Q⟩ := X
  obtain ⟨hx, hb, rfl, hml, hown, hts, hK, hA, hlocks, hfr, hlo, hce, hsl, hG1, hG2, hG3⟩ := C
  obtain ⟨l', D', cy'⟩ := G
  dsimp only at hG1 hG2 hG3
  subst hG1; subst hG2; subst hG3
  intro H locs ls hP hD hS hl
  have hPc := hP.sub isC (map_filter_some hC)
  have hDc := hD.sub isC hnC hC
  have hFc := va_free (wc := wc) hD hS hA isC hC
  have h16 := hI.2.2.2.2.2
  refine va_callv (va_runS (As := As) (rest := st) (Ts := ALLW) ⟨hx, hb, hml, hown, hts⟩ (hM H.size) (cwS np hts hI.good rfl rfl rfl hI.2.2.2.2.1 ⟨by show d' + 1 ≤ _; omega, by show _ + 35 * d' ≤ _; omega⟩) ⟨fun a U g mk q => ?_, fun U hU hW => ⟨rfl, by rw [hU], by rw [hU]; exact hPc, va_K.moved hW.alike hK, hDc.weaken (fun _ _ _ _ => trivial)⟩⟩ rfl hnp hl.1 rfl (lv_room hst) hdg ⟨by omega, by omega⟩) hS (fun q _ h => hFc q h) hFc (fun u t H1 locs1 ht hvm hw hB hz1 hk1 hS1 => ?_)
  · obtain ⟨q0, q1, qP, qK, qD⟩ := q
    exact ⟨q0, q1, qP, va_K.moved (u := U) (U := U.calling g mk a) (Vm.Alike.refl U.vm) qK, qD⟩
  · obtain ⟨hP1, hK1, hD1⟩ := hB
    rw [ht] at hP1
    obtain ⟨hP2, hD2⟩ := va_join (wr := wr) (w1 := wo u) hP hD isC isR hC hR hnR hdis hk1 hFc hP1 hD1
    exact kk u hw H1 locs1 ls hP2 hD2 hS1 hl
end VC6
/-- a row with two neighbours changed -/
def swR (f : Nat → Int32) (i : Nat) : Nat → Int32 := upd (upd f i (f (i + 1))) (i + 1) (f i)
theorem swR_at {f : Nat → Int32} {i x : Nat} : swR f i x = f (sw i x) := by
  unfold swR sw
  by_cases e1 : x = i
  · subst e1
    rw [pk_un (by omega), pk_us, if_pos rfl]
  · rw [if_neg e1]
    by_cases e2 : x = i + 1
    · subst e2
      rw [pk_us, if_pos rfl]
    · rw [pk_un e2, pk_un e1, if_neg e2]
theorem sw_twice {i x : Nat} : sw i (sw i x) = x := by
  unfold sw
  by_cases e1 : x = i
  · subst e1; rw [if_pos rfl, if_neg (by omega), if_pos rfl]
  · rw [if_neg e1]
    by_cases e2 : x = i + 1
    · subst e2; rw [if_pos rfl, if_pos rfl]
    · rw [if_neg e2, if_neg e1, if_neg e2]
theorem mvL_perm {F : Nat → Nat} {s i : Nat} (h : PermOn F s) (h1 : 1 ≤ i) (hi : i < s) : PermOn (mvL i F) s := by
  refine ⟨fun p p1 p2 => ?_, fun p q p1 p2 q1 q2 e => ?_⟩
  · have := h.1 p p1 p2
    unfold mvL sw
    split
    · omega
    · split <;> omega
  · have e2 : sw i (sw i (F p)) = sw i (sw i (F q)) := congrArg (sw i) e
    rw [sw_twice, sw_twice] at e2
    exact h.2 p q p1 p2 q1 q2 e2
theorem catA {a : Nat} {x : Int32} : ∀ v ∈ [Value.ref a, Value.int x], v.category = 1 := by
  intro v hv
  simp only [List.mem_cons, List.not_mem_nil, or_false] at hv
  rcases hv with q | q <;> rw [q] <;> rfl
section F2
variable (G : Gx) (Z : Nat) (A : Nat → Nat) (P : va_W) (N : Nt) (R : Rt) (Q : Qt)
theorem c_changeNeighbours (a : Nat) (f : Nat → Int32) {i : Nat} (hi : i + 1 < 8) : CV G yX1_changeNeighbours cX1_changeNeighbours 3 0 0 0 [.ref a, .int (nI i)] [(a, .inl (G.2.2 0, 8, .inl f))] (S := Unit) (fun _ => True) (fun _ => [(a, .inl (G.2.2 0, 8, .inl (swR f i)))]) := by
  refine CV.intro (by decide) (Nat.le_of_ble_eq_true rfl) catA fun X C hR => ?_
  have b0 : vp_in (nI i) 8 := vp_in_nI (by omega) (by decide)
  have b1 : vp_in (nI i + 1) 8 := by rw [nI_1]; exact vp_in_nI hi (by decide)
  have c0 : (nI i).toNatClampNeg = i := nI_clamp (by omega)
  have c1 : (nI i + 1).toNatClampNeg = i + 1 := by rw [nI_1]; exact nI_clamp (by omega)
  refine r_aload_n C dX1_changeNeighbours_0 rfl rfl ?_
  refine r_iload_n C dX1_changeNeighbours_1 rfl rfl ?_
  refine r_iald C 0 rfl b0 dX1_changeNeighbours_2 ?_
  rw [c0]
  refine r_istore_n C dX1_changeNeighbours_3 rfl (by decide) ?_
  refine r_aload_n C dX1_changeNeighbours_4 rfl rfl ?_
  refine r_iload_n C dX1_changeNeighbours_5 rfl rfl ?_
  refine r_aload_n C dX1_changeNeighbours_6 rfl rfl ?_
  refine r_iload_n C dX1_changeNeighbours_7 rfl rfl ?_
  refine r_iconst (v := 1) C dX1_changeNeighbours_8 (by decide) ?_
  refine r_iadd C dX1_changeNeighbours_9 ?_
  refine r_iald C 0 rfl b1 dX1_changeNeighbours_10 ?_
  rw [c1]
  refine r_iast (ws' := [(a, .inl (G.2.2 0, 8, .inl (upd f i (f (i + 1)))))]) C 0 rfl b0 (by rw [c0]; rfl) dX1_changeNeighbours_11 ?_
  refine r_aload_n C dX1_changeNeighbours_12 rfl rfl ?_
  refine r_iload_n C dX1_changeNeighbours_13 rfl rfl ?_
  refine r_iconst (v := 1) C dX1_changeNeighbours_14 (by decide) ?_
  refine r_iadd C dX1_changeNeighbours_15 ?_
  refine r_iload_n C dX1_changeNeighbours_16 rfl rfl ?_
  refine r_iast (ws' := [(a, .inl (G.2.2 0, 8, .inl (swR f i)))]) C 0 rfl b1 (by rw [c1]; rfl) dX1_changeNeighbours_17 ?_
  exact hR _ _ _ _ () (by decide) (by decide) trivial dX1_changeNeighbours_18
/-- the permutation with a crossing behind it -/
theorem c_withNumbersChanged {s i : Nat} {F : Nat → Nat} (hs : N 0 4 = nI s) (hs7 : s ≤ 7) (hF : PermOn F s) (h1 : 1 ≤ i) (hi : i < s) : CI G yX1_withNumbersChanged cX1_withNumbersChanged 3 .int 2 0 0 [.ref (A 0), .int (codeF F s), .int (nI i)] (fW G Z A N R Q ++ P) (S := Nat → Int32) (fun r _ => r = codeF (mvL i F) s) (fun g => fW G Z A N (va_up R 2 g) Q ++ P) := by
  refine CI.intro (by decide) (Nat.le_of_ble_eq_true rfl) (cat1 (xs := [codeF F s, nI i])) fun X C hR => ?_
  have hL : PermOn (mvL i F) s := mvL_perm hF h1 hi
  refine r_aload_n C dX1_withNumbersChanged_0 rfl rfl ?_
  refine r_iload_n C dX1_withNumbersChanged_1 rfl rfl ?_
  refine a_callVv C (c_unpackInverse G Z A P N R Q hs hs7 hF) kcX1_X1_unpackInverse dX1_withNumbersChanged_2 rfl (by decide) (by decide) (by decide) (Nat.le_of_ble_eq_true rfl) 0 rfl (ci := 1) rfl rfl rfl (fun g hg => ?_)
  have hc1 : ∀ x, 1 ≤ x → x ≤ s → cl (swR g i (mvL i F x)) = x := fun x x1 x2 => by
    rw [swR_at, show mvL i F x = sw i (F x) from rfl, sw_twice, hg x x1 x2]
    exact cl_nI (by omega)
  have hc2 : ∀ x, 1 ≤ x → x ≤ s → swR g i x = nI (cl (swR g i x)) := fun x x1 x2 => by
    obtain ⟨y, y1, y2, e⟩ := perm_surj hL x1 x2
    rw [← e, hc1 y y1 y2, swR_at, show mvL i F y = sw i (F y) from rfl, sw_twice, hg y y1 y2]
  refine r_iload_n C dX1_withNumbersChanged_5 rfl rfl ?_
  refine r_iconst (v := 1) C dX1_withNumbersChanged_6 (by decide) ?_
  refine r_icmp_lt (tgt := 26) C dX1_withNumbersChanged_7 (by decide) (fun c7 => absurd c7 ((by rw [show (1 : Int32) = nI 1 from rfl, nI_ltI (by omega) (by decide)]; omega))) (fun c7 => ?_)
  refine r_iload_n C dX1_withNumbersChanged_10 rfl rfl ?_
  refine r_aload_n C dX1_withNumbersChanged_11 rfl rfl ?_
  refine fg_X1_21 C dX1_withNumbersChanged_12 ?_
  rw [hs]
  refine r_icmp_ge (tgt := 26) C dX1_withNumbersChanged_15 (by decide) (fun c15 => absurd c15 ((by rw [nI_leI (by omega) (by omega)]; omega))) (fun c15 => ?_)
  refine r_aload_n C dX1_withNumbersChanged_18 rfl rfl ?_
  refine fg_X1_30 C dX1_withNumbersChanged_19 ?_
  refine r_iload_n C dX1_withNumbersChanged_22 rfl rfl ?_
  refine r_callSv C (c_changeNeighbours G (A 2) g (i := i) (by omega)) kcX1_X1_changeNeighbours dX1_withNumbersChanged_23 rfl (by decide) (by decide) (by decide) (Nat.le_of_ble_eq_true rfl) [2] ([0, 1, 3] ++ tlx 4 P) (by decide) (tl_C rfl) (tl_R (wr := (fW G Z A N R Q).take 2 ++ (fW G Z A N R Q).drop 3) rfl rfl) (tl_nd (by decide) (by decide)) (tl_dis (by decide) (by decide)) rfl (fun u hu => ?_)
  refine V.back (m := 4) rfl [0, 1, 3, 2] (by decide) (ws' := fW G Z A N (va_up R 2 (swR g i)) Q) rfl (by decide) ?_
  refine r_aload_n C dX1_withNumbersChanged_26 rfl rfl ?_
  refine a_callVi C (c_packInverse G Z A P N (va_up R 2 (swR g i)) Q (F := mvL i F) (cf := fun x => cl (swR g i x)) hs hs7 hL hc1 hc2) kcX1_X1_packInverse dX1_withNumbersChanged_27 rfl (by decide) (by decide) (by decide) (Nat.le_of_ble_eq_true rfl) 0 rfl (ci := 1) rfl rfl rfl (fun r u hu => ?_)
  exact hR _ _ _ _ _ (swR g i) (by decide) (by decide) rfl hu dX1_withNumbersChanged_30
end F2
