/-! contracts whose throw leaves one of some worlds -/
def XXJ (G : Gx) (ws : va_W) (sz : Nat) {SX : Type} (px : SX → Prop) (E : String) (wx : SX → va_W) : String → State → State → Prop := vx_X (S := SX) px (fun E' u t => E' = E ∧ Wd G (va_A ws sz) (wx u) t) (va_A ws sz)
def XJ (G : Gx) (y : MethodName) (w : Cond) (d mc ms : Nat) (avs : List Value) (ws : va_W) {SX : Type} (px : SX → Prop) (E : String) (wx : SX → va_W) {S : Type} (post : Int32 → S → Prop) (wo : S → va_W) : Prop :=
  ∀ sz : Nat, vx_Met G.1 y (w :: ALLW) ({ frames := d, cells := mc, slots := ms, locals := 35 * d } : Room) (PreE G avs ws sz) (va_Qi post (fun u t => Wd G (va_A ws sz) (wo u) t) (va_A ws sz)) (XXJ G ws sz px E wx) mc ms (va_A ws sz)
def TJ (X : Fx) (mc ms : Nat) {SX : Type} (px : SX → Prop) (E : String) (wx : SX → va_W) : Prop := ∀ (k n pc : Nat) (L : List (Option Value)) (st : List Value) (u : SX), k ≤ mc → n ≤ ms → px u → VX X k n pc L st (wx u) E
def TK (X : Fx) (cc : ByteArray) (own : String) (d mc ms : Nat) {SX : Type} (px : SX → Prop) (E : String) (wx : SX → va_W) : Prop := ∀ (u : SX) (k n pc : Nat) (L : List (Option Value)) (st : List Value) (ik is ic : Nat) (text : String), k + 1 ≤ mc → n + 6 ≤ ms → px u → 6 ≤ d → (st.map fun v => v.category).sum ≤ 8 → KT own ik ic E → (is, text) ∈ strsB → own = "PlaitBench" → decode cc pc = .ok (.new ik, 3) → decode cc (pc + 3) = .ok (.dup, 1) → decode cc (pc + 4) = .ok (.ldc is, 2) → decode cc (pc + 6) = .ok (.invokespecial ic, 3) → decode cc (pc + 9) = .ok (.athrow, 1) → V X k n pc L st (wx u)
section XJN
variable {G : Gx} {y : MethodName} {b : ByteArray} {nL : Nat} {d mc ms : Nat} {avs : List Value} {ws : va_W} {SX : Type} {px : SX → Prop} {E : String} {wx : SX → va_W}
theorem xj_TO {p : Program} {l : Launch} {e : Env} {R : Room} {s : State} {m : MethodId} {args : Array Value} {below : List Frame} {meth : Method} {c : Code} {nL sz : Nat} {Qc : Array Value → State → Outcome → State → Prop} (hK : va_K G.2.1 vwCl (tysA G.2.2) s) (hno : ∀ x ∈ c.exceptionTable.toList, False) (hlocks : meth.locks = false) : TJ (p, l, e, R, s, m, args, below, meth, c, G.2.1, G.2.2, va_A ws sz, nL, vx_MQ below Qc (XXJ G ws sz px E wx) args s mc ms (va_A ws sz)) mc ms px E wx := by
  intro k n pc L st u hk hn hx H locs ls q9 ce hP hD hS hl hce hcv hcl
  exact vx_out (fun z hz => (hno z hz).elim) hlocks hce hcv hcl (fun t ht hal => ⟨u, hx, ⟨rfl, by rw [ht]; exact hP, va_K.moved hal hK, hD⟩, hS.F ht⟩) hS.2.2 hk hn
theorem xj_TN {p : Program} {e : Env} {s : State} {m : MethodId} {args : Array Value} {below : List Frame} {meth : Method} {c : Code} {sz : Nat} {own : String} {Qc : Array Value → State → Outcome → State → Prop} (hx0 : p.tables.exec = Jvm.exec) (hb : c.code = b) (hml : c.maxLocals = nL) (hown : s.vm.findClass own = some m.cls) (hts : ∀ w ∈ ALLW, w.before args s = true) (hK : va_K G.2.1 vwCl (tysA G.2.2) s) (hE : EV G.1 (va_A ws sz) s s.heap) (hno : ∀ x ∈ c.exceptionTable.toList, False) (hlocks : meth.locks = false) : TK (p, G.1, e, ({ frames := d, cells := mc, slots := ms, locals := 35 * d } : Room), s, m, args, below, meth, c, G.2.1, G.2.2, va_A ws sz, nL, vx_MQ below Qc (XXJ G ws sz px E wx) args s mc ms (va_A ws sz)) b own d mc ms px E wx := by
  intro u k n pc L st ik is ic text hk hn hx hd hst hKT hstr ho d0 d3 d4 d6 d9 H locs ls hP hD hS hl
  obtain ⟨hcl, hini, hfit, hEE, ix, rx, x0, x1, x2, x5, hw⟩ := hKT
  obtain ⟨hl0, hU, hN, hstrs, -, -, hc1, hc2, hdc, -⟩ := hE
  obtain ⟨sa, hsa⟩ := hstrs _ hstr
  refine th_throwX hx0 hb hl0 x0 x1 x2 x5 hown hfit (hts _ hcl) (hts _ hini) (by rw [ho]; exact hsa) (fun w hww => ?_) (fun w hww => ?_) hU hN hS (by rw [hml]; exact hl.1) d0 d3 d4 d6 d9 (fun z hz => (hno z hz).elim) (by show 2 + 3 < d; omega) (by show _ + (13 * (2 + 1) + 43) ≤ 35 * d; omega) hk hn hlocks (fun t hal hz hkeep => ⟨u, hx, ⟨rfl, hP.kept (fun k9 q hq => hkeep q.1 ((hP k9 q hq).lt)), va_K.moved hal hK, hD⟩, ?_⟩) hS.2.2 hk hn
  · rcases (hw w hww).1 with q | ⟨y0, hy0, q⟩ | q
    · rcases hEE with w1 | w1
      · rw [q, w1]; exact va_Nw.use (A := args) rfl hc1
      · rw [q, w1]; exact va_Nw.use (A := args) rfl hc2
    · rw [q]; exact va_Nw.use (A := args) rfl (hdc y0 hy0)
    · exact hts _ q
  · rcases List.mem_cons.mp hww with q | q
    · subst q; exact by simp [vx_ot, Cond.onTables]
    · rcases List.mem_cons.mp q with q | q
      · subst q; exact by simp [vx_ot, Cond.onTables]
      · exact (hw w q).2
  · exact ⟨Nat.le_trans hS.1 hz, fun q h1 h2 => (hkeep q (Nat.lt_of_lt_of_le h1 hS.1)).trans (hS.2.1 q h1 h2)⟩
theorem XJ.intro {rt : FieldType} {S : Type} {post : Int32 → S → Prop} {wo : S → va_W} (hy : plainName y.cls = true) (hn : avs.length ≤ nL) (hc : ∀ v ∈ avs, v.category = 1)
    (body : ∀ X : Fx, Cx X G nL b y.cls d mc ms → Ev X → RI X b rt mc ms post wo → TJ X mc ms px E wx → TK X b y.cls d mc ms px E wx → V X 0 0 0 (ent avs nL) [] ws) : XJ G y (.code y b nL (some rt)) d mc ms avs ws px E wx post wo := by
  intro sz
  refine vx_ofW (cc := b) (maxL := nL) (ret := some rt) hy rfl ?_
  intro p e s m args below meth c s₁ B hml hno hv
  obtain ⟨rfl, hsz, hP, hK, hD0, hE⟩ := hv
  have hts := atoms_spec (ws := (.code y b nL (some rt) :: ALLW)) B.pre
  have hown : s.vm.findClass y.cls = some m.cls := findClass_of_methodNamed B.named
  have hlocks := B.notSynchronized
  have hr := B.returns
  have hb := B.bytes
  have hx := B.exec
  subst hsz
  rw [lg_entry_eq]
  refine body (p, G.1, e, _, s, m, _, below, meth, c, G.2.1, G.2.2, va_A ws s.heap.size, nL, _) ⟨hx, hb, rfl, hml, hown, fun w hw => hts w (List.mem_cons_of_mem _ hw), hK, fun q h => Or.inr h, hlocks, Nat.le_refl _, Nat.le_refl _, Nat.le_refl _, Nat.le_refl _, rfl, rfl, rfl⟩ hE ?_ (xj_TO hK hno hlocks) (xj_TN hx hb hml hown (fun w hw => hts w (List.mem_cons_of_mem _ hw)) hK hE hno hlocks) s.heap [] _ hP hD0.self va_S.rf (ent_lh hc hn)
  intro k n pc L v u hk hn' hnar hp hdg H locs ls hP hD hS hl
  refine W.widen hk hn' ?_
  exact vx_ret (W.zret (v := v) (ty := rt) hx hb hr hnar (fun t ht hW => ⟨⟨v, u, rfl, hp, by rw [ht]; exact hP, va_K.moved hW.alike hK, hD⟩, hS.F ht⟩) hS.2.2 hdg)
end XJN
section VCJ
variable {X : Fx} {G : Gx} {nL : Nat} {cc : ByteArray} {own : String} {d mc ms k n pc : Nat} {L : List (Option Value)} {st : List Value} {ws : va_W}
theorem r_callXj (C : Cx X G nL cc own d mc ms) (hE : Ev X) {y : MethodName} {b : ByteArray} {nL' idx np : Nat} {rt : FieldType} {d' mc' ms' a : Nat} {As : List Value} {wc wr : va_W} {SX : Type} {px : SX → Prop} {E : String} {wx : SX → va_W} {S : Type} {post : Int32 → S → Prop} {wo : S → va_W} (hM : XJ G y (.code y b nL' (some rt)) d' mc' ms' (.ref a :: As) wc px E wx post wo) (hI : KV own idx y b nL' (some rt) np) (hdg : decode cc pc = .ok (.invokevirtual idx, 3)) (hnp : As.length = np) (hd : d' + 1 ≤ d) (hk : k + mc' ≤ mc) (hn : n + ms' ≤ ms) (hst : (st.map fun v => v.category).sum ≤ 8) (q0 : Nat) {ci : Nat} {cq : vw_C} {fs : List Value} (he : wc[q0]? = some (a, .inr (ci, fs))) (hci : vwCl[ci]? = some cq) (hcq : cq.1 = y.cls) (isC isR : List Nat) (hnC : va_nd isC = true) (hC : isC.map (fun i => ws[i]?) = wc.map some) (hR : isR.map (fun i => ws[i]?) = wr.map some) (hnR : va_nd isR = true) (hdis : ∀ i ∈ isR, i ∉ isC)
    {st0 : List Value} (hs0 : st0 = As.reverse ++ .ref a :: st) (kx : ∀ u : SX, px u → VX X (k + mc') (n + ms') pc L st (wr ++ wx u) E) (kk : ∀ (r : Int32) (u : S), post r u → V X (k + mc') (n + ms') (pc + 3) L (.int r :: st) (wr ++ wo u)) : V X k n pc L st0 ws := by
  subst hs0
  obtain ⟨p, l, e, R, s, m, args, below, meth, c, D, cy, A, nX, Q⟩ := X
  obtain ⟨hx, hb, rfl, hml, hown, hts, hK, hA, hlocks, hfr, hlo, hce, hsl, hG1, hG2, hG3⟩ := C
  obtain ⟨l', D', cy'⟩ := G
  dsimp only at hG1 hG2 hG3
  subst hG1; subst hG2; subst hG3
  intro H locs ls hP hD hS hl
  have hPc := hP.sub isC (map_filter_some hC)
  have hDc := hD.sub isC hnC hC
  have hFc := va_free (wc := wc) hD hS hA isC hC
  have h16 := hI.2.2.2.2.2.2
  refine vx_calli (vx_runV (As := As) (rest := st) (Ts := ALLW) ⟨hx, hb, hml, hown, hts⟩ (hM H.size) (cwV np hts hI.good rfl rfl rfl hI.2.2.2.2.2.1 ⟨by show d' + 1 ≤ _; omega, by show _ + 35 * d' ≤ _; omega⟩) ⟨PreE.blind, ?_, fun U hU hW => ⟨rfl, by rw [hU], by rw [hU]; exact hPc, va_K.moved hW.alike hK, hDc.weaken (fun _ _ _ _ => trivial), ev_call hE hS hFc hU hW⟩⟩ rfl hnp hl.1 rfl (lv_room hst) hdg ⟨by omega, by omega⟩) hS (fun q _ h => hFc q h) hFc (fun q _ h => hFc q h) (fun E0 ce q9 u0 t H1 locs1 ht hvm hw hB hz1 hk1 hS1 hce hcv hcl => ?_) (fun r u t H1 locs1 ht hvm hw hB hz1 hk1 hS1 => ?_)
  · have hrc := va_recv hK hPc (q := cq) hci he
    rw [hcq] at hrc
    exact hrc
  · obtain ⟨rfl, hP1, hK1, hD1⟩ := hB
    rw [ht] at hP1
    obtain ⟨hP2, hD2⟩ := va_join (wr := wr) (w1 := wx u0) hP hD isC isR hC hR hnR hdis hk1 hFc hP1 hD1
    exact kx u0 hw H1 locs1 ls q9 ce hP2 hD2 hS1 hl hce hcv hcl
  · obtain ⟨hP1, hK1, hD1⟩ := hB
    rw [ht] at hP1
    obtain ⟨hP2, hD2⟩ := va_join (wr := wr) (w1 := wo u) hP hD isC isR hC hR hnR hdis hk1 hFc hP1 hD1
    exact kk r u hw H1 locs1 ls hP2 hD2 hS1 hl
end VCJ
