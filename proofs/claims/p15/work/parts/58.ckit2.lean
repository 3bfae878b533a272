/-! the class's kit: contracts made, calls -/
section XIN2
variable {G : Gx} {y : MethodName} {b : ByteArray} {nL : Nat} {d mc ms : Nat} {avs : List Value} {ws : va_W} {x : Xp}
theorem XI.intro {rt : FieldType} {S : Type} {post : Int32 → S → Prop} {wo : S → va_W} (hy : plainName y.cls = true) (hn : avs.length ≤ nL) (hc : ∀ v ∈ avs, v.category = 1)
    (body : ∀ X : Fx, Cx X G nL b y.cls d mc ms → Ev X → RI X b rt mc ms post wo → TO X mc ms x → TN X b y.cls d mc ms x → V X 0 0 0 (ent avs nL) [] ws) : XI G y (.code y b nL (some rt)) d mc ms avs ws x post wo := by
  intro sz
  refine vx_ofW (cc := b) (maxL := nL) (ret := some rt) hy rfl ?_
  intro p e s m args below meth c s₁ B hml hno hv
  obtain ⟨rfl, hsz, hP, hK, hD0, hE⟩ := hv
  have hts := atoms_spec (ws := (.code y b nL (some rt) :: ALLW)) B.pre
  have hown : s.vm.findClass y.cls = some m.cls := findClass_of_methodNamed B.named
  have hlocks := B.notSynchronized
  have hr := B.returns
  have hb := B.bytes
  have hx := B.exec
  subst hsz
  rw [lg_entry_eq]
  refine body (p, G.1, e, _, s, m, _, below, meth, c, G.2.1, G.2.2, va_A ws s.heap.size, nL, _) ⟨hx, hb, rfl, hml, hown, fun w hw => hts w (List.mem_cons_of_mem _ hw), hK, fun q h => Or.inr h, hlocks, Nat.le_refl _, Nat.le_refl _, Nat.le_refl _, Nat.le_refl _, rfl, rfl, rfl⟩ hE ?_ (x_TO hK hno hlocks) (x_TN hx hb hml hown (fun w hw => hts w (List.mem_cons_of_mem _ hw)) hK hE hno hlocks) s.heap [] _ hP hD0.self va_S.rf (ent_lh hc hn)
  intro k n pc L v u hk hn' hnar hp hdg H locs ls hP hD hS hl
  refine W.widen hk hn' ?_
  exact vx_ret (W.zret (v := v) (ty := rt) hx hb hr hnar (fun t ht hW => ⟨⟨v, u, rfl, hp, by rw [ht]; exact hP, va_K.moved hW.alike hK, hD⟩, hS.F ht⟩) hS.2.2 hdg)
theorem XV.intro {S : Type} {post : S → Prop} {wo : S → va_W} (hy : plainName y.cls = true) (hn : avs.length ≤ nL) (hc : ∀ v ∈ avs, v.category = 1)
    (body : ∀ X : Fx, Cx X G nL b y.cls d mc ms → Ev X → (y.name = "<init>" → Ini X) → RV X b mc ms post wo → TO X mc ms x → V X 0 0 0 (ent avs nL) [] ws) : XV G y (.code y b nL none) d mc ms avs ws x post wo := by
  intro sz
  refine vx_ofW (cc := b) (maxL := nL) (ret := none) hy rfl ?_
  intro p e s m args below meth c s₁ B hml hno hv
  obtain ⟨rfl, hsz, hP, hK, hD0, hE⟩ := hv
  have hts := atoms_spec (ws := (.code y b nL none :: ALLW)) B.pre
  have hown : s.vm.findClass y.cls = some m.cls := findClass_of_methodNamed B.named
  have hlocks := B.notSynchronized
  have hr := B.returns
  have hb := B.bytes
  have hx := B.exec
  have hin : y.name = "<init>" → meth.name = "<init>" := fun q => (name_of_methodNamed B.named B.method).1.trans q
  subst hsz
  rw [lg_entry_eq]
  refine body (p, G.1, e, _, s, m, _, below, meth, c, G.2.1, G.2.2, va_A ws s.heap.size, nL, _) ⟨hx, hb, rfl, hml, hown, fun w hw => hts w (List.mem_cons_of_mem _ hw), hK, fun q h => Or.inr h, hlocks, Nat.le_refl _, Nat.le_refl _, Nat.le_refl _, Nat.le_refl _, rfl, rfl, rfl⟩ hE hin ?_ (x_TO hK hno hlocks) s.heap [] _ hP hD0.self va_S.rf (ent_lh hc hn)
  intro k n pc L u hk hn' hp hdg H locs ls hP hD hS hl
  refine W.widen hk hn' ?_
  exact vx_ret (W.vret hx hb hr (fun t ht hW => ⟨⟨u, rfl, hp, by rw [ht]; exact hP, va_K.moved hW.alike hK, hD⟩, hS.F ht⟩) hS.2.2 hdg)
theorem XQ.intro {rt : FieldType} {S : Type} {post : Option Nat → S → Prop} {wo : S → va_W} (hrt : (∃ n, rt = .object n) ∨ ∃ t, rt = .array t) (hy : plainName y.cls = true) (hn : avs.length ≤ nL) (hc : ∀ v ∈ avs, v.category = 1)
    (body : ∀ X : Fx, Cx X G nL b y.cls d mc ms → Ev X → RQ X b mc ms post wo → TO X mc ms x → TN X b y.cls d mc ms x → V X 0 0 0 (ent avs nL) [] ws) : XQ G y (.code y b nL (some rt)) d mc ms avs ws x post wo := by
  intro sz
  refine vx_ofW (cc := b) (maxL := nL) (ret := some rt) hy rfl ?_
  intro p e s m args below meth c s₁ B hml hno hv
  obtain ⟨rfl, hsz, hP, hK, hD0, hE⟩ := hv
  have hts := atoms_spec (ws := (.code y b nL (some rt) :: ALLW)) B.pre
  have hown : s.vm.findClass y.cls = some m.cls := findClass_of_methodNamed B.named
  have hlocks := B.notSynchronized
  have hr := B.returns
  have hb := B.bytes
  have hx := B.exec
  subst hsz
  rw [lg_entry_eq]
  refine body (p, G.1, e, _, s, m, _, below, meth, c, G.2.1, G.2.2, va_A ws s.heap.size, nL, _) ⟨hx, hb, rfl, hml, hown, fun w hw => hts w (List.mem_cons_of_mem _ hw), hK, fun q h => Or.inr h, hlocks, Nat.le_refl _, Nat.le_refl _, Nat.le_refl _, Nat.le_refl _, rfl, rfl, rfl⟩ hE ?_ (x_TO hK hno hlocks) (x_TN hx hb hml hown (fun w hw => hts w (List.mem_cons_of_mem _ hw)) hK hE hno hlocks) s.heap [] _ hP hD0.self va_S.rf (ent_lh hc hn)
  intro k n pc L o u hk hn' hp hdg H locs ls hP hD hS hl
  refine W.widen hk hn' ?_
  exact vx_ret (W.aret hx hb hr hrt (va_rf_or o) (fun t ht hW => ⟨⟨o, u, rfl, hp, by rw [ht]; exact hP, va_K.moved hW.alike hK, hD⟩, hS.F ht⟩) hS.2.2 hdg)
/-- a method with handlers, that throws nothing itself -/
theorem HI.intro {hh : List (Nat × Nat × Nat × Nat)} {rt : FieldType} {S : Type} {post : Int32 → S → Prop} {wo : S → va_W} (hy : plainName y.cls = true) (hn : avs.length ≤ nL) (hc : ∀ v ∈ avs, v.category = 1)
    (body : ∀ X : Fx, Cx X G nL b y.cls d mc ms → Ev X → Tb X hh → RI X b rt mc ms post wo → V X 0 0 0 (ent avs nL) [] ws) : XI G y (.codeWith y b nL (some rt) hh) d mc ms avs ws (False, "", []) post wo := by
  intro sz
  refine vx_ofWH (cc := b) (maxL := nL) (ret := some rt) (hh := hh) hy rfl ?_
  intro p e s m args below meth c s₁ B hml hv
  obtain ⟨rfl, hsz, hP, hK, hD0, hE⟩ := hv
  have hts := atoms_spec (ws := (.codeWith y b nL (some rt) hh :: ALLW)) B.pre
  have hown : s.vm.findClass y.cls = some m.cls := findClass_of_methodNamed B.named
  have hlocks := B.notSynchronized
  have hr := B.returns
  have hb := B.bytes
  have hx := B.exec
  have htb := vx_table (x := y) (p := p) B (hts _ List.mem_cons_self)
  subst hsz
  rw [lg_entry_eq]
  refine body (p, G.1, e, _, s, m, _, below, meth, c, G.2.1, G.2.2, va_A ws s.heap.size, nL, _) ⟨hx, hb, rfl, hml, hown, fun w hw => hts w (List.mem_cons_of_mem _ hw), hK, fun q h => Or.inr h, hlocks, Nat.le_refl _, Nat.le_refl _, Nat.le_refl _, Nat.le_refl _, rfl, rfl, rfl⟩ hE htb ?_ s.heap [] _ hP hD0.self va_S.rf (ent_lh hc hn)
  intro k n pc L v u hk hn' hnar hp hdg H locs ls hP hD hS hl
  refine W.widen hk hn' ?_
  exact vx_ret (W.zret (v := v) (ty := rt) hx hb hr hnar (fun t ht hW => ⟨⟨v, u, rfl, hp, by rw [ht]; exact hP, va_K.moved hW.alike hK, hD⟩, hS.F ht⟩) hS.2.2 hdg)
/-- a constructor, plain -/
theorem CV.introI {S : Type} {post : S → Prop} {wo : S → va_W} (hyi : y.name = "<init>") (hy : plainName y.cls = true) (hn : avs.length ≤ nL) (hc : ∀ v ∈ avs, v.category = 1)
    (body : ∀ X : Fx, Cx X G nL b y.cls d mc ms → Ini X → RV X b mc ms post wo → V X 0 0 0 (ent avs nL) [] ws) : CV G y b nL d mc ms avs ws post wo := by
  intro sz
  refine Met.ofW (cc := b) (maxL := nL) (ret := none) hy rfl ?_
  intro p e s m args below meth c s₁ B hml hv
  obtain ⟨rfl, hsz, hP, hK, hD0⟩ := hv
  have hts := atoms_spec (ws := (.code y b nL none :: ALLW)) B.pre
  have hown : s.vm.findClass y.cls = some m.cls := findClass_of_methodNamed B.named
  have hlocks := B.notSynchronized
  have hr := B.returns
  have hb := B.bytes
  have hx := B.exec
  have hin : meth.name = "<init>" := (name_of_methodNamed B.named B.method).1.trans hyi
  subst hsz
  rw [lg_entry_eq]
  refine body (p, G.1, e, _, s, m, _, below, meth, c, G.2.1, G.2.2, va_A ws s.heap.size, nL, _) ⟨hx, hb, rfl, hml, hown, fun w hw => hts w (List.mem_cons_of_mem _ hw), hK, fun q h => Or.inr h, hlocks, Nat.le_refl _, Nat.le_refl _, Nat.le_refl _, Nat.le_refl _, rfl, rfl, rfl⟩ hin ?_ s.heap [] _ hP hD0.self va_S.rf (ent_lh hc hn)
  intro k n pc L u hk hn' hp hdg H locs ls hP hD hS hl
  refine W.widen hk hn' ?_
  exact W.vret hx hb hr (fun t ht hW => ⟨⟨u, rfl, hp, by rw [ht]; exact hP, va_K.moved hW.alike hK, hD⟩, hS.F ht⟩) hS.2.2 hdg
end XIN2
/-- the words of a constructor's call -/
def KI (own : String) (idx : Nat) (y : MethodName) (b : ByteArray) (nL np : Nat) : Prop :=
  Cond.methodLink own idx y ∈ ALLW ∧ Cond.instanceMethod y ∈ ALLW ∧ Cond.initialized y.cls ∈ ALLW ∧ Cond.code y b nL none ∈ ALLW ∧ y.name = "<init>" ∧ (y.cls ≠ "java/lang/invoke/MethodHandle" ∧ y.cls ≠ "java/lang/invoke/VarHandle" ∧ (parseMethodDescriptor y.desc).map (fun d => d.parameters.length) = some np) ∧ nL ≤ 16
theorem KI.good {own : String} {idx : Nat} {y : MethodName} {b : ByteArray} {nL np : Nat} (h : KI own idx y b nL np) : GoodIn ALLW (.code y b nL none :: ALLW) := by
  have g : GoodIn ALLW ALLW := aw_good (fun _ h => h)
  intro w hw
  rcases List.mem_cons.mp hw with q | q
  · exact q ▸ g _ h.2.2.2.1
  · exact g _ q
/-- .. of a static method with handlers -/
def KH (own : String) (idx : Nat) (y : MethodName) (b : ByteArray) (nL : Nat) (ret : Option FieldType) (hh : List (Nat × Nat × Nat × Nat)) (np : Nat) : Prop :=
  Cond.methodLink own idx y ∈ ALLW ∧ Cond.static y ∈ ALLW ∧ Cond.initialized y.cls ∈ ALLW ∧ Cond.codeWith y b nL ret hh ∈ ALLW ∧ (y.cls ≠ "java/lang/invoke/MethodHandle" ∧ y.cls ≠ "java/lang/invoke/VarHandle" ∧ (parseMethodDescriptor y.desc).map (fun d => d.parameters.length) = some np) ∧ nL ≤ 16
theorem KH.good {own : String} {idx : Nat} {y : MethodName} {b : ByteArray} {nL : Nat} {ret : Option FieldType} {hh : List (Nat × Nat × Nat × Nat)} {np : Nat} (h : KH own idx y b nL ret hh np) : GoodIn ALLW (va_wsS own idx y (.codeWith y b nL ret hh :: ALLW)) := by
  have g : GoodIn ALLW ALLW := aw_good (fun _ h => h)
  intro w hw
  unfold va_wsS at hw
  rcases List.mem_append.mp hw with q | q
  · simp only [List.mem_cons, List.not_mem_nil, or_false] at q
    rcases q with q | q | q
    · exact q ▸ g _ h.1
    · exact q ▸ g _ h.2.1
    · exact q ▸ g _ h.2.2.1
  · rcases List.mem_cons.mp q with q | q
    · exact q ▸ g _ h.2.2.2.1
    · exact g _ q
section VC2
variable {X : Fx} {G : Gx} {nL : Nat} {cc : ByteArray} {own : String} {d mc ms k n pc : Nat} {L : List (Option Value)} {st : List Value} {ws : va_W}
theorem ev_call {l : Launch} {A : Nat → Prop} {s U : State} {H : Heap} {locs : List Loc} {wc : va_W} (hE : EV l A s s.heap) (hS : va_S A s.heap H locs) (hF : ∀ q, va_A wc H.size q → A q) (hU : U.heap = H) (hW : s.WarmedH U.vm) : EV l (va_A wc H.size) U U.heap := by
  rw [hU]
  exact EV.warm hW (EV.narrow hF (EV.kept hS.2.1 hE))
theorem r_callIv (C : Cx X G nL cc own d mc ms) {y : MethodName} {b : ByteArray} {nL' idx np : Nat} {d' mc' ms' a : Nat} {As : List Value} {wc wr : va_W} {S : Type} {post : S → Prop} {wo : S → va_W} (hM : CV G y b nL' d' mc' ms' (.ref a :: As) wc post wo) (hI : KI own idx y b nL' np) (hdg : decode cc pc = .ok (.invokespecial idx, 3)) (hnp : As.length = np) (hd : d' + 1 ≤ d) (hk : k + mc' ≤ mc) (hn : n + ms' ≤ ms) (hst : (st.map fun v => v.category).sum ≤ 8) (isC isR : List Nat) (hnC : va_nd isC = true) (hC : isC.map (fun i => ws[i]?) = wc.map some) (hR : isR.map (fun i => ws[i]?) = wr.map some) (hnR : va_nd isR = true) (hdis : ∀ i ∈ isR, i ∉ isC)
    {st0 : List Value} (hs0 : st0 = As.reverse ++ .ref a :: st) (kk : ∀ (u : S), post u → V X (k + mc') (n + ms') (pc + 3) L st (wr ++ wo u)) : V X k n pc L st0 ws := by
  subst hs0
  obtain ⟨p, l, e, R, s, m, args, below, meth, c, D, cy, A, nX, Q⟩ := X
  obtain ⟨hx, hb, rfl, hml, hown, hts, hK, hA, hlocks, hfr, hlo, hce, hsl, hG1, hG2, hG3⟩ := C
  obtain ⟨l', D', cy'⟩ := G
  dsimp only at hG1 hG2 hG3
  subst hG1; subst hG2; subst hG3
  intro H locs ls hP hD hS hl
  have hPc := hP.sub isC (map_filter_some hC)
  have hDc := hD.sub isC hnC hC
  have hFc := va_free (wc := wc) hD hS hA isC hC
  have h16 := hI.2.2.2.2.2.2
  refine va_callv (va_runI (As := As) (rest := st) (Ts := ALLW) ⟨hx, hb, hml, hown, hts⟩ (hM H.size) (cwI np hts hI.good rfl rfl rfl (hts _ hI.2.2.1) (hts _ hI.1) (hts _ hI.2.1) hI.2.2.2.2.1 hI.2.2.2.2.2.1 ⟨by show d' + 1 ≤ _; omega, by show _ + 35 * d' ≤ _; omega⟩) ⟨fun a U g mk q => ?_, fun U hU hW => ⟨rfl, by rw [hU], by rw [hU]; exact hPc, va_K.moved hW.alike hK, hDc.weaken (fun _ _ _ _ => trivial)⟩⟩ rfl hnp hl.1 rfl (lv_room hst) hdg ⟨by omega, by omega⟩) hS (fun q _ h => hFc q h) hFc (fun u t H1 locs1 ht hvm hw hB hz1 hk1 hS1 => ?_)
  · obtain ⟨q0, q1, qP, qK, qD⟩ := q
    exact ⟨q0, q1, qP, va_K.moved (u := U) (U := U.calling g mk a) (Vm.Alike.refl U.vm) qK, qD⟩
  · obtain ⟨hP1, hK1, hD1⟩ := hB
    rw [ht] at hP1
    obtain ⟨hP2, hD2⟩ := va_join (wr := wr) (w1 := wo u) hP hD isC isR hC hR hnR hdis hk1 hFc hP1 hD1
    exact kk u hw H1 locs1 ls hP2 hD2 hS1 hl
theorem r_callXi (C : Cx X G nL cc own d mc ms) (hE : Ev X) {y : MethodName} {b : ByteArray} {nL' idx np : Nat} {rt : FieldType} {d' mc' ms' a : Nat} {As : List Value} {wc wr : va_W} {x : Xp} {S : Type} {post : Int32 → S → Prop} {wo : S → va_W} (hM : XI G y (.code y b nL' (some rt)) d' mc' ms' (.ref a :: As) wc x post wo) (hI : KV own idx y b nL' (some rt) np) (hdg : decode cc pc = .ok (.invokevirtual idx, 3)) (hnp : As.length = np) (hd : d' + 1 ≤ d) (hk : k + mc' ≤ mc) (hn : n + ms' ≤ ms) (hst : (st.map fun v => v.category).sum ≤ 8) (q0 : Nat) {ci : Nat} {cq : vw_C} {fs : List Value} (he : wc[q0]? = some (a, .inr (ci, fs))) (hci : vwCl[ci]? = some cq) (hcq : cq.1 = y.cls) (isC isR : List Nat) (hnC : va_nd isC = true) (hC : isC.map (fun i => ws[i]?) = wc.map some) (hR : isR.map (fun i => ws[i]?) = wr.map some) (hnR : va_nd isR = true) (hdis : ∀ i ∈ isR, i ∉ isC)
    {st0 : List Value} (hs0 : st0 = As.reverse ++ .ref a :: st) (kx : x.1 → VX X (k + mc') (n + ms') pc L st (wr ++ x.2.2) x.2.1) (kk : ∀ (r : Int32) (u : S), post r u → V X (k + mc') (n + ms') (pc + 3) L (.int r :: st) (wr ++ wo u)) : V X k n pc L st0 ws := by
  subst hs0
  obtain ⟨p, l, e, R, s, m, args, below, meth, c, D, cy, A, nX, Q⟩ := X
  obtain ⟨hx, hb, rfl, hml, hown, hts, hK, hA, hlocks, hfr, hlo, hce, hsl, hG1, hG2, hG3⟩ := C
  obtain ⟨l', D', cy'⟩ := G
  dsimp only at hG1 hG2 hG3
  subst hG1; subst hG2; subst hG3
  intro H locs ls hP hD hS hl
  have hPc := hP.sub isC (map_filter_some hC)
  have hDc := hD.sub isC hnC hC
  have hFc := va_free (wc := wc) hD hS hA isC hC
  have h16 := hI.2.2.2.2.2.2
  refine vx_calli (vx_runV (As := As) (rest := st) (Ts := ALLW) ⟨hx, hb, hml, hown, hts⟩ (hM H.size) (cwV np hts hI.good rfl rfl rfl hI.2.2.2.2.2.1 ⟨by show d' + 1 ≤ _; omega, by show _ + 35 * d' ≤ _; omega⟩) ⟨PreE.blind, ?_, fun U hU hW => ⟨rfl, by rw [hU], by rw [hU]; exact hPc, va_K.moved hW.alike hK, hDc.weaken (fun _ _ _ _ => trivial), ev_call hE hS hFc hU hW⟩⟩ rfl hnp hl.1 rfl (lv_room hst) hdg ⟨by omega, by omega⟩) hS (fun q _ h => hFc q h) hFc (fun q _ h => hFc q h) (fun E ce q9 u t H1 locs1 ht hvm hw hB hz1 hk1 hS1 hce hcv hcl => ?_) (fun r u t H1 locs1 ht hvm hw hB hz1 hk1 hS1 => ?_)
  · have hrc := va_recv hK hPc (q := cq) hci he
    rw [hcq] at hrc
    exact hrc
  · obtain ⟨rfl, hP1, hK1, hD1⟩ := hB
    rw [ht] at hP1
    obtain ⟨hP2, hD2⟩ := va_join (wr := wr) (w1 := x.2.2) hP hD isC isR hC hR hnR hdis hk1 hFc hP1 hD1
    exact kx hw H1 locs1 ls q9 ce hP2 hD2 hS1 hl hce hcv hcl
  · obtain ⟨hP1, hK1, hD1⟩ := hB
    rw [ht] at hP1
    obtain ⟨hP2, hD2⟩ := va_join (wr := wr) (w1 := wo u) hP hD isC isR hC hR hnR hdis hk1 hFc hP1 hD1
    exact kk r u hw H1 locs1 ls hP2 hD2 hS1 hl
theorem vx_callq {p : Program} {l : Launch} {e : Env} {R : Room} {s : State} {m : MethodId} {args : Array Value} {below : List Frame} {meth : Method} {c : Code} {H : Heap} {locs : List Loc} {cells slots : Nat} {Q : State → Prop} {mc ms : Nat} {free : Addr → Prop} {A0 A1 : Nat → Prop} {H0 : Heap} {a : Array Value} {pc : Nat} {ls : Array Slot} {st0 rest : List Value} {S SX : Type} {post : Option Nat → S → Prop} {px : SX → Prop} {B : S → State → Prop} {BX : String → SX → State → Prop} {AX : Nat → Prop} (hr : vx_Run p l e R s m args below meth c H locs cells slots mc ms (F0 m pc ls st0) rest (va_Qq post B A1 a) (vx_X px BX AX) free) (hS : va_S A0 H0 H locs) (hA : ∀ q, q < H.size → A1 q → A0 q) (hf : ∀ q, free q → A0 q) (hAX : ∀ q, q < H.size → AX q → A0 q)
    (kx : ∀ (E : String) (ce : Cell) (q9 : Addr) (u : SX) (t : State) (H1 : Heap) (locs1 : List Loc), t.heap = H1 → s.vm.Alike t.vm → px u → BX E u t → H.size ≤ H1.size → (∀ q : Nat, q < H.size → ¬ AX q → H1[q]? = H[q]?) → va_S A0 H0 H1 locs1 → H1[q9]? = some ce → ce.vm = .none → s.vm.findClass E = some ce.cls → vx_W p l e R s m args below meth c H1 locs1 (cells + mc) (slots + ms) Q (F0 m pc ls rest) q9)
    (kk : ∀ (r : Option Nat) (u : S) (t : State) (H1 : Heap) (locs1 : List Loc), t.heap = H1 → s.vm.Alike t.vm → post r u → B u t → H.size ≤ H1.size → (∀ q : Nat, q < H.size → ¬ A1 q → H1[q]? = H[q]?) → va_S A0 H0 H1 locs1 → W p l e R s m args below meth c H1 locs1 (cells + mc) (slots + ms) Q (F0 m (pc + 3) ls (va_rf r :: rest))) : W p l e R s m args below meth c H locs cells slots Q (F0 m pc ls st0) := by
  intro T hT X
  rcases hr T hT X with ⟨v, st₀, t, T', L, h0, X', hL, e1, e2, ⟨⟨r, u, hv, hp, hb⟩, hF⟩, st⟩ | ⟨q, st₀, t, T', L, E, ce, h0, X', hL, e1, e2, ⟨u, hp, hb, hF⟩, hce, hcv, hcl, st⟩
  · cases hv
    obtain ⟨k1, k2, k3⟩ := vx_keep h0 e1 hS hA hf hL hF
    obtain ⟨t2, a1, b1⟩ := kk r u t T'.heap (locs ++ L) e1.symm (by rw [← e2]; exact X'.warmed.alike) hp hb k1 k2 k3 T' rfl X'
    exact ⟨t2, st t2 a1, b1⟩
  · obtain ⟨k1, k2, k3⟩ := vx_keep h0 e1 hS hAX hf hL hF
    obtain ⟨t2, a1, b1⟩ := kx E ce q u t T'.heap (locs ++ L) e1.symm (by rw [← e2]; exact X'.warmed.alike) hp hb k1 k2 k3 (by rw [e1]; exact hce) hcv hcl T' rfl X'
    exact ⟨t2, st.trans a1, b1⟩
theorem r_callXq (C : Cx X G nL cc own d mc ms) (hE : Ev X) {y : MethodName} {b : ByteArray} {nL' idx np : Nat} {rt : FieldType} {d' mc' ms' a : Nat} {As : List Value} {wc wr : va_W} {x : Xp} {S : Type} {post : Option Nat → S → Prop} {wo : S → va_W} (hM : XQ G y (.code y b nL' (some rt)) d' mc' ms' (.ref a :: As) wc x post wo) (hI : KV own idx y b nL' (some rt) np) (hdg : decode cc pc = .ok (.invokevirtual idx, 3)) (hnp : As.length = np) (hd : d' + 1 ≤ d) (hk : k + mc' ≤ mc) (hn : n + ms' ≤ ms) (hst : (st.map fun v => v.category).sum ≤ 8) (q0 : Nat) {ci : Nat} {cq : vw_C} {fs : List Value} (he : wc[q0]? = some (a, .inr (ci, fs))) (hci : vwCl[ci]? = some cq) (hcq : cq.1 = y.cls) (isC isR : List Nat) (hnC : va_nd isC = true) (hC : isC.map (fun i => ws[i]?) = wc.map some) (hR : isR.map (fun i => ws[i]?) = wr.map some) (hnR : va_nd isR = true) (hdis : ∀ i ∈ isR, i ∉ isC)
    {st0 : List Value} (hs0 : st0 = As.reverse ++ .ref a :: st) (kx : x.1 → VX X (k + mc') (n + ms') pc L st (wr ++ x.2.2) x.2.1) (kk : ∀ (r : Option Nat) (u : S), post r u → V X (k + mc') (n + ms') (pc + 3) L (va_rf r :: st) (wr ++ wo u)) : V X k n pc L st0 ws := by
  subst hs0
  obtain ⟨p, l, e, R, s, m, args, below, meth, c, D, cy, A, nX, Q⟩ := X
  obtain ⟨hx, hb, rfl, hml, hown, hts, hK, hA, hlocks, hfr, hlo, hce, hsl, hG1, hG2, hG3⟩ := C
  obtain ⟨l', D', cy'⟩ := G
  dsimp only at hG1 hG2 hG3
  subst hG1; subst hG2; subst hG3
  intro H locs ls hP hD hS hl
  have hPc := hP.sub isC (map_filter_some hC)
  have hDc := hD.sub isC hnC hC
  have hFc := va_free (wc := wc) hD hS hA isC hC
  have h16 := hI.2.2.2.2.2.2
  refine vx_callq (vx_runV (As := As) (rest := st) (Ts := ALLW) ⟨hx, hb, hml, hown, hts⟩ (hM H.size) (cwV np hts hI.good rfl rfl rfl hI.2.2.2.2.2.1 ⟨by show d' + 1 ≤ _; omega, by show _ + 35 * d' ≤ _; omega⟩) ⟨PreE.blind, ?_, fun U hU hW => ⟨rfl, by rw [hU], by rw [hU]; exact hPc, va_K.moved hW.alike hK, hDc.weaken (fun _ _ _ _ => trivial), ev_call hE hS hFc hU hW⟩⟩ rfl hnp hl.1 rfl (lv_room hst) hdg ⟨by omega, by omega⟩) hS (fun q _ h => hFc q h) hFc (fun q _ h => hFc q h) (fun E ce q9 u t H1 locs1 ht hvm hw hB hz1 hk1 hS1 hce hcv hcl => ?_) (fun r u t H1 locs1 ht hvm hw hB hz1 hk1 hS1 => ?_)
  · have hrc := va_recv hK hPc (q := cq) hci he
    rw [hcq] at hrc
    exact hrc
  · obtain ⟨rfl, hP1, hK1, hD1⟩ := hB
    rw [ht] at hP1
    obtain ⟨hP2, hD2⟩ := va_join (wr := wr) (w1 := x.2.2) hP hD isC isR hC hR hnR hdis hk1 hFc hP1 hD1
    exact kx hw H1 locs1 ls q9 ce hP2 hD2 hS1 hl hce hcv hcl
  · obtain ⟨hP1, hK1, hD1⟩ := hB
    rw [ht] at hP1
    obtain ⟨hP2, hD2⟩ := va_join (wr := wr) (w1 := wo u) hP hD isC isR hC hR hnR hdis hk1 hFc hP1 hD1
    exact kk r u hw H1 locs1 ls hP2 hD2 hS1 hl
/-- a static method with handlers, that throws nothing -/
theorem r_callHi (C : Cx X G nL cc own d mc ms) (hE : Ev X) {y : MethodName} {b : ByteArray} {nL' idx np : Nat} {rt : FieldType} {hh : List (Nat × Nat × Nat × Nat)} {d' mc' ms' : Nat} {As : List Value} {wc wr : va_W} {S : Type} {post : Int32 → S → Prop} {wo : S → va_W} (hM : XI G y (.codeWith y b nL' (some rt) hh) d' mc' ms' As wc (False, "", []) post wo) (hI : KH own idx y b nL' (some rt) hh np) (hdg : decode cc pc = .ok (.invokestatic idx, 3)) (hnp : As.length = np) (hd : d' + 1 ≤ d) (hk : k + mc' ≤ mc) (hn : n + ms' ≤ ms) (hst : (st.map fun v => v.category).sum ≤ 8) (isC isR : List Nat) (hnC : va_nd isC = true) (hC : isC.map (fun i => ws[i]?) = wc.map some) (hR : isR.map (fun i => ws[i]?) = wr.map some) (hnR : va_nd isR = true) (hdis : ∀ i ∈ isR, i ∉ isC)
    {st0 : List Value} (hs0 : st0 = As.reverse ++ st) (kk : ∀ (r : Int32) (u : S), post r u → V X (k + mc') (n + ms') (pc + 3) L (.int r :: st) (wr ++ wo u)) : V X k n pc L st0 ws := by
  subst hs0
  obtain ⟨p, l, e, R, s, m, args, below, meth, c, D, cy, A, nX, Q⟩ := X
  obtain ⟨hx, hb, rfl, hml, hown, hts, hK, hA, hlocks, hfr, hlo, hce, hsl, hG1, hG2, hG3⟩ := C
  obtain ⟨l', D', cy'⟩ := G
  dsimp only at hG1 hG2 hG3
  subst hG1; subst hG2; subst hG3
  intro H locs ls hP hD hS hl
  have hPc := hP.sub isC (map_filter_some hC)
  have hDc := hD.sub isC hnC hC
  have hFc := va_free (wc := wc) hD hS hA isC hC
  have h16 := hI.2.2.2.2.2
  refine vx_calli (vx_runSX (As := As) (rest := st) (Ts := ALLW) (hh := hh) ⟨hx, hb, hml, hown, hts⟩ (hM H.size) (vx_cwSW np hts hI.good rfl rfl rfl hI.2.2.2.2.1 ⟨by show d' + 1 ≤ _; omega, by show _ + 35 * d' ≤ _; omega⟩) ⟨PreE.blind, fun U hU hW => ⟨rfl, by rw [hU], by rw [hU]; exact hPc, va_K.moved hW.alike hK, hDc.weaken (fun _ _ _ _ => trivial), ev_call hE hS hFc hU hW⟩⟩ rfl hnp hl.1 rfl (lv_room hst) hdg ⟨by omega, by omega⟩) hS (fun q _ h => hFc q h) hFc (fun q _ h => hFc q h) (fun E ce q9 u t H1 locs1 ht hvm hw hB hz1 hk1 hS1 hce hcv hcl => hw.elim) (fun r u t H1 locs1 ht hvm hw hB hz1 hk1 hS1 => ?_)
  obtain ⟨hP1, hK1, hD1⟩ := hB
  rw [ht] at hP1
  obtain ⟨hP2, hD2⟩ := va_join (wr := wr) (w1 := wo u) hP hD isC isR hC hR hnR hdis hk1 hFc hP1 hD1
  exact kk r u hw H1 locs1 ls hP2 hD2 hS1 hl
/-- caught by the only handler -/
theorem r_catch (C : Cx X G nL cc own d mc ms) (hE : Ev X) {s0 e0 h0 t0 : Nat} (hT : Tb X [(s0, e0, h0, t0)]) {E : String} (hEE : E = "java/lang/IllegalArgumentException" ∨ E = "java/util/NoSuchElementException") (hcl : Cond.classLink own t0 E ∈ ALLW) (hpc : s0 ≤ pc) (hpe : pc < e0) (ht0 : t0 ≠ 0) (kk : ∀ q9 : Nat, V X k n h0 L [.ref q9] ws) : VX X k n pc L st ws E := by
  obtain ⟨p, l, e, R, s, m, args, below, meth, c, D, cy, A, nX, Q⟩ := X
  obtain ⟨hx, hb, rfl, hml, hown, hts, hK, hA, hlocks, hfr, hlo, hce, hsl, hG1, hG2, hG3⟩ := C
  obtain ⟨-, -, -, -, -, -, hc1, hc2, -⟩ := hE
  intro H locs ls q9 ce hP hD hS hl hcell hcv hfc
  have hcast : (Cond.castable E E).before args s = true := by
    rcases hEE with w | w
    · rw [w]; exact va_Nw.use (A := args) rfl hc1
    · rw [w]; exact va_Nw.use (A := args) rfl hc2
  refine vx_catch hown [] _ [] (hT.trans rfl) (fun z hz => nomatch hz) ?_ ?_ (hts _ hcl) hcast hcell hcv hfc (kk q9 H locs ls hP hD hS hl)
  · simp [covers, hpc, hpe]
  · exact ht0
end VC2
