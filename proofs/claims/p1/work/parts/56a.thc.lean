/-! 'throw new E(text)' for an E right under RuntimeException whose constructor hands its text up by any entry of its pool (NoSuchElementException: #13). Own rows, over the library's links (imported, by name). -/
theorem th_h {args : Array Value} {s : State} {w : Cond} (h : w.before args s = true) : w.holds args s none s [] = true := h
abbrev th_RE : String := "java/lang/RuntimeException"
abbrev th_bk : String × String := ("backtrace", "Ljava/lang/Object;")
abbrev th_fs : List (String × String) := [th_bk, ("detailMessage", "Ljava/lang/String;"), ("cause", "Ljava/lang/Throwable;"), ("stackTrace", Bundle.steD), ("suppressedExceptions", Bundle.listD)]
/-- what is asked of E itself -/
def th_own (own : String) (ic : Nat) (E : String) : List Cond :=
  th_fs.map (fun q => Cond.lays E Bundle.tN q.1 q.2) ++ ([Bundle.tFill, Bundle.tFill0].map (fun y => Cond.selects E y y) ++
    [.instantiable E 6, .methodLink own ic (Bundle.initS E), .lays Bundle.tN Bundle.tN th_bk.1 th_bk.2, .fieldLink Bundle.tN 198 Bundle.tN th_bk.1 th_bk.2,
      .isRef (.static Bundle.tN "SUPPRESSED_SENTINEL" Bundle.listD), .isRef (.static Bundle.tN "UNASSIGNED_STACK" Bundle.steD)])
def th_all (own : String) (ic : Nat) (E : String) (ix : Nat) (rx : ByteArray) : List Cond :=
  th_own own ic E ++ (Bundle.passSAtoms E th_RE ix rx ++ (Bundle.chainSAtoms th_RE ["java/lang/Exception"] ++ (Bundle.throwableAtoms ++ Bundle.throwableSAtoms)))
/-- E's constructor, RuntimeException's, Exception's: three links up to Throwable's -/
theorem th_links {args : Array Value} {s : State} {pl : Platform} (hpl : pl.magicAccessors = ({} : Platform).magicAccessors) {top : MethodId} (htop : s.methodNamed? (Bundle.initS Bundle.tN) = some top) {E : String} {ix : Nat} {rx : ByteArray} (hE : Bundle.fit E = true) (x0 : decode rx 0 = .ok (.aload_n 0, 1)) (x1 : decode rx 1 = .ok (.aload_n 1, 1)) (x2 : decode rx 2 = .ok (.invokespecial ix, 3)) (x5 : decode rx 5 = .ok (.return_, 1))
    (hp : ∀ w ∈ Bundle.passSAtoms E th_RE ix rx, w.before args s = true) (hc : ∀ w ∈ Bundle.chainSAtoms th_RE ["java/lang/Exception"], w.before args s = true) :
    ∃ Q : List PassC, Q.length = 3 ∧ (∀ P, P ∈ Q → P.LinksS pl s) ∧ PassesOn top (Q.map (·.toPassT)) ∧ s.methodNamed? (Bundle.initS E) = some (firstOf top (Q.map (·.toPassT))) := by
  obtain ⟨A, lA, mA, sA⟩ := PassC.ofS_atoms (args := args) hpl (Bundle.fit_spec hE).1 (by decide) x0 x1 x2 x5 hp
  obtain ⟨B, D, nD, lB, lD, mB, sB, pD⟩ := Bundle.chainS (args := args) hpl htop ["java/lang/Exception"] th_RE (by decide +kernel) (by decide +kernel) hc
  refine ⟨A :: B :: D, by simp [nD], fun Z hZ => ?_, ⟨Option.some.inj (sA.symm.trans mB), sB, pD⟩, mA⟩
  simp only [List.mem_cons] at hZ
  rcases hZ with rfl | rfl | hZ
  · exact lA
  · exact lB
  · exact lD Z hZ
section THF
variable {args : Array Value} {s : State} {E n1 d1 n2 d2 : String} {C c1 c2 i1 i2 : Nat} {k k1 k2 : Class} {f g : Field}
/-- a field that E lays takes what fits it -/
theorem th_tk (hC : s.vm.findClass E = some C) (hk : s.vm.classes[C]? = some k) (ho : k.kind = .ordinary) (hf : s.fieldFound? Bundle.tN n1 d1 = some (c1, k1, i1, f)) (hw : (Cond.lays E Bundle.tN n1 d1).before args s = true) {v : Value} (hv : fits f.type v = true) : Takes s (freshCell C k) f v :=
  Takes.of_laid hk ho (Cond.laysAt hC hk hf (th_h hw)).1 hv
/-- two of them lie apart -/
theorem th_ap (hC : s.vm.findClass E = some C) (hk : s.vm.classes[C]? = some k) (hf : s.fieldFound? Bundle.tN n1 d1 = some (c1, k1, i1, f)) (hg : s.fieldFound? Bundle.tN n2 d2 = some (c2, k2, i2, g)) (hw : (Cond.lays E Bundle.tN n1 d1).before args s = true) (hz : (Cond.lays E Bundle.tN n2 d2).before args s = true) (hn : f.name ≠ g.name) : f.slot ≠ g.slot := by
  obtain ⟨-, a, a1, a2⟩ := Cond.laysAt hC hk hf (th_h hw)
  obtain ⟨-, b, b1, b2⟩ := Cond.laysAt hC hk hg (th_h hz)
  exact Cond.laysApart a1 b1 a2 b2 hn
theorem th_el {x : Cell} {i j : Nat} {v w : Value} (hij : i ≠ j) (h : x.slots[j]? = some w) : (x.setSlot i v).slots[j]? = some w := by
  show (x.slots.setIfInBounds i v)[j]? = some w
  rw [Array.getElem?_setIfInBounds_ne hij]
  exact h
theorem th_se {l : Launch} {e : Env} (hA : l.admits e) (hC : s.vm.findClass E = some C) {y : MethodName} {M : MethodId} (hM : s.methodNamed? y = some M) (hy : y.cls ≠ "java/lang/invoke/MethodHandle" ∧ y.cls ≠ "java/lang/invoke/VarHandle") (hw : (Cond.selects E y y).before args s = true) : selectMethod e.platform s.vm C M = .method M := by
  obtain ⟨a, b, d, h1, h2, h3, h4, -⟩ := Cond.selects_spec (th_h hw)
  rw [hC] at h1
  rw [State.methodFound?_of_named hM hy] at h2
  rw [hM] at h3
  cases h1; cases h2; cases h3
  rw [Launch.admits_selectMethod hA]
  exact h4
end THF
section THM
variable {p : Program} {l : Launch} {e : Env} {R : Room} {s : State} {m : MethodId} {args : Array Value} {below : List Frame} {meth : Method} {c : Code} {T : State} {cells slots : Nat}
set_option maxHeartbeats 1000000 in
/-- the constructor's call, cells of old untouched: behind it the new object stands made -/
theorem th_make (X : Stand p l e R s m args below meth c T [] cells slots) (hexec : p.tables.exec = Jvm.exec) (htr : e.platform.stackTraces = false) {own E : String} {ic ix : Nat} {rx : ByteArray} (x0 : decode rx 0 = .ok (.aload_n 0, 1)) (x1 : decode rx 1 = .ok (.aload_n 1, 1)) (x2 : decode rx 2 = .ok (.invokespecial ix, 3)) (x5 : decode rx 5 = .ok (.return_, 1))
    (hown : s.vm.findClass own = some m.cls) (hE : Bundle.fit E = true) (hw : ∀ w ∈ th_all own ic E ix rx, w.before args s = true)
    {q : Addr} {C : ClassId} {k : Class} (hC : s.vm.findClass E = some C) (hk : s.vm.classes[C]? = some k) (hq : T.heap[q]? = some (freshCell C k)) (hnew : s.heap.size ≤ q) {v : Value} (hv : v.isRef = true)
    {g : JFrame} (hg : g.method = m) (hsize : g.locals.size = c.maxLocals) {st : List Value} (hst : g.stack = v :: .ref q :: st) (hd : decode c.code g.pc = .ok (.invokespecial ic, 3)) (hR1 : 5 < R.frames) (hR2 : 2 * g.monitorRoom + (st.map fun v => v.category).sum + 81 ≤ R.locals) :
    ∃ (vm' : Vm) (ce : Cell), ce.vm = .none ∧ ce.cls = C ∧ Stand p l e R s m args below meth c ((T.setVm vm').setCell q ce) [] cells slots ∧
      ∀ U, Steps p.tables e below (((T.setVm vm').setCell q ce).setTop { g with pc := g.pc + 3, stack := st }) U → Steps p.tables e below (T.setTop g) U := by
  have hpl : e.platform.magicAccessors = ({} : Platform).magicAccessors := by rw [X.admits.platform]
  have wo : ∀ w ∈ th_own own ic E, w.before args s = true := fun w h => hw w (List.mem_append_left _ h)
  have wp : ∀ w ∈ Bundle.passSAtoms E th_RE ix rx, w.before args s = true := fun w h => hw w (List.mem_append_right _ (List.mem_append_left _ h))
  have wc : ∀ w ∈ Bundle.chainSAtoms th_RE ["java/lang/Exception"], w.before args s = true := fun w h => hw w (List.mem_append_right _ (List.mem_append_right _ (List.mem_append_left _ h)))
  have wt : ∀ w ∈ Bundle.throwableAtoms ++ Bundle.throwableSAtoms, w.before args s = true := fun w h => hw w (List.mem_append_right _ (List.mem_append_right _ (List.mem_append_right _ h)))
  obtain ⟨B, Z0, L, -, Y⟩ := ThrowableC.of_atoms (args := args) (pl := e.platform) (by rw [X.admits.platform]) (by rw [X.admits.platform]) hpl (fun w h => wt w (List.mem_append_left _ h))
  obtain ⟨Z, M, LZ, LM, hZ⟩ := Init0T.ofS_atoms (args := args) hpl L Y (fun w h => wt w (List.mem_append_right _ h))
  obtain ⟨Q, nQ, lQ, pQ, mQ⟩ := th_links hpl hZ hE x0 x1 x2 x5 wp wc
  have wl : ∀ z ∈ th_fs, (Cond.lays E Bundle.tN z.1 z.2).before args s = true := fun z hz => wo _ (List.mem_append_left _ (List.mem_map.mpr ⟨z, hz, rfl⟩))
  have ho : k.kind = .ordinary := by
    obtain ⟨a, b, h1, h2, h3, -⟩ := Cond.instantiable_spec (th_h (wo (.instantiable E 6) (by simp [th_own])))
    rw [hC] at h1; cases h1
    rw [hk] at h2; cases h2
    exact h3
  obtain ⟨cs, hcs, his⟩ := Y.statics
  obtain ⟨u0, hu0⟩ := Cond.staticRefV Y.unassigned L.unassignedStatic L.statics hcs his (th_h (wo (.isRef (.static Bundle.tN "UNASSIGNED_STACK" Bundle.steD)) (by simp [th_own])))
  obtain ⟨sn, hsn⟩ := Cond.staticRefV Y.sentinel L.sentinelStatic L.statics hcs his (th_h (wo (.isRef (.static Bundle.tN "SUPPRESSED_SENTINEL" Bundle.listD)) (by simp [th_own])))
  have hlt : B.aS < s.heap.size := (Array.getElem?_eq_some_iff.mp hcs).1
  have hcT : T.heap[B.aS]? = some cs := by rw [(vx_frame (U := T) X.same).2 B.aS hlt (fun z hz => nomatch hz)]; exact hcs
  have hun : cs.vm ≠ .unknown := by intro h; rw [h] at his; cases his
  obtain ⟨iM, hM⟩ := Y.msg
  obtain ⟨b1, b2, fb, h1, h2, h3, h4, -, nb, tb, hb⟩ := Cond.ownField (t := .object "java/lang/Object") Y.found L.cls (by decide +kernel) (th_h (wo (.fieldLink Bundle.tN 198 Bundle.tN th_bk.1 th_bk.2) (by simp [th_own]))) (th_h (wo (.lays Bundle.tN Bundle.tN th_bk.1 th_bk.2) (by simp [th_own]))) e.platform hpl
  have wb := wl th_bk (by simp [th_fs])
  have wC := wl ("cause", "Ljava/lang/Throwable;") (by simp [th_fs])
  have wS := wl ("stackTrace", Bundle.steD) (by simp [th_fs])
  have wP := wl ("suppressedExceptions", Bundle.listD) (by simp [th_fs])
  have wM := wl ("detailMessage", "Ljava/lang/String;") (by simp [th_fs])
  have aC := th_ap hC hk Y.cause hb wC wb (by rw [Y.causeName, nb]; decide)
  have aS := th_ap hC hk Y.stack hb wS wb (by rw [Y.stackName, nb]; decide)
  have aP := th_ap hC hk Y.supp hb wP wb (by rw [Y.suppName, nb]; decide)
  have h0 : (freshCell C k).slots[fb.slot]? = some .null := by
    have h := fresh_default (c := C) (Cond.laysAt hC hk hb (th_h wb)).1
    rw [tb] at h
    exact h
  have hskip : SkipFacts B e.platform s (fun u => u) u0 ((preparedCellV B.toThrowableT (freshCell C k) q u0 sn).withEntry T.cur) :=
    ⟨⟨b1, b2, fb⟩, ⟨h1, h2, h3, h4⟩, th_el (i := B.fSupp.slot) aP (th_el (i := B.fStack.slot) aS (th_el (i := B.fCause.slot) aC h0)), fun _ _ => rfl⟩
  obtain ⟨tm, -, -, -, vm1, hn, -, -, -, -, -, -, -, hW1, go1⟩ := Steps.initColdS (tb := p.tables) (e := e) (below := below) (s := s) (U := T) X.here hexec X.warmed hpl hown (t := Bundle.initS E) rfl rfl (Bundle.fit_spec hE).2 (args := args) (bytes := rx) (maxL := 2)
    (wo (.methodLink own ic (Bundle.initS E)) (by simp [th_own])) (wp (.instanceMethod (Bundle.initS E)) (by simp [Bundle.passSAtoms])) (wp (.code (Bundle.initS E) rx 2 none) (by simp [Bundle.passSAtoms])) hg hst hd
  have htm : tm = firstOf (Z.m B.toThrowableT) (Q.map (·.toPassT)) := Option.some.inj (hn.symm.trans mQ)
  obtain ⟨vm2, X2, go2⟩ := (X.noted hW1).ctorMessageOffV hexec (g := { g with stack := st }) hg hsize B L Z LZ M LM Q lQ pQ (u0 := u0) (sen := sn) (self := q) hv (cell := freshCell C k) (cellS := cs) hq (fun _ => by simp) (by simp) rfl rfl
    (th_se X.admits hC Y.fill0 (by decide) (wo _ (by simp [th_own]))) (th_se X.admits hC Y.fill (by decide) (wo _ (by simp [th_own]))) hcT (Nat.ne_of_lt (Nat.lt_of_lt_of_le hlt hnew)) hun hu0 hsn
    (th_tk hC hk ho Y.cause wC (by rw [Y.causeType]; rfl)) (th_tk hC hk ho Y.stack wS (by rw [Y.stackType]; exact fits_refV_array _ u0)) (th_tk hC hk ho Y.supp wP (by rw [Y.suppType]; exact fits_refV_object _ sn)) (th_tk hC hk ho hM wM (by rw [Y.msgType]; exact fits_refV_object _ ⟨v, hv⟩))
    Y.objLocals hskip htr [] hd (by rw [nQ]; exact hR1) (by rw [nQ]; exact hR2)
  rw [State.setVm_twice] at X2 go2
  refine ⟨vm2, plainBareV B.toThrowableT (freshCell C k) q u0 sn v, rfl, rfl, X2.forget (fun z hz => ?_), fun U hU => go1 U (fun acts => ?_)⟩
  · simp only [List.mem_cons, List.not_mem_nil, or_false] at hz
    rcases hz with rfl | rfl | rfl | rfl | rfl <;> exact hnew
  · rw [htm, doInvoke_state]
    exact go2 U hU
/-- .. and is thrown -/
theorem th_thrown (X : Stand p l e R s m args below meth c T [] cells slots) (hexec : p.tables.exec = Jvm.exec) (htr : e.platform.stackTraces = false) {own E : String} {ic ix : Nat} {rx : ByteArray} (x0 : decode rx 0 = .ok (.aload_n 0, 1)) (x1 : decode rx 1 = .ok (.aload_n 1, 1)) (x2 : decode rx 2 = .ok (.invokespecial ix, 3)) (x5 : decode rx 5 = .ok (.return_, 1))
    (hown : s.vm.findClass own = some m.cls) (hE : Bundle.fit E = true) (hw : ∀ w ∈ th_all own ic E ix rx, w.before args s = true)
    {q : Addr} {C : ClassId} {k : Class} (hC : s.vm.findClass E = some C) (hk : s.vm.classes[C]? = some k) (hq : T.heap[q]? = some (freshCell C k)) (hnew : s.heap.size ≤ q) {v : Value} (hv : v.isRef = true)
    {g : JFrame} (hg : g.method = m) (hsize : g.locals.size = c.maxLocals) (hlk : g.locked = none) (hen : g.entered = []) {st : List Value} (hst : g.stack = v :: .ref q :: .ref q :: st) (hd : decode c.code g.pc = .ok (.invokespecial ic, 3)) (hd3 : decode c.code (g.pc + 3) = .ok (.athrow, 1)) (hout : ∀ x ∈ c.exceptionTable.toList, covers x (g.pc + 3) = false)
    (hR1 : 5 < R.frames) (hR2 : 2 * g.monitorRoom + ((Value.ref q :: st).map fun v => v.category).sum + 81 ≤ R.locals) (hlocks : meth.locks = false) :
    ∃ U : State, Steps p.tables e below (T.setTop g) U ∧ U.status = .running ∧ Ended U below (.threw q) ∧ s.WarmedH U.vm ∧ s.sameButNew ({ U with vm := s.vm } : State) [] cells slots ∧ ∃ ce, U.heap[q]? = some ce ∧ ce.vm = .none ∧ s.vm.findClass E = some ce.cls := by
  obtain ⟨vm', ce, e1, e2, X', go⟩ := th_make X hexec htr x0 x1 x2 x5 hown hE hw hC hk hq hnew hv hg hsize hst hd hR1 hR2
  obtain ⟨w1, w2, w3, w4, w5⟩ := X'.athrowLeaves hexec (g := { g with pc := g.pc + 3, stack := .ref q :: st }) hg hlk hen hout (a := q) (rest := st) rfl hd3 hlocks
  exact ⟨_, go _ w1, w2, w3, w4, w5, ce, heapAt_setCell_self (s := T.setVm vm') ce (Array.getElem?_eq_some_iff.mp hq).1, e1, by rw [e2]; exact hC⟩
end THM
