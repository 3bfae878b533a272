/-! the class's kit: what stands around its methods; contracts that may throw -/
theorem va_AOA.moved {ty : FieldType} {u U : State} (hvm : u.vm.Alike U.vm) (h : va_AOA ty u) : va_AOA ty U := arrayOver_alikeB hvm h
def strsB : List (Nat × String) := [(73, "no such pattern or straws"), (78, "the tape has not so many bytes"), (104, "no such question"), (115, "no such crossing"), (145, "no such factor"), (163, "no such place"), (168, "no such two places"), (183, "no such bundle"), (200, "no such score"), (227, "no such hat"), (240, "no such pattern")]
def dclB : List MethodName := [Bundle.initS "java/lang/RuntimeException", Bundle.initS "java/lang/Exception", Bundle.initS Bundle.tN]
/-- no stack traces; the statics of Throwable; the texts; the array classes -/
def EV (l : Launch) (A : Nat → Prop) (U : State) (H : Heap) : Prop := l.stackTraces = false ∧ vx_Zq Bundle.tN "UNASSIGNED_STACK" Bundle.steD A U H ∧ vx_Zq Bundle.tN "SUPPRESSED_SENTINEL" Bundle.listD A U H ∧ (∀ q ∈ strsB, ∃ sa : Nat, vk_R "PlaitBench" q.1 q.2 sa U) ∧ (va_AO "PlaitBench$Bundle" U ∧ va_AO "PlaitBench$Hat" U ∧ va_AO "PlaitBench$Pattern" U ∧ va_AO "PlaitBench$Score" U) ∧ va_AOA .int U ∧ va_Nw (.castable "java/lang/IllegalArgumentException" "java/lang/IllegalArgumentException") U ∧ va_Nw (.castable "java/util/NoSuchElementException" "java/util/NoSuchElementException") U ∧ (∀ y ∈ dclB, va_Nw (.declares y) U) ∧ va_Nw (.methodLinkNest "PlaitBench" 87 ⟨"PlaitBench$Pattern", "<init>", "()V"⟩ "PlaitBench") U
theorem EV.warm {l : Launch} {A : Nat → Prop} {s U : State} {H : Heap} (hW : s.WarmedH U.vm) (h : EV l A s H) : EV l A U H := by
  obtain ⟨h1, h2, h3, h4, ⟨h5, h6, h7, h8⟩, h9, h10, h11, h12, h13⟩ := h
  exact ⟨h1, vx_Zq.moved hW.alike h2, vx_Zq.moved hW.alike h3, fun q hq => by
    obtain ⟨sa, w⟩ := h4 q hq
    exact ⟨sa, vk_R.warm hW w⟩, ⟨va_AO.moved hW.alike h5, va_AO.moved hW.alike h6, va_AO.moved hW.alike h7, va_AO.moved hW.alike h8⟩, va_AOA.moved hW.alike h9, va_Nw.warmC hW h10, va_Nw.warmC hW h11, fun y hy => va_Nw.warmD hW (h12 y hy), va_Nw.warmM hW h13⟩
theorem EV.kept {l : Launch} {A : Nat → Prop} {U : State} {H H1 : Heap} (hq : ∀ a : Nat, a < H.size → ¬ A a → H1[a]? = H[a]?) (h : EV l A U H) : EV l A U H1 := ⟨h.1, h.2.1.kept hq, h.2.2.1.kept hq, h.2.2.2⟩
theorem EV.narrow {l : Launch} {A B : Nat → Prop} {U : State} {H : Heap} (hAB : ∀ q, B q → A q) (h : EV l A U H) : EV l B U H := ⟨h.1, h.2.1.narrow hAB, h.2.2.1.narrow hAB, h.2.2.2⟩
def Ev (X : Fx) : Prop := match X with
  | (_, l, _, _, s, _, _, _, _, _, _, _, A, _, _) => EV l A s s.heap
/-- the method is a constructor -/
def Ini (X : Fx) : Prop := match X with
  | (_, _, _, _, _, _, _, _, meth, _, _, _, _, _, _) => meth.name = "<init>"
/-- no handlers -/
def NoH (X : Fx) : Prop := match X with
  | (_, _, _, _, _, _, _, _, _, c, _, _, _, _, _) => ∀ x ∈ c.exceptionTable.toList, False
/-- its handlers -/
def Tb (X : Fx) (hh : List (Nat × Nat × Nat × Nat)) : Prop := match X with
  | (_, _, _, _, _, _, _, _, _, c, _, _, _, _, _) => c.exceptionTable.toList = tableOf hh
/-- the frame with something of the class E thrown over it -/
def VX (X : Fx) (k n pc : Nat) (L : List (Option Value)) (st : List Value) (ws : va_W) (E : String) : Prop := match X with
  | (p, l, e, R, s, m, args, below, meth, c, D, _, A, nL, Q) => ∀ (H : Heap) (locs : List Loc) (ls : Array Slot) (q9 : Addr) (ce : Cell), va_P D vwCl ws H → va_D A ws → va_S A s.heap H locs → lh ls nL L → H[q9]? = some ce → ce.vm = .none → s.vm.findClass E = some ce.cls → vx_W p l e R s m args below meth c H locs k n Q (F0 m pc ls st) q9
def PreE (G : Gx) (avs : List Value) (ws : va_W) (sz : Nat) : Array Value → State → Prop := va_Pc avs (fun U => U.heap.size = sz ∧ va_P G.2.1 vwCl ws U.heap ∧ va_K G.2.1 vwCl (tysA G.2.2) U ∧ va_D (fun _ => True) ws ∧ EV G.1 (va_A ws sz) U U.heap)
theorem PreE.blind {G : Gx} {avs : List Value} {ws : va_W} {sz : Nat} : FrameBlind (PreE G avs ws sz) := fun a U g mk q => by
  obtain ⟨q0, q1, qP, qK, qD, qE⟩ := q
  exact ⟨q0, q1, qP, va_K.moved (u := U) (U := U.calling g mk a) (Vm.Alike.refl U.vm) qK, qD, EV.warm (s := U) (U := U.calling g mk a) (State.WarmedH.refl U) qE⟩
/-- the class of the throw, when it happens, and the world then -/
abbrev Xp : Type := Prop × String × va_W
def XX (G : Gx) (ws : va_W) (sz : Nat) (x : Xp) : String → State → State → Prop := vx_X (S := Unit) (fun _ => x.1) (fun E _ t => E = x.2.1 ∧ Wd G (va_A ws sz) x.2.2 t) (va_A ws sz)
/-- a contract that may throw: answers an int; nothing; a reference or null -/
def XI (G : Gx) (y : MethodName) (w : Cond) (d mc ms : Nat) (avs : List Value) (ws : va_W) (x : Xp) {S : Type} (post : Int32 → S → Prop) (wo : S → va_W) : Prop :=
  ∀ sz : Nat, vx_Met G.1 y (w :: ALLW) ({ frames := d, cells := mc, slots := ms, locals := 35 * d } : Room) (PreE G avs ws sz) (va_Qi post (fun u t => Wd G (va_A ws sz) (wo u) t) (va_A ws sz)) (XX G ws sz x) mc ms (va_A ws sz)
def XV (G : Gx) (y : MethodName) (w : Cond) (d mc ms : Nat) (avs : List Value) (ws : va_W) (x : Xp) {S : Type} (post : S → Prop) (wo : S → va_W) : Prop :=
  ∀ sz : Nat, vx_Met G.1 y (w :: ALLW) ({ frames := d, cells := mc, slots := ms, locals := 35 * d } : Room) (PreE G avs ws sz) (va_Qv post (fun u t => Wd G (va_A ws sz) (wo u) t) (va_A ws sz)) (XX G ws sz x) mc ms (va_A ws sz)
def XQ (G : Gx) (y : MethodName) (w : Cond) (d mc ms : Nat) (avs : List Value) (ws : va_W) (x : Xp) {S : Type} (post : Option Nat → S → Prop) (wo : S → va_W) : Prop :=
  ∀ sz : Nat, vx_Met G.1 y (w :: ALLW) ({ frames := d, cells := mc, slots := ms, locals := 35 * d } : Room) (PreE G avs ws sz) (va_Qq post (fun u t => Wd G (va_A ws sz) (wo u) t) (va_A ws sz)) (XX G ws sz x) mc ms (va_A ws sz)
def RQ (X : Fx) (cc : ByteArray) (mc ms : Nat) {S : Type} (post : Option Nat → S → Prop) (wo : S → va_W) : Prop :=
  ∀ (k n pc : Nat) (L : List (Option Value)) (o : Option Nat) (u : S), k ≤ mc → n ≤ ms → post o u → decode cc pc = .ok (.areturn, 1) → V X k n pc L [va_rf o] (wo u)
/-- a throw goes on to the caller -/
def TO (X : Fx) (mc ms : Nat) (x : Xp) : Prop := ∀ (k n pc : Nat) (L : List (Option Value)) (st : List Value), k ≤ mc → n ≤ ms → x.1 → VX X k n pc L st x.2.2 x.2.1
abbrev nmsX : List String := ["java/lang/RuntimeException", "java/lang/Exception"]
/-- the words of 'throw new E(text)' -/
def KT (own : String) (ik ic : Nat) (E : String) : Prop := Cond.classLink own ik E ∈ ALLW ∧ Cond.initialized E ∈ ALLW ∧ Bundle.fit E = true ∧ (E = "java/lang/IllegalArgumentException" ∨ E = "java/util/NoSuchElementException") ∧ ∃ (ix : Nat) (rx : ByteArray), decode rx 0 = .ok (.aload_n 0, 1) ∧ decode rx 1 = .ok (.aload_n 1, 1) ∧ decode rx 2 = .ok (.invokespecial ix, 3) ∧ decode rx 5 = .ok (.return_, 1) ∧ ∀ w ∈ th_atX own ic E ix rx, (w = .castable E E ∨ (∃ y ∈ dclB, w = .declares y) ∨ w ∈ ALLW) ∧ vx_ot w = true
/-- a throw of its own -/
def TN (X : Fx) (cc : ByteArray) (own : String) (d mc ms : Nat) (x : Xp) : Prop := ∀ (k n pc : Nat) (L : List (Option Value)) (st : List Value) (ik is ic : Nat) (text : String), k + 1 ≤ mc → n + 6 ≤ ms → x.1 → 6 ≤ d → (st.map fun v => v.category).sum ≤ 8 → KT own ik ic x.2.1 → (is, text) ∈ strsB → own = "PlaitBench" → decode cc pc = .ok (.new ik, 3) → decode cc (pc + 3) = .ok (.dup, 1) → decode cc (pc + 4) = .ok (.ldc is, 2) → decode cc (pc + 6) = .ok (.invokespecial ic, 3) → decode cc (pc + 9) = .ok (.athrow, 1) → V X k n pc L st x.2.2
theorem kt_of {own E : String} {ik ic ix : Nat} {rx : ByteArray} (h1 : Cond.classLink own ik E ∈ lw_tbl) (h2 : Cond.initialized E ∈ lw_tbl) (h3 : Bundle.fit E = true) (h4 : E = "java/lang/IllegalArgumentException" ∨ E = "java/util/NoSuchElementException") (x0 : decode rx 0 = .ok (.aload_n 0, 1)) (x1 : decode rx 1 = .ok (.aload_n 1, 1)) (x2 : decode rx 2 = .ok (.invokespecial ix, 3)) (x5 : decode rx 5 = .ok (.return_, 1)) (h5 : ∀ w ∈ th_atX own ic E ix rx, w = .castable E E ∨ w ∈ lw_tbl) (h6 : ∀ w ∈ th_atX own ic E ix rx, w = .castable E E ∨ (∃ y ∈ dclB, w = .declares y) ∨ goodWord w = true) (h7 : ∀ w ∈ th_atX own ic E ix rx, vx_ot w = true) : KT own ik ic E :=
  ⟨aw_in h1 rfl, aw_in h2 rfl, h3, h4, ix, rx, x0, x1, x2, x5, fun w hw => ⟨(h5 w hw).elim Or.inl (fun q => (h6 w hw).elim Or.inl (fun g => Or.inr (g.elim Or.inl (fun g => Or.inr (aw_in q g))))), h7 w hw⟩⟩
theorem kt_iae : KT "PlaitBench" 71 75 "java/lang/IllegalArgumentException" := kt_of (ix := 7) (rx := prog_11_method_2_code) (by decide +kernel) (by decide +kernel) (by decide +kernel) (Or.inl rfl) (by decide +kernel) (by decide +kernel) (by decide +kernel) (by decide +kernel) (by decide +kernel) (by decide +kernel) (by decide +kernel)
theorem kt_nse : KT "PlaitBench" 102 106 "java/util/NoSuchElementException" := kt_of (ix := 13) (rx := prog_17_method_4_code) (by decide +kernel) (by decide +kernel) (by decide +kernel) (Or.inr rfl) (by decide +kernel) (by decide +kernel) (by decide +kernel) (by decide +kernel) (by decide +kernel) (by decide +kernel) (by decide +kernel)
section XIN
variable {G : Gx} {y : MethodName} {b : ByteArray} {nL : Nat} {d mc ms : Nat} {avs : List Value} {ws : va_W} {x : Xp}
theorem x_TO {p : Program} {l : Launch} {e : Env} {R : Room} {s : State} {m : MethodId} {args : Array Value} {below : List Frame} {meth : Method} {c : Code} {nL sz : Nat} {Qc : Array Value → State → Outcome → State → Prop} (hK : va_K G.2.1 vwCl (tysA G.2.2) s) (hno : ∀ x ∈ c.exceptionTable.toList, False) (hlocks : meth.locks = false) : TO (p, l, e, R, s, m, args, below, meth, c, G.2.1, G.2.2, va_A ws sz, nL, vx_MQ below Qc (XX G ws sz x) args s mc ms (va_A ws sz)) mc ms x := by
  intro k n pc L st hk hn hx H locs ls q9 ce hP hD hS hl hce hcv hcl
  exact vx_out (fun z hz => (hno z hz).elim) hlocks hce hcv hcl (fun t ht hal => ⟨(), hx, ⟨rfl, by rw [ht]; exact hP, va_K.moved hal hK, hD⟩, hS.F ht⟩) hS.2.2 hk hn
theorem x_TN {p : Program} {e : Env} {s : State} {m : MethodId} {args : Array Value} {below : List Frame} {meth : Method} {c : Code} {sz : Nat} {own : String} {Qc : Array Value → State → Outcome → State → Prop} (hx0 : p.tables.exec = Jvm.exec) (hb : c.code = b) (hml : c.maxLocals = nL) (hown : s.vm.findClass own = some m.cls) (hts : ∀ w ∈ ALLW, w.before args s = true) (hK : va_K G.2.1 vwCl (tysA G.2.2) s) (hE : EV G.1 (va_A ws sz) s s.heap) (hno : ∀ x ∈ c.exceptionTable.toList, False) (hlocks : meth.locks = false) : TN (p, G.1, e, ({ frames := d, cells := mc, slots := ms, locals := 35 * d } : Room), s, m, args, below, meth, c, G.2.1, G.2.2, va_A ws sz, nL, vx_MQ below Qc (XX G ws sz x) args s mc ms (va_A ws sz)) b own d mc ms x := by
  intro k n pc L st ik is ic text hk hn hx hd hst hKT hstr ho d0 d3 d4 d6 d9 H locs ls hP hD hS hl
  obtain ⟨hcl, hini, hfit, hEE, ix, rx, x0, x1, x2, x5, hw⟩ := hKT
  obtain ⟨hl0, hU, hN, hstrs, -, -, hc1, hc2, hdc, -⟩ := hE
  obtain ⟨sa, hsa⟩ := hstrs _ hstr
  refine th_throwX hx0 hb hl0 x0 x1 x2 x5 hown hfit (hts _ hcl) (hts _ hini) (by rw [ho]; exact hsa) (fun w hww => ?_) (fun w hww => ?_) hU hN hS (by rw [hml]; exact hl.1) d0 d3 d4 d6 d9 (fun z hz => (hno z hz).elim) (by show 2 + 3 < d; omega) (by show _ + (13 * (2 + 1) + 43) ≤ 35 * d; omega) hk hn hlocks (fun t hal hz hkeep => ⟨(), hx, ⟨rfl, hP.kept (fun k9 q hq => hkeep q.1 ((hP k9 q hq).lt)), va_K.moved hal hK, hD⟩, ?_⟩) hS.2.2 hk hn
  · rcases (hw w hww).1 with q | ⟨y0, hy0, q⟩ | q
    · rcases hEE with w1 | w1
      · rw [q, w1]; exact va_Nw.use (A := args) rfl hc1
      · rw [q, w1]; exact va_Nw.use (A := args) rfl hc2
    · rw [q]; exact va_Nw.use (A := args) rfl (hdc y0 hy0)
    · exact hts _ q
  · rcases List.mem_cons.mp hww with q | q
    · subst q; exact by simp [vx_ot, Cond.onTables]
    · rcases List.mem_cons.mp q with q | q
      · subst q; exact by simp [vx_ot, Cond.onTables]
      · exact (hw w q).2
  · exact ⟨Nat.le_trans hS.1 hz, fun q h1 h2 => (hkeep q (Nat.lt_of_lt_of_le h1 hS.1)).trans (hS.2.1 q h1 h2)⟩
end XIN
