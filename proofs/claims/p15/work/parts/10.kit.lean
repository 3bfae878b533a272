/-! my kit: one list of words for all methods; a judgement V over locals, stack and cells -/
def ALLW : List Cond := lw_tbl.filter goodWord
theorem aw_in {w : Cond} (h : w ∈ lw_tbl) (g : goodWord w = true) : w ∈ ALLW := List.mem_filter.mpr ⟨h, g⟩
theorem aw_at {w : Cond} (i : Nat) (h : lw_tbl[i]? = some w) (g : goodWord w = true) : w ∈ ALLW := aw_in (List.mem_of_getElem? h) g
theorem aw_good {b : List Cond} (hb : ∀ w ∈ ALLW, w ∈ b) : GoodIn b ALLW := fun w hw => ⟨hb w hw, good_of_word (List.mem_filter.mp hw).2⟩
def tysA (cy : Nat → ClassId) : List (ClassId × FieldType) := [(cy 0, .int), (cy 1, .byte), (cy 2, .long), (cy 3, .object "PlaitBench$Bundle"), (cy 4, .object "PlaitBench$Hat"), (cy 5, .object "PlaitBench$Pattern"), (cy 6, .object "PlaitBench$Score"), (cy 7, .array .int)]
/-- what stays through a method: the machine, the launch, the room, the start, the frame, the classes, which cells may change, how many locals, the end -/
abbrev Fx : Type := Program × Launch × Env × Room × State × MethodId × Array Value × List Frame × Method × Code × va_G × (Nat → ClassId) × (Nat → Prop) × Nat × (State → Prop)
abbrev Gx : Type := Launch × va_G × (Nat → ClassId)
/-- the method's own context: its code cc in the class own, d frames deep, mc cells of ms slots to be made -/
def Cx (X : Fx) (G : Gx) (nL : Nat) (cc : ByteArray) (own : String) (d mc ms : Nat) : Prop := match X with
  | (p, l, _, R, s, m, args, _, meth, c, D, cy, A, nX, _) => p.tables.exec = Jvm.exec ∧ c.code = cc ∧ nX = nL ∧ c.maxLocals = nX ∧ s.vm.findClass own = some m.cls ∧ (∀ w ∈ ALLW, w.before args s = true) ∧ va_K D vwCl (tysA cy) s ∧ (∀ q : Nat, s.heap.size ≤ q → A q) ∧ meth.locks = false ∧ d ≤ R.frames ∧ 35 * d ≤ R.locals ∧ mc ≤ R.cells ∧ ms ≤ R.slots ∧ G.1 = l ∧ G.2.1 = D ∧ G.2.2 = cy
def lh (ls : Array Slot) (nL : Nat) (L : List (Option Value)) : Prop := ls.size = nL ∧ lv_wf ls ∧ ∀ (i : Nat) (v : Value), L[i]? = some (some v) → ls[i]? = some (.val v) ∧ v.category = 1
/-- from here the machine comes to the end that X names -/
def V (X : Fx) (k n pc : Nat) (L : List (Option Value)) (st : List Value) (ws : va_W) : Prop := match X with
  | (p, l, e, R, s, m, args, below, meth, c, D, _, A, nL, Q) => ∀ (H : Heap) (locs : List Loc) (ls : Array Slot), va_P D vwCl ws H → va_D A ws → va_S A s.heap H locs → lh ls nL L → W p l e R s m args below meth c H locs k n Q (F0 m pc ls st)
theorem lh_at {ls : Array Slot} {nL : Nat} {L : List (Option Value)} (h : lh ls nL L) {i : Nat} {v : Value} (hi : L[i]? = some (some v)) : ls[i]? = some (.val v) := (h.2.2 i v hi).1
def lpairs (L : List (Option Value)) : List (Nat × Value) := (List.range L.length).filterMap (fun i => match L[i]? with | some (some v) => some (i, v) | _ => none)
theorem lpairs_in {L : List (Option Value)} {i : Nat} {v : Value} (h : L[i]? = some (some v)) : (i, v) ∈ lpairs L := by
  unfold lpairs
  refine List.mem_filterMap.mpr ⟨i, List.mem_range.mpr (List.getElem?_eq_some_iff.mp h).1, ?_⟩
  rw [h]
theorem lpairs_of {L : List (Option Value)} {q : Nat × Value} (h : q ∈ lpairs L) : L[q.1]? = some (some q.2) := by
  unfold lpairs at h
  obtain ⟨i, -, hi⟩ := List.mem_filterMap.mp h
  cases hL : L[i]? with
  | none => rw [hL] at hi; cases hi
  | some o =>
    cases o with
    | none => rw [hL] at hi; cases hi
    | some v => rw [hL] at hi; cases hi; exact hL
theorem lh_has {ls : Array Slot} {nL : Nat} {L : List (Option Value)} (h : lh ls nL L) : lv_has ls nL (lpairs L) := ⟨h.1, h.2.1, fun _ hq => (h.2.2 _ _ (lpairs_of hq)).1⟩
theorem lh_set {ls ls' : Array Slot} {nL : Nat} {L : List (Option Value)} {i : Nat} {x : Value} (h : lh ls nL L) (hc : x.category = 1) (h' : lv_has ls' nL ((i, x) :: (lpairs L).filter (fun q => !(q.1 == i) && !(q.1 + 1 == i && q.2.category == 2)))) : lh ls' nL (L.set i (some x)) := by
  refine ⟨h'.1, h'.2.1, fun j v hj => ?_⟩
  by_cases e : i = j
  · subst e
    rw [List.getElem?_set_self'] at hj
    cases hq : L[i]? with
    | none => rw [hq] at hj; cases hj
    | some o =>
      rw [hq] at hj
      have hv : x = v := by simpa using hj
      subst hv
      exact ⟨h'.2.2 (i, x) List.mem_cons_self, hc⟩
  · rw [List.getElem?_set_ne e] at hj
    have h2 := (h.2.2 j v hj).2
    refine ⟨h'.2.2 (j, v) (List.mem_cons_of_mem _ (List.mem_filter.mpr ⟨lpairs_in hj, ?_⟩)), h2⟩
    simp [h2, Ne.symm e]
section VR
variable {X : Fx} {G : Gx} {nL : Nat} {cc : ByteArray} {own : String} {d mc ms k n pc : Nat} {L : List (Option Value)} {st : List Value} {ws : va_W}
theorem V.eqL {L' : List (Option Value)} (h : L = L') (kk : V X k n pc L' st ws) : V X k n pc L st ws := h ▸ kk
theorem V.eqW {ws' : va_W} (h : ws = ws') (kk : V X k n pc L st ws') : V X k n pc L st ws := h ▸ kk
theorem V.eqS {st' : List Value} (h : st = st') (kk : V X k n pc L st' ws) : V X k n pc L st ws := h ▸ kk
theorem V.topi {x : Int32} (kk : ∀ y : Int32, y = x → V X k n pc L (.int y :: st) ws) : V X k n pc L (.int x :: st) ws := kk x rfl
theorem V.forget {L' : List (Option Value)} (h : ∀ (i : Nat) (v : Value), L'[i]? = some (some v) → L[i]? = some (some v)) (kk : V X k n pc L' st ws) : V X k n pc L st ws := by
  obtain ⟨p, l, e, R, s, m, args, below, meth, c, D, cy, A, nX, Q⟩ := X
  exact fun H locs ls hP hD hS hl => kk H locs ls hP hD hS ⟨hl.1, hl.2.1, fun i v hi => hl.2.2 i v (h i v hi)⟩
theorem V.widen {k' n' : Nat} (h1 : k ≤ k') (h2 : n ≤ n') (kk : V X k' n' pc L st ws) : V X k n pc L st ws := by
  obtain ⟨p, l, e, R, s, m, args, below, meth, c, D, cy, A, nX, Q⟩ := X
  exact fun H locs ls hP hD hS hl => W.widen h1 h2 (kk H locs ls hP hD hS hl)
/-- the same cells in another order, or fewer -/
theorem V.sub {ws' : va_W} (is : List Nat) (hn : va_nd is = true) (hs : is.map (fun i => ws[i]?) = ws'.map some) (kk : V X k n pc L st ws') : V X k n pc L st ws := by
  obtain ⟨p, l, e, R, s, m, args, below, meth, c, D, cy, A, nX, Q⟩ := X
  refine fun H locs ls hP hD hS hl => kk H locs ls (fun j q hq => ?_) (hD.sub is hn hs) hS hl
  have h1 : (is.map (fun i => ws[i]?))[j]? = some (some q) := by rw [hs, List.getElem?_map, hq]; rfl
  rw [List.getElem?_map] at h1
  cases hi : is[j]? with
  | none => rw [hi] at h1; cases h1
  | some i => rw [hi] at h1; exact hP i q (Option.some.inj h1)
theorem r_iconst (C : Cx X G nL cc own d mc ms) {z : Int} {v : Int32} (hdg : decode cc pc = .ok (.iconst z, 1)) (hv : Int32.ofInt z = v) (kk : V X k n (pc + 1) L (.int v :: st) ws) : V X k n pc L (st) ws := by
  obtain ⟨p, l, e, R, s, m, args, below, meth, c, D, cy, A, nX, Q⟩ := X
  exact fun H locs ls hP hD hS hl => lv_iconst C.1 C.2.1 hdg hv (kk H locs ls hP hD hS hl)
theorem r_bipush (C : Cx X G nL cc own d mc ms) {z : Int} {v : Int32} (hdg : decode cc pc = .ok (.bipush z, 2)) (hv : (Int8.ofInt z).toInt32 = v) (kk : V X k n (pc + 2) L (.int v :: st) ws) : V X k n pc L (st) ws := by
  obtain ⟨p, l, e, R, s, m, args, below, meth, c, D, cy, A, nX, Q⟩ := X
  exact fun H locs ls hP hD hS hl => lv_bipush C.1 C.2.1 hdg hv (kk H locs ls hP hD hS hl)
theorem r_sipush (C : Cx X G nL cc own d mc ms) {z : Int} {v : Int32} (hdg : decode cc pc = .ok (.sipush z, 3)) (hv : (Int16.ofInt z).toInt32 = v) (kk : V X k n (pc + 3) L (.int v :: st) ws) : V X k n pc L (st) ws := by
  obtain ⟨p, l, e, R, s, m, args, below, meth, c, D, cy, A, nX, Q⟩ := X
  exact fun H locs ls hP hD hS hl => lv_sipush C.1 C.2.1 hdg hv (kk H locs ls hP hD hS hl)
theorem r_iload_n (C : Cx X G nL cc own d mc ms) {j : Fin 4} {i : Nat} {x : Int32} (hdg : decode cc pc = .ok (.iload_n j, 1)) (hi : (j : Nat) = i) (hx : L[i]? = some (some (.int x))) (kk : V X k n (pc + 1) L (.int x :: st) ws) : V X k n pc L (st) ws := by
  obtain ⟨p, l, e, R, s, m, args, below, meth, c, D, cy, A, nX, Q⟩ := X
  exact fun H locs ls hP hD hS hl => lv_iload_n C.1 C.2.1 hdg hi (lh_at hl hx) (kk H locs ls hP hD hS hl)
theorem r_iload (C : Cx X G nL cc own d mc ms) {i : Nat} {x : Int32} (hdg : decode cc pc = .ok (.iload i, 2)) (hx : L[i]? = some (some (.int x))) (kk : V X k n (pc + 2) L (.int x :: st) ws) : V X k n pc L (st) ws := by
  obtain ⟨p, l, e, R, s, m, args, below, meth, c, D, cy, A, nX, Q⟩ := X
  exact fun H locs ls hP hD hS hl => lv_iload C.1 C.2.1 hdg (lh_at hl hx) (kk H locs ls hP hD hS hl)
theorem r_istore_n (C : Cx X G nL cc own d mc ms) {j : Fin 4} {i : Nat} {x : Int32} (hdg : decode cc pc = .ok (.istore_n j, 1)) (hi : (j : Nat) = i) (hn : i < nL) (kk : V X k n (pc + 1) (L.set i (some (.int x))) st ws) : V X k n pc L (.int x :: st) ws := by
  obtain ⟨p, l, e, R, s, m, args, below, meth, c, D, cy, A, nX, Q⟩ := X
  exact fun H locs ls hP hD hS hl => lv_istore_n C.1 C.2.1 hdg hi (lh_has hl) (C.2.2.1 ▸ hn) rfl (fun ls1 hl1 => kk H locs ls1 hP hD hS (lh_set hl rfl hl1))
theorem r_istore (C : Cx X G nL cc own d mc ms) {i : Nat} {x : Int32} (hdg : decode cc pc = .ok (.istore i, 2)) (hn : i < nL) (kk : V X k n (pc + 2) (L.set i (some (.int x))) st ws) : V X k n pc L (.int x :: st) ws := by
  obtain ⟨p, l, e, R, s, m, args, below, meth, c, D, cy, A, nX, Q⟩ := X
  exact fun H locs ls hP hD hS hl => lv_istore C.1 C.2.1 hdg (lh_has hl) (C.2.2.1 ▸ hn) rfl (fun ls1 hl1 => kk H locs ls1 hP hD hS (lh_set hl rfl hl1))
theorem r_aload_n (C : Cx X G nL cc own d mc ms) {j : Fin 4} {i : Nat} {x : Nat} (hdg : decode cc pc = .ok (.aload_n j, 1)) (hi : (j : Nat) = i) (hx : L[i]? = some (some (.ref x))) (kk : V X k n (pc + 1) L (.ref x :: st) ws) : V X k n pc L (st) ws := by
  obtain ⟨p, l, e, R, s, m, args, below, meth, c, D, cy, A, nX, Q⟩ := X
  exact fun H locs ls hP hD hS hl => lv_aload_n C.1 C.2.1 hdg hi (lh_at hl hx) (kk H locs ls hP hD hS hl)
theorem r_aload (C : Cx X G nL cc own d mc ms) {i : Nat} {x : Nat} (hdg : decode cc pc = .ok (.aload i, 2)) (hx : L[i]? = some (some (.ref x))) (kk : V X k n (pc + 2) L (.ref x :: st) ws) : V X k n pc L (st) ws := by
  obtain ⟨p, l, e, R, s, m, args, below, meth, c, D, cy, A, nX, Q⟩ := X
  exact fun H locs ls hP hD hS hl => lv_aload C.1 C.2.1 hdg (lh_at hl hx) (kk H locs ls hP hD hS hl)
theorem r_astore_n (C : Cx X G nL cc own d mc ms) {j : Fin 4} {i : Nat} {x : Nat} (hdg : decode cc pc = .ok (.astore_n j, 1)) (hi : (j : Nat) = i) (hn : i < nL) (kk : V X k n (pc + 1) (L.set i (some (.ref x))) st ws) : V X k n pc L (.ref x :: st) ws := by
  obtain ⟨p, l, e, R, s, m, args, below, meth, c, D, cy, A, nX, Q⟩ := X
  exact fun H locs ls hP hD hS hl => lv_astore_n C.1 C.2.1 hdg hi (lh_has hl) (C.2.2.1 ▸ hn) rfl (fun ls1 hl1 => kk H locs ls1 hP hD hS (lh_set hl rfl hl1))
theorem r_astore (C : Cx X G nL cc own d mc ms) {i : Nat} {x : Nat} (hdg : decode cc pc = .ok (.astore i, 2)) (hn : i < nL) (kk : V X k n (pc + 2) (L.set i (some (.ref x))) st ws) : V X k n pc L (.ref x :: st) ws := by
  obtain ⟨p, l, e, R, s, m, args, below, meth, c, D, cy, A, nX, Q⟩ := X
  exact fun H locs ls hP hD hS hl => lv_astore C.1 C.2.1 hdg (lh_has hl) (C.2.2.1 ▸ hn) rfl (fun ls1 hl1 => kk H locs ls1 hP hD hS (lh_set hl rfl hl1))
theorem r_iinc (C : Cx X G nL cc own d mc ms) {i : Nat} {z : Int} {x v : Int32} (hdg : decode cc pc = .ok (.iinc i z, 3)) (hx : L[i]? = some (some (.int x))) (hv : x + Int32.ofInt z = v) (hn : i < nL) (kk : V X k n (pc + 3) (L.set i (some (.int v))) st ws) : V X k n pc L st ws := by
  obtain ⟨p, l, e, R, s, m, args, below, meth, c, D, cy, A, nX, Q⟩ := X
  refine fun H locs ls hP hD hS hl => ?_
  obtain ⟨j, hj⟩ := List.getElem?_of_mem (lpairs_in hx)
  exact lv_iinc C.1 C.2.1 hdg (lh_has hl) hj hv (C.2.2.1 ▸ hn) rfl (fun ls1 hl1 => kk H locs ls1 hP hD hS (lh_set hl rfl hl1))
theorem r_iadd (C : Cx X G nL cc own d mc ms) {x y : Int32} (hdg : decode cc pc = .ok (.iadd, 1)) (kk : V X k n (pc + 1) L (.int (x + y) :: st) ws) : V X k n pc L (.int y :: .int x :: st) ws := by
  obtain ⟨p, l, e, R, s, m, args, below, meth, c, D, cy, A, nX, Q⟩ := X
  exact fun H locs ls hP hD hS hl => lv_iadd C.1 C.2.1 hdg (kk H locs ls hP hD hS hl)
theorem r_isub (C : Cx X G nL cc own d mc ms) {x y : Int32} (hdg : decode cc pc = .ok (.isub, 1)) (kk : V X k n (pc + 1) L (.int (x - y) :: st) ws) : V X k n pc L (.int y :: .int x :: st) ws := by
  obtain ⟨p, l, e, R, s, m, args, below, meth, c, D, cy, A, nX, Q⟩ := X
  exact fun H locs ls hP hD hS hl => lv_isub C.1 C.2.1 hdg (kk H locs ls hP hD hS hl)
theorem r_imul (C : Cx X G nL cc own d mc ms) {x y : Int32} (hdg : decode cc pc = .ok (.imul, 1)) (kk : V X k n (pc + 1) L (.int (x * y) :: st) ws) : V X k n pc L (.int y :: .int x :: st) ws := by
  obtain ⟨p, l, e, R, s, m, args, below, meth, c, D, cy, A, nX, Q⟩ := X
  exact fun H locs ls hP hD hS hl => lv_imul C.1 C.2.1 hdg (kk H locs ls hP hD hS hl)
theorem r_iand (C : Cx X G nL cc own d mc ms) {x y : Int32} (hdg : decode cc pc = .ok (.iand, 1)) (kk : V X k n (pc + 1) L (.int (x &&& y) :: st) ws) : V X k n pc L (.int y :: .int x :: st) ws := by
  obtain ⟨p, l, e, R, s, m, args, below, meth, c, D, cy, A, nX, Q⟩ := X
  exact fun H locs ls hP hD hS hl => lv_iand C.1 C.2.1 hdg (kk H locs ls hP hD hS hl)
theorem r_ior (C : Cx X G nL cc own d mc ms) {x y : Int32} (hdg : decode cc pc = .ok (.ior, 1)) (kk : V X k n (pc + 1) L (.int (x ||| y) :: st) ws) : V X k n pc L (.int y :: .int x :: st) ws := by
  obtain ⟨p, l, e, R, s, m, args, below, meth, c, D, cy, A, nX, Q⟩ := X
  exact fun H locs ls hP hD hS hl => lv_ior C.1 C.2.1 hdg (kk H locs ls hP hD hS hl)
theorem r_ixor (C : Cx X G nL cc own d mc ms) {x y : Int32} (hdg : decode cc pc = .ok (.ixor, 1)) (kk : V X k n (pc + 1) L (.int (x ^^^ y) :: st) ws) : V X k n pc L (.int y :: .int x :: st) ws := by
  obtain ⟨p, l, e, R, s, m, args, below, meth, c, D, cy, A, nX, Q⟩ := X
  exact fun H locs ls hP hD hS hl => lv_ixor C.1 C.2.1 hdg (kk H locs ls hP hD hS hl)
theorem r_idiv (C : Cx X G nL cc own d mc ms) {x y : Int32} (hdg : decode cc pc = .ok (.idiv, 1)) (hne : ¬ y = 0) (kk : V X k n (pc + 1) L (.int (x / y) :: st) ws) : V X k n pc L (.int y :: .int x :: st) ws := by
  obtain ⟨p, l, e, R, s, m, args, below, meth, c, D, cy, A, nX, Q⟩ := X
  exact fun H locs ls hP hD hS hl => lv_idiv C.1 C.2.1 hdg hne (kk H locs ls hP hD hS hl)
theorem r_irem (C : Cx X G nL cc own d mc ms) {x y : Int32} (hdg : decode cc pc = .ok (.irem, 1)) (hne : ¬ y = 0) (kk : V X k n (pc + 1) L (.int (x - x / y * y) :: st) ws) : V X k n pc L (.int y :: .int x :: st) ws := by
  obtain ⟨p, l, e, R, s, m, args, below, meth, c, D, cy, A, nX, Q⟩ := X
  exact fun H locs ls hP hD hS hl => lv_irem C.1 C.2.1 hdg hne (kk H locs ls hP hD hS hl)
theorem r_ineg (C : Cx X G nL cc own d mc ms) {x : Int32} (hdg : decode cc pc = .ok (.ineg, 1)) (kk : V X k n (pc + 1) L (.int (-x) :: st) ws) : V X k n pc L (.int x :: st) ws := by
  obtain ⟨p, l, e, R, s, m, args, below, meth, c, D, cy, A, nX, Q⟩ := X
  exact fun H locs ls hP hD hS hl => lv_ineg C.1 C.2.1 hdg (kk H locs ls hP hD hS hl)
theorem r_ishl (C : Cx X G nL cc own d mc ms) {x y : Int32} (hdg : decode cc pc = .ok (.ishl, 1)) (kk : V X k n (pc + 1) L (.int (x <<< (y &&& 31)) :: st) ws) : V X k n pc L (.int y :: .int x :: st) ws := by
  obtain ⟨p, l, e, R, s, m, args, below, meth, c, D, cy, A, nX, Q⟩ := X
  exact fun H locs ls hP hD hS hl => lv_ishl C.1 C.2.1 hdg (kk H locs ls hP hD hS hl)
theorem r_ishr (C : Cx X G nL cc own d mc ms) {x y : Int32} (hdg : decode cc pc = .ok (.ishr, 1)) (kk : V X k n (pc + 1) L (.int (x >>> (y &&& 31)) :: st) ws) : V X k n pc L (.int y :: .int x :: st) ws := by
  obtain ⟨p, l, e, R, s, m, args, below, meth, c, D, cy, A, nX, Q⟩ := X
  exact fun H locs ls hP hD hS hl => lv_ishr C.1 C.2.1 hdg (kk H locs ls hP hD hS hl)
theorem r_i2b (C : Cx X G nL cc own d mc ms) {x : Int32} (hdg : decode cc pc = .ok (.i2b, 1)) (kk : V X k n (pc + 1) L (.int (x.toInt8.toInt32) :: st) ws) : V X k n pc L (.int x :: st) ws := by
  obtain ⟨p, l, e, R, s, m, args, below, meth, c, D, cy, A, nX, Q⟩ := X
  exact fun H locs ls hP hD hS hl => lv_i2b C.1 C.2.1 hdg rfl (kk H locs ls hP hD hS hl)
theorem r_dup (C : Cx X G nL cc own d mc ms) {va : Value} (hdg : decode cc pc = .ok (.dup, 1)) (hva : va.category = 1) (kk : V X k n (pc + 1) L (va :: va :: st) ws) : V X k n pc L (va :: st) ws := by
  obtain ⟨p, l, e, R, s, m, args, below, meth, c, D, cy, A, nX, Q⟩ := X
  exact fun H locs ls hP hD hS hl => lv_dup C.1 C.2.1 hdg hva (kk H locs ls hP hD hS hl)
theorem r_pop (C : Cx X G nL cc own d mc ms) {va : Value} (hdg : decode cc pc = .ok (.pop, 1)) (hva : va.category = 1) (kk : V X k n (pc + 1) L (st) ws) : V X k n pc L (va :: st) ws := by
  obtain ⟨p, l, e, R, s, m, args, below, meth, c, D, cy, A, nX, Q⟩ := X
  exact fun H locs ls hP hD hS hl => lv_pop C.1 C.2.1 hdg hva (kk H locs ls hP hD hS hl)
theorem r_dup_x1 (C : Cx X G nL cc own d mc ms) {va vb : Value} (hdg : decode cc pc = .ok (.dup_x1, 1)) (hva : va.category = 1) (hvb : vb.category = 1) (kk : V X k n (pc + 1) L (va :: vb :: va :: st) ws) : V X k n pc L (va :: vb :: st) ws := by
  obtain ⟨p, l, e, R, s, m, args, below, meth, c, D, cy, A, nX, Q⟩ := X
  exact fun H locs ls hP hD hS hl => lv_dup_x1 C.1 C.2.1 hdg hva hvb (kk H locs ls hP hD hS hl)
theorem r_dup2 (C : Cx X G nL cc own d mc ms) {va vb : Value} (hdg : decode cc pc = .ok (.dup2, 1)) (hva : va.category = 1) (hvb : vb.category = 1) (kk : V X k n (pc + 1) L (va :: vb :: va :: vb :: st) ws) : V X k n pc L (va :: vb :: st) ws := by
  obtain ⟨p, l, e, R, s, m, args, below, meth, c, D, cy, A, nX, Q⟩ := X
  exact fun H locs ls hP hD hS hl => lv_dup2_11 C.1 C.2.1 hdg hva hvb (kk H locs ls hP hD hS hl)
theorem r_if_eq (C : Cx X G nL cc own d mc ms) {x : Int32} {off : Int} {tgt : Nat} (hdg : decode cc pc = .ok (.ifCond .eq off, 3)) (ht : (pc : Int) + off = (tgt : Int)) (kt : x = 0 → V X k n tgt L st ws) (kf : ¬ (x = 0) → V X k n (pc + 3) L st ws) : V X k n pc L (.int x :: st) ws := by
  obtain ⟨p, l, e, R, s, m, args, below, meth, c, D, cy, A, nX, Q⟩ := X
  exact fun H locs ls hP hD hS hl => lv_if_eq C.1 C.2.1 hdg ht (fun h => kt h H locs ls hP hD hS hl) (fun h => kf h H locs ls hP hD hS hl)
theorem r_icmp_eq (C : Cx X G nL cc own d mc ms) {x y : Int32} {off : Int} {tgt : Nat} (hdg : decode cc pc = .ok (.if_icmp .eq off, 3)) (ht : (pc : Int) + off = (tgt : Int)) (kt : x = y → V X k n tgt L st ws) (kf : ¬ (x = y) → V X k n (pc + 3) L st ws) : V X k n pc L (.int y :: .int x :: st) ws := by
  obtain ⟨p, l, e, R, s, m, args, below, meth, c, D, cy, A, nX, Q⟩ := X
  exact fun H locs ls hP hD hS hl => lv_icmp_eq C.1 C.2.1 hdg ht (fun h => kt h H locs ls hP hD hS hl) (fun h => kf h H locs ls hP hD hS hl)
theorem r_if_ne (C : Cx X G nL cc own d mc ms) {x : Int32} {off : Int} {tgt : Nat} (hdg : decode cc pc = .ok (.ifCond .ne off, 3)) (ht : (pc : Int) + off = (tgt : Int)) (kt : ¬ x = 0 → V X k n tgt L st ws) (kf : x = 0 → V X k n (pc + 3) L st ws) : V X k n pc L (.int x :: st) ws := by
  obtain ⟨p, l, e, R, s, m, args, below, meth, c, D, cy, A, nX, Q⟩ := X
  exact fun H locs ls hP hD hS hl => lv_if_ne C.1 C.2.1 hdg ht (fun h => kt h H locs ls hP hD hS hl) (fun h => kf h H locs ls hP hD hS hl)
theorem r_icmp_ne (C : Cx X G nL cc own d mc ms) {x y : Int32} {off : Int} {tgt : Nat} (hdg : decode cc pc = .ok (.if_icmp .ne off, 3)) (ht : (pc : Int) + off = (tgt : Int)) (kt : ¬ x = y → V X k n tgt L st ws) (kf : x = y → V X k n (pc + 3) L st ws) : V X k n pc L (.int y :: .int x :: st) ws := by
  obtain ⟨p, l, e, R, s, m, args, below, meth, c, D, cy, A, nX, Q⟩ := X
  exact fun H locs ls hP hD hS hl => lv_icmp_ne C.1 C.2.1 hdg ht (fun h => kt h H locs ls hP hD hS hl) (fun h => kf h H locs ls hP hD hS hl)
theorem r_if_lt (C : Cx X G nL cc own d mc ms) {x : Int32} {off : Int} {tgt : Nat} (hdg : decode cc pc = .ok (.ifCond .lt off, 3)) (ht : (pc : Int) + off = (tgt : Int)) (kt : x < 0 → V X k n tgt L st ws) (kf : ¬ (x < 0) → V X k n (pc + 3) L st ws) : V X k n pc L (.int x :: st) ws := by
  obtain ⟨p, l, e, R, s, m, args, below, meth, c, D, cy, A, nX, Q⟩ := X
  exact fun H locs ls hP hD hS hl => lv_if_lt C.1 C.2.1 hdg ht (fun h => kt h H locs ls hP hD hS hl) (fun h => kf h H locs ls hP hD hS hl)
theorem r_icmp_lt (C : Cx X G nL cc own d mc ms) {x y : Int32} {off : Int} {tgt : Nat} (hdg : decode cc pc = .ok (.if_icmp .lt off, 3)) (ht : (pc : Int) + off = (tgt : Int)) (kt : x < y → V X k n tgt L st ws) (kf : ¬ (x < y) → V X k n (pc + 3) L st ws) : V X k n pc L (.int y :: .int x :: st) ws := by
  obtain ⟨p, l, e, R, s, m, args, below, meth, c, D, cy, A, nX, Q⟩ := X
  exact fun H locs ls hP hD hS hl => lv_icmp_lt C.1 C.2.1 hdg ht (fun h => kt h H locs ls hP hD hS hl) (fun h => kf h H locs ls hP hD hS hl)
theorem r_if_ge (C : Cx X G nL cc own d mc ms) {x : Int32} {off : Int} {tgt : Nat} (hdg : decode cc pc = .ok (.ifCond .ge off, 3)) (ht : (pc : Int) + off = (tgt : Int)) (kt : 0 ≤ x → V X k n tgt L st ws) (kf : ¬ (0 ≤ x) → V X k n (pc + 3) L st ws) : V X k n pc L (.int x :: st) ws := by
  obtain ⟨p, l, e, R, s, m, args, below, meth, c, D, cy, A, nX, Q⟩ := X
  exact fun H locs ls hP hD hS hl => lv_if_ge C.1 C.2.1 hdg ht (fun h => kt h H locs ls hP hD hS hl) (fun h => kf h H locs ls hP hD hS hl)
theorem r_icmp_ge (C : Cx X G nL cc own d mc ms) {x y : Int32} {off : Int} {tgt : Nat} (hdg : decode cc pc = .ok (.if_icmp .ge off, 3)) (ht : (pc : Int) + off = (tgt : Int)) (kt : y ≤ x → V X k n tgt L st ws) (kf : ¬ (y ≤ x) → V X k n (pc + 3) L st ws) : V X k n pc L (.int y :: .int x :: st) ws := by
  obtain ⟨p, l, e, R, s, m, args, below, meth, c, D, cy, A, nX, Q⟩ := X
  exact fun H locs ls hP hD hS hl => lv_icmp_ge C.1 C.2.1 hdg ht (fun h => kt h H locs ls hP hD hS hl) (fun h => kf h H locs ls hP hD hS hl)
theorem r_if_gt (C : Cx X G nL cc own d mc ms) {x : Int32} {off : Int} {tgt : Nat} (hdg : decode cc pc = .ok (.ifCond .gt off, 3)) (ht : (pc : Int) + off = (tgt : Int)) (kt : 0 < x → V X k n tgt L st ws) (kf : ¬ (0 < x) → V X k n (pc + 3) L st ws) : V X k n pc L (.int x :: st) ws := by
  obtain ⟨p, l, e, R, s, m, args, below, meth, c, D, cy, A, nX, Q⟩ := X
  exact fun H locs ls hP hD hS hl => lv_if_gt C.1 C.2.1 hdg ht (fun h => kt h H locs ls hP hD hS hl) (fun h => kf h H locs ls hP hD hS hl)
theorem r_icmp_gt (C : Cx X G nL cc own d mc ms) {x y : Int32} {off : Int} {tgt : Nat} (hdg : decode cc pc = .ok (.if_icmp .gt off, 3)) (ht : (pc : Int) + off = (tgt : Int)) (kt : y < x → V X k n tgt L st ws) (kf : ¬ (y < x) → V X k n (pc + 3) L st ws) : V X k n pc L (.int y :: .int x :: st) ws := by
  obtain ⟨p, l, e, R, s, m, args, below, meth, c, D, cy, A, nX, Q⟩ := X
  exact fun H locs ls hP hD hS hl => lv_icmp_gt C.1 C.2.1 hdg ht (fun h => kt h H locs ls hP hD hS hl) (fun h => kf h H locs ls hP hD hS hl)
theorem r_if_le (C : Cx X G nL cc own d mc ms) {x : Int32} {off : Int} {tgt : Nat} (hdg : decode cc pc = .ok (.ifCond .le off, 3)) (ht : (pc : Int) + off = (tgt : Int)) (kt : x ≤ 0 → V X k n tgt L st ws) (kf : ¬ (x ≤ 0) → V X k n (pc + 3) L st ws) : V X k n pc L (.int x :: st) ws := by
  obtain ⟨p, l, e, R, s, m, args, below, meth, c, D, cy, A, nX, Q⟩ := X
  exact fun H locs ls hP hD hS hl => lv_if_le C.1 C.2.1 hdg ht (fun h => kt h H locs ls hP hD hS hl) (fun h => kf h H locs ls hP hD hS hl)
theorem r_icmp_le (C : Cx X G nL cc own d mc ms) {x y : Int32} {off : Int} {tgt : Nat} (hdg : decode cc pc = .ok (.if_icmp .le off, 3)) (ht : (pc : Int) + off = (tgt : Int)) (kt : x ≤ y → V X k n tgt L st ws) (kf : ¬ (x ≤ y) → V X k n (pc + 3) L st ws) : V X k n pc L (.int y :: .int x :: st) ws := by
  obtain ⟨p, l, e, R, s, m, args, below, meth, c, D, cy, A, nX, Q⟩ := X
  exact fun H locs ls hP hD hS hl => lv_icmp_le C.1 C.2.1 hdg ht (fun h => kt h H locs ls hP hD hS hl) (fun h => kf h H locs ls hP hD hS hl)
theorem r_goto (C : Cx X G nL cc own d mc ms) {off : Int} {tgt : Nat} (hdg : decode cc pc = .ok (.goto off, 3)) (ht : (pc : Int) + off = (tgt : Int)) (kk : V X k n tgt L st ws) : V X k n pc L st ws := by
  obtain ⟨p, l, e, R, s, m, args, below, meth, c, D, cy, A, nX, Q⟩ := X
  exact fun H locs ls hP hD hS hl => lv_goto C.1 C.2.1 hdg ht (kk H locs ls hP hD hS hl)
end VR
