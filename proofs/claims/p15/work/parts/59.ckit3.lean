/-! the class's kit: more instructions -/
theorem arr_same {U : State} {D : va_G} {tys : List (ClassId × FieldType)} {ty : FieldType} {t0 : Nat} {c1 c2 : ClassId} (h : va_K D vwCl tys U) (h0 : tys[t0]? = some (c1, ty)) (h2 : va_K D vwCl (tys ++ [(c2, ty)]) U) : c2 = c1 := by
  have a1 := (h.2 t0 _ h0).2
  have a2 := (h2.2 tys.length (c2, ty) (by rw [List.getElem?_append_right (Nat.le_refl _), Nat.sub_self]; rfl)).2
  cases ty with
  | object C =>
    obtain ⟨_, _, -, -, -, b1⟩ := a1
    obtain ⟨_, _, -, -, -, b2⟩ := a2
    exact Option.some.inj (b2.symm.trans b1)
  | _ => exact Option.some.inj (a2.symm.trans a1)
section VR3
variable {X : Fx} {G : Gx} {nL : Nat} {cc : ByteArray} {own : String} {d mc ms k n pc : Nat} {L : List (Option Value)} {st : List Value} {ws : va_W}
theorem aw_oinst : Cond.instanceMethod Lib.objectInit ∈ ALLW := aw_in (by decide +kernel) rfl
theorem aw_ocode : Cond.code Lib.objectInit ⟨#[0xb1]⟩ 1 none ∈ ALLW := aw_in (by decide +kernel) rfl
theorem r_objInit (C : Cx X G nL cc own d mc ms) {idx a : Nat} (hl : Cond.methodLink own idx Lib.objectInit ∈ ALLW) (hd : 1 ≤ d) (hst : (st.map fun v => v.category).sum ≤ 8) (hdg : decode cc pc = .ok (.invokespecial idx, 3)) (kk : V X k n (pc + 3) L st ws) : V X k n pc L (.ref a :: st) ws := by
  obtain ⟨p, l, e, R, s, m, args, below, meth, c, D, cy, A, nX, Q⟩ := X
  obtain ⟨hx, hb, rfl, hml, hown, hts, hK, hA, hlocks, hfr, hlo, hce, hsl, hG1, hG2, hG3⟩ := C
  intro H locs ls hP hD hS hl'
  exact W.objInit hx hb hown (hts _ hl) (hts _ aw_oinst) (hts _ aw_ocode) rfl (by rw [hml]; exact hl'.1) rfl hdg (by omega) (by show 2 * 0 + _ + 12 ≤ _; omega) (kk H locs ls hP hD hS hl')
/-- an array of numbers is made -/
theorem r_newi (C : Cx X G nL cc own d mc ms) {N : Nat} {n0 : Int32} (hN : n0 = nI N) (hs : N ≤ 100000) (hk : k + 1 ≤ mc) (hn : n + N ≤ ms) (hdg : decode cc pc = .ok (.newarray .int, 2)) (kk : ∀ q : Nat, V X (k + 1) (n + N) (pc + 2) L (.ref q :: st) (ws ++ [(q, .inl (G.2.2 0, N, .inl (fun _ => 0)))])) : V X k n pc L (.int n0 :: st) ws := by
  obtain ⟨p, l, e, R, s, m, args, below, meth, c, D, cy, A, nX, Q⟩ := X
  obtain ⟨hx, hb, rfl, hml, hown, hts, hK, hA, hlocks, hfr, hlo, hce, hsl, hG1, hG2, hG3⟩ := C
  intro H locs ls hP hD hS hl'
  refine va_newa hx hb (atype := .int) (ty := .int) (a0 := (N, .inl (fun _ => 0))) (N' := N) (hts _ (aw_in (w := .arrayClass .int) (by decide +kernel) rfl)) rfl hK hP hD hS hA (fun cA => by rw [vp_cell_i]; rfl) (by rw [hN]; exact nI_pos (by omega)) (by rw [hN]; exact nI_clamp (by omega)) (by show N * 4 ≤ _; omega) (by omega) (by omega) hdg (fun q cA H1 hK1 hP1 hD1 hS1 => ?_)
  have hcA : cA = cy 0 := arr_same (t0 := 0) hK rfl hK1
  subst hcA
  rw [← hG3] at hP1 hD1
  exact kk q H1 locs ls hP1 hD1 hS1 hl'
theorem r_newb (C : Cx X G nL cc own d mc ms) {N : Nat} {n0 : Int32} (hN : n0 = nI N) (hs : N ≤ 100000) (hk : k + 1 ≤ mc) (hn : n + N ≤ ms) (hdg : decode cc pc = .ok (.newarray .byte, 2)) (kk : ∀ q : Nat, V X (k + 1) (n + N) (pc + 2) L (.ref q :: st) (ws ++ [(q, .inl (G.2.2 1, N, .inl (fun _ => 0)))])) : V X k n pc L (.int n0 :: st) ws := by
  obtain ⟨p, l, e, R, s, m, args, below, meth, c, D, cy, A, nX, Q⟩ := X
  obtain ⟨hx, hb, rfl, hml, hown, hts, hK, hA, hlocks, hfr, hlo, hce, hsl, hG1, hG2, hG3⟩ := C
  intro H locs ls hP hD hS hl'
  refine va_newa hx hb (atype := .byte) (ty := .byte) (a0 := (N, .inl (fun _ => 0))) (N' := N) (hts _ (aw_in (w := .arrayClass .byte) (by decide +kernel) rfl)) rfl hK hP hD hS hA (fun cA => by rw [vp_cell_i]; rfl) (by rw [hN]; exact nI_pos (by omega)) (by rw [hN]; exact nI_clamp (by omega)) (by show N * 1 ≤ _; omega) (by omega) (by omega) hdg (fun q cA H1 hK1 hP1 hD1 hS1 => ?_)
  have hcA : cA = cy 1 := arr_same (t0 := 1) hK rfl hK1
  subst hcA
  rw [← hG3] at hP1 hD1
  exact kk q H1 locs ls hP1 hD1 hS1 hl'
theorem r_newl (C : Cx X G nL cc own d mc ms) {N : Nat} {n0 : Int32} (hN : n0 = nI N) (hs : N ≤ 100000) (hk : k + 1 ≤ mc) (hn : n + N ≤ ms) (hdg : decode cc pc = .ok (.newarray .long, 2)) (kk : ∀ q : Nat, V X (k + 1) (n + N) (pc + 2) L (.ref q :: st) (ws ++ [(q, .inl (G.2.2 2, N, .inr (.inl (fun _ => 0))))])) : V X k n pc L (.int n0 :: st) ws := by
  obtain ⟨p, l, e, R, s, m, args, below, meth, c, D, cy, A, nX, Q⟩ := X
  obtain ⟨hx, hb, rfl, hml, hown, hts, hK, hA, hlocks, hfr, hlo, hce, hsl, hG1, hG2, hG3⟩ := C
  intro H locs ls hP hD hS hl'
  refine va_newa hx hb (atype := .long) (ty := .long) (a0 := (N, .inr (.inl (fun _ => 0)))) (N' := N) (hts _ (aw_in (w := .arrayClass .long) (by decide +kernel) rfl)) rfl hK hP hD hS hA (fun cA => by rw [vp_cell_l]; rfl) (by rw [hN]; exact nI_pos (by omega)) (by rw [hN]; exact nI_clamp (by omega)) (by show N * 8 ≤ _; omega) (by omega) (by omega) hdg (fun q cA H1 hK1 hP1 hD1 hS1 => ?_)
  have hcA : cA = cy 2 := arr_same (t0 := 2) hK rfl hK1
  subst hcA
  rw [← hG3] at hP1 hD1
  exact kk q H1 locs ls hP1 hD1 hS1 hl'
/-- an array of references -/
theorem r_newq (C : Cx X G nL cc own d mc ms) (hE : Ev X) {Cn : String} {t0 idx N : Nat} {n0 : Int32} (ht : (t0 = 3 ∧ Cn = "PlaitBench$Bundle") ∨ (t0 = 4 ∧ Cn = "PlaitBench$Hat") ∨ (t0 = 5 ∧ Cn = "PlaitBench$Pattern") ∨ (t0 = 6 ∧ Cn = "PlaitBench$Score")) (hcl : Cond.classLink own idx Cn ∈ ALLW) (hN : n0 = nI N) (hs : N ≤ 100000) (hk : k + 1 ≤ mc) (hn : n + N ≤ ms) (hdg : decode cc pc = .ok (.anewarray idx, 3)) (kk : ∀ q : Nat, V X (k + 1) (n + N) (pc + 3) L (.ref q :: st) (ws ++ [(q, .inl (G.2.2 t0, N, .inr (.inr (.inr (.inr (fun _ => none))))))])) : V X k n pc L (.int n0 :: st) ws := by
  obtain ⟨p, l, e, R, s, m, args, below, meth, c, D, cy, A, nX, Q⟩ := X
  obtain ⟨hx, hb, rfl, hml, hown, hts, hK, hA, hlocks, hfr, hlo, hce, hsl, hG1, hG2, hG3⟩ := C
  obtain ⟨-, -, -, -, ⟨e1, e2, e3, e4⟩, -⟩ := hE
  intro H locs ls hP hD hS hl'
  have hov : va_AO Cn s := by rcases ht with ⟨-, w⟩ | ⟨-, w⟩ | ⟨-, w⟩ | ⟨-, w⟩ <;> rw [w] <;> assumption
  have h0 : (tysA cy)[t0]? = some (cy t0, .object Cn) := by rcases ht with ⟨w1, w2⟩ | ⟨w1, w2⟩ | ⟨w1, w2⟩ | ⟨w1, w2⟩ <;> rw [w1, w2] <;> rfl
  refine va_newq hx hb hown (hts _ hcl) hov hK hP hD hS hA (N' := N) (by rw [hN]; exact nI_pos (by omega)) (by rw [hN]; exact nI_clamp (by omega)) (by omega) (by omega) (by omega) hdg (fun q cA H1 hK1 hP1 hD1 hS1 => ?_)
  have hcA : cA = cy t0 := arr_same (t0 := t0) hK h0 hK1
  subst hcA
  rw [← hG3] at hP1 hD1
  exact kk q H1 locs ls hP1 hD1 hS1 hl'
/-- an object is made -/
theorem r_new (C : Cx X G nL cc own d mc ms) {ci N idx : Nat} {Cn : String} {T : u_T} {ty : Nat → FieldType} (fs : List Value) (hc : vwCl[ci]? = some (Cn, T, N)) (hin : ∀ w ∈ u_ws Cn T N, w ∈ ALLW) (hty : ∀ k, k < N → parseFieldDescriptor (T k).2.2.1 = some (ty k)) (hcl : Cond.classLink own idx Cn ∈ ALLW) (hins : Cond.instantiable Cn N ∈ ALLW) (hini : Cond.initialized Cn ∈ ALLW) (hfs : ∀ j, j < N → defaultValue (ty j) = vp_V fs j) (hk : k + 1 ≤ mc) (hn : n + N ≤ ms) (hdg : decode cc pc = .ok (.new idx, 3)) (kk : ∀ q : Nat, V X (k + 1) (n + N) (pc + 3) L (.ref q :: st) (ws ++ [(q, .inr (ci, fs))])) : V X k n pc L st ws := by
  obtain ⟨p, l, e, R, s, m, args, below, meth, c, D, cy, A, nX, Q⟩ := X
  obtain ⟨hx, hb, rfl, hml, hown, hts, hK, hA, hlocks, hfr, hlo, hce, hsl, hG1, hG2, hG3⟩ := C
  intro H locs ls hP hD hS hl'
  exact va_new hx hb hts hin ty hty hown (hts _ hcl) (hts _ hins) (hts _ hini) hK hP hD hS hA hc hfs (by omega) (by omega) hdg (fun q H1 hP1 hD1 hS1 => kk q H1 locs ls hP1 hD1 hS1 hl')
/-- a final field is written by the constructor -/
theorem r_putF (C : Cx X G nL cc own d mc ms) (hI : Ini X) {ci N idx a : Nat} {Cn : String} {T : u_T} {fs : List Value} {v : Value} {ty0 : Nat → FieldType} {ty : FieldType} {ws' : va_W} (q0 j : Nat) (he : ws[q0]? = some (a, .inr (ci, fs))) (hc : vwCl[ci]? = some (Cn, T, N)) (hin : ∀ w ∈ u_ws Cn T N, w ∈ ALLW) (hty : ∀ k, k < N → parseFieldDescriptor (T k).2.2.1 = some (ty0 k)) (hnm : ∀ a, a < N → ∀ b, b < N → a ≠ b → (T a).2.1 ≠ (T b).2.1) (hj : j < N) (hl : Cond.fieldLink own idx (T j).1 (T j).2.1 (T j).2.2.1 ∈ ALLW) (hfin : (T j).2.2.2 = true) (hdc : (T j).1 = own) (htj : ty0 j = ty) (hnar : narrow ty v = v) (hfit : fits ty v = true) (hlen : j < fs.length) (hw : ws.set q0 (a, .inr (ci, fs.set j v)) = ws') (hdg : decode cc pc = .ok (.putfield idx, 3)) (kk : V X k n (pc + 3) L st ws') : V X k n pc L (v :: .ref a :: st) ws := by
  obtain ⟨p, l, e, R, s, m, args, below, meth, c, D, cy, A, nX, Q⟩ := X
  obtain ⟨hx, hb, rfl, hml, hown, hts, hK, -⟩ := C
  subst htj; subst hw
  exact fun H locs ls hP hD hS hl' => va_putF hx hb hts hin ty0 hty hnm hown hK hP hD hS q0 he hc j hj (hts _ hl) (fun _ h => h) hfin hI hdc (hty j hj) hnar hfit hlen hdg (fun H1 locs1 hP1 hD1 hS1 => kk H1 locs1 ls hP1 hD1 hS1 hl')
/-- bytes; longs; references -/
theorem r_bald (C : Cx X G nL cc own d mc ms) {a N : Nat} {f : Nat → Int32} {i : Int32} (q0 : Nat) (he : ws[q0]? = some (a, .inl (G.2.2 1, N, .inl f))) (hin : vp_in i N) (hdg : decode cc pc = .ok (.baload, 1)) (kk : V X k n (pc + 1) L (.int (f i.toNatClampNeg) :: st) ws) : V X k n pc L (.int i :: .ref a :: st) ws := by
  obtain ⟨p, l, e, R, s, m, args, below, meth, c, D, cy, A, nX, Q⟩ := X
  obtain ⟨hx, hb, rfl, hml, hown, hts, hK, hA, hlocks, hfr, hlo, hce, hsl, hG1, hG2, hG3⟩ := C
  exact fun H locs ls hP hD hS hl => va_bald hx hb hK hP q0 1 he (by rw [hG3]; rfl) hin hdg (kk H locs ls hP hD hS hl)
theorem r_bast (C : Cx X G nL cc own d mc ms) {a N : Nat} {f : Nat → Int32} {i x : Int32} {ws' : va_W} (q0 : Nat) (he : ws[q0]? = some (a, .inl (G.2.2 1, N, .inl f))) (hin : vp_in i N) (hw : ws.set q0 (a, .inl (G.2.2 1, N, .inl (upd f i.toNatClampNeg (vp_nar .byte x)))) = ws') (hdg : decode cc pc = .ok (.bastore, 1)) (kk : V X k n (pc + 1) L st ws') : V X k n pc L (.int x :: .int i :: .ref a :: st) ws := by
  obtain ⟨p, l, e, R, s, m, args, below, meth, c, D, cy, A, nX, Q⟩ := X
  obtain ⟨hx, hb, rfl, hml, hown, hts, hK, hA, hlocks, hfr, hlo, hce, hsl, hG1, hG2, hG3⟩ := C
  subst hw
  exact fun H locs ls hP hD hS hl => va_bast hx hb hK hP hD hS q0 1 he (by rw [hG3]; rfl) hin hdg (fun H1 locs1 hP1 hD1 hS1 => kk H1 locs1 ls hP1 hD1 hS1 hl)
theorem r_lald (C : Cx X G nL cc own d mc ms) {a N : Nat} {f : Nat → Int64} {i : Int32} (q0 : Nat) (he : ws[q0]? = some (a, .inl (G.2.2 2, N, .inr (.inl f)))) (hin : vp_in i N) (hdg : decode cc pc = .ok (.laload, 1)) (kk : V X k n (pc + 1) L (.long (f i.toNatClampNeg) :: st) ws) : V X k n pc L (.int i :: .ref a :: st) ws := by
  obtain ⟨p, l, e, R, s, m, args, below, meth, c, D, cy, A, nX, Q⟩ := X
  obtain ⟨hx, hb, rfl, hml, hown, hts, hK, hA, hlocks, hfr, hlo, hce, hsl, hG1, hG2, hG3⟩ := C
  exact fun H locs ls hP hD hS hl => va_lald hx hb hK hP q0 2 he (by rw [hG3]; rfl) hin hdg (kk H locs ls hP hD hS hl)
theorem r_last (C : Cx X G nL cc own d mc ms) {a N : Nat} {f : Nat → Int64} {i : Int32} {x : Int64} {ws' : va_W} (q0 : Nat) (he : ws[q0]? = some (a, .inl (G.2.2 2, N, .inr (.inl f)))) (hin : vp_in i N) (hw : ws.set q0 (a, .inl (G.2.2 2, N, .inr (.inl (vp_updL f i.toNatClampNeg x)))) = ws') (hdg : decode cc pc = .ok (.lastore, 1)) (kk : V X k n (pc + 1) L st ws') : V X k n pc L (.long x :: .int i :: .ref a :: st) ws := by
  obtain ⟨p, l, e, R, s, m, args, below, meth, c, D, cy, A, nX, Q⟩ := X
  obtain ⟨hx, hb, rfl, hml, hown, hts, hK, hA, hlocks, hfr, hlo, hce, hsl, hG1, hG2, hG3⟩ := C
  subst hw
  exact fun H locs ls hP hD hS hl => va_last hx hb hK hP hD hS q0 2 he (by rw [hG3]; rfl) hin hdg (fun H1 locs1 hP1 hD1 hS1 => kk H1 locs1 ls hP1 hD1 hS1 hl)
theorem r_aald (C : Cx X G nL cc own d mc ms) {a N t0 : Nat} {Cn : String} {f : Nat → Option Nat} {i : Int32} (q0 : Nat) (ht : ∀ cy, (tysA cy)[t0]? = some (cy t0, .object Cn)) (he : ws[q0]? = some (a, .inl (G.2.2 t0, N, .inr (.inr (.inr (.inr f)))))) (hin : vp_in i N) (hdg : decode cc pc = .ok (.aaload, 1)) (kk : V X k n (pc + 1) L (va_rf (f i.toNatClampNeg) :: st) ws) : V X k n pc L (.int i :: .ref a :: st) ws := by
  obtain ⟨p, l, e, R, s, m, args, below, meth, c, D, cy, A, nX, Q⟩ := X
  obtain ⟨hx, hb, rfl, hml, hown, hts, hK, hA, hlocks, hfr, hlo, hce, hsl, hG1, hG2, hG3⟩ := C
  exact fun H locs ls hP hD hS hl => va_aldq hx hb hK hP q0 t0 he (by rw [hG3]; exact ht _) hin hdg (kk H locs ls hP hD hS hl)
theorem r_aast (C : Cx X G nL cc own d mc ms) {a N t0 ci v : Nat} {r : vw_C} {vs : List Value} {f : Nat → Option Nat} {i : Int32} {ws' : va_W} (q0 qk : Nat) (ht : ∀ cy, (tysA cy)[t0]? = some (cy t0, .object r.1)) (he : ws[q0]? = some (a, .inl (G.2.2 t0, N, .inr (.inr (.inr (.inr f)))))) (hv : ws[qk]? = some (v, .inr (ci, vs))) (hc : vwCl[ci]? = some r) (hin : vp_in i N) (hw : ws.set q0 (a, .inl (G.2.2 t0, N, .inr (.inr (.inr (.inr (va_up f i.toNatClampNeg (some v))))))) = ws') (hdg : decode cc pc = .ok (.aastore, 1)) (kk : V X k n (pc + 1) L st ws') : V X k n pc L (.ref v :: .int i :: .ref a :: st) ws := by
  obtain ⟨p, l, e, R, s, m, args, below, meth, c, D, cy, A, nX, Q⟩ := X
  obtain ⟨hx, hb, rfl, hml, hown, hts, hK, hA, hlocks, hfr, hlo, hce, hsl, hG1, hG2, hG3⟩ := C
  subst hw
  exact fun H locs ls hP hD hS hl => va_astq hx hb hK hP hD hS q0 t0 qk ci he (by rw [hG3]; exact ht _) hv hc hin hdg (fun H1 locs1 hP1 hD1 hS1 => kk H1 locs1 ls hP1 hD1 hS1 hl)
theorem r_alen (C : Cx X G nL cc own d mc ms) {a t0 : Nat} {x : vp_A} {ty : FieldType} (q0 : Nat) (ht : ∀ cy, (tysA cy)[t0]? = some (cy t0, ty)) (he : ws[q0]? = some (a, .inl (G.2.2 t0, x))) (hdg : decode cc pc = .ok (.arraylength, 1)) (kk : V X k n (pc + 1) L (.int (nI x.1) :: st) ws) : V X k n pc L (.ref a :: st) ws := by
  obtain ⟨p, l, e, R, s, m, args, below, meth, c, D, cy, A, nX, Q⟩ := X
  obtain ⟨hx, hb, rfl, hml, hown, hts, hK, hA, hlocks, hfr, hlo, hce, hsl, hG1, hG2, hG3⟩ := C
  exact fun H locs ls hP hD hS hl => va_alen hx hb hK hP q0 t0 he (by rw [hG3]; exact ht _) rfl hdg (kk H locs ls hP hD hS hl)
/-- null -/
theorem r_null (C : Cx X G nL cc own d mc ms) (hdg : decode cc pc = .ok (.aconst_null, 1)) (kk : V X k n (pc + 1) L (.null :: st) ws) : V X k n pc L st ws := by
  obtain ⟨p, l, e, R, s, m, args, below, meth, c, D, cy, A, nX, Q⟩ := X
  exact fun H locs ls hP hD hS hl => lv_null C.1 C.2.1 hdg (kk H locs ls hP hD hS hl)
theorem r_ifnullR (C : Cx X G nL cc own d mc ms) {x : Nat} {off : Int} (hdg : decode cc pc = .ok (.ifnull off, 3)) (kk : V X k n (pc + 3) L st ws) : V X k n pc L (.ref x :: st) ws := by
  obtain ⟨p, l, e, R, s, m, args, below, meth, c, D, cy, A, nX, Q⟩ := X
  exact fun H locs ls hP hD hS hl => lv_ifnull C.1 C.2.1 hdg (kk H locs ls hP hD hS hl)
theorem r_ifnullN (C : Cx X G nL cc own d mc ms) {off : Int} {tgt : Nat} (hdg : decode cc pc = .ok (.ifnull off, 3)) (ht : (pc : Int) + off = (tgt : Int)) (kk : V X k n tgt L st ws) : V X k n pc L (.null :: st) ws := by
  obtain ⟨p, l, e, R, s, m, args, below, meth, c, D, cy, A, nX, Q⟩ := X
  exact fun H locs ls hP hD hS hl => lv_ifnullN C.1 C.2.1 hdg ht (kk H locs ls hP hD hS hl)
theorem r_ifnonnullR (C : Cx X G nL cc own d mc ms) {x : Nat} {off : Int} {tgt : Nat} (hdg : decode cc pc = .ok (.ifnonnull off, 3)) (ht : (pc : Int) + off = (tgt : Int)) (kk : V X k n tgt L st ws) : V X k n pc L (.ref x :: st) ws := by
  obtain ⟨p, l, e, R, s, m, args, below, meth, c, D, cy, A, nX, Q⟩ := X
  exact fun H locs ls hP hD hS hl => lv_ifnonnull C.1 C.2.1 hdg ht (kk H locs ls hP hD hS hl)
theorem r_ifnonnullN (C : Cx X G nL cc own d mc ms) {off : Int} (hdg : decode cc pc = .ok (.ifnonnull off, 3)) (kk : V X k n (pc + 3) L st ws) : V X k n pc L (.null :: st) ws := by
  obtain ⟨p, l, e, R, s, m, args, below, meth, c, D, cy, A, nX, Q⟩ := X
  exact fun H locs ls hP hD hS hl => lv_ifnonnullN C.1 C.2.1 hdg (kk H locs ls hP hD hS hl)
theorem r_aload_nN (C : Cx X G nL cc own d mc ms) {j : Fin 4} {i : Nat} (hdg : decode cc pc = .ok (.aload_n j, 1)) (hi : (j : Nat) = i) (hx : L[i]? = some (some .null)) (kk : V X k n (pc + 1) L (.null :: st) ws) : V X k n pc L (st) ws := by
  obtain ⟨p, l, e, R, s, m, args, below, meth, c, D, cy, A, nX, Q⟩ := X
  exact fun H locs ls hP hD hS hl => lv_aload_nN C.1 C.2.1 hdg hi (lh_at hl hx) (kk H locs ls hP hD hS hl)
theorem r_aloadN (C : Cx X G nL cc own d mc ms) {i : Nat} (hdg : decode cc pc = .ok (.aload i, 2)) (hx : L[i]? = some (some .null)) (kk : V X k n (pc + 2) L (.null :: st) ws) : V X k n pc L (st) ws := by
  obtain ⟨p, l, e, R, s, m, args, below, meth, c, D, cy, A, nX, Q⟩ := X
  exact fun H locs ls hP hD hS hl => lv_aloadN C.1 C.2.1 hdg (lh_at hl hx) (kk H locs ls hP hD hS hl)
theorem r_astore_nN (C : Cx X G nL cc own d mc ms) {j : Fin 4} {i : Nat} (hdg : decode cc pc = .ok (.astore_n j, 1)) (hi : (j : Nat) = i) (hn : i < nL) (kk : V X k n (pc + 1) (L.set i (some .null)) st ws) : V X k n pc L (.null :: st) ws := by
  obtain ⟨p, l, e, R, s, m, args, below, meth, c, D, cy, A, nX, Q⟩ := X
  exact fun H locs ls hP hD hS hl => lv_astore_nN C.1 C.2.1 hdg hi (lh_has hl) (C.2.2.1 ▸ hn) rfl (fun ls1 hl1 => kk H locs ls1 hP hD hS (lh_set hl rfl hl1))
theorem r_astoreN (C : Cx X G nL cc own d mc ms) {i : Nat} (hdg : decode cc pc = .ok (.astore i, 2)) (hn : i < nL) (kk : V X k n (pc + 2) (L.set i (some .null)) st ws) : V X k n pc L (.null :: st) ws := by
  obtain ⟨p, l, e, R, s, m, args, below, meth, c, D, cy, A, nX, Q⟩ := X
  exact fun H locs ls hP hD hS hl => lv_astoreN C.1 C.2.1 hdg (lh_has hl) (C.2.2.1 ▸ hn) rfl (fun ls1 hl1 => kk H locs ls1 hP hD hS (lh_set hl rfl hl1))
/-- Math -/
theorem aw_mini : Cond.initialized "java/lang/Math" ∈ ALLW := aw_in (by decide +kernel) rfl
theorem aw_mmins : Cond.static Lib.Math.min.name ∈ ALLW := aw_in (by decide +kernel) rfl
theorem aw_mminc : Cond.code Lib.Math.min.name Lib.Math.min.code 2 (some .int) ∈ ALLW := aw_in (by decide +kernel) rfl
theorem aw_mmaxs : Cond.static Lib.Math.max.name ∈ ALLW := aw_in (by decide +kernel) rfl
theorem aw_mmaxc : Cond.code Lib.Math.max.name Lib.Math.max.code 2 (some .int) ∈ ALLW := aw_in (by decide +kernel) rfl
theorem aw_mabss : Cond.static Lib.Math.abs.name ∈ ALLW := aw_in (by decide +kernel) rfl
theorem aw_mabsc : Cond.code Lib.Math.abs.name Lib.Math.abs.code 1 (some .int) ∈ ALLW := aw_in (by decide +kernel) rfl
theorem r_mmin (C : Cx X G nL cc own d mc ms) {idx : Nat} {x y : Int32} (hl : Cond.methodLink own idx Lib.Math.min.name ∈ ALLW) (hd : 1 ≤ d) (hk : k ≤ mc) (hn : n ≤ ms) (hst : (st.map fun v => v.category).sum ≤ 8) (hdg : decode cc pc = .ok (.invokestatic idx, 3)) (kk : V X k n (pc + 3) L (.int (if y < x then y else x) :: st) ws) : V X k n pc L (.int y :: .int x :: st) ws := by
  obtain ⟨p, l, e, R, s, m, args, below, meth, c, D, cy, A, nX, Q⟩ := X
  obtain ⟨hx, hb, rfl, hml, hown, hts, hK, hA, hlocks, hfr, hlo, hce, hsl, hG1, hG2, hG3⟩ := C
  exact fun H locs ls hP hD hS hl' => va_mmin hx hb (by rw [hml]; exact hl'.1.symm) hown (hts _ hl) (hts _ aw_mmins) (hts _ aw_mini) (hts _ aw_mminc) (by omega) (by omega) (by omega) (by omega) hdg (kk H locs ls hP hD hS hl')
theorem r_mmax (C : Cx X G nL cc own d mc ms) {idx : Nat} {x y : Int32} (hl : Cond.methodLink own idx Lib.Math.max.name ∈ ALLW) (hd : 1 ≤ d) (hk : k ≤ mc) (hn : n ≤ ms) (hst : (st.map fun v => v.category).sum ≤ 8) (hdg : decode cc pc = .ok (.invokestatic idx, 3)) (kk : V X k n (pc + 3) L (.int (if x < y then y else x) :: st) ws) : V X k n pc L (.int y :: .int x :: st) ws := by
  obtain ⟨p, l, e, R, s, m, args, below, meth, c, D, cy, A, nX, Q⟩ := X
  obtain ⟨hx, hb, rfl, hml, hown, hts, hK, hA, hlocks, hfr, hlo, hce, hsl, hG1, hG2, hG3⟩ := C
  exact fun H locs ls hP hD hS hl' => va_mmax hx hb (by rw [hml]; exact hl'.1.symm) hown (hts _ hl) (hts _ aw_mmaxs) (hts _ aw_mini) (hts _ aw_mmaxc) (by omega) (by omega) (by omega) (by omega) hdg (kk H locs ls hP hD hS hl')
theorem r_mabs (C : Cx X G nL cc own d mc ms) {idx : Nat} {x : Int32} (hl : Cond.methodLink own idx Lib.Math.abs.name ∈ ALLW) (hd : 1 ≤ d) (hk : k ≤ mc) (hn : n ≤ ms) (hst : (st.map fun v => v.category).sum ≤ 8) (hdg : decode cc pc = .ok (.invokestatic idx, 3)) (kk : V X k n (pc + 3) L (.int (if 0 ≤ x then x else 0 - x) :: st) ws) : V X k n pc L (.int x :: st) ws := by
  obtain ⟨p, l, e, R, s, m, args, below, meth, c, D, cy, A, nX, Q⟩ := X
  obtain ⟨hx, hb, rfl, hml, hown, hts, hK, hA, hlocks, hfr, hlo, hce, hsl, hG1, hG2, hG3⟩ := C
  exact fun H locs ls hP hD hS hl' => va_mabs hx hb (by rw [hml]; exact hl'.1.symm) hown (hts _ hl) (hts _ aw_mabss) (hts _ aw_mini) (hts _ aw_mabsc) (by omega) (by omega) (by omega) (by omega) hdg (kk H locs ls hP hD hS hl')
/-- longs -/
theorem r_i2l (C : Cx X G nL cc own d mc ms) {x : Int32} (hdg : decode cc pc = .ok (.i2l, 1)) (kk : V X k n (pc + 1) L (.long x.toInt64 :: st) ws) : V X k n pc L (.int x :: st) ws := by
  obtain ⟨p, l, e, R, s, m, args, below, meth, c, D, cy, A, nX, Q⟩ := X
  exact fun H locs ls hP hD hS hl => lv_i2l C.1 C.2.1 hdg rfl (kk H locs ls hP hD hS hl)
theorem r_lconst (C : Cx X G nL cc own d mc ms) {j : Fin 2} {v : Int64} (hdg : decode cc pc = .ok (.lconst j, 1)) (hv : Int64.ofNat (j : Nat) = v) (kk : V X k n (pc + 1) L (.long v :: st) ws) : V X k n pc L st ws := by
  obtain ⟨p, l, e, R, s, m, args, below, meth, c, D, cy, A, nX, Q⟩ := X
  exact fun H locs ls hP hD hS hl => lv_lconst C.1 C.2.1 hdg hv (kk H locs ls hP hD hS hl)
theorem r_lcmp (C : Cx X G nL cc own d mc ms) {x y : Int64} (hdg : decode cc pc = .ok (.lcmp, 1)) (kk : V X k n (pc + 1) L (.int (lg_cmp x y) :: st) ws) : V X k n pc L (.long y :: .long x :: st) ws := by
  obtain ⟨p, l, e, R, s, m, args, below, meth, c, D, cy, A, nX, Q⟩ := X
  exact fun H locs ls hP hD hS hl => W.lcmp C.1 C.2.1 hdg (kk H locs ls hP hD hS hl)
end VR3
