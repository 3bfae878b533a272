/-! the law's frame -/
/-- the law's own script, outside the world -/
def Scr (X : Fx) (b L : Nat) (xs : Nat → Int32) : Prop := match X with
  | (_, _, _, _, s, _, _, _, _, _, _, _, A, _, _) => va_X b L xs s s.heap ∧ b < s.heap.size ∧ ¬ A b
/-- true is answered -/
def RLw (X : Fx) : Prop := ∀ (k n pc : Nat) (L : List (Option Value)) (ws : va_W), k ≤ 601024 → n ≤ 7293033 → decode code pc = .ok (.ireturn, 1) → V X k n pc L [.int 1] ws
section LK
variable {X : Fx} {G : Gx} {nL : Nat} {cc : ByteArray} {own : String} {d mc ms k n pc : Nat} {L : List (Option Value)} {st : List Value} {ws : va_W}
theorem r_sld (C : Cx X G nL cc own d mc ms) {b Ln j : Nat} {xs : Nat → Int32} {i : Int32} (hS : Scr X b Ln xs) (hi : i = nI j) (hj : j < Ln) (hL : Ln < 2 ^ 31) (hdg : decode cc pc = .ok (.iaload, 1)) (kk : V X k n (pc + 1) L (.int (xs j) :: st) ws) : V X k n pc L (.int i :: .ref b :: st) ws := by
  obtain ⟨p, l, e, R, s, m, args, below, meth, c, D, cy, A, nX, Q⟩ := X
  subst hi
  have hc : (nI j).toNatClampNeg = j := nI_clamp (by omega)
  intro H locs ls hP hD hSS hl
  refine va_sld C.1 C.2.1 hS.1 hS.2.1 hS.2.2 hSS (vp_in_nI hj hL) hdg ?_
  rw [hc]
  exact kk H locs ls hP hD hSS hl
theorem r_slen (C : Cx X G nL cc own d mc ms) {b Ln : Nat} {xs : Nat → Int32} (hS : Scr X b Ln xs) (hdg : decode cc pc = .ok (.arraylength, 1)) (kk : V X k n (pc + 1) L (.int (nI Ln) :: st) ws) : V X k n pc L (.ref b :: st) ws := by
  obtain ⟨p, l, e, R, s, m, args, below, meth, c, D, cy, A, nX, Q⟩ := X
  intro H locs ls hP hD hSS hl
  exact va_slen C.1 C.2.1 hS.1 hS.2.1 hS.2.2 hSS hdg (kk H locs ls hP hD hSS hl)
end LK
theorem arrP {args : Array Value} {s : State} {ty : FieldType} (h : (Cond.arrayClass ty).before args s = true) (hn : ∀ C, ty ≠ .object C) : ∃ cA, ArrOfT s cA ty ∧ va_RA s cA ty := by
  obtain ⟨c, k, comp, h1, h2, h3⟩ := Cond.arrayClass_spec h
  refine ⟨c, fun n z => ⟨fun k h => (by cases h), k, h2, comp, h3⟩, ?_⟩
  cases ty with
  | object C => exact absurd rfl (hn C)
  | _ => exact h1
theorem arrO {args : Array Value} {s : State} {C : String} (h : (Cond.arrayOver (.object C)).before args s = true) : ∃ cA, ArrOfT s cA (.object C) ∧ va_RA s cA (.object C) := by
  obtain ⟨comp, c, k, h1, h2, h3, h4, h5⟩ := Cond.arrayOver_spec h
  exact ⟨c, fun n z => ⟨fun k h => (by cases h), k, h3, comp, h4⟩, k, comp, h3, h4, h1, h5⟩
theorem arrA {args : Array Value} {s : State} {ty : FieldType} (h : (Cond.arrayOver (.array ty)).before args s = true) : ∃ cA, ArrOfT s cA (.array ty) ∧ va_RA s cA (.array ty) := by
  obtain ⟨comp, c, k, h1, h2, h3, h4, h5⟩ := arrayOver_specB h
  exact ⟨c, fun n z => ⟨fun k h => (by cases h), k, h3, comp, h4⟩, h5⟩
theorem law_K {args : Array Value} {s : State} (hts : ∀ w ∈ lw_tbl, w.before args s = true) : ∃ (D : va_G) (cy : Nat → ClassId), va_K D vwCl (tysA cy) s := by
  have hA : ∀ w ∈ ALLW, w.before args s = true := fun w hw => hts w (List.mem_filter.mp hw).1
  obtain ⟨c0, i0, K0⟩ := u_known (C := RX0) (T := TX0) (N := 3) (n := 3) hA inX0 (hts (.instantiable RX0 3) (by decide +kernel))
  obtain ⟨c1, i1, K1⟩ := u_known (C := RX1) (T := TX1) (N := 9) (n := 9) hA inX1 (hts (.instantiable RX1 9) (by decide +kernel))
  obtain ⟨c2, i2, K2⟩ := u_known (C := RX2) (T := TX2) (N := 4) (n := 4) hA inX2 (hts (.instantiable RX2 4) (by decide +kernel))
  obtain ⟨c3, i3, K3⟩ := u_known (C := RX3) (T := TX3) (N := 18) (n := 18) hA inX3 (hts (.instantiable RX3 18) (by decide +kernel))
  obtain ⟨c4, i4, K4⟩ := u_known (C := RX4) (T := TX4) (N := 12) (n := 12) hA inX4 (hts (.instantiable RX4 12) (by decide +kernel))
  obtain ⟨c5, i5, K5⟩ := u_known (C := RX5) (T := TX5) (N := 5) (n := 5) hA inX5 (hts (.instantiable RX5 5) (by decide +kernel))
  obtain ⟨c6, i6, K6⟩ := u_known (C := RX6) (T := TX6) (N := 11) (n := 11) hA inX6 (hts (.instantiable RX6 11) (by decide +kernel))
  obtain ⟨c7, i7, K7⟩ := u_known (C := RX7) (T := TX7) (N := 45) (n := 45) hA inM (hts (.instantiable RX7 45) (by decide +kernel))
  obtain ⟨a0, A0⟩ := arrP (ty := .int) (hts (.arrayClass .int) (by decide +kernel)) (fun _ q => nomatch q)
  obtain ⟨a1, A1⟩ := arrP (ty := .byte) (hts (.arrayClass .byte) (by decide +kernel)) (fun _ q => nomatch q)
  obtain ⟨a2, A2⟩ := arrP (ty := .long) (hts (.arrayClass .long) (by decide +kernel)) (fun _ q => nomatch q)
  obtain ⟨a3, A3⟩ := arrO (C := "PlaitBench$Bundle") (hts (.arrayOver (.object "PlaitBench$Bundle")) (by decide +kernel))
  obtain ⟨a4, A4⟩ := arrO (C := "PlaitBench$Hat") (hts (.arrayOver (.object "PlaitBench$Hat")) (by decide +kernel))
  obtain ⟨a5, A5⟩ := arrO (C := "PlaitBench$Pattern") (hts (.arrayOver (.object "PlaitBench$Pattern")) (by decide +kernel))
  obtain ⟨a6, A6⟩ := arrO (C := "PlaitBench$Score") (hts (.arrayOver (.object "PlaitBench$Score")) (by decide +kernel))
  obtain ⟨a7, A7⟩ := arrA (ty := .int) (hts (.arrayOver (.array .int)) (by decide +kernel))
  refine ⟨(fun k => if k = 0 then c0 else if k = 1 then c1 else if k = 2 then c2 else if k = 3 then c3 else if k = 4 then c4 else if k = 5 then c5 else if k = 6 then c6 else c7, fun k => if k = 0 then i0 else if k = 1 then i1 else if k = 2 then i2 else if k = 3 then i3 else if k = 4 then i4 else if k = 5 then i5 else if k = 6 then i6 else i7), fun k => if k = 0 then a0 else if k = 1 then a1 else if k = 2 then a2 else if k = 3 then a3 else if k = 4 then a4 else if k = 5 then a5 else if k = 6 then a6 else a7, fun k q hq => ?_, fun k q hq => ?_⟩
  · match k, hq with
    | 0, hq => cases hq; exact K0
    | 1, hq => cases hq; exact K1
    | 2, hq => cases hq; exact K2
    | 3, hq => cases hq; exact K3
    | 4, hq => cases hq; exact K4
    | 5, hq => cases hq; exact K5
    | 6, hq => cases hq; exact K6
    | 7, hq => cases hq; exact K7
    | k + 8, hq => cases hq
  · match k, hq with
    | 0, hq => cases hq; exact A0
    | 1, hq => cases hq; exact A1
    | 2, hq => cases hq; exact A2
    | 3, hq => cases hq; exact A3
    | 4, hq => cases hq; exact A4
    | 5, hq => cases hq; exact A5
    | 6, hq => cases hq; exact A6
    | 7, hq => cases hq; exact A7
    | k + 8, hq => cases hq
theorem law_E {b : Nat} {s : State} {l : Launch} (hl0 : l.stackTraces = false) (hts : ∀ w ∈ lw_tbl, w.before #[Value.ref b] s = true) (hgv : (Jvm.Cond.and given_1 narrow_1).before #[Value.ref b] s = true) : EV l (fun q => s.heap.size ≤ q) s s.heap := by
  have hs := flat_of_before _ hgv
  have hA : ∀ a : Nat, a < s.heap.size → ¬ (fun q => s.heap.size ≤ q) a := fun a h q => absurd h (Nat.not_lt.mpr q)
  have str : ∀ (k : Nat) (tx : String), Cond.stringRef "PlaitBench" k tx ∈ lw_tbl → Cond.exactly (.string "PlaitBench" k) "java/lang/String" ∈ flatC (Jvm.Cond.and given_1 narrow_1) → ∃ sa : Nat, vk_R "PlaitBench" k tx sa s := by
    intro k tx h1 h2
    obtain ⟨a, c, cA, kA, q1, -⟩ := Cond.exactly_spec (hs _ h2)
    exact ⟨a, vk_R.of (hts _ h1) q1⟩
  refine ⟨hl0, vx_Zqof (hts _ (by decide +kernel)) (hts (.initialized Bundle.tN) (by decide +kernel)) (hs _ (by decide +kernel)) hA, vx_Zqof (hts _ (by decide +kernel)) (hts (.initialized Bundle.tN) (by decide +kernel)) (hs _ (by decide +kernel)) hA, fun q hq => ?_, ⟨hts (.arrayOver (.object "PlaitBench$Bundle")) (by decide +kernel), hts (.arrayOver (.object "PlaitBench$Hat")) (by decide +kernel), hts (.arrayOver (.object "PlaitBench$Pattern")) (by decide +kernel), hts (.arrayOver (.object "PlaitBench$Score")) (by decide +kernel)⟩, hts (.arrayOver (.array .int)) (by decide +kernel), va_Nw.of rfl (hts _ (by decide +kernel)), va_Nw.of rfl (hts _ (by decide +kernel)), fun y hy => va_Nw.of rfl (hts (.declares y) ?_), va_Nw.of rfl (hts _ (by decide +kernel))⟩
  · have h1 : Cond.stringRef "PlaitBench" q.1 q.2 ∈ lw_tbl := (show ∀ q ∈ strsB, Cond.stringRef "PlaitBench" q.1 q.2 ∈ lw_tbl by decide +kernel) q hq
    have h2 : Cond.exactly (.string "PlaitBench" q.1) "java/lang/String" ∈ flatC (Jvm.Cond.and given_1 narrow_1) := (show ∀ q ∈ strsB, Cond.exactly (.string "PlaitBench" q.1) "java/lang/String" ∈ flatC (Jvm.Cond.and given_1 narrow_1) by decide +kernel) q hq
    exact str q.1 q.2 h1 h2
  · exact (show ∀ y ∈ dclB, Cond.declares y ∈ lw_tbl by decide +kernel) y hy
theorem law_enter {p : Program} {e : Env} {s : State} {m : MethodId} {below : List Frame} {meth : Method} {c : Code} (l : Launch) (hl0 : l.stackTraces = false) {b L : Nat} {xs : Nat → Int32} (C0 : lw_At p s m meth c b L xs)
    (body : ∀ (X : Fx) (G : Gx), Cx X G 7 code RL 11 601024 7293033 → Ev X → Scr X b L xs → RLw X → V X 0 0 0 (ent [.ref b] 7) [] []) : W p l e room_1 s m #[Value.ref b] below meth c s.heap [] 0 0 (lw_Z below #[Value.ref b] s) (entryFrame m ([Value.ref b] : List Value).toArray 7) := by
  obtain ⟨hx, hb, hr, hml, hown, hts, hX, hbl, hlocks, hgv⟩ := id C0
  obtain ⟨Dg, cy, hK⟩ := law_K hts
  have hE := law_E hl0 hts hgv
  rw [lg_entry_eq]
  refine body (p, l, e, room_1, s, m, #[Value.ref b], below, meth, c, Dg, cy, fun q => s.heap.size ≤ q, 7, lw_Z below #[Value.ref b] s) (l, Dg, cy) ⟨hx, hb, rfl, hml, hown, fun w hw => hts w (List.mem_filter.mp hw).1, hK, fun q h => h, hlocks, by decide, by decide, by decide, by decide, rfl, rfl, rfl⟩ hE ⟨hX, hbl, Nat.not_le.mpr hbl⟩ ?_ s.heap [] _ (fun k q h => by simp at h) ⟨fun i j p q h => by simp at h, fun k q h => by simp at h⟩ va_S.rf (ent_lh (fun v hv => by rw [List.mem_singleton.mp hv]; rfl) (Nat.le_of_ble_eq_true rfl))
  intro k n pc L ws hk hn hdg H locs ls hP hD hS hl
  refine va_forget (fun q hq => hS.2.2 q hq) ?_
  exact W.widen hk hn (lw_ret hx hb hr hlocks hdg)
