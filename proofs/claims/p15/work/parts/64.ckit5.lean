/-! calls that take the whole world; lookupswitch of 0 and 1 -/
theorem all_is : ∀ {ws : va_W}, (List.range ws.length).map (fun i => ws[i]?) = ws.map some := by
  intro ws
  apply List.ext_getElem?
  intro i
  rw [List.getElem?_map, List.getElem?_map]
  by_cases hi : i < ws.length
  · rw [List.getElem?_range hi, List.getElem?_eq_getElem hi]
    show some (ws[i]?) = _
    rw [List.getElem?_eq_getElem hi]
    rfl
  · rw [List.getElem?_eq_none (by rw [List.length_range]; omega), List.getElem?_eq_none (l := ws) (by omega)]
    rfl
theorem all_nd {n : Nat} : va_nd (List.range n) = true := nd_of_nodup List.nodup_range
section VC5
variable {X : Fx} {G : Gx} {nL : Nat} {cc : ByteArray} {own : String} {d mc ms k n pc : Nat} {L : List (Option Value)} {st : List Value} {ws : va_W}
theorem a_callVi (C : Cx X G nL cc own d mc ms) {y : MethodName} {b : ByteArray} {nL' idx np : Nat} {rt : FieldType} {d' mc' ms' a : Nat} {As : List Value} {S : Type} {post : Int32 → S → Prop} {wo : S → va_W} (hM : CI G y b nL' rt d' mc' ms' (.ref a :: As) ws post wo) (hI : KV own idx y b nL' (some rt) np) (hdg : decode cc pc = .ok (.invokevirtual idx, 3)) (hnp : As.length = np) (hd : d' + 1 ≤ d) (hk : k + mc' ≤ mc) (hn : n + ms' ≤ ms) (hst : (st.map fun v => v.category).sum ≤ 8) (q0 : Nat) {ci : Nat} {cq : vw_C} {fs : List Value} (he : ws[q0]? = some (a, .inr (ci, fs))) (hci : vwCl[ci]? = some cq) (hcq : cq.1 = y.cls)
    {st0 : List Value} (hs0 : st0 = As.reverse ++ .ref a :: st) (kk : ∀ (r : Int32) (u : S), post r u → V X (k + mc') (n + ms') (pc + 3) L (.int r :: st) (wo u)) : V X k n pc L st0 ws :=
  r_callVi C hM hI hdg hnp hd hk hn hst q0 he hci hcq (List.range ws.length) [] all_nd all_is (wr := []) rfl rfl (fun _ h => absurd h List.not_mem_nil) hs0 kk
theorem a_callVv (C : Cx X G nL cc own d mc ms) {y : MethodName} {b : ByteArray} {nL' idx np : Nat} {d' mc' ms' a : Nat} {As : List Value} {S : Type} {post : S → Prop} {wo : S → va_W} (hM : CV G y b nL' d' mc' ms' (.ref a :: As) ws post wo) (hI : KV own idx y b nL' none np) (hdg : decode cc pc = .ok (.invokevirtual idx, 3)) (hnp : As.length = np) (hd : d' + 1 ≤ d) (hk : k + mc' ≤ mc) (hn : n + ms' ≤ ms) (hst : (st.map fun v => v.category).sum ≤ 8) (q0 : Nat) {ci : Nat} {cq : vw_C} {fs : List Value} (he : ws[q0]? = some (a, .inr (ci, fs))) (hci : vwCl[ci]? = some cq) (hcq : cq.1 = y.cls)
    {st0 : List Value} (hs0 : st0 = As.reverse ++ .ref a :: st) (kk : ∀ (u : S), post u → V X (k + mc') (n + ms') (pc + 3) L st (wo u)) : V X k n pc L st0 ws :=
  r_callVv C hM hI hdg hnp hd hk hn hst q0 he hci hcq (List.range ws.length) [] all_nd all_is (wr := []) rfl rfl (fun _ h => absurd h List.not_mem_nil) hs0 kk
theorem a_callXi (C : Cx X G nL cc own d mc ms) (hE : Ev X) {y : MethodName} {b : ByteArray} {nL' idx np : Nat} {rt : FieldType} {d' mc' ms' a : Nat} {As : List Value} {x : Xp} {S : Type} {post : Int32 → S → Prop} {wo : S → va_W} (hM : XI G y (.code y b nL' (some rt)) d' mc' ms' (.ref a :: As) ws x post wo) (hI : KV own idx y b nL' (some rt) np) (hdg : decode cc pc = .ok (.invokevirtual idx, 3)) (hnp : As.length = np) (hd : d' + 1 ≤ d) (hk : k + mc' ≤ mc) (hn : n + ms' ≤ ms) (hst : (st.map fun v => v.category).sum ≤ 8) (q0 : Nat) {ci : Nat} {cq : vw_C} {fs : List Value} (he : ws[q0]? = some (a, .inr (ci, fs))) (hci : vwCl[ci]? = some cq) (hcq : cq.1 = y.cls)
    {st0 : List Value} (hs0 : st0 = As.reverse ++ .ref a :: st) (kx : x.1 → VX X (k + mc') (n + ms') pc L st x.2.2 x.2.1) (kk : ∀ (r : Int32) (u : S), post r u → V X (k + mc') (n + ms') (pc + 3) L (.int r :: st) (wo u)) : V X k n pc L st0 ws :=
  r_callXi C hE hM hI hdg hnp hd hk hn hst q0 he hci hcq (List.range ws.length) [] all_nd all_is (wr := []) rfl rfl (fun _ h => absurd h List.not_mem_nil) hs0 kx kk
theorem a_callXq (C : Cx X G nL cc own d mc ms) (hE : Ev X) {y : MethodName} {b : ByteArray} {nL' idx np : Nat} {rt : FieldType} {d' mc' ms' a : Nat} {As : List Value} {x : Xp} {S : Type} {post : Option Nat → S → Prop} {wo : S → va_W} (hM : XQ G y (.code y b nL' (some rt)) d' mc' ms' (.ref a :: As) ws x post wo) (hI : KV own idx y b nL' (some rt) np) (hdg : decode cc pc = .ok (.invokevirtual idx, 3)) (hnp : As.length = np) (hd : d' + 1 ≤ d) (hk : k + mc' ≤ mc) (hn : n + ms' ≤ ms) (hst : (st.map fun v => v.category).sum ≤ 8) (q0 : Nat) {ci : Nat} {cq : vw_C} {fs : List Value} (he : ws[q0]? = some (a, .inr (ci, fs))) (hci : vwCl[ci]? = some cq) (hcq : cq.1 = y.cls)
    {st0 : List Value} (hs0 : st0 = As.reverse ++ .ref a :: st) (kx : x.1 → VX X (k + mc') (n + ms') pc L st x.2.2 x.2.1) (kk : ∀ (r : Option Nat) (u : S), post r u → V X (k + mc') (n + ms') (pc + 3) L (va_rf r :: st) (wo u)) : V X k n pc L st0 ws :=
  r_callXq C hE hM hI hdg hnp hd hk hn hst q0 he hci hcq (List.range ws.length) [] all_nd all_is (wr := []) rfl rfl (fun _ h => absurd h List.not_mem_nil) hs0 kx kk
/-- a static call that touches nothing -/
theorem a_callS0 (C : Cx X G nL cc own d mc ms) {y : MethodName} {b : ByteArray} {nL' idx np : Nat} {rt : FieldType} {d' : Nat} {As : List Value} {S : Type} {post : Int32 → S → Prop} (hM : CI G y b nL' rt d' 0 0 As [] (S := S) post (fun _ => [])) (hI : KS own idx y b nL' (some rt) np) (hdg : decode cc pc = .ok (.invokestatic idx, 3)) (hnp : As.length = np) (hd : d' + 1 ≤ d) (hk : k ≤ mc) (hn : n ≤ ms) (hst : (st.map fun v => v.category).sum ≤ 8)
    {st0 : List Value} (hs0 : st0 = As.reverse ++ st) (kk : ∀ (r : Int32) (u : S), post r u → V X k n (pc + 3) L (.int r :: st) ws) : V X k n pc L st0 ws :=
  r_callSi C hM hI hdg hnp hd hk hn hst [] (List.range ws.length) rfl rfl all_is all_nd (fun _ _ h => absurd h List.not_mem_nil) hs0 (fun r u hu => by rw [List.append_nil]; exact kk r u hu)
theorem r_look (C : Cx X G nL cc own d mc ms) {dflt o0 o1 : Int} {len : Nat} {x : Int32} {t0 t1 td : Nat} (hdg : decode cc pc = .ok (.lookupswitch dflt #[(0, o0), (1, o1)], len)) (h0 : (pc : Int) + o0 = (t0 : Int)) (h1 : (pc : Int) + o1 = (t1 : Int)) (hd : (pc : Int) + dflt = (td : Int)) (k0 : x = 0 → V X k n t0 L st ws) (k1 : x = 1 → V X k n t1 L st ws) (kd : x ≠ 0 → x ≠ 1 → V X k n td L st ws) : V X k n pc L (.int x :: st) ws := by
  obtain ⟨p, l, e, R, s, m, args, below, meth, c, D, cy, A, nX, Q⟩ := X
  intro H locs ls hP hD hS hl
  by_cases e0 : x = 0
  · subst e0
    exact lv_lookup C.1 C.2.1 hdg rfl (off := o0) (by simp [Op.lookupswitch.offset]) h0 (k0 rfl H locs ls hP hD hS hl)
  · by_cases e1 : x = 1
    · subst e1
      exact lv_lookup C.1 C.2.1 hdg rfl (off := o1) (by simp [Op.lookupswitch.offset]) h1 (k1 rfl H locs ls hP hD hS hl)
    · have n0 : ¬ x.toInt = 0 := fun q => e0 (Int32.toInt_inj.mp q)
      have n1 : ¬ x.toInt = 1 := fun q => e1 (Int32.toInt_inj.mp q)
      exact lv_lookup C.1 C.2.1 hdg rfl (off := dflt) (by simp [Op.lookupswitch.offset, n0, n1, Ne.symm n0, Ne.symm n1]) hd (kd e0 e1 H locs ls hP hD hS hl)
end VC5
