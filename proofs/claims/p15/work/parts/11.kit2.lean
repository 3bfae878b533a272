/-! contracts, calls, fields and arrays, over V -/
def ent (avs : List Value) (nL : Nat) : List (Option Value) := avs.map some ++ List.replicate (nL - avs.length) none
def Pre (G : Gx) (avs : List Value) (ws : va_W) (sz : Nat) : Array Value → State → Prop := va_Pc avs (fun U => U.heap.size = sz ∧ va_P G.2.1 vwCl ws U.heap ∧ va_K G.2.1 vwCl (tysA G.2.2) U ∧ va_D (fun _ => True) ws)
def Wd (G : Gx) (A : Nat → Prop) (ws : va_W) (t : State) : Prop := va_P G.2.1 vwCl ws t.heap ∧ va_K G.2.1 vwCl (tysA G.2.2) t ∧ va_D A ws
/-- the contract of a method that answers an int (or a truth): from the cells ws, with these arguments -/
def CI (G : Gx) (y : MethodName) (b : ByteArray) (nL : Nat) (rt : FieldType) (d mc ms : Nat) (avs : List Value) (ws : va_W) {S : Type} (post : Int32 → S → Prop) (wo : S → va_W) : Prop :=
  ∀ sz : Nat, Met G.1 y (.code y b nL (some rt) :: ALLW) ({ frames := d, cells := mc, slots := ms, locals := 35 * d } : Room) (Pre G avs ws sz) (va_Qi post (fun u t => Wd G (va_A ws sz) (wo u) t) (va_A ws sz)) mc ms (va_A ws sz)
/-- .. that answers nothing -/
def CV (G : Gx) (y : MethodName) (b : ByteArray) (nL : Nat) (d mc ms : Nat) (avs : List Value) (ws : va_W) {S : Type} (post : S → Prop) (wo : S → va_W) : Prop :=
  ∀ sz : Nat, Met G.1 y (.code y b nL none :: ALLW) ({ frames := d, cells := mc, slots := ms, locals := 35 * d } : Room) (Pre G avs ws sz) (va_Qv post (fun u t => Wd G (va_A ws sz) (wo u) t) (va_A ws sz)) mc ms (va_A ws sz)
def RI (X : Fx) (cc : ByteArray) (rt : FieldType) (mc ms : Nat) {S : Type} (post : Int32 → S → Prop) (wo : S → va_W) : Prop :=
  ∀ (k n pc : Nat) (L : List (Option Value)) (v : Int32) (u : S), k ≤ mc → n ≤ ms → narrow rt (.int v) = .int v → post v u → decode cc pc = .ok (.ireturn, 1) → V X k n pc L [.int v] (wo u)
def RV (X : Fx) (cc : ByteArray) (mc ms : Nat) {S : Type} (post : S → Prop) (wo : S → va_W) : Prop :=
  ∀ (k n pc : Nat) (L : List (Option Value)) (u : S), k ≤ mc → n ≤ ms → post u → decode cc pc = .ok (.return_, 1) → V X k n pc L [] (wo u)
theorem ent_sl {avs : List Value} (h : ∀ v ∈ avs, v.category = 1) : lg_sl avs = avs.map Slot.val := by
  unfold lg_sl
  induction avs with
  | nil => rfl
  | cons v vs ih =>
    rw [List.flatMap_cons, ih (fun w hw => h w (List.mem_cons_of_mem _ hw)), h v List.mem_cons_self]
    rfl
theorem ent_lh {avs : List Value} {nL : Nat} (h : ∀ v ∈ avs, v.category = 1) (hn : avs.length ≤ nL) : lh ((lg_sl avs ++ List.replicate (nL - (lg_sl avs).length) Slot.unset).toArray) nL (ent avs nL) := by
  have hs := ent_sl h
  have hl : (lg_sl avs).length ≤ nL := by rw [hs, List.length_map]; exact hn
  have he := lv_entry avs hl
  refine ⟨he.1, he.2.1, fun i v hi => ?_⟩
  unfold ent at hi
  by_cases hlt : i < avs.length
  · rw [List.getElem?_append_left (by rw [List.length_map]; exact hlt), List.getElem?_map] at hi
    have hv : avs[i]? = some v := by
      cases hq : avs[i]? with
      | none => rw [hq] at hi; cases hi
      | some w => rw [hq] at hi; simpa using hi
    refine ⟨?_, h v (List.mem_of_getElem? hv)⟩
    rw [hs, List.getElem?_toArray, List.getElem?_append_left (by rw [List.length_map]; exact hlt), List.getElem?_map, hv]
    rfl
  · rw [List.getElem?_append_right (by rw [List.length_map]; omega), List.getElem?_replicate] at hi
    split at hi
    · cases hi
    · cases hi
theorem CI.intro {G : Gx} {y : MethodName} {b : ByteArray} {nL : Nat} {rt : FieldType} {d mc ms : Nat} {avs : List Value} {ws : va_W} {S : Type} {post : Int32 → S → Prop} {wo : S → va_W} (hy : plainName y.cls = true) (hn : avs.length ≤ nL) (hc : ∀ v ∈ avs, v.category = 1)
    (body : ∀ X : Fx, Cx X G nL b y.cls d mc ms → RI X b rt mc ms post wo → V X 0 0 0 (ent avs nL) [] ws) : CI G y b nL rt d mc ms avs ws post wo := by
  intro sz
  refine Met.ofW (cc := b) (maxL := nL) (ret := some rt) hy rfl ?_
  intro p e s m args below meth c s₁ B hml hv
  obtain ⟨rfl, hsz, hP, hK, hD0⟩ := hv
  have hts := atoms_spec (ws := (.code y b nL (some rt) :: ALLW)) B.pre
  have hown : s.vm.findClass y.cls = some m.cls := findClass_of_methodNamed B.named
  have hlocks := B.notSynchronized
  have hr := B.returns
  have hb := B.bytes
  have hx := B.exec
  subst hsz
  rw [lg_entry_eq]
  refine body (p, G.1, e, _, s, m, _, below, meth, c, G.2.1, G.2.2, va_A ws s.heap.size, nL, _) ⟨hx, hb, rfl, hml, hown, fun w hw => hts w (List.mem_cons_of_mem _ hw), hK, fun q h => Or.inr h, hlocks, Nat.le_refl _, Nat.le_refl _, Nat.le_refl _, Nat.le_refl _, rfl, rfl, rfl⟩ ?_ s.heap [] _ hP hD0.self va_S.rf (ent_lh hc hn)
  intro k n pc L v u hk hn' hnar hp hdg H locs ls hP hD hS hl
  refine W.widen hk hn' ?_
  exact W.zret (v := v) (ty := rt) hx hb hr hnar (fun t ht hW => ⟨⟨v, u, rfl, hp, by rw [ht]; exact hP, va_K.moved hW.alike hK, hD⟩, hS.F ht⟩) hS.2.2 hdg
theorem CV.intro {G : Gx} {y : MethodName} {b : ByteArray} {nL : Nat} {d mc ms : Nat} {avs : List Value} {ws : va_W} {S : Type} {post : S → Prop} {wo : S → va_W} (hy : plainName y.cls = true) (hn : avs.length ≤ nL) (hc : ∀ v ∈ avs, v.category = 1)
    (body : ∀ X : Fx, Cx X G nL b y.cls d mc ms → RV X b mc ms post wo → V X 0 0 0 (ent avs nL) [] ws) : CV G y b nL d mc ms avs ws post wo := by
  intro sz
  refine Met.ofW (cc := b) (maxL := nL) (ret := none) hy rfl ?_
  intro p e s m args below meth c s₁ B hml hv
  obtain ⟨rfl, hsz, hP, hK, hD0⟩ := hv
  have hts := atoms_spec (ws := (.code y b nL none :: ALLW)) B.pre
  have hown : s.vm.findClass y.cls = some m.cls := findClass_of_methodNamed B.named
  have hlocks := B.notSynchronized
  have hr := B.returns
  have hb := B.bytes
  have hx := B.exec
  subst hsz
  rw [lg_entry_eq]
  refine body (p, G.1, e, _, s, m, _, below, meth, c, G.2.1, G.2.2, va_A ws s.heap.size, nL, _) ⟨hx, hb, rfl, hml, hown, fun w hw => hts w (List.mem_cons_of_mem _ hw), hK, fun q h => Or.inr h, hlocks, Nat.le_refl _, Nat.le_refl _, Nat.le_refl _, Nat.le_refl _, rfl, rfl, rfl⟩ ?_ s.heap [] _ hP hD0.self va_S.rf (ent_lh hc hn)
  intro k n pc L u hk hn' hp hdg H locs ls hP hD hS hl
  refine W.widen hk hn' ?_
  exact W.vret hx hb hr (fun t ht hW => ⟨⟨u, rfl, hp, by rw [ht]; exact hP, va_K.moved hW.alike hK, hD⟩, hS.F ht⟩) hS.2.2 hdg
/-- the words of a call, all among ALLW -/
def KV (own : String) (idx : Nat) (y : MethodName) (b : ByteArray) (nL : Nat) (ret : Option FieldType) (np : Nat) : Prop :=
  Cond.methodLink own idx y ∈ ALLW ∧ Cond.instanceMethod y ∈ ALLW ∧ Cond.selects y.cls y y ∈ ALLW ∧ Cond.initialized y.cls ∈ ALLW ∧ Cond.code y b nL ret ∈ ALLW ∧ (y.cls = y.cls ∧ y.cls ≠ "java/lang/invoke/MethodHandle" ∧ y.cls ≠ "java/lang/invoke/VarHandle" ∧ (parseMethodDescriptor y.desc).map (fun d => d.parameters.length) = some np) ∧ nL ≤ 16
def KS (own : String) (idx : Nat) (y : MethodName) (b : ByteArray) (nL : Nat) (ret : Option FieldType) (np : Nat) : Prop :=
  Cond.methodLink own idx y ∈ ALLW ∧ Cond.static y ∈ ALLW ∧ Cond.initialized own ∈ ALLW ∧ Cond.code y b nL ret ∈ ALLW ∧ (y.cls = own ∧ y.cls ≠ "java/lang/invoke/MethodHandle" ∧ y.cls ≠ "java/lang/invoke/VarHandle" ∧ (parseMethodDescriptor y.desc).map (fun d => d.parameters.length) = some np) ∧ nL ≤ 16
theorem KV.good {own : String} {idx : Nat} {y : MethodName} {b : ByteArray} {nL : Nat} {ret : Option FieldType} {np : Nat} (h : KV own idx y b nL ret np) : GoodIn ALLW (wsV own idx y.cls y (.code y b nL ret :: ALLW)) := by
  have g : GoodIn ALLW ALLW := aw_good (fun _ h => h)
  intro w hw
  unfold wsV at hw
  rcases List.mem_append.mp hw with q | q
  · simp only [List.mem_cons, List.not_mem_nil, or_false] at q
    rcases q with q | q | q | q
    · exact q ▸ g _ h.1
    · exact q ▸ g _ h.2.1
    · exact q ▸ g _ h.2.2.1
    · exact q ▸ g _ h.2.2.2.1
  · rcases List.mem_cons.mp q with q | q
    · exact q ▸ g _ h.2.2.2.2.1
    · exact g _ q
theorem KS.good {own : String} {idx : Nat} {y : MethodName} {b : ByteArray} {nL : Nat} {ret : Option FieldType} {np : Nat} (h : KS own idx y b nL ret np) : GoodIn ALLW (wsS own idx y (.code y b nL ret :: ALLW)) := by
  have g : GoodIn ALLW ALLW := aw_good (fun _ h => h)
  intro w hw
  unfold wsS at hw
  rcases List.mem_append.mp hw with q | q
  · simp only [List.mem_cons, List.not_mem_nil, or_false] at q
    rcases q with q | q | q
    · exact q ▸ g _ h.1
    · exact q ▸ g _ h.2.1
    · exact q ▸ g _ h.2.2.1
  · rcases List.mem_cons.mp q with q | q
    · exact q ▸ g _ h.2.2.2.1
    · exact g _ q
theorem map_filter_some {ws wc : va_W} {is : List Nat} (h : is.map (fun i => ws[i]?) = wc.map some) : is.filterMap (fun i => ws[i]?) = wc := by
  have h2 : (is.map (fun i => ws[i]?)).filterMap id = (wc.map some).filterMap id := by rw [h]
  rw [List.filterMap_map, List.filterMap_map] at h2
  simpa [Function.comp_def] using h2
section VC
variable {X : Fx} {G : Gx} {nL : Nat} {cc : ByteArray} {own : String} {d mc ms k n pc : Nat} {L : List (Option Value)} {st : List Value} {ws : va_W}
theorem r_callVi (C : Cx X G nL cc own d mc ms) {y : MethodName} {b : ByteArray} {nL' idx np : Nat} {rt : FieldType} {d' mc' ms' a : Nat} {As : List Value} {wc wr : va_W} {S : Type} {post : Int32 → S → Prop} {wo : S → va_W} (hM : CI G y b nL' rt d' mc' ms' (.ref a :: As) wc post wo) (hI : KV own idx y b nL' (some rt) np) (hdg : decode cc pc = .ok (.invokevirtual idx, 3)) (hnp : As.length = np) (hd : d' + 1 ≤ d) (hk : k + mc' ≤ mc) (hn : n + ms' ≤ ms) (hst : (st.map fun v => v.category).sum ≤ 8) (q0 : Nat) {ci : Nat} {cq : vw_C} {fs : List Value} (he : wc[q0]? = some (a, .inr (ci, fs))) (hci : vwCl[ci]? = some cq) (hcq : cq.1 = y.cls) (isC isR : List Nat) (hnC : va_nd isC = true) (hC : isC.map (fun i => ws[i]?) = wc.map some) (hR : isR.map (fun i => ws[i]?) = wr.map some) (hnR : va_nd isR = true) (hdis : ∀ i ∈ isR, i ∉ isC)
    {st0 : List Value} (hs0 : st0 = As.reverse ++ .ref a :: st) (kk : ∀ (r : Int32) (u : S), post r u → V X (k + mc') (n + ms') (pc + 3) L (.int r :: st) (wr ++ wo u)) : V X k n pc L st0 ws := by
  subst hs0
  obtain ⟨p, l, e, R, s, m, args, below, meth, c, D, cy, A, nX, Q⟩ := X
  obtain ⟨hx, hb, rfl, hml, hown, hts, hK, hA, hlocks, hfr, hlo, hce, hsl, hG1, hG2, hG3⟩ := C
  obtain ⟨l', D', cy'⟩ := G
  dsimp only at hG1 hG2 hG3
  subst hG1; subst hG2; subst hG3
  intro H locs ls hP hD hS hl
  have hPc := hP.sub isC (map_filter_some hC)
  have hDc := hD.sub isC hnC hC
  have hFc := va_free (wc := wc) hD hS hA isC hC
  have h16 := hI.2.2.2.2.2.2
  refine va_calli (va_runV (As := As) (rest := st) (Ts := ALLW) ⟨hx, hb, hml, hown, hts⟩ (hM H.size) (cwV np hts hI.good rfl rfl rfl hI.2.2.2.2.2.1 ⟨by show d' + 1 ≤ _; omega, by show _ + 35 * d' ≤ _; omega⟩) ⟨fun a U g mk q => ?_, ?_, fun U hU hW => ⟨rfl, by rw [hU], by rw [hU]; exact hPc, va_K.moved hW.alike hK, hDc.weaken (fun _ _ _ _ => trivial)⟩⟩ rfl hnp hl.1 rfl (lv_room hst) hdg ⟨by omega, by omega⟩) hS (fun q _ h => hFc q h) hFc (fun r u t H1 locs1 ht hvm hw hB hz1 hk1 hS1 => ?_)
  · obtain ⟨q0, q1, qP, qK, qD⟩ := q
    exact ⟨q0, q1, qP, va_K.moved (u := U) (U := U.calling g mk a) (Vm.Alike.refl U.vm) qK, qD⟩
  · have hrc := va_recv hK hPc (q := cq) hci he
    rw [hcq] at hrc
    exact hrc
  · obtain ⟨hP1, hK1, hD1⟩ := hB
    rw [ht] at hP1
    obtain ⟨hP2, hD2⟩ := va_join (wr := wr) (w1 := wo u) hP hD isC isR hC hR hnR hdis hk1 hFc hP1 hD1
    exact kk r u hw H1 locs1 ls hP2 hD2 hS1 hl
theorem r_callVv (C : Cx X G nL cc own d mc ms) {y : MethodName} {b : ByteArray} {nL' idx np : Nat} {d' mc' ms' a : Nat} {As : List Value} {wc wr : va_W} {S : Type} {post : S → Prop} {wo : S → va_W} (hM : CV G y b nL' d' mc' ms' (.ref a :: As) wc post wo) (hI : KV own idx y b nL' none np) (hdg : decode cc pc = .ok (.invokevirtual idx, 3)) (hnp : As.length = np) (hd : d' + 1 ≤ d) (hk : k + mc' ≤ mc) (hn : n + ms' ≤ ms) (hst : (st.map fun v => v.category).sum ≤ 8) (q0 : Nat) {ci : Nat} {cq : vw_C} {fs : List Value} (he : wc[q0]? = some (a, .inr (ci, fs))) (hci : vwCl[ci]? = some cq) (hcq : cq.1 = y.cls) (isC isR : List Nat) (hnC : va_nd isC = true) (hC : isC.map (fun i => ws[i]?) = wc.map some) (hR : isR.map (fun i => ws[i]?) = wr.map some) (hnR : va_nd isR = true) (hdis : ∀ i ∈ isR, i ∉ isC)
    {st0 : List Value} (hs0 : st0 = As.reverse ++ .ref a :: st) (kk : ∀ (u : S), post u → V X (k + mc') (n + ms') (pc + 3) L st (wr ++ wo u)) : V X k n pc L st0 ws := by
  subst hs0
  obtain ⟨p, l, e, R, s, m, args, below, meth, c, D, cy, A, nX, Q⟩ := X
  obtain ⟨hx, hb, rfl, hml, hown, hts, hK, hA, hlocks, hfr, hlo, hce, hsl, hG1, hG2, hG3⟩ := C
  obtain ⟨l', D', cy'⟩ := G
  dsimp only at hG1 hG2 hG3
  subst hG1; subst hG2; subst hG3
  intro H locs ls hP hD hS hl
  have hPc := hP.sub isC (map_filter_some hC)
  have hDc := hD.sub isC hnC hC
  have hFc := va_free (wc := wc) hD hS hA isC hC
  have h16 := hI.2.2.2.2.2.2
  refine va_callv (va_runV (As := As) (rest := st) (Ts := ALLW) ⟨hx, hb, hml, hown, hts⟩ (hM H.size) (cwV np hts hI.good rfl rfl rfl hI.2.2.2.2.2.1 ⟨by show d' + 1 ≤ _; omega, by show _ + 35 * d' ≤ _; omega⟩) ⟨fun a U g mk q => ?_, ?_, fun U hU hW => ⟨rfl, by rw [hU], by rw [hU]; exact hPc, va_K.moved hW.alike hK, hDc.weaken (fun _ _ _ _ => trivial)⟩⟩ rfl hnp hl.1 rfl (lv_room hst) hdg ⟨by omega, by omega⟩) hS (fun q _ h => hFc q h) hFc (fun u t H1 locs1 ht hvm hw hB hz1 hk1 hS1 => ?_)
  · obtain ⟨q0, q1, qP, qK, qD⟩ := q
    exact ⟨q0, q1, qP, va_K.moved (u := U) (U := U.calling g mk a) (Vm.Alike.refl U.vm) qK, qD⟩
  · have hrc := va_recv hK hPc (q := cq) hci he
    rw [hcq] at hrc
    exact hrc
  · obtain ⟨hP1, hK1, hD1⟩ := hB
    rw [ht] at hP1
    obtain ⟨hP2, hD2⟩ := va_join (wr := wr) (w1 := wo u) hP hD isC isR hC hR hnR hdis hk1 hFc hP1 hD1
    exact kk u hw H1 locs1 ls hP2 hD2 hS1 hl
theorem r_callSi (C : Cx X G nL cc own d mc ms) {y : MethodName} {b : ByteArray} {nL' idx np : Nat} {rt : FieldType} {d' mc' ms' : Nat} {As : List Value} {wc wr : va_W} {S : Type} {post : Int32 → S → Prop} {wo : S → va_W} (hM : CI G y b nL' rt d' mc' ms' As wc post wo) (hI : KS own idx y b nL' (some rt) np) (hdg : decode cc pc = .ok (.invokestatic idx, 3)) (hnp : As.length = np) (hd : d' + 1 ≤ d) (hk : k + mc' ≤ mc) (hn : n + ms' ≤ ms) (hst : (st.map fun v => v.category).sum ≤ 8) (isC isR : List Nat) (hnC : va_nd isC = true) (hC : isC.map (fun i => ws[i]?) = wc.map some) (hR : isR.map (fun i => ws[i]?) = wr.map some) (hnR : va_nd isR = true) (hdis : ∀ i ∈ isR, i ∉ isC)
    {st0 : List Value} (hs0 : st0 = As.reverse ++ st) (kk : ∀ (r : Int32) (u : S), post r u → V X (k + mc') (n + ms') (pc + 3) L (.int r :: st) (wr ++ wo u)) : V X k n pc L st0 ws := by
  subst hs0
  obtain ⟨p, l, e, R, s, m, args, below, meth, c, D, cy, A, nX, Q⟩ := X
  obtain ⟨hx, hb, rfl, hml, hown, hts, hK, hA, hlocks, hfr, hlo, hce, hsl, hG1, hG2, hG3⟩ := C
  obtain ⟨l', D', cy'⟩ := G
  dsimp only at hG1 hG2 hG3
  subst hG1; subst hG2; subst hG3
  intro H locs ls hP hD hS hl
  have hPc := hP.sub isC (map_filter_some hC)
  have hDc := hD.sub isC hnC hC
  have hFc := va_free (wc := wc) hD hS hA isC hC
  have h16 := hI.2.2.2.2.2
  refine va_calli (va_runS (As := As) (rest := st) (Ts := ALLW) ⟨hx, hb, hml, hown, hts⟩ (hM H.size) (cwS np hts hI.good rfl rfl rfl hI.2.2.2.2.1 ⟨by show d' + 1 ≤ _; omega, by show _ + 35 * d' ≤ _; omega⟩) ⟨fun a U g mk q => ?_, fun U hU hW => ⟨rfl, by rw [hU], by rw [hU]; exact hPc, va_K.moved hW.alike hK, hDc.weaken (fun _ _ _ _ => trivial)⟩⟩ rfl hnp hl.1 rfl (lv_room hst) hdg ⟨by omega, by omega⟩) hS (fun q _ h => hFc q h) hFc (fun r u t H1 locs1 ht hvm hw hB hz1 hk1 hS1 => ?_)
  · obtain ⟨q0, q1, qP, qK, qD⟩ := q
    exact ⟨q0, q1, qP, va_K.moved (u := U) (U := U.calling g mk a) (Vm.Alike.refl U.vm) qK, qD⟩
  · obtain ⟨hP1, hK1, hD1⟩ := hB
    rw [ht] at hP1
    obtain ⟨hP2, hD2⟩ := va_join (wr := wr) (w1 := wo u) hP hD isC isR hC hR hnR hdis hk1 hFc hP1 hD1
    exact kk r u hw H1 locs1 ls hP2 hD2 hS1 hl
/-- a field is read -/
theorem r_get (C : Cx X G nL cc own d mc ms) {ci N idx a : Nat} {Cn : String} {T : u_T} {fs : List Value} {v : Value} (q0 j : Nat) (he : ws[q0]? = some (a, .inr (ci, fs))) (hc : vwCl[ci]? = some (Cn, T, N)) (hin : ∀ w ∈ u_ws Cn T N, w ∈ ALLW) (hj : j < N) (hl : Cond.fieldLink own idx (T j).1 (T j).2.1 (T j).2.2.1 ∈ ALLW) (hv : fs[j]? = some v) (hdg : decode cc pc = .ok (.getfield idx, 3)) (kk : V X k n (pc + 3) L (v :: st) ws) : V X k n pc L (.ref a :: st) ws := by
  obtain ⟨p, l, e, R, s, m, args, below, meth, c, D, cy, A, nX, Q⟩ := X
  obtain ⟨hx, hb, rfl, hml, hown, hts, hK, -⟩ := C
  exact fun H locs ls hP hD hS hl' => va_get hx hb hts hin hown hK hP q0 he hc j hj (hts _ hl) (fun _ h => h) hv hdg (kk H locs ls hP hD hS hl')
/-- a field that isn't final is written -/
theorem r_put (C : Cx X G nL cc own d mc ms) {ci N idx a : Nat} {Cn : String} {T : u_T} {fs : List Value} {v : Value} {ty0 : Nat → FieldType} {ty : FieldType} {ws' : va_W} (q0 j : Nat) (he : ws[q0]? = some (a, .inr (ci, fs))) (hc : vwCl[ci]? = some (Cn, T, N)) (hin : ∀ w ∈ u_ws Cn T N, w ∈ ALLW) (hty : ∀ k, k < N → parseFieldDescriptor (T k).2.2.1 = some (ty0 k)) (hnm : ∀ a, a < N → ∀ b, b < N → a ≠ b → (T a).2.1 ≠ (T b).2.1) (hj : j < N) (hl : Cond.fieldLink own idx (T j).1 (T j).2.1 (T j).2.2.1 ∈ ALLW) (hfin : (T j).2.2.2 = false) (htj : ty0 j = ty) (hnar : narrow ty v = v) (hfit : fits ty v = true) (hlen : j < fs.length) (hw : ws.set q0 (a, .inr (ci, fs.set j v)) = ws') (hdg : decode cc pc = .ok (.putfield idx, 3)) (kk : V X k n (pc + 3) L st ws') : V X k n pc L (v :: .ref a :: st) ws := by
  obtain ⟨p, l, e, R, s, m, args, below, meth, c, D, cy, A, nX, Q⟩ := X
  obtain ⟨hx, hb, rfl, hml, hown, hts, hK, -⟩ := C
  subst htj; subst hw
  exact fun H locs ls hP hD hS hl' => va_put hx hb hts hin ty0 hty hnm hown hK hP hD hS q0 he hc j hj (hts _ hl) (fun _ h => h) hfin (hty j hj) hnar hfit hlen hdg (fun H1 locs1 hP1 hD1 hS1 => kk H1 locs1 ls hP1 hD1 hS1 hl')
/-- an int array is read, is written -/
theorem r_iald (C : Cx X G nL cc own d mc ms) {a N : Nat} {f : Nat → Int32} {i : Int32} (q0 : Nat) (he : ws[q0]? = some (a, .inl (G.2.2 0, N, .inl f))) (hin : vp_in i N) (hdg : decode cc pc = .ok (.iaload, 1)) (kk : V X k n (pc + 1) L (.int (f i.toNatClampNeg) :: st) ws) : V X k n pc L (.int i :: .ref a :: st) ws := by
  obtain ⟨p, l, e, R, s, m, args, below, meth, c, D, cy, A, nX, Q⟩ := X
  obtain ⟨hx, hb, rfl, hml, hown, hts, hK, hA, hlocks, hfr, hlo, hce, hsl, hG1, hG2, hG3⟩ := C
  exact fun H locs ls hP hD hS hl => va_iald hx hb hK hP q0 0 he (by rw [hG3]; rfl) hin hdg (kk H locs ls hP hD hS hl)
theorem r_iast (C : Cx X G nL cc own d mc ms) {a N : Nat} {f : Nat → Int32} {i x : Int32} {ws' : va_W} (q0 : Nat) (he : ws[q0]? = some (a, .inl (G.2.2 0, N, .inl f))) (hin : vp_in i N) (hw : ws.set q0 (a, .inl (G.2.2 0, N, .inl (upd f i.toNatClampNeg x))) = ws') (hdg : decode cc pc = .ok (.iastore, 1)) (kk : V X k n (pc + 1) L st ws') : V X k n pc L (.int x :: .int i :: .ref a :: st) ws := by
  obtain ⟨p, l, e, R, s, m, args, below, meth, c, D, cy, A, nX, Q⟩ := X
  obtain ⟨hx, hb, rfl, hml, hown, hts, hK, hA, hlocks, hfr, hlo, hce, hsl, hG1, hG2, hG3⟩ := C
  subst hw
  exact fun H locs ls hP hD hS hl => va_iast hx hb hK hP hD hS q0 0 he (by rw [hG3]; rfl) hin hdg (fun H1 locs1 hP1 hD1 hS1 => kk H1 locs1 ls hP1 hD1 hS1 hl)
end VC
