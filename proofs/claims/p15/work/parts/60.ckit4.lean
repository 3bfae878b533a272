/-! the class's kit: constructors that need what stands around; new int[8][8]; copies; a world's tail -/
def CVE (G : Gx) (y : MethodName) (b : ByteArray) (nL : Nat) (d mc ms : Nat) (avs : List Value) (ws : va_W) {S : Type} (post : S → Prop) (wo : S → va_W) : Prop :=
  ∀ sz : Nat, Met G.1 y (.code y b nL none :: ALLW) ({ frames := d, cells := mc, slots := ms, locals := 35 * d } : Room) (PreE G avs ws sz) (va_Qv post (fun u t => Wd G (va_A ws sz) (wo u) t) (va_A ws sz)) mc ms (va_A ws sz)
theorem CVE.introI {G : Gx} {y : MethodName} {b : ByteArray} {nL : Nat} {d mc ms : Nat} {avs : List Value} {ws : va_W} {S : Type} {post : S → Prop} {wo : S → va_W} (hyi : y.name = "<init>") (hy : plainName y.cls = true) (hn : avs.length ≤ nL) (hc : ∀ v ∈ avs, v.category = 1)
    (body : ∀ X : Fx, Cx X G nL b y.cls d mc ms → Ev X → Ini X → RV X b mc ms post wo → V X 0 0 0 (ent avs nL) [] ws) : CVE G y b nL d mc ms avs ws post wo := by
  intro sz
  refine Met.ofW (cc := b) (maxL := nL) (ret := none) hy rfl ?_
  intro p e s m args below meth c s₁ B hml hv
  obtain ⟨rfl, hsz, hP, hK, hD0, hE⟩ := hv
  have hts := atoms_spec (ws := (.code y b nL none :: ALLW)) B.pre
  have hown : s.vm.findClass y.cls = some m.cls := findClass_of_methodNamed B.named
  have hlocks := B.notSynchronized
  have hr := B.returns
  have hb := B.bytes
  have hx := B.exec
  have hin : meth.name = "<init>" := (name_of_methodNamed B.named B.method).1.trans hyi
  subst hsz
  rw [lg_entry_eq]
  refine body (p, G.1, e, _, s, m, _, below, meth, c, G.2.1, G.2.2, va_A ws s.heap.size, nL, _) ⟨hx, hb, rfl, hml, hown, fun w hw => hts w (List.mem_cons_of_mem _ hw), hK, fun q h => Or.inr h, hlocks, Nat.le_refl _, Nat.le_refl _, Nat.le_refl _, Nat.le_refl _, rfl, rfl, rfl⟩ hE hin ?_ s.heap [] _ hP hD0.self va_S.rf (ent_lh hc hn)
  intro k n pc L u hk hn' hp hdg H locs ls hP hD hS hl
  refine W.widen hk hn' ?_
  exact W.vret hx hb hr (fun t ht hW => ⟨⟨u, rfl, hp, by rw [ht]; exact hP, va_K.moved hW.alike hK, hD⟩, hS.F ht⟩) hS.2.2 hdg
section VC4
variable {X : Fx} {G : Gx} {nL : Nat} {cc : ByteArray} {own : String} {d mc ms k n pc : Nat} {L : List (Option Value)} {st : List Value} {ws : va_W}
theorem r_callIvE (C : Cx X G nL cc own d mc ms) (hE : Ev X) {y : MethodName} {b : ByteArray} {nL' idx np : Nat} {d' mc' ms' a : Nat} {As : List Value} {wc wr : va_W} {S : Type} {post : S → Prop} {wo : S → va_W} (hM : CVE G y b nL' d' mc' ms' (.ref a :: As) wc post wo) (hI : KI own idx y b nL' np) (hdg : decode cc pc = .ok (.invokespecial idx, 3)) (hnp : As.length = np) (hd : d' + 1 ≤ d) (hk : k + mc' ≤ mc) (hn : n + ms' ≤ ms) (hst : (st.map fun v => v.category).sum ≤ 8) (isC isR : List Nat) (hnC : va_nd isC = true) (hC : isC.map (fun i => ws[i]?) = wc.map some) (hR : isR.map (fun i => ws[i]?) = wr.map some) (hnR : va_nd isR = true) (hdis : ∀ i ∈ isR, i ∉ isC)
    {st0 : List Value} (hs0 : st0 = As.reverse ++ .ref a :: st) (kk : ∀ (u : S), post u → V X (k + mc') (n + ms') (pc + 3) L st (wr ++ wo u)) : V X k n pc L st0 ws := by
  subst hs0
  obtain ⟨p, l, e, R, s, m, args, below, meth, c, D, cy, A, nX, Q⟩ := X
  obtain ⟨hx, hb, rfl, hml, hown, hts, hK, hA, hlocks, hfr, hlo, hce, hsl, hG1, hG2, hG3⟩ := C
  obtain ⟨l', D', cy'⟩ := G
  dsimp only at hG1 hG2 hG3
  subst hG1; subst hG2; subst hG3
  intro H locs ls hP hD hS hl
  have hPc := hP.sub isC (map_filter_some hC)
  have hDc := hD.sub isC hnC hC
  have hFc := va_free (wc := wc) hD hS hA isC hC
  have h16 := hI.2.2.2.2.2.2
  refine va_callv (va_runI (As := As) (rest := st) (Ts := ALLW) ⟨hx, hb, hml, hown, hts⟩ (hM H.size) (cwI np hts hI.good rfl rfl rfl (hts _ hI.2.2.1) (hts _ hI.1) (hts _ hI.2.1) hI.2.2.2.2.1 hI.2.2.2.2.2.1 ⟨by show d' + 1 ≤ _; omega, by show _ + 35 * d' ≤ _; omega⟩) ⟨PreE.blind, fun U hU hW => ⟨rfl, by rw [hU], by rw [hU]; exact hPc, va_K.moved hW.alike hK, hDc.weaken (fun _ _ _ _ => trivial), ev_call hE hS hFc hU hW⟩⟩ rfl hnp hl.1 rfl (lv_room hst) hdg ⟨by omega, by omega⟩) hS (fun q _ h => hFc q h) hFc (fun u t H1 locs1 ht hvm hw hB hz1 hk1 hS1 => ?_)
  obtain ⟨hP1, hK1, hD1⟩ := hB
  rw [ht] at hP1
  obtain ⟨hP2, hD2⟩ := va_join (wr := wr) (w1 := wo u) hP hD isC isR hC hR hnR hdis hk1 hFc hP1 hD1
  exact kk u hw H1 locs1 ls hP2 hD2 hS1 hl
/-- Pattern's constructor, a nest mate's -/
theorem r_callINv (C : Cx X G nL cc "PlaitBench" d mc ms) (hE : Ev X) {b : ByteArray} {nL' : Nat} {d' mc' ms' a : Nat} {wc wr : va_W} {S : Type} {post : S → Prop} {wo : S → va_W} (hM : CVE G ⟨"PlaitBench$Pattern", "<init>", "()V"⟩ b nL' d' mc' ms' [.ref a] wc post wo) (hI : Cond.instanceMethod ⟨"PlaitBench$Pattern", "<init>", "()V"⟩ ∈ ALLW ∧ Cond.initialized "PlaitBench$Pattern" ∈ ALLW ∧ Cond.code ⟨"PlaitBench$Pattern", "<init>", "()V"⟩ b nL' none ∈ ALLW ∧ nL' ≤ 16) (hdg : decode cc pc = .ok (.invokespecial 87, 3)) (hd : d' + 1 ≤ d) (hk : k + mc' ≤ mc) (hn : n + ms' ≤ ms) (hst : (st.map fun v => v.category).sum ≤ 8) (isC isR : List Nat) (hnC : va_nd isC = true) (hC : isC.map (fun i => ws[i]?) = wc.map some) (hR : isR.map (fun i => ws[i]?) = wr.map some) (hnR : va_nd isR = true) (hdis : ∀ i ∈ isR, i ∉ isC)
    (kk : ∀ (u : S), post u → V X (k + mc') (n + ms') (pc + 3) L st (wr ++ wo u)) : V X k n pc L (.ref a :: st) ws := by
  obtain ⟨p, l, e, R, s, m, args, below, meth, c, D, cy, A, nX, Q⟩ := X
  obtain ⟨hx, hb, rfl, hml, hown, hts, hK, hA, hlocks, hfr, hlo, hce, hsl, hG1, hG2, hG3⟩ := C
  obtain ⟨l', D', cy'⟩ := G
  dsimp only at hG1 hG2 hG3
  subst hG1; subst hG2; subst hG3
  intro H locs ls hP hD hS hl
  have hPc := hP.sub isC (map_filter_some hC)
  have hDc := hD.sub isC hnC hC
  have hFc := va_free (wc := wc) hD hS hA isC hC
  have h16 := hI.2.2.2
  have hnest := hE.2.2.2.2.2.2.2.2.2
  have g : GoodIn ALLW ALLW := aw_good (fun _ h => h)
  have hG : GoodIn ALLW (.code ⟨"PlaitBench$Pattern", "<init>", "()V"⟩ b nL' none :: ALLW) := fun w hw => (List.mem_cons.mp hw).elim (fun q => q ▸ g _ hI.2.2.1) (g _)
  refine va_callv (va_runIN (As := []) (rest := st) (Ts := ALLW) ⟨hx, hb, hml, hown, hts⟩ (hM H.size) ⟨va_cnB 0 hts hG rfl rfl rfl hnest (hts _ hI.2.1) (by decide +kernel) ⟨by show d' + 1 ≤ _; omega, by show _ + 35 * d' ≤ _; omega⟩, rfl, hts _ hI.1⟩ ⟨PreE.blind, fun U hU hW => ⟨rfl, by rw [hU], by rw [hU]; exact hPc, va_K.moved hW.alike hK, hDc.weaken (fun _ _ _ _ => trivial), ev_call hE hS hFc hU hW⟩⟩ rfl rfl hl.1 rfl (lv_room hst) hdg ⟨by omega, by omega⟩) hS (fun q _ h => hFc q h) hFc (fun u t H1 locs1 ht hvm hw hB hz1 hk1 hS1 => ?_)
  obtain ⟨hP1, hK1, hD1⟩ := hB
  rw [ht] at hP1
  obtain ⟨hP2, hD2⟩ := va_join (wr := wr) (w1 := wo u) hP hD isC isR hC hR hnR hdis hk1 hFc hP1 hD1
  exact kk u hw H1 locs1 ls hP2 hD2 hS1 hl
/-- new int[8][8] -/
theorem r_mna (C : Cx X G nL cc own d mc ms) (hE : Ev X) {idx : Nat} (hcl : Cond.classLink own idx "[[I" ∈ ALLW) (hk : k + 9 ≤ mc) (hn : n + 72 ≤ ms) (hdg : decode cc pc = .ok (.multianewarray idx 2, 4)) (kk : ∀ (q : Nat) (r : Nat → Nat), V X (k + 9) (n + 72) (pc + 4) L (.ref q :: st) (ws ++ [(q, .inl (G.2.2 7, 8, .inr (.inr (.inr (.inr (fun i => if i < 8 then some (r i) else none)))))), (r 0, .inl (G.2.2 0, 8, .inl (fun _ => 0))), (r 1, .inl (G.2.2 0, 8, .inl (fun _ => 0))), (r 2, .inl (G.2.2 0, 8, .inl (fun _ => 0))), (r 3, .inl (G.2.2 0, 8, .inl (fun _ => 0))), (r 4, .inl (G.2.2 0, 8, .inl (fun _ => 0))), (r 5, .inl (G.2.2 0, 8, .inl (fun _ => 0))), (r 6, .inl (G.2.2 0, 8, .inl (fun _ => 0))), (r 7, .inl (G.2.2 0, 8, .inl (fun _ => 0)))])) : V X k n pc L (.int 8 :: .int 8 :: st) ws := by
  obtain ⟨p, l, e, R, s, m, args, below, meth, c, D, cy, A, nX, Q⟩ := X
  obtain ⟨hx, hb, rfl, hml, hown, hts, hK, hA, hlocks, hfr, hlo, hce, hsl, hG1, hG2, hG3⟩ := C
  obtain ⟨-, -, -, -, -, hov, -⟩ := hE
  intro H locs ls hP hD hS hl
  have h0 : s.vm.findClass (FieldType.array .int).toString = some (cy 0) := (hK.2 0 _ rfl).2
  refine va_mna (X := ws) (L := []) (f := fun _ => .inl (cy 0, 0, .inl (fun _ => 0))) (ty := .int) (cy := cy 0) (z := (8, .inl (fun _ => 0))) (N' := 8) (K' := 8) hx hb hown (hts _ hcl) hov (hts _ (aw_in (w := .arrayClass .int) (by decide +kernel) rfl)) h0 hK (by show va_P _ _ (ws ++ []) _; rw [List.append_nil]; exact hP) (by show va_D _ (ws ++ []); rw [List.append_nil]; exact hD) hS hA (by decide) (by decide) (by decide) (by decide) (by decide) (by decide) (by decide) rfl rfl (by omega) (by omega) (fun c => by rw [vp_cell_i, ← arrV_new]; rfl) hdg (fun q r cA H1 hinj hnl hK1 hP1 hD1 hS1 => ?_)
  have hcA : cA = cy 7 := arr_same (t0 := 7) hK rfl hK1
  subst hcA
  have hin : ∀ i, i < 8 → r i ∈ [] ++ (List.range 8).map r := fun i hi => by rw [List.nil_append]; exact List.mem_map.mpr ⟨i, List.mem_range.mpr hi, rfl⟩
  have hw : (ws ++ [(q, (.inl (cy 7, 8, .inr (.inr (.inr (.inr (fun i => if i < 8 then some (r i) else none))))) : va_E))]) ++ va_pl ([] ++ (List.range 8).map r) (vr_up (fun _ => .inl (cy 0, 0, .inl (fun _ => 0))) ((List.range 8).map r) (.inl (cy 0, 8, .inl (fun _ => 0)))) = ws ++ [(q, .inl (cy 7, 8, .inr (.inr (.inr (.inr (fun i => if i < 8 then some (r i) else none)))))), (r 0, .inl (cy 0, 8, .inl (fun _ => 0))), (r 1, .inl (cy 0, 8, .inl (fun _ => 0))), (r 2, .inl (cy 0, 8, .inl (fun _ => 0))), (r 3, .inl (cy 0, 8, .inl (fun _ => 0))), (r 4, .inl (cy 0, 8, .inl (fun _ => 0))), (r 5, .inl (cy 0, 8, .inl (fun _ => 0))), (r 6, .inl (cy 0, 8, .inl (fun _ => 0))), (r 7, .inl (cy 0, 8, .inl (fun _ => 0)))] := by
    rw [List.append_assoc]
    congr 1
    show (q, _) :: va_pl [r 0, r 1, r 2, r 3, r 4, r 5, r 6, r 7] _ = _
    unfold va_pl
    simp only [List.map_cons, List.map_nil]
    rw [vr_up_in (a := r 0) (by simpa using hin 0 (by decide)), vr_up_in (a := r 1) (by simpa using hin 1 (by decide)), vr_up_in (a := r 2) (by simpa using hin 2 (by decide)), vr_up_in (a := r 3) (by simpa using hin 3 (by decide)), vr_up_in (a := r 4) (by simpa using hin 4 (by decide)), vr_up_in (a := r 5) (by simpa using hin 5 (by decide)), vr_up_in (a := r 6) (by simpa using hin 6 (by decide)), vr_up_in (a := r 7) (by simpa using hin 7 (by decide))]
  rw [hw] at hP1 hD1
  have key := kk q r H1 locs ls
  rw [hG3] at key
  exact key hP1 hD1 hS1 hl
/-- System.arraycopy of ints -/
theorem aw_acn : Cond.native arraycopyName ∈ ALLW := aw_in (by decide +kernel) rfl
theorem aw_acs : Cond.static arraycopyName ∈ ALLW := aw_in (by decide +kernel) rfl
theorem aw_aci : Cond.initialized "java/lang/System" ∈ ALLW := aw_in (by decide +kernel) rfl
theorem r_copyi (C : Cx X G nL cc own d mc ms) {idx a0 a1 n0 n1 sp dp nn : Nat} {f g : Nat → Int32} {ws' : va_W} (q0 q1 : Nat) (hl : Cond.methodLink own idx arraycopyName ∈ ALLW) (ha0 : ws[q0]? = some (a0, .inl (G.2.2 0, n0, .inl f))) (ha1 : ws[q1]? = some (a1, .inl (G.2.2 0, n1, .inl g))) (hb0 : sp + nn ≤ n0) (hb1 : dp + nn ≤ n1) (h0 : n0 < 100000) (h1 : n1 < 100000) (hd : 1 ≤ d) (hst : (st.map fun v => v.category).sum ≤ 8) (hw : ws.set q1 (a1, .inl (G.2.2 0, n1, .inl (va_cpy f g sp dp nn))) = ws') (hdg : decode cc pc = .ok (.invokestatic idx, 3)) (kk : V X k n (pc + 3) L st ws') : V X k n pc L (.int (nI nn) :: .int (nI dp) :: .ref a1 :: .int (nI sp) :: .ref a0 :: st) ws := by
  obtain ⟨p, l, e, R, s, m, args, below, meth, c, D, cy, A, nX, Q⟩ := X
  obtain ⟨hx, hb, rfl, hml, hown, hts, hK, hA, hlocks, hfr, hlo, hce, hsl, hG1, hG2, hG3⟩ := C
  subst hw
  have c1 : (nI nn).toNatClampNeg = nn := nI_clamp (by omega)
  have c2 : (nI dp).toNatClampNeg = dp := nI_clamp (by omega)
  have c3 : (nI sp).toNatClampNeg = sp := nI_clamp (by omega)
  have p1 : ¬ nI nn < 0 := nI_pos (by omega)
  have p2 : ¬ nI dp < 0 := nI_pos (by omega)
  have p3 : ¬ nI sp < 0 := nI_pos (by omega)
  have hnw : nativeFrameWords "java/lang/System" "arraycopy" 5 = 7 := by decide +kernel
  intro H locs ls hP hD hS hl'
  refine va_copyi hx hb (by rw [hml]; exact hl'.1.symm) hown (hts _ hl) (hts _ aw_acn) (hts _ aw_acs) (hts _ aw_aci) hK hP hD hS q0 q1 0 0 ha0 ha1 (ty := .int) (by rw [hG3]; rfl) (by rw [hG3]; rfl) rfl p3 p2 p1 (by rw [c1, c3]; exact hb0) (by rw [c1, c2]; exact hb1) (fun _ _ => rfl) (by omega) (by omega) hdg (fun H1 locs1 hP1 hD1 hS1 => ?_)
  rw [c1, c2, c3] at hP1 hD1
  exact kk H1 locs1 ls hP1 hD1 hS1 hl'
end VC4
/-! a world's tail, that a call leaves alone -/
def tlx (m : Nat) (P : va_W) : List Nat := (List.range P.length).map (fun i => i + m)
theorem tl_C {ws wc P : va_W} {is : List Nat} (h : is.map (fun i => ws[i]?) = wc.map some) : is.map (fun i => (ws ++ P)[i]?) = wc.map some := by
  rw [← h]
  apply List.map_congr_left
  intro i hi
  have : (ws[i]?).isSome := by
    have h2 : ws[i]? ∈ wc.map some := by rw [← h]; exact List.mem_map.mpr ⟨i, hi, rfl⟩
    obtain ⟨w, -, hw⟩ := List.mem_map.mp h2
    rw [← hw]; rfl
  obtain ⟨w, hw⟩ := Option.isSome_iff_exists.mp this
  exact List.getElem?_append_left (List.getElem?_eq_some_iff.mp hw).1
theorem tl_R {ws wr P : va_W} {is : List Nat} {m : Nat} (hm : ws.length = m) (h : is.map (fun i => ws[i]?) = wr.map some) : (is ++ tlx m P).map (fun i => (ws ++ P)[i]?) = (wr ++ P).map some := by
  rw [List.map_append, List.map_append, tl_C h]
  congr 1
  unfold tlx
  rw [List.map_map]
  apply List.ext_getElem?
  intro i
  rw [List.getElem?_map, List.getElem?_map]
  by_cases hi : i < P.length
  · rw [List.getElem?_range hi]
    show some ((ws ++ P)[i + m]?) = _
    rw [List.getElem?_append_right (by omega), hm, Nat.add_sub_cancel, List.getElem?_eq_getElem hi]
    rfl
  · rw [List.getElem?_eq_none (by rw [List.length_range]; omega), List.getElem?_eq_none (l := P) (by omega)]
    rfl
theorem tl_m {m : Nat} {P : va_W} {i : Nat} (h : i ∈ tlx m P) : m ≤ i := by
  obtain ⟨j, -, rfl⟩ := List.mem_map.mp h
  omega
theorem nd_of_nodup : ∀ {l : List Nat}, l.Nodup → va_nd l = true
  | [], _ => rfl
  | a :: l, h => by
    have h2 := List.nodup_cons.mp h
    show (decide (a ∉ l) && va_nd l) = true
    rw [decide_eq_true h2.1, nd_of_nodup h2.2]
    rfl
theorem nodup_of_nd : ∀ {l : List Nat}, va_nd l = true → l.Nodup
  | [], _ => List.nodup_nil
  | a :: l, h => by
    have h2 : (decide (a ∉ l) && va_nd l) = true := h
    rw [Bool.and_eq_true] at h2
    exact List.nodup_cons.mpr ⟨of_decide_eq_true h2.1, nodup_of_nd h2.2⟩
theorem tl_nd {m : Nat} {P : va_W} {is : List Nat} (h : va_nd is = true) (hm : ∀ i ∈ is, i < m) : va_nd (is ++ tlx m P) = true := by
  refine nd_of_nodup (List.nodup_append.mpr ⟨nodup_of_nd h, ?_, fun a ha b hb e => ?_⟩)
  · unfold tlx
    refine List.Pairwise.map _ (fun a b q => ?_) List.nodup_range
    omega
  · have h1 := hm a ha
    have h2 := tl_m hb
    omega
theorem tl_dis {m : Nat} {P : va_W} {is isC : List Nat} (h : ∀ i ∈ is, i ∉ isC) (hm : ∀ i ∈ isC, i < m) : ∀ i ∈ is ++ tlx m P, i ∉ isC := by
  intro i hi hc
  rcases List.mem_append.mp hi with q | q
  · exact h i q hc
  · have h1 := hm i hc
    have h2 := tl_m q
    omega
