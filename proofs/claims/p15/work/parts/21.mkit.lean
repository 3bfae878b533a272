/-! contracts of the reference's methods: over M and R -/
abbrev Mt : Type := Nat → Int32
abbrev Rt : Type := Nat → Nat → Int32
def mI (G : Gx) (h : Nat) (ad : Nat → Nat) (y : MethodName) (b : ByteArray) (nL : Nat) (rt : FieldType) (d : Nat) (avs : List Value) (M : Mt) (R : Rt) (post : Int32 → Mt → Rt → Prop) : Prop :=
  CI G y b nL rt d 0 0 (.ref h :: avs) (mW G h ad M R) (S := Mt × Rt) (fun r u => post r u.1 u.2) (fun u => mW G h ad u.1 u.2)
def mV (G : Gx) (h : Nat) (ad : Nat → Nat) (y : MethodName) (b : ByteArray) (nL : Nat) (d : Nat) (avs : List Value) (M : Mt) (R : Rt) (post : Mt → Rt → Prop) : Prop :=
  CV G y b nL d 0 0 (.ref h :: avs) (mW G h ad M R) (S := Mt × Rt) (fun u => post u.1 u.2) (fun u => mW G h ad u.1 u.2)
theorem mI.intro {G : Gx} {h : Nat} {ad : Nat → Nat} {y : MethodName} {b : ByteArray} {nL : Nat} {rt : FieldType} {d : Nat} {avs : List Value} {M : Mt} {R : Rt} {post : Int32 → Mt → Rt → Prop} (hy : plainName y.cls = true) (hn : (Value.ref h :: avs).length ≤ nL) (hc : ∀ v ∈ (Value.ref h :: avs), v.category = 1)
    (body : ∀ X : Fx, Cx X G nL b y.cls d 0 0 → (∀ (pc : Nat) (L : List (Option Value)) (v : Int32) (M' : Mt) (R' : Rt), narrow rt (.int v) = .int v → decode b pc = .ok (.ireturn, 1) → post v M' R' → V X 0 0 pc L [.int v] (mW G h ad M' R')) → V X 0 0 0 (ent (.ref h :: avs) nL) [] (mW G h ad M R)) : mI G h ad y b nL rt d avs M R post :=
  CI.intro hy hn hc fun X C hR => body X C fun pc L v M' R' h1 h2 h3 => hR 0 0 pc L v (M', R') (Nat.le_refl _) (Nat.le_refl _) h1 h3 h2
theorem mV.intro {G : Gx} {h : Nat} {ad : Nat → Nat} {y : MethodName} {b : ByteArray} {nL : Nat} {d : Nat} {avs : List Value} {M : Mt} {R : Rt} {post : Mt → Rt → Prop} (hy : plainName y.cls = true) (hn : (Value.ref h :: avs).length ≤ nL) (hc : ∀ v ∈ (Value.ref h :: avs), v.category = 1)
    (body : ∀ X : Fx, Cx X G nL b y.cls d 0 0 → (∀ (pc : Nat) (L : List (Option Value)) (M' : Mt) (R' : Rt), decode b pc = .ok (.return_, 1) → post M' R' → V X 0 0 pc L [] (mW G h ad M' R')) → V X 0 0 0 (ent (.ref h :: avs) nL) [] (mW G h ad M R)) : mV G h ad y b nL d avs M R post :=
  CV.intro hy hn hc fun X C hR => body X C fun pc L M' R' h2 h3 => hR 0 0 pc L (M', R') (Nat.le_refl _) (Nat.le_refl _) h3 h2
theorem cat1 {h : Nat} {xs : List Int32} : ∀ v ∈ (Value.ref h :: xs.map Value.int), v.category = 1 := by
  intro v hv
  rcases List.mem_cons.mp hv with q | q
  · subst q; rfl
  · obtain ⟨x, -, rfl⟩ := List.mem_map.mp q
    rfl
abbrev is28 : List Nat := [0, 1, 2, 3, 4, 5, 6, 7, 8, 9, 10, 11, 12, 13, 14, 15, 16, 17, 18, 19, 20, 21, 22, 23, 24, 25, 26, 27]
section MC
variable {X : Fx} {G : Gx} {nL : Nat} {cc : ByteArray} {d mc ms k n pc : Nat} {L : List (Option Value)} {st : List Value} {h : Nat} {ad : Nat → Nat} {M : Mt} {R : Rt}
theorem m_calli (C : Cx X G nL cc RX7 d mc ms) {y : MethodName} {b : ByteArray} {nL' idx np d' : Nat} {rt : FieldType} {As : List Value} {post : Int32 → Mt → Rt → Prop} (hM : mI G h ad y b nL' rt d' As M R post) (hI : KV RX7 idx y b nL' (some rt) np) (hdg : decode cc pc = .ok (.invokevirtual idx, 3)) (hnp : As.length = np) (hd : d' + 1 ≤ d) (hk : k ≤ mc) (hn : n ≤ ms) (hst : (st.map fun v => v.category).sum ≤ 8) (hy : RX7 = y.cls)
    {st0 : List Value} (hs0 : st0 = As.reverse ++ .ref h :: st) (kk : ∀ (r : Int32) (M' : Mt) (R' : Rt), post r M' R' → V X k n (pc + 3) L (.int r :: st) (mW G h ad M' R')) : V X k n pc L st0 (mW G h ad M R) :=
  r_callVi C hM hI hdg hnp hd hk hn hst 0 (ci := 7) rfl rfl hy is28 [] (by decide) rfl (wr := []) rfl rfl (fun _ h => absurd h List.not_mem_nil) hs0 (fun r u hu => kk r u.1 u.2 hu)
theorem m_callv (C : Cx X G nL cc RX7 d mc ms) {y : MethodName} {b : ByteArray} {nL' idx np d' : Nat} {As : List Value} {post : Mt → Rt → Prop} (hM : mV G h ad y b nL' d' As M R post) (hI : KV RX7 idx y b nL' none np) (hdg : decode cc pc = .ok (.invokevirtual idx, 3)) (hnp : As.length = np) (hd : d' + 1 ≤ d) (hk : k ≤ mc) (hn : n ≤ ms) (hst : (st.map fun v => v.category).sum ≤ 8) (hy : RX7 = y.cls)
    {st0 : List Value} (hs0 : st0 = As.reverse ++ .ref h :: st) (kk : ∀ (M' : Mt) (R' : Rt), post M' R' → V X k n (pc + 3) L st (mW G h ad M' R')) : V X k n pc L st0 (mW G h ad M R) :=
  r_callVv C hM hI hdg hnp hd hk hn hst 0 (ci := 7) rfl rfl hy is28 [] (by decide) rfl (wr := []) rfl rfl (fun _ h => absurd h List.not_mem_nil) hs0 (fun u hu => kk u.1 u.2 hu)
end MC
