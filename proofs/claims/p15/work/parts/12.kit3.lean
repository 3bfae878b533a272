/-! switches from 0 on -/
section VS
variable {X : Fx} {G : Gx} {nL : Nat} {cc : ByteArray} {own : String} {d mc ms k n pc : Nat} {L : List (Option Value)} {st : List Value} {ws : va_W}
theorem r_tab (C : Cx X G nL cc own d mc ms) {dflt hi : Int} {offs : Array Int} {len : Nat} {x : Int32} (hdg : decode cc pc = .ok (.tableswitch dflt 0 hi offs, len)) (hsz : hi + 1 = (offs.size : Int)) (hsm : offs.size < 1000) (hin : ∀ (i : Nat) (off : Int), offs[i]? = some off → x = nI i → ∃ tgt : Nat, (pc : Int) + off = (tgt : Int) ∧ V X k n tgt L st ws) (hout : (∀ i : Nat, i < offs.size → x ≠ nI i) → ∃ tgt : Nat, (pc : Int) + dflt = (tgt : Int) ∧ V X k n tgt L st ws) : V X k n pc L (.int x :: st) ws := by
  obtain ⟨p, l, e, R, s, m, args, below, meth, c, D, cy, A, nX, Q⟩ := X
  intro H locs ls hP hD hS hl
  by_cases h1 : x.toInt < 0
  · obtain ⟨tgt, ht, hv⟩ := hout (fun i hi e => by rw [e, nI_toInt (by omega)] at h1; omega)
    exact lv_tableOut C.1 C.2.1 hdg (Or.inl h1) ht (hv H locs ls hP hD hS hl)
  · by_cases h2 : hi < x.toInt
    · obtain ⟨tgt, ht, hv⟩ := hout (fun i hi' e => by rw [e, nI_toInt (by omega)] at h2; omega)
      exact lv_tableOut C.1 C.2.1 hdg (Or.inr h2) ht (hv H locs ls hP hD hS hl)
    · have hlt : (x.toInt - 0).toNat < offs.size := by omega
      have hx : x = nI (x.toInt - 0).toNat := by
        apply Int32.toInt_inj.mp
        rw [nI_toInt (by omega)]
        omega
      obtain ⟨tgt, ht, hv⟩ := hin (x.toInt - 0).toNat (offs[(x.toInt - 0).toNat]) (by rw [Array.getElem?_eq_getElem hlt]) hx
      exact lv_tableIn C.1 C.2.1 hdg h1 h2 (by rw [Array.getElem?_eq_getElem hlt]) ht (hv H locs ls hP hD hS hl)
end VS
