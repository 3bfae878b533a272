/-! the class: a text of no bytes read; a pattern of no crossings -/
def rsel (i : Nat) : Nat := if i = 0 then 3 else if i = 1 then 4 else if i = 2 then 5 else if i = 3 then 6 else if i = 4 then 1 else 2
section C3
variable (G : Gx) (A : Nat → Nat) (P : va_W) (N : Nt) (R : Rt) (Q : Qt)
theorem f_nextSign (h1 : N 0 10 = 0) (h2 : N 0 9 = 0) : CI G yX4_nextSign cX4_nextSign 1 .int 0 0 0 [.ref (A 0)] (rW G A N R Q ++ P) (S := Unit) (fun r _ => r = -1) (fun _ => rW G A N R Q ++ P) := by
  refine CI.intro (by decide) (Nat.le_of_ble_eq_true rfl) (cat1 (xs := [])) fun X C hR => ?_
  refine r_aload_n C dX4_nextSign_0 rfl rfl ?_
  refine rg_X4_37 C dX4_nextSign_1 ?_
  refine r_aload_n C dX4_nextSign_4 rfl rfl ?_
  refine rg_X4_34 C dX4_nextSign_5 ?_
  rw [h1, h2]
  refine r_icmp_ge (tgt := 52) C dX4_nextSign_8 (by decide) (fun c8 => ?_) (fun c8 => absurd c8 ((fun q => absurd (show (0 : Int32) ≤ 0 by decide) q)))
  refine r_aload_n C dX4_nextSign_52 rfl rfl ?_
  refine rg_X4_37 C dX4_nextSign_53 ?_
  refine r_aload_n C dX4_nextSign_56 rfl rfl ?_
  refine rg_X4_34 C dX4_nextSign_57 ?_
  rw [h1, h2]
  refine r_icmp_ge (tgt := 79) C dX4_nextSign_60 (by decide) (fun c60 => ?_) (fun c60 => absurd c60 ((fun q => absurd (show (0 : Int32) ≤ 0 by decide) q)))
  refine r_iconst (v := -1) C dX4_nextSign_79 (by decide) ?_
  exact hR _ _ _ _ _ () (by decide) (by decide) rfl rfl dX4_nextSign_80
theorem f_readItems (h1 : N 0 10 = 0) (h2 : N 0 9 = 0) (h3 : N 0 2 = 0) (h4 : N 0 6 = 0) : CV G yX4_readItems cX4_readItems 3 1 0 0 [.ref (A 0)] (rW G A N R Q ++ P) (S := Unit) (fun _ => True) (fun _ => rW G A N R Q ++ P) := by
  refine CV.intro (by decide) (Nat.le_of_ble_eq_true rfl) (cat1 (xs := [])) fun X C hR => ?_
  refine r_iconst (v := 0) C dX4_readItems_0 (by decide) ?_
  refine r_istore_n C dX4_readItems_1 rfl (by decide) ?_
  refine r_iload_n C dX4_readItems_2 rfl rfl ?_
  refine r_aload_n C dX4_readItems_3 rfl rfl ?_
  refine rg_X4_34 C dX4_readItems_4 ?_
  rw [h2]
  refine r_icmp_gt (tgt := 55) C dX4_readItems_7 (by decide) (fun c7 => absurd c7 ((by decide))) (fun c7 => ?_)
  refine r_aload_n C dX4_readItems_10 rfl rfl ?_
  refine rg_X4_19 C dX4_readItems_11 ?_
  rw [h3]
  refine r_if_ne (tgt := 55) C dX4_readItems_14 (by decide) (fun c14 => absurd c14 ((fun q => q rfl))) (fun c14 => ?_)
  refine r_aload_n C dX4_readItems_17 rfl rfl ?_
  refine a_callVi C (f_nextSign G A P N R Q h1 h2) kcX4_X4_nextSign dX4_readItems_18 rfl (by decide) (by decide) (by decide) (Nat.le_of_ble_eq_true rfl) 0 rfl (ci := 4) rfl rfl rfl (fun r u hu => ?_)
  subst hu
  refine r_istore_n C dX4_readItems_21 rfl (by decide) ?_
  refine r_iload_n C dX4_readItems_22 rfl rfl ?_
  refine r_iconst (v := -1) C dX4_readItems_23 (by decide) ?_
  refine r_icmp_ne (tgt := 44) C dX4_readItems_24 (by decide) (fun c24 => absurd c24 ((fun q => q rfl))) (fun c24 => ?_)
  refine r_aload_n C dX4_readItems_27 rfl rfl ?_
  refine rg_X4_31 C dX4_readItems_28 ?_
  rw [h4]
  refine r_if_le (tgt := 43) C dX4_readItems_31 (by decide) (fun c31 => ?_) (fun c31 => absurd c31 ((fun q => absurd (show (0 : Int32) ≤ 0 by decide) q)))
  exact hR _ _ _ _ () (by decide) (by decide) trivial dX4_readItems_43
/-- what a reading of no bytes leaves -/
def rdN0 (N : Nt) (s : Int32) : Nt := va_up N 0 (va_up (va_up (va_up (va_up (va_up (va_up (va_up (N 0) 9 0) 11 s) 10 0) 6 0) 1 0) 2 0) 3 (-1))
theorem f_read (s : Int32) : CV G yX4_read cX4_read 3 2 0 0 [.ref (A 0), .int 0, .int s] (rW G A N R Q ++ P) (S := Unit) (fun _ => True) (fun _ => rW G A (rdN0 N s) R Q ++ P) := by
  refine CV.intro (by decide) (Nat.le_of_ble_eq_true rfl) (cat1 (xs := [0, s])) fun X C hR => ?_
  refine r_aload_n C dX4_read_0 rfl rfl ?_
  refine r_iload_n C dX4_read_1 rfl rfl ?_
  refine r_aload_n C dX4_read_2 rfl rfl ?_
  refine rg_X4_43 C dX4_read_3 ?_
  refine r_alen (t0 := 1) C 4 (fun _ => rfl) rfl dX4_read_6 ?_
  refine r_mmin C km_X4_51 (by decide) (by decide) (by decide) (Nat.le_of_ble_eq_true rfl) dX4_read_7 ?_
  rw [if_neg (show ¬ nI 800 < 0 by decide)]
  refine rp_X4_34 C dX4_read_10 ?_
  refine r_aload_n C dX4_read_13 rfl rfl ?_
  refine r_iload_n C dX4_read_14 rfl rfl ?_
  refine rp_X4_40 C dX4_read_15 ?_
  refine r_aload_n C dX4_read_18 rfl rfl ?_
  refine r_iconst (v := 0) C dX4_read_19 (by decide) ?_
  refine rp_X4_37 C dX4_read_20 ?_
  refine r_aload_n C dX4_read_23 rfl rfl ?_
  refine r_iconst (v := 0) C dX4_read_24 (by decide) ?_
  refine rp_X4_31 C dX4_read_25 ?_
  refine r_aload_n C dX4_read_28 rfl rfl ?_
  refine r_iconst (v := 0) C dX4_read_29 (by decide) ?_
  refine rp_X4_15 C dX4_read_30 ?_
  refine r_aload_n C dX4_read_33 rfl rfl ?_
  refine r_iconst (v := 0) C dX4_read_34 (by decide) ?_
  refine rp_X4_19 C dX4_read_35 ?_
  refine r_aload_n C dX4_read_38 rfl rfl ?_
  refine r_iconst (v := -1) C dX4_read_39 (by decide) ?_
  refine rp_X4_22 C dX4_read_40 ?_
  refine r_aload_n C dX4_read_43 rfl rfl ?_
  simp only [up_up, va_up_at]
  refine a_callVv C (f_readItems G A P _ R Q rfl rfl rfl rfl) kcX4_X4_readItems dX4_read_44 rfl (by decide) (by decide) (by decide) (Nat.le_of_ble_eq_true rfl) 0 rfl (ci := 4) rfl rfl rfl (fun u hu => ?_)
  exact hR _ _ _ _ () (by decide) (by decide) trivial dX4_read_47
end C3
/-! Pattern: the rows of twines by their number -/
section PT
variable {X : Fx} {G : Gx} {nL : Nat} {cc : ByteArray} {own : String} {d mc ms k n pc : Nat} {L : List (Option Value)} {st : List Value} {A : Nat → Nat} {N R : Nt} {Q : Qt} {P : va_W}
theorem tw_cell {i : Nat} (hi : i < 8) : (pW G A N R Q ++ P)[9 + i]? = some (A (9 + i), .inl (G.2.2 0, 8, .inl (R (9 + i)))) := by
  rcases (show i = 0 ∨ i = 1 ∨ i = 2 ∨ i = 3 ∨ i = 4 ∨ i = 5 ∨ i = 6 ∨ i = 7 by omega) with rfl | rfl | rfl | rfl | rfl | rfl | rfl | rfl <;> rfl
theorem tw_set {i : Nat} (hi : i < 8) {g : Nat → Int32} : (pW G A N R Q ++ P).set (9 + i) (A (9 + i), .inl (G.2.2 0, 8, .inl g)) = pW G A N (va_up R (9 + i) g) Q ++ P := by
  rcases (show i = 0 ∨ i = 1 ∨ i = 2 ∨ i = 3 ∨ i = 4 ∨ i = 5 ∨ i = 6 ∨ i = 7 by omega) with rfl | rfl | rfl | rfl | rfl | rfl | rfl | rfl <;> rfl
theorem tyA7 {cy : Nat → ClassId} : (tysA cy)[7]? = some (cy 7, .array .int) := rfl
/-- a row of rows is read -/
theorem r_aalA (C : Cx X G nL cc own d mc ms) {ws : va_W} {a M : Nat} {f : Nat → Option Nat} {i : Int32} (q0 : Nat) (he : ws[q0]? = some (a, .inl (G.2.2 7, M, .inr (.inr (.inr (.inr f)))))) (hin : vp_in i M) (hdg : decode cc pc = .ok (.aaload, 1)) (kk : V X k n (pc + 1) L (va_rf (f i.toNatClampNeg) :: st) ws) : V X k n pc L (.int i :: .ref a :: st) ws := by
  obtain ⟨p, l, e, R, s, m, args, below, meth, c, D, cy, A, nX, Q⟩ := X
  obtain ⟨hx, hb, rfl, hml, hown, hts, hK, hA, hlocks, hfr, hlo, hce, hsl, hG1, hG2, hG3⟩ := C
  intro H locs ls hP hD hS hl
  have hlt : i.toNatClampNeg < M := Nat.not_le.mp fun q => hin (Or.inr q)
  rw [hG3] at he
  exact W.aald (v := va_rf (f i.toNatClampNeg)) (ty := .array .int) hx hb (hP q0 _ he) ((hK.2 7 _ rfl).1 M (fun j => va_rf (f j))) rfl (fun q => by cases q) (by show ¬ (i < 0 ∨ (arrV _ _ _).slots.size ≤ _); rw [arrV_size]; exact hin) (by show (arrV _ _ _).slots[_]? = _; rw [arrV_read _ _ hlt]) rfl rfl hdg (kk H locs ls hP hD hS hl)
theorem p_twl (C : Cx X G nL cc own d mc ms) {i : Nat} (hi : i < 8) (hdg : decode cc pc = .ok (.aaload, 1)) (kk : V X k n (pc + 1) L (.ref (A (9 + i)) :: st) (pW G A N R Q ++ P)) : V X k n pc L (.int (nI i) :: .ref (A 8) :: st) (pW G A N R Q ++ P) := by
  refine r_aalA C 8 rfl (vp_in_nI hi (by decide)) hdg ?_
  rw [nI_clamp (by omega), if_pos hi]
  exact kk
theorem p_tws (C : Cx X G nL cc own d mc ms) {i : Nat} {j x : Int32} (hi : i < 8) (hdg : decode cc pc = .ok (.iastore, 1)) (hin : vp_in j 8) (kk : V X k n (pc + 1) L st (pW G A N (va_up R (9 + i) (upd (R (9 + i)) j.toNatClampNeg x)) Q ++ P)) : V X k n pc L (.int x :: .int j :: .ref (A (9 + i)) :: st) (pW G A N R Q ++ P) :=
  r_iast C (9 + i) (tw_cell hi) hin (tw_set hi) hdg kk
theorem p_twld (C : Cx X G nL cc own d mc ms) {i : Nat} {j : Int32} (hi : i < 8) (hdg : decode cc pc = .ok (.iaload, 1)) (hin : vp_in j 8) (kk : V X k n (pc + 1) L (.int (R (9 + i) j.toNatClampNeg) :: st) (pW G A N R Q ++ P)) : V X k n pc L (.int j :: .ref (A (9 + i)) :: st) (pW G A N R Q ++ P) :=
  r_iald C (9 + i) (tw_cell hi) hin hdg kk
end PT
/-- what clearTraces has done up to the place p -/
def clT (R R' : Rt) (p : Nat) : Prop := (∀ i, i < p → R' 3 i = nI i ∧ R' 4 i = 0 ∧ R' 5 i = 0 ∧ R' 6 i = 0 ∧ R' 7 i = 0 ∧ ∀ j, j < 8 → R' (9 + i) j = 0) ∧ ∀ c, ¬ (3 ≤ c ∧ c ≤ 7) → ¬ (9 ≤ c ∧ c ≤ 16) → R' c = R c
section C4
variable (G : Gx) (A : Nat → Nat) (P : va_W) (N : Nt) (R : Rt) (Q : Qt)
theorem c_clearTraces : CV G yX3_clearTraces cX3_clearTraces 3 0 0 0 [.ref (A 0)] (pW G A N R Q ++ P) (S := Rt) (fun R' => clT R R' 8) (fun R' => pW G A (va_up N 0 (va_up (va_up (N 0) 4 0) 14 1)) R' Q ++ P) := by
  refine CV.intro (by decide) (Nat.le_of_ble_eq_true rfl) (cat1 (xs := [])) fun X C hR => ?_
  obtain ⟨N1, hN1⟩ : ∃ q, q = va_up N 0 (va_up (va_up (N 0) 4 0) 14 1) := ⟨_, rfl⟩
  rw [← hN1] at hR
  have c8 : (8 : Int32) = nI 8 := rfl
  have key : ∀ (f p : Nat) (R' : Rt), p + f = 8 → clT R R' p → ∀ L2 : Option Value, V X 0 0 12 [some (.ref (A 0)), some (.int (nI p)), L2] [] (pW G A N1 R' Q ++ P) := by
    intro f
    induction f with
    | zero =>
      intro p R' hp hc L2
      have hp8 : p = 8 := by omega
      subst hp8
      refine r_iload_n C dX3_clearTraces_12 rfl rfl ?_
      refine r_bipush (v := 8) C dX3_clearTraces_13 (by decide) ?_
      refine r_icmp_ge (tgt := 82) C dX3_clearTraces_15 (by decide) (fun c15 => ?_) (fun c15 => absurd c15 ((fun q => absurd (show (8 : Int32) ≤ nI 8 by decide) q)))
      exact hR _ _ _ _ R' (by decide) (by decide) hc dX3_clearTraces_82
    | succ f ih =>
      intro p R' hp hc L2
      have hp8 : p < 8 := by omega
      have inner : ∀ (g j : Nat) (R2 : Rt), j + g = 8 → (∀ c, c ≠ 9 + p → R2 c = va_up (va_up (va_up (va_up (va_up R' 3 (upd (R' 3) p (nI p))) 4 (upd (R' 4) p 0)) 5 (upd (R' 5) p 0)) 6 (upd (R' 6) p 0)) 7 (upd (R' 7) p 0) c) → (∀ i, i < j → R2 (9 + p) i = 0) → V X 0 0 55 [some (.ref (A 0)), some (.int (nI p)), some (.int (nI j))] [] (pW G A N1 R2 Q ++ P) := by
        intro g
        induction g with
        | zero =>
          intro j R2 hj hot hz
          have hj8 : j = 8 := by omega
          subst hj8
          refine r_iload_n C dX3_clearTraces_55 rfl rfl ?_
          refine r_bipush (v := 8) C dX3_clearTraces_56 (by decide) ?_
          refine r_icmp_ge (tgt := 76) C dX3_clearTraces_58 (by decide) (fun c58 => ?_) (fun c58 => absurd c58 ((fun q => absurd (show (8 : Int32) ≤ nI 8 by decide) q)))
          refine r_iinc (v := _ + 1) C dX3_clearTraces_76 rfl (by rfl) (by decide) ?_
          show V X 0 0 79 [some (.ref (A 0)), some (.int (nI p + 1)), _] _ _
          rw [nI_1]
          refine r_goto (tgt := 12) C dX3_clearTraces_79 (by decide) ?_
          refine ih (p + 1) R2 (by omega) ⟨fun i hi => ?_, fun c h1 h2 => ?_⟩ _
          · by_cases e : i = p
            · subst e
              refine ⟨?_, ?_, ?_, ?_, ?_, hz⟩
              · rw [hot 3 (by omega)]; exact pk_us
              · rw [hot 4 (by omega)]; exact pk_us
              · rw [hot 5 (by omega)]; exact pk_us
              · rw [hot 6 (by omega)]; exact pk_us
              · rw [hot 7 (by omega)]; exact pk_us
            · obtain ⟨a3, a4, a5, a6, a7, a9⟩ := hc.1 i (by omega)
              refine ⟨?_, ?_, ?_, ?_, ?_, fun q hq => ?_⟩
              · rw [hot 3 (by omega)]; exact (pk_un e).trans a3
              · rw [hot 4 (by omega)]; exact (pk_un e).trans a4
              · rw [hot 5 (by omega)]; exact (pk_un e).trans a5
              · rw [hot 6 (by omega)]; exact (pk_un e).trans a6
              · rw [hot 7 (by omega)]; exact (pk_un e).trans a7
              · rw [hot (9 + i) (by omega), va_up_no (by omega), va_up_no (by omega), va_up_no (by omega), va_up_no (by omega), va_up_no (by omega)]; exact a9 q hq
          · rw [hot c (by omega), va_up_no (by omega), va_up_no (by omega), va_up_no (by omega), va_up_no (by omega), va_up_no (by omega)]; exact hc.2 c h1 h2
        | succ g ih2 =>
          intro j R2 hj hot hz
          refine r_iload_n C dX3_clearTraces_55 rfl rfl ?_
          refine r_bipush (v := 8) C dX3_clearTraces_56 (by decide) ?_
          rw [c8]
          refine r_icmp_ge (tgt := 76) C dX3_clearTraces_58 (by decide) (fun c58 => absurd c58 ((by rw [nI_leI (by decide) (by omega)]; omega))) (fun c58 => ?_)
          refine r_aload_n C dX3_clearTraces_61 rfl rfl ?_
          refine pg_X3_55 C dX3_clearTraces_62 ?_
          refine r_iload_n C dX3_clearTraces_65 rfl rfl ?_
          refine p_twl C hp8 dX3_clearTraces_66 ?_
          refine r_iload_n C dX3_clearTraces_67 rfl rfl ?_
          refine r_iconst (v := 0) C dX3_clearTraces_68 (by decide) ?_
          refine p_tws C hp8 dX3_clearTraces_69 (vp_in_nI (show j < 8 by omega) (by decide)) ?_
          rw [nI_clamp (by omega)]
          refine r_iinc (v := _ + 1) C dX3_clearTraces_70 rfl (by rfl) (by decide) ?_
          show V X 0 0 73 [some (.ref (A 0)), some (.int (nI p)), some (.int (nI j + 1))] _ _
          rw [nI_1]
          refine r_goto (tgt := 55) C dX3_clearTraces_73 (by decide) ?_
          refine ih2 (j + 1) _ (by omega) (fun c hcn => ?_) (fun i hi => ?_)
          · rw [va_up_no hcn]; exact hot c hcn
          · rw [va_up_at]
            by_cases e : i = j
            · subst e; exact pk_us
            · rw [pk_un e]; exact hz i (by omega)
      refine r_iload_n C dX3_clearTraces_12 rfl rfl ?_
      refine r_bipush (v := 8) C dX3_clearTraces_13 (by decide) ?_
      rw [c8]
      refine r_icmp_ge (tgt := 82) C dX3_clearTraces_15 (by decide) (fun c15 => absurd c15 ((by rw [nI_leI (by decide) (by omega)]; omega))) (fun c15 => ?_)
      refine r_aload_n C dX3_clearTraces_18 rfl rfl ?_
      refine pg_X3_38 C dX3_clearTraces_19 ?_
      refine r_iload_n C dX3_clearTraces_22 rfl rfl ?_
      refine r_iload_n C dX3_clearTraces_23 rfl rfl ?_
      refine ps_3 C dX3_clearTraces_24 (vp_in_nI hp8 (by decide)) ?_
      refine r_aload_n C dX3_clearTraces_25 rfl rfl ?_
      refine pg_X3_41 C dX3_clearTraces_26 ?_
      refine r_iload_n C dX3_clearTraces_29 rfl rfl ?_
      refine r_iconst (v := 0) C dX3_clearTraces_30 (by decide) ?_
      refine ps_4 C dX3_clearTraces_31 (vp_in_nI hp8 (by decide)) ?_
      refine r_aload_n C dX3_clearTraces_32 rfl rfl ?_
      refine pg_X3_44 C dX3_clearTraces_33 ?_
      refine r_iload_n C dX3_clearTraces_36 rfl rfl ?_
      refine r_iconst (v := 0) C dX3_clearTraces_37 (by decide) ?_
      refine ps_5 C dX3_clearTraces_38 (vp_in_nI hp8 (by decide)) ?_
      refine r_aload_n C dX3_clearTraces_39 rfl rfl ?_
      refine pg_X3_47 C dX3_clearTraces_40 ?_
      refine r_iload_n C dX3_clearTraces_43 rfl rfl ?_
      refine r_iconst (v := 0) C dX3_clearTraces_44 (by decide) ?_
      refine ps_6 C dX3_clearTraces_45 (vp_in_nI hp8 (by decide)) ?_
      refine r_aload_n C dX3_clearTraces_46 rfl rfl ?_
      refine pg_X3_50 C dX3_clearTraces_47 ?_
      refine r_iload_n C dX3_clearTraces_50 rfl rfl ?_
      refine r_iconst (v := 0) C dX3_clearTraces_51 (by decide) ?_
      refine ps_7 C dX3_clearTraces_52 (vp_in_nI hp8 (by decide)) ?_
      refine r_iconst (v := 0) C dX3_clearTraces_53 (by decide) ?_
      refine r_istore_n C dX3_clearTraces_54 rfl (by decide) ?_
      refine inner 8 0 _ rfl (fun c _ => ?_) (fun i hi => absurd hi (by omega))
      rw [nI_clamp (by omega)]
      rfl
  refine r_aload_n C dX3_clearTraces_0 rfl rfl ?_
  refine r_iconst (v := 0) C dX3_clearTraces_1 (by decide) ?_
  refine pp_X3_25 C dX3_clearTraces_2 ?_
  refine r_aload_n C dX3_clearTraces_5 rfl rfl ?_
  refine r_iconst (v := 1) C dX3_clearTraces_6 (by decide) ?_
  refine pp_X3_58 C (Or.inr rfl) dX3_clearTraces_7 ?_
  refine r_iconst (v := 0) C dX3_clearTraces_10 (by decide) ?_
  refine r_istore_n C dX3_clearTraces_11 rfl (by decide) ?_
  rw [up_up, va_up_at, ← hN1]
  exact key 8 0 R rfl ⟨fun i hi => absurd hi (by omega), fun _ _ _ => rfl⟩ none
end C4
