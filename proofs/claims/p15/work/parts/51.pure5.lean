/-! reading as a function: a state (at, many, deep, row, kinds, froms) to a fault or the next state -/
abbrev Rst : Type := Nat × Nat × Nat × (Nat → Int32) × (Nat → Nat) × (Nat → Nat)
abbrev Rout : Type := Sum (Int32 × Nat) Rst
def opF (a : Nat) (q : Rst) (kv : Nat) : Rout := if q.2.2.1 = 8 then .inl (2, a) else .inr (a + 1, q.2.1, q.2.2.1 + 1, q.2.2.2.1, va_up q.2.2.2.2.1 q.2.2.1 kv, va_up q.2.2.2.2.2 q.2.2.1 q.2.1)
def clF (n : Nat) (q : Rst) : Rout :=
  if q.2.2.1 = 0 then .inl (1, q.1)
  else if q.2.2.2.2.1 (q.2.2.1 - 1) < 100 ∧ 300 < q.2.2.2.2.2 (q.2.2.1 - 1) + (q.2.1 - q.2.2.2.2.2 (q.2.2.1 - 1)) * q.2.2.2.2.1 (q.2.2.1 - 1) then .inl (2, q.1)
  else .inr (q.1 + 1, clN (q.2.2.2.2.1 (q.2.2.1 - 1)) (q.2.2.2.2.2 (q.2.2.1 - 1)) (q.2.1 - q.2.2.2.2.2 (q.2.2.1 - 1)), q.2.2.1 - 1, clR n (q.2.2.2.2.1 (q.2.2.1 - 1)) q.2.2.2.1 (q.2.2.2.2.2 (q.2.2.1 - 1)) (q.2.1 - q.2.2.2.2.2 (q.2.2.1 - 1)), q.2.2.2.2.1, q.2.2.2.2.2)
/-- md: whether the length is asked before the straws -/
def ptF (md : Bool) (p5 p6 p7 : Nat → Int32) (n : Nat) (q : Rst) (a1 dg v : Nat) : Rout :=
  if dg = 0 then .inl (1, a1)
  else if 7 < v ∨ 2 < dg then .inl (2, a1)
  else if p5 v ≠ nI n then .inl (if md = true ∧ 0 < p5 v ∧ 300 < q.2.1 + cl (p6 v) then 2 else 3, a1)
  else if 300 < q.2.1 + cl (p6 v) then .inl (2, a1)
  else .inr (a1 + dg, q.2.1 + cl (p6 v), q.2.2.1, apR q.2.2.2.1 q.2.1 (fun i => p7 (300 * v + i)), q.2.2.2.2.1, q.2.2.2.2.2)
def nuF (n : Nat) (q : Rst) (a3 v : Nat) (c1 : Int32) : Rout :=
  if c1 = 40 then (if 1 ≤ v ∧ v ≤ 50 then opF a3 q v else .inl (2, q.1))
  else if c1 ≠ 43 ∧ c1 ≠ 45 then .inl (1, a3)
  else if ¬ (1 ≤ v ∧ v < n) then .inl (2, q.1)
  else if 300 ≤ q.2.1 then .inl (2, a3)
  else .inr (a3 + 1, q.2.1 + 1, q.2.2.1, upd q.2.2.2.1 q.2.1 (if c1 = 43 then nI v else -nI v), q.2.2.2.2.1, q.2.2.2.2.2)
def stepF (md : Bool) (t p5 p6 p7 : Nat → Int32) (e n : Nat) (q : Rst) : Rout :=
  if t q.1 = 41 then clF n q
  else if t q.1 = 117 ∨ t q.1 = 109 ∨ t q.1 = 116 then (if skipTo t e (q.1 + 1) < e ∧ t (skipTo t e (q.1 + 1)) = 40 then opF (skipTo t e (q.1 + 1)) q (cl (t q.1)) else .inl (1, skipTo t e (q.1 + 1)))
  else if t q.1 = 112 then ptF md p5 p6 p7 n q (skipTo t e (q.1 + 1)) (dgs t e (skipTo t e (q.1 + 1))) (rvF t (skipTo t e (q.1 + 1)) (dgs t e (skipTo t e (q.1 + 1))))
  else if ¬ (q.1 < e ∧ 48 ≤ t q.1 ∧ t q.1 ≤ 57) then .inl (1, q.1)
  else nuF n q (skipTo t e (q.1 + dgs t e q.1)) (rvF t q.1 (dgs t e q.1)) (if skipTo t e (q.1 + dgs t e q.1) < e then t (skipTo t e (q.1 + dgs t e q.1)) else 0)
/-- where the machine stands: at a fault, or at a state -/
def RdO (M' : Mt) (R' : Rt) (e n : Nat) (r : Int32) (o : Rout) : Prop := match o with
  | .inl f => RdF M' e r f.1 f.2
  | .inr q => r = 1 ∧ RdS M' R' e n q.1 q.2.1 q.2.2.1 q.2.2.2.1 q.2.2.2.2.1 q.2.2.2.2.2
theorem opO_real {M' : Mt} {R' : Rt} {e n a mny dp : Nat} {row : Nat → Int32} {kd fr : Nat → Nat} {kv a0 : Nat} {r : Int32} (h : opO M' R' e n a mny dp row kd fr kv r) : RdO M' R' e n r (opF a (a0, mny, dp, row, kd, fr) kv) := by
  unfold opF
  rcases h with ⟨h1, h2⟩ | ⟨h1, h2, h3⟩
  · rw [if_pos (show (a0, mny, dp, row, kd, fr).2.2.1 = 8 from h1)]; exact h2
  · rw [if_neg (show ¬ (a0, mny, dp, row, kd, fr).2.2.1 = 8 from by show ¬ dp = 8; omega)]; exact ⟨h2, h3⟩
theorem clO_real {M' : Mt} {R' : Rt} {e n a mny dp : Nat} {row : Nat → Int32} {kd fr : Nat → Nat} {r : Int32} (h : clO M' R' e n a mny dp row kd fr r) : RdO M' R' e n r (clF n (a, mny, dp, row, kd, fr)) := by
  unfold clF
  dsimp only
  rcases h with ⟨h1, h2⟩ | ⟨h1, h2, h3, h4⟩ | ⟨h1, h2, h3, h4⟩
  · rw [if_pos h1]; exact h2
  · rw [if_neg (by omega), if_pos ⟨h2, h3⟩]; exact h4
  · rw [if_neg (by omega), if_neg]
    · exact ⟨h3, h4⟩
    · intro w
      unfold clN at h2
      rw [if_pos w.1] at h2
      omega
theorem ptO_real {R : Rt} {M' : Mt} {R' : Rt} {e n a mny dp : Nat} {row : Nat → Int32} {kd fr : Nat → Nat} {a1 dg v : Nat} {r : Int32} (h : ptO R M' R' e n mny dp row kd fr a1 dg v r) : RdO M' R' e n r (ptF false (R 5) (R 6) (R 7) n (a, mny, dp, row, kd, fr) a1 dg v) := by
  unfold ptF
  dsimp only
  rcases h with ⟨h1, h2⟩ | ⟨h1, h2, h3⟩ | ⟨h1, h2, h3, h4, h5⟩ | ⟨z, h1, h2, h3, h4, h5, h6⟩ | ⟨z, h1, h2, h3, h4, h5, h6, h7⟩
  · rw [if_pos h1]; exact h2
  · rw [if_neg (by omega), if_pos h2]; exact h3
  · rw [if_neg (by omega), if_neg (by omega), if_pos h4, if_neg (fun w => absurd w.1 (by decide))]; exact h5
  · have hz : cl (R 6 v) = z := by rw [h4.2.2.2.1]; exact nI_clamp (by have := h4.2.2.2.2.1; omega)
    rw [if_neg (by omega), if_neg (by omega), if_neg (fun w => w h4.1), hz, if_pos h5]; exact h6
  · have hz : cl (R 6 v) = z := by rw [h4.2.2.2.1]; exact nI_clamp (by have := h4.2.2.2.2.1; omega)
    rw [if_neg (by omega), if_neg (by omega), if_neg (fun w => w h4.1), hz, if_neg (by omega)]; exact ⟨h6, h7⟩
theorem nuO_real {M' : Mt} {R' : Rt} {e n a mny dp : Nat} {row : Nat → Int32} {kd fr : Nat → Nat} {a3 v : Nat} {c1 r : Int32} (h : nuO M' R' e n mny dp row kd fr a a3 v c1 r) : RdO M' R' e n r (nuF n (a, mny, dp, row, kd, fr) a3 v c1) := by
  unfold nuF
  have ne40 : (c1 = 43 ∨ c1 = 45) → ¬ c1 = 40 := fun w q => by rcases w with w | w <;> rw [w] at q <;> exact absurd q (by decide)
  rcases h with ⟨h1, h2, h3, h4⟩ | ⟨h1, h2, h3⟩ | ⟨h1, h2, h3, h4⟩ | ⟨h1, h2, h3⟩ | ⟨h1, h2, h3, h4, h5⟩ | ⟨h1, h2, h3, h4, h5, h6⟩
  · rw [if_pos h1, if_pos ⟨h2, h3⟩]; exact opO_real h4
  · rw [if_pos h1, if_neg h2]; exact h3
  · rw [if_neg h1, if_pos ⟨h2, h3⟩]; exact h4
  · rw [if_neg (ne40 h1), if_neg (fun w => h1.elim w.1 w.2), if_pos h2]; exact h3
  · rw [if_neg (ne40 h1), if_neg (fun w => h1.elim w.1 w.2), if_neg (fun w => w ⟨h2, h3⟩), if_pos (show 300 ≤ mny by omega)]; exact h5
  · rw [if_neg (ne40 h1), if_neg (fun w => h1.elim w.1 w.2), if_neg (fun w => w ⟨h2, h3⟩), if_neg (show ¬ 300 ≤ mny by omega)]; exact ⟨h5, h6⟩
theorem itO_real {R : Rt} {M' : Mt} {R' : Rt} {e n a mny dp : Nat} {row : Nat → Int32} {kd fr : Nat → Nat} {r : Int32} (h : itO R M' R' e n a mny dp row kd fr r) : RdO M' R' e n r (stepF false (R 1) (R 5) (R 6) (R 7) e n (a, mny, dp, row, kd, fr)) := by
  unfold stepF
  dsimp only
  rcases h with ⟨h1, h2⟩ | ⟨kv, h1, h2, h3⟩ | ⟨h1, h2⟩ | ⟨h1, h2, h3, h4, h5, h6, h7⟩ | ⟨h1, h2⟩
  · rw [if_pos h1]; exact clO_real h2
  · have hor : R 1 a = 117 ∨ R 1 a = 109 ∨ R 1 a = 116 := by rw [h2]; rcases h1 with q | q | q <;> subst q <;> decide
    have h41 : ¬ R 1 a = 41 := by rw [h2]; rcases h1 with q | q | q <;> subst q <;> decide
    rw [if_neg h41, if_pos hor]
    rcases h3 with ⟨w1, w2, w3⟩ | ⟨w1, w2⟩
    · rw [if_pos ⟨w1, w2⟩, show cl (R 1 a) = kv by rw [h2]; exact nI_clamp (by omega)]; exact opO_real w3
    · rw [if_neg w1]; exact w2
  · rw [if_neg (by rw [h1]; decide), if_neg (by rw [h1]; decide), if_pos h1]; exact ptO_real h2
  · rw [if_neg h1, if_neg (fun w => w.elim h2 (fun w => w.elim h3 h4)), if_neg h5, if_pos (show ¬ (a < e ∧ 48 ≤ R 1 a ∧ R 1 a ≤ 57) from h6)]; exact h7
  · obtain ⟨g1, g2, g3⟩ := id h1
    have hge : ∀ c : Int32, (57 < c ∨ c < 48) → R 1 a ≠ c := fun c hc q => by
      rw [q] at g2 g3
      rcases hc with hc | hc
      · exact absurd (Int32.lt_of_lt_of_le hc g3) (Int32.lt_irrefl)
      · exact absurd (Int32.lt_of_le_of_lt g2 hc) (Int32.lt_irrefl)
    rw [if_neg (hge _ (by decide)), if_neg (fun w => w.elim (hge _ (by decide)) (fun w => w.elim (hge _ (by decide)) (hge _ (by decide)))), if_neg (hge _ (by decide)), if_neg (show ¬ ¬ (a < e ∧ 48 ≤ R 1 a ∧ R 1 a ≤ 57) from fun w => w h1)]
    exact nuO_real h2
/-- a step goes on by a byte or more -/
theorem stepF_lt {md : Bool} {t p5 p6 p7 : Nat → Int32} {e n : Nat} {q q' : Rst} (hq : q.1 < e) (h : stepF md t p5 p6 p7 e n q = .inr q') : q.1 < q'.1 := by
  have hs := skipTo_le (t := t) (e := e) (a := q.1 + 1) (by omega)
  have hop : ∀ (a kv : Nat), q.1 < a + 1 → opF a q kv = .inr q' → q.1 < q'.1 := fun a kv ha w => by
    unfold opF at w
    split at w
    · cases w
    · cases w; exact ha
  unfold stepF at h
  split at h
  · unfold clF at h
    split at h
    · cases h
    · split at h
      · cases h
      · cases h; exact Nat.lt_succ_self _
  · split at h
    · split at h
      · exact hop _ _ (by omega) h
      · cases h
    · split at h
      · unfold ptF at h
        split at h
        · cases h
        · split at h
          · cases h
          · split at h
            · cases h
            · split at h
              · cases h
              · cases h; show q.1 < _ + _; omega
      · split at h
        · cases h
        · next hd =>
          have hd : isDg t e q.1 := Classical.not_not.mp hd
          have hdl := dgs_le (t := t) (e := e) (e - q.1) q.1 (by omega) (Nat.le_refl _)
          have hdp : 0 < dgs t e q.1 := by rw [dgs_go hd]; omega
          have hs2 := skipTo_le (t := t) (e := e) (a := q.1 + dgs t e q.1) hdl
          generalize (if skipTo t e (q.1 + dgs t e q.1) < e then t (skipTo t e (q.1 + dgs t e q.1)) else 0) = c1 at h
          unfold nuF at h
          split at h
          · split at h
            · exact hop _ _ (by omega) h
            · cases h
          · split at h
            · cases h
            · split at h
              · cases h
              · split at h
                · cases h
                · cases h; show q.1 < _ + 1; omega
def runF (md : Bool) (t p5 p6 p7 : Nat → Int32) (e n : Nat) : Nat → Rst → Rout
  | 0, q => .inr q
  | f + 1, q => if q.1 < e then (match stepF md t p5 p6 p7 e n q with
      | .inl x => .inl x
      | .inr q' => runF md t p5 p6 p7 e n f (skipTo t e q'.1, q'.2)) else if 0 < q.2.2.1 then .inl (1, e) else .inr q
/-- the whole text read -/
def readF (md : Bool) (t p5 p6 p7 : Nat → Int32) (e n : Nat) : Rout := runF md t p5 p6 p7 e n (e + 1) (skipTo t e 0, 0, 0, fun _ => 0, fun _ => 0, fun _ => 0)
theorem runF_stop {md : Bool} {t p5 p6 p7 : Nat → Int32} {e n f : Nat} {q : Rst} (h : ¬ q.1 < e) : runF md t p5 p6 p7 e n (f + 1) q = if 0 < q.2.2.1 then .inl (1, e) else .inr q := if_neg h
theorem runF_bad {md : Bool} {t p5 p6 p7 : Nat → Int32} {e n f : Nat} {q : Rst} {x : Int32 × Nat} (h : q.1 < e) (hs : stepF md t p5 p6 p7 e n q = .inl x) : runF md t p5 p6 p7 e n (f + 1) q = .inl x := by
  show (if q.1 < e then _ else _) = _
  rw [if_pos h, hs]
theorem runF_go {md : Bool} {t p5 p6 p7 : Nat → Int32} {e n f : Nat} {q q' : Rst} (h : q.1 < e) (hs : stepF md t p5 p6 p7 e n q = .inr q') : runF md t p5 p6 p7 e n (f + 1) q = runF md t p5 p6 p7 e n f (skipTo t e q'.1, q'.2) := by
  show (if q.1 < e then _ else _) = _
  rw [if_pos h, hs]
