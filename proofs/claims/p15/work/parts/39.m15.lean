/-! the reference: drops -/
theorem va_up_at {α : Type} {f : Nat → α} {k : Nat} {v : α} : va_up f k v k = v := if_pos rfl
theorem va_up_no {α : Type} {f : Nat → α} {k j : Nat} {v : α} (h : j ≠ k) : va_up f k v j = f j := if_neg h
section M15
variable (G : Gx) (h : Nat) (ad : Nat → Nat) (M : Mt) (R : Rt)
theorem c_drops {s N n0 : Nat} {A : Sq} (hN : N ≤ 600) (hn : n0 ≤ N) (hs : s ≤ 7) (hc : Can s N A) (hM : M 19 = nI n0) (hA : SeqOK R n0 s A) (hz : ∀ f, n0 ≤ f → A f = idF) : mV G h ad yX7_drops cX7_drops 5 2 [.int (nI s)] M R (fun M' R' => ∃ n' P A', n' ≤ n0 ∧ M' = va_up M 19 (nI n') ∧ R' = va_up R 18 P ∧ Rch s N A A' ∧ SeqOK R' n' s A' ∧ (∀ f, n' ≤ f → A' f = idF) ∧ ∀ f, f < n' → A' f ≠ idF) := by
  refine mV.intro (by decide) (Nat.le_of_ble_eq_true rfl) (cat1 (xs := [nI s])) fun X C hR => ?_
  have key : ∀ (d f t : Nat) (P : Nat → Int32) (B : Sq) (o4 : Option Value), f + d = n0 → t ≤ f → Rch s N A B → (∀ q, q < t → B q ≠ idF ∧ ∀ x, 1 ≤ x → x ≤ s → P (8 * q + x) = nI (B q x)) → (∀ q, t ≤ q → q < f → B q = idF) → (∀ q, f ≤ q → B q = A q) → (∀ q, f ≤ q → q < n0 → ∀ x, 1 ≤ x → x ≤ s → P (8 * q + x) = nI (A q x)) → V X 0 0 4 [some (.ref h), some (.int (nI s)), some (.int (nI t)), some (.int (nI f)), o4] [] (mW G h ad M (va_up R 18 P)) := by
    intro d
    induction d with
    | zero =>
      intro f t P B o4 hfd htf hr h1 h2 h3 h4
      have hfn : f = n0 := by omega
      subst hfn
      refine r_iload_n C dX7_drops_4 rfl rfl ?_
      refine r_aload_n C dX7_drops_5 rfl rfl ?_
      refine mg_perms C dX7_drops_6 ?_
      show V X 0 0 9 _ [.int (M 19), .int (nI f)] _
      rw [hM]
      refine r_icmp_ge (tgt := 67) C dX7_drops_9 (by decide) (fun c9 => ?_) (fun c9 => absurd c9 ((fun q => q (nI_le (by omega) (by omega)))))
      refine r_aload_n C dX7_drops_67 rfl rfl ?_
      refine r_iload_n C dX7_drops_68 rfl rfl ?_
      refine mp_perms C dX7_drops_69 ?_
      exact hR _ _ _ _ dX7_drops_72 ⟨t, P, B, htf, rfl, rfl, hr, fun q hq x x1 x2 => (h1 q hq).2 x x1 x2, fun q hq => by
        by_cases e : q < f
        · exact h2 q hq e
        · rw [h3 q (by omega)]; exact hz q (by omega), fun q hq => (h1 q hq).1⟩
    | succ d ih =>
      intro f t P B o4 hfd htf hr h1 h2 h3 h4
      have hcB := hr.can hc
      have hF : FacOK (va_up R 18 P) f s (A f) := ⟨h4 f (Nat.le_refl _) (by omega), (hc.1 f).1⟩
      have skipIt : A f = idF → ∀ o4 : Option Value, V X 0 0 61 [some (.ref h), some (.int (nI s)), some (.int (nI t)), some (.int (nI f)), o4] [] (mW G h ad M (va_up R 18 P)) := by
        intro he o4
        refine r_iinc (v := _ + 1) C dX7_drops_61 rfl (by rfl) (by decide) ?_
        rw [nI_1]
        refine r_goto (tgt := 4) C dX7_drops_64 (by decide) ?_
        exact ih (f + 1) t P B _ (by omega) (by omega) hr h1 (fun q q1 q2 => by
          by_cases e : q = f
          · subst e; rw [h3 q (Nat.le_refl _)]; exact he
          · exact h2 q q1 (by omega)) (fun q hq => h3 q (by omega)) (fun q hq => h4 q (by omega))
      have copy : A f ≠ idF → ∀ (n x : Nat) (P' : Nat → Int32), x + n = s + 1 → 1 ≤ x → (∀ q, q < t → ∀ y, 1 ≤ y → y ≤ s → P' (8 * q + y) = nI (B q y)) → (∀ y, 1 ≤ y → y < x → P' (8 * t + y) = nI (A f y)) → (∀ q, f < q → q < n0 → ∀ y, 1 ≤ y → y ≤ s → P' (8 * q + y) = nI (A q y)) → (∀ y, x ≤ y → y ≤ s → P' (8 * f + y) = nI (A f y)) → V X 0 0 27 [some (.ref h), some (.int (nI s)), some (.int (nI t)), some (.int (nI f)), some (.int (nI x))] [] (mW G h ad M (va_up R 18 P')) := by
        intro hne n
        induction n with
        | zero =>
          intro x P' hxn hx1 q1 q2 q3 q4
          have hbub := bub (f - t) t B hcB (by omega) (fun q w1 w2 => h2 q w1 (by omega))
          rw [show t + (f - t) = f by omega, h3 f (Nat.le_refl _)] at hbub
          refine r_iload C dX7_drops_27 rfl ?_
          refine r_iload_n C dX7_drops_29 rfl rfl ?_
          refine r_icmp_gt (tgt := 58) C dX7_drops_30 (by decide) (fun c30 => ?_) (fun c30 => absurd c30 ((fun q => q (nI_lt (by omega) (by omega)))))
          refine r_iinc (v := _ + 1) C dX7_drops_58 rfl (by rfl) (by decide) ?_
          rw [nI_1]
          refine r_iinc (v := _ + 1) C dX7_drops_61 rfl (by rfl) (by decide) ?_
          rw [nI_1]
          refine r_goto (tgt := 4) C dX7_drops_64 (by decide) ?_
          exact ih (f + 1) (t + 1) P' (va_up (va_up B f idF) t (A f)) _ (by omega) (by omega) (hr.trans hbub) (fun q hq => by
            by_cases e : q = t
            · subst e
              rw [va_up_at]
              exact ⟨hne, fun y y1 y2 => q2 y y1 (by omega)⟩
            · rw [va_up_no e, va_up_no (by omega)]
              exact ⟨(h1 q (by omega)).1, q1 q (by omega)⟩) (fun q w1 w2 => by
            rw [va_up_no (by omega)]
            by_cases e : q = f
            · subst e; exact va_up_at
            · rw [va_up_no e]; exact h2 q (by omega) (by omega)) (fun q hq => by rw [va_up_no (by omega), va_up_no (by omega)]; exact h3 q (by omega)) (fun q hq => q3 q (by omega))
        | succ n ih2 =>
          intro x P' hxn hx1 q1 q2 q3 q4
          refine r_iload C dX7_drops_27 rfl ?_
          refine r_iload_n C dX7_drops_29 rfl rfl ?_
          refine r_icmp_gt (tgt := 58) C dX7_drops_30 (by decide) (fun c30 => absurd c30 ((nI_nlt (by omega) (by omega)))) (fun c30 => ?_)
          refine r_aload_n C dX7_drops_33 rfl rfl ?_
          refine mg_perm C dX7_drops_34 ?_
          refine r_bipush (v := 8) C dX7_drops_37 (by decide) ?_
          refine r_iload_n C dX7_drops_39 rfl rfl ?_
          refine r_imul C dX7_drops_40 ?_
          refine r_iload C dX7_drops_41 rfl ?_
          refine r_iadd C dX7_drops_43 ?_
          refine r_aload_n C dX7_drops_44 rfl rfl ?_
          refine r_iload_n C dX7_drops_45 rfl rfl ?_
          refine r_iload C dX7_drops_46 rfl ?_
          refine m_calli C (c_get G h ad M (va_up R 18 P') f x (by omega) (by omega)) kM_get dX7_drops_48 rfl (by decide) (by decide) (by decide) (Nat.le_of_ble_eq_true rfl) rfl rfl (fun r M1 R1 hq => ?_)
          obtain ⟨rfl, rfl, rfl⟩ := hq
          rw [show va_up R 18 P' 18 (8 * f + x) = nI (A f x) from q4 x (Nat.le_refl _) (by omega)]
          show V X 0 0 51 _ [.int (nI (A f x)), .int (nI 8 * nI t + nI x), .ref (ad 18)] _
          rw [pk_mul, nI_add]
          refine ms_perm C dX7_drops_51 (vp_in_nI (show 8 * t + x < 4808 by omega) (by decide)) ?_
          rw [nI_clamp (by omega)]
          show V X 0 0 52 _ _ (mW G h ad _ (va_up (va_up R 18 P') 18 (upd P' (8 * t + x) (nI (A f x)))))
          rw [up_up]
          refine r_iinc (v := _ + 1) C dX7_drops_52 rfl (by rfl) (by decide) ?_
          rw [nI_1]
          refine r_goto (tgt := 27) C dX7_drops_55 (by decide) ?_
          exact ih2 (x + 1) _ (by omega) (by omega) (fun q hq y y1 y2 => by rw [pk_un (by omega)]; exact q1 q hq y y1 y2) (fun y y1 y2 => by
            by_cases e : y = x
            · subst e; exact pk_us
            · rw [pk_un (by omega)]; exact q2 y y1 (by omega)) (fun q w1 w2 y y1 y2 => by rw [pk_un (by omega)]; exact q3 q w1 w2 y y1 y2) (fun y y1 y2 => by rw [pk_un (by omega)]; exact q4 y (by omega) y2)
      refine r_iload_n C dX7_drops_4 rfl rfl ?_
      refine r_aload_n C dX7_drops_5 rfl rfl ?_
      refine mg_perms C dX7_drops_6 ?_
      show V X 0 0 9 _ [.int (M 19), .int (nI f)] _
      rw [hM]
      refine r_icmp_ge (tgt := 67) C dX7_drops_9 (by decide) (fun c9 => absurd c9 ((nI_ge (by omega) (by omega)))) (fun c9 => ?_)
      refine r_aload_n C dX7_drops_12 rfl rfl ?_
      refine r_iload_n C dX7_drops_13 rfl rfl ?_
      refine r_iload_n C dX7_drops_14 rfl rfl ?_
      refine m_calli C (c_isNothing G h ad M (va_up R 18 P) (show f ≤ 600 by omega) hs hF) kM_isNothing dX7_drops_15 rfl (by decide) (by decide) (by decide) (Nat.le_of_ble_eq_true rfl) rfl rfl (fun r M1 R1 hq => ?_)
      obtain ⟨hr2, rfl, rfl⟩ := hq
      refine r_if_eq (tgt := 24) C dX7_drops_18 (by decide) (fun c18 => ?_) (fun c18 => ?_)
      · refine r_iconst (v := 1) C dX7_drops_24 (by decide) ?_
        refine r_istore C dX7_drops_25 (by decide) ?_
        exact copy (fun e => hr2.elim (fun q => absurd (q.1.symm.trans c18) (by decide)) (fun q => q.2 (fun x _ _ => by rw [e]; rfl))) s 1 P (by omega) (Nat.le_refl _) (fun q hq => (h1 q hq).2) (fun y y1 y2 => by omega) (fun q w1 w2 => h4 q (by omega) w2) (fun y y1 y2 => h4 f (Nat.le_refl _) (by omega) y y1 y2)
      · refine r_goto (tgt := 61) C dX7_drops_21 (by decide) ?_
        exact skipIt (can_id hc (hr2.elim (fun q => q.2) (fun q => absurd q.1 c18))) _
  have q0 := key n0 0 0 (R 18) A none (by omega) (Nat.le_refl _) Rch.rf (fun q hq => by omega) (fun q _ hq => by omega) (fun q _ => rfl) (fun q _ hq x x1 x2 => hA q hq x x1 x2)
  rw [up_same rfl] at q0
  refine r_iconst (v := 0) C dX7_drops_0 (by decide) ?_
  refine r_istore_n C dX7_drops_1 rfl (by decide) ?_
  refine r_iconst (v := 0) C dX7_drops_2 (by decide) ?_
  refine r_istore_n C dX7_drops_3 rfl (by decide) ?_
  exact q0
end M15
