/-! Pattern: rings and home, holds, become -/
section PB
variable (G : Gx) (A : Nat → Nat) (P : va_W) (N : Nt) (R : Rt) (Q : Qt)
theorem c_lcm {a b : Nat} (ha : a ≤ 1000) (hb : b ≤ 7) (hb1 : 1 ≤ b) : CI G yX3_leastCommonMultiple cX3_leastCommonMultiple 3 .int 0 0 0 [.int (nI a), .int (nI b)] [] (S := Nat) (fun r v => r = nI v ∧ isLcm a b v) (fun _ => []) := by
  refine CI.intro (by decide) (Nat.le_of_ble_eq_true rfl) (cat0 (xs := [nI a, nI b])) fun X C hR => ?_
  have key : ∀ (f t : Nat), t + f = b → 1 ≤ t → (∀ t', 1 ≤ t' → t' < t → ¬ b ∣ a * t') → V X 0 0 2 [some (.int (nI a)), some (.int (nI b)), some (.int (nI t))] [] [] := by
    intro f
    induction f with
    | zero =>
      intro t ht h1 hno
      have htb : t = b := by omega
      subst htb
      refine r_iload_n C dX3_leastCommonMultiple_2 rfl rfl ?_
      refine r_iload_n C dX3_leastCommonMultiple_3 rfl rfl ?_
      refine r_icmp_ge (tgt := 25) C dX3_leastCommonMultiple_4 (by decide) (fun c4 => ?_) (fun c4 => absurd c4 ((fun q => q (by rw [nI_leI (by omega) (by omega)]; omega))))
      refine r_iload_n C dX3_leastCommonMultiple_25 rfl rfl ?_
      refine r_iload_n C dX3_leastCommonMultiple_26 rfl rfl ?_
      refine r_imul C dX3_leastCommonMultiple_27 ?_
      exact hR _ _ _ _ _ (a * t) (by decide) (by decide) rfl ⟨pk_mul a t, t, rfl, h1, Nat.le_refl _, Nat.dvd_mul_left t a, hno⟩ dX3_leastCommonMultiple_28
    | succ f ih =>
      intro t ht h1 hno
      have hat : a * t ≤ 1000 * 7 := Nat.mul_le_mul ha (by omega)
      have e : nI a * nI t - nI a * nI t / nI b * nI b = nI (a * t % b) := by rw [pk_mul, pk_rem (by omega) (by omega) (by omega)]
      have hm := Nat.mod_lt (a * t) (show b > 0 by omega)
      refine r_iload_n C dX3_leastCommonMultiple_2 rfl rfl ?_
      refine r_iload_n C dX3_leastCommonMultiple_3 rfl rfl ?_
      refine r_icmp_ge (tgt := 25) C dX3_leastCommonMultiple_4 (by decide) (fun c4 => absurd c4 ((by rw [nI_leI (by omega) (by omega)]; omega))) (fun c4 => ?_)
      refine r_iload_n C dX3_leastCommonMultiple_7 rfl rfl ?_
      refine r_iload_n C dX3_leastCommonMultiple_8 rfl rfl ?_
      refine r_imul C dX3_leastCommonMultiple_9 ?_
      refine r_iload_n C dX3_leastCommonMultiple_10 rfl rfl ?_
      refine r_irem C dX3_leastCommonMultiple_11 (fun q => absurd q (nI_ne0 (by omega) (by omega))) ?_
      rw [e]
      refine r_if_ne (tgt := 19) C dX3_leastCommonMultiple_12 (by decide) (fun c12 => ?_) (fun c12 => ?_)
      · refine r_iinc (v := _ + 1) C dX3_leastCommonMultiple_19 rfl (by rfl) (by decide) ?_
        refine r_goto (tgt := 2) C dX3_leastCommonMultiple_22 (by decide) ?_
        show V X 0 0 2 [_, _, some (.int (nI t + 1))] _ _
        rw [nI_1]
        refine ih (t + 1) (by omega) (by omega) (fun t' a1 a2 => ?_)
        rcases (show t' < t ∨ t' = t by omega) with q | q
        · exact hno t' a1 q
        · subst q
          intro hd
          exact c12 (by rw [Nat.mod_eq_zero_of_dvd hd]; rfl)
      · refine r_iload_n C dX3_leastCommonMultiple_15 rfl rfl ?_
        refine r_iload_n C dX3_leastCommonMultiple_16 rfl rfl ?_
        refine r_imul C dX3_leastCommonMultiple_17 ?_
        exact hR _ _ _ _ _ (a * t) (by decide) (by decide) rfl ⟨pk_mul a t, t, rfl, h1, by omega, Nat.dvd_of_mod_eq_zero ((nI_eq (b := 0) (by omega) (by decide)).mp c12), hno⟩ dX3_leastCommonMultiple_18
  refine r_iconst (v := 1) C dX3_leastCommonMultiple_0 (by decide) ?_
  refine r_istore_n C dX3_leastCommonMultiple_1 rfl (by decide) ?_
  exact key (b - 1) 1 (by omega) (Nat.le_refl _) (fun t' a1 a2 => absurd a2 (by omega))
/-- rings and home as they are told -/
theorem c_walkRings {g : Nat → Nat} {s : Nat} (hP : PermOn g s) (hs2 : 2 ≤ s) (hs7 : s ≤ 7) (h3 : N 0 3 = nI s) (h2 : ∀ p, 1 ≤ p → p ≤ s → R 2 p = nI (g p)) : CV G yX3_walkRings cX3_walkRings 5 1 0 0 [.ref (A 0)] (pW G A N R Q ++ P) (S := Nat) (fun h => isHome g s h ∧ h ≤ 420) (fun h => pW G A (va_up N 0 (va_up (va_up (N 0) 6 (nI (rgN g s))) 5 (nI h))) R Q ++ P) := by
  refine CV.intro (by decide) (Nat.le_of_ble_eq_true rfl) (cat1 (xs := [])) fun X C hR => ?_
  have bp : ∀ x, 1 ≤ x → x ≤ s → vp_in (nI x) 8 := fun x a b => vp_in_nI (by omega) (by decide)
  have cp : ∀ x, x ≤ s → (nI x).toNatClampNeg = x := fun x a => nI_clamp (by omega)
  have key : ∀ (f p w h : Nat) (o3 o4 : Option Value), p + f = s + 1 → 1 ≤ p → w < 256 → (∀ x, 1 ≤ x → x ≤ s → (w.testBit x = true ↔ WS g p x)) → hmI g p h → V X 0 0 14 [some (.ref (A 0)), some (.int (nI w)), some (.int (nI p)), o3, o4] [] (pW G A (va_up N 0 (va_up (va_up (N 0) 6 (nI (rgN g (p - 1)))) 5 (nI h))) R Q ++ P) := by
    intro f
    induction f with
    | zero =>
      intro p w h o3 o4 hp h1 hw hws hh
      have hps : p = s + 1 := by omega
      subst hps
      refine r_iload_n C dX3_walkRings_14 rfl rfl ?_
      refine r_aload_n C dX3_walkRings_15 rfl rfl ?_
      refine pg_X3_22 C dX3_walkRings_16 ?_
      show V X 0 0 19 _ [.int (N 0 3), .int (nI (s + 1))] _
      rw [h3]
      refine r_icmp_gt (tgt := 98) C dX3_walkRings_19 (by decide) (fun c19 => ?_) (fun c19 => absurd c19 ((fun q => q (nI_lt (by omega) (by omega)))))
      exact hR _ _ _ _ h (by decide) (by decide) ⟨hmI_end hP hh, hmI_le hP hs7 (Nat.le_refl _) hh⟩ dX3_walkRings_98
    | succ f ih =>
      intro p w h o3 o4 hp h1 hw hws hh
      have hps : p ≤ s := by omega
      have hh4 := hmI_le hP hs7 (by omega) hh
      have hh1 := hh.1
      obtain ⟨N1, hN1⟩ : ∃ N1, N1 = va_up N 0 (va_up (va_up (N 0) 6 (nI (rgN g (p - 1)))) 5 (nI h)) := ⟨_, rfl⟩
      have n3 : N1 0 3 = nI s := by rw [hN1]; exact h3
      have n5 : N1 0 5 = nI h := by rw [hN1]; rfl
      have n6 : N1 0 6 = nI (rgN g (p - 1)) := by rw [hN1]; rfl
      have hrs : rgN g p = rgN g (p - 1) + @ite _ (isMin g p) (Classical.propDecidable _) 1 0 := by
        obtain ⟨q, rfl⟩ : ∃ q, p = q + 1 := ⟨p - 1, by omega⟩
        rfl
      have nx : ∀ (w' h' : Nat) (o3 o4 : Option Value) (N' : Nt), w' < 256 → (∀ x, 1 ≤ x → x ≤ s → (w'.testBit x = true ↔ WS g (p + 1) x)) → hmI g (p + 1) h' → N' = va_up N 0 (va_up (va_up (N 0) 6 (nI (rgN g p))) 5 (nI h')) → V X 0 0 92 [some (.ref (A 0)), some (.int (nI w')), some (.int (nI p)), o3, o4] [] (pW G A N' R Q ++ P) := by
        intro w' h' o3 o4 N' q1 q2 q3 q4
        subst q4
        refine r_iinc (v := _ + 1) C dX3_walkRings_92 rfl (by rfl) (by decide) ?_
        refine r_goto (tgt := 14) C dX3_walkRings_95 (by decide) ?_
        show V X 0 0 14 [_, _, some (.int (nI p + 1)), _, _] _ _
        rw [nI_1]
        exact ih (p + 1) w' h' o3 o4 (by omega) (by omega) q1 q2 q3
      rw [← hN1]
      by_cases hW : WS g p p
      · have hbit : w.testBit p = true := (hws p h1 hps).mpr hW
        have hmin : ¬ isMin g p := fun q => (WS_min hP h1 hps).mp q hW
        refine r_iload_n C dX3_walkRings_14 rfl rfl ?_
        refine r_aload_n C dX3_walkRings_15 rfl rfl ?_
        refine pg_X3_22 C dX3_walkRings_16 ?_
        rw [n3]
        refine r_icmp_gt (tgt := 98) C dX3_walkRings_19 (by decide) (fun c19 => absurd c19 ((by rw [nI_ltI (by omega) (by omega)]; omega))) (fun c19 => ?_)
        refine r_iconst (v := 0) C dX3_walkRings_22 (by decide) ?_
        refine r_istore_n C dX3_walkRings_23 rfl (by decide) ?_
        refine r_iload_n C dX3_walkRings_24 rfl rfl ?_
        refine r_istore C dX3_walkRings_25 (by decide) ?_
        refine r_iload_n C dX3_walkRings_27 rfl rfl ?_
        refine r_aload_n C dX3_walkRings_28 rfl rfl ?_
        refine pg_X3_22 C dX3_walkRings_29 ?_
        rw [n3]
        refine r_icmp_ge (tgt := 66) C dX3_walkRings_32 (by decide) (fun c32 => absurd c32 ((by rw [show (0 : Int32) = nI 0 from rfl, nI_leI (by omega) (by omega)]; omega))) (fun c32 => ?_)
        refine r_iload_n C dX3_walkRings_35 rfl rfl ?_
        refine r_iload C dX3_walkRings_36 rfl ?_
        refine r_ishr C dX3_walkRings_38 ?_
        refine r_iconst (v := 1) C dX3_walkRings_39 (by decide) ?_
        refine r_iand C dX3_walkRings_40 ?_
        refine r_if_ne (tgt := 66) C dX3_walkRings_41 (by decide) (fun c41 => ?_) (fun c41 => absurd c41 ((fun q => by rw [bit_at w hw p (by omega), hbit] at q; cases q)))
        refine r_iload_n C dX3_walkRings_66 rfl rfl ?_
        refine r_if_le (tgt := 92) C dX3_walkRings_67 (by decide) (fun c67 => ?_) (fun c67 => absurd c67 ((fun q => q (by decide))))
        exact nx w h _ _ N1 hw (fun x a b => (hws x a b).trans (WS_old hP h1 hps hW).symm) (hmI_old hP h1 hps hW hh) (by rw [hN1, hrs, if_neg hmin, Nat.add_zero])
      · obtain ⟨Ln, hLs, hLn⟩ := len_ex hP h1 hps
        have hL1 := hLn.1
        have hmin : isMin g p := (WS_min hP h1 hps).mpr hW
        have j66 : ∀ (w' : Nat) (o4 : Option Value), w' < 256 → (∀ x, 1 ≤ x → x ≤ s → (w'.testBit x = true ↔ WS g p x ∨ ∃ k, k < Ln ∧ itr g k p = x)) → V X 0 0 66 [some (.ref (A 0)), some (.int (nI w')), some (.int (nI p)), some (.int (nI Ln)), o4] [] (pW G A N1 R Q ++ P) := by
          intro w' o4 q1 q2
          refine r_iload_n C dX3_walkRings_66 rfl rfl ?_
          refine r_if_le (tgt := 92) C dX3_walkRings_67 (by decide) (fun c67 => absurd c67 ((by rw [show (0 : Int32) = nI 0 from rfl, nI_leI (by omega) (by omega)]; omega))) (fun c67 => ?_)
          refine r_aload_n C dX3_walkRings_70 rfl rfl ?_
          refine r_dup C dX3_walkRings_71 rfl ?_
          refine pg_X3_31 C dX3_walkRings_72 ?_
          refine r_iconst (v := 1) C dX3_walkRings_75 (by decide) ?_
          refine r_iadd C dX3_walkRings_76 ?_
          rw [n6, nI_1]
          refine pp_X3_31 C dX3_walkRings_77 ?_
          refine r_aload_n C dX3_walkRings_80 rfl rfl ?_
          refine r_aload_n C dX3_walkRings_81 rfl rfl ?_
          refine pg_X3_28 C dX3_walkRings_82 ?_
          show V X 0 0 85 _ [.int (N1 0 5), .ref (A 0)] _
          rw [n5]
          refine r_iload_n C dX3_walkRings_85 rfl rfl ?_
          refine a_callS0 C (c_lcm G (a := h) (b := Ln) (by omega) (by omega) hL1) kcX3_X3_leastCommonMultiple dX3_walkRings_86 rfl (by decide) (by decide) (by decide) (Nat.le_of_ble_eq_true rfl) rfl (fun r v hv => ?_)
          obtain ⟨rfl, hv⟩ := hv
          refine pp_X3_28 C dX3_walkRings_89 ?_
          refine nx w' v _ _ _ q1 (fun x a b => (q2 x a b).trans ?_) (hmI_new hP h1 hps hLn hh hv) ?_
          · rw [WS_s h1, len_all hLn]
          · rw [hN1, hrs, if_pos hmin]
            simp only [up_up, va_up_at]
            congr 1
            funext j
            unfold va_up
            by_cases e5 : j = 5 <;> by_cases e6 : j = 6 <;> simp [e5, e6]
        have inner : ∀ (f' t w' : Nat), t + f' = Ln → w' < 256 → (∀ x, 1 ≤ x → x ≤ s → (w'.testBit x = true ↔ WS g p x ∨ ∃ k, k < t ∧ itr g k p = x)) → V X 0 0 27 [some (.ref (A 0)), some (.int (nI w')), some (.int (nI p)), some (.int (nI t)), some (.int (nI (itr g t p)))] [] (pW G A N1 R Q ++ P) := by
          intro f'
          induction f' with
          | zero =>
            intro t w' ht q1 q2
            have htL : t = Ln := by omega
            subst htL
            have hbit : w'.testBit p = true := (q2 p h1 hps).mpr (Or.inr ⟨0, hL1, rfl⟩)
            rw [hLn.2.1]
            refine r_iload_n C dX3_walkRings_27 rfl rfl ?_
            refine r_aload_n C dX3_walkRings_28 rfl rfl ?_
            refine pg_X3_22 C dX3_walkRings_29 ?_
            rw [n3]
            refine r_icmp_ge (tgt := 66) C dX3_walkRings_32 (by decide) (fun c32 => ?_) (fun c32 => ?_)
            · exact j66 w' _ q1 q2
            · refine r_iload_n C dX3_walkRings_35 rfl rfl ?_
              refine r_iload C dX3_walkRings_36 rfl ?_
              refine r_ishr C dX3_walkRings_38 ?_
              refine r_iconst (v := 1) C dX3_walkRings_39 (by decide) ?_
              refine r_iand C dX3_walkRings_40 ?_
              refine r_if_ne (tgt := 66) C dX3_walkRings_41 (by decide) (fun c41 => ?_) (fun c41 => absurd c41 ((fun q => by rw [bit_at w' q1 p (by omega), hbit] at q; cases q)))
              exact j66 w' _ q1 q2
          | succ f' ih' =>
            intro t w' ht q1 q2
            have hin := itr_in hP h1 hps t
            have hnb : w'.testBit (itr g t p) = false := by
              cases hb : w'.testBit (itr g t p) with
              | false => rfl
              | true => exact absurd ((q2 _ hin.1 hin.2).mp hb) (len_new hP h1 hps hLn hW (by omega))
            refine r_iload_n C dX3_walkRings_27 rfl rfl ?_
            refine r_aload_n C dX3_walkRings_28 rfl rfl ?_
            refine pg_X3_22 C dX3_walkRings_29 ?_
            rw [n3]
            refine r_icmp_ge (tgt := 66) C dX3_walkRings_32 (by decide) (fun c32 => absurd c32 ((by rw [nI_leI (by omega) (by omega)]; omega))) (fun c32 => ?_)
            refine r_iload_n C dX3_walkRings_35 rfl rfl ?_
            refine r_iload C dX3_walkRings_36 rfl ?_
            refine r_ishr C dX3_walkRings_38 ?_
            refine r_iconst (v := 1) C dX3_walkRings_39 (by decide) ?_
            refine r_iand C dX3_walkRings_40 ?_
            refine r_if_ne (tgt := 66) C dX3_walkRings_41 (by decide) (fun c41 => absurd c41 ((fun q => q ((bit_at w' q1 _ (by omega)).mpr hnb)))) (fun c41 => ?_)
            refine r_iload_n C dX3_walkRings_44 rfl rfl ?_
            refine r_iconst (v := 1) C dX3_walkRings_45 (by decide) ?_
            refine r_iload C dX3_walkRings_46 rfl ?_
            refine r_ishl C dX3_walkRings_48 ?_
            refine r_ior C dX3_walkRings_49 ?_
            rw [bit_or w' q1 _ (by omega)]
            refine r_istore_n C dX3_walkRings_50 rfl (by decide) ?_
            refine r_aload_n C dX3_walkRings_51 rfl rfl ?_
            refine pg_X3_15 C dX3_walkRings_52 ?_
            refine r_iload C dX3_walkRings_55 rfl ?_
            refine pl_2 C dX3_walkRings_57 (bp _ hin.1 hin.2) ?_
            rw [cp _ hin.2, h2 _ hin.1 hin.2]
            refine r_istore C dX3_walkRings_58 (by decide) ?_
            refine r_iinc (v := _ + 1) C dX3_walkRings_60 rfl (by rfl) (by decide) ?_
            refine r_goto (tgt := 27) C dX3_walkRings_63 (by decide) ?_
            show V X 0 0 27 [_, _, _, some (.int (nI t + 1)), _] _ _
            rw [nI_1]
            refine ih' (t + 1) _ (by omega) (bit_lt w' q1 _ (by omega)) (fun x a b => ?_)
            rw [bit_test, q2 x a b]
            constructor
            · rintro ((q | ⟨k, k1, e⟩) | q)
              · exact Or.inl q
              · exact Or.inr ⟨k, by omega, e⟩
              · exact Or.inr ⟨t, by omega, q.symm⟩
            · rintro (q | ⟨k, k1, e⟩)
              · exact Or.inl (Or.inl q)
              · rcases (show k < t ∨ k = t by omega) with v | v
                · exact Or.inl (Or.inr ⟨k, v, e⟩)
                · subst v; exact Or.inr e.symm
        refine r_iload_n C dX3_walkRings_14 rfl rfl ?_
        refine r_aload_n C dX3_walkRings_15 rfl rfl ?_
        refine pg_X3_22 C dX3_walkRings_16 ?_
        rw [n3]
        refine r_icmp_gt (tgt := 98) C dX3_walkRings_19 (by decide) (fun c19 => absurd c19 ((by rw [nI_ltI (by omega) (by omega)]; omega))) (fun c19 => ?_)
        refine r_iconst (v := 0) C dX3_walkRings_22 (by decide) ?_
        refine r_istore_n C dX3_walkRings_23 rfl (by decide) ?_
        refine r_iload_n C dX3_walkRings_24 rfl rfl ?_
        refine r_istore C dX3_walkRings_25 (by decide) ?_
        exact inner Ln 0 w (by omega) hw (fun x a b => (hws x a b).trans ⟨Or.inl, fun q => q.elim id (fun ⟨k, k1, _⟩ => absurd k1 (by omega))⟩)
  refine r_aload_n C dX3_walkRings_0 rfl rfl ?_
  refine r_iconst (v := 0) C dX3_walkRings_1 (by decide) ?_
  refine pp_X3_31 C dX3_walkRings_2 ?_
  refine r_aload_n C dX3_walkRings_5 rfl rfl ?_
  refine r_iconst (v := 1) C dX3_walkRings_6 (by decide) ?_
  refine pp_X3_28 C dX3_walkRings_7 ?_
  refine r_iconst (v := 0) C dX3_walkRings_10 (by decide) ?_
  refine r_istore_n C dX3_walkRings_11 rfl (by decide) ?_
  refine r_iconst (v := 1) C dX3_walkRings_12 (by decide) ?_
  refine r_istore_n C dX3_walkRings_13 rfl (by decide) ?_
  simp only [up_up, va_up_at]
  exact key s 1 0 1 none none (by omega) (Nat.le_refl _) (by decide) (fun x a b => ⟨fun q => (by rw [Nat.zero_testBit] at q; cases q), fun ⟨q, k, q1, q2, e⟩ => absurd q1 (by omega)⟩) (hmI_0 g)
theorem c_hasAllNumbers {c : Nat → Int32} {s z : Nat} (hs7 : s ≤ 7) (h3 : N 0 3 = nI s) (h4 : ∀ i, i ≤ 7 → R 4 i = nI (la c z i)) (hl : ∀ i, la c z i < 2 ^ 31) : CI G yX3_hasAllNumbers cX3_hasAllNumbers 2 .boolean 0 0 0 [.ref (A 0)] (pW G A N R Q ++ P) (S := Unit) (fun r _ => (r = 1 ∧ ∀ i, 1 ≤ i → i < s → la c z i ≠ 0) ∨ (r = 0 ∧ ¬ ∀ i, 1 ≤ i → i < s → la c z i ≠ 0)) (fun _ => pW G A N R Q ++ P) := by
  refine CI.intro (by decide) (Nat.le_of_ble_eq_true rfl) (cat1 (xs := [])) fun X C hR => ?_
  have key : ∀ (f i : Nat), (s ≤ i ∧ f = 0) ∨ i + f = s → 1 ≤ i → i ≤ 7 → (∀ i', 1 ≤ i' → i' < i → la c z i' ≠ 0) → V X 0 0 2 [some (.ref (A 0)), some (.int (nI i))] [] (pW G A N R Q ++ P) := by
    intro f
    induction f with
    | zero =>
      intro i hi h1 h7 hall
      refine r_iload_n C dX3_hasAllNumbers_2 rfl rfl ?_
      refine r_aload_n C dX3_hasAllNumbers_3 rfl rfl ?_
      refine pg_X3_22 C dX3_hasAllNumbers_4 ?_
      rw [h3]
      refine r_icmp_ge (tgt := 27) C dX3_hasAllNumbers_7 (by decide) (fun c7 => ?_) (fun c7 => absurd c7 ((fun q => q (by rw [nI_leI (by omega) (by omega)]; omega))))
      refine r_iconst (v := 1) C dX3_hasAllNumbers_27 (by decide) ?_
      exact hR _ _ _ _ _ () (by decide) (by decide) rfl (Or.inl ⟨rfl, fun i' a b => hall i' a (by omega)⟩) dX3_hasAllNumbers_28
    | succ f ih =>
      intro i hi h1 h7 hall
      refine r_iload_n C dX3_hasAllNumbers_2 rfl rfl ?_
      refine r_aload_n C dX3_hasAllNumbers_3 rfl rfl ?_
      refine pg_X3_22 C dX3_hasAllNumbers_4 ?_
      rw [h3]
      refine r_icmp_ge (tgt := 27) C dX3_hasAllNumbers_7 (by decide) (fun c7 => absurd c7 ((by rw [nI_leI (by omega) (by omega)]; omega))) (fun c7 => ?_)
      refine r_aload_n C dX3_hasAllNumbers_10 rfl rfl ?_
      refine pg_X3_41 C dX3_hasAllNumbers_11 ?_
      refine r_iload_n C dX3_hasAllNumbers_14 rfl rfl ?_
      refine pl_4 C dX3_hasAllNumbers_15 (vp_in_nI (show i < 8 by omega) (by decide)) ?_
      rw [nI_clamp (by omega), h4 i h7]
      refine r_if_ne (tgt := 21) C dX3_hasAllNumbers_16 (by decide) (fun c16 => ?_) (fun c16 => ?_)
      · refine r_iinc (v := _ + 1) C dX3_hasAllNumbers_21 rfl (by rfl) (by decide) ?_
        refine r_goto (tgt := 2) C dX3_hasAllNumbers_24 (by decide) ?_
        show V X 0 0 2 [_, some (.int (nI i + 1))] _ _
        rw [nI_1]
        refine ih (i + 1) (by omega) (by omega) (by omega) (fun i' a b => ?_)
        rcases (show i' < i ∨ i' = i by omega) with q | q
        · exact hall i' a q
        · subst q
          exact fun e => c16 (by rw [e]; rfl)
      · refine r_iconst (v := 0) C dX3_hasAllNumbers_19 (by decide) ?_
        exact hR _ _ _ _ _ () (by decide) (by decide) rfl (Or.inr ⟨rfl, fun q => q i h1 (by omega) ((nI_eq (b := 0) (hl i) (by decide)).mp c16)⟩) dX3_hasAllNumbers_20
  refine r_iconst (v := 1) C dX3_hasAllNumbers_0 (by decide) ?_
  refine r_istore_n C dX3_hasAllNumbers_1 rfl (by decide) ?_
  exact key (s - 1) 1 (by omega) (Nat.le_refl _) (by decide) (fun i' a b => absurd b (by omega))
theorem c_goesOnInTurn {c : Nat → Int32} {s z : Nat} (hP : PermOn (gT c z) s) (hs7 : s ≤ 7) (h3 : N 0 3 = nI s) (h2 : ∀ p, 1 ≤ p → p ≤ s → R 2 p = nI (gT c z p)) (h67 : ∀ p, 1 ≤ p → p ≤ s → R 6 p = sdI (fsF c p z) ∧ R 7 p = sdI (lsF c p z)) : CI G yX3_goesOnInTurn cX3_goesOnInTurn 2 .boolean 0 0 0 [.ref (A 0)] (pW G A N R Q ++ P) (S := Unit) (fun r _ => (r = 1 ∧ ∀ p, 1 ≤ p → p ≤ s → lsF c p z ≠ fsF c (gT c z p) z) ∨ (r = 0 ∧ ¬ ∀ p, 1 ≤ p → p ≤ s → lsF c p z ≠ fsF c (gT c z p) z)) (fun _ => pW G A N R Q ++ P) := by
  refine CI.intro (by decide) (Nat.le_of_ble_eq_true rfl) (cat1 (xs := [])) fun X C hR => ?_
  have key : ∀ (f i : Nat), i + f = s + 1 → 1 ≤ i → (∀ p, 1 ≤ p → p < i → lsF c p z ≠ fsF c (gT c z p) z) → V X 0 0 2 [some (.ref (A 0)), some (.int (nI i))] [] (pW G A N R Q ++ P) := by
    intro f
    induction f with
    | zero =>
      intro i hi h1 hall
      refine r_iload_n C dX3_goesOnInTurn_2 rfl rfl ?_
      refine r_aload_n C dX3_goesOnInTurn_3 rfl rfl ?_
      refine pg_X3_22 C dX3_goesOnInTurn_4 ?_
      rw [h3]
      refine r_icmp_gt (tgt := 38) C dX3_goesOnInTurn_7 (by decide) (fun c7 => ?_) (fun c7 => absurd c7 ((fun q => q (nI_lt (by omega) (by omega)))))
      refine r_iconst (v := 1) C dX3_goesOnInTurn_38 (by decide) ?_
      exact hR _ _ _ _ _ () (by decide) (by decide) rfl (Or.inl ⟨rfl, fun i' a b => hall i' a (by omega)⟩) dX3_goesOnInTurn_39
    | succ f ih =>
      intro i hi h1 hall
      have hg := hP.1 i h1 (by omega)
      have ci : (nI i).toNatClampNeg = i := nI_clamp (by omega)
      have cg : (nI (gT c z i)).toNatClampNeg = gT c z i := nI_clamp (by omega)
      have bi : vp_in (nI i) 8 := vp_in_nI (by omega) (by decide)
      have inj : sdI (lsF c i z) = sdI (fsF c (gT c z i) z) ↔ lsF c i z = fsF c (gT c z i) z := sdI_inj (lsF_le z) (fsF_le z)
      refine r_iload_n C dX3_goesOnInTurn_2 rfl rfl ?_
      refine r_aload_n C dX3_goesOnInTurn_3 rfl rfl ?_
      refine pg_X3_22 C dX3_goesOnInTurn_4 ?_
      rw [h3]
      refine r_icmp_gt (tgt := 38) C dX3_goesOnInTurn_7 (by decide) (fun c7 => absurd c7 ((by rw [nI_ltI (by omega) (by omega)]; omega))) (fun c7 => ?_)
      refine r_aload_n C dX3_goesOnInTurn_10 rfl rfl ?_
      refine pg_X3_50 C dX3_goesOnInTurn_11 ?_
      refine r_iload_n C dX3_goesOnInTurn_14 rfl rfl ?_
      refine pl_7 C dX3_goesOnInTurn_15 (bi) ?_
      rw [ci, (h67 i h1 (by omega)).2]
      refine r_aload_n C dX3_goesOnInTurn_16 rfl rfl ?_
      refine pg_X3_47 C dX3_goesOnInTurn_17 ?_
      refine r_aload_n C dX3_goesOnInTurn_20 rfl rfl ?_
      refine pg_X3_15 C dX3_goesOnInTurn_21 ?_
      refine r_iload_n C dX3_goesOnInTurn_24 rfl rfl ?_
      refine pl_2 C dX3_goesOnInTurn_25 (bi) ?_
      rw [ci, h2 i h1 (by omega)]
      refine pl_6 C dX3_goesOnInTurn_26 (vp_in_nI (show gT c z i < 8 by omega) (by decide)) ?_
      rw [cg, (h67 _ hg.1 hg.2).1]
      refine r_icmp_ne (tgt := 32) C dX3_goesOnInTurn_27 (by decide) (fun c27 => ?_) (fun c27 => ?_)
      · refine r_iinc (v := _ + 1) C dX3_goesOnInTurn_32 rfl (by rfl) (by decide) ?_
        refine r_goto (tgt := 2) C dX3_goesOnInTurn_35 (by decide) ?_
        show V X 0 0 2 [_, some (.int (nI i + 1))] _ _
        rw [nI_1]
        refine ih (i + 1) (by omega) (by omega) (fun i' a b => ?_)
        rcases (show i' < i ∨ i' = i by omega) with q | q
        · exact hall i' a q
        · subst q
          exact fun e => c27 (inj.mpr e)
      · refine r_iconst (v := 0) C dX3_goesOnInTurn_30 (by decide) ?_
        exact hR _ _ _ _ _ () (by decide) (by decide) rfl (Or.inr ⟨rfl, fun q => q i h1 (by omega) (inj.mp c27)⟩) dX3_goesOnInTurn_31
  refine r_iconst (v := 1) C dX3_goesOnInTurn_0 (by decide) ?_
  refine r_istore_n C dX3_goesOnInTurn_1 rfl (by decide) ?_
  exact key s 1 (by omega) (Nat.le_refl _) (fun i' a b => absurd b (by omega))
end PB
