/-! the class: Form: a slide -/
/-- how far a slide has come -/
def SlI (s : Nat) (F H F' H' : Nat → Nat) : Prop := CanF s F' ∧ CanF s H' ∧ Slid s F H F' H' ∧ RchP s F H F' H'
theorem SlI.rf {s : Nat} {F H : Nat → Nat} (hF : CanF s F) (hH : CanF s H) : SlI s F H F H := ⟨hF, hH, Slid.rf, RchP.rf⟩
theorem SlI.step {s i : Nat} {F H F' H' : Nat → Nat} (h : SlI s F H F' H') (i1 : 1 ≤ i) (i2 : i < s) (hU : Up s F' i) (hd : H' (i + 1) < H' i) : SlI s F H (mvL i F') (mvR i H') :=
  ⟨mvL_can i1 i2 h.1, mvR_can i1 i2 h.2.1, h.2.2.1.step i1 i2 hU hd, h.2.2.2.step i1 i2 hU hd⟩
theorem sw_rng {i x s : Nat} (i1 : 1 ≤ i) (i2 : i < s) (x1 : 1 ≤ x) (x2 : x ≤ s) : 1 ≤ sw i x ∧ sw i x ≤ s := sw_in i1 i2 x1 x2
section F3
variable (G : Gx) (Z : Nat) (A : Nat → Nat) (P : va_W) (N : Nt) (R : Rt) (Q : Qt)
theorem c_slideToFront {s j : Nat} {F H : Nat → Nat} (hs : N 0 4 = nI s) (hs2 : 2 ≤ s) (hs7 : s ≤ 7) (hj : j + 1 < Z) (hZ : Z ≤ 1000) (hF : CanF s F) (hH : CanF s H) (eF : R 1 j = codeF F s) (eH : R 1 (j + 1) = codeF H s) : CI G yX1_slideToFront cX1_slideToFront 5 .boolean 2 0 0 [.ref (A 0), .int (nI j)] (fW G Z A N R Q ++ P) (S := Rt) (fun r R' => ∃ F' H', SlI s F H F' H' ∧ NoMv s F' H' ∧ ((r = 0 ∧ F' = F ∧ H' = H ∧ R' 1 = R 1) ∨ (r = 1 ∧ R' 1 = upd (upd (R 1) j (codeF F' s)) (j + 1) (codeF H' s)))) (fun R' => fW G Z A N R' Q ++ P) := by
  refine CI.intro (by decide) (Nat.le_of_ble_eq_true rfl) (cat1 (xs := [nI j])) fun X C hR => ?_
  have bj : vp_in (nI j) Z := vp_in_nI (by omega) (by omega)
  have bj1 : vp_in (nI j + 1) Z := by rw [nI_1]; exact vp_in_nI hj (by omega)
  have cj : (nI j).toNatClampNeg = j := nI_clamp (by omega)
  have cj1 : (nI j + 1).toNatClampNeg = j + 1 := by rw [nI_1]; exact nI_clamp (by omega)
  have j116 : ∀ (R' : Rt) (mv num t : Int32) (F' H' : Nat → Nat), SlI s F H F' H' → NoMv s F' H' → ((mv = 0 ∧ F' = F ∧ H' = H) ∨ mv = 1) → R' 1 = R 1 → (∀ x, 1 ≤ x → x ≤ s → R' 2 (F' x) = nI x) → (∀ x, 1 ≤ x → x ≤ s → R' 3 x = nI (H' x)) → V X 0 0 116 [some (.ref (A 0)), some (.int (nI j)), some (.int mv), some (.int num), some (.int t)] [] (fW G Z A N R' Q ++ P) := by
    intro R' mv num t F' H' hI hno hmv h1 h2 h3
    rcases hmv with ⟨rfl, e1, e2⟩ | rfl
    · refine r_iload_n C dX1_slideToFront_116 rfl rfl ?_
      refine r_if_eq (tgt := 142) C dX1_slideToFront_117 (by decide) (fun c117 => ?_) (fun c117 => absurd c117 ((fun q => q rfl)))
      refine r_iload_n C dX1_slideToFront_142 rfl rfl ?_
      exact hR _ _ _ _ _ R' (by decide) (by decide) rfl ⟨F', H', hI, hno, Or.inl ⟨rfl, e1, e2, h1⟩⟩ dX1_slideToFront_143
    · have hc1 : ∀ x, 1 ≤ x → x ≤ s → cl (R' 2 (F' x)) = x := fun x x1 x2 => by
        rw [h2 x x1 x2]
        exact cl_nI (by omega)
      have hc2 : ∀ x, 1 ≤ x → x ≤ s → R' 2 x = nI (cl (R' 2 x)) := fun x x1 x2 => by
        obtain ⟨y, y1, y2, e⟩ := perm_surj hI.1.1 x1 x2
        rw [← e, hc1 y y1 y2, h2 y y1 y2]
      refine r_iload_n C dX1_slideToFront_116 rfl rfl ?_
      refine r_if_eq (tgt := 142) C dX1_slideToFront_117 (by decide) (fun c117 => absurd c117 ((by decide))) (fun c117 => ?_)
      refine r_aload_n C dX1_slideToFront_120 rfl rfl ?_
      refine fg_X1_43 C dX1_slideToFront_121 ?_
      refine r_iload_n C dX1_slideToFront_124 rfl rfl ?_
      refine r_aload_n C dX1_slideToFront_125 rfl rfl ?_
      refine a_callVi C (c_packInverse G Z A P N R' Q (F := F') (cf := fun x => cl (R' 2 x)) hs hs7 hI.1.1 hc1 hc2) kcX1_X1_packInverse dX1_slideToFront_126 rfl (by decide) (by decide) (by decide) (Nat.le_of_ble_eq_true rfl) 0 rfl (ci := 1) rfl rfl rfl (fun r u hu => ?_)
      subst hu
      refine fs_1 C dX1_slideToFront_129 (bj) ?_
      rw [cj]
      refine r_aload_n C dX1_slideToFront_130 rfl rfl ?_
      refine fg_X1_43 C dX1_slideToFront_131 ?_
      refine r_iload_n C dX1_slideToFront_134 rfl rfl ?_
      refine r_iconst (v := 1) C dX1_slideToFront_135 (by decide) ?_
      refine r_iadd C dX1_slideToFront_136 ?_
      refine r_aload_n C dX1_slideToFront_137 rfl rfl ?_
      refine a_callVi C (c_pack G Z A P N _ Q (F := H') hs hs7 (fun x a b => by exact h3 x a b)) kcX1_X1_pack dX1_slideToFront_138 rfl (by decide) (by decide) (by decide) (Nat.le_of_ble_eq_true rfl) 0 rfl (ci := 1) rfl rfl rfl (fun r u hu => ?_)
      subst hu
      refine fs_1 C dX1_slideToFront_141 (bj1) ?_
      rw [cj1]
      refine r_iload_n C dX1_slideToFront_142 rfl rfl ?_
      exact hR _ _ _ _ _ _ (by decide) (by decide) rfl ⟨F', H', hI, hno, Or.inr ⟨rfl, by rw [← h1]; rfl⟩⟩ dX1_slideToFront_143
  have key : ∀ (f t num : Nat) (R' : Rt) (mv : Int32) (F' H' : Nat → Nat), t + f = 64 → 1 ≤ num → num ≤ s → 2 * inv H' s + (s - num) ≤ f → SlI s F H F' H' → NoBl s num F' H' → ((mv = 0 ∧ F' = F ∧ H' = H) ∨ mv = 1) → R' 1 = R 1 → (∀ x, 1 ≤ x → x ≤ s → R' 2 (F' x) = nI x) → (∀ x, 1 ≤ x → x ≤ s → R' 3 x = nI (H' x)) → V X 0 0 29 [some (.ref (A 0)), some (.int (nI j)), some (.int mv), some (.int (nI num)), some (.int (nI t))] [] (fW G Z A N R' Q ++ P) := by
    intro f
    induction f with
    | zero =>
      intro t num R' mv F' H' ht n1 n2 hm hI hno hmv h1 h2 h3
      have ht6 : t = 64 := by omega
      subst ht6
      refine r_iload C dX1_slideToFront_29 rfl ?_
      refine r_bipush (v := 64) C dX1_slideToFront_31 (by decide) ?_
      refine r_icmp_ge (tgt := 116) C dX1_slideToFront_33 (by decide) (fun c33 => ?_) (fun c33 => absurd c33 ((fun q => absurd (show (64 : Int32) ≤ nI 64 by decide) q)))
      exact j116 _ _ _ _ F' H' hI (hno.all (by omega)) hmv h1 h2 h3
    | succ f ih =>
      intro t num R' mv F' H' ht n1 n2 hm hI hno hmv h1 h2 h3
      have c64 : (64 : Int32) = nI 64 := rfl
      by_cases hlt : num < s
      rotate_left
      · refine r_iload C dX1_slideToFront_29 rfl ?_
        refine r_bipush (v := 64) C dX1_slideToFront_31 (by decide) ?_
        rw [c64]
        refine r_icmp_ge (tgt := 116) C dX1_slideToFront_33 (by decide) (fun c33 => absurd c33 ((by rw [nI_leI (by decide) (by omega)]; omega))) (fun c33 => ?_)
        refine r_iload_n C dX1_slideToFront_36 rfl rfl ?_
        refine r_aload_n C dX1_slideToFront_37 rfl rfl ?_
        refine fg_X1_21 C dX1_slideToFront_38 ?_
        rw [hs]
        refine r_icmp_ge (tgt := 116) C dX1_slideToFront_41 (by decide) (fun c41 => ?_) (fun c41 => absurd c41 ((fun q => q (by rw [nI_leI (by omega) (by omega)]; omega))))
        exact j116 _ _ _ _ F' H' hI (hno.all (by omega)) hmv h1 h2 h3
      obtain ⟨x0, x01, x02, ex⟩ := perm_surj hI.1.1 n1 (show num ≤ s by omega)
      obtain ⟨y0, y01, y02, ey⟩ := perm_surj hI.1.1 (show 1 ≤ num + 1 by omega) (show num + 1 ≤ s by omega)
      have hU : Up s F' num ↔ x0 < y0 := by
        refine ⟨fun w => w x0 y0 x01 x02 y01 y02 ex ey, fun w x y x1 x2 y1 y2 e1 e2 => ?_⟩
        have := hI.1.1.2 x x0 x1 x2 x01 x02 (e1.trans ex.symm)
        have := hI.1.1.2 y y0 y1 y2 y01 y02 (e2.trans ey.symm)
        omega
      have r2a : R' 2 num = nI x0 := by rw [← ex]; exact h2 x0 x01 x02
      have r2b : R' 2 (num + 1) = nI y0 := by rw [← ey]; exact h2 y0 y01 y02
      have r3a : R' 3 num = nI (H' num) := h3 num n1 n2
      have r3b : R' 3 (num + 1) = nI (H' (num + 1)) := h3 (num + 1) (by omega) (by omega)
      have g1 := hI.2.1.1.1 num n1 n2
      have g2 := hI.2.1.1.1 (num + 1) (by omega) (by omega)
      have b0 : vp_in (nI num) 8 := vp_in_nI (by omega) (by decide)
      have b1 : vp_in (nI num + 1) 8 := by rw [nI_1]; exact vp_in_nI (by omega) (by decide)
      have k0 : (nI num).toNatClampNeg = num := nI_clamp (by omega)
      have k1 : (nI num + 1).toNatClampNeg = num + 1 := by rw [nI_1]; exact nI_clamp (by omega)
      have go : ∀ (R2 : Rt) (mv2 : Int32) (num2 : Nat) (F2 H2 : Nat → Nat), 1 ≤ num2 → num2 ≤ s → 2 * inv H2 s + (s - num2) ≤ f → SlI s F H F2 H2 → NoBl s num2 F2 H2 → ((mv2 = 0 ∧ F2 = F ∧ H2 = H) ∨ mv2 = 1) → R2 1 = R 1 → (∀ x, 1 ≤ x → x ≤ s → R2 2 (F2 x) = nI x) → (∀ x, 1 ≤ x → x ≤ s → R2 3 x = nI (H2 x)) → V X 0 0 110 [some (.ref (A 0)), some (.int (nI j)), some (.int mv2), some (.int (nI num2)), some (.int (nI t))] [] (fW G Z A N R2 Q ++ P) := by
        intro R2 mv2 num2 F2 H2 q1 q2 q3 q4 q5 q6 q7 q8 q9
        refine r_iinc (v := _ + 1) C dX1_slideToFront_110 rfl (by rfl) (by decide) ?_
        refine r_goto (tgt := 29) C dX1_slideToFront_113 (by decide) ?_
        show V X 0 0 29 [_, _, _, _, some (.int (nI t + 1))] _ _
        rw [nI_1]
        exact ih (t + 1) num2 R2 mv2 F2 H2 (by omega) q1 q2 q3 q4 q5 q6 q7 q8 q9
      have j107 : (H' (num + 1) < H' num → ¬ Up s F' num) → V X 0 0 107 [some (.ref (A 0)), some (.int (nI j)), some (.int mv), some (.int (nI num)), some (.int (nI t))] [] (fW G Z A N R' Q ++ P) := by
        intro hnm
        refine r_iinc (v := _ + 1) C dX1_slideToFront_107 rfl (by rfl) (by decide) ?_
        show V X 0 0 110 [_, _, _, some (.int (nI num + 1)), _] _ _
        rw [nI_1]
        exact go R' mv (num + 1) F' H' (by omega) (by omega) (by omega) hI (hno.next hnm) hmv h1 h2 h3
      have hmx : (if (1 : Int32) < nI num - 1 then nI num - 1 else 1) = nI (if 1 < num - 1 then num - 1 else 1) := by
        obtain ⟨w, rfl⟩ : ∃ w, num = w + 1 := ⟨num - 1, by omega⟩
        rw [nI_pred, show (1 : Int32) = nI 1 from rfl, Nat.add_sub_cancel]
        by_cases q : 1 < w
        · rw [if_pos q, if_pos ((nI_ltI (by decide) (by omega)).mpr q)]
        · rw [if_neg q, if_neg (fun e => q ((nI_ltI (by decide) (by omega)).mp e))]
      refine r_iload C dX1_slideToFront_29 rfl ?_
      refine r_bipush (v := 64) C dX1_slideToFront_31 (by decide) ?_
      rw [c64]
      refine r_icmp_ge (tgt := 116) C dX1_slideToFront_33 (by decide) (fun c33 => absurd c33 ((by rw [nI_leI (by decide) (by omega)]; omega))) (fun c33 => ?_)
      refine r_iload_n C dX1_slideToFront_36 rfl rfl ?_
      refine r_aload_n C dX1_slideToFront_37 rfl rfl ?_
      refine fg_X1_21 C dX1_slideToFront_38 ?_
      rw [hs]
      refine r_icmp_ge (tgt := 116) C dX1_slideToFront_41 (by decide) (fun c41 => absurd c41 ((by rw [nI_leI (by omega) (by omega)]; omega))) (fun c41 => ?_)
      refine r_aload_n C dX1_slideToFront_44 rfl rfl ?_
      refine fg_X1_30 C dX1_slideToFront_45 ?_
      refine r_iload_n C dX1_slideToFront_48 rfl rfl ?_
      refine fl_2 C dX1_slideToFront_49 (b0) ?_
      rw [k0, r2a]
      refine r_aload_n C dX1_slideToFront_50 rfl rfl ?_
      refine fg_X1_30 C dX1_slideToFront_51 ?_
      refine r_iload_n C dX1_slideToFront_54 rfl rfl ?_
      refine r_iconst (v := 1) C dX1_slideToFront_55 (by decide) ?_
      refine r_iadd C dX1_slideToFront_56 ?_
      refine fl_2 C dX1_slideToFront_57 (b1) ?_
      rw [k1, r2b]
      refine r_icmp_ge (tgt := 107) C dX1_slideToFront_58 (by decide) (fun c58 => ?_) (fun c58 => ?_)
      · first | exact j107 (fun _ w => absurd (hU.mp w) (by rw [nI_leI (by omega) (by omega)] at c58; omega)) | exact j107 (fun w => absurd w (by rw [nI_leI (by omega) (by omega)] at c75; omega))
      · refine r_aload_n C dX1_slideToFront_61 rfl rfl ?_
        refine fg_X1_34 C dX1_slideToFront_62 ?_
        refine r_iload_n C dX1_slideToFront_65 rfl rfl ?_
        refine fl_3 C dX1_slideToFront_66 (b0) ?_
        rw [k0, r3a]
        refine r_aload_n C dX1_slideToFront_67 rfl rfl ?_
        refine fg_X1_34 C dX1_slideToFront_68 ?_
        refine r_iload_n C dX1_slideToFront_71 rfl rfl ?_
        refine r_iconst (v := 1) C dX1_slideToFront_72 (by decide) ?_
        refine r_iadd C dX1_slideToFront_73 ?_
        refine fl_3 C dX1_slideToFront_74 (b1) ?_
        rw [k1, r3b]
        refine r_icmp_le (tgt := 107) C dX1_slideToFront_75 (by decide) (fun c75 => ?_) (fun c75 => ?_)
        · first | exact j107 (fun _ w => absurd (hU.mp w) (by rw [nI_leI (by omega) (by omega)] at c58; omega)) | exact j107 (fun w => absurd w (by rw [nI_leI (by omega) (by omega)] at c75; omega))
        · refine r_aload_n C dX1_slideToFront_78 rfl rfl ?_
          refine fg_X1_30 C dX1_slideToFront_79 ?_
          refine r_iload_n C dX1_slideToFront_82 rfl rfl ?_
          rw [nI_leI (by omega) (by omega)] at c58 c75
          have hUp := hU.mpr (by omega)
          have hde : H' (num + 1) < H' num := by omega
          refine r_callSv C (c_changeNeighbours G (A 2) (R' 2) (i := num) (by omega)) kcX1_X1_changeNeighbours dX1_slideToFront_83 rfl (by decide) (by decide) (by decide) (Nat.le_of_ble_eq_true rfl) [2] ([0, 1, 3] ++ tlx 4 P) (by decide) (tl_C rfl) (tl_R (wr := (fW G Z A N R' Q).take 2 ++ (fW G Z A N R' Q).drop 3) rfl rfl) (tl_nd (by decide) (by decide)) (tl_dis (by decide) (by decide)) rfl (fun u hu => ?_)
          refine V.back (m := 4) rfl [0, 1, 3, 2] (by decide) (ws' := fW G Z A N (va_up R' 2 (swR (R' 2) num)) Q) rfl (by decide) ?_
          refine r_aload_n C dX1_slideToFront_86 rfl rfl ?_
          refine fg_X1_34 C dX1_slideToFront_87 ?_
          refine r_iload_n C dX1_slideToFront_90 rfl rfl ?_
          refine r_callSv C (c_changeNeighbours G (A 3) (R' 3) (i := num) (by omega)) kcX1_X1_changeNeighbours dX1_slideToFront_91 rfl (by decide) (by decide) (by decide) (Nat.le_of_ble_eq_true rfl) [3] ([0, 1, 2] ++ tlx 4 P) (by decide) (tl_C rfl) (tl_R (wr := (fW G Z A N (va_up R' 2 (swR (R' 2) num)) Q).take 3) rfl rfl) (tl_nd (by decide) (by decide)) (tl_dis (by decide) (by decide)) rfl (fun u hu => ?_)
          refine V.back (m := 4) rfl [0, 1, 2, 3] (by decide) (ws' := fW G Z A N (va_up (va_up R' 2 (swR (R' 2) num)) 3 (swR (R' 3) num)) Q) rfl (by decide) ?_
          refine r_iconst (v := 1) C dX1_slideToFront_94 (by decide) ?_
          refine r_istore_n C dX1_slideToFront_95 rfl (by decide) ?_
          refine r_iconst (v := 1) C dX1_slideToFront_96 (by decide) ?_
          refine r_iload_n C dX1_slideToFront_97 rfl rfl ?_
          refine r_iconst (v := 1) C dX1_slideToFront_98 (by decide) ?_
          refine r_isub C dX1_slideToFront_99 ?_
          refine r_mmax C km_X1_37 (by decide) (by decide) (by decide) (Nat.le_of_ble_eq_true rfl) dX1_slideToFront_100 ?_
          rw [hmx]
          refine r_istore_n C dX1_slideToFront_103 rfl (by decide) ?_
          refine r_goto (tgt := 110) C dX1_slideToFront_104 (by decide) ?_
          refine go _ 1 _ (mvL num F') (mvR num H') (by split <;> omega) (by split <;> omega) ?_ (hI.step n1 hlt hUp hde) (by split; exact hno.move; exact NoBl.one) (Or.inr rfl) h1 (fun x x1 x2 => ?_) (fun x x1 x2 => ?_)
          · have := inv_sw (H := H') n1 hde s (by omega)
            split <;> omega
          · show swR (R' 2) num (sw num (F' x)) = nI x
            rw [swR_at, sw_twice]
            exact h2 x x1 x2
          · show swR (R' 3) num x = nI (H' (sw num x))
            rw [swR_at]
            have := sw_rng n1 hlt x1 x2
            exact h3 _ this.1 this.2
  refine r_aload_n C dX1_slideToFront_0 rfl rfl ?_
  refine r_aload_n C dX1_slideToFront_1 rfl rfl ?_
  refine fg_X1_43 C dX1_slideToFront_2 ?_
  refine r_iload_n C dX1_slideToFront_5 rfl rfl ?_
  refine fl_1 C dX1_slideToFront_6 (bj) ?_
  rw [cj]
  show V X 0 0 7 _ (.int (R 1 j) :: _) _
  rw [eF]
  refine a_callVv C (c_unpackInverse G Z A P N R Q (F := F) hs hs7 hF.1) kcX1_X1_unpackInverse dX1_slideToFront_7 rfl (by decide) (by decide) (by decide) (Nat.le_of_ble_eq_true rfl) 0 rfl (ci := 1) rfl rfl rfl (fun g hg => ?_)
  refine r_aload_n C dX1_slideToFront_10 rfl rfl ?_
  refine r_aload_n C dX1_slideToFront_11 rfl rfl ?_
  refine fg_X1_43 C dX1_slideToFront_12 ?_
  refine r_iload_n C dX1_slideToFront_15 rfl rfl ?_
  refine r_iconst (v := 1) C dX1_slideToFront_16 (by decide) ?_
  refine r_iadd C dX1_slideToFront_17 ?_
  refine fl_1 C dX1_slideToFront_18 (bj1) ?_
  rw [cj1]
  show V X 0 0 19 _ (.int (R 1 (j + 1)) :: _) _
  rw [eH]
  refine a_callVv C (c_unpack G Z A P N (va_up R 2 g) Q (F := H) hs hs7 (fun x a b => by have := hH.1.1 x a b; omega)) kcX1_X1_unpack dX1_slideToFront_19 rfl (by decide) (by decide) (by decide) (Nat.le_of_ble_eq_true rfl) 0 rfl (ci := 1) rfl rfl rfl (fun g2 hg2 => ?_)
  refine r_iconst (v := 0) C dX1_slideToFront_22 (by decide) ?_
  refine r_istore_n C dX1_slideToFront_23 rfl (by decide) ?_
  refine r_iconst (v := 1) C dX1_slideToFront_24 (by decide) ?_
  refine r_istore_n C dX1_slideToFront_25 rfl (by decide) ?_
  refine r_iconst (v := 0) C dX1_slideToFront_26 (by decide) ?_
  refine r_istore C dX1_slideToFront_27 (by decide) ?_
  exact key 64 0 1 _ 0 F H rfl (Nat.le_refl _) (by omega) (by have := inv_le (H := H) s hs7; omega) (SlI.rf hF hH) NoBl.one (Or.inl ⟨rfl, rfl, rfl⟩) rfl hg hg2
end F3
