/-! the reference: about, alike -/
/-- what about() answers of a pattern -/
def abQ (c : Nat → Int32) (s z : Nat) (w : Nat) (r : Int32) : Prop :=
  (w = 0 ∧ r = nI s) ∨ (w = 1 ∧ ∃ m, isHome (gT c z) s m ∧ m ≤ 420 ∧ r = nI m) ∨ (w = 2 ∧ r = nI (rgN (gT c z) s)) ∨ (w = 3 ∧ ((HoldsP c z s ∧ r = 1) ∨ (¬ HoldsP c z s ∧ r = 0))) ∨ (w = 4 ∧ r = nI (lvMost c z)) ∨ (w = 5 ∧ ∃ n first B, NFof c s z z n first B ∧ r = -nI (ngd c z z z) + nI first) ∨ (w = 6 ∧ ∃ n first B, NFof c s z z n first B ∧ r = nI (n - first))
section M19
variable (G : Gx) (h : Nat) (ad : Nat → Nat) (M : Mt) (R : Rt)
theorem c_about (kk ww : Int32) (hP : PatsOK R) : mI G h ad yX7_about cX7_about 3 .int 5 [.int kk, .int ww] M R (fun r M' R' => SamM M M' ∧ SamP R R' ∧ ((∃ j s z w, j < 8 ∧ kk = nI j ∧ PatOK R j s z ∧ w ≤ 6 ∧ ww = nI w ∧ abQ (rowOf R j) s z w r ∧ M' 0 = 0) ∨ ((¬ isPat R kk ∨ ∀ w, w ≤ 6 → ww ≠ nI w) ∧ r = 0 ∧ M' 0 = 1))) := by
  refine mI.intro (by decide) (Nat.le_of_ble_eq_true rfl) (cat1 (xs := [kk, ww])) fun X C hR => ?_
  refine r_aload_n C dX7_about_0 rfl rfl ?_
  refine r_iload_n C dX7_about_1 rfl rfl ?_
  refine m_calli C (c_isPattern G h ad M R kk) kM_isPattern dX7_about_2 rfl (by decide) (by decide) (by decide) (by decide) rfl rfl (fun r M1 R1 hq => ?_)
  obtain ⟨rfl, ⟨hpat, rfl, rfl⟩ | ⟨hpat, rfl, rfl⟩⟩ := hq
  rotate_left
  · refine r_if_eq (tgt := 31) C dX7_about_5 (by decide) (fun c5 => ?_) (fun c5 => absurd c5 ((fun q => q rfl)))
    refine r_iconst (v := 0) C dX7_about_31 (by decide) ?_
    exact hR _ _ _ _ _ rfl dX7_about_32 ⟨SamM.rf.up (by omega), SamP.rf, Or.inr ⟨Or.inl hpat, rfl, rfl⟩⟩
  obtain ⟨j, s, z, hj, rfl, hp⟩ := isPat_at hpat hP
  obtain ⟨hs5, hs2, hs7, hz, hz3, hok⟩ := id hp
  have hS0 : SamM M (va_up M 0 0) := SamM.rf.up (by omega)
  have j23 : (∀ w, w ≤ 6 → ww ≠ nI w) → V X 0 0 23 (ent [.ref h, .int (nI j), .int ww] 3) [.ref h] (mW G h ad (va_up M 0 0) R1) := by
    intro hno
    refine r_iconst (v := 0) C dX7_about_23 (by decide) ?_
    refine r_iconst (v := 1) C dX7_about_24 (by decide) ?_
    refine m_calli C (c_right0 G h ad _ _ 1 (by decide) rfl) kM_right dX7_about_25 rfl (by decide) (by decide) (by decide) (by decide) rfl rfl (fun r M3 R3 hq => ?_)
    obtain ⟨rfl, rfl, rfl⟩ := hq
    refine r_if_ne (tgt := 33) C dX7_about_28 (by decide) (fun c28 => absurd c28 ((fun q => q rfl))) (fun c28 => ?_)
    refine r_iconst (v := 0) C dX7_about_31 (by decide) ?_
    exact hR _ _ _ _ _ rfl dX7_about_32 ⟨hS0.up (by omega), SamP.rf, Or.inr ⟨Or.inr hno, rfl, rfl⟩⟩
  refine r_if_eq (tgt := 31) C dX7_about_5 (by decide) (fun c5 => absurd c5 ((by decide))) (fun c5 => ?_)
  refine r_aload_n C dX7_about_8 rfl rfl ?_
  refine r_iload_n C dX7_about_9 rfl rfl ?_
  refine r_if_lt (tgt := 23) C dX7_about_10 (by decide) (fun c10 => ?_) (fun c10 => ?_)
  · first
      | exact j23 (fun w hw e => absurd c10 (by rw [e]; exact nI_pos (by omega)))
      | exact j23 (fun w hw e => absurd c16 (by rw [e]; exact Int32.not_lt.mpr (nI_le (a := w) (b := 6) hw (by decide))))
  · refine r_iload_n C dX7_about_13 rfl rfl ?_
    refine r_bipush (v := 6) C dX7_about_14 (by decide) ?_
    refine r_icmp_gt (tgt := 23) C dX7_about_16 (by decide) (fun c16 => ?_) (fun c16 => ?_)
    · first
        | exact j23 (fun w hw e => absurd c10 (by rw [e]; exact nI_pos (by omega)))
        | exact j23 (fun w hw e => absurd c16 (by rw [e]; exact Int32.not_lt.mpr (nI_le (a := w) (b := 6) hw (by decide))))
    · obtain ⟨w, hw6, rfl⟩ := nI_of2 (n := 6) (by decide) c10 (Int32.not_lt.mp c16)
      refine r_iconst (v := 1) C dX7_about_19 (by decide) ?_
      refine r_goto (tgt := 24) C dX7_about_20 (by decide) ?_
      refine r_iconst (v := 1) C dX7_about_24 (by decide) ?_
      refine m_calli C (c_right1 G h ad _ _ 1 rfl) kM_right dX7_about_25 rfl (by decide) (by decide) (by decide) (by decide) rfl rfl (fun r M3 R3 hq => ?_)
      obtain ⟨rfl, rfl, rfl⟩ := hq
      refine r_if_ne (tgt := 33) C dX7_about_28 (by decide) (fun c28 => ?_) (fun c28 => absurd c28 ((by decide)))
      refine r_iload_n C dX7_about_33 rfl rfl ?_
      refine r_tab C dX7_about_34 (by decide) (by decide) (fun i34 off34 ho34 hx34 => ?_) (fun hx34 => ⟨107, by decide, ?_⟩)
      · have hi34 : i34 < 5 := (Array.getElem?_eq_some_iff.mp ho34).1
        rcases (show i34 = 0 ∨ i34 = 1 ∨ i34 = 2 ∨ i34 = 3 ∨ i34 = 4 by omega) with rfl | rfl | rfl | rfl | rfl
        · cases ho34
          refine ⟨68, by decide, ?_⟩
          refine r_aload_n C dX7_about_68 rfl rfl ?_
          refine mg_straws C dX7_about_69 ?_
          refine r_iload_n C dX7_about_72 rfl rfl ?_
          refine ml_straws C dX7_about_73 (vp_in_nI hj (by decide)) ?_
          rw [nI_clamp (by omega), hs5]
          exact hR _ _ _ _ _ rfl dX7_about_74 ⟨hS0, SamP.rf, Or.inl ⟨j, s, z, w, hj, rfl, hp, hw6, rfl, Or.inl ⟨(nI_eq (b := 0) (by omega) (by decide)).mp hx34, rfl⟩, rfl⟩⟩
        · cases ho34
          refine ⟨75, by decide, ?_⟩
          refine r_aload_n C dX7_about_75 rfl rfl ?_
          refine r_iload_n C dX7_about_76 rfl rfl ?_
          refine m_calli C (c_home G h ad _ _ hj hp) kM_home dX7_about_77 rfl (by decide) (by decide) (by decide) (by decide) rfl rfl (fun r M4 R4 hq => ?_)
          obtain ⟨⟨m, hm, hm4, rfl⟩, rfl, P, rfl⟩ := hq
          exact hR _ _ _ _ _ rfl dX7_about_80 ⟨hS0, SamP.rf.up (by omega), Or.inl ⟨j, s, z, w, hj, rfl, hp, hw6, rfl, Or.inr (Or.inl ⟨(nI_eq (b := 1) (by omega) (by decide)).mp hx34, m, hm, hm4, rfl⟩), rfl⟩⟩
        · cases ho34
          refine ⟨81, by decide, ?_⟩
          refine r_aload_n C dX7_about_81 rfl rfl ?_
          refine r_iload_n C dX7_about_82 rfl rfl ?_
          refine m_calli C (c_rings G h ad _ _ hj hp) kM_rings dX7_about_83 rfl (by decide) (by decide) (by decide) (by decide) rfl rfl (fun r M4 R4 hq => ?_)
          obtain ⟨rfl, rfl, rfl⟩ := hq
          exact hR _ _ _ _ _ rfl dX7_about_86 ⟨hS0, SamP.rf, Or.inl ⟨j, s, z, w, hj, rfl, hp, hw6, rfl, Or.inr (Or.inr (Or.inl ⟨(nI_eq (b := 2) (by omega) (by decide)).mp hx34, rfl⟩)), rfl⟩⟩
        · cases ho34
          refine ⟨87, by decide, ?_⟩
          refine r_aload_n C dX7_about_87 rfl rfl ?_
          refine r_iload_n C dX7_about_88 rfl rfl ?_
          refine m_calli C (c_holds G h ad _ _ hj hp) kM_holds dX7_about_89 rfl (by decide) (by decide) (by decide) (by decide) rfl rfl (fun r M4 R4 hq => ?_)
          obtain ⟨hh, rfl, P, rfl⟩ := hq
          refine r_if_eq (tgt := 99) C dX7_about_92 (by decide) (fun c92 => ?_) (fun c92 => ?_)
          · refine r_iconst (v := 0) C dX7_about_99 (by decide) ?_
            exact hR _ _ _ _ _ rfl dX7_about_100 ⟨hS0, SamP.rf.up (by omega), Or.inl ⟨j, s, z, w, hj, rfl, hp, hw6, rfl, Or.inr (Or.inr (Or.inr (Or.inl ⟨(nI_eq (b := 3) (by omega) (by decide)).mp hx34, by first | exact Or.inl ⟨hh.elim (fun q => q.2) (fun q => absurd q.1 c92), rfl⟩ | exact Or.inr ⟨hh.elim (fun q => absurd (q.1.symm.trans c92) (by decide)) (fun q => q.2), rfl⟩⟩))), rfl⟩⟩
          · refine r_iconst (v := 1) C dX7_about_95 (by decide) ?_
            refine r_goto (tgt := 100) C dX7_about_96 (by decide) ?_
            exact hR _ _ _ _ _ rfl dX7_about_100 ⟨hS0, SamP.rf.up (by omega), Or.inl ⟨j, s, z, w, hj, rfl, hp, hw6, rfl, Or.inr (Or.inr (Or.inr (Or.inl ⟨(nI_eq (b := 3) (by omega) (by decide)).mp hx34, by first | exact Or.inl ⟨hh.elim (fun q => q.2) (fun q => absurd q.1 c92), rfl⟩ | exact Or.inr ⟨hh.elim (fun q => absurd (q.1.symm.trans c92) (by decide)) (fun q => q.2), rfl⟩⟩))), rfl⟩⟩
        · cases ho34
          refine ⟨101, by decide, ?_⟩
          refine r_aload_n C dX7_about_101 rfl rfl ?_
          refine r_iload_n C dX7_about_102 rfl rfl ?_
          refine m_calli C (c_levels G h ad _ _ hj hp) kM_levels dX7_about_103 rfl (by decide) (by decide) (by decide) (by decide) rfl rfl (fun r M4 R4 hq => ?_)
          obtain ⟨rfl, rfl, P, rfl⟩ := hq
          exact hR _ _ _ _ _ rfl dX7_about_106 ⟨hS0, SamP.rf.up (by omega), Or.inl ⟨j, s, z, w, hj, rfl, hp, hw6, rfl, Or.inr (Or.inr (Or.inr (Or.inr (Or.inl ⟨(nI_eq (b := 4) (by omega) (by decide)).mp hx34, rfl⟩)))), rfl⟩⟩
      · have hw56 : w = 5 ∨ w = 6 := by
          rcases (show w = 0 ∨ w = 1 ∨ w = 2 ∨ w = 3 ∨ w = 4 ∨ w = 5 ∨ w = 6 by omega) with rfl | rfl | rfl | rfl | rfl | rfl | rfl
          · exact absurd rfl (hx34 0 (by decide))
          · exact absurd rfl (hx34 1 (by decide))
          · exact absurd rfl (hx34 2 (by decide))
          · exact absurd rfl (hx34 3 (by decide))
          · exact absurd rfl (hx34 4 (by decide))
          · exact Or.inl rfl
          · exact Or.inr rfl
        refine r_aload_n C dX7_about_107 rfl rfl ?_
        refine r_iload_n C dX7_about_108 rfl rfl ?_
        refine r_iconst (v := 1) C dX7_about_109 (by decide) ?_
        refine m_callv C (c_form G h ad _ _ (T := 1) hj hp (by decide) (by omega)) kM_form dX7_about_110 rfl (by decide) (by decide) (by decide) (by decide) rfl rfl (fun M4 R4 hq => ?_)
        rw [Nat.mul_one] at hq
        obtain ⟨n, first, B, hnf, hM19, hM20, hM0, hSM, hSP, hSeq, -⟩ := hq.get
        refine r_iload_n C dX7_about_113 rfl rfl ?_
        refine r_iconst (v := 5) C dX7_about_114 (by decide) ?_
        refine r_icmp_ne (tgt := 125) C dX7_about_115 (by decide) (fun c115 => ?_) (fun c115 => ?_)
        · have h6 : w = 6 := hw56.elim (fun e => absurd (by rw [e]; rfl) c115) id
          refine r_aload_n C dX7_about_125 rfl rfl ?_
          refine mg_perms C dX7_about_126 ?_
          first
            | (rw [hM19]; exact hR _ _ _ _ _ rfl dX7_about_129 ⟨hS0.tr hSM, hSP, Or.inl ⟨j, s, z, w, hj, rfl, hp, hw6, rfl, Or.inr (Or.inr (Or.inr (Or.inr (Or.inr (Or.inr ⟨h6, n, first, B, hnf, rfl⟩))))), hM0⟩⟩)
            | exact hR _ _ _ _ _ rfl dX7_about_129 ⟨hS0.tr hSM, hSP, Or.inl ⟨j, s, z, w, hj, rfl, hp, hw6, rfl, Or.inr (Or.inr (Or.inr (Or.inr (Or.inr (Or.inl ⟨h5, n, first, B, hnf, rfl⟩))))), hM0⟩⟩
        · have h5 : w = 5 := (nI_eq (b := 5) (by omega) (by decide)).mp c115
          refine r_aload_n C dX7_about_118 rfl rfl ?_
          refine mg_power C dX7_about_119 ?_
          rw [hM20]
          refine r_goto (tgt := 129) C dX7_about_122 (by decide) ?_
          first
            | (rw [hM19]; exact hR _ _ _ _ _ rfl dX7_about_129 ⟨hS0.tr hSM, hSP, Or.inl ⟨j, s, z, w, hj, rfl, hp, hw6, rfl, Or.inr (Or.inr (Or.inr (Or.inr (Or.inr (Or.inr ⟨h6, n, first, B, hnf, rfl⟩))))), hM0⟩⟩)
            | exact hR _ _ _ _ _ rfl dX7_about_129 ⟨hS0.tr hSM, hSP, Or.inl ⟨j, s, z, w, hj, rfl, hp, hw6, rfl, Or.inr (Or.inr (Or.inr (Or.inr (Or.inr (Or.inl ⟨h5, n, first, B, hnf, rfl⟩))))), hM0⟩⟩
end M19
