/-! the class: Form: a factor put behind -/
theorem codeF_can {F H : Nat → Nat} {s : Nat} (hs : s ≤ 7) (hF : CanF s F) (hH : CanF s H) : codeF F s = codeF H s ↔ F = H := by
  refine ⟨fun e => ?_, fun e => by rw [e]⟩
  have h := (codeF_inj hs (fun x a b => by have := hF.1.1 x a b; omega) (fun x a b => by have := hH.1.1 x a b; omega)).mp e
  funext x
  by_cases q : 1 ≤ x ∧ x ≤ s
  · exact h x q.1 q.2
  · rw [hF.2 x (by omega), hH.2 x (by omega)]
/-- a form whose factors are B: hd times D, up to tl -/
def ApS (S : Sq) (s m hd tl : Nat) (base : Int32) (Z : Nat) (n r1 : Nat → Int32) (B : Sq) : Prop := FmB n Z s hd tl ∧ n 5 = codeF (revF s) s ∧ n 6 = codeF idF s ∧ n 0 = base + nI hd ∧ Rch s m (pre S m) B ∧ tl ≤ m ∧ (∀ f, f < hd → B f = revF s) ∧ (∀ f, tl ≤ f → B f = idF) ∧ (∀ f, f < tl → r1 f = codeF (B f) s)
def FmF (S : Sq) (s m hd tl : Nat) (base : Int32) (Z : Nat) (n r1 : Nat → Int32) (B : Sq) : Prop := ApS S s m hd tl base Z n r1 B ∧ (∀ k, NoMv s (B k) (B (k + 1))) ∧ (∀ f, f < tl → B f ≠ idF) ∧ (hd < tl → B hd ≠ revF s)
theorem FmF.fn {S : Sq} {s m hd tl : Nat} {base : Int32} {Z : Nat} {n r1 : Nat → Int32} {B : Sq} (h : FmF S s m hd tl base Z n r1 B) : FN S s m hd tl B :=
  ⟨h.1.1.2.2.2.2.2.1, h.1.2.2.2.2.2.1, h.1.2.2.2.2.1, h.2.1, h.1.2.2.2.2.2.2.2.1, h.2.2.1, h.1.2.2.2.2.2.2.1, h.2.2.2⟩
section F4
variable (G : Gx) (Z : Nat) (A : Nat → Nat) (P : va_W) (N : Nt) (R : Rt) (Q : Qt)
theorem c_append {S : Sq} {s m hd tl : Nat} {base : Int32} {B : Sq} (hS : ∀ f, CanF s (S f)) (hF : FmF S s m hd tl base Z (N 0) (R 1) B) (hm : m < Z) (hZ : Z ≤ 1000) : CV G yX1_append cX1_append 4 3 0 0 [.ref (A 0), .int (codeF (S m) s)] (fW G Z A N R Q ++ P) (S := Nt × Rt) (fun u => ∃ hd' tl' B', FmF S s (m + 1) hd' tl' base Z (u.1 0) (u.2 1) B') (fun u => fW G Z A u.1 u.2 Q ++ P) := by
  have hput := hF.fn.put hS
  obtain ⟨⟨hB, e5, e6, e0, hR0, htm, hrev, hid, hdec⟩, hnm, hni, hnr⟩ := hF
  obtain ⟨e4, s2, s7, e2, e3, hht, htz⟩ := id hB
  refine CV.intro (by decide) (Nat.le_of_ble_eq_true rfl) (cat1 (xs := [codeF (S m) s])) fun X C hR => ?_
  have can1 : ∀ {B2 : Sq}, Rch s (m + 1) (pre S (m + 1)) B2 → ∀ f, CanF s (B2 f) := fun h => (h.can (pre_can hS)).1
  have k116 : ∀ (f hd tl : Nat) (N' : Nt) (R' : Rt) (B2 : Sq) (o2 o3 : Option Value), hd + f = tl → ApS S s (m + 1) hd tl base Z (N' 0) (R' 1) B2 → (∀ k, NoMv s (B2 k) (B2 (k + 1))) → (hd < tl → B2 hd ≠ revF s) → V X 0 0 116 [some (.ref (A 0)), some (.int (codeF (S m) s)), o2, o3] [] (fW G Z A N' R' Q ++ P) := by
    intro f
    induction f with
    | zero =>
      intro hd tl N' R' B2 o2 o3 hf hA hn hr
      obtain ⟨⟨d4, -, -, d2, d3, dht, dtz⟩, d5, d6, d0, dR, dtm, drev, did, ddec⟩ := id hA
      refine r_aload_n C dX1_append_116 rfl rfl ?_
      refine fg_X1_18 C dX1_append_117 ?_
      refine r_aload_n C dX1_append_120 rfl rfl ?_
      refine fg_X1_15 C dX1_append_121 ?_
      rw [d2, d3]
      refine r_icmp_le (tgt := 158) C dX1_append_124 (by decide) (fun c124 => ?_) (fun c124 => absurd c124 ((fun q => q (by rw [nI_leI (by omega) (by omega)]; omega))))
      exact hR _ _ _ _ (N', R') (by decide) (by decide) ⟨hd, tl, B2, hA, hn, fun f hf => by rw [drev f (by omega)]; exact rev_ne_id s2, hr⟩ dX1_append_158
    | succ f ih =>
      intro hd tl N' R' B2 o2 o3 hf hA hn hr
      obtain ⟨⟨d4, -, -, d2, d3, dht, dtz⟩, d5, d6, d0, dR, dtm, drev, did, ddec⟩ := id hA
      obtain ⟨t', rfl⟩ : ∃ t', tl = t' + 1 := ⟨tl - 1, by omega⟩
      refine r_aload_n C dX1_append_116 rfl rfl ?_
      refine fg_X1_18 C dX1_append_117 ?_
      refine r_aload_n C dX1_append_120 rfl rfl ?_
      refine fg_X1_15 C dX1_append_121 ?_
      rw [d2, d3]
      refine r_icmp_le (tgt := 158) C dX1_append_124 (by decide) (fun c124 => absurd c124 ((by rw [nI_leI (by omega) (by omega)]; omega))) (fun c124 => ?_)
      refine r_aload_n C dX1_append_127 rfl rfl ?_
      refine fg_X1_43 C dX1_append_128 ?_
      refine r_aload_n C dX1_append_131 rfl rfl ?_
      refine fg_X1_18 C dX1_append_132 ?_
      refine r_iconst (v := 1) C dX1_append_135 (by decide) ?_
      refine r_isub C dX1_append_136 ?_
      rw [d3, nI_pred]
      refine fl_1 C dX1_append_137 (vp_in_nI (show t' < Z by omega) (by omega)) ?_
      rw [nI_clamp (by omega), ddec t' (by omega)]
      refine r_aload_n C dX1_append_138 rfl rfl ?_
      refine fg_X1_27 C dX1_append_139 ?_
      rw [d6]
      refine r_icmp_ne (tgt := 158) C dX1_append_142 (by decide) (fun c142 => ?_) (fun c142 => ?_)
      · exact hR _ _ _ _ (N', R') (by decide) (by decide) ⟨hd, t' + 1, B2, hA, hn, fun f hf e => c142 (by rw [show B2 t' = idF by have := nf_ids (can1 dR) hn e (t' - f); rw [show f + (t' - f) = t' by omega] at this; exact this]), hr⟩ dX1_append_158
      · refine r_aload_n C dX1_append_145 rfl rfl ?_
        refine r_dup C dX1_append_146 rfl ?_
        refine fg_X1_18 C dX1_append_147 ?_
        refine r_iconst (v := 1) C dX1_append_150 (by decide) ?_
        refine r_isub C dX1_append_151 ?_
        rw [d3, nI_pred]
        refine fp_X1_18 C dX1_append_152 ?_
        refine r_goto (tgt := 116) C dX1_append_155 (by decide) ?_
        exact ih hd t' _ R' B2 o2 o3 (by omega) ⟨⟨d4, s2, s7, d2, rfl, by omega, by omega⟩, d5, d6, d0, dR, by omega, drev, fun f hf => by rcases (show f = t' ∨ t' + 1 ≤ f by omega) with q | q; rw [q]; exact (codeF_can s7 (can1 dR t') (idF_can s)).mp c142; exact did f q, fun f hf => ddec f (by omega)⟩ hn (fun _ => hr (by omega))
  have k66 : ∀ (f hd tl : Nat) (N' : Nt) (R' : Rt) (B2 : Sq) (o2 o3 : Option Value), hd + f = tl → ApS S s (m + 1) hd tl base Z (N' 0) (R' 1) B2 → (∀ k, NoMv s (B2 k) (B2 (k + 1))) → V X 0 0 66 [some (.ref (A 0)), some (.int (codeF (S m) s)), o2, o3] [] (fW G Z A N' R' Q ++ P) := by
    intro f
    induction f with
    | zero =>
      intro hd tl N' R' B2 o2 o3 hf hA hn
      obtain ⟨⟨d4, -, -, d2, d3, dht, dtz⟩, -⟩ := id hA
      refine r_aload_n C dX1_append_66 rfl rfl ?_
      refine fg_X1_15 C dX1_append_67 ?_
      refine r_aload_n C dX1_append_70 rfl rfl ?_
      refine fg_X1_18 C dX1_append_71 ?_
      rw [d2, d3]
      refine r_icmp_ge (tgt := 116) C dX1_append_74 (by decide) (fun c74 => ?_) (fun c74 => absurd c74 ((fun q => q (by rw [nI_leI (by omega) (by omega)]; omega))))
      exact k116 0 hd tl N' R' B2 o2 o3 hf hA hn (fun q => absurd q (by omega))
    | succ f ih =>
      intro hd tl N' R' B2 o2 o3 hf hA hn
      obtain ⟨⟨d4, -, -, d2, d3, dht, dtz⟩, d5, d6, d0, dR, dtm, drev, did, ddec⟩ := id hA
      refine r_aload_n C dX1_append_66 rfl rfl ?_
      refine fg_X1_15 C dX1_append_67 ?_
      refine r_aload_n C dX1_append_70 rfl rfl ?_
      refine fg_X1_18 C dX1_append_71 ?_
      rw [d2, d3]
      refine r_icmp_ge (tgt := 116) C dX1_append_74 (by decide) (fun c74 => absurd c74 ((by rw [nI_leI (by omega) (by omega)]; omega))) (fun c74 => ?_)
      refine r_aload_n C dX1_append_77 rfl rfl ?_
      refine fg_X1_43 C dX1_append_78 ?_
      refine r_aload_n C dX1_append_81 rfl rfl ?_
      refine fg_X1_15 C dX1_append_82 ?_
      rw [d2]
      refine fl_1 C dX1_append_85 (vp_in_nI (show hd < Z by omega) (by omega)) ?_
      rw [nI_clamp (by omega), ddec hd (by omega)]
      refine r_aload_n C dX1_append_86 rfl rfl ?_
      refine fg_X1_24 C dX1_append_87 ?_
      rw [d5]
      refine r_icmp_ne (tgt := 116) C dX1_append_90 (by decide) (fun c90 => ?_) (fun c90 => ?_)
      · exact k116 (f + 1) hd tl N' R' B2 o2 o3 hf hA hn (fun _ e => c90 (by rw [e]))
      · refine r_aload_n C dX1_append_93 rfl rfl ?_
        refine r_dup C dX1_append_94 rfl ?_
        refine fg_X1_15 C dX1_append_95 ?_
        refine r_iconst (v := 1) C dX1_append_98 (by decide) ?_
        refine r_iadd C dX1_append_99 ?_
        rw [d2, nI_1]
        refine fp_X1_15 C dX1_append_100 ?_
        refine r_aload_n C dX1_append_103 rfl rfl ?_
        refine r_dup C dX1_append_104 rfl ?_
        refine fg_X1_9 C dX1_append_105 ?_
        refine r_iconst (v := 1) C dX1_append_108 (by decide) ?_
        refine r_iadd C dX1_append_109 ?_
        refine fp_X1_9 C dX1_append_110 ?_
        refine r_goto (tgt := 66) C dX1_append_113 (by decide) ?_
        refine ih (hd + 1) tl _ R' B2 o2 o3 (by omega) ⟨⟨d4, s2, s7, rfl, d3, by omega, by omega⟩, d5, d6, ?_, dR, dtm, fun f hf => ?_, did, ddec⟩ hn
        · show N' 0 0 + 1 = base + nI (hd + 1)
          rw [d0, Int32.add_assoc, nI_1]
        · rcases (show f = hd ∨ f < hd by omega) with q | q
          · rw [q]
            exact (codeF_can s7 (can1 dR hd) (revF_can s)).mp c90
          · exact drev f q
  have k42 : ∀ (k : Nat) (N' : Nt) (R' : Rt) (mv : Int32) (B2 : Sq), k ≤ tl → ApS S s (m + 1) hd (tl + 1) base Z (N' 0) (R' 1) B2 → ApI s k mv B2 → V X 0 0 42 [some (.ref (A 0)), some (.int (codeF (S m) s)), some (.int mv), some (.int (nI k - 1))] [] (fW G Z A N' R' Q ++ P) := by
    intro k
    induction k with
    | zero =>
      intro N' R' mv B2 hk hA hI
      obtain ⟨⟨d4, -, -, d2, d3, dht, dtz⟩, -⟩ := id hA
      refine r_iload_n C dX1_append_42 rfl rfl ?_
      refine r_aload_n C dX1_append_43 rfl rfl ?_
      refine fg_X1_15 C dX1_append_44 ?_
      rw [d2]
      refine r_icmp_lt (tgt := 66) C dX1_append_47 (by decide) (fun c47 => ?_) (fun c47 => absurd c47 ((fun q => q ((m1_lt (by omega) (by omega)).mpr (Nat.zero_le _)))))
      exact k66 (tl + 1 - hd) hd (tl + 1) N' R' B2 _ _ (by omega) hA (hI.all (Or.inr (fun k hk => absurd hk (by omega))))
    | succ k ih =>
      intro N' R' mv B2 hk hA hI
      obtain ⟨⟨d4, -, -, d2, d3, dht, dtz⟩, d5, d6, d0, dR, dtm, drev, did, ddec⟩ := id hA
      rw [nI_pred]
      refine r_iload_n C dX1_append_42 rfl rfl ?_
      refine r_aload_n C dX1_append_43 rfl rfl ?_
      refine fg_X1_15 C dX1_append_44 ?_
      rw [d2]
      refine r_icmp_lt (tgt := 66) C dX1_append_47 (by decide) (fun c47 => ?_) (fun c47 => ?_)
      · first | exact k66 (tl + 1 - hd) hd (tl + 1) N' R' B2 _ _ (by omega) hA (hI.all (Or.inl c51)) | exact k66 (tl + 1 - hd) hd (tl + 1) N' R' B2 _ _ (by omega) hA (hI.all (Or.inr (fun q hq => drev q (by rw [nI_ltI (by omega) (by omega)] at c47; omega))))
      · refine r_iload_n C dX1_append_50 rfl rfl ?_
        refine r_if_eq (tgt := 66) C dX1_append_51 (by decide) (fun c51 => ?_) (fun c51 => ?_)
        · first | exact k66 (tl + 1 - hd) hd (tl + 1) N' R' B2 _ _ (by omega) hA (hI.all (Or.inl c51)) | exact k66 (tl + 1 - hd) hd (tl + 1) N' R' B2 _ _ (by omega) hA (hI.all (Or.inr (fun q hq => drev q (by rw [nI_ltI (by omega) (by omega)] at c47; omega))))
        · refine r_aload_n C dX1_append_54 rfl rfl ?_
          refine r_iload_n C dX1_append_55 rfl rfl ?_
          rw [nI_ltI (by omega) (by omega)] at c47
          refine a_callVi C (c_slideToFront G Z A P N' R' Q (s := s) (j := k) (F := B2 k) (H := B2 (k + 1)) d4 s2 s7 (by omega) hZ (can1 dR k) (can1 dR (k + 1)) (ddec k (by omega)) (ddec (k + 1) (by omega))) kcX1_X1_slideToFront dX1_append_56 rfl (by decide) (by decide) (by decide) (Nat.le_of_ble_eq_true rfl) 0 rfl (ci := 1) rfl rfl rfl (fun r R2 hr => ?_)
          obtain ⟨F', H', hSl, hno, hr⟩ := hr
          refine r_istore_n C dX1_append_59 rfl (by decide) ?_
          refine r_iinc (v := _ + (-1)) C dX1_append_60 rfl (by rfl) (by decide) ?_
          refine r_goto (tgt := 42) C dX1_append_63 (by decide) ?_
          show V X 0 0 42 [_, _, _, some (.int (nI k + (-1)))] _ _
          rw [nI_m1]
          refine ih N' R2 r (va_up (va_up B2 k F') (k + 1) H') (by omega) ⟨⟨d4, s2, s7, d2, d3, dht, dtz⟩, d5, d6, d0, dR.trans (hSl.2.2.2 (m + 1) k B2 (by omega) rfl rfl), dtm, fun f hf => ?_, fun f hf => ?_, fun f hf => ?_⟩ (hI.next (can1 dR) c51 hSl hno (by rcases hr with q | q; exact Or.inl ⟨q.1, q.2.1, q.2.2.1⟩; exact Or.inr q.1))
          · rw [va_up_no (by omega), va_up_no (by omega)]
            exact drev f hf
          · rw [va_up_no (by omega), va_up_no (by omega)]
            exact did f hf
          · rcases hr with ⟨-, q1, q2, q3⟩ | ⟨-, q⟩
            · rw [q3, q1, q2, up_same (f := B2) rfl, up_same rfl]
              exact ddec f hf
            · rw [q]
              by_cases w2 : f = k + 1
              · rw [w2, va_up_at, pk_us]
              · rw [va_up_no w2, pk_un w2]
                by_cases w1 : f = k
                · rw [w1, va_up_at, pk_us]
                · rw [va_up_no w1, pk_un w1]
                  exact ddec f hf
  refine r_aload_n C dX1_append_0 rfl rfl ?_
  refine fg_X1_18 C dX1_append_1 ?_
  refine r_aload_n C dX1_append_4 rfl rfl ?_
  refine fg_X1_43 C dX1_append_5 ?_
  rw [e3]
  refine r_alen (t0 := 0) C 1 (fun _ => rfl) rfl dX1_append_8 ?_
  show V X 0 0 9 _ [.int (nI Z), .int (nI tl)] _
  refine r_icmp_lt (tgt := 13) C dX1_append_9 (by decide) (fun c9 => ?_) (fun c9 => absurd c9 ((fun q => q (by rw [nI_ltI (by omega) (by omega)]; omega))))
  refine r_aload_n C dX1_append_13 rfl rfl ?_
  refine fg_X1_43 C dX1_append_14 ?_
  refine r_aload_n C dX1_append_17 rfl rfl ?_
  refine fg_X1_18 C dX1_append_18 ?_
  refine r_iload_n C dX1_append_21 rfl rfl ?_
  rw [e3]
  refine fs_1 C dX1_append_22 (vp_in_nI (show tl < Z by omega) (by omega)) ?_
  rw [nI_clamp (by omega)]
  refine r_aload_n C dX1_append_23 rfl rfl ?_
  refine r_dup C dX1_append_24 rfl ?_
  refine fg_X1_18 C dX1_append_25 ?_
  refine r_iconst (v := 1) C dX1_append_28 (by decide) ?_
  refine r_iadd C dX1_append_29 ?_
  rw [e3, nI_1]
  refine fp_X1_18 C dX1_append_30 ?_
  refine r_iconst (v := 1) C dX1_append_33 (by decide) ?_
  refine r_istore_n C dX1_append_34 rfl (by decide) ?_
  refine r_aload_n C dX1_append_35 rfl rfl ?_
  refine fg_X1_18 C dX1_append_36 ?_
  refine r_iconst (v := 2) C dX1_append_39 (by decide) ?_
  refine r_isub C dX1_append_40 ?_
  refine r_istore_n C dX1_append_41 rfl (by decide) ?_
  show V X 0 0 42 [_, _, _, some (.int (nI (tl + 1) - 2))] _ _
  rw [show nI (tl + 1) - 2 = nI tl - 1 by rw [← nI_pred tl, Int32.sub_sub]; rfl]
  refine k42 tl _ _ 1 (va_up B tl (S m)) (Nat.le_refl _) ⟨⟨e4, s2, s7, e2, rfl, by omega, by omega⟩, e5, e6, e0, hput, by omega, fun f hf => ?_, fun f hf => ?_, fun f hf => ?_⟩ (ApI.start (hS m).1 hnm hid)
  · rw [va_up_no (by omega)]
    exact hrev f hf
  · rw [va_up_no (by omega)]
    exact hid f (by omega)
  · by_cases w : f = tl
    · rw [w, va_up_at (f := B)]
      exact pk_us
    · rw [va_up_no w]
      refine (pk_un w).trans (hdec f (by omega))
/-- the turned factors -/
theorem c_turnFactors {S : Sq} {s m hd tl : Nat} {base : Int32} {B : Sq} (hS : ∀ f, CanF s (S f)) (hF : FmF S s m hd tl base Z (N 0) (R 1) B) (hZ : Z ≤ 1000) : CV G yX1_turnFactors cX1_turnFactors 4 1 0 0 [.ref (A 0)] (fW G Z A N R Q ++ P) (S := Rt) (fun R' => FmF (turnS s S) s m hd tl base Z (N 0) (R' 1) (turnS s B)) (fun R' => fW G Z A N R' Q ++ P) := by
  have hcB := hF.fn.can hS
  have hFN := hF.fn.turn hS
  obtain ⟨⟨hB, e5, e6, e0, hR0, htm, hrev, hid, hdec⟩, hnm, hni, hnr⟩ := hF
  obtain ⟨e4, s2, s7, e2, e3, hht, htz⟩ := id hB
  refine CV.intro (by decide) (Nat.le_of_ble_eq_true rfl) (cat1 (xs := [])) fun X C hR => ?_
  have key : ∀ (f j : Nat) (R' : Rt) (o2 o3 : Option Value), j + f = tl → hd ≤ j → (∀ q, q < j → R' 1 q = codeF (turnF s (B q)) s) → (∀ q, j ≤ q → q < tl → R' 1 q = codeF (B q) s) → V X 0 0 5 [some (.ref (A 0)), some (.int (nI j)), o2, o3] [] (fW G Z A N R' Q ++ P) := by
    intro f
    induction f with
    | zero =>
      intro j R' o2 o3 hj h1 ha hb
      refine r_iload_n C dX1_turnFactors_5 rfl rfl ?_
      refine r_aload_n C dX1_turnFactors_6 rfl rfl ?_
      refine fg_X1_18 C dX1_turnFactors_7 ?_
      rw [e3]
      refine r_icmp_ge (tgt := 81) C dX1_turnFactors_10 (by decide) (fun c10 => ?_) (fun c10 => absurd c10 ((fun q => q (by rw [nI_leI (by omega) (by omega)]; omega))))
      exact hR _ _ _ _ R' (by decide) (by decide) ⟨⟨hB, e5, e6, e0, hFN.2.2.1, htm, hFN.2.2.2.2.2.2.1, hFN.2.2.2.2.1, fun q hq => ha q (by omega)⟩, hFN.2.2.2.1, hFN.2.2.2.2.2.1, hFN.2.2.2.2.2.2.2⟩ dX1_turnFactors_81
    | succ f ih =>
      intro j R' o2 o3 hj h1 ha hb
      have hbj : ∀ x, 1 ≤ x → x ≤ s → 1 ≤ B j x ∧ B j x ≤ s := fun x a b => (hcB j).1.1 x a b
      have inner : ∀ (g p : Nat) (R2 : Rt) (x : Int32), p + g = s + 1 → 1 ≤ p → R2 1 = R' 1 → (∀ y, 1 ≤ y → y ≤ s → R2 3 y = nI (B j y)) → Cd x → (∀ y, 1 ≤ y → y ≤ 7 → ext x y = if s + 1 - p < y ∧ y ≤ s then nI (turnF s (B j) y) else 0) → V X 0 0 27 [some (.ref (A 0)), some (.int (nI j)), some (.int x), some (.int (nI p))] [] (fW G Z A N R2 Q ++ P) := by
        intro g
        induction g with
        | zero =>
          intro p R2 x hp p1 hr1 hr3 hcd hex
          have hx : x = codeF (turnF s (B j)) s := by
            have htb : ∀ y, 1 ≤ y → y ≤ s → turnF s (B j) y ≤ 7 := fun y a b => by have := (turnF_can (hcB j).1).1.1 y a b; omega
            refine hcd.eq (codeF_Cd s s7 htb) fun y y1 y7 => ?_
            rw [hex y y1 y7, codeF_ext s s7 htb y y1 y7]
            by_cases q : y ≤ s
            · rw [if_pos (by omega), if_pos q]
            · rw [if_neg (by omega), if_neg q]
          refine r_iload_n C dX1_turnFactors_27 rfl rfl ?_
          refine r_aload_n C dX1_turnFactors_28 rfl rfl ?_
          refine fg_X1_21 C dX1_turnFactors_29 ?_
          rw [e4]
          refine r_icmp_gt (tgt := 68) C dX1_turnFactors_32 (by decide) (fun c32 => ?_) (fun c32 => absurd c32 ((fun q => q (nI_lt (by omega) (by omega)))))
          refine r_aload_n C dX1_turnFactors_68 rfl rfl ?_
          refine fg_X1_43 C dX1_turnFactors_69 ?_
          refine r_iload_n C dX1_turnFactors_72 rfl rfl ?_
          refine r_iload_n C dX1_turnFactors_73 rfl rfl ?_
          refine fs_1 C dX1_turnFactors_74 (vp_in_nI (show j < Z by omega) (by omega)) ?_
          rw [nI_clamp (by omega)]
          refine r_iinc (v := _ + 1) C dX1_turnFactors_75 rfl (by rfl) (by decide) ?_
          refine r_goto (tgt := 5) C dX1_turnFactors_78 (by decide) ?_
          show V X 0 0 5 [_, some (.int (nI j + 1)), _, _] _ _
          rw [nI_1]
          refine ih (j + 1) _ _ _ (by omega) (by omega) (fun q hq => ?_) (fun q h1 h2 => ?_)
          · by_cases w : q = j
            · rw [w]
              exact pk_us.trans hx
            · refine (pk_un w).trans ?_
              rw [hr1]
              exact ha q (by omega)
          · refine (pk_un (by omega)).trans ?_
            rw [hr1]
            exact hb q (by omega) h2
        | succ g ih2 =>
          intro p R2 x hp p1 hr1 hr3 hcd hex
          have hbp := hbj p p1 (by omega)
          have ea : nI s + 1 - nI p = nI (s + 1 - p) := by rw [nI_1, pk_sub (by omega)]
          have eb : nI s + 1 - nI (B j p) = nI (s + 1 - B j p) := by rw [nI_1, pk_sub (by omega)]
          refine r_iload_n C dX1_turnFactors_27 rfl rfl ?_
          refine r_aload_n C dX1_turnFactors_28 rfl rfl ?_
          refine fg_X1_21 C dX1_turnFactors_29 ?_
          rw [e4]
          refine r_icmp_gt (tgt := 68) C dX1_turnFactors_32 (by decide) (fun c32 => absurd c32 ((by rw [nI_ltI (by omega) (by omega)]; omega))) (fun c32 => ?_)
          refine r_iload_n C dX1_turnFactors_35 rfl rfl ?_
          refine r_aload_n C dX1_turnFactors_36 rfl rfl ?_
          refine fg_X1_21 C dX1_turnFactors_37 ?_
          refine r_iconst (v := 1) C dX1_turnFactors_40 (by decide) ?_
          refine r_iadd C dX1_turnFactors_41 ?_
          refine r_iload_n C dX1_turnFactors_42 rfl rfl ?_
          refine r_isub C dX1_turnFactors_43 ?_
          refine r_aload_n C dX1_turnFactors_44 rfl rfl ?_
          refine fg_X1_21 C dX1_turnFactors_45 ?_
          refine r_iconst (v := 1) C dX1_turnFactors_48 (by decide) ?_
          refine r_iadd C dX1_turnFactors_49 ?_
          refine r_aload_n C dX1_turnFactors_50 rfl rfl ?_
          refine fg_X1_34 C dX1_turnFactors_51 ?_
          refine r_iload_n C dX1_turnFactors_54 rfl rfl ?_
          refine fl_3 C dX1_turnFactors_55 (vp_in_nI (show p < 8 by omega) (by decide)) ?_
          rw [nI_clamp (by omega), hr3 p p1 (by omega)]
          refine r_isub C dX1_turnFactors_56 ?_
          show V X 0 0 57 _ (.int (N 0 4 + 1 - nI (B j p)) :: .int (N 0 4 + 1 - nI p) :: _) _
          rw [e4, ea, eb]
          refine a_callS0 C (c_packed G (x := s + 1 - p) (nI (s + 1 - B j p)) (by omega)) kcX1_X1_packed dX1_turnFactors_57 rfl (by decide) (by decide) (by decide) (Nat.le_of_ble_eq_true rfl) rfl (fun a u hu => ?_)
          subst hu
          refine r_ior C dX1_turnFactors_60 ?_
          refine r_istore_n C dX1_turnFactors_61 rfl (by decide) ?_
          refine r_iinc (v := _ + 1) C dX1_turnFactors_62 rfl (by rfl) (by decide) ?_
          refine r_goto (tgt := 27) C dX1_turnFactors_65 (by decide) ?_
          show V X 0 0 27 [_, _, some (.int (x ||| sh (s + 1 - B j p) (s + 1 - p))), some (.int (nI p + 1))] _ _
          rw [nI_1]
          refine ih2 (p + 1) R2 _ (by omega) (by omega) hr1 hr3 (hcd.or (canN_sh _ (by omega) _ (by omega) (by omega))) (fun y y1 y7 => ?_)
          rw [ext_or, hex y y1 y7, ext_sh _ (by omega) _ (by omega) y (by omega) (by omega) y1]
          by_cases w : s + 1 - p = y
          · rw [if_pos w, if_neg (by omega), if_pos (by omega), Int32.zero_or]
            show nI (s + 1 - B j p) = nI (if 1 ≤ y ∧ y ≤ s then s + 1 - B j (s + 1 - y) else y)
            rw [if_pos (by omega), show s + 1 - y = p by omega]
          · rw [if_neg w, Int32.or_zero]
            by_cases q : s + 1 - p < y ∧ y ≤ s
            · rw [if_pos q, if_pos (by omega)]
            · rw [if_neg q, if_neg (by omega)]
      refine r_iload_n C dX1_turnFactors_5 rfl rfl ?_
      refine r_aload_n C dX1_turnFactors_6 rfl rfl ?_
      refine fg_X1_18 C dX1_turnFactors_7 ?_
      rw [e3]
      refine r_icmp_ge (tgt := 81) C dX1_turnFactors_10 (by decide) (fun c10 => absurd c10 ((by rw [nI_leI (by omega) (by omega)]; omega))) (fun c10 => ?_)
      refine r_aload_n C dX1_turnFactors_13 rfl rfl ?_
      refine r_aload_n C dX1_turnFactors_14 rfl rfl ?_
      refine fg_X1_43 C dX1_turnFactors_15 ?_
      refine r_iload_n C dX1_turnFactors_18 rfl rfl ?_
      refine fl_1 C dX1_turnFactors_19 (vp_in_nI (show j < Z by omega) (by omega)) ?_
      rw [nI_clamp (by omega), hb j (Nat.le_refl _) (by omega)]
      refine a_callVv C (c_unpack G Z A P N R' Q (F := B j) e4 s7 (fun x a b => by have := hbj x a b; omega)) kcX1_X1_unpack dX1_turnFactors_20 rfl (by decide) (by decide) (by decide) (Nat.le_of_ble_eq_true rfl) 0 rfl (ci := 1) rfl rfl rfl (fun g hg => ?_)
      refine r_iconst (v := 0) C dX1_turnFactors_23 (by decide) ?_
      refine r_istore_n C dX1_turnFactors_24 rfl (by decide) ?_
      refine r_iconst (v := 1) C dX1_turnFactors_25 (by decide) ?_
      refine r_istore_n C dX1_turnFactors_26 rfl (by decide) ?_
      exact inner s 1 _ 0 (by omega) (Nat.le_refl _) rfl hg canN_0 (fun y y1 y7 => by rw [if_neg (by omega)]; exact ext_0 y)
  refine r_aload_n C dX1_turnFactors_0 rfl rfl ?_
  refine fg_X1_15 C dX1_turnFactors_1 ?_
  rw [e2]
  refine r_istore_n C dX1_turnFactors_4 rfl (by decide) ?_
  exact key (tl - hd) hd R none none (by omega) (Nat.le_refl _) (fun q hq => by rw [hdec q (by omega), hrev q hq, turnF_rev]) (fun q _ h2 => hdec q h2)
theorem c_clear {s : Nat} (S : Sq) (h2 : 2 ≤ s) (h7 : s ≤ 7) : CV G yX1_clear cX1_clear 3 1 0 0 [.ref (A 0), .int (nI s)] (fW G Z A N R Q ++ P) (S := Nt) (fun N' => FmF S s 0 0 0 0 Z (N' 0) (R 1) (fun _ => idF)) (fun N' => fW G Z A N' R Q ++ P) := by
  refine CV.intro (by decide) (Nat.le_of_ble_eq_true rfl) (cat1 (xs := [nI s])) fun X C hR => ?_
  have key : ∀ (f p : Nat) (N' : Nt), p + f = s → N' 0 4 = nI s → N' 0 2 = 0 → N' 0 3 = 0 → N' 0 0 = 0 → N' 0 6 = codeF idF p → N' 0 5 = codeF (revF s) p → V X 0 0 32 [some (.ref (A 0)), some (.int (nI s)), some (.int (nI (p + 1)))] [] (fW G Z A N' R Q ++ P) := by
    intro f
    induction f with
    | zero =>
      intro p N' hp e4 e2 e3 e0 e6 e5
      have hps : p = s := by omega
      subst hps
      have hz := FN.zero S p
      refine r_iload_n C dX1_clear_32 rfl rfl ?_
      refine r_aload_n C dX1_clear_33 rfl rfl ?_
      refine fg_X1_21 C dX1_clear_34 ?_
      rw [e4]
      refine r_icmp_gt (tgt := 81) C dX1_clear_37 (by decide) (fun c37 => ?_) (fun c37 => absurd c37 ((fun q => q (nI_lt (by omega) (by omega)))))
      exact hR _ _ _ _ N' (by decide) (by decide) ⟨⟨⟨e4, h2, h7, e2, e3, Nat.le_refl _, Nat.zero_le _⟩, e5, e6, by rw [e0]; rfl, hz.2.2.1, Nat.le_refl _, hz.2.2.2.2.2.2.1, hz.2.2.2.2.1, fun f hf => absurd hf (by omega)⟩, hz.2.2.2.1, hz.2.2.2.2.2.1, hz.2.2.2.2.2.2.2⟩ dX1_clear_81
    | succ f ih =>
      intro p N' hp e4 e2 e3 e0 e6 e5
      have ea : nI s + 1 - nI (p + 1) = nI (s + 1 - (p + 1)) := by rw [nI_1, pk_sub (by omega)]
      refine r_iload_n C dX1_clear_32 rfl rfl ?_
      refine r_aload_n C dX1_clear_33 rfl rfl ?_
      refine fg_X1_21 C dX1_clear_34 ?_
      rw [e4]
      refine r_icmp_gt (tgt := 81) C dX1_clear_37 (by decide) (fun c37 => absurd c37 ((by rw [nI_ltI (by omega) (by omega)]; omega))) (fun c37 => ?_)
      refine r_aload_n C dX1_clear_40 rfl rfl ?_
      refine r_dup C dX1_clear_41 rfl ?_
      refine fg_X1_27 C dX1_clear_42 ?_
      refine r_iload_n C dX1_clear_45 rfl rfl ?_
      refine r_iload_n C dX1_clear_46 rfl rfl ?_
      refine a_callS0 C (c_packed G (x := p + 1) (nI (p + 1)) (by omega)) kcX1_X1_packed dX1_clear_47 rfl (by decide) (by decide) (by decide) (Nat.le_of_ble_eq_true rfl) rfl (fun a u hu => ?_)
      subst hu
      refine r_ior C dX1_clear_50 ?_
      refine fp_X1_27 C dX1_clear_51 ?_
      refine r_aload_n C dX1_clear_54 rfl rfl ?_
      refine r_dup C dX1_clear_55 rfl ?_
      refine fg_X1_24 C dX1_clear_56 ?_
      refine r_iload_n C dX1_clear_59 rfl rfl ?_
      refine r_aload_n C dX1_clear_60 rfl rfl ?_
      refine fg_X1_21 C dX1_clear_61 ?_
      refine r_iconst (v := 1) C dX1_clear_64 (by decide) ?_
      refine r_iadd C dX1_clear_65 ?_
      refine r_iload_n C dX1_clear_66 rfl rfl ?_
      refine r_isub C dX1_clear_67 ?_
      show V X 0 0 68 _ (.int (N' 0 4 + 1 - nI (p + 1)) :: _) _
      rw [e4, ea]
      refine a_callS0 C (c_packed G (x := p + 1) (nI (s + 1 - (p + 1))) (by omega)) kcX1_X1_packed dX1_clear_68 rfl (by decide) (by decide) (by decide) (Nat.le_of_ble_eq_true rfl) rfl (fun a2 u2 hu2 => ?_)
      subst hu2
      refine r_ior C dX1_clear_71 ?_
      refine fp_X1_24 C dX1_clear_72 ?_
      refine r_iinc (v := _ + 1) C dX1_clear_75 rfl (by rfl) (by decide) ?_
      refine r_goto (tgt := 32) C dX1_clear_78 (by decide) ?_
      show V X 0 0 32 [_, _, some (.int (nI (p + 1) + 1))] _ _
      rw [nI_1]
      refine ih (p + 1) _ (by omega) e4 e2 e3 e0 ?_ ?_
      · rw [codeF_s, ← e6]
        rfl
      · rw [codeF_s, ← e5, show revF s (p + 1) = s + 1 - (p + 1) by unfold revF; rw [if_pos (by omega)]]
        rfl
  refine r_aload_n C dX1_clear_0 rfl rfl ?_
  refine r_iload_n C dX1_clear_1 rfl rfl ?_
  refine fp_X1_21 C dX1_clear_2 ?_
  refine r_aload_n C dX1_clear_5 rfl rfl ?_
  refine r_iconst (v := 0) C dX1_clear_6 (by decide) ?_
  refine fp_X1_9 C dX1_clear_7 ?_
  refine r_aload_n C dX1_clear_10 rfl rfl ?_
  refine r_iconst (v := 0) C dX1_clear_11 (by decide) ?_
  refine fp_X1_15 C dX1_clear_12 ?_
  refine r_aload_n C dX1_clear_15 rfl rfl ?_
  refine r_iconst (v := 0) C dX1_clear_16 (by decide) ?_
  refine fp_X1_18 C dX1_clear_17 ?_
  refine r_aload_n C dX1_clear_20 rfl rfl ?_
  refine r_iconst (v := 0) C dX1_clear_21 (by decide) ?_
  refine fp_X1_27 C dX1_clear_22 ?_
  refine r_aload_n C dX1_clear_25 rfl rfl ?_
  refine r_iconst (v := 0) C dX1_clear_26 (by decide) ?_
  refine fp_X1_24 C dX1_clear_27 ?_
  refine r_iconst (v := 1) C dX1_clear_30 (by decide) ?_
  refine r_istore_n C dX1_clear_31 rfl (by decide) ?_
  exact key s 0 _ (by omega) rfl rfl rfl rfl rfl rfl
end F4
