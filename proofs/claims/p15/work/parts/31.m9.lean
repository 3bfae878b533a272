/-! the reference: home, rings -/
section M9
variable (G : Gx) (h : Nat) (ad : Nat → Nat) (M : Mt) (R : Rt)
theorem c_home {j s z : Nat} (hj : j < 8) (hp : PatOK R j s z) : mI G h ad yX7_home cX7_home 5 .int 1 [.int (nI j)] M R (fun r M' R' => (∃ m, isHome (gT (rowOf R j) z) s m ∧ m ≤ 420 ∧ r = nI m) ∧ M' = M ∧ ∃ P, R' = va_up R 26 P) := by
  refine mI.intro (by decide) (Nat.le_of_ble_eq_true rfl) (cat1 (xs := [nI j])) fun X C hR => ?_
  obtain ⟨hs5, hs2, hs7, hz, hz3, hok⟩ := id hp
  obtain ⟨g, hg⟩ : ∃ g, g = gT (rowOf R j) z := ⟨_, rfl⟩
  have hperm : PermOn g s := by rw [hg]; exact gT_perm hs7 hok
  obtain ⟨H, hH4, hH⟩ := home_ex hperm hs7
  rw [← hg] at hR
  have hst : ∀ P : Nat → Int32, va_up R 26 P 5 j = nI s := fun P => hs5
  have outer : ∀ (f m : Nat) (P : Nat → Int32) (o4 : Option Value), m + f = H → (∀ q, 1 ≤ q → q ≤ s → P q = nI (itr g m q)) → ∀ is : Int32, ((m = H ∧ is = 1) ∨ (m < H ∧ is = 0)) → V X 0 0 33 [some (.ref h), some (.int (nI j)), some (.int (nI m)), some (.int is), o4] [] (mW G h ad M (va_up R 26 P)) := by
    intro f
    induction f with
    | zero =>
      intro m P o4 hm hP is his
      have hmH : m = H := by omega
      have hi1 : is = 1 := by rcases his with q | q <;> first | exact q.2 | omega
      subst hi1; subst hmH
      refine r_iload_n C dX7_home_33 rfl rfl ?_
      refine r_if_ne (tgt := 106) C dX7_home_34 (by decide) (fun c34 => ?_) (fun c34 => absurd c34 ((by decide)))
      refine r_iload_n C dX7_home_106 rfl rfl ?_
      exact hR _ _ _ _ _ rfl dX7_home_107 ⟨⟨m, hH, hH4, rfl⟩, rfl, P, rfl⟩
    | succ f ih =>
      intro m P o4 hm hP is his
      have hi0 : is = 0 := by rcases his with q | q <;> first | exact q.2 | omega
      subst hi0
      have inner : ∀ (f' p : Nat) (P : Nat → Int32) (is : Int32), p + f' = s + 1 → 1 ≤ p → (∀ q, 1 ≤ q → q < p → P q = nI (itr g (m + 1) q)) → (∀ q, p ≤ q → q ≤ s → P q = nI (itr g m q)) → ((is = 1 ∧ ∀ q, 1 ≤ q → q < p → itr g (m + 1) q = q) ∨ (is = 0 ∧ ∃ q, 1 ≤ q ∧ q < p ∧ itr g (m + 1) q ≠ q)) → V X 0 0 45 [some (.ref h), some (.int (nI j)), some (.int (nI (m + 1))), some (.int is), some (.int (nI p))] [] (mW G h ad M (va_up R 26 P)) := by
        intro f'
        induction f' with
        | zero =>
          intro p P is hpf hp1 hPa hPb his
          have hps : p = s + 1 := by omega
          subst hps
          have nx := ih (m + 1) P (some (.int (nI (s + 1)))) (by omega) (fun q h1 h2 => hPa q h1 (by omega)) is (by
            rcases his with ⟨e, q⟩ | ⟨e, q, q1, q2, q3⟩
            · left
              refine ⟨?_, e⟩
              rcases Nat.lt_or_ge (m + 1) H with w | w
              · exact absurd (fun p h1 h2 => q p h1 (by omega)) (hH.2.2 (m + 1) (by omega) w)
              · omega
            · right
              refine ⟨?_, e⟩
              rcases Nat.lt_or_ge (m + 1) H with w | w
              · exact w
              · exact absurd (hH.2.1 q q1 (by omega)) (by rw [show H = m + 1 by omega]; exact q3))
          refine r_iload C dX7_home_45 rfl ?_
          refine r_aload_n C dX7_home_47 rfl rfl ?_
          refine mg_straws C dX7_home_48 ?_
          refine r_iload_n C dX7_home_51 rfl rfl ?_
          refine ml_straws C dX7_home_52 (vp_in_nI hj (by decide)) ?_
          rw [nI_clamp (by omega), hst]
          refine r_icmp_gt (tgt := 103) C dX7_home_53 (by decide) (fun c53 => ?_) (fun c53 => absurd c53 ((fun q => q (nI_lt (by omega) (by omega)))))
          refine r_goto (tgt := 33) C dX7_home_103 (by decide) ?_
          exact nx
        | succ f' ih' =>
          intro p P is hpf hp1 hPa hPb his
          have hin := itr_in hperm hp1 (by omega : p ≤ s) m
          have hin1 := itr_in hperm hp1 (by omega : p ≤ s) (m + 1)
          have hgg : gT (rowOf R j) z (itr g m p) = itr g (m + 1) p := by rw [← hg]; rfl
          have nx : ∀ is' : Int32, ((is' = 1 ∧ ∀ q, 1 ≤ q → q < p + 1 → itr g (m + 1) q = q) ∨ (is' = 0 ∧ ∃ q, 1 ≤ q ∧ q < p + 1 ∧ itr g (m + 1) q ≠ q)) → V X 0 0 97 [some (.ref h), some (.int (nI j)), some (.int (nI (m + 1))), some (.int is'), some (.int (nI p))] [] (mW G h ad M (va_up R 26 (upd P p (nI (itr g (m + 1) p))))) := by
            intro is' his'
            refine r_iinc (v := _ + 1) C dX7_home_97 rfl (by rfl) (by decide) ?_
            rw [nI_1]
            refine r_goto (tgt := 45) C dX7_home_100 (by decide) ?_
            exact ih' (p + 1) (upd P p (nI (itr g (m + 1) p))) is' (by omega) (by omega) (fun q h1 h2 => by
              by_cases e : q = p
              · subst e; exact pk_us
              · rw [pk_un e]; exact hPa q h1 (by omega)) (fun q h1 h2 => by rw [pk_un (by omega)]; exact hPb q (by omega) h2) his'
          refine r_iload C dX7_home_45 rfl ?_
          refine r_aload_n C dX7_home_47 rfl rfl ?_
          refine mg_straws C dX7_home_48 ?_
          refine r_iload_n C dX7_home_51 rfl rfl ?_
          refine ml_straws C dX7_home_52 (vp_in_nI hj (by decide)) ?_
          rw [nI_clamp (by omega), hst]
          refine r_icmp_gt (tgt := 103) C dX7_home_53 (by decide) (fun c53 => absurd c53 ((nI_nlt (by omega) (by omega)))) (fun c53 => ?_)
          refine r_aload_n C dX7_home_56 rfl rfl ?_
          refine mg_place C dX7_home_57 ?_
          refine r_iload C dX7_home_60 rfl ?_
          refine r_aload_n C dX7_home_62 rfl rfl ?_
          refine r_iload_n C dX7_home_63 rfl rfl ?_
          refine r_aload_n C dX7_home_64 rfl rfl ?_
          refine mg_place C dX7_home_65 ?_
          refine r_iload C dX7_home_68 rfl ?_
          refine ml_place C dX7_home_70 (vp_in_nI (show p < 8 by omega) (by decide)) ?_
          rw [nI_clamp (by omega)]
          show V X 0 0 71 _ (.int (P p) :: _) _
          rw [hPb p (Nat.le_refl _) (by omega)]
          refine m_calli C (c_goesTo G h ad M (va_up R 26 P) hj (s := s) (z := z) hp hin.1 hin.2) kM_goesTo dX7_home_71 rfl (by decide) (by decide) (by decide) (Nat.le_of_ble_eq_true rfl) rfl rfl (fun r M1 R1 hq => ?_)
          obtain ⟨rfl, rfl, rfl⟩ := hq
          rw [show rowOf (va_up R 26 P) j = rowOf R j from rfl, hgg]
          refine ms_place C dX7_home_74 (vp_in_nI (show p < 8 by omega) (by decide)) ?_
          rw [nI_clamp (by omega)]
          show V X 0 0 75 _ _ (mW G h ad _ (va_up (va_up R 26 P) 26 (upd P p (nI (itr g (m + 1) p)))))
          rw [up_up]
          refine r_iload_n C dX7_home_75 rfl rfl ?_
          refine r_if_eq (tgt := 95) C dX7_home_76 (by decide) (fun c76 => ?_) (fun c76 => ?_)
          · refine r_iconst (v := 0) C dX7_home_95 (by decide) ?_
            refine r_istore_n C dX7_home_96 rfl (by decide) ?_
            first
              | exact nx 0 (Or.inr ⟨rfl, p, hp1, by omega, fun e => c88 (by rw [e])⟩)
              | exact nx 0 (Or.inr ⟨rfl, by rcases his with ⟨e, -⟩ | ⟨-, q, q1, q2, q3⟩; exact absurd (e ▸ c76) (by decide); exact ⟨q, q1, by omega, q3⟩⟩)
              | exact nx 1 (Or.inl ⟨rfl, fun q h1 h2 => by
                  rcases his with ⟨-, e⟩ | ⟨e, -⟩
                  · by_cases e2 : q = p
                    · subst e2; exact c88
                    · exact e q h1 (by omega)
                  · exact absurd e c76⟩)
          · refine r_aload_n C dX7_home_79 rfl rfl ?_
            refine mg_place C dX7_home_80 ?_
            refine r_iload C dX7_home_83 rfl ?_
            refine ml_place C dX7_home_85 (vp_in_nI (show p < 8 by omega) (by decide)) ?_
            rw [nI_clamp (by omega)]
            show V X 0 0 86 _ [.int (upd P p (nI (itr g (m + 1) p)) p)] _
            rw [pk_us]
            refine r_iload C dX7_home_86 rfl ?_
            refine r_icmp_ne (tgt := 95) C dX7_home_88 (by decide) (fun c88 => ?_) (fun c88 => ?_)
            · refine r_iconst (v := 0) C dX7_home_95 (by decide) ?_
              refine r_istore_n C dX7_home_96 rfl (by decide) ?_
              first
                | exact nx 0 (Or.inr ⟨rfl, p, hp1, by omega, fun e => c88 (by rw [e])⟩)
                | exact nx 0 (Or.inr ⟨rfl, by rcases his with ⟨e, -⟩ | ⟨-, q, q1, q2, q3⟩; exact absurd (e ▸ c76) (by decide); exact ⟨q, q1, by omega, q3⟩⟩)
                | exact nx 1 (Or.inl ⟨rfl, fun q h1 h2 => by
                    rcases his with ⟨-, e⟩ | ⟨e, -⟩
                    · by_cases e2 : q = p
                      · subst e2; exact c88
                      · exact e q h1 (by omega)
                    · exact absurd e c76⟩)
            · rw [nI_eq (by omega) (by omega)] at c88
              refine r_iconst (v := 1) C dX7_home_91 (by decide) ?_
              refine r_goto (tgt := 96) C dX7_home_92 (by decide) ?_
              refine r_istore_n C dX7_home_96 rfl (by decide) ?_
              first
                | exact nx 0 (Or.inr ⟨rfl, p, hp1, by omega, fun e => c88 (by rw [e])⟩)
                | exact nx 0 (Or.inr ⟨rfl, by rcases his with ⟨e, -⟩ | ⟨-, q, q1, q2, q3⟩; exact absurd (e ▸ c76) (by decide); exact ⟨q, q1, by omega, q3⟩⟩)
                | exact nx 1 (Or.inl ⟨rfl, fun q h1 h2 => by
                    rcases his with ⟨-, e⟩ | ⟨e, -⟩
                    · by_cases e2 : q = p
                      · subst e2; exact c88
                      · exact e q h1 (by omega)
                    · exact absurd e c76⟩)
      refine r_iload_n C dX7_home_33 rfl rfl ?_
      refine r_if_ne (tgt := 106) C dX7_home_34 (by decide) (fun c34 => absurd c34 ((fun q => q rfl))) (fun c34 => ?_)
      refine r_iinc (v := _ + 1) C dX7_home_37 rfl (by rfl) (by decide) ?_
      rw [nI_1]
      refine r_iconst (v := 1) C dX7_home_40 (by decide) ?_
      refine r_istore_n C dX7_home_41 rfl (by decide) ?_
      refine r_iconst (v := 1) C dX7_home_42 (by decide) ?_
      refine r_istore C dX7_home_43 (by decide) ?_
      exact inner s 1 P 1 (by omega) (Nat.le_refl _) (fun q h1 h2 => by omega) (fun q h1 h2 => hP q h1 h2) (Or.inl ⟨rfl, fun q h1 h2 => by omega⟩)
  have init : ∀ (f p : Nat) (P : Nat → Int32), p + f = s + 1 → 1 ≤ p → (∀ q, 1 ≤ q → q < p → P q = nI q) → V X 0 0 7 [some (.ref h), some (.int (nI j)), some (.int 0), some (.int 0), some (.int (nI p))] [] (mW G h ad M (va_up R 26 P)) := by
    intro f
    induction f with
    | zero =>
      intro p P hpf hp1 hP
      have hps : p = s + 1 := by omega
      subst hps
      refine r_iload C dX7_home_7 rfl ?_
      refine r_aload_n C dX7_home_9 rfl rfl ?_
      refine mg_straws C dX7_home_10 ?_
      refine r_iload_n C dX7_home_13 rfl rfl ?_
      refine ml_straws C dX7_home_14 (vp_in_nI hj (by decide)) ?_
      rw [nI_clamp (by omega), hst]
      refine r_icmp_gt (tgt := 33) C dX7_home_15 (by decide) (fun c15 => ?_) (fun c15 => absurd c15 ((fun q => q (nI_lt (by omega) (by omega)))))
      exact outer H 0 P _ (by omega) (fun q h1 h2 => hP q h1 (by omega)) 0 (Or.inr ⟨hH.1, rfl⟩)
    | succ f ih =>
      intro p P hpf hp1 hP
      refine r_iload C dX7_home_7 rfl ?_
      refine r_aload_n C dX7_home_9 rfl rfl ?_
      refine mg_straws C dX7_home_10 ?_
      refine r_iload_n C dX7_home_13 rfl rfl ?_
      refine ml_straws C dX7_home_14 (vp_in_nI hj (by decide)) ?_
      rw [nI_clamp (by omega), hst]
      refine r_icmp_gt (tgt := 33) C dX7_home_15 (by decide) (fun c15 => absurd c15 ((nI_nlt (by omega) (by omega)))) (fun c15 => ?_)
      refine r_aload_n C dX7_home_18 rfl rfl ?_
      refine mg_place C dX7_home_19 ?_
      refine r_iload C dX7_home_22 rfl ?_
      refine r_iload C dX7_home_24 rfl ?_
      refine ms_place C dX7_home_26 (vp_in_nI (show p < 8 by omega) (by decide)) ?_
      rw [nI_clamp (by omega)]
      show V X 0 0 27 _ _ (mW G h ad _ (va_up (va_up R 26 P) 26 (upd P p (nI p))))
      rw [up_up]
      refine r_iinc (v := _ + 1) C dX7_home_27 rfl (by rfl) (by decide) ?_
      rw [nI_1]
      refine r_goto (tgt := 7) C dX7_home_30 (by decide) ?_
      exact ih (p + 1) (upd P p (nI p)) (by omega) (by omega) (fun q h1 h2 => by
        by_cases e : q = p
        · subst e; exact pk_us
        · rw [pk_un e]; exact hP q h1 (by omega))
  have q0 := init s 1 (R 26) (by omega) (Nat.le_refl _) (fun q h1 h2 => by omega)
  rw [up_same rfl] at q0
  refine r_iconst (v := 0) C dX7_home_0 (by decide) ?_
  refine r_istore_n C dX7_home_1 rfl (by decide) ?_
  refine r_iconst (v := 0) C dX7_home_2 (by decide) ?_
  refine r_istore_n C dX7_home_3 rfl (by decide) ?_
  refine r_iconst (v := 1) C dX7_home_4 (by decide) ?_
  refine r_istore C dX7_home_5 (by decide) ?_
  exact q0
theorem c_rings {j s z : Nat} (hj : j < 8) (hp : PatOK R j s z) : mI G h ad yX7_rings cX7_rings 6 .int 1 [.int (nI j)] M R (fun r M' R' => r = nI (rgN (gT (rowOf R j) z) s) ∧ M' = M ∧ R' = R) := by
  refine mI.intro (by decide) (Nat.le_of_ble_eq_true rfl) (cat1 (xs := [nI j])) fun X C hR => ?_
  obtain ⟨hs5, hs2, hs7, hz, hz3, hok⟩ := id hp
  obtain ⟨g, hg⟩ : ∃ g, g = gT (rowOf R j) z := ⟨_, rfl⟩
  have hperm : PermOn g s := by rw [hg]; exact gT_perm hs7 hok
  rw [← hg] at hR
  have key : ∀ (f p : Nat) (o4 o5 : Option Value), p + f = s → V X 0 0 4 [some (.ref h), some (.int (nI j)), some (.int (nI (rgN g p))), some (.int (nI (p + 1))), o4, o5] [] (mW G h ad M R) := by
    intro f
    induction f with
    | zero =>
      intro p o4 o5 hpf
      have hps : p = s := by omega
      subst hps
      refine r_iload_n C dX7_rings_4 rfl rfl ?_
      refine r_aload_n C dX7_rings_5 rfl rfl ?_
      refine mg_straws C dX7_rings_6 ?_
      refine r_iload_n C dX7_rings_9 rfl rfl ?_
      refine ml_straws C dX7_rings_10 (vp_in_nI hj (by decide)) ?_
      rw [nI_clamp (by omega), hs5]
      refine r_icmp_gt (tgt := 74) C dX7_rings_11 (by decide) (fun c11 => ?_) (fun c11 => absurd c11 ((fun q => q (nI_lt (by omega) (by omega)))))
      refine r_iload_n C dX7_rings_74 rfl rfl ?_
      exact hR _ _ _ _ _ rfl dX7_rings_75 ⟨rfl, rfl, rfl⟩
    | succ f ih =>
      intro p o4 o5 hpf
      have hrg := rgN_le g p
      obtain ⟨k, hk, hkl⟩ := pk_least (fun k => 1 ≤ k ∧ itr g k (p + 1) = p + 1) (by
        obtain ⟨k, a, -, b⟩ := itr_cyc hperm (show 1 ≤ p + 1 by omega) (by omega)
        exact ⟨k, a, b⟩)
      have nx := fun o4 o5 => ih (p + 1) o4 o5 (by omega)
      have hrs : rgN g (p + 1) = rgN g p + @ite _ (isMin g (p + 1)) (Classical.propDecidable _) 1 0 := rfl
      have inner : ∀ (f' n : Nat), n + f' = k → 1 ≤ n → V X 0 0 25 [some (.ref h), some (.int (nI j)), some (.int (nI (rgN g p))), some (.int (nI (p + 1))), some (.int (nI (lst g (p + 1) (n - 1)))), some (.int (nI (itr g n (p + 1))))] [] (mW G h ad M R) := by
        intro f'
        induction f' with
        | zero =>
          intro n hn hn1
          have hnk : n = k := by omega
          subst hnk
          have hl1 := lst_le g (p + 1) (n - 1)
          rw [hk.2]
          refine r_iload C dX7_rings_25 rfl ?_
          refine r_iload_n C dX7_rings_27 rfl rfl ?_
          refine r_icmp_eq (tgt := 59) C dX7_rings_28 (by decide) (fun c28 => ?_) (fun c28 => absurd c28 ((fun q => q rfl)))
          refine r_iload C dX7_rings_59 rfl ?_
          refine r_iload_n C dX7_rings_61 rfl rfl ?_
          refine r_icmp_ne (tgt := 68) C dX7_rings_62 (by decide) (fun c62 => ?_) (fun c62 => ?_)
          · try rw [nI_1]
            refine r_iinc (v := _ + 1) C dX7_rings_68 rfl (by rfl) (by decide) ?_
            rw [nI_1]
            refine r_goto (tgt := 4) C dX7_rings_71 (by decide) ?_
            first
              | (rw [hrs] at nx; exact nx _ _)
              | (rw [nI_eq (by omega) (by omega)] at c62; rw [if_neg (fun e => c62 ((lst_isMin hn1 hk.2).mpr e))] at hrs; rw [hrs] at nx; exact nx _ _)
          · rw [nI_eq (by omega) (by omega)] at c62
            rw [if_pos ((lst_isMin hn1 hk.2).mp c62)] at hrs
            refine r_iinc (v := _ + 1) C dX7_rings_65 rfl (by rfl) (by decide) ?_
            try rw [nI_1]
            refine r_iinc (v := _ + 1) C dX7_rings_68 rfl (by rfl) (by decide) ?_
            rw [nI_1]
            refine r_goto (tgt := 4) C dX7_rings_71 (by decide) ?_
            first
              | (rw [hrs] at nx; exact nx _ _)
              | (rw [nI_eq (by omega) (by omega)] at c62; rw [if_neg (fun e => c62 ((lst_isMin hn1 hk.2).mpr e))] at hrs; rw [hrs] at nx; exact nx _ _)
        | succ f' ih' =>
          intro n hn hn1
          have hne : itr g n (p + 1) ≠ p + 1 := fun e => hkl n (by omega) ⟨hn1, e⟩
          have hin := itr_in hperm (show 1 ≤ p + 1 by omega) (show p + 1 ≤ s by omega) n
          have hl1 := lst_le g (p + 1) (n - 1)
          have hls : lst g (p + 1) n = min (lst g (p + 1) (n - 1)) (itr g n (p + 1)) := by
            have : n = (n - 1) + 1 := by omega
            rw [this]
            rfl
          have hgg : gT (rowOf R j) z (itr g n (p + 1)) = itr g (n + 1) (p + 1) := by rw [← hg]; rfl
          have nx2 := ih' (n + 1) (by omega) (by omega)
          rw [Nat.add_sub_cancel, hls] at nx2
          refine r_iload C dX7_rings_25 rfl ?_
          refine r_iload_n C dX7_rings_27 rfl rfl ?_
          refine r_icmp_eq (tgt := 59) C dX7_rings_28 (by decide) (fun c28 => absurd c28 ((fun e => hne ((nI_eq (by omega) (by omega)).mp e)))) (fun c28 => ?_)
          refine r_iload C dX7_rings_31 rfl ?_
          refine r_iload C dX7_rings_33 rfl ?_
          refine r_icmp_ge (tgt := 43) C dX7_rings_35 (by decide) (fun c35 => ?_) (fun c35 => ?_)
          · rw [nI_leI (by omega) (by omega)] at c35
            rw [Nat.min_eq_left (by omega)] at nx2
            refine r_iload C dX7_rings_43 rfl ?_
            refine r_istore C dX7_rings_45 (by decide) ?_
            refine r_aload_n C dX7_rings_47 rfl rfl ?_
            refine r_iload_n C dX7_rings_48 rfl rfl ?_
            refine r_iload C dX7_rings_49 rfl ?_
            refine m_calli C (c_goesTo G h ad M R hj (s := s) (z := z) hp hin.1 hin.2) kM_goesTo dX7_rings_51 rfl (by decide) (by decide) (by decide) (Nat.le_of_ble_eq_true rfl) rfl rfl (fun r M1 R1 hq => ?_)
            obtain ⟨rfl, rfl, rfl⟩ := hq
            rw [hgg]
            refine r_istore C dX7_rings_54 (by decide) ?_
            refine r_goto (tgt := 25) C dX7_rings_56 (by decide) ?_
            exact nx2
          · rw [nI_leI (by omega) (by omega)] at c35
            rw [Nat.min_eq_right (by omega)] at nx2
            refine r_iload C dX7_rings_38 rfl ?_
            refine r_goto (tgt := 45) C dX7_rings_40 (by decide) ?_
            refine r_istore C dX7_rings_45 (by decide) ?_
            refine r_aload_n C dX7_rings_47 rfl rfl ?_
            refine r_iload_n C dX7_rings_48 rfl rfl ?_
            refine r_iload C dX7_rings_49 rfl ?_
            refine m_calli C (c_goesTo G h ad M R hj (s := s) (z := z) hp hin.1 hin.2) kM_goesTo dX7_rings_51 rfl (by decide) (by decide) (by decide) (Nat.le_of_ble_eq_true rfl) rfl rfl (fun r M1 R1 hq => ?_)
            obtain ⟨rfl, rfl, rfl⟩ := hq
            rw [hgg]
            refine r_istore C dX7_rings_54 (by decide) ?_
            refine r_goto (tgt := 25) C dX7_rings_56 (by decide) ?_
            exact nx2
      have hg1 : gT (rowOf R j) z (p + 1) = itr g 1 (p + 1) := by rw [← hg]; rfl
      refine r_iload_n C dX7_rings_4 rfl rfl ?_
      refine r_aload_n C dX7_rings_5 rfl rfl ?_
      refine mg_straws C dX7_rings_6 ?_
      refine r_iload_n C dX7_rings_9 rfl rfl ?_
      refine ml_straws C dX7_rings_10 (vp_in_nI hj (by decide)) ?_
      rw [nI_clamp (by omega), hs5]
      refine r_icmp_gt (tgt := 74) C dX7_rings_11 (by decide) (fun c11 => absurd c11 ((nI_nlt (by omega) (by omega)))) (fun c11 => ?_)
      refine r_iload_n C dX7_rings_14 rfl rfl ?_
      refine r_istore C dX7_rings_15 (by decide) ?_
      refine r_aload_n C dX7_rings_17 rfl rfl ?_
      refine r_iload_n C dX7_rings_18 rfl rfl ?_
      refine r_iload_n C dX7_rings_19 rfl rfl ?_
      refine m_calli C (c_goesTo G h ad M R hj (s := s) (z := z) hp (by omega) (by omega)) kM_goesTo dX7_rings_20 rfl (by decide) (by decide) (by decide) (Nat.le_of_ble_eq_true rfl) rfl rfl (fun r M1 R1 hq => ?_)
      obtain ⟨rfl, rfl, rfl⟩ := hq
      rw [hg1]
      refine r_istore C dX7_rings_23 (by decide) ?_
      exact inner (k - 1) 1 (by omega) (Nat.le_refl _)
  refine r_iconst (v := 0) C dX7_rings_0 (by decide) ?_
  refine r_istore_n C dX7_rings_1 rfl (by decide) ?_
  refine r_iconst (v := 1) C dX7_rings_2 (by decide) ?_
  refine r_istore_n C dX7_rings_3 rfl (by decide) ?_
  exact key s 0 _ _ (by omega)
end M9
