/-! the reference: form -/
/-- what form() leaves: p the first of the normal form that is not D, n how many are not empty -/
def FormOut (c : Nat → Int32) (s z all : Nat) (M M' : Mt) (R R' : Rt) : Prop :=
  ∃ (n first : Nat) (B : Sq) (P Q : Nat → Int32), first ≤ n ∧ n ≤ all ∧ Rch s all (seq0 c s z all) B ∧ Nf s all B ∧ (∀ f, n ≤ f → B f = idF) ∧ (∀ f, f < n → B f ≠ idF) ∧ (∀ f, f < first → B f = revF s) ∧ (first < n → B first ≠ revF s) ∧ M' = va_up (va_up M 20 (-nI (ngd c z all all) + nI first)) 19 (nI (n - first)) ∧ R' = va_up (va_up R 21 Q) 18 P ∧ SeqOK R' (n - first) s (fun f => B (f + first))
theorem up_comm {α : Type} {f : Nat → α} {i j : Nat} {v w : α} (h : i ≠ j) : va_up (va_up f i v) j w = va_up (va_up f j w) i v := by
  funext x
  unfold va_up
  by_cases e1 : x = j
  · rw [if_pos e1, if_neg (by omega), if_pos e1]
  · rw [if_neg e1]
    by_cases e2 : x = i
    · rw [if_pos e2, if_pos e2]
    · rw [if_neg e2, if_neg e2, if_neg e1]
section M16
variable (G : Gx) (h : Nat) (ad : Nat → Nat) (M : Mt) (R : Rt)
theorem c_form {j s z T : Nat} (hj : j < 8) (hp : PatOK R j s z) (hT : T ≤ 12) (hzT : z * T ≤ 600) : mV G h ad yX7_form cX7_form 9 4 [.int (nI j), .int (nI T)] M R (fun M' R' => FormOut (rowOf R j) s z (z * T) M M' R R') := by
  refine mV.intro (by decide) (Nat.le_of_ble_eq_true rfl) (cat1 (xs := [nI j, nI T])) fun X C hR => ?_
  obtain ⟨hs5, hs2, hs7, hz, hz3, hok⟩ := id hp
  obtain ⟨c, hc⟩ : ∃ c, c = rowOf R j := ⟨_, rfl⟩
  obtain ⟨all, hall⟩ : ∃ a, a = z * T := ⟨_, rfl⟩
  rw [← hc] at hok hR
  rw [← hall] at hzT hR
  have hz0 : 0 < z ∨ all = 0 := by
    rcases Nat.eq_zero_or_pos z with q | q
    · right; rw [hall, q, Nat.zero_mul]
    · left; exact q
  have hc0 := seq0_can hs7 hz0 hok
  obtain ⟨pw, hpw⟩ : ∃ p, p = ngd c z all all := ⟨_, rfl⟩
  have hpwl : pw ≤ 600 := by have := ngd_le c z all all; omega
  -- the third part: D's at the front are counted, the rest goes to the front
  have sh : ∀ (n first : Nat) (B : Sq) (Q : Nat → Int32), first ≤ n → n ≤ all → Rch s all (seq0 c s z all) B → Nf s all B → (∀ f, n ≤ f → B f = idF) → (∀ f, f < n → B f ≠ idF) → (∀ f, f < first → B f = revF s) → (first < n → B first ≠ revF s) → ∀ (d f : Nat) (P : Nat → Int32) (o8 : Option Value), f + d = n → first ≤ f → (∀ q, q + first < f → ∀ x, 1 ≤ x → x ≤ s → P (8 * q + x) = nI (B (q + first) x)) → (∀ q, f ≤ q → q < n → ∀ x, 1 ≤ x → x ≤ s → P (8 * q + x) = nI (B q x)) → V X 0 0 269 [some (.ref h), some (.int (nI j)), some (.int (nI T)), some (.int (nI s)), none, none, some (.int (nI first)), some (.int (nI f)), o8] [] (mW G h ad (va_up (va_up M 20 (-nI pw + nI first)) 19 (nI n)) (va_up (va_up R 21 Q) 18 P)) := by
    intro n first B Q hfn hna hr hnf hz1 hz2 hd1 hd2 d
    induction d with
    | zero =>
      intro f P o8 hfd hff hP1 hP2
      have hfe : f = n := by omega
      subst hfe
      refine r_iload C dX7_form_269 rfl ?_
      refine r_aload_n C dX7_form_271 rfl rfl ?_
      refine mg_perms C dX7_form_272 ?_
      show V X 0 0 275 _ [.int (nI f), .int (nI f)] _
      refine r_icmp_ge (tgt := 323) C dX7_form_275 (by decide) (fun c275 => ?_) (fun c275 => absurd c275 ((fun q => q (nI_le (by omega) (by omega)))))
      refine r_aload_n C dX7_form_323 rfl rfl ?_
      refine r_dup C dX7_form_324 rfl ?_
      refine mg_perms C dX7_form_325 ?_
      refine r_iload C dX7_form_328 rfl ?_
      refine r_isub C dX7_form_330 ?_
      show V X 0 0 331 _ [.int (nI f - nI first), .ref h] _
      rw [pk_sub hfn]
      refine mp_perms C dX7_form_331 ?_
      rw [up_up]
      exact hR _ _ _ _ dX7_form_334 ⟨f, first, B, P, Q, hfn, hna, hr, hnf, hz1, hz2, hd1, hd2, by rw [hpw], rfl, fun q hq x x1 x2 => hP1 q (by omega) x x1 x2⟩
    | succ d ih =>
      intro f P o8 hfd hff hP1 hP2
      have inner : ∀ (m x : Nat) (P : Nat → Int32), x + m = s + 1 → 1 ≤ x → (∀ q, q + first < f → ∀ y, 1 ≤ y → y ≤ s → P (8 * q + y) = nI (B (q + first) y)) → (∀ y, 1 ≤ y → y < x → P (8 * (f - first) + y) = nI (B f y)) → (∀ q, f < q → q < n → ∀ y, 1 ≤ y → y ≤ s → P (8 * q + y) = nI (B q y)) → (∀ y, x ≤ y → y ≤ s → P (8 * f + y) = nI (B f y)) → V X 0 0 281 [some (.ref h), some (.int (nI j)), some (.int (nI T)), some (.int (nI s)), none, none, some (.int (nI first)), some (.int (nI f)), some (.int (nI x))] [] (mW G h ad (va_up (va_up M 20 (-nI pw + nI first)) 19 (nI n)) (va_up (va_up R 21 Q) 18 P)) := by
        intro m
        induction m with
        | zero =>
          intro x P hxm hx1 q1 q2 q3 q4
          refine r_iload C dX7_form_281 rfl ?_
          refine r_iload_n C dX7_form_283 rfl rfl ?_
          refine r_icmp_gt (tgt := 317) C dX7_form_284 (by decide) (fun c284 => ?_) (fun c284 => absurd c284 ((fun q => q (nI_lt (by omega) (by omega)))))
          refine r_iinc (v := _ + 1) C dX7_form_317 rfl (by rfl) (by decide) ?_
          rw [nI_1]
          refine r_goto (tgt := 269) C dX7_form_320 (by decide) ?_
          exact ih (f + 1) P _ (by omega) (by omega) (fun q hq y y1 y2 => by
            by_cases e : q = f - first
            · subst e
              rw [show f - first + first = f by omega]
              exact q2 y y1 (by omega)
            · exact q1 q (by omega) y y1 y2) (fun q w1 w2 => q3 q (by omega) w2)
        | succ m ih2 =>
          intro x P hxm hx1 q1 q2 q3 q4
          refine r_iload C dX7_form_281 rfl ?_
          refine r_iload_n C dX7_form_283 rfl rfl ?_
          refine r_icmp_gt (tgt := 317) C dX7_form_284 (by decide) (fun c284 => absurd c284 ((nI_nlt (by omega) (by omega)))) (fun c284 => ?_)
          refine r_aload_n C dX7_form_287 rfl rfl ?_
          refine mg_perm C dX7_form_288 ?_
          refine r_bipush (v := 8) C dX7_form_291 (by decide) ?_
          refine r_iload C dX7_form_293 rfl ?_
          refine r_iload C dX7_form_295 rfl ?_
          refine r_isub C dX7_form_297 ?_
          refine r_imul C dX7_form_298 ?_
          refine r_iload C dX7_form_299 rfl ?_
          refine r_iadd C dX7_form_301 ?_
          refine r_aload_n C dX7_form_302 rfl rfl ?_
          refine r_iload C dX7_form_303 rfl ?_
          refine r_iload C dX7_form_305 rfl ?_
          refine m_calli C (c_get G h ad _ (va_up (va_up R 21 Q) 18 P) f x (by omega) (by omega)) kM_get dX7_form_307 rfl (by decide) (by decide) (by decide) (Nat.le_of_ble_eq_true rfl) rfl rfl (fun r M1 R1 hq => ?_)
          obtain ⟨rfl, rfl, rfl⟩ := hq
          rw [show va_up (va_up R 21 Q) 18 P 18 (8 * f + x) = nI (B f x) from q4 x (Nat.le_refl _) (by omega)]
          show V X 0 0 310 _ [.int (nI (B f x)), .int (nI 8 * (nI f - nI first) + nI x), .ref (ad 18)] _
          rw [pk_sub hff, pk_mul, nI_add]
          refine ms_perm C dX7_form_310 (vp_in_nI (show 8 * (f - first) + x < 4808 by omega) (by decide)) ?_
          rw [nI_clamp (by omega)]
          show V X 0 0 311 _ _ (mW G h ad _ (va_up (va_up (va_up R 21 Q) 18 P) 18 (upd P (8 * (f - first) + x) (nI (B f x)))))
          rw [up_up]
          refine r_iinc (v := _ + 1) C dX7_form_311 rfl (by rfl) (by decide) ?_
          rw [nI_1]
          refine r_goto (tgt := 281) C dX7_form_314 (by decide) ?_
          exact ih2 (x + 1) _ (by omega) (by omega) (fun q hq y y1 y2 => by rw [pk_un (by omega)]; exact q1 q hq y y1 y2) (fun y y1 y2 => by
            by_cases e : y = x
            · subst e; exact pk_us
            · rw [pk_un (by omega)]; exact q2 y y1 (by omega)) (fun q w1 w2 y y1 y2 => by rw [pk_un (by omega)]; exact q3 q w1 w2 y y1 y2) (fun y y1 y2 => by rw [pk_un (by omega)]; exact q4 y (by omega) y2)
      refine r_iload C dX7_form_269 rfl ?_
      refine r_aload_n C dX7_form_271 rfl rfl ?_
      refine mg_perms C dX7_form_272 ?_
      show V X 0 0 275 _ [.int (nI n), .int (nI f)] _
      refine r_icmp_ge (tgt := 323) C dX7_form_275 (by decide) (fun c275 => absurd c275 ((nI_ge (by omega) (by omega)))) (fun c275 => ?_)
      refine r_iconst (v := 1) C dX7_form_278 (by decide) ?_
      refine r_istore C dX7_form_279 (by decide) ?_
      exact inner s 1 P (by omega) (Nat.le_refl _) hP1 (fun y y1 y2 => by omega) (fun q w1 w2 => hP2 q (by omega) w2) (fun y y1 y2 => hP2 f (Nat.le_refl _) (by omega) y y1 y2)
  have ph3 : ∀ (n : Nat) (B : Sq) (Q P : Nat → Int32), n ≤ all → Rch s all (seq0 c s z all) B → Nf s all B → SeqOK (va_up (va_up R 21 Q) 18 P) n s B → (∀ f, n ≤ f → B f = idF) → (∀ f, f < n → B f ≠ idF) → ∀ (d f : Nat), f + d = n → (∀ q, q < f → B q = revF s) → V X 0 0 229 [some (.ref h), some (.int (nI j)), some (.int (nI T)), some (.int (nI s)), none, none, some (.int (nI f)), none, none] [] (mW G h ad (va_up (va_up M 20 (-nI pw)) 19 (nI n)) (va_up (va_up R 21 Q) 18 P)) := by
    intro n B Q P hna hr hnf hB hz1 hz2
    have hcB := hr.can hc0
    have ex : ∀ f, f ≤ n → (∀ q, q < f → B q = revF s) → (f < n → B f ≠ revF s) → V X 0 0 254 [some (.ref h), some (.int (nI j)), some (.int (nI T)), some (.int (nI s)), none, none, some (.int (nI f)), none, none] [] (mW G h ad (va_up (va_up M 20 (-nI pw)) 19 (nI n)) (va_up (va_up R 21 Q) 18 P)) := by
      intro f hfn h1 h2
      refine r_aload_n C dX7_form_254 rfl rfl ?_
      refine r_dup C dX7_form_255 rfl ?_
      refine mg_power C dX7_form_256 ?_
      refine r_iload C dX7_form_259 rfl ?_
      refine r_iadd C dX7_form_261 ?_
      refine mp_power C dX7_form_262 ?_
      show V X 0 0 265 _ _ (mW G h ad (va_up (va_up (va_up M 20 (-nI pw)) 19 (nI n)) 20 (-nI pw + nI f)) _)
      rw [up_comm (show (19 : Nat) ≠ 20 by decide), up_up]
      refine r_iload C dX7_form_265 rfl ?_
      refine r_istore C dX7_form_267 (by decide) ?_
      exact sh n f B Q hfn hna hr hnf hz1 hz2 h1 h2 (n - f) f P _ (by omega) (Nat.le_refl _) (fun q hq => by omega) (fun q w1 w2 x x1 x2 => hB q w2 x x1 x2)
    intro d
    induction d with
    | zero =>
      intro f hfd h1
      have hfe : f = n := by omega
      subst hfe
      refine r_iload C dX7_form_229 rfl ?_
      refine r_aload_n C dX7_form_231 rfl rfl ?_
      refine mg_perms C dX7_form_232 ?_
      show V X 0 0 235 _ [.int (nI f), .int (nI f)] _
      refine r_icmp_ge (tgt := 254) C dX7_form_235 (by decide) (fun c235 => ?_) (fun c235 => absurd c235 ((fun q => q (nI_le (by omega) (by omega)))))
      exact ex f (Nat.le_refl _) h1 (by omega)
    | succ d ih =>
      intro f hfd h1
      have hF : FacOK (va_up (va_up R 21 Q) 18 P) f s (B f) := ⟨hB f (by omega), (hcB.1 f).1⟩
      have hrev : (∀ x, 1 ≤ x → x ≤ s → B f x = s + 1 - x) → B f = revF s := by
        intro w
        funext x
        unfold revF
        by_cases e : 1 ≤ x ∧ x ≤ s
        · rw [if_pos e]; exact w x e.1 e.2
        · rw [if_neg e]; exact (hcB.1 f).2 x (by omega)
      refine r_iload C dX7_form_229 rfl ?_
      refine r_aload_n C dX7_form_231 rfl rfl ?_
      refine mg_perms C dX7_form_232 ?_
      show V X 0 0 235 _ [.int (nI n), .int (nI f)] _
      refine r_icmp_ge (tgt := 254) C dX7_form_235 (by decide) (fun c235 => absurd c235 ((nI_ge (by omega) (by omega)))) (fun c235 => ?_)
      refine r_aload_n C dX7_form_238 rfl rfl ?_
      refine r_iload C dX7_form_239 rfl ?_
      refine r_iload_n C dX7_form_241 rfl rfl ?_
      refine m_calli C (c_isAll G h ad _ _ (show f ≤ 600 by omega) hs7 hF) kM_isAll dX7_form_242 rfl (by decide) (by decide) (by decide) (Nat.le_of_ble_eq_true rfl) rfl rfl (fun r M1 R1 hq => ?_)
      obtain ⟨hr2, rfl, rfl⟩ := hq
      refine r_if_eq (tgt := 254) C dX7_form_245 (by decide) (fun c245 => ?_) (fun c245 => ?_)
      · exact ex f (by omega) h1 (fun _ e => hr2.elim (fun q => absurd (q.1.symm.trans c245) (by decide)) (fun q => q.2 (fun x x1 x2 => by rw [e]; unfold revF; rw [if_pos ⟨x1, x2⟩])))
      · refine r_iinc (v := _ + 1) C dX7_form_248 rfl (by rfl) (by decide) ?_
        rw [nI_1]
        refine r_goto (tgt := 229) C dX7_form_251 (by decide) ?_
        exact ih (f + 1) (by omega) (fun q hq => by
          by_cases e : q = f
          · subst e; exact hrev (hr2.elim (fun w => w.2) (fun w => absurd w.1 c245))
          · exact h1 q (by omega))
  -- the second part: until nothing moves
  have ph2 : ∀ (w : Nat) (n : Nat) (B : Sq) (Q P : Nat → Int32) (o6 : Option Value), mu s B all < w → n ≤ all → Rch s all (seq0 c s z all) B → SeqOK (va_up (va_up R 21 Q) 18 P) n s B → (∀ f, n ≤ f → B f = idF) → V X 0 0 174 [some (.ref h), some (.int (nI j)), some (.int (nI T)), some (.int (nI s)), none, none, o6, none, none] [] (mW G h ad (va_up (va_up M 20 (-nI pw)) 19 (nI n)) (va_up (va_up R 21 Q) 18 P)) := by
    intro w
    induction w with
    | zero => intro n B Q P o6 hw; omega
    | succ w ihw =>
      intro n B Q P o6 hw hna hr hB hz1
      have hcB := hr.can hc0
      have hcn : Can s n B := hcB.less hz1
      -- behind the round of takes: drops, and again or out
      have after : ∀ (B' : Sq) (P : Nat → Int32) (mr : Int32) (o6 : Option Value), Rch s n B B' → SeqOK (va_up (va_up R 21 Q) 18 P) n s B' → ((mr = 1 ∧ mu s B' n < mu s B n) ∨ (mr = 0 ∧ B' = B ∧ ∀ k, k + 1 < n → ∀ i, ¬ MvOK s B k i)) → V X 0 0 218 [some (.ref h), some (.int (nI j)), some (.int (nI T)), some (.int (nI s)), none, some (.int mr), o6, none, none] [] (mW G h ad (va_up (va_up M 20 (-nI pw)) 19 (nI n)) (va_up (va_up R 21 Q) 18 P)) := by
        intro B' P mr o6 hr' hB' hmr
        have hz' := hr'.keepN hz1
        have hcB' := (hr'.more hna).can hcB
        refine r_aload_n C dX7_form_218 rfl rfl ?_
        refine r_iload_n C dX7_form_219 rfl rfl ?_
        refine m_callv C (c_drops G h ad _ _ hzT hna hs7 hcB' rfl hB' hz') kM_drops dX7_form_220 rfl (by decide) (by decide) (by decide) (Nat.le_of_ble_eq_true rfl) rfl rfl (fun M1 R1 hq => ?_)
        obtain ⟨n', P', B2, hn', rfl, rfl, hr2, hB2, hz2, hz3⟩ := hq
        rw [up_up, up_up]
        refine r_goto (tgt := 169) C dX7_form_223 (by decide) ?_
        refine r_iload C dX7_form_169 rfl ?_
        refine r_if_eq (tgt := 226) C dX7_form_171 (by decide) (fun c171 => ?_) (fun c171 => ?_)
        · refine r_iconst (v := 0) C dX7_form_226 (by decide) ?_
          refine r_istore C dX7_form_227 (by decide) ?_
          exact (by
            have e0 : mr = 0 := c171
            obtain ⟨-, eB, hno⟩ : mr = 0 ∧ B' = B ∧ ∀ k, k + 1 < n → ∀ i, ¬ MvOK s B k i := hmr.elim (fun q => absurd (q.1.symm.trans e0) (by decide)) id
            subst eB
            have hnf : Nf s all B' := fun k i hk hm => by
              by_cases e : k + 1 < n
              · exact hno k e i hm
              · have := hm.2.2.1
                rw [hz1 (k + 1) (by omega)] at this
                have : i + 1 < i := this
                omega
            have e2 := hr2.nf hnf
            subst e2
            exact V.keep [true, true, true, true, true, false, true, true, true] (ph3 n' B2 Q P' (by omega) hr hnf (by rw [up_up] at hB2; exact hB2) hz2 hz3 n' 0 (by omega) (fun q hq => by omega)))
        · exact V.keep [true, true, true, true, true, false, true, true, true] (ihw n' B2 Q P' _ (by
            rcases hmr with q | q
            · have q1 := mu_tail (s := s) (A := B') (B := B) (n := n) (fun f hf => by rw [hz' f hf, hz1 f hf]) q.2 (all - n)
              rw [show n + (all - n) = all by omega] at q1
              have q2 := hr2.muL hcB'
              omega
            · exact absurd q.1 c171) (by omega) ((hr.trans (hr'.more hna)).trans hr2) (by rw [up_up] at hB2; exact hB2) hz2)
      have round : ∀ (d m : Nat) (B' : Sq) (P : Nat → Int32) (mr : Int32), m = d → m ≤ n → Rch s n B B' → SeqOK (va_up (va_up R 21 Q) 18 P) n s B' → ((mr = 1 ∧ mu s B' n < mu s B n) ∨ (mr = 0 ∧ B' = B ∧ ∀ k, m ≤ k + 1 → k + 1 < n → ∀ i, ¬ MvOK s B k i)) → V X 0 0 185 [some (.ref h), some (.int (nI j)), some (.int (nI T)), some (.int (nI s)), none, some (.int mr), some (.int (nI m - 2)), none, none] [] (mW G h ad (va_up (va_up M 20 (-nI pw)) 19 (nI n)) (va_up (va_up R 21 Q) 18 P)) := by
        intro d
        induction d with
        | zero =>
          intro m B' P mr hmd hmn hr' hB' hmr
          subst hmd
          refine r_iload C dX7_form_185 rfl ?_
          refine r_if_lt (tgt := 218) C dX7_form_187 (by decide) (fun c187 => ?_) (fun c187 => absurd c187 ((fun q => q (by decide))))
          exact after B' P mr _ hr' hB' (hmr.elim Or.inl (fun q => Or.inr ⟨q.1, q.2.1, fun k hk => q.2.2 k (by omega) hk⟩))
        | succ d ihd =>
          intro m B' P mr hmd hmn hr' hB' hmr
          by_cases hm1 : m = 1
          · subst hm1
            refine r_iload C dX7_form_185 rfl ?_
            refine r_if_lt (tgt := 218) C dX7_form_187 (by decide) (fun c187 => ?_) (fun c187 => absurd c187 ((fun q => q (by decide))))
            exact after B' P mr _ hr' hB' (hmr.elim Or.inl (fun q => Or.inr ⟨q.1, q.2.1, fun k hk => q.2.2 k (by omega) hk⟩))
          · obtain ⟨k, rfl⟩ : ∃ k, m = k + 2 := ⟨m - 2, by omega⟩
            have ek : nI (k + 2) - 2 = nI k := by
              have := pk_sub (a := k + 2) (b := 2) (by omega)
              rw [show k + 2 - 2 = k by omega] at this
              exact this
            have hcB' := hr'.can hcn
            rw [ek]
            refine r_iload C dX7_form_185 rfl ?_
            refine r_if_lt (tgt := 218) C dX7_form_187 (by decide) (fun c187 => absurd c187 ((nI_pos (by omega)))) (fun c187 => ?_)
            refine r_aload_n C dX7_form_190 rfl rfl ?_
            refine r_iload C dX7_form_191 rfl ?_
            refine r_iload_n C dX7_form_193 rfl rfl ?_
            refine m_calli C (c_takes G h ad _ _ (N := n) (A := B') (by omega) (show k + 1 < n by omega) hs7 hcB' hB') kM_takes dX7_form_194 rfl (by decide) (by decide) (by decide) (Nat.le_of_ble_eq_true rfl) rfl rfl (fun r M1 R1 hq => ?_)
            obtain ⟨rfl, P2, B2, rfl, hr2, hB2, hno2, hrr⟩ := hq
            rw [up_up]
            refine r_if_ne (tgt := 205) C dX7_form_197 (by decide) (fun c197 => ?_) (fun c197 => ?_)
            · refine r_iconst (v := 1) C dX7_form_205 (by decide) ?_
              refine r_goto (tgt := 210) C dX7_form_206 (by decide) ?_
              refine r_istore C dX7_form_210 (by decide) ?_
              refine r_iinc (v := _ + (-1)) C dX7_form_212 rfl (by rfl) (by decide) ?_
              rw [dec2 k (by omega)]
              refine r_goto (tgt := 185) C dX7_form_215 (by decide) ?_
              first
                | exact ihd (k + 1) B2 P2 1 (by omega) (by omega) (hr'.trans hr2) (by rw [up_up] at hB2; exact hB2) (Or.inl ⟨rfl, hrr.elim (fun q => absurd q.1 c197) (fun q => hmr.elim (fun q' => Nat.lt_trans q.2 q'.2) (fun q' => by rw [← q'.2.1]; exact q.2))⟩)
                | exact ihd (k + 1) B2 P2 1 (by omega) (by omega) (hr'.trans hr2) (by rw [up_up] at hB2; exact hB2) (Or.inl ⟨rfl, hrr.elim (fun q => by rw [q.2]; exact hmr.elim (fun q' => q'.2) (fun q' => absurd q'.1 c202)) (fun q => absurd (q.1.symm.trans c197) (by decide))⟩)
                | exact ihd (k + 1) B2 P2 0 (by omega) (by omega) (hr'.trans hr2) (by rw [up_up] at hB2; exact hB2) (Or.inr (by
                    have e1 : B2 = B' := hrr.elim (fun q => q.2) (fun q => absurd (q.1.symm.trans c197) (by decide))
                    have e2 := hmr.elim (fun q' => absurd (q'.1.symm.trans c202) (by decide)) id
                    refine ⟨rfl, e1.trans e2.2.1, fun k' w1 w2 => ?_⟩
                    by_cases e : k' = k
                    · subst e; rw [← e2.2.1, ← e1]; exact hno2
                    · exact e2.2.2 k' (by omega) w2))
            · refine r_iload C dX7_form_200 rfl ?_
              refine r_if_eq (tgt := 209) C dX7_form_202 (by decide) (fun c202 => ?_) (fun c202 => ?_)
              · refine r_iconst (v := 0) C dX7_form_209 (by decide) ?_
                refine r_istore C dX7_form_210 (by decide) ?_
                refine r_iinc (v := _ + (-1)) C dX7_form_212 rfl (by rfl) (by decide) ?_
                rw [dec2 k (by omega)]
                refine r_goto (tgt := 185) C dX7_form_215 (by decide) ?_
                first
                  | exact ihd (k + 1) B2 P2 1 (by omega) (by omega) (hr'.trans hr2) (by rw [up_up] at hB2; exact hB2) (Or.inl ⟨rfl, hrr.elim (fun q => absurd q.1 c197) (fun q => hmr.elim (fun q' => Nat.lt_trans q.2 q'.2) (fun q' => by rw [← q'.2.1]; exact q.2))⟩)
                  | exact ihd (k + 1) B2 P2 1 (by omega) (by omega) (hr'.trans hr2) (by rw [up_up] at hB2; exact hB2) (Or.inl ⟨rfl, hrr.elim (fun q => by rw [q.2]; exact hmr.elim (fun q' => q'.2) (fun q' => absurd q'.1 c202)) (fun q => absurd (q.1.symm.trans c197) (by decide))⟩)
                  | exact ihd (k + 1) B2 P2 0 (by omega) (by omega) (hr'.trans hr2) (by rw [up_up] at hB2; exact hB2) (Or.inr (by
                      have e1 : B2 = B' := hrr.elim (fun q => q.2) (fun q => absurd (q.1.symm.trans c197) (by decide))
                      have e2 := hmr.elim (fun q' => absurd (q'.1.symm.trans c202) (by decide)) id
                      refine ⟨rfl, e1.trans e2.2.1, fun k' w1 w2 => ?_⟩
                      by_cases e : k' = k
                      · subst e; rw [← e2.2.1, ← e1]; exact hno2
                      · exact e2.2.2 k' (by omega) w2))
              · refine r_iconst (v := 1) C dX7_form_205 (by decide) ?_
                refine r_goto (tgt := 210) C dX7_form_206 (by decide) ?_
                refine r_istore C dX7_form_210 (by decide) ?_
                refine r_iinc (v := _ + (-1)) C dX7_form_212 rfl (by rfl) (by decide) ?_
                rw [dec2 k (by omega)]
                refine r_goto (tgt := 185) C dX7_form_215 (by decide) ?_
                first
                  | exact ihd (k + 1) B2 P2 1 (by omega) (by omega) (hr'.trans hr2) (by rw [up_up] at hB2; exact hB2) (Or.inl ⟨rfl, hrr.elim (fun q => absurd q.1 c197) (fun q => hmr.elim (fun q' => Nat.lt_trans q.2 q'.2) (fun q' => by rw [← q'.2.1]; exact q.2))⟩)
                  | exact ihd (k + 1) B2 P2 1 (by omega) (by omega) (hr'.trans hr2) (by rw [up_up] at hB2; exact hB2) (Or.inl ⟨rfl, hrr.elim (fun q => by rw [q.2]; exact hmr.elim (fun q' => q'.2) (fun q' => absurd q'.1 c202)) (fun q => absurd (q.1.symm.trans c197) (by decide))⟩)
                  | exact ihd (k + 1) B2 P2 0 (by omega) (by omega) (hr'.trans hr2) (by rw [up_up] at hB2; exact hB2) (Or.inr (by
                      have e1 : B2 = B' := hrr.elim (fun q => q.2) (fun q => absurd (q.1.symm.trans c197) (by decide))
                      have e2 := hmr.elim (fun q' => absurd (q'.1.symm.trans c202) (by decide)) id
                      refine ⟨rfl, e1.trans e2.2.1, fun k' w1 w2 => ?_⟩
                      by_cases e : k' = k
                      · subst e; rw [← e2.2.1, ← e1]; exact hno2
                      · exact e2.2.2 k' (by omega) w2))
      refine r_iconst (v := 0) C dX7_form_174 (by decide) ?_
      refine r_istore C dX7_form_175 (by decide) ?_
      refine r_aload_n C dX7_form_177 rfl rfl ?_
      refine mg_perms C dX7_form_178 ?_
      refine r_iconst (v := 2) C dX7_form_181 (by decide) ?_
      show V X 0 0 182 _ [.int 2, .int (nI n)] _
      refine r_isub C dX7_form_182 ?_
      refine r_istore C dX7_form_183 (by decide) ?_
      exact round n n B P 0 rfl (Nat.le_refl _) Rch.rf hB (Or.inr ⟨rfl, rfl, fun k w1 w2 => by omega⟩)
  have ph1 : ∀ (m : Nat) (Q P : Nat → Int32) (o6 o7 : Option Value), m ≤ all → (∀ f, m ≤ f → f < all → ∀ x, 1 ≤ x → x ≤ s → P (8 * f + x) = nI (seq0 c s z all f x)) → V X 0 0 39 [some (.ref h), some (.int (nI j)), some (.int (nI T)), some (.int (nI s)), some (.int (nI all)), some (.int (nI m - 1)), o6, o7, none] [] (mW G h ad (va_up (va_up M 20 (-nI (ngd c z all (all - m)))) 19 (nI all)) (va_up (va_up R 21 Q) 18 P)) := by
    intro m
    induction m with
    | zero =>
      intro Q P o6 o7 hm hP
      have e : ngd c z all (all - 0) = pw := by rw [hpw, Nat.sub_zero]
      rw [e]
      refine r_iload C dX7_form_39 rfl ?_
      refine r_if_lt (tgt := 166) C dX7_form_41 (by decide) (fun c41 => ?_) (fun c41 => absurd c41 ((fun q => q (by decide))))
      refine r_iconst (v := 1) C dX7_form_166 (by decide) ?_
      refine r_istore C dX7_form_167 (by decide) ?_
      refine r_iload C dX7_form_169 rfl ?_
      refine r_if_eq (tgt := 226) C dX7_form_171 (by decide) (fun c171 => absurd c171 ((by decide))) (fun c171 => ?_)
      exact V.keep [true, true, true, true, false, false, true, false, false] (ph2 (mu s (seq0 c s z all) all + 1) all (seq0 c s z all) Q P _ (by omega) (Nat.le_refl _) Rch.rf (fun f hf x x1 x2 => hP f (by omega) hf x x1 x2) (fun f hf => by unfold seq0; rw [if_neg (by omega)]))
    | succ q ih =>
      intro Q P o6 o7 hm hP
      have hzp : 0 < z := by omega
      have hqz : q % z < z := Nat.mod_lt _ hzp
      obtain ⟨i0, hi1, hi2, hci⟩ := hok (q % z) hqz
      have hokc := hok (q % z) hqz
      have hai : ai (c (q % z)) = i0 := by rcases hci with hci | hci <;> rw [hci] <;> first | exact ai_nI (by omega) | exact ai_neg (by omega)
      obtain ⟨g, hg⟩ : ∃ g, g = ngd c z all (all - (q + 1)) := ⟨_, rfl⟩
      have hgl : g ≤ 600 := by have := ngd_le c z all (all - (q + 1)); omega
      have hgn : ngd c z all (all - q) = g + if c (q % z) < 0 then 1 else 0 := by
        rw [show all - q = (all - (q + 1)) + 1 by omega]
        show ngd c z all (all - (q + 1)) + (if c ((all - 1 - (all - (q + 1))) % z) < 0 then 1 else 0) = _
        rw [show all - 1 - (all - (q + 1)) = q by omega, ← hg]
      have hsq : seq0 c s z all q = if g % 2 = 1 then turnF s (e0F s (c (q % z))) else e0F s (c (q % z)) := by
        unfold seq0
        rw [if_pos (by omega), show all - 1 - q = all - (q + 1) by omega, ← hg]
      have he0 := e0F_can hokc hs7
      rw [← hg, nI_pred]
      obtain ⟨F, hF⟩ : ∃ F, F = (if 0 < c (q % z) then idF else revF s) := ⟨_, rfl⟩
      have hFc : PermOn F s ∧ ∀ x, (x < 1 ∨ s < x) → F x = x := by
        rw [hF]
        split
        · exact idF_can s
        · exact revF_can s
      have he0F : ∀ x, e0F s (c (q % z)) x = sw i0 (F x) := fun x => by unfold e0F; rw [hai, ← hF]; rfl
      have j145 : ∀ (Q P : Nat → Int32) (o7 : Option Value), (∀ f, q ≤ f → f < all → ∀ x, 1 ≤ x → x ≤ s → P (8 * f + x) = nI (seq0 c s z all f x)) → V X 0 0 145 [some (.ref h), some (.int (nI j)), some (.int (nI T)), some (.int (nI s)), some (.int (nI all)), some (.int (nI q)), some (.int (c (q % z))), o7, none] [] (mW G h ad (va_up (va_up M 20 (-nI g)) 19 (nI all)) (va_up (va_up R 21 Q) 18 P)) := by
        intro Q P o7 hP
        have nx := fun o6 o7 => ih Q P o6 o7 (by omega) hP
        rw [hgn] at nx
        refine r_iload C dX7_form_145 rfl ?_
        refine r_if_ge (tgt := 160) C dX7_form_147 (by decide) (fun c147 => ?_) (fun c147 => ?_)
        · refine r_iinc (v := _ + (-1)) C dX7_form_160 rfl (by rfl) (by decide) ?_
          rw [dec1' q (by omega)]
          refine r_goto (tgt := 39) C dX7_form_163 (by decide) ?_
          first
            | (rw [if_neg (Int32.not_lt.mpr c147)] at nx; exact nx _ _)
            | (rw [if_pos (Int32.not_le.mp c147)] at nx; rw [up_comm (show (19 : Nat) ≠ 20 by decide), up_up]; exact nx _ _)
        · refine r_aload_n C dX7_form_150 rfl rfl ?_
          refine r_dup C dX7_form_151 rfl ?_
          refine mg_power C dX7_form_152 ?_
          refine r_iconst (v := 1) C dX7_form_155 (by decide) ?_
          refine r_isub C dX7_form_156 ?_
          show V X 0 0 157 _ [.int (-nI g - 1), .ref h] _
          rw [neg_dec g (by omega)]
          refine mp_power C dX7_form_157 ?_
          refine r_iinc (v := _ + (-1)) C dX7_form_160 rfl (by rfl) (by decide) ?_
          rw [dec1' q (by omega)]
          refine r_goto (tgt := 39) C dX7_form_163 (by decide) ?_
          first
            | (rw [if_neg (Int32.not_lt.mpr c147)] at nx; exact nx _ _)
            | (rw [if_pos (Int32.not_le.mp c147)] at nx; rw [up_comm (show (19 : Nat) ≠ 20 by decide), up_up]; exact nx _ _)
      have j129 : ∀ (P : Nat → Int32) (o7 : Option Value), (∀ f, q < f → f < all → ∀ x, 1 ≤ x → x ≤ s → P (8 * f + x) = nI (seq0 c s z all f x)) → (∀ x, 1 ≤ x → x ≤ s → P (8 * q + x) = nI (e0F s (c (q % z)) x)) → V X 0 0 129 [some (.ref h), some (.int (nI j)), some (.int (nI T)), some (.int (nI s)), some (.int (nI all)), some (.int (nI q)), some (.int (c (q % z))), o7, none] [] (mW G h ad (va_up (va_up M 20 (-nI g)) 19 (nI all)) (va_up (va_up R 21 Q) 18 P)) := by
        intro P o7 h1 h2
        have hFac : FacOK (va_up (va_up R 21 Q) 18 P) q s (e0F s (c (q % z))) := ⟨h2, he0.1⟩
        refine r_aload_n C dX7_form_129 rfl rfl ?_
        refine mg_power C dX7_form_130 ?_
        refine r_iconst (v := 2) C dX7_form_133 (by decide) ?_
        refine r_irem C dX7_form_134 ((by decide)) ?_
        show V X 0 0 135 _ [.int (-nI g - -nI g / 2 * 2)] _
        refine r_if_eq (tgt := 145) C dX7_form_135 (by decide) (fun c135 => ?_) (fun c135 => ?_)
        · first
            | exact j145 B2 P2 _ (fun f f1 f2 x x1 x2 => by
                by_cases e : f = q
                · subst e
                  rw [hP2 x x1 x2, hsq, if_pos (by omega)]
                  show _ = nI (if 1 ≤ x ∧ x ≤ s then _ else _)
                  rw [if_pos ⟨x1, x2⟩]
                · rw [hQ2 _ (by omega)]; exact h1 f (by omega) f2 x x1 x2)
            | exact j145 Q P _ (fun f f1 f2 x x1 x2 => by
                rw [par_neg g (by omega)] at c135
                by_cases e : f = q
                · subst e
                  rw [h2 x x1 x2, hsq, if_neg (by omega)]
                · exact h1 f (by omega) f2 x x1 x2)
        · rw [par_neg g (by omega)] at c135
          refine r_aload_n C dX7_form_138 rfl rfl ?_
          refine r_iload C dX7_form_139 rfl ?_
          refine r_iload_n C dX7_form_141 rfl rfl ?_
          refine m_callv C (c_turns G h ad _ _ (show q ≤ 600 by omega) hs7 hFac) kM_turns dX7_form_142 rfl (by decide) (by decide) (by decide) (Nat.le_of_ble_eq_true rfl) rfl rfl (fun M1 R1 hq => ?_)
          obtain ⟨rfl, B2, P2, rfl, hP2, hQ2⟩ := hq
          rw [up_comm (i := 18) (j := 21) (by decide), up_up (k := 21), up_up (k := 18)]
          first
            | exact j145 B2 P2 _ (fun f f1 f2 x x1 x2 => by
                by_cases e : f = q
                · subst e
                  rw [hP2 x x1 x2, hsq, if_pos (by omega)]
                  show _ = nI (if 1 ≤ x ∧ x ≤ s then _ else _)
                  rw [if_pos ⟨x1, x2⟩]
                · rw [hQ2 _ (by omega)]; exact h1 f (by omega) f2 x x1 x2)
            | exact j145 Q P _ (fun f f1 f2 x x1 x2 => by
                rw [par_neg g (by omega)] at c135
                by_cases e : f = q
                · subst e
                  rw [h2 x x1 x2, hsq, if_neg (by omega)]
                · exact h1 f (by omega) f2 x x1 x2)
      have j126 : ∀ (P : Nat → Int32) (o7 : Option Value), (∀ f, q < f → f < all → ∀ x, 1 ≤ x → x ≤ s → P (8 * f + x) = nI (seq0 c s z all f x)) → (∀ x, 1 ≤ x → x ≤ s → P (8 * q + x) = nI (F x)) → V X 0 0 126 [some (.ref h), some (.int (nI j)), some (.int (nI T)), some (.int (nI s)), some (.int (nI all)), some (.int (nI q)), some (.int (c (q % z))), o7, none] [.int (nI i0), .int (nI q), .ref h] (mW G h ad (va_up (va_up M 20 (-nI g)) 19 (nI all)) (va_up (va_up R 21 Q) 18 P)) := by
        intro P o7 h1 h2
        have hFac : FacOK (va_up (va_up R 21 Q) 18 P) q s F := ⟨h2, hFc.1⟩
        refine m_callv C (c_behind G h ad _ _ (show q ≤ 600 by omega) hs7 hFac hi1 hi2) kM_behind dX7_form_126 rfl (by decide) (by decide) (by decide) (Nat.le_of_ble_eq_true rfl) rfl rfl (fun M1 R1 hq => ?_)
        obtain ⟨rfl, P2, rfl, hP2, hQ2⟩ := hq
        rw [up_up]
        exact j129 P2 _ (fun f f1 f2 x x1 x2 => by rw [hQ2 _ (by omega)]; exact h1 f f1 f2 x x1 x2) (fun x x1 x2 => by rw [hP2 x x1 x2, he0F])
      have lay : ∀ (n x : Nat) (P : Nat → Int32), x + n = s + 1 → 1 ≤ x → (∀ f, q < f → f < all → ∀ x, 1 ≤ x → x ≤ s → P (8 * f + x) = nI (seq0 c s z all f x)) → (∀ y, 1 ≤ y → y < x → P (8 * q + y) = nI (F y)) → V X 0 0 69 [some (.ref h), some (.int (nI j)), some (.int (nI T)), some (.int (nI s)), some (.int (nI all)), some (.int (nI q)), some (.int (c (q % z))), some (.int (nI x)), none] [] (mW G h ad (va_up (va_up M 20 (-nI g)) 19 (nI all)) (va_up (va_up R 21 Q) 18 P)) := by
        intro n
        induction n with
        | zero =>
          intro x P hxn hx1 h1 h2
          have q126 := fun o => j126 P o h1 (fun y y1 y2 => h2 y y1 (by omega))
          refine r_iload C dX7_form_69 rfl ?_
          refine r_iload_n C dX7_form_71 rfl rfl ?_
          refine r_icmp_gt (tgt := 110) C dX7_form_72 (by decide) (fun c72 => ?_) (fun c72 => absurd c72 ((fun q => q (nI_lt (by omega) (by omega)))))
          refine r_aload_n C dX7_form_110 rfl rfl ?_
          refine r_iload C dX7_form_111 rfl ?_
          rcases hci with hci | hci <;> rw [hci] at q126 ⊢
          · refine r_iload C dX7_form_113 rfl ?_
            refine r_if_le (tgt := 123) C dX7_form_115 (by decide) (fun c115 => absurd c115 ((Int32.not_le.mpr (pos_nI hi1 (by omega))))) (fun c115 => ?_)
            refine r_iload C dX7_form_118 rfl ?_
            refine r_goto (tgt := 126) C dX7_form_120 (by decide) ?_
            exact q126 _
          · refine r_iload C dX7_form_113 rfl ?_
            refine r_if_le (tgt := 123) C dX7_form_115 (by decide) (fun c115 => ?_) (fun c115 => absurd c115 ((fun q => q (Int32.le_of_lt (neg_lt0 hi1 (by omega))))))
            refine r_iload C dX7_form_123 rfl ?_
            refine r_ineg C dX7_form_125 ?_
            rw [Int32.neg_neg]
            exact q126 _
        | succ n ih2 =>
          intro x P hxn hx1 h1 h2
          have nx := fun v (hv : v = nI (F x)) => ih2 (x + 1) (upd P (8 * q + x) v) (by omega) (by omega) (fun f f1 f2 y y1 y2 => by rw [pk_un (by omega)]; exact h1 f f1 f2 y y1 y2) (fun y y1 y2 => by
            by_cases e : y = x
            · subst e; rw [pk_us]; exact hv
            · rw [pk_un (by omega)]; exact h2 y y1 (by omega))
          have j103 : ∀ v, v = nI (F x) → V X 0 0 103 [some (.ref h), some (.int (nI j)), some (.int (nI T)), some (.int (nI s)), some (.int (nI all)), some (.int (nI q)), some (.int (c (q % z))), some (.int (nI x)), none] [.int v, .int (nI 8 * nI q + nI x), .ref (ad 18)] (mW G h ad (va_up (va_up M 20 (-nI g)) 19 (nI all)) (va_up (va_up R 21 Q) 18 P)) := by
            intro v hv
            rw [pk_mul, nI_add]
            refine ms_perm C dX7_form_103 (vp_in_nI (show 8 * q + x < 4808 by omega) (by decide)) ?_
            rw [nI_clamp (by omega)]
            show V X 0 0 104 _ _ (mW G h ad _ (va_up (va_up (va_up R 21 Q) 18 P) 18 (upd P (8 * q + x) v)))
            rw [up_up]
            refine r_iinc (v := _ + 1) C dX7_form_104 rfl (by rfl) (by decide) ?_
            rw [nI_1]
            refine r_goto (tgt := 69) C dX7_form_107 (by decide) ?_
            exact nx v hv
          refine r_iload C dX7_form_69 rfl ?_
          refine r_iload_n C dX7_form_71 rfl rfl ?_
          refine r_icmp_gt (tgt := 110) C dX7_form_72 (by decide) (fun c72 => absurd c72 ((nI_nlt (by omega) (by omega)))) (fun c72 => ?_)
          refine r_aload_n C dX7_form_75 rfl rfl ?_
          refine mg_perm C dX7_form_76 ?_
          refine r_bipush (v := 8) C dX7_form_79 (by decide) ?_
          refine r_iload C dX7_form_81 rfl ?_
          refine r_imul C dX7_form_83 ?_
          refine r_iload C dX7_form_84 rfl ?_
          refine r_iadd C dX7_form_86 ?_
          refine r_iload C dX7_form_87 rfl ?_
          refine r_if_le (tgt := 97) C dX7_form_89 (by decide) (fun c89 => ?_) (fun c89 => ?_)
          · refine r_iload_n C dX7_form_97 rfl rfl ?_
            refine r_iconst (v := 1) C dX7_form_98 (by decide) ?_
            refine r_iadd C dX7_form_99 ?_
            refine r_iload C dX7_form_100 rfl ?_
            refine r_isub C dX7_form_102 ?_
            first
              | exact j103 _ (by rw [hF, if_pos (Int32.not_le.mp c89)]; rfl)
              | exact j103 _ (by rw [hF, if_neg (Int32.not_lt.mpr c89), nI_1, pk_sub (by omega)]; unfold revF; rw [if_pos ⟨hx1, by omega⟩])
          · refine r_iload C dX7_form_92 rfl ?_
            refine r_goto (tgt := 103) C dX7_form_94 (by decide) ?_
            first
              | exact j103 _ (by rw [hF, if_pos (Int32.not_le.mp c89)]; rfl)
              | exact j103 _ (by rw [hF, if_neg (Int32.not_lt.mpr c89), nI_1, pk_sub (by omega)]; unfold revF; rw [if_pos ⟨hx1, by omega⟩])
      have hrow : ∀ i, va_up (va_up R 21 Q) 18 P 7 (300 * j + i) = c i := fun i => by rw [hc]; rfl
      refine r_iload C dX7_form_39 rfl ?_
      refine r_if_lt (tgt := 166) C dX7_form_41 (by decide) (fun c41 => absurd c41 ((nI_pos (by omega)))) (fun c41 => ?_)
      refine r_aload_n C dX7_form_44 rfl rfl ?_
      refine mg_rows C dX7_form_45 ?_
      refine r_sipush (v := 300) C dX7_form_48 (by decide) ?_
      refine r_iload_n C dX7_form_51 rfl rfl ?_
      refine r_imul C dX7_form_52 ?_
      refine r_iload C dX7_form_53 rfl ?_
      refine r_aload_n C dX7_form_55 rfl rfl ?_
      refine mg_sizes C dX7_form_56 ?_
      refine r_iload_n C dX7_form_59 rfl rfl ?_
      refine ml_sizes C dX7_form_60 (vp_in_nI hj (by decide)) ?_
      rw [nI_clamp (by omega)]
      show V X 0 0 61 _ [.int (R 6 j), .int (nI q), .int (nI 300 * nI j), .ref (ad 7)] _
      rw [hz, pk_mul]
      refine r_irem C dX7_form_61 (nI_ne0 hzp (by omega)) ?_
      rw [pk_rem (by omega) hzp (by omega)]
      refine r_iadd C dX7_form_62 ?_
      rw [nI_add]
      refine ml_rows C dX7_form_63 (vp_in_nI (show 300 * j + q % z < 2400 by omega) (by decide)) ?_
      rw [nI_clamp (by omega), hrow]
      refine r_istore C dX7_form_64 (by decide) ?_
      refine r_iconst (v := 1) C dX7_form_66 (by decide) ?_
      refine r_istore C dX7_form_67 (by decide) ?_
      exact lay s 1 P (by omega) (Nat.le_refl _) (fun f f1 f2 => hP f (by omega) f2) (fun y y1 y2 => by omega)
  have q0 := ph1 all (R 21) (R 18) none none (Nat.le_refl _) (fun f f1 f2 => by omega)
  rw [show va_up (va_up R 21 (R 21)) 18 (R 18) = R by rw [up_same (f := R) (k := 21) rfl, up_same rfl], Nat.sub_self, show (-nI (ngd c z all 0) : Int32) = 0 from (by show -nI 0 = (0 : Int32); decide)] at q0
  refine r_aload_n C dX7_form_0 rfl rfl ?_
  refine mg_straws C dX7_form_1 ?_
  refine r_iload_n C dX7_form_4 rfl rfl ?_
  refine ml_straws C dX7_form_5 (vp_in_nI hj (by decide)) ?_
  rw [nI_clamp (by omega), hs5]
  refine r_istore_n C dX7_form_6 rfl (by decide) ?_
  refine r_aload_n C dX7_form_7 rfl rfl ?_
  refine r_iconst (v := 0) C dX7_form_8 (by decide) ?_
  refine mp_perms C dX7_form_9 ?_
  refine r_aload_n C dX7_form_12 rfl rfl ?_
  refine r_iconst (v := 0) C dX7_form_13 (by decide) ?_
  refine mp_power C dX7_form_14 ?_
  refine r_aload_n C dX7_form_17 rfl rfl ?_
  refine mg_sizes C dX7_form_18 ?_
  refine r_iload_n C dX7_form_21 rfl rfl ?_
  refine ml_sizes C dX7_form_22 (vp_in_nI hj (by decide)) ?_
  rw [nI_clamp (by omega)]
  show V X 0 0 23 _ [.int (R 6 j)] _
  rw [hz]
  refine r_iload_n C dX7_form_23 rfl rfl ?_
  refine r_imul C dX7_form_24 ?_
  rw [pk_mul, ← hall]
  refine r_istore C dX7_form_25 (by decide) ?_
  refine r_aload_n C dX7_form_27 rfl rfl ?_
  refine r_iload C dX7_form_28 rfl ?_
  refine mp_perms C dX7_form_30 ?_
  refine r_iload C dX7_form_33 rfl ?_
  refine r_iconst (v := 1) C dX7_form_35 (by decide) ?_
  refine r_isub C dX7_form_36 ?_
  refine r_istore C dX7_form_37 (by decide) ?_
  rw [up_comm (i := 19) (j := 20) (by decide), up_up]
  exact q0
end M16
