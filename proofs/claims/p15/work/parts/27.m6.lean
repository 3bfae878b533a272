/-! the reference: hat -/
def okH (nh : Nat) (w r : Int32) (wn rn : Nat) : Prop := nh ≠ 60 ∧ w = nI wn ∧ r = nI rn ∧ 1 ≤ wn ∧ wn ≤ 9 ∧ 1 ≤ rn ∧ rn ≤ 400 ∧ rn % wn = 0
def hatR (R : Rt) (w : Int32) (nh ns wn rn : Nat) : Rt :=
  va_up (va_up (va_up (va_up (va_up R 35 (tk (R 36) (R 37) w (R 35) (hatNeed wn (rn / wn)) ns).1) 39 (upd (R 39) nh (nI (hatNeed wn (rn / wn))))) 40 (upd (R 40) nh (nI (rn / wn)))) 41 (upd (R 41) nh (tk (R 36) (R 37) w (R 35) (hatNeed wn (rn / wn)) ns).2.2.1)) 42 (upd (R 42) nh (tk (R 36) (R 37) w (R 35) (hatNeed wn (rn / wn)) ns).2.2.2)
section M6
variable (G : Gx) (h : Nat) (ad : Nat → Nat) (M : Mt) (R : Rt)
theorem c_hat {nh ns : Nat} (w r : Int32) (hh : M 30 = nI nh) (hh60 : nh ≤ 60) (hs : M 29 = nI ns) (hs60 : ns ≤ 60) (hL : NumOK (R 35) ns 120000) : mI G h ad yX7_hat cX7_hat 10 .int 0 [.int w, .int r] M R (fun a M' R' => (((∀ wn rn : Nat, ¬ okH nh w r wn rn) ∨ (∃ wn rn : Nat, okH nh w r wn rn ∧ sumW (R 36) (R 35) w ns < hatNeed wn (rn / wn))) ∧ a = -1 ∧ M' = va_up M 0 0 ∧ R' = R) ∨ (∃ wn rn : Nat, okH nh w r wn rn ∧ hatNeed wn (rn / wn) ≤ sumW (R 36) (R 35) w ns ∧ a = nI nh ∧ M' = va_up (va_up M 0 0) 30 (nI (nh + 1)) ∧ R' = hatR R w nh ns wn rn)) := by
  refine mI.intro (by decide) (Nat.le_of_ble_eq_true rfl) (cat1 (xs := [w, r])) fun X C hR => ?_
  have j43 : (∀ wn rn : Nat, ¬ okH nh w r wn rn) → V X 0 0 43 (ent [.ref h, .int w, .int r] 10) [] (mW G h ad (va_up M 0 0) R) := by
    intro hno
    refine r_iconst (v := -1) C dX7_hat_43 (by decide) ?_
    exact hR _ _ _ _ _ rfl dX7_hat_44 (Or.inl ⟨Or.inl hno, rfl, rfl, rfl⟩)
  have c1 : (1 : Int32) = nI 1 := rfl
  have j45 : ∀ wn rn : Nat, okH nh w r wn rn → V X 0 0 45 (ent [.ref h, .int w, .int r] 10) [] (mW G h ad (va_up M 0 0) R) := by
    intro wn rn hok
    obtain ⟨hn60, rfl, rfl, hw1, hw9, hr1, hr4, hmod⟩ := id hok
    have hrw : nI rn / nI wn = nI (rn / wn) := pk_div (by omega) (by omega) (by omega)
    have hw0 : ¬ nI wn = 0 := nI_ne0 (by omega) (by omega)
    have hq4 : rn / wn ≤ 400 := Nat.le_trans (Nat.div_le_self _ _) hr4
    obtain ⟨need, hneed⟩ : ∃ q, q = hatNeed wn (rn / wn) := ⟨_, rfl⟩
    have hn1 := hatNeed_le (w := wn) hw9 (rn / wn) hq4
    have hsum := sumW_le (W := R 36) (w := nI wn) hL ns (Nat.le_refl _)
    have hcl : (M 30).toNatClampNeg = nh := by rw [hh, nI_clamp (by omega)]
    have fin : need ≤ sumW (R 36) (R 35) (nI wn) ns → V X 0 0 266 [some (.ref h), some (.int (nI wn)), some (.int (nI rn)), some (.int (nI need)), none, some (.int (tk (R 36) (R 37) (nI wn) (R 35) need ns).2.2.1), some (.int (tk (R 36) (R 37) (nI wn) (R 35) need ns).2.2.2), none, none, none] [] (mW G h ad (va_up M 0 0) (va_up R 35 (tk (R 36) (R 37) (nI wn) (R 35) need ns).1)) := by
      intro hle
      have hbd : vp_in (M 30) 60 := by rw [hh]; exact vp_in_nI (by omega) (by decide)
      refine r_aload_n C dX7_hat_266 rfl rfl ?_
      refine mg_hatLength C dX7_hat_267 ?_
      refine r_aload_n C dX7_hat_270 rfl rfl ?_
      refine mg_hats C dX7_hat_271 ?_
      refine r_iload_n C dX7_hat_274 rfl rfl ?_
      refine ms_hatLength C dX7_hat_275 (hbd) ?_
      refine r_aload_n C dX7_hat_276 rfl rfl ?_
      refine mg_hatTurns C dX7_hat_277 ?_
      refine r_aload_n C dX7_hat_280 rfl rfl ?_
      refine mg_hats C dX7_hat_281 ?_
      refine r_iload_n C dX7_hat_284 rfl rfl ?_
      refine r_iload_n C dX7_hat_285 rfl rfl ?_
      refine r_idiv C dX7_hat_286 (hw0) ?_
      rw [hrw]
      refine ms_hatTurns C dX7_hat_287 (hbd) ?_
      refine r_aload_n C dX7_hat_288 rfl rfl ?_
      refine mg_hatFields C dX7_hat_289 ?_
      refine r_aload_n C dX7_hat_292 rfl rfl ?_
      refine mg_hats C dX7_hat_293 ?_
      refine r_iload C dX7_hat_296 rfl ?_
      refine ms_hatFields C dX7_hat_298 (hbd) ?_
      refine r_aload_n C dX7_hat_299 rfl rfl ?_
      refine mg_hatScores C dX7_hat_300 ?_
      refine r_aload_n C dX7_hat_303 rfl rfl ?_
      refine mg_hats C dX7_hat_304 ?_
      refine r_iload C dX7_hat_307 rfl ?_
      refine ms_hatScores C dX7_hat_309 (hbd) ?_
      show V X 0 0 310 _ _ (mW G h ad (va_up M 0 0) (va_up (va_up (va_up (va_up (va_up R 35 (tk (R 36) (R 37) (nI wn) (R 35) need ns).1) 39 (upd (R 39) (M 30).toNatClampNeg (nI need))) 40 (upd (R 40) (M 30).toNatClampNeg (nI (rn / wn)))) 41 (upd (R 41) (M 30).toNatClampNeg (tk (R 36) (R 37) (nI wn) (R 35) need ns).2.2.1)) 42 (upd (R 42) (M 30).toNatClampNeg (tk (R 36) (R 37) (nI wn) (R 35) need ns).2.2.2)))
      rw [hcl]
      refine r_aload_n C dX7_hat_310 rfl rfl ?_
      refine r_dup C dX7_hat_311 rfl ?_
      refine mg_hats C dX7_hat_312 ?_
      refine r_iconst (v := 1) C dX7_hat_315 (by decide) ?_
      refine r_iadd C dX7_hat_316 ?_
      show V X 0 0 317 _ [.int (M 30 + 1), .ref h] _
      rw [hh, nI_1]
      refine mp_hats C dX7_hat_317 ?_
      refine r_aload_n C dX7_hat_320 rfl rfl ?_
      refine mg_hats C dX7_hat_321 ?_
      refine r_iconst (v := 1) C dX7_hat_324 (by decide) ?_
      refine r_isub C dX7_hat_325 ?_
      show V X 0 0 326 _ [.int (nI (nh + 1) - 1)] _
      rw [nI_pred]
      exact hR _ _ _ _ _ rfl dX7_hat_326 (Or.inr ⟨wn, rn, hok, by rw [← hneed]; exact hle, rfl, rfl, by rw [hneed]; rfl⟩)
    have k3 : need ≤ sumW (R 36) (R 35) (nI wn) ns → ∀ (f s : Nat), s + f = ns → V X 0 0 149 [some (.ref h), some (.int (nI wn)), some (.int (nI rn)), some (.int (nI need)), none, some (.int (tk (R 36) (R 37) (nI wn) (R 35) need s).2.2.1), some (.int (tk (R 36) (R 37) (nI wn) (R 35) need s).2.2.2), some (.int (nI (tk (R 36) (R 37) (nI wn) (R 35) need s).2.1)), some (.int (nI s)), none] [] (mW G h ad (va_up M 0 0) (va_up R 35 (tk (R 36) (R 37) (nI wn) (R 35) need s).1)) := by
      intro hle f
      induction f with
      | zero =>
        intro s hsf
        have hsn : s = ns := by omega
        subst hsn
        refine r_iload C dX7_hat_149 rfl ?_
        refine r_aload_n C dX7_hat_151 rfl rfl ?_
        refine mg_scores C dX7_hat_152 ?_
        show V X 0 0 155 _ [.int (M 29), .int (nI s)] _
        rw [hs]
        refine r_icmp_ge (tgt := 266) C dX7_hat_155 (by decide) (fun c155 => ?_) (fun c155 => absurd c155 ((fun q => q (nI_le (by omega) (by omega)))))
        exact V.keep [true, true, true, true, true, true, true, false, false, false] (fin hle)
      | succ f ih =>
        intro s hsf
        have nx := ih (s + 1) (by omega)
        have hko := tk_ok (W := R 36) (F := R 37) (w := nI wn) (need := need) (by decide) hL s
        have hst : tk (R 36) (R 37) (nI wn) (R 35) need (s + 1) = tkS (R 36) (R 37) (nI wn) s (tk (R 36) (R 37) (nI wn) (R 35) need s) := rfl
        have hend : (tk (R 36) (R 37) (nI wn) (R 35) need s).2.1 = 0 → tk (R 36) (R 37) (nI wn) (R 35) need ns = tk (R 36) (R 37) (nI wn) (R 35) need s := by
          intro q
          have := tk_stop q (ns - s)
          rw [show s + (ns - s) = ns by omega] at this
          exact this
        have fin' := fin hle
        rw [hst] at nx
        generalize tk (R 36) (R 37) (nI wn) (R 35) need s = Q at nx hko hend ⊢
        obtain ⟨lf, more, fl, of⟩ := Q
        dsimp only at nx hko hend ⊢
        have hlf := hko.1 s (by omega)
        obtain ⟨yl, hyl⟩ : ∃ y, y = cl (lf s) := ⟨_, rfl⟩
        rw [← hyl] at hlf
        have j260 : ∀ o9 : Option Value, ¬ (0 < more ∧ R 36 s = nI wn ∧ lf s ≠ 0) → V X 0 0 260 [some (.ref h), some (.int (nI wn)), some (.int (nI rn)), some (.int (nI need)), none, some (.int fl), some (.int of), some (.int (nI more)), some (.int (nI s)), o9] [] (mW G h ad (va_up M 0 0) (va_up R 35 lf)) := by
          intro o9 hno
          unfold tkS at nx
          rw [if_neg hno] at nx
          refine r_iinc (v := _ + 1) C dX7_hat_260 rfl (by rfl) (by decide) ?_
          rw [nI_1]
          refine r_goto (tgt := 149) C dX7_hat_263 (by decide) ?_
          exact V.keep [true, true, true, true, true, true, true, true, true, false] nx
        have j213 : 0 < more → R 36 s = nI wn → lf s ≠ 0 → V X 0 0 213 [some (.ref h), some (.int (nI wn)), some (.int (nI rn)), some (.int (nI need)), none, some (.int fl), some (.int of), some (.int (nI more)), some (.int (nI s)), some (.int (nI (min yl more)))] [] (mW G h ad (va_up M 0 0) (va_up R 35 lf)) := by
          intro hm hW hl0
          unfold tkS at nx
          rw [if_pos ⟨hm, hW, hl0⟩] at nx
          dsimp only at nx
          rw [← hyl] at nx
          refine r_aload_n C dX7_hat_213 rfl rfl ?_
          refine mg_lengthLeft C dX7_hat_214 ?_
          refine r_iload C dX7_hat_217 rfl ?_
          refine r_dup2 C dX7_hat_219 rfl rfl ?_
          refine ml_lengthLeft C dX7_hat_220 (vp_in_nI (show s < 60 by omega) (by decide)) ?_
          rw [nI_clamp (by omega)]
          show V X 0 0 221 _ (.int (lf s) :: _) _
          rw [hlf.1]
          refine r_iload C dX7_hat_221 rfl ?_
          refine r_isub C dX7_hat_223 ?_
          rw [pk_sub (Nat.min_le_left _ _)]
          refine ms_lengthLeft C dX7_hat_224 (vp_in_nI (show s < 60 by omega) (by decide)) ?_
          rw [nI_clamp (by omega)]
          show V X 0 0 225 _ _ (mW G h ad _ (va_up (va_up R 35 lf) 35 (upd lf s (nI (yl - min yl more)))))
          rw [up_up]
          refine r_iload C dX7_hat_225 rfl ?_
          refine r_iload C dX7_hat_227 rfl ?_
          refine r_isub C dX7_hat_229 ?_
          rw [pk_sub (Nat.min_le_right _ _)]
          refine r_istore C dX7_hat_230 (by decide) ?_
          refine r_iload C dX7_hat_232 rfl ?_
          refine r_aload_n C dX7_hat_234 rfl rfl ?_
          refine mg_scoreFields C dX7_hat_235 ?_
          refine r_iload C dX7_hat_238 rfl ?_
          refine ml_scoreFields C dX7_hat_240 (vp_in_nI (show s < 60 by omega) (by decide)) ?_
          rw [nI_clamp (by omega)]
          refine r_ior C dX7_hat_241 ?_
          refine r_istore C dX7_hat_242 (by decide) ?_
          refine r_iload C dX7_hat_244 rfl ?_
          refine r_bipush (v := 31) C dX7_hat_246 (by decide) ?_
          refine r_icmp_ge (tgt := 260) C dX7_hat_248 (by decide) (fun c248 => ?_) (fun c248 => ?_)
          · exact r_iinc (v := _ + 1) C dX7_hat_260 rfl (by rfl) (by decide) (r_goto (tgt := 149) C dX7_hat_263 (by decide) (by rw [nI_1]; first | exact V.keep [true, true, true, true, true, true, true, true, true, false] nx | (rw [show (31 : Int32) = nI 31 from rfl, nI_leI (by omega) (by omega)] at c248; rw [if_neg (by omega)] at nx; exact V.keep [true, true, true, true, true, true, true, true, true, false] nx)))
          · rw [show (31 : Int32) = nI 31 from rfl, nI_leI (by omega) (by omega)] at c248
            rw [if_pos (by omega)] at nx
            refine r_iload C dX7_hat_251 rfl ?_
            refine r_iconst (v := 1) C dX7_hat_253 (by decide) ?_
            refine r_iload C dX7_hat_254 rfl ?_
            refine r_ishl C dX7_hat_256 ?_
            refine r_ior C dX7_hat_257 ?_
            refine r_istore C dX7_hat_258 (by decide) ?_
            exact r_iinc (v := _ + 1) C dX7_hat_260 rfl (by rfl) (by decide) (r_goto (tgt := 149) C dX7_hat_263 (by decide) (by rw [nI_1]; first | exact V.keep [true, true, true, true, true, true, true, true, true, false] nx | (rw [show (31 : Int32) = nI 31 from rfl, nI_leI (by omega) (by omega)] at c248; rw [if_neg (by omega)] at nx; exact V.keep [true, true, true, true, true, true, true, true, true, false] nx)))
        refine r_iload C dX7_hat_149 rfl ?_
        refine r_aload_n C dX7_hat_151 rfl rfl ?_
        refine mg_scores C dX7_hat_152 ?_
        show V X 0 0 155 _ [.int (M 29), .int (nI s)] _
        rw [hs]
        refine r_icmp_ge (tgt := 266) C dX7_hat_155 (by decide) (fun c155 => absurd c155 ((nI_ge (by omega) (by omega)))) (fun c155 => ?_)
        refine r_iload C dX7_hat_158 rfl ?_
        refine r_if_le (tgt := 266) C dX7_hat_160 (by decide) (fun c160 => ?_) (fun c160 => ?_)
        · exact (by
            have hm0 : more = 0 := by
              rcases Nat.eq_zero_or_pos more with q | q
              · exact q
              · exact absurd c160 (nI_nle q (by omega))
            rw [hend hm0] at fin'
            exact V.keep [true, true, true, true, true, true, true, false, false, false] fin')
        · have hm : 0 < more := by
            rcases Nat.eq_zero_or_pos more with q | q
            · exact absurd (by rw [q]; decide) c160
            · exact q
          refine r_aload_n C dX7_hat_163 rfl rfl ?_
          refine mg_scoreWidth C dX7_hat_164 ?_
          refine r_iload C dX7_hat_167 rfl ?_
          refine ml_scoreWidth C dX7_hat_169 (vp_in_nI (show s < 60 by omega) (by decide)) ?_
          rw [nI_clamp (by omega)]
          refine r_iload_n C dX7_hat_170 rfl rfl ?_
          refine r_icmp_ne (tgt := 260) C dX7_hat_171 (by decide) (fun c171 => ?_) (fun c171 => ?_)
          · exact j260 _ (fun q => by first | exact c171 q.2.1 | exact q.2.2 c181)
          · refine r_aload_n C dX7_hat_174 rfl rfl ?_
            refine mg_lengthLeft C dX7_hat_175 ?_
            refine r_iload C dX7_hat_178 rfl ?_
            refine ml_lengthLeft C dX7_hat_180 (vp_in_nI (show s < 60 by omega) (by decide)) ?_
            rw [nI_clamp (by omega)]
            refine r_if_ne (tgt := 187) C dX7_hat_181 (by decide) (fun c181 => ?_) (fun c181 => ?_)
            · refine r_aload_n C dX7_hat_187 rfl rfl ?_
              refine mg_lengthLeft C dX7_hat_188 ?_
              refine r_iload C dX7_hat_191 rfl ?_
              refine ml_lengthLeft C dX7_hat_193 (vp_in_nI (show s < 60 by omega) (by decide)) ?_
              rw [nI_clamp (by omega)]
              refine r_iload C dX7_hat_194 rfl ?_
              show V X 0 0 196 _ [.int (nI more), .int (lf s)] _
              rw [hlf.1]
              refine r_icmp_ge (tgt := 209) C dX7_hat_196 (by decide) (fun c196 => ?_) (fun c196 => ?_)
              · rw [nI_leI (by omega) (by omega)] at c196
                refine r_iload C dX7_hat_209 rfl ?_
                refine r_istore C dX7_hat_211 (by decide) ?_
                exact (by
                  have q := j213 hm c171 c181
                  first | (rw [Nat.min_eq_left (by omega)] at q; exact q) | (rw [Nat.min_eq_right (by omega)] at q; exact q))
              · rw [nI_leI (by omega) (by omega)] at c196
                refine r_aload_n C dX7_hat_199 rfl rfl ?_
                refine mg_lengthLeft C dX7_hat_200 ?_
                refine r_iload C dX7_hat_203 rfl ?_
                refine ml_lengthLeft C dX7_hat_205 (vp_in_nI (show s < 60 by omega) (by decide)) ?_
                rw [nI_clamp (by omega)]
                show V X 0 0 206 _ [.int (lf s)] _
                rw [hlf.1]
                refine r_goto (tgt := 211) C dX7_hat_206 (by decide) ?_
                refine r_istore C dX7_hat_211 (by decide) ?_
                exact (by
                  have q := j213 hm c171 c181
                  first | (rw [Nat.min_eq_left (by omega)] at q; exact q) | (rw [Nat.min_eq_right (by omega)] at q; exact q))
            · refine r_goto (tgt := 260) C dX7_hat_184 (by decide) ?_
              exact j260 _ (fun q => by first | exact c171 q.2.1 | exact q.2.2 c181)
    have k2 : ∀ (f s : Nat), s + f = ns → V X 0 0 91 [some (.ref h), some (.int (nI wn)), some (.int (nI rn)), some (.int (nI need)), some (.int (nI (sumW (R 36) (R 35) (nI wn) s))), some (.int (nI s)), none, none, none, none] [] (mW G h ad (va_up M 0 0) R) := by
      intro f
      induction f with
      | zero =>
        intro s hsf
        have hsn : s = ns := by omega
        subst hsn
        refine r_iload C dX7_hat_91 rfl ?_
        refine r_aload_n C dX7_hat_93 rfl rfl ?_
        refine mg_scores C dX7_hat_94 ?_
        show V X 0 0 97 _ [.int (M 29), .int (nI s)] _
        rw [hs]
        refine r_icmp_ge (tgt := 129) C dX7_hat_97 (by decide) (fun c97 => ?_) (fun c97 => absurd c97 ((fun q => q (nI_le (by omega) (by omega)))))
        refine r_iload C dX7_hat_129 rfl ?_
        refine r_iload_n C dX7_hat_131 rfl rfl ?_
        refine r_icmp_ge (tgt := 137) C dX7_hat_132 (by decide) (fun c132 => ?_) (fun c132 => ?_)
        · rw [nI_leI (by omega) (by omega)] at c132
          refine r_iconst (v := 0) C dX7_hat_137 (by decide) ?_
          refine r_istore C dX7_hat_138 (by decide) ?_
          refine r_iconst (v := 0) C dX7_hat_140 (by decide) ?_
          refine r_istore C dX7_hat_141 (by decide) ?_
          refine r_iload_n C dX7_hat_143 rfl rfl ?_
          refine r_istore C dX7_hat_144 (by decide) ?_
          refine r_iconst (v := 0) C dX7_hat_146 (by decide) ?_
          refine r_istore C dX7_hat_147 (by decide) ?_
          exact (by
            have q := k3 c132 s 0 (by omega)
            rw [show (tk (R 36) (R 37) (nI wn) (R 35) need 0).1 = R 35 from rfl, up_same rfl] at q
            exact V.keep [true, true, true, true, false, true, true, true, true, false] q)
        · rw [nI_leI (by omega) (by omega)] at c132
          refine r_iconst (v := -1) C dX7_hat_135 (by decide) ?_
          exact hR _ _ _ _ _ rfl dX7_hat_136 (Or.inl ⟨Or.inr ⟨wn, rn, hok, by rw [← hneed]; omega⟩, rfl, rfl, rfl⟩)
      | succ f ih =>
        intro s hsf
        have nx := ih (s + 1) (by omega)
        have hLs := hL s (by omega)
        refine r_iload C dX7_hat_91 rfl ?_
        refine r_aload_n C dX7_hat_93 rfl rfl ?_
        refine mg_scores C dX7_hat_94 ?_
        show V X 0 0 97 _ [.int (M 29), .int (nI s)] _
        rw [hs]
        refine r_icmp_ge (tgt := 129) C dX7_hat_97 (by decide) (fun c97 => absurd c97 ((nI_ge (by omega) (by omega)))) (fun c97 => ?_)
        refine r_aload_n C dX7_hat_100 rfl rfl ?_
        refine mg_scoreWidth C dX7_hat_101 ?_
        refine r_iload C dX7_hat_104 rfl ?_
        refine ml_scoreWidth C dX7_hat_106 (vp_in_nI (show s < 60 by omega) (by decide)) ?_
        rw [nI_clamp (by omega)]
        refine r_iload_n C dX7_hat_107 rfl rfl ?_
        refine r_icmp_ne (tgt := 123) C dX7_hat_108 (by decide) (fun c108 => ?_) (fun c108 => ?_)
        · refine r_iinc (v := _ + 1) C dX7_hat_123 rfl (by rfl) (by decide) ?_
          rw [nI_1]
          refine r_goto (tgt := 91) C dX7_hat_126 (by decide) ?_
          exact (by
            unfold sumW at nx
            first | (rw [if_pos c108] at nx; exact nx) | (rw [if_neg c108] at nx; exact nx))
        · refine r_iload C dX7_hat_111 rfl ?_
          refine r_aload_n C dX7_hat_113 rfl rfl ?_
          refine mg_lengthLeft C dX7_hat_114 ?_
          refine r_iload C dX7_hat_117 rfl ?_
          refine ml_lengthLeft C dX7_hat_119 (vp_in_nI (show s < 60 by omega) (by decide)) ?_
          rw [nI_clamp (by omega), hLs.1]
          refine r_iadd C dX7_hat_120 ?_
          rw [nI_add]
          refine r_istore C dX7_hat_121 (by decide) ?_
          refine r_iinc (v := _ + 1) C dX7_hat_123 rfl (by rfl) (by decide) ?_
          rw [nI_1]
          refine r_goto (tgt := 91) C dX7_hat_126 (by decide) ?_
          exact (by
            unfold sumW at nx
            first | (rw [if_pos c108] at nx; exact nx) | (rw [if_neg c108] at nx; exact nx))
    have k1 : ∀ (f t : Nat), t + f = rn / wn → V X 0 0 50 [some (.ref h), some (.int (nI wn)), some (.int (nI rn)), some (.int (nI (hatNeed wn t))), some (.int (nI (t + 1))), none, none, none, none, none] [] (mW G h ad (va_up M 0 0) R) := by
      intro f
      induction f with
      | zero =>
        intro t htf
        have htn : t = rn / wn := by omega
        refine r_iload C dX7_hat_50 rfl ?_
        refine r_iload_n C dX7_hat_52 rfl rfl ?_
        refine r_iload_n C dX7_hat_53 rfl rfl ?_
        refine r_idiv C dX7_hat_54 (hw0) ?_
        rw [hrw]
        refine r_icmp_gt (tgt := 85) C dX7_hat_55 (by decide) (fun c55 => ?_) (fun c55 => absurd c55 ((fun q => q (nI_lt (by omega) (by omega)))))
        refine r_iconst (v := 0) C dX7_hat_85 (by decide) ?_
        refine r_istore C dX7_hat_86 (by decide) ?_
        refine r_iconst (v := 0) C dX7_hat_88 (by decide) ?_
        refine r_istore C dX7_hat_89 (by decide) ?_
        exact (by
          have q := k2 ns 0 (by omega)
          rw [hneed, ← htn] at q
          exact q)
      | succ f ih =>
        intro t htf
        have nx := ih (t + 1) (by omega)
        have hb1 : 710 * (2 * (t + 1) - 1) * wn ≤ 710 * 799 * 9 := Nat.mul_le_mul (Nat.mul_le_mul_left _ (by omega)) hw9
        refine r_iload C dX7_hat_50 rfl ?_
        refine r_iload_n C dX7_hat_52 rfl rfl ?_
        refine r_iload_n C dX7_hat_53 rfl rfl ?_
        refine r_idiv C dX7_hat_54 (hw0) ?_
        rw [hrw]
        refine r_icmp_gt (tgt := 85) C dX7_hat_55 (by decide) (fun c55 => absurd c55 ((nI_nlt (by omega) (by omega)))) (fun c55 => ?_)
        refine r_iload_n C dX7_hat_58 rfl rfl ?_
        refine r_sipush (v := 710) C dX7_hat_59 (by decide) ?_
        refine r_iconst (v := 2) C dX7_hat_62 (by decide) ?_
        refine r_iload C dX7_hat_63 rfl ?_
        refine r_imul C dX7_hat_65 ?_
        rw [show (2 : Int32) = nI 2 from rfl, pk_mul]
        refine r_iconst (v := 1) C dX7_hat_66 (by decide) ?_
        refine r_isub C dX7_hat_67 ?_
        rw [c1, pk_sub (by omega), show (710 : Int32) = nI 710 from rfl]
        refine r_imul C dX7_hat_68 ?_
        rw [pk_mul]
        refine r_iload_n C dX7_hat_69 rfl rfl ?_
        refine r_imul C dX7_hat_70 ?_
        rw [pk_mul]
        refine r_sipush (v := 226) C dX7_hat_71 (by decide) ?_
        rw [show (226 : Int32) = nI 226 from rfl]
        refine r_idiv C dX7_hat_74 (nI_ne0 (by decide) (by decide)) ?_
        rw [pk_div (by omega) (by decide) (by decide)]
        refine r_iconst (v := 1) C dX7_hat_75 (by decide) ?_
        refine r_iadd C dX7_hat_76 ?_
        rw [nI_1]
        refine r_iadd C dX7_hat_77 ?_
        rw [nI_add]
        refine r_istore_n C dX7_hat_78 rfl (by decide) ?_
        refine r_iinc (v := _ + 1) C dX7_hat_79 rfl (by rfl) (by decide) ?_
        rw [nI_1]
        refine r_goto (tgt := 50) C dX7_hat_82 (by decide) ?_
        exact nx
    refine r_iconst (v := 0) C dX7_hat_45 (by decide) ?_
    refine r_istore_n C dX7_hat_46 rfl (by decide) ?_
    refine r_iconst (v := 1) C dX7_hat_47 (by decide) ?_
    refine r_istore C dX7_hat_48 (by decide) ?_
    exact k1 (rn / wn) 0 (by omega)
  refine r_aload_n C dX7_hat_0 rfl rfl ?_
  refine r_iconst (v := 0) C dX7_hat_1 (by decide) ?_
  refine mp_thrown C dX7_hat_2 ?_
  refine r_aload_n C dX7_hat_5 rfl rfl ?_
  refine mg_hats C dX7_hat_6 ?_
  refine r_bipush (v := 60) C dX7_hat_9 (by decide) ?_
  show V X 0 0 11 _ [.int 60, .int (M 30)] _
  rw [hh]
  refine r_icmp_eq (tgt := 43) C dX7_hat_11 (by decide) (fun c11 => ?_) (fun c11 => ?_)
  · exact j43 (fun wn rn o => by
      obtain ⟨o1, ow, or, o2, o3, o4, o5, o6⟩ := o
      first
        | exact c40 (by rw [nI_eq (by omega) (by omega)] at ow or; rw [ow, or, o6]; rfl)
        | (subst ow; subst or; exact o1 ((nI_eq (by omega) (by omega)).mp c11))
        | (subst ow; subst or; rw [c1, nI_ltI (by omega) (by omega)] at c16; omega)
        | (subst ow; subst or; rw [show (9 : Int32) = nI 9 from rfl, nI_ltI (by omega) (by omega)] at c22; omega)
        | (subst ow; subst or; rw [c1, nI_ltI (by omega) (by omega)] at c27; omega)
        | (subst ow; subst or; rw [show (400 : Int32) = nI 400 from rfl, nI_ltI (by omega) (by omega)] at c34; omega))
  · refine r_iload_n C dX7_hat_14 rfl rfl ?_
    refine r_iconst (v := 1) C dX7_hat_15 (by decide) ?_
    refine r_icmp_lt (tgt := 43) C dX7_hat_16 (by decide) (fun c16 => ?_) (fun c16 => ?_)
    · exact j43 (fun wn rn o => by
        obtain ⟨o1, ow, or, o2, o3, o4, o5, o6⟩ := o
        first
          | exact c40 (by rw [nI_eq (by omega) (by omega)] at ow or; rw [ow, or, o6]; rfl)
          | (subst ow; subst or; exact o1 ((nI_eq (by omega) (by omega)).mp c11))
          | (subst ow; subst or; rw [c1, nI_ltI (by omega) (by omega)] at c16; omega)
          | (subst ow; subst or; rw [show (9 : Int32) = nI 9 from rfl, nI_ltI (by omega) (by omega)] at c22; omega)
          | (subst ow; subst or; rw [c1, nI_ltI (by omega) (by omega)] at c27; omega)
          | (subst ow; subst or; rw [show (400 : Int32) = nI 400 from rfl, nI_ltI (by omega) (by omega)] at c34; omega))
    · refine r_iload_n C dX7_hat_19 rfl rfl ?_
      refine r_bipush (v := 9) C dX7_hat_20 (by decide) ?_
      refine r_icmp_gt (tgt := 43) C dX7_hat_22 (by decide) (fun c22 => ?_) (fun c22 => ?_)
      · exact j43 (fun wn rn o => by
          obtain ⟨o1, ow, or, o2, o3, o4, o5, o6⟩ := o
          first
            | exact c40 (by rw [nI_eq (by omega) (by omega)] at ow or; rw [ow, or, o6]; rfl)
            | (subst ow; subst or; exact o1 ((nI_eq (by omega) (by omega)).mp c11))
            | (subst ow; subst or; rw [c1, nI_ltI (by omega) (by omega)] at c16; omega)
            | (subst ow; subst or; rw [show (9 : Int32) = nI 9 from rfl, nI_ltI (by omega) (by omega)] at c22; omega)
            | (subst ow; subst or; rw [c1, nI_ltI (by omega) (by omega)] at c27; omega)
            | (subst ow; subst or; rw [show (400 : Int32) = nI 400 from rfl, nI_ltI (by omega) (by omega)] at c34; omega))
      · refine r_iload_n C dX7_hat_25 rfl rfl ?_
        refine r_iconst (v := 1) C dX7_hat_26 (by decide) ?_
        refine r_icmp_lt (tgt := 43) C dX7_hat_27 (by decide) (fun c27 => ?_) (fun c27 => ?_)
        · exact j43 (fun wn rn o => by
            obtain ⟨o1, ow, or, o2, o3, o4, o5, o6⟩ := o
            first
              | exact c40 (by rw [nI_eq (by omega) (by omega)] at ow or; rw [ow, or, o6]; rfl)
              | (subst ow; subst or; exact o1 ((nI_eq (by omega) (by omega)).mp c11))
              | (subst ow; subst or; rw [c1, nI_ltI (by omega) (by omega)] at c16; omega)
              | (subst ow; subst or; rw [show (9 : Int32) = nI 9 from rfl, nI_ltI (by omega) (by omega)] at c22; omega)
              | (subst ow; subst or; rw [c1, nI_ltI (by omega) (by omega)] at c27; omega)
              | (subst ow; subst or; rw [show (400 : Int32) = nI 400 from rfl, nI_ltI (by omega) (by omega)] at c34; omega))
        · refine r_iload_n C dX7_hat_30 rfl rfl ?_
          refine r_sipush (v := 400) C dX7_hat_31 (by decide) ?_
          refine r_icmp_gt (tgt := 43) C dX7_hat_34 (by decide) (fun c34 => ?_) (fun c34 => ?_)
          · exact j43 (fun wn rn o => by
              obtain ⟨o1, ow, or, o2, o3, o4, o5, o6⟩ := o
              first
                | exact c40 (by rw [nI_eq (by omega) (by omega)] at ow or; rw [ow, or, o6]; rfl)
                | (subst ow; subst or; exact o1 ((nI_eq (by omega) (by omega)).mp c11))
                | (subst ow; subst or; rw [c1, nI_ltI (by omega) (by omega)] at c16; omega)
                | (subst ow; subst or; rw [show (9 : Int32) = nI 9 from rfl, nI_ltI (by omega) (by omega)] at c22; omega)
                | (subst ow; subst or; rw [c1, nI_ltI (by omega) (by omega)] at c27; omega)
                | (subst ow; subst or; rw [show (400 : Int32) = nI 400 from rfl, nI_ltI (by omega) (by omega)] at c34; omega))
          · obtain ⟨wn, hw31, rfl⟩ := nI_of (x := w) (fun q => c16 (Int32.lt_of_lt_of_le q (by decide)))
            obtain ⟨rn, hr31, rfl⟩ := nI_of (x := r) (fun q => c27 (Int32.lt_of_lt_of_le q (by decide)))
            rw [c1, nI_ltI (by omega) (by omega)] at c16 c27
            rw [show (9 : Int32) = nI 9 from rfl, nI_ltI (by omega) (by omega)] at c22
            rw [show (400 : Int32) = nI 400 from rfl, nI_ltI (by omega) (by omega)] at c34
            refine r_iload_n C dX7_hat_37 rfl rfl ?_
            refine r_iload_n C dX7_hat_38 rfl rfl ?_
            refine r_irem C dX7_hat_39 (nI_ne0 (by omega) (by omega)) ?_
            rw [pk_rem (by omega) (by omega) (by omega)]
            refine r_if_eq (tgt := 45) C dX7_hat_40 (by decide) (fun c40 => ?_) (fun c40 => ?_)
            · exact j45 wn rn ⟨fun e => c11 (by rw [e]; rfl), rfl, rfl, by omega, by omega, by omega, by omega, (nI_eq (a := rn % wn) (b := 0) (by have := Nat.mod_lt rn (show wn > 0 by omega); omega) (by decide)).mp c40⟩
            · exact j43 (fun wn rn o => by
                obtain ⟨o1, ow, or, o2, o3, o4, o5, o6⟩ := o
                first
                  | exact c40 (by rw [nI_eq (by omega) (by omega)] at ow or; rw [ow, or, o6]; rfl)
                  | (subst ow; subst or; exact o1 ((nI_eq (by omega) (by omega)).mp c11))
                  | (subst ow; subst or; rw [c1, nI_ltI (by omega) (by omega)] at c16; omega)
                  | (subst ow; subst or; rw [show (9 : Int32) = nI 9 from rfl, nI_ltI (by omega) (by omega)] at c22; omega)
                  | (subst ow; subst or; rw [c1, nI_ltI (by omega) (by omega)] at c27; omega)
                  | (subst ow; subst or; rw [show (400 : Int32) = nI 400 from rfl, nI_ltI (by omega) (by omega)] at c34; omega))
end M6
