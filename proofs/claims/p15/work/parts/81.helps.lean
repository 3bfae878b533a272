/-! the law's helpers, over any contract of the class's method -/
theorem lkL_iae : Cond.classLink RL 13 iae ∈ ALLW := aw_at 351 (by decide +kernel) rfl
theorem lkL_nse : Cond.classLink RL 19 nse ∈ ALLW := aw_at 613 (by decide +kernel) rfl
theorem catL {x o : Nat} {xs : List Int32} : ∀ v ∈ Value.ref x :: (xs.map Value.int ++ [Value.ref o]), v.category = 1 := by
  intro v hv
  rcases List.mem_cons.mp hv with q | q
  · subst q; rfl
  · rcases List.mem_append.mp q with q | q
    · obtain ⟨z, -, rfl⟩ := List.mem_map.mp q
      rfl
    · rw [List.mem_singleton.mp q]; rfl
section LH
variable {G : Gx}
theorem h_pattern {wc wx : va_W} {x o d mc ms : Nat} {fs : List Value} {f : Nat → Int64} {px : Prop} {S : Type} {post : Int32 → S → Prop} {wo : S → va_W} (p0 p1 p2 : Int32) (hM : XI G yX6_pattern (.code yX6_pattern cX6_pattern 4 (some .int)) d mc ms [.ref x, .int p0, .int p1, .int p2] wc (px, iae, wx) post wo) (he : wc[0]? = some (x, .inr (6, fs))) : XI G yL_pattern (.codeWith yL_pattern cL_pattern 6 (some .int) [(0, 12, 15, 13)]) (d + 1) mc ms [.ref x, .int p0, .int p1, .int p2, .ref o] ([(o, .inl (G.2.2 2, 1, .inr (.inl f)))] ++ wc) (False, "", []) (S := Option (S × Int32)) (fun r u => match u with
    | none => px ∧ r = 1
    | some (s, v) => post v s ∧ r = 0) (fun u => match u with
    | none => [(o, .inl (G.2.2 2, 1, .inr (.inl f)))] ++ wx
    | some (s, v) => [(o, .inl (G.2.2 2, 1, .inr (.inl (vp_updL f 0 v.toInt64))))] ++ wo s) := by
  refine HI.intro (by decide) (Nat.le_of_ble_eq_true rfl) (catL (xs := [p0, p1, p2])) fun X C hE hT hR => ?_
  refine r_aload C dL_pattern_0 rfl ?_
  refine r_iconst (v := 0) C dL_pattern_2 (by decide) ?_
  refine r_aload_n C dL_pattern_3 rfl rfl ?_
  refine r_iload_n C dL_pattern_4 rfl rfl ?_
  refine r_iload_n C dL_pattern_5 rfl rfl ?_
  refine r_iload_n C dL_pattern_6 rfl rfl ?_
  refine r_callXi C hE hM kcL_X6_pattern dL_pattern_7 rfl (Nat.le_refl _) (by omega) (by omega) (Nat.le_of_ble_eq_true rfl) 0 he (ci := 6) rfl rfl ([] ++ tlx 1 wc) [0] (tl_nd rfl (fun _ h => absurd h List.not_mem_nil)) (tl_R (ws := [(o, .inl (G.2.2 2, 1, .inr (.inl f)))]) (wr := []) rfl rfl) (wr := [(o, .inl (G.2.2 2, 1, .inr (.inl f)))]) (tl_C rfl) rfl (fun i hi hc => absurd (tl_m hc) (by rw [List.mem_singleton.mp hi]; decide)) rfl (fun hpx => ?_) (fun v u hu => ?_)
  · refine r_catch C hE hT (Or.inl rfl) lkL_iae (by decide) (by decide) (by decide) (fun q9 => ?_)
    refine r_astore C dL_pattern_15 (by decide) ?_
    refine r_iconst (v := 1) C dL_pattern_17 (by decide) ?_
    exact hR _ _ _ _ _ none (by omega) (by omega) rfl ⟨hpx, rfl⟩ dL_pattern_18
  · refine r_i2l C dL_pattern_10 ?_
    refine r_last (ws' := [(o, .inl (G.2.2 2, 1, .inr (.inl (vp_updL f 0 v.toInt64))))] ++ wo u) C 0 rfl (vp_in_nI (n := 0) (by decide) (by decide)) rfl dL_pattern_11 ?_
    refine r_goto (tgt := 19) C dL_pattern_12 (by decide) ?_
    refine r_iconst (v := 0) C dL_pattern_19 (by decide) ?_
    exact hR _ _ _ _ _ (some (u, v)) (by omega) (by omega) rfl ⟨hu, rfl⟩ dL_pattern_20
theorem h_fault {wc wx : va_W} {x o d mc ms : Nat} {fs : List Value} {f : Nat → Int64} {px : Prop} {S : Type} {post : Int32 → S → Prop} {wo : S → va_W} (p0 : Int32) (hM : XI G yX6_fault (.code yX6_fault cX6_fault 2 (some .int)) d mc ms [.ref x, .int p0] wc (px, nse, wx) post wo) (he : wc[0]? = some (x, .inr (6, fs))) : XI G yL_fault (.codeWith yL_fault cL_fault 4 (some .int) [(0, 9, 12, 19)]) (d + 1) mc ms [.ref x, .int p0, .ref o] ([(o, .inl (G.2.2 2, 1, .inr (.inl f)))] ++ wc) (False, "", []) (S := Option (S × Int32)) (fun r u => match u with
    | none => px ∧ r = 1
    | some (s, v) => post v s ∧ r = 0) (fun u => match u with
    | none => [(o, .inl (G.2.2 2, 1, .inr (.inl f)))] ++ wx
    | some (s, v) => [(o, .inl (G.2.2 2, 1, .inr (.inl (vp_updL f 0 v.toInt64))))] ++ wo s) := by
  refine HI.intro (by decide) (Nat.le_of_ble_eq_true rfl) (catL (xs := [p0])) fun X C hE hT hR => ?_
  refine r_aload_n C dL_fault_0 rfl rfl ?_
  refine r_iconst (v := 0) C dL_fault_1 (by decide) ?_
  refine r_aload_n C dL_fault_2 rfl rfl ?_
  refine r_iload_n C dL_fault_3 rfl rfl ?_
  refine r_callXi C hE hM kcL_X6_fault dL_fault_4 rfl (Nat.le_refl _) (by omega) (by omega) (Nat.le_of_ble_eq_true rfl) 0 he (ci := 6) rfl rfl ([] ++ tlx 1 wc) [0] (tl_nd rfl (fun _ h => absurd h List.not_mem_nil)) (tl_R (ws := [(o, .inl (G.2.2 2, 1, .inr (.inl f)))]) (wr := []) rfl rfl) (wr := [(o, .inl (G.2.2 2, 1, .inr (.inl f)))]) (tl_C rfl) rfl (fun i hi hc => absurd (tl_m hc) (by rw [List.mem_singleton.mp hi]; decide)) rfl (fun hpx => ?_) (fun v u hu => ?_)
  · refine r_catch C hE hT (Or.inr rfl) lkL_nse (by decide) (by decide) (by decide) (fun q9 => ?_)
    refine r_astore_n C dL_fault_12 rfl (by decide) ?_
    refine r_iconst (v := 1) C dL_fault_13 (by decide) ?_
    exact hR _ _ _ _ _ none (by omega) (by omega) rfl ⟨hpx, rfl⟩ dL_fault_14
  · refine r_i2l C dL_fault_7 ?_
    refine r_last (ws' := [(o, .inl (G.2.2 2, 1, .inr (.inl (vp_updL f 0 v.toInt64))))] ++ wo u) C 0 rfl (vp_in_nI (n := 0) (by decide) (by decide)) rfl dL_fault_8 ?_
    refine r_goto (tgt := 15) C dL_fault_9 (by decide) ?_
    refine r_iconst (v := 0) C dL_fault_15 (by decide) ?_
    exact hR _ _ _ _ _ (some (u, v)) (by omega) (by omega) rfl ⟨hu, rfl⟩ dL_fault_16
theorem h_crossing {wc wx : va_W} {x o d mc ms : Nat} {fs : List Value} {f : Nat → Int64} {px : Prop} {S : Type} {post : Int32 → S → Prop} {wo : S → va_W} (p0 p1 : Int32) (hM : XI G yX6_crossing (.code yX6_crossing cX6_crossing 4 (some .int)) d mc ms [.ref x, .int p0, .int p1] wc (px, nse, wx) post wo) (he : wc[0]? = some (x, .inr (6, fs))) : XI G yL_crossing (.codeWith yL_crossing cL_crossing 5 (some .int) [(0, 10, 13, 19)]) (d + 1) mc ms [.ref x, .int p0, .int p1, .ref o] ([(o, .inl (G.2.2 2, 1, .inr (.inl f)))] ++ wc) (False, "", []) (S := Option (S × Int32)) (fun r u => match u with
    | none => px ∧ r = 1
    | some (s, v) => post v s ∧ r = 0) (fun u => match u with
    | none => [(o, .inl (G.2.2 2, 1, .inr (.inl f)))] ++ wx
    | some (s, v) => [(o, .inl (G.2.2 2, 1, .inr (.inl (vp_updL f 0 v.toInt64))))] ++ wo s) := by
  refine HI.intro (by decide) (Nat.le_of_ble_eq_true rfl) (catL (xs := [p0, p1])) fun X C hE hT hR => ?_
  refine r_aload_n C dL_crossing_0 rfl rfl ?_
  refine r_iconst (v := 0) C dL_crossing_1 (by decide) ?_
  refine r_aload_n C dL_crossing_2 rfl rfl ?_
  refine r_iload_n C dL_crossing_3 rfl rfl ?_
  refine r_iload_n C dL_crossing_4 rfl rfl ?_
  refine r_callXi C hE hM kcL_X6_crossing dL_crossing_5 rfl (Nat.le_refl _) (by omega) (by omega) (Nat.le_of_ble_eq_true rfl) 0 he (ci := 6) rfl rfl ([] ++ tlx 1 wc) [0] (tl_nd rfl (fun _ h => absurd h List.not_mem_nil)) (tl_R (ws := [(o, .inl (G.2.2 2, 1, .inr (.inl f)))]) (wr := []) rfl rfl) (wr := [(o, .inl (G.2.2 2, 1, .inr (.inl f)))]) (tl_C rfl) rfl (fun i hi hc => absurd (tl_m hc) (by rw [List.mem_singleton.mp hi]; decide)) rfl (fun hpx => ?_) (fun v u hu => ?_)
  · refine r_catch C hE hT (Or.inr rfl) lkL_nse (by decide) (by decide) (by decide) (fun q9 => ?_)
    refine r_astore C dL_crossing_13 (by decide) ?_
    refine r_iconst (v := 1) C dL_crossing_15 (by decide) ?_
    exact hR _ _ _ _ _ none (by omega) (by omega) rfl ⟨hpx, rfl⟩ dL_crossing_16
  · refine r_i2l C dL_crossing_8 ?_
    refine r_last (ws' := [(o, .inl (G.2.2 2, 1, .inr (.inl (vp_updL f 0 v.toInt64))))] ++ wo u) C 0 rfl (vp_in_nI (n := 0) (by decide) (by decide)) rfl dL_crossing_9 ?_
    refine r_goto (tgt := 17) C dL_crossing_10 (by decide) ?_
    refine r_iconst (v := 0) C dL_crossing_17 (by decide) ?_
    exact hR _ _ _ _ _ (some (u, v)) (by omega) (by omega) rfl ⟨hu, rfl⟩ dL_crossing_18
theorem h_about {wc wx : va_W} {x o d mc ms : Nat} {fs : List Value} {f : Nat → Int64} {px : Prop} {S : Type} {post : Int32 → S → Prop} {wo : S → va_W} (p0 p1 : Int32) (hM : XI G yX6_about (.code yX6_about cX6_about 4 (some .int)) d mc ms [.ref x, .int p0, .int p1] wc (px, nse, wx) post wo) (he : wc[0]? = some (x, .inr (6, fs))) : XI G yL_about (.codeWith yL_about cL_about 5 (some .int) [(0, 10, 13, 19)]) (d + 1) mc ms [.ref x, .int p0, .int p1, .ref o] ([(o, .inl (G.2.2 2, 1, .inr (.inl f)))] ++ wc) (False, "", []) (S := Option (S × Int32)) (fun r u => match u with
    | none => px ∧ r = 1
    | some (s, v) => post v s ∧ r = 0) (fun u => match u with
    | none => [(o, .inl (G.2.2 2, 1, .inr (.inl f)))] ++ wx
    | some (s, v) => [(o, .inl (G.2.2 2, 1, .inr (.inl (vp_updL f 0 v.toInt64))))] ++ wo s) := by
  refine HI.intro (by decide) (Nat.le_of_ble_eq_true rfl) (catL (xs := [p0, p1])) fun X C hE hT hR => ?_
  refine r_aload_n C dL_about_0 rfl rfl ?_
  refine r_iconst (v := 0) C dL_about_1 (by decide) ?_
  refine r_aload_n C dL_about_2 rfl rfl ?_
  refine r_iload_n C dL_about_3 rfl rfl ?_
  refine r_iload_n C dL_about_4 rfl rfl ?_
  refine r_callXi C hE hM kcL_X6_about dL_about_5 rfl (Nat.le_refl _) (by omega) (by omega) (Nat.le_of_ble_eq_true rfl) 0 he (ci := 6) rfl rfl ([] ++ tlx 1 wc) [0] (tl_nd rfl (fun _ h => absurd h List.not_mem_nil)) (tl_R (ws := [(o, .inl (G.2.2 2, 1, .inr (.inl f)))]) (wr := []) rfl rfl) (wr := [(o, .inl (G.2.2 2, 1, .inr (.inl f)))]) (tl_C rfl) rfl (fun i hi hc => absurd (tl_m hc) (by rw [List.mem_singleton.mp hi]; decide)) rfl (fun hpx => ?_) (fun v u hu => ?_)
  · refine r_catch C hE hT (Or.inr rfl) lkL_nse (by decide) (by decide) (by decide) (fun q9 => ?_)
    refine r_astore C dL_about_13 (by decide) ?_
    refine r_iconst (v := 1) C dL_about_15 (by decide) ?_
    exact hR _ _ _ _ _ none (by omega) (by omega) rfl ⟨hpx, rfl⟩ dL_about_16
  · refine r_i2l C dL_about_8 ?_
    refine r_last (ws' := [(o, .inl (G.2.2 2, 1, .inr (.inl (vp_updL f 0 v.toInt64))))] ++ wo u) C 0 rfl (vp_in_nI (n := 0) (by decide) (by decide)) rfl dL_about_9 ?_
    refine r_goto (tgt := 17) C dL_about_10 (by decide) ?_
    refine r_iconst (v := 0) C dL_about_17 (by decide) ?_
    exact hR _ _ _ _ _ (some (u, v)) (by omega) (by omega) rfl ⟨hu, rfl⟩ dL_about_18
theorem h_factor {wc wx : va_W} {x o d mc ms : Nat} {fs : List Value} {f : Nat → Int64} {px : Prop} {S : Type} {post : Int32 → S → Prop} {wo : S → va_W} (p0 p1 : Int32) (hM : XI G yX6_factor (.code yX6_factor cX6_factor 4 (some .int)) d mc ms [.ref x, .int p0, .int p1] wc (px, nse, wx) post wo) (he : wc[0]? = some (x, .inr (6, fs))) : XI G yL_factor (.codeWith yL_factor cL_factor 5 (some .int) [(0, 10, 13, 19)]) (d + 1) mc ms [.ref x, .int p0, .int p1, .ref o] ([(o, .inl (G.2.2 2, 1, .inr (.inl f)))] ++ wc) (False, "", []) (S := Option (S × Int32)) (fun r u => match u with
    | none => px ∧ r = 1
    | some (s, v) => post v s ∧ r = 0) (fun u => match u with
    | none => [(o, .inl (G.2.2 2, 1, .inr (.inl f)))] ++ wx
    | some (s, v) => [(o, .inl (G.2.2 2, 1, .inr (.inl (vp_updL f 0 v.toInt64))))] ++ wo s) := by
  refine HI.intro (by decide) (Nat.le_of_ble_eq_true rfl) (catL (xs := [p0, p1])) fun X C hE hT hR => ?_
  refine r_aload_n C dL_factor_0 rfl rfl ?_
  refine r_iconst (v := 0) C dL_factor_1 (by decide) ?_
  refine r_aload_n C dL_factor_2 rfl rfl ?_
  refine r_iload_n C dL_factor_3 rfl rfl ?_
  refine r_iload_n C dL_factor_4 rfl rfl ?_
  refine r_callXi C hE hM kcL_X6_factor dL_factor_5 rfl (Nat.le_refl _) (by omega) (by omega) (Nat.le_of_ble_eq_true rfl) 0 he (ci := 6) rfl rfl ([] ++ tlx 1 wc) [0] (tl_nd rfl (fun _ h => absurd h List.not_mem_nil)) (tl_R (ws := [(o, .inl (G.2.2 2, 1, .inr (.inl f)))]) (wr := []) rfl rfl) (wr := [(o, .inl (G.2.2 2, 1, .inr (.inl f)))]) (tl_C rfl) rfl (fun i hi hc => absurd (tl_m hc) (by rw [List.mem_singleton.mp hi]; decide)) rfl (fun hpx => ?_) (fun v u hu => ?_)
  · refine r_catch C hE hT (Or.inr rfl) lkL_nse (by decide) (by decide) (by decide) (fun q9 => ?_)
    refine r_astore C dL_factor_13 (by decide) ?_
    refine r_iconst (v := 1) C dL_factor_15 (by decide) ?_
    exact hR _ _ _ _ _ none (by omega) (by omega) rfl ⟨hpx, rfl⟩ dL_factor_16
  · refine r_i2l C dL_factor_8 ?_
    refine r_last (ws' := [(o, .inl (G.2.2 2, 1, .inr (.inl (vp_updL f 0 v.toInt64))))] ++ wo u) C 0 rfl (vp_in_nI (n := 0) (by decide) (by decide)) rfl dL_factor_9 ?_
    refine r_goto (tgt := 17) C dL_factor_10 (by decide) ?_
    refine r_iconst (v := 0) C dL_factor_17 (by decide) ?_
    exact hR _ _ _ _ _ (some (u, v)) (by omega) (by omega) rfl ⟨hu, rfl⟩ dL_factor_18
theorem h_alike {wc wx : va_W} {x o d mc ms : Nat} {fs : List Value} {f : Nat → Int64} {px : Prop} {S : Type} {post : Int32 → S → Prop} {wo : S → va_W} (p0 p1 : Int32) (hM : XI G yX6_alike (.code yX6_alike cX6_alike 5 (some .boolean)) d mc ms [.ref x, .int p0, .int p1] wc (px, nse, wx) post wo) (he : wc[0]? = some (x, .inr (6, fs))) : XI G yL_alike (.codeWith yL_alike cL_alike 5 (some .int) [(0, 17, 20, 19)]) (d + 1) mc ms [.ref x, .int p0, .int p1, .ref o] ([(o, .inl (G.2.2 2, 1, .inr (.inl f)))] ++ wc) (False, "", []) (S := Option (S × Int32)) (fun r u => match u with
    | none => px ∧ r = 1
    | some (s, v) => post v s ∧ r = 0) (fun u => match u with
    | none => [(o, .inl (G.2.2 2, 1, .inr (.inl f)))] ++ wx
    | some (s, v) => [(o, .inl (G.2.2 2, 1, .inr (.inl (vp_updL f 0 (if v = 0 then 0 else 1)))))] ++ wo s) := by
  refine HI.intro (by decide) (Nat.le_of_ble_eq_true rfl) (catL (xs := [p0, p1])) fun X C hE hT hR => ?_
  refine r_aload_n C dL_alike_0 rfl rfl ?_
  refine r_iconst (v := 0) C dL_alike_1 (by decide) ?_
  refine r_aload_n C dL_alike_2 rfl rfl ?_
  refine r_iload_n C dL_alike_3 rfl rfl ?_
  refine r_iload_n C dL_alike_4 rfl rfl ?_
  refine r_callXi C hE hM kcL_X6_alike dL_alike_5 rfl (Nat.le_refl _) (by omega) (by omega) (Nat.le_of_ble_eq_true rfl) 0 he (ci := 6) rfl rfl ([] ++ tlx 1 wc) [0] (tl_nd rfl (fun _ h => absurd h List.not_mem_nil)) (tl_R (ws := [(o, .inl (G.2.2 2, 1, .inr (.inl f)))]) (wr := []) rfl rfl) (wr := [(o, .inl (G.2.2 2, 1, .inr (.inl f)))]) (tl_C rfl) rfl (fun i hi hc => absurd (tl_m hc) (by rw [List.mem_singleton.mp hi]; decide)) rfl (fun hpx => ?_) (fun v u hu => ?_)
  · refine r_catch C hE hT (Or.inr rfl) lkL_nse (by decide) (by decide) (by decide) (fun q9 => ?_)
    refine r_astore C dL_alike_20 (by decide) ?_
    refine r_iconst (v := 1) C dL_alike_22 (by decide) ?_
    exact hR _ _ _ _ _ none (by omega) (by omega) rfl ⟨hpx, rfl⟩ dL_alike_23
  · have j : ∀ z : Int64, z = (if v = 0 then 0 else 1) → V X (0 + mc) (0 + ms) 16 (ent [.ref x, .int p0, .int p1, .ref o] 5) [.long z, .int 0, .ref o] ([(o, .inl (G.2.2 2, 1, .inr (.inl f)))] ++ wo u) := by
      intro z hz
      subst hz
      refine r_last (ws' := [(o, .inl (G.2.2 2, 1, .inr (.inl (vp_updL f 0 (if v = 0 then 0 else 1)))))] ++ wo u) C 0 rfl (vp_in_nI (n := 0) (by decide) (by decide)) rfl dL_alike_16 ?_
      refine r_goto (tgt := 24) C dL_alike_17 (by decide) ?_
      refine r_iconst (v := 0) C dL_alike_24 (by decide) ?_
      exact hR _ _ _ _ _ (some (u, v)) (by omega) (by omega) rfl ⟨hu, rfl⟩ dL_alike_25
    refine r_if_eq (tgt := 15) C dL_alike_8 (by decide) (fun c8 => ?_) (fun c8 => ?_)
    · refine r_lconst (v := 0) C dL_alike_15 (by decide) ?_
      exact j 0 (if_pos c8).symm
    · refine r_lconst (v := 1) C dL_alike_11 (by decide) ?_
      refine r_goto (tgt := 16) C dL_alike_12 (by decide) ?_
      exact j 1 (if_neg c8).symm
theorem h_untwined {wc wx : va_W} {x o d mc ms : Nat} {fs : List Value} {f : Nat → Int64} {px : Prop} {S : Type} {post : Int32 → S → Prop} {wo : S → va_W} (p0 : Int32) (hM : XI G yX6_untwined (.code yX6_untwined cX6_untwined 2 (some .int)) d mc ms [.ref x, .int p0] wc (px, nse, wx) post wo) (he : wc[0]? = some (x, .inr (6, fs))) : XI G yL_untwined (.codeWith yL_untwined cL_untwined 4 (some .int) [(0, 9, 12, 19)]) (d + 1) mc ms [.ref x, .int p0, .ref o] ([(o, .inl (G.2.2 2, 1, .inr (.inl f)))] ++ wc) (False, "", []) (S := Option (S × Int32)) (fun r u => match u with
    | none => px ∧ r = 1
    | some (s, v) => post v s ∧ r = 0) (fun u => match u with
    | none => [(o, .inl (G.2.2 2, 1, .inr (.inl f)))] ++ wx
    | some (s, v) => [(o, .inl (G.2.2 2, 1, .inr (.inl (vp_updL f 0 v.toInt64))))] ++ wo s) := by
  refine HI.intro (by decide) (Nat.le_of_ble_eq_true rfl) (catL (xs := [p0])) fun X C hE hT hR => ?_
  refine r_aload_n C dL_untwined_0 rfl rfl ?_
  refine r_iconst (v := 0) C dL_untwined_1 (by decide) ?_
  refine r_aload_n C dL_untwined_2 rfl rfl ?_
  refine r_iload_n C dL_untwined_3 rfl rfl ?_
  refine r_callXi C hE hM kcL_X6_untwined dL_untwined_4 rfl (Nat.le_refl _) (by omega) (by omega) (Nat.le_of_ble_eq_true rfl) 0 he (ci := 6) rfl rfl ([] ++ tlx 1 wc) [0] (tl_nd rfl (fun _ h => absurd h List.not_mem_nil)) (tl_R (ws := [(o, .inl (G.2.2 2, 1, .inr (.inl f)))]) (wr := []) rfl rfl) (wr := [(o, .inl (G.2.2 2, 1, .inr (.inl f)))]) (tl_C rfl) rfl (fun i hi hc => absurd (tl_m hc) (by rw [List.mem_singleton.mp hi]; decide)) rfl (fun hpx => ?_) (fun v u hu => ?_)
  · refine r_catch C hE hT (Or.inr rfl) lkL_nse (by decide) (by decide) (by decide) (fun q9 => ?_)
    refine r_astore_n C dL_untwined_12 rfl (by decide) ?_
    refine r_iconst (v := 1) C dL_untwined_13 (by decide) ?_
    exact hR _ _ _ _ _ none (by omega) (by omega) rfl ⟨hpx, rfl⟩ dL_untwined_14
  · refine r_i2l C dL_untwined_7 ?_
    refine r_last (ws' := [(o, .inl (G.2.2 2, 1, .inr (.inl (vp_updL f 0 v.toInt64))))] ++ wo u) C 0 rfl (vp_in_nI (n := 0) (by decide) (by decide)) rfl dL_untwined_8 ?_
    refine r_goto (tgt := 15) C dL_untwined_9 (by decide) ?_
    refine r_iconst (v := 0) C dL_untwined_15 (by decide) ?_
    exact hR _ _ _ _ _ (some (u, v)) (by omega) (by omega) rfl ⟨hu, rfl⟩ dL_untwined_16
theorem h_goes {wc wx : va_W} {x o d mc ms : Nat} {fs : List Value} {f : Nat → Int64} {px : Prop} {S : Type} {post : Int32 → S → Prop} {wo : S → va_W} (p0 p1 : Int32) (hM : XI G yX6_goes (.code yX6_goes cX6_goes 4 (some .int)) d mc ms [.ref x, .int p0, .int p1] wc (px, nse, wx) post wo) (he : wc[0]? = some (x, .inr (6, fs))) : XI G yL_goes (.codeWith yL_goes cL_goes 5 (some .int) [(0, 10, 13, 19)]) (d + 1) mc ms [.ref x, .int p0, .int p1, .ref o] ([(o, .inl (G.2.2 2, 1, .inr (.inl f)))] ++ wc) (False, "", []) (S := Option (S × Int32)) (fun r u => match u with
    | none => px ∧ r = 1
    | some (s, v) => post v s ∧ r = 0) (fun u => match u with
    | none => [(o, .inl (G.2.2 2, 1, .inr (.inl f)))] ++ wx
    | some (s, v) => [(o, .inl (G.2.2 2, 1, .inr (.inl (vp_updL f 0 v.toInt64))))] ++ wo s) := by
  refine HI.intro (by decide) (Nat.le_of_ble_eq_true rfl) (catL (xs := [p0, p1])) fun X C hE hT hR => ?_
  refine r_aload_n C dL_goes_0 rfl rfl ?_
  refine r_iconst (v := 0) C dL_goes_1 (by decide) ?_
  refine r_aload_n C dL_goes_2 rfl rfl ?_
  refine r_iload_n C dL_goes_3 rfl rfl ?_
  refine r_iload_n C dL_goes_4 rfl rfl ?_
  refine r_callXi C hE hM kcL_X6_goes dL_goes_5 rfl (Nat.le_refl _) (by omega) (by omega) (Nat.le_of_ble_eq_true rfl) 0 he (ci := 6) rfl rfl ([] ++ tlx 1 wc) [0] (tl_nd rfl (fun _ h => absurd h List.not_mem_nil)) (tl_R (ws := [(o, .inl (G.2.2 2, 1, .inr (.inl f)))]) (wr := []) rfl rfl) (wr := [(o, .inl (G.2.2 2, 1, .inr (.inl f)))]) (tl_C rfl) rfl (fun i hi hc => absurd (tl_m hc) (by rw [List.mem_singleton.mp hi]; decide)) rfl (fun hpx => ?_) (fun v u hu => ?_)
  · refine r_catch C hE hT (Or.inr rfl) lkL_nse (by decide) (by decide) (by decide) (fun q9 => ?_)
    refine r_astore C dL_goes_13 (by decide) ?_
    refine r_iconst (v := 1) C dL_goes_15 (by decide) ?_
    exact hR _ _ _ _ _ none (by omega) (by omega) rfl ⟨hpx, rfl⟩ dL_goes_16
  · refine r_i2l C dL_goes_8 ?_
    refine r_last (ws' := [(o, .inl (G.2.2 2, 1, .inr (.inl (vp_updL f 0 v.toInt64))))] ++ wo u) C 0 rfl (vp_in_nI (n := 0) (by decide) (by decide)) rfl dL_goes_9 ?_
    refine r_goto (tgt := 17) C dL_goes_10 (by decide) ?_
    refine r_iconst (v := 0) C dL_goes_17 (by decide) ?_
    exact hR _ _ _ _ _ (some (u, v)) (by omega) (by omega) rfl ⟨hu, rfl⟩ dL_goes_18
theorem h_twine {wc wx : va_W} {x o d mc ms : Nat} {fs : List Value} {f : Nat → Int64} {px : Prop} {S : Type} {post : Int32 → S → Prop} {wo : S → va_W} (p0 p1 p2 : Int32) (hM : XI G yX6_twine (.code yX6_twine cX6_twine 5 (some .int)) d mc ms [.ref x, .int p0, .int p1, .int p2] wc (px, nse, wx) post wo) (he : wc[0]? = some (x, .inr (6, fs))) : XI G yL_twine (.codeWith yL_twine cL_twine 6 (some .int) [(0, 12, 15, 19)]) (d + 1) mc ms [.ref x, .int p0, .int p1, .int p2, .ref o] ([(o, .inl (G.2.2 2, 1, .inr (.inl f)))] ++ wc) (False, "", []) (S := Option (S × Int32)) (fun r u => match u with
    | none => px ∧ r = 1
    | some (s, v) => post v s ∧ r = 0) (fun u => match u with
    | none => [(o, .inl (G.2.2 2, 1, .inr (.inl f)))] ++ wx
    | some (s, v) => [(o, .inl (G.2.2 2, 1, .inr (.inl (vp_updL f 0 v.toInt64))))] ++ wo s) := by
  refine HI.intro (by decide) (Nat.le_of_ble_eq_true rfl) (catL (xs := [p0, p1, p2])) fun X C hE hT hR => ?_
  refine r_aload C dL_twine_0 rfl ?_
  refine r_iconst (v := 0) C dL_twine_2 (by decide) ?_
  refine r_aload_n C dL_twine_3 rfl rfl ?_
  refine r_iload_n C dL_twine_4 rfl rfl ?_
  refine r_iload_n C dL_twine_5 rfl rfl ?_
  refine r_iload_n C dL_twine_6 rfl rfl ?_
  refine r_callXi C hE hM kcL_X6_twine dL_twine_7 rfl (Nat.le_refl _) (by omega) (by omega) (Nat.le_of_ble_eq_true rfl) 0 he (ci := 6) rfl rfl ([] ++ tlx 1 wc) [0] (tl_nd rfl (fun _ h => absurd h List.not_mem_nil)) (tl_R (ws := [(o, .inl (G.2.2 2, 1, .inr (.inl f)))]) (wr := []) rfl rfl) (wr := [(o, .inl (G.2.2 2, 1, .inr (.inl f)))]) (tl_C rfl) rfl (fun i hi hc => absurd (tl_m hc) (by rw [List.mem_singleton.mp hi]; decide)) rfl (fun hpx => ?_) (fun v u hu => ?_)
  · refine r_catch C hE hT (Or.inr rfl) lkL_nse (by decide) (by decide) (by decide) (fun q9 => ?_)
    refine r_astore C dL_twine_15 (by decide) ?_
    refine r_iconst (v := 1) C dL_twine_17 (by decide) ?_
    exact hR _ _ _ _ _ none (by omega) (by omega) rfl ⟨hpx, rfl⟩ dL_twine_18
  · refine r_i2l C dL_twine_10 ?_
    refine r_last (ws' := [(o, .inl (G.2.2 2, 1, .inr (.inl (vp_updL f 0 v.toInt64))))] ++ wo u) C 0 rfl (vp_in_nI (n := 0) (by decide) (by decide)) rfl dL_twine_11 ?_
    refine r_goto (tgt := 19) C dL_twine_12 (by decide) ?_
    refine r_iconst (v := 0) C dL_twine_19 (by decide) ?_
    exact hR _ _ _ _ _ (some (u, v)) (by omega) (by omega) rfl ⟨hu, rfl⟩ dL_twine_20
theorem h_use {wc wx : va_W} {x o d mc ms : Nat} {fs : List Value} {f : Nat → Int64} {px : Prop} {S : Type} {post : Int32 → S → Prop} {wo : S → va_W} (p0 p1 : Int32) (hM : XI G yX6_use (.code yX6_use cX6_use 4 (some .int)) d mc ms [.ref x, .int p0, .int p1] wc (px, nse, wx) post wo) (he : wc[0]? = some (x, .inr (6, fs))) : XI G yL_use (.codeWith yL_use cL_use 5 (some .int) [(0, 10, 13, 19)]) (d + 1) mc ms [.ref x, .int p0, .int p1, .ref o] ([(o, .inl (G.2.2 2, 1, .inr (.inl f)))] ++ wc) (False, "", []) (S := Option (S × Int32)) (fun r u => match u with
    | none => px ∧ r = 1
    | some (s, v) => post v s ∧ r = 0) (fun u => match u with
    | none => [(o, .inl (G.2.2 2, 1, .inr (.inl f)))] ++ wx
    | some (s, v) => [(o, .inl (G.2.2 2, 1, .inr (.inl (vp_updL f 0 v.toInt64))))] ++ wo s) := by
  refine HI.intro (by decide) (Nat.le_of_ble_eq_true rfl) (catL (xs := [p0, p1])) fun X C hE hT hR => ?_
  refine r_aload_n C dL_use_0 rfl rfl ?_
  refine r_iconst (v := 0) C dL_use_1 (by decide) ?_
  refine r_aload_n C dL_use_2 rfl rfl ?_
  refine r_iload_n C dL_use_3 rfl rfl ?_
  refine r_iload_n C dL_use_4 rfl rfl ?_
  refine r_callXi C hE hM kcL_X6_use dL_use_5 rfl (Nat.le_refl _) (by omega) (by omega) (Nat.le_of_ble_eq_true rfl) 0 he (ci := 6) rfl rfl ([] ++ tlx 1 wc) [0] (tl_nd rfl (fun _ h => absurd h List.not_mem_nil)) (tl_R (ws := [(o, .inl (G.2.2 2, 1, .inr (.inl f)))]) (wr := []) rfl rfl) (wr := [(o, .inl (G.2.2 2, 1, .inr (.inl f)))]) (tl_C rfl) rfl (fun i hi hc => absurd (tl_m hc) (by rw [List.mem_singleton.mp hi]; decide)) rfl (fun hpx => ?_) (fun v u hu => ?_)
  · refine r_catch C hE hT (Or.inr rfl) lkL_nse (by decide) (by decide) (by decide) (fun q9 => ?_)
    refine r_astore C dL_use_13 (by decide) ?_
    refine r_iconst (v := 1) C dL_use_15 (by decide) ?_
    exact hR _ _ _ _ _ none (by omega) (by omega) rfl ⟨hpx, rfl⟩ dL_use_16
  · refine r_i2l C dL_use_8 ?_
    refine r_last (ws' := [(o, .inl (G.2.2 2, 1, .inr (.inl (vp_updL f 0 v.toInt64))))] ++ wo u) C 0 rfl (vp_in_nI (n := 0) (by decide) (by decide)) rfl dL_use_9 ?_
    refine r_goto (tgt := 17) C dL_use_10 (by decide) ?_
    refine r_iconst (v := 0) C dL_use_17 (by decide) ?_
    exact hR _ _ _ _ _ (some (u, v)) (by omega) (by omega) rfl ⟨hu, rfl⟩ dL_use_18
theorem h_left {wc wx : va_W} {x o d mc ms : Nat} {fs : List Value} {f : Nat → Int64} {px : Prop} {S : Type} {post : Int32 → S → Prop} {wo : S → va_W} (p0 : Int32) (hM : XI G yX6_left (.code yX6_left cX6_left 2 (some .int)) d mc ms [.ref x, .int p0] wc (px, nse, wx) post wo) (he : wc[0]? = some (x, .inr (6, fs))) : XI G yL_left (.codeWith yL_left cL_left 4 (some .int) [(0, 9, 12, 19)]) (d + 1) mc ms [.ref x, .int p0, .ref o] ([(o, .inl (G.2.2 2, 1, .inr (.inl f)))] ++ wc) (False, "", []) (S := Option (S × Int32)) (fun r u => match u with
    | none => px ∧ r = 1
    | some (s, v) => post v s ∧ r = 0) (fun u => match u with
    | none => [(o, .inl (G.2.2 2, 1, .inr (.inl f)))] ++ wx
    | some (s, v) => [(o, .inl (G.2.2 2, 1, .inr (.inl (vp_updL f 0 v.toInt64))))] ++ wo s) := by
  refine HI.intro (by decide) (Nat.le_of_ble_eq_true rfl) (catL (xs := [p0])) fun X C hE hT hR => ?_
  refine r_aload_n C dL_left_0 rfl rfl ?_
  refine r_iconst (v := 0) C dL_left_1 (by decide) ?_
  refine r_aload_n C dL_left_2 rfl rfl ?_
  refine r_iload_n C dL_left_3 rfl rfl ?_
  refine r_callXi C hE hM kcL_X6_left dL_left_4 rfl (Nat.le_refl _) (by omega) (by omega) (Nat.le_of_ble_eq_true rfl) 0 he (ci := 6) rfl rfl ([] ++ tlx 1 wc) [0] (tl_nd rfl (fun _ h => absurd h List.not_mem_nil)) (tl_R (ws := [(o, .inl (G.2.2 2, 1, .inr (.inl f)))]) (wr := []) rfl rfl) (wr := [(o, .inl (G.2.2 2, 1, .inr (.inl f)))]) (tl_C rfl) rfl (fun i hi hc => absurd (tl_m hc) (by rw [List.mem_singleton.mp hi]; decide)) rfl (fun hpx => ?_) (fun v u hu => ?_)
  · refine r_catch C hE hT (Or.inr rfl) lkL_nse (by decide) (by decide) (by decide) (fun q9 => ?_)
    refine r_astore_n C dL_left_12 rfl (by decide) ?_
    refine r_iconst (v := 1) C dL_left_13 (by decide) ?_
    exact hR _ _ _ _ _ none (by omega) (by omega) rfl ⟨hpx, rfl⟩ dL_left_14
  · refine r_i2l C dL_left_7 ?_
    refine r_last (ws' := [(o, .inl (G.2.2 2, 1, .inr (.inl (vp_updL f 0 v.toInt64))))] ++ wo u) C 0 rfl (vp_in_nI (n := 0) (by decide) (by decide)) rfl dL_left_8 ?_
    refine r_goto (tgt := 15) C dL_left_9 (by decide) ?_
    refine r_iconst (v := 0) C dL_left_15 (by decide) ?_
    exact hR _ _ _ _ _ (some (u, v)) (by omega) (by omega) rfl ⟨hu, rfl⟩ dL_left_16
theorem h_scored {wc wx : va_W} {x o d mc ms : Nat} {fs : List Value} {f : Nat → Int64} {px : Prop} {S : Type} {post : Int32 → S → Prop} {wo : S → va_W} (p0 p1 : Int32) (hM : XI G yX6_scored (.code yX6_scored cX6_scored 4 (some .int)) d mc ms [.ref x, .int p0, .int p1] wc (px, nse, wx) post wo) (he : wc[0]? = some (x, .inr (6, fs))) : XI G yL_scored (.codeWith yL_scored cL_scored 5 (some .int) [(0, 10, 13, 19)]) (d + 1) mc ms [.ref x, .int p0, .int p1, .ref o] ([(o, .inl (G.2.2 2, 1, .inr (.inl f)))] ++ wc) (False, "", []) (S := Option (S × Int32)) (fun r u => match u with
    | none => px ∧ r = 1
    | some (s, v) => post v s ∧ r = 0) (fun u => match u with
    | none => [(o, .inl (G.2.2 2, 1, .inr (.inl f)))] ++ wx
    | some (s, v) => [(o, .inl (G.2.2 2, 1, .inr (.inl (vp_updL f 0 v.toInt64))))] ++ wo s) := by
  refine HI.intro (by decide) (Nat.le_of_ble_eq_true rfl) (catL (xs := [p0, p1])) fun X C hE hT hR => ?_
  refine r_aload_n C dL_scored_0 rfl rfl ?_
  refine r_iconst (v := 0) C dL_scored_1 (by decide) ?_
  refine r_aload_n C dL_scored_2 rfl rfl ?_
  refine r_iload_n C dL_scored_3 rfl rfl ?_
  refine r_iload_n C dL_scored_4 rfl rfl ?_
  refine r_callXi C hE hM kcL_X6_scored dL_scored_5 rfl (Nat.le_refl _) (by omega) (by omega) (Nat.le_of_ble_eq_true rfl) 0 he (ci := 6) rfl rfl ([] ++ tlx 1 wc) [0] (tl_nd rfl (fun _ h => absurd h List.not_mem_nil)) (tl_R (ws := [(o, .inl (G.2.2 2, 1, .inr (.inl f)))]) (wr := []) rfl rfl) (wr := [(o, .inl (G.2.2 2, 1, .inr (.inl f)))]) (tl_C rfl) rfl (fun i hi hc => absurd (tl_m hc) (by rw [List.mem_singleton.mp hi]; decide)) rfl (fun hpx => ?_) (fun v u hu => ?_)
  · refine r_catch C hE hT (Or.inr rfl) lkL_nse (by decide) (by decide) (by decide) (fun q9 => ?_)
    refine r_astore C dL_scored_13 (by decide) ?_
    refine r_iconst (v := 1) C dL_scored_15 (by decide) ?_
    exact hR _ _ _ _ _ none (by omega) (by omega) rfl ⟨hpx, rfl⟩ dL_scored_16
  · refine r_i2l C dL_scored_8 ?_
    refine r_last (ws' := [(o, .inl (G.2.2 2, 1, .inr (.inl (vp_updL f 0 v.toInt64))))] ++ wo u) C 0 rfl (vp_in_nI (n := 0) (by decide) (by decide)) rfl dL_scored_9 ?_
    refine r_goto (tgt := 17) C dL_scored_10 (by decide) ?_
    refine r_iconst (v := 0) C dL_scored_17 (by decide) ?_
    exact hR _ _ _ _ _ (some (u, v)) (by omega) (by omega) rfl ⟨hu, rfl⟩ dL_scored_18
theorem h_sewn {wc wx : va_W} {x o d mc ms : Nat} {fs : List Value} {f : Nat → Int64} {px : Prop} {S : Type} {post : Int32 → S → Prop} {wo : S → va_W} (p0 p1 : Int32) (hM : XI G yX6_sewn (.code yX6_sewn cX6_sewn 4 (some .int)) d mc ms [.ref x, .int p0, .int p1] wc (px, nse, wx) post wo) (he : wc[0]? = some (x, .inr (6, fs))) : XI G yL_sewn (.codeWith yL_sewn cL_sewn 5 (some .int) [(0, 10, 13, 19)]) (d + 1) mc ms [.ref x, .int p0, .int p1, .ref o] ([(o, .inl (G.2.2 2, 1, .inr (.inl f)))] ++ wc) (False, "", []) (S := Option (S × Int32)) (fun r u => match u with
    | none => px ∧ r = 1
    | some (s, v) => post v s ∧ r = 0) (fun u => match u with
    | none => [(o, .inl (G.2.2 2, 1, .inr (.inl f)))] ++ wx
    | some (s, v) => [(o, .inl (G.2.2 2, 1, .inr (.inl (vp_updL f 0 v.toInt64))))] ++ wo s) := by
  refine HI.intro (by decide) (Nat.le_of_ble_eq_true rfl) (catL (xs := [p0, p1])) fun X C hE hT hR => ?_
  refine r_aload_n C dL_sewn_0 rfl rfl ?_
  refine r_iconst (v := 0) C dL_sewn_1 (by decide) ?_
  refine r_aload_n C dL_sewn_2 rfl rfl ?_
  refine r_iload_n C dL_sewn_3 rfl rfl ?_
  refine r_iload_n C dL_sewn_4 rfl rfl ?_
  refine r_callXi C hE hM kcL_X6_sewn dL_sewn_5 rfl (Nat.le_refl _) (by omega) (by omega) (Nat.le_of_ble_eq_true rfl) 0 he (ci := 6) rfl rfl ([] ++ tlx 1 wc) [0] (tl_nd rfl (fun _ h => absurd h List.not_mem_nil)) (tl_R (ws := [(o, .inl (G.2.2 2, 1, .inr (.inl f)))]) (wr := []) rfl rfl) (wr := [(o, .inl (G.2.2 2, 1, .inr (.inl f)))]) (tl_C rfl) rfl (fun i hi hc => absurd (tl_m hc) (by rw [List.mem_singleton.mp hi]; decide)) rfl (fun hpx => ?_) (fun v u hu => ?_)
  · refine r_catch C hE hT (Or.inr rfl) lkL_nse (by decide) (by decide) (by decide) (fun q9 => ?_)
    refine r_astore C dL_sewn_13 (by decide) ?_
    refine r_iconst (v := 1) C dL_sewn_15 (by decide) ?_
    exact hR _ _ _ _ _ none (by omega) (by omega) rfl ⟨hpx, rfl⟩ dL_sewn_16
  · refine r_i2l C dL_sewn_8 ?_
    refine r_last (ws' := [(o, .inl (G.2.2 2, 1, .inr (.inl (vp_updL f 0 v.toInt64))))] ++ wo u) C 0 rfl (vp_in_nI (n := 0) (by decide) (by decide)) rfl dL_sewn_9 ?_
    refine r_goto (tgt := 17) C dL_sewn_10 (by decide) ?_
    refine r_iconst (v := 0) C dL_sewn_17 (by decide) ?_
    exact hR _ _ _ _ _ (some (u, v)) (by omega) (by omega) rfl ⟨hu, rfl⟩ dL_sewn_18
theorem h_count {wc wx : va_W} {x o d mc ms : Nat} {fs : List Value} {f : Nat → Int64} {px : Prop} {S : Type} {post : Int32 → S → Prop} {wo : S → va_W} (p0 : Int32) (hM : XI G yX6_count (.code yX6_count cX6_count 2 (some .int)) d mc ms [.ref x, .int p0] wc (px, nse, wx) post wo) (he : wc[0]? = some (x, .inr (6, fs))) : XI G yL_count (.codeWith yL_count cL_count 4 (some .int) [(0, 9, 12, 19)]) (d + 1) mc ms [.ref x, .int p0, .ref o] ([(o, .inl (G.2.2 2, 1, .inr (.inl f)))] ++ wc) (False, "", []) (S := Option (S × Int32)) (fun r u => match u with
    | none => px ∧ r = 1
    | some (s, v) => post v s ∧ r = 0) (fun u => match u with
    | none => [(o, .inl (G.2.2 2, 1, .inr (.inl f)))] ++ wx
    | some (s, v) => [(o, .inl (G.2.2 2, 1, .inr (.inl (vp_updL f 0 v.toInt64))))] ++ wo s) := by
  refine HI.intro (by decide) (Nat.le_of_ble_eq_true rfl) (catL (xs := [p0])) fun X C hE hT hR => ?_
  refine r_aload_n C dL_count_0 rfl rfl ?_
  refine r_iconst (v := 0) C dL_count_1 (by decide) ?_
  refine r_aload_n C dL_count_2 rfl rfl ?_
  refine r_iload_n C dL_count_3 rfl rfl ?_
  refine r_callXi C hE hM kcL_X6_count dL_count_4 rfl (Nat.le_refl _) (by omega) (by omega) (Nat.le_of_ble_eq_true rfl) 0 he (ci := 6) rfl rfl ([] ++ tlx 1 wc) [0] (tl_nd rfl (fun _ h => absurd h List.not_mem_nil)) (tl_R (ws := [(o, .inl (G.2.2 2, 1, .inr (.inl f)))]) (wr := []) rfl rfl) (wr := [(o, .inl (G.2.2 2, 1, .inr (.inl f)))]) (tl_C rfl) rfl (fun i hi hc => absurd (tl_m hc) (by rw [List.mem_singleton.mp hi]; decide)) rfl (fun hpx => ?_) (fun v u hu => ?_)
  · refine r_catch C hE hT (Or.inr rfl) lkL_nse (by decide) (by decide) (by decide) (fun q9 => ?_)
    refine r_astore_n C dL_count_12 rfl (by decide) ?_
    refine r_iconst (v := 1) C dL_count_13 (by decide) ?_
    exact hR _ _ _ _ _ none (by omega) (by omega) rfl ⟨hpx, rfl⟩ dL_count_14
  · refine r_i2l C dL_count_7 ?_
    refine r_last (ws' := [(o, .inl (G.2.2 2, 1, .inr (.inl (vp_updL f 0 v.toInt64))))] ++ wo u) C 0 rfl (vp_in_nI (n := 0) (by decide) (by decide)) rfl dL_count_8 ?_
    refine r_goto (tgt := 15) C dL_count_9 (by decide) ?_
    refine r_iconst (v := 0) C dL_count_15 (by decide) ?_
    exact hR _ _ _ _ _ (some (u, v)) (by omega) (by omega) rfl ⟨hu, rfl⟩ dL_count_16
end LH
