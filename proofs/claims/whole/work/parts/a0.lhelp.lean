/-! ===== THE LAW: its helpers, that catch ===== -/
theorem kl_13 : Cond.classLink RL 13 xIA ∈ sw_lwg := sw_m 516 (by decide +kernel) (by decide +kernel)
theorem kl_15 : Cond.classLink RL 15 xIS ∈ sw_lwg := sw_m 517 (by decide +kernel) (by decide +kernel)
abbrev mL_levels : sw_MD := (yL_levels, cL_levels, 6, some .int)
theorem k_L_34 : sw_cs RL 34 mL_levels := ⟨sw_m 513 (by decide +kernel) (by decide +kernel), sw_m 514 (by decide +kernel) (by decide +kernel)⟩
theorem kw_levels : Cond.codeWith yL_levels cL_levels 6 (some .int) [(0, 18, 21, 13), (0, 18, 25, 15)] ∈ sw_lwg := sw_m 515 (by decide +kernel) (by decide +kernel)
abbrev mL_compile : sw_MD := (yL_compile, cL_compile, 3, some .int)
theorem k_L_58 : sw_cs RL 58 mL_compile := ⟨sw_m 642 (by decide +kernel) (by decide +kernel), sw_m 643 (by decide +kernel) (by decide +kernel)⟩
theorem kw_compile : Cond.codeWith yL_compile cL_compile 3 (some .int) [(0, 8, 11, 13), (0, 8, 14, 15)] ∈ sw_lwg := sw_m 644 (by decide +kernel) (by decide +kernel)
abbrev mL_verify : sw_MD := (yL_verify, cL_verify, 3, some .int)
theorem k_L_83 : sw_cs RL 83 mL_verify := ⟨sw_m 831 (by decide +kernel) (by decide +kernel), sw_m 832 (by decide +kernel) (by decide +kernel)⟩
theorem kw_verify : Cond.codeWith yL_verify cL_verify 3 (some .int) [(0, 8, 11, 13), (0, 8, 14, 15)] ∈ sw_lwg := sw_m 833 (by decide +kernel) (by decide +kernel)
abbrev mL_run : sw_MD := (yL_run, cL_run, 4, some .int)
theorem k_L_98 : sw_cs RL 98 mL_run := ⟨sw_m 997 (by decide +kernel) (by decide +kernel), sw_m 998 (by decide +kernel) (by decide +kernel)⟩
theorem kw_run : Cond.codeWith yL_run cL_run 4 (some .int) [(0, 9, 12, 13), (0, 9, 15, 15)] ∈ sw_lwg := sw_m 999 (by decide +kernel) (by decide +kernel)
/-- what a helper answers: 0 with the answer in the law's array, 1 or 2 for what was thrown -/
def HQ (Q' : sw_Q) (QX' : sw_QX) (cv : Int32 → Int64) : sw_Q := fun r n' f' => (∃ y f1 g, Q' (some (.int y)) n' f1 ∧ f1 186 = .inl (1, 1, .inr (.inl g)) ∧ f' = va_up f1 186 (.inl (1, 1, .inr (.inl (vp_updL g 0 (cv y))))) ∧ r = some (.int 0)) ∨ (QX' xIA n' f' ∧ r = some (.int 1)) ∨ (QX' xIS n' f' ∧ r = some (.int 2))
def HOk (Q' : sw_Q) : Prop := ∀ r n' f', Q' r n' f' → ∃ y g, r = some (.int y) ∧ f' 186 = .inl (1, 1, .inr (.inl g))
set_option maxRecDepth 100000 in
theorem c_L_levels {l : Launch} {D : va_G} {cy : Nat → ClassId} {d mc ms n : Nat} {f : sw_F} {x : Int32} {w : Int64} {fs : List Value} (h0 : f 0 = .inr (11, fs)) {Q' : sw_Q} {QX' : sw_QX} (hM : sw_CtX l D cy mX11_levels (d - 1) mc ms [.ref 0, .int x, .long w] n f Q' QX') (hd : 1 ≤ d) (hQ : HOk Q') (hX : ∀ E n' f', QX' E n' f' → E = xIA ∨ E = xIS) : sw_CtH l D cy mL_levels [(0, 18, 21, 13), (0, 18, 25, 15)] d mc ms [.ref 0, .int x, .long w, .ref 186] n f (HQ Q' QX' (fun y => if y = 0 then 0 else 1)) := by
  refine sw_ofH rfl (Nat.le_of_ble_eq_true rfl) ?_
  show SWr (eH [(0, 18, 21, 13), (0, 18, 25, 15)]) l D cy mL_levels d mc ms 0 0 0 [(0, .ref 0), (1, .int x), (2, .long w), (4, .ref 186)] [] n f _ _
  refine sw_aload dL_levels_0 rfl (by first | rfl | assumption) ?_
  refine sw_iconst (x := 0) dL_levels_2 (by decide) ?_
  refine sw_aload_n dL_levels_3 rfl (by first | rfl | assumption) ?_
  refine sw_iload_n dL_levels_4 rfl ?_
  refine sw_lload_n dL_levels_5 rfl ?_
  refine sw_callVX dL_levels_6 k_L_7 mf_X11_levels ⟨_, rfl, rfl⟩ h0 hM (by omega) ⟨by omega, by omega⟩ rfl rfl (Nat.le_of_ble_eq_true rfl) (by decide) kl_13 kl_15 hX (fun r' n' f' hq hle => ?_) (fun q n' f' hq hle => ?_) (fun q n' f' hq hle => ?_)
  · obtain ⟨y, g, hr, hg⟩ := hQ _ _ _ hq
    subst hr
    show SWr (eH [(0, 18, 21, 13), (0, 18, 25, 15)]) l D cy mL_levels d mc ms (0 + mc) (0 + ms) 9 [(0, .ref 0), (1, .int x), (2, .long w), (4, .ref 186)] [.int y, .int 0, .ref 186] n' f' _ _
    refine sw_if_eq 16 dL_levels_9 (by decide) (fun h9 => ?_) (fun h9 => ?_)
    · refine sw_lconst (x := 0) dL_levels_16 (by decide) ?_
      refine sw_last dL_levels_17 hg (by unfold vp_in; decide) ?_
      refine sw_goto 29 dL_levels_18 (by decide) ?_
      refine sw_iconst (x := 0) dL_levels_29 (by decide) ?_
      exact sw_iret dL_levels_30 rfl rfl (by omega) (by omega) (Or.inl ⟨y, f', g, hq, hg, by rw [show (fun y : Int32 => if y = 0 then (0 : Int64) else 1) y = 0 from if_pos h9]; rfl, rfl⟩)
    · refine sw_lconst (x := 1) dL_levels_12 (by decide) ?_
      refine sw_goto 17 dL_levels_13 (by decide) ?_
      refine sw_last dL_levels_17 hg (by unfold vp_in; decide) ?_
      refine sw_goto 29 dL_levels_18 (by decide) ?_
      refine sw_iconst (x := 0) dL_levels_29 (by decide) ?_
      exact sw_iret dL_levels_30 rfl rfl (by omega) (by omega) (Or.inl ⟨y, f', g, hq, hg, by rw [show (fun y : Int32 => if y = 0 then (0 : Int64) else 1) y = 1 from if_neg h9]; rfl, rfl⟩)
  · refine sw_astoreR [(0, _), (1, _), (2, _), (4, _), (5, _)] dL_levels_21 (by decide) rfl ?_
    refine sw_iconst (x := 1) dL_levels_23 (by decide) ?_
    exact sw_iret dL_levels_24 rfl rfl (by omega) (by omega) (Or.inr (Or.inl ⟨hq, rfl⟩))
  · refine sw_astoreR [(0, _), (1, _), (2, _), (4, _), (5, _)] dL_levels_25 (by decide) rfl ?_
    refine sw_iconst (x := 2) dL_levels_27 (by decide) ?_
    exact sw_iret dL_levels_28 rfl rfl (by omega) (by omega) (Or.inr (Or.inr ⟨hq, rfl⟩))
set_option maxRecDepth 100000 in
theorem c_L_compile {l : Launch} {D : va_G} {cy : Nat → ClassId} {d mc ms n : Nat} {f : sw_F} {fs : List Value} (h0 : f 0 = .inr (11, fs)) {Q' : sw_Q} {QX' : sw_QX} (hM : sw_CtX l D cy mX11_compile (d - 1) mc ms [.ref 0] n f Q' QX') (hd : 1 ≤ d) (hQ : HOk Q') (hX : ∀ E n' f', QX' E n' f' → E = xIA ∨ E = xIS) : sw_CtH l D cy mL_compile [(0, 8, 11, 13), (0, 8, 14, 15)] d mc ms [.ref 0, .ref 186] n f (HQ Q' QX' (fun y => y.toInt64)) := by
  refine sw_ofH rfl (Nat.le_of_ble_eq_true rfl) ?_
  show SWr (eH [(0, 8, 11, 13), (0, 8, 14, 15)]) l D cy mL_compile d mc ms 0 0 0 [(0, .ref 0), (1, .ref 186)] [] n f _ _
  refine sw_aload_n dL_compile_0 rfl (by first | rfl | assumption) ?_
  refine sw_iconst (x := 0) dL_compile_1 (by decide) ?_
  refine sw_aload_n dL_compile_2 rfl (by first | rfl | assumption) ?_
  refine sw_callVX dL_compile_3 k_L_17 mf_X11_compile ⟨_, rfl, rfl⟩ h0 hM (by omega) ⟨by omega, by omega⟩ rfl rfl (Nat.le_of_ble_eq_true rfl) (by decide) kl_13 kl_15 hX (fun r' n' f' hq hle => ?_) (fun q n' f' hq hle => ?_) (fun q n' f' hq hle => ?_)
  · obtain ⟨y, g, hr, hg⟩ := hQ _ _ _ hq
    subst hr
    show SWr (eH [(0, 8, 11, 13), (0, 8, 14, 15)]) l D cy mL_compile d mc ms (0 + mc) (0 + ms) 6 [(0, .ref 0), (1, .ref 186)] [.int y, .int 0, .ref 186] n' f' _ _
    refine sw_i2l dL_compile_6 ?_
    refine sw_last dL_compile_7 hg (by unfold vp_in; decide) ?_
    refine sw_goto 17 dL_compile_8 (by decide) ?_
    refine sw_iconst (x := 0) dL_compile_17 (by decide) ?_
    exact sw_iret dL_compile_18 rfl rfl (by omega) (by omega) (Or.inl ⟨y, f', g, hq, hg, rfl, rfl⟩)
  · refine sw_astore_nR [(0, _), (1, _), (2, _)] dL_compile_11 (by decide) rfl ?_
    refine sw_iconst (x := 1) dL_compile_12 (by decide) ?_
    exact sw_iret dL_compile_13 rfl rfl (by omega) (by omega) (Or.inr (Or.inl ⟨hq, rfl⟩))
  · refine sw_astore_nR [(0, _), (1, _), (2, _)] dL_compile_14 (by decide) rfl ?_
    refine sw_iconst (x := 2) dL_compile_15 (by decide) ?_
    exact sw_iret dL_compile_16 rfl rfl (by omega) (by omega) (Or.inr (Or.inr ⟨hq, rfl⟩))
set_option maxRecDepth 100000 in
theorem c_L_verify {l : Launch} {D : va_G} {cy : Nat → ClassId} {d mc ms n : Nat} {f : sw_F} {fs : List Value} (h0 : f 0 = .inr (11, fs)) {Q' : sw_Q} {QX' : sw_QX} (hM : sw_CtX l D cy mX11_verify (d - 1) mc ms [.ref 0] n f Q' QX') (hd : 1 ≤ d) (hQ : HOk Q') (hX : ∀ E n' f', QX' E n' f' → E = xIA ∨ E = xIS) : sw_CtH l D cy mL_verify [(0, 8, 11, 13), (0, 8, 14, 15)] d mc ms [.ref 0, .ref 186] n f (HQ Q' QX' (fun y => y.toInt64)) := by
  refine sw_ofH rfl (Nat.le_of_ble_eq_true rfl) ?_
  show SWr (eH [(0, 8, 11, 13), (0, 8, 14, 15)]) l D cy mL_verify d mc ms 0 0 0 [(0, .ref 0), (1, .ref 186)] [] n f _ _
  refine sw_aload_n dL_verify_0 rfl (by first | rfl | assumption) ?_
  refine sw_iconst (x := 0) dL_verify_1 (by decide) ?_
  refine sw_aload_n dL_verify_2 rfl (by first | rfl | assumption) ?_
  refine sw_callVX dL_verify_3 k_L_21 mf_X11_verify ⟨_, rfl, rfl⟩ h0 hM (by omega) ⟨by omega, by omega⟩ rfl rfl (Nat.le_of_ble_eq_true rfl) (by decide) kl_13 kl_15 hX (fun r' n' f' hq hle => ?_) (fun q n' f' hq hle => ?_) (fun q n' f' hq hle => ?_)
  · obtain ⟨y, g, hr, hg⟩ := hQ _ _ _ hq
    subst hr
    show SWr (eH [(0, 8, 11, 13), (0, 8, 14, 15)]) l D cy mL_verify d mc ms (0 + mc) (0 + ms) 6 [(0, .ref 0), (1, .ref 186)] [.int y, .int 0, .ref 186] n' f' _ _
    refine sw_i2l dL_verify_6 ?_
    refine sw_last dL_verify_7 hg (by unfold vp_in; decide) ?_
    refine sw_goto 17 dL_verify_8 (by decide) ?_
    refine sw_iconst (x := 0) dL_verify_17 (by decide) ?_
    exact sw_iret dL_verify_18 rfl rfl (by omega) (by omega) (Or.inl ⟨y, f', g, hq, hg, rfl, rfl⟩)
  · refine sw_astore_nR [(0, _), (1, _), (2, _)] dL_verify_11 (by decide) rfl ?_
    refine sw_iconst (x := 1) dL_verify_12 (by decide) ?_
    exact sw_iret dL_verify_13 rfl rfl (by omega) (by omega) (Or.inr (Or.inl ⟨hq, rfl⟩))
  · refine sw_astore_nR [(0, _), (1, _), (2, _)] dL_verify_14 (by decide) rfl ?_
    refine sw_iconst (x := 2) dL_verify_15 (by decide) ?_
    exact sw_iret dL_verify_16 rfl rfl (by omega) (by omega) (Or.inr (Or.inr ⟨hq, rfl⟩))
set_option maxRecDepth 100000 in
theorem c_L_run {l : Launch} {D : va_G} {cy : Nat → ClassId} {d mc ms n : Nat} {f : sw_F} {x : Int32} {fs : List Value} (h0 : f 0 = .inr (11, fs)) {Q' : sw_Q} {QX' : sw_QX} (hM : sw_CtX l D cy mX11_run (d - 1) mc ms [.ref 0, .int x] n f Q' QX') (hd : 1 ≤ d) (hQ : HOk Q') (hX : ∀ E n' f', QX' E n' f' → E = xIA ∨ E = xIS) : sw_CtH l D cy mL_run [(0, 9, 12, 13), (0, 9, 15, 15)] d mc ms [.ref 0, .int x, .ref 186] n f (HQ Q' QX' (fun y => y.toInt64)) := by
  refine sw_ofH rfl (Nat.le_of_ble_eq_true rfl) ?_
  show SWr (eH [(0, 9, 12, 13), (0, 9, 15, 15)]) l D cy mL_run d mc ms 0 0 0 [(0, .ref 0), (1, .int x), (2, .ref 186)] [] n f _ _
  refine sw_aload_n dL_run_0 rfl (by first | rfl | assumption) ?_
  refine sw_iconst (x := 0) dL_run_1 (by decide) ?_
  refine sw_aload_n dL_run_2 rfl (by first | rfl | assumption) ?_
  refine sw_iload_n dL_run_3 rfl ?_
  refine sw_callVX dL_run_4 k_L_24 mf_X11_run ⟨_, rfl, rfl⟩ h0 hM (by omega) ⟨by omega, by omega⟩ rfl rfl (Nat.le_of_ble_eq_true rfl) (by decide) kl_13 kl_15 hX (fun r' n' f' hq hle => ?_) (fun q n' f' hq hle => ?_) (fun q n' f' hq hle => ?_)
  · obtain ⟨y, g, hr, hg⟩ := hQ _ _ _ hq
    subst hr
    show SWr (eH [(0, 9, 12, 13), (0, 9, 15, 15)]) l D cy mL_run d mc ms (0 + mc) (0 + ms) 7 [(0, .ref 0), (1, .int x), (2, .ref 186)] [.int y, .int 0, .ref 186] n' f' _ _
    refine sw_i2l dL_run_7 ?_
    refine sw_last dL_run_8 hg (by unfold vp_in; decide) ?_
    refine sw_goto 18 dL_run_9 (by decide) ?_
    refine sw_iconst (x := 0) dL_run_18 (by decide) ?_
    exact sw_iret dL_run_19 rfl rfl (by omega) (by omega) (Or.inl ⟨y, f', g, hq, hg, rfl, rfl⟩)
  · refine sw_astore_nR [(0, _), (1, _), (2, _), (3, _)] dL_run_12 (by decide) rfl ?_
    refine sw_iconst (x := 1) dL_run_13 (by decide) ?_
    exact sw_iret dL_run_14 rfl rfl (by omega) (by omega) (Or.inr (Or.inl ⟨hq, rfl⟩))
  · refine sw_astore_nR [(0, _), (1, _), (2, _), (3, _)] dL_run_15 (by decide) rfl ?_
    refine sw_iconst (x := 2) dL_run_16 (by decide) ?_
    exact sw_iret dL_run_17 rfl rfl (by omega) (by omega) (Or.inr (Or.inr ⟨hq, rfl⟩))
