/-! ===== THE CLASS: Marks ===== -/
/-- is m in row r of the marks p? -/
def msk (B : Nat → Nat → Int64) (p r m : Nat) : Bool := if m < 64 then bL (B (p + 1) r) m else bL (B (p + 2) r) (m - 64)
def isP (a : Int32) : Bool := decide (0 ≤ a ∧ a < 100)
theorem isP_n {i : Nat} (h : i < 100) : isP (nI i) = true := decide_eq_true ⟨Int32.not_lt.mp (i32_nlt0 (by omega)), by rw [nl_100, nI_ltI (by omega) (by omega)]; exact h⟩
theorem isP_m1 : isP (-1) = false := by decide
theorem lg_0 {x y : Int64} : lg_cmp x y = 0 ↔ x = y := by
  unfold lg_cmp
  by_cases h1 : y < x
  · have h2 : ¬ x = y := fun h => by rw [h] at h1; exact absurd h1 Int64.lt_irrefl
    simp [h1, h2]
  · by_cases h2 : x = y
    · simp [h1, h2]
    · simp [h1, h2]
theorem nl_64 : (64 : Int32) = nI 64 := by decide
set_option maxRecDepth 100000 in
theorem c_X5_lowBit {l : Launch} {D : va_G} {cy : Nat → ClassId} {d n : Nat} {f : sw_F} {i : Nat} (hi : i < 100) : sw_Ct l D cy mX5_lowBit d 0 0 [.int (nI i)] n f (fun r n' f' => n' = n ∧ f' = f ∧ ∃ y : Int64, r = some (.long y) ∧ ∀ j, j < 64 → bL y j = decide (j = i)) := by
  refine sw_of rfl (Nat.le_of_ble_eq_true rfl) ?_
  show SW l D cy mX5_lowBit d 0 0 0 0 0 [(0, .int (nI i))] [] n f _ _
  refine sw_iload_n dX5_lowBit_0 rfl ?_
  refine sw_bipush (x := 64) dX5_lowBit_1 (by decide) ?_
  refine sw_icmp_ge 12 dX5_lowBit_3 (by decide) (fun h3 => ?_) (fun h3 => ?_)
  · refine sw_lconst (x := 0) dX5_lowBit_12 (by decide) ?_
    exact sw_lret dX5_lowBit_13 rfl (by omega) (by omega) ⟨rfl, rfl, _, rfl, fun j hj => by have : 64 ≤ i := (nI_leI (by omega) (by omega)).mp (by rw [nl_64] at h3; exact h3); rw [bL_0, decide_eq_false (by omega)]⟩
  · refine sw_lconst (x := 1) dX5_lowBit_6 (by decide) ?_
    refine sw_iload_n dX5_lowBit_7 rfl ?_
    refine sw_lshl dX5_lowBit_8 ?_
    refine sw_goto 13 dX5_lowBit_9 (by decide) ?_
    exact sw_lret dX5_lowBit_13 rfl (by omega) (by omega) ⟨rfl, rfl, _, rfl, fun j hj => by have : i < 64 := (nI_ltI (by omega) (by omega)).mp (by rw [nl_64] at h3; exact i32_nle.mp h3); rw [bL_shl (by omega) hj]⟩
set_option maxRecDepth 100000 in
theorem c_X5_highBit {l : Launch} {D : va_G} {cy : Nat → ClassId} {d n : Nat} {f : sw_F} {i : Nat} (hi : i < 100) : sw_Ct l D cy mX5_highBit d 0 0 [.int (nI i)] n f (fun r n' f' => n' = n ∧ f' = f ∧ ∃ y : Int64, r = some (.long y) ∧ ∀ j, j < 64 → bL y j = decide (j + 64 = i)) := by
  refine sw_of rfl (Nat.le_of_ble_eq_true rfl) ?_
  show SW l D cy mX5_highBit d 0 0 0 0 0 [(0, .int (nI i))] [] n f _ _
  refine sw_iload_n dX5_highBit_0 rfl ?_
  refine sw_bipush (x := 64) dX5_highBit_1 (by decide) ?_
  refine sw_icmp_ge 10 dX5_highBit_3 (by decide) (fun h3 => ?_) (fun h3 => ?_)
  · refine sw_lconst (x := 1) dX5_highBit_10 (by decide) ?_
    refine sw_iload_n dX5_highBit_11 rfl ?_
    refine sw_bipush (x := 64) dX5_highBit_12 (by decide) ?_
    refine sw_isub dX5_highBit_14 ?_
    refine sw_lshl dX5_highBit_15 ?_
    exact sw_lret dX5_highBit_16 rfl (by omega) (by omega) ⟨rfl, rfl, _, rfl, fun j hj => by have : 64 ≤ i := (nI_leI (by omega) (by omega)).mp (by rw [nl_64] at h3; exact h3); rw [show nI i - 64 = nI (i - 64) from (by rw [nl_64]; exact nI_sub this), bL_shl (by omega) hj]; exact decide_eq_decide.mpr (by omega)⟩
  · refine sw_lconst (x := 0) dX5_highBit_6 (by decide) ?_
    refine sw_goto 16 dX5_highBit_7 (by decide) ?_
    exact sw_lret dX5_highBit_16 rfl (by omega) (by omega) ⟨rfl, rfl, _, rfl, fun j hj => by rw [bL_0, decide_eq_false (by have : i < 64 := (nI_ltI (by omega) (by omega)).mp (by rw [nl_64] at h3; exact i32_nle.mp h3); omega)]⟩
set_option maxRecDepth 100000 in
theorem c_X5_isPlace {l : Launch} {D : va_G} {cy : Nat → ClassId} {d n : Nat} {f : sw_F} (a : Int32) : sw_Ct l D cy mX5_isPlace d 0 0 [.int a] n f (sw_D (some (.int (bz (isP a)))) n f) := by
  refine sw_of rfl (Nat.le_of_ble_eq_true rfl) ?_
  show SW l D cy mX5_isPlace d 0 0 0 0 0 [(0, .int a)] [] n f _ _
  refine sw_iload_n dX5_isPlace_0 rfl ?_
  refine sw_if_lt 14 dX5_isPlace_1 (by decide) (fun h1 => ?_) (fun h1 => ?_)
  · refine sw_iconst (x := 0) dX5_isPlace_14 (by decide) ?_
    exact sw_iret dX5_isPlace_15 rfl (by first | rfl | exact bz_n _) (by omega) (by omega) ⟨by rw [isP, decide_eq_false (fun q => absurd h1 (Int32.not_lt.mpr q.1))]; rfl, rfl, rfl⟩
  · refine sw_iload_n dX5_isPlace_4 rfl ?_
    refine sw_bipush (x := 100) dX5_isPlace_5 (by decide) ?_
    refine sw_icmp_ge 14 dX5_isPlace_7 (by decide) (fun h7 => ?_) (fun h7 => ?_)
    · refine sw_iconst (x := 0) dX5_isPlace_14 (by decide) ?_
      exact sw_iret dX5_isPlace_15 rfl (by first | rfl | exact bz_n _) (by omega) (by omega) ⟨by rw [isP, decide_eq_false (fun q => absurd q.2 (Int32.not_lt.mpr h7))]; rfl, rfl, rfl⟩
    · refine sw_iconst (x := 1) dX5_isPlace_10 (by decide) ?_
      refine sw_goto 15 dX5_isPlace_11 (by decide) ?_
      exact sw_iret dX5_isPlace_15 rfl (by first | rfl | exact bz_n _) (by omega) (by omega) ⟨by rw [isP, decide_eq_true ⟨Int32.not_lt.mp h1, Int32.not_le.mp h7⟩]; rfl, rfl, rfl⟩
set_option maxRecDepth 100000 in
theorem c_X5_has36 {l : Launch} {D : va_G} {cy : Nat → ClassId} {d n : Nat} {f : sw_F} {s : Nat → Int32} {A : Nat → Nat → Int32} {B : Nat → Nat → Int64} {o : Int64} {pr : Value} (hd : 1 ≤ d) {r m : Nat} (hr : r < 100) (hm : m < 100) : sw_Ct l D cy mX5_has d 0 0 [.ref 36, .int (nI r), .int (nI m)] n (gd f s A B o pr) (sw_D (some (.int (bz (msk B 36 r m)))) n (gd f s A B o pr)) := by
  refine sw_of rfl (Nat.le_of_ble_eq_true rfl) ?_
  show SW l D cy mX5_has d 0 0 0 0 0 [(0, .ref 36), (1, .int (nI r)), (2, .int (nI m))] [] n (gd f s A B o pr) _ _
  refine sw_iload_n dX5_has_0 rfl ?_
  refine sw_Sv dX5_has_1 k_X5_18 mf_X5_isPlace (by have z := c_X5_isPlace (l := l) (D := D) (cy := cy) (d := d - 1) (n := n) (f := (gd f s A B o pr)) (nI r); rw [isP_n (show r < 100 by omega)] at z; exact z) (by omega) (by omega) (by omega) rfl rfl (Nat.le_of_ble_eq_true rfl) ?_
  refine sw_if_eq 46 dX5_has_4 (by decide) (fun h4 => ?_) (fun h4 => ?_)
  · exact absurd h4 (by decide)
  · refine sw_iload_n dX5_has_7 rfl ?_
    refine sw_Sv dX5_has_8 k_X5_18 mf_X5_isPlace (by have z := c_X5_isPlace (l := l) (D := D) (cy := cy) (d := d - 1) (n := n) (f := (gd f s A B o pr)) (nI m); rw [isP_n (show m < 100 by omega)] at z; exact z) (by omega) (by omega) (by omega) rfl rfl (Nat.le_of_ble_eq_true rfl) ?_
    refine sw_if_eq 46 dX5_has_11 (by decide) (fun h11 => ?_) (fun h11 => ?_)
    · exact absurd h11 (by decide)
    · refine sw_aload_n dX5_has_14 rfl (by first | rfl | assumption) ?_
      refine sw_get dX5_has_15 fr_X5_9 rfl rfl ?_
      refine sw_iload_n dX5_has_18 rfl ?_
      refine sw_laldN (r) dX5_has_19 rfl rfl (show r < 100 by omega) (by decide) ?_
      refine sw_iload_n dX5_has_20 rfl ?_
      refine sw_callS dX5_has_21 k_X5_22 mf_X5_lowBit (c_X5_lowBit (d := d - 1) (i := m) (by omega)) (by omega) ⟨by omega, by omega⟩ rfl rfl (Nat.le_of_ble_eq_true rfl) (fun r' n' f' hq _ => ?_)
      obtain ⟨hn, hf, y1, hr, hy1⟩ := hq
      have hn := hn.symm
      subst hn
      subst hr
      subst hf
      show SW l D cy mX5_has d 0 0 0 0 24 [(0, .ref 36), (1, .int (nI r)), (2, .int (nI m))] [.long y1, .long (B 37 r)] n (gd f s A B o pr) _ _
      refine sw_land dX5_has_24 ?_
      refine sw_aload_n dX5_has_25 rfl (by first | rfl | assumption) ?_
      refine sw_get dX5_has_26 fr_X5_15 rfl rfl ?_
      refine sw_iload_n dX5_has_29 rfl ?_
      refine sw_laldN (r) dX5_has_30 rfl rfl (show r < 100 by omega) (by decide) ?_
      refine sw_iload_n dX5_has_31 rfl ?_
      refine sw_callS dX5_has_32 k_X5_26 mf_X5_highBit (c_X5_highBit (d := d - 1) (i := m) (by omega)) (by omega) ⟨by omega, by omega⟩ rfl rfl (Nat.le_of_ble_eq_true rfl) (fun r' n' f' hq _ => ?_)
      obtain ⟨hn, hf, y2, hr, hy2⟩ := hq
      have hn := hn.symm
      subst hn
      subst hr
      subst hf
      have mh : msk B 36 r m = decide (¬ ((B 37 r &&& y1) ||| (B 38 r &&& y2)) = 0) := by
        have e : ∀ j, j < 64 → bL ((B 37 r &&& y1) ||| (B 38 r &&& y2)) j = ((bL (B 37 r) j && decide (j = m)) || (bL (B 38 r) j && decide (j + 64 = m))) := fun j hj => by rw [bL_or, bL_and, bL_and, hy1 j hj, hy2 j hj]
        show (if m < 64 then bL (B 37 r) m else bL (B 38 r) (m - 64)) = _
        by_cases c : m < 64
        · rw [if_pos c]
          cases hb : bL (B 37 r) m with
          | true => exact (decide_eq_true (p := ¬ ((B 37 r &&& y1) ||| (B 38 r &&& y2)) = 0) (fun q => by have z := e m c; rw [q, bL_0, hb, decide_eq_true rfl] at z; exact absurd z (by simp))).symm
          | false => exact (decide_eq_false (fun q => q (bL_ext (fun j hj => by
              rw [e j hj, bL_0]
              by_cases u : j = m
              · subst u; rw [hb, decide_eq_false (show ¬ j + 64 = j by omega)]; simp
              · rw [decide_eq_false u, decide_eq_false (show ¬ j + 64 = m by omega)]; simp)))).symm
        · rw [if_neg c]
          cases hb : bL (B 38 r) (m - 64) with
          | true => exact (decide_eq_true (p := ¬ ((B 37 r &&& y1) ||| (B 38 r &&& y2)) = 0) (fun q => by have z := e (m - 64) (by omega); rw [q, bL_0, hb, decide_eq_true (show m - 64 + 64 = m by omega)] at z; exact absurd z (by simp))).symm
          | false => exact (decide_eq_false (fun q => q (bL_ext (fun j hj => by
              rw [e j hj, bL_0]
              by_cases u : j = m - 64
              · subst u; rw [hb, decide_eq_false (show ¬ m - 64 = m by omega)]; simp
              · rw [decide_eq_false (show ¬ j = m by omega), decide_eq_false (show ¬ j + 64 = m by omega)]; simp)))).symm
      show SW l D cy mX5_has d 0 0 0 0 35 [(0, .ref 36), (1, .int (nI r)), (2, .int (nI m))] [.long y2, .long (B 38 r), .long (B 37 r &&& y1)] n (gd f s A B o pr) _ _
      refine sw_land dX5_has_35 ?_
      refine sw_lor dX5_has_36 ?_
      refine sw_lconst (x := 0) dX5_has_37 (by decide) ?_
      refine sw_lcmp dX5_has_38 ?_
      refine sw_if_eq 46 dX5_has_39 (by decide) (fun h39 => ?_) (fun h39 => ?_)
      · refine sw_iconst (x := 0) dX5_has_46 (by decide) ?_
        exact sw_iret dX5_has_47 rfl (by first | rfl | exact bz_n _) (by omega) (by omega) ⟨by rw [mh, decide_eq_false (fun q => q (lg_0.mp h39))]; rfl, rfl, rfl⟩
      · refine sw_iconst (x := 1) dX5_has_42 (by decide) ?_
        refine sw_goto 47 dX5_has_43 (by decide) ?_
        exact sw_iret dX5_has_47 rfl (by first | rfl | exact bz_n _) (by omega) (by omega) ⟨by rw [mh, decide_eq_true (p := ¬ ((B 37 r &&& y1) ||| (B 38 r &&& y2)) = 0) (fun q => h39 (lg_0.mpr q))]; rfl, rfl, rfl⟩
theorem uL_at (g : Nat → Int64) (r : Nat) (x : Int64) : vp_updL g r x r = x := by unfold vp_updL; rw [if_pos rfl]
theorem uL_ne (g : Nat → Int64) {r k : Nat} (x : Int64) (h : ¬ k = r) : vp_updL g r x k = g k := by unfold vp_updL; rw [if_neg h]
set_option maxRecDepth 100000 in
theorem c_X5_add36 {l : Launch} {D : va_G} {cy : Nat → ClassId} {d n : Nat} {f : sw_F} {s : Nat → Int32} {A : Nat → Nat → Int32} {B : Nat → Nat → Int64} {o : Int64} {pr : Value} (hd : 1 ≤ d) {r m : Nat} (hr : r < 100) (hm : m < 100) : sw_Ct l D cy mX5_add d 0 0 [.ref 36, .int (nI r), .int (nI m)] n (gd f s A B o pr) (fun r' n' f' => r' = none ∧ n' = n ∧ ∃ B', f' = gd f s A B' o pr ∧ (∀ q, ¬ q = 37 → ¬ q = 38 → B' q = B q) ∧ ∀ r1 m1, m1 < 128 → msk B' 36 r1 m1 = (msk B 36 r1 m1 || decide (r1 = r ∧ m1 = m))) := by
  refine sw_of rfl (Nat.le_of_ble_eq_true rfl) ?_
  show SW l D cy mX5_add d 0 0 0 0 0 [(0, .ref 36), (1, .int (nI r)), (2, .int (nI m))] [] n (gd f s A B o pr) _ _
  refine sw_iload_n dX5_add_0 rfl ?_
  refine sw_Sv dX5_add_1 k_X5_18 mf_X5_isPlace (by have z := c_X5_isPlace (l := l) (D := D) (cy := cy) (d := d - 1) (n := n) (f := (gd f s A B o pr)) (nI r); rw [isP_n (show r < 100 by omega)] at z; exact z) (by omega) (by omega) (by omega) rfl rfl (Nat.le_of_ble_eq_true rfl) ?_
  refine sw_if_eq 40 dX5_add_4 (by decide) (fun h4 => ?_) (fun h4 => ?_)
  · exact absurd h4 (by decide)
  · refine sw_iload_n dX5_add_7 rfl ?_
    refine sw_Sv dX5_add_8 k_X5_18 mf_X5_isPlace (by have z := c_X5_isPlace (l := l) (D := D) (cy := cy) (d := d - 1) (n := n) (f := (gd f s A B o pr)) (nI m); rw [isP_n (show m < 100 by omega)] at z; exact z) (by omega) (by omega) (by omega) rfl rfl (Nat.le_of_ble_eq_true rfl) ?_
    refine sw_if_eq 40 dX5_add_11 (by decide) (fun h11 => ?_) (fun h11 => ?_)
    · exact absurd h11 (by decide)
    · refine sw_aload_n dX5_add_14 rfl (by first | rfl | assumption) ?_
      refine sw_get dX5_add_15 fr_X5_9 rfl rfl ?_
      refine sw_iload_n dX5_add_18 rfl ?_
      refine sw_dup2 dX5_add_19 rfl rfl ?_
      refine sw_laldN (r) dX5_add_20 rfl rfl (show r < 100 by omega) (by decide) ?_
      refine sw_iload_n dX5_add_21 rfl ?_
      refine sw_callS dX5_add_22 k_X5_22 mf_X5_lowBit (c_X5_lowBit (d := d - 1) (i := m) (by omega)) (by omega) ⟨by omega, by omega⟩ rfl rfl (Nat.le_of_ble_eq_true rfl) (fun r' n' f' hq _ => ?_)
      obtain ⟨hn, hf, y1, hr, hy1⟩ := hq
      have hn := hn.symm
      subst hn
      subst hr
      subst hf
      show SW l D cy mX5_add d 0 0 0 0 25 [(0, .ref 36), (1, .int (nI r)), (2, .int (nI m))] [.long y1, .long (B 37 r), .int (nI r), .ref 37] n (gd f s A B o pr) _ _
      refine sw_lor dX5_add_25 ?_
      refine g_last (r) dX5_add_26 ⟨by decide, rfl⟩ rfl (show r < 100 by omega) ?_
      refine sw_aload_n dX5_add_27 rfl (by first | rfl | assumption) ?_
      refine sw_get dX5_add_28 fr_X5_15 rfl rfl ?_
      refine sw_iload_n dX5_add_31 rfl ?_
      refine sw_dup2 dX5_add_32 rfl rfl ?_
      refine sw_laldN (r) dX5_add_33 rfl rfl (show r < 100 by omega) (by decide) ?_
      refine sw_iload_n dX5_add_34 rfl ?_
      refine sw_callS dX5_add_35 k_X5_26 mf_X5_highBit (c_X5_highBit (d := d - 1) (i := m) (by omega)) (by omega) ⟨by omega, by omega⟩ rfl rfl (Nat.le_of_ble_eq_true rfl) (fun r' n' f' hq _ => ?_)
      obtain ⟨hn, hf, y2, hr, hy2⟩ := hq
      have hn := hn.symm
      subst hn
      subst hr
      subst hf
      show SW l D cy mX5_add d 0 0 0 0 38 [(0, .ref 36), (1, .int (nI r)), (2, .int (nI m))] [.long y2, .long (B 38 r), .int (nI r), .ref 38] n (gd f s A (va_up B 37 (vp_updL (B 37) r (B 37 r ||| y1))) o pr) _ _
      refine sw_lor dX5_add_38 ?_
      refine g_last (r) dX5_add_39 ⟨by decide, rfl⟩ rfl (show r < 100 by omega) ?_
      exact sw_vret dX5_add_40 rfl (by omega) (by omega) ⟨rfl, rfl, _, rfl, fun q h1 h2 => by rw [vu_ne _ h2, vu_ne _ h1], fun r1 m1 hm1 => by
        show (if m1 < 64 then bL (vp_updL (B 37) r (B 37 r ||| y1) r1) m1 else bL (vp_updL (B 38) r (B 38 r ||| y2) r1) (m1 - 64)) = ((if m1 < 64 then bL (B 37 r1) m1 else bL (B 38 r1) (m1 - 64)) || decide (r1 = r ∧ m1 = m))
        by_cases u : r1 = r
        · subst u
          rw [uL_at, uL_at]
          by_cases c : m1 < 64
          · rw [if_pos c, if_pos c, bL_or, hy1 m1 c, show decide (m1 = m) = decide (r1 = r1 ∧ m1 = m) from decide_eq_decide.mpr (by omega)]
          · rw [if_neg c, if_neg c, bL_or, hy2 _ (by omega), show decide (m1 - 64 + 64 = m) = decide (r1 = r1 ∧ m1 = m) from decide_eq_decide.mpr (by omega)]
        · rw [uL_ne _ _ u, uL_ne _ _ u, decide_eq_false (show ¬ (r1 = r ∧ m1 = m) from fun z => u z.1), Bool.or_false]⟩
set_option maxRecDepth 100000 in
theorem c_X5_refill36 {l : Launch} {D : va_G} {cy : Nat → ClassId} {d n : Nat} {f : sw_F} {s : Nat → Int32} {A : Nat → Nat → Int32} {B : Nat → Nat → Int64} {o : Int64} {pr : Value} (hd : 1 ≤ d) {r : Nat} (hr : r < 100) (b : Bool) : sw_Ct l D cy mX5_refill d 0 0 [.ref 36, .int (nI r), .int (bz b)] n (gd f s A B o pr) (fun r' n' f' => r' = none ∧ n' = n ∧ ∃ B', f' = gd f s A B' o pr ∧ (∀ q, ¬ q = 37 → ¬ q = 38 → B' q = B q) ∧ ∀ r1 m1, m1 < 128 → msk B' 36 r1 m1 = (if r1 = r then b else msk B 36 r1 m1)) := by
  refine sw_of rfl (Nat.le_of_ble_eq_true rfl) ?_
  show SW l D cy mX5_refill d 0 0 0 0 0 [(0, .ref 36), (1, .int (nI r)), (2, .int (bz b))] [] n (gd f s A B o pr) _ _
  cases b with
  | false =>
    refine sw_iload_n dX5_refill_0 rfl ?_
    refine sw_Sv dX5_refill_1 k_X5_18 mf_X5_isPlace (by have z := c_X5_isPlace (l := l) (D := D) (cy := cy) (d := d - 1) (n := n) (f := (gd f s A B o pr)) (nI r); rw [isP_n (show r < 100 by omega)] at z; exact z) (by omega) (by omega) (by omega) rfl rfl (Nat.le_of_ble_eq_true rfl) ?_
    refine sw_if_eq 41 dX5_refill_4 (by decide) (fun h4 => ?_) (fun h4 => ?_)
    · exact absurd h4 (by decide)
    · refine sw_aload_n dX5_refill_7 rfl (by first | rfl | assumption) ?_
      refine sw_get dX5_refill_8 fr_X5_9 rfl rfl ?_
      refine sw_iload_n dX5_refill_11 rfl ?_
      refine sw_iload_n dX5_refill_12 rfl ?_
      refine sw_if_eq 22 dX5_refill_13 (by decide) (fun h13 => ?_) (fun h13 => ?_)
      · refine sw_lconst (x := 0) dX5_refill_22 (by decide) ?_
        refine g_last (r) dX5_refill_23 ⟨by decide, rfl⟩ rfl (show r < 100 by omega) ?_
        refine sw_aload_n dX5_refill_24 rfl (by first | rfl | assumption) ?_
        refine sw_get dX5_refill_25 fr_X5_15 rfl rfl ?_
        refine sw_iload_n dX5_refill_28 rfl ?_
        refine sw_iload_n dX5_refill_29 rfl ?_
        refine sw_if_eq 39 dX5_refill_30 (by decide) (fun h30 => ?_) (fun h30 => ?_)
        · refine sw_lconst (x := 0) dX5_refill_39 (by decide) ?_
          refine g_last (r) dX5_refill_40 ⟨by decide, rfl⟩ rfl (show r < 100 by omega) ?_
          exact sw_vret dX5_refill_41 rfl (by omega) (by omega) ⟨rfl, rfl, _, rfl, fun q h1 h2 => by rw [vu_ne _ h2, vu_ne _ h1], fun r1 m1 hm1 => by
  show (if m1 < 64 then bL (vp_updL (B 37) r (0) r1) m1 else bL (vp_updL (B 38) r (0) r1) (m1 - 64)) = (if r1 = r then false else (if m1 < 64 then bL (B 37 r1) m1 else bL (B 38 r1) (m1 - 64)))
  by_cases u : r1 = r
  · subst u
    rw [uL_at, uL_at, if_pos rfl]
    by_cases c : m1 < 64
    · rw [if_pos c]; exact bL_0 _
    · rw [if_neg c]; exact bL_0 _
  · rw [uL_ne _ _ u, uL_ne _ _ u, if_neg u]⟩
        · exact absurd rfl h30
      · exact absurd rfl h13
  | true =>
    refine sw_iload_n dX5_refill_0 rfl ?_
    refine sw_Sv dX5_refill_1 k_X5_18 mf_X5_isPlace (by have z := c_X5_isPlace (l := l) (D := D) (cy := cy) (d := d - 1) (n := n) (f := (gd f s A B o pr)) (nI r); rw [isP_n (show r < 100 by omega)] at z; exact z) (by omega) (by omega) (by omega) rfl rfl (Nat.le_of_ble_eq_true rfl) ?_
    refine sw_if_eq 41 dX5_refill_4 (by decide) (fun h4 => ?_) (fun h4 => ?_)
    · exact absurd h4 (by decide)
    · refine sw_aload_n dX5_refill_7 rfl (by first | rfl | assumption) ?_
      refine sw_get dX5_refill_8 fr_X5_9 rfl rfl ?_
      refine sw_iload_n dX5_refill_11 rfl ?_
      refine sw_iload_n dX5_refill_12 rfl ?_
      refine sw_if_eq 22 dX5_refill_13 (by decide) (fun h13 => ?_) (fun h13 => ?_)
      · exact absurd h13 (by decide)
      · refine sw_ldc2 dX5_refill_16 k_c_X5_29 ?_
        refine sw_goto 23 dX5_refill_19 (by decide) ?_
        refine g_last (r) dX5_refill_23 ⟨by decide, rfl⟩ rfl (show r < 100 by omega) ?_
        refine sw_aload_n dX5_refill_24 rfl (by first | rfl | assumption) ?_
        refine sw_get dX5_refill_25 fr_X5_15 rfl rfl ?_
        refine sw_iload_n dX5_refill_28 rfl ?_
        refine sw_iload_n dX5_refill_29 rfl ?_
        refine sw_if_eq 39 dX5_refill_30 (by decide) (fun h30 => ?_) (fun h30 => ?_)
        · exact absurd h30 (by decide)
        · refine sw_ldc2 dX5_refill_33 k_c_X5_29 ?_
          refine sw_goto 40 dX5_refill_36 (by decide) ?_
          refine g_last (r) dX5_refill_40 ⟨by decide, rfl⟩ rfl (show r < 100 by omega) ?_
          exact sw_vret dX5_refill_41 rfl (by omega) (by omega) ⟨rfl, rfl, _, rfl, fun q h1 h2 => by rw [vu_ne _ h2, vu_ne _ h1], fun r1 m1 hm1 => by
  show (if m1 < 64 then bL (vp_updL (B 37) r (-1) r1) m1 else bL (vp_updL (B 38) r (-1) r1) (m1 - 64)) = (if r1 = r then true else (if m1 < 64 then bL (B 37 r1) m1 else bL (B 38 r1) (m1 - 64)))
  by_cases u : r1 = r
  · subst u
    rw [uL_at, uL_at, if_pos rfl]
    by_cases c : m1 < 64
    · rw [if_pos c]; exact bL_m1 c
    · rw [if_neg c]; exact bL_m1 (by omega)
  · rw [uL_ne _ _ u, uL_ne _ _ u, if_neg u]⟩
set_option maxRecDepth 100000 in
theorem c_X5_narrow {l : Launch} {D : va_G} {cy : Nat → ClassId} {d n : Nat} {f : sw_F} {s : Nat → Int32} {A : Nat → Nat → Int32} {B : Nat → Nat → Int64} {o : Int64} {pr : Value} (hd : 1 ≤ d) {r t : Nat} (hr : r < 100) (ht : t < 100) : sw_Ct l D cy mX5_narrow d 0 0 [.ref 36, .int (nI r), .int (nI t)] n (gd f s A B o pr) (fun r' n' f' => n' = n ∧ ∃ ch B', r' = some (.int (bz ch)) ∧ f' = gd f s A B' o pr ∧ (∀ q, ¬ q = 37 → ¬ q = 38 → B' q = B q) ∧ (∀ r1 m1, m1 < 128 → msk B' 36 r1 m1 = (msk B 36 r1 m1 && (decide (¬ r1 = r) || (msk B 36 t m1 || decide (m1 = r))))) ∧ (ch = false → ∀ r1 m1, m1 < 128 → msk B' 36 r1 m1 = msk B 36 r1 m1) ∧ (ch = true → ∃ m1, m1 < 128 ∧ msk B 36 r m1 = true ∧ msk B' 36 r m1 = false)) := by
  refine sw_of rfl (Nat.le_of_ble_eq_true rfl) ?_
  show SW l D cy mX5_narrow d 0 0 0 0 0 [(0, .ref 36), (1, .int (nI r)), (2, .int (nI t))] [] n (gd f s A B o pr) _ _
  refine sw_iload_n dX5_narrow_0 rfl ?_
  refine sw_Sv dX5_narrow_1 k_X5_18 mf_X5_isPlace (by have z := c_X5_isPlace (l := l) (D := D) (cy := cy) (d := d - 1) (n := n) (f := (gd f s A B o pr)) (nI r); rw [isP_n (show r < 100 by omega)] at z; exact z) (by omega) (by omega) (by omega) rfl rfl (Nat.le_of_ble_eq_true rfl) ?_
  refine sw_if_eq 14 dX5_narrow_4 (by decide) (fun h4 => ?_) (fun h4 => ?_)
  · exact absurd h4 (by decide)
  · refine sw_iload_n dX5_narrow_7 rfl ?_
    refine sw_Sv dX5_narrow_8 k_X5_18 mf_X5_isPlace (by have z := c_X5_isPlace (l := l) (D := D) (cy := cy) (d := d - 1) (n := n) (f := (gd f s A B o pr)) (nI t); rw [isP_n (show t < 100 by omega)] at z; exact z) (by omega) (by omega) (by omega) rfl rfl (Nat.le_of_ble_eq_true rfl) ?_
    refine sw_if_ne 16 dX5_narrow_11 (by decide) (fun h11 => ?_) (fun h11 => ?_)
    · refine sw_aload_n dX5_narrow_16 rfl (by first | rfl | assumption) ?_
      refine sw_get dX5_narrow_17 fr_X5_9 rfl rfl ?_
      refine sw_iload_n dX5_narrow_20 rfl ?_
      refine sw_laldN (r) dX5_narrow_21 rfl rfl (show r < 100 by omega) (by decide) ?_
      refine sw_aload_n dX5_narrow_22 rfl (by first | rfl | assumption) ?_
      refine sw_get dX5_narrow_23 fr_X5_9 rfl rfl ?_
      refine sw_iload_n dX5_narrow_26 rfl ?_
      refine sw_laldN (t) dX5_narrow_27 rfl rfl (show t < 100 by omega) (by decide) ?_
      refine sw_iload_n dX5_narrow_28 rfl ?_
      refine sw_callS dX5_narrow_29 k_X5_22 mf_X5_lowBit (c_X5_lowBit (d := d - 1) (i := r) (by omega)) (by omega) ⟨by omega, by omega⟩ rfl rfl (Nat.le_of_ble_eq_true rfl) (fun r' n' f' hq _ => ?_)
      obtain ⟨hn, hf, y1, hr, hy1⟩ := hq
      have hn := hn.symm
      subst hn
      subst hr
      subst hf
      show SW l D cy mX5_narrow d 0 0 0 0 32 [(0, .ref 36), (1, .int (nI r)), (2, .int (nI t))] [.long y1, .long (B 37 t), .long (B 37 r)] n (gd f s A B o pr) _ _
      refine sw_lor dX5_narrow_32 ?_
      refine sw_land dX5_narrow_33 ?_
      refine sw_lstore_n [(0, _), (1, _), (2, _), (3, _)] dX5_narrow_34 (by decide) rfl ?_
      refine sw_aload_n dX5_narrow_35 rfl (by first | rfl | assumption) ?_
      refine sw_get dX5_narrow_36 fr_X5_15 rfl rfl ?_
      refine sw_iload_n dX5_narrow_39 rfl ?_
      refine sw_laldN (r) dX5_narrow_40 rfl rfl (show r < 100 by omega) (by decide) ?_
      refine sw_aload_n dX5_narrow_41 rfl (by first | rfl | assumption) ?_
      refine sw_get dX5_narrow_42 fr_X5_15 rfl rfl ?_
      refine sw_iload_n dX5_narrow_45 rfl ?_
      refine sw_laldN (t) dX5_narrow_46 rfl rfl (show t < 100 by omega) (by decide) ?_
      refine sw_iload_n dX5_narrow_47 rfl ?_
      refine sw_callS dX5_narrow_48 k_X5_26 mf_X5_highBit (c_X5_highBit (d := d - 1) (i := r) (by omega)) (by omega) ⟨by omega, by omega⟩ rfl rfl (Nat.le_of_ble_eq_true rfl) (fun r' n' f' hq _ => ?_)
      obtain ⟨hn, hf, y2, hr, hy2⟩ := hq
      have hn := hn.symm
      subst hn
      subst hr
      subst hf
      have key : ∀ r1 m1, m1 < 128 → (if m1 < 64 then bL (vp_updL (B 37) r (B 37 r &&& (B 37 t ||| y1)) r1) m1 else bL (vp_updL (B 38) r (B 38 r &&& (B 38 t ||| y2)) r1) (m1 - 64)) = (msk B 36 r1 m1 && (decide (¬ r1 = r) || (msk B 36 t m1 || decide (m1 = r)))) := fun r1 m1 hm1 => by
        show _ = ((if m1 < 64 then bL (B 37 r1) m1 else bL (B 38 r1) (m1 - 64)) && (decide (¬ r1 = r) || ((if m1 < 64 then bL (B 37 t) m1 else bL (B 38 t) (m1 - 64)) || decide (m1 = r))))
        by_cases u : r1 = r
        · subst u
          rw [uL_at, uL_at, show decide (¬ r1 = r1) = false from decide_eq_false (fun z => z rfl), Bool.false_or]
          by_cases c : m1 < 64
          · rw [if_pos c, if_pos c, if_pos c, bL_and, bL_or, hy1 m1 c]
          · rw [if_neg c, if_neg c, if_neg c, bL_and, bL_or, hy2 _ (by omega), show decide (m1 - 64 + 64 = r1) = decide (m1 = r1) from decide_eq_decide.mpr (by omega)]
        · rw [uL_ne _ _ u, uL_ne _ _ u, show decide (¬ r1 = r) = true from decide_eq_true (p := ¬ r1 = r) u, Bool.true_or, Bool.and_true]
      have wit : ∀ x y : Int64, ¬ (x &&& y) = x → ∃ j, j < 64 ∧ bL x j = true ∧ bL (x &&& y) j = false := fun x y h => by
        by_cases u : ∃ j, j < 64 ∧ bL x j = true ∧ bL (x &&& y) j = false
        · exact u
        · refine absurd (bL_ext (fun j hj => ?_)) h
          cases hx : bL x j with
          | false => rw [bL_and, hx]; rfl
          | true =>
            cases hz : bL (x &&& y) j with
            | true => rfl
            | false => exact absurd ⟨j, hj, hx, hz⟩ u
      show SW l D cy mX5_narrow d 0 0 0 0 51 [(0, .ref 36), (1, .int (nI r)), (2, .int (nI t)), (3, .long (B 37 r &&& (B 37 t ||| y1)))] [.long y2, .long (B 38 t), .long (B 38 r)] n (gd f s A B o pr) _ _
      refine sw_lor dX5_narrow_51 ?_
      refine sw_land dX5_narrow_52 ?_
      refine sw_lstore [(0, _), (1, _), (2, _), (3, _), (5, _)] dX5_narrow_53 (by decide) rfl ?_
      refine sw_lload_n dX5_narrow_55 rfl ?_
      refine sw_aload_n dX5_narrow_56 rfl (by first | rfl | assumption) ?_
      refine sw_get dX5_narrow_57 fr_X5_9 rfl rfl ?_
      refine sw_iload_n dX5_narrow_60 rfl ?_
      refine sw_laldN (r) dX5_narrow_61 rfl rfl (show r < 100 by omega) (by decide) ?_
      refine sw_lcmp dX5_narrow_62 ?_
      refine sw_if_ne 78 dX5_narrow_63 (by decide) (fun h63 => ?_) (fun h63 => ?_)
      · refine sw_iconst (x := 1) dX5_narrow_78 (by decide) ?_
        refine sw_goto 83 dX5_narrow_79 (by decide) ?_
        refine sw_istore [(0, _), (1, _), (2, _), (3, _), (5, _), (7, _)] dX5_narrow_83 (by decide) rfl ?_
        refine sw_aload_n dX5_narrow_85 rfl (by first | rfl | assumption) ?_
        refine sw_get dX5_narrow_86 fr_X5_9 rfl rfl ?_
        refine sw_iload_n dX5_narrow_89 rfl ?_
        refine sw_lload_n dX5_narrow_90 rfl ?_
        refine g_last (r) dX5_narrow_91 ⟨by decide, rfl⟩ rfl (show r < 100 by omega) ?_
        refine sw_aload_n dX5_narrow_92 rfl (by first | rfl | assumption) ?_
        refine sw_get dX5_narrow_93 fr_X5_15 rfl rfl ?_
        refine sw_iload_n dX5_narrow_96 rfl ?_
        refine sw_lload dX5_narrow_97 rfl ?_
        refine g_last (r) dX5_narrow_99 ⟨by decide, rfl⟩ rfl (show r < 100 by omega) ?_
        refine sw_iload dX5_narrow_100 rfl ?_
        exact sw_iret dX5_narrow_102 rfl (by first | rfl | exact bz_n _) (by omega) (by omega) ⟨rfl, true, _, rfl, rfl, fun q h1 h2 => by rw [vu_ne _ h2, vu_ne _ h1], key, fun h => Bool.noConfusion (show true = false from h), fun _ => by
        obtain ⟨j, hj, e1, e2⟩ := wit (B 37 r) (B 37 t ||| y1) (fun q => h63 (lg_0.mpr q))
        refine ⟨j, by omega, ?_, ?_⟩
        · show (if j < 64 then bL (B 37 r) j else _) = true
          rw [if_pos hj]; exact e1
        · show (if j < 64 then bL (vp_updL (B 37) r (B 37 r &&& (B 37 t ||| y1)) r) j else _) = false
          rw [if_pos hj, uL_at]; exact e2⟩
      · refine sw_lload dX5_narrow_66 rfl ?_
        refine sw_aload_n dX5_narrow_68 rfl (by first | rfl | assumption) ?_
        refine sw_get dX5_narrow_69 fr_X5_15 rfl rfl ?_
        refine sw_iload_n dX5_narrow_72 rfl ?_
        refine sw_laldN (r) dX5_narrow_73 rfl rfl (show r < 100 by omega) (by decide) ?_
        refine sw_lcmp dX5_narrow_74 ?_
        refine sw_if_eq 82 dX5_narrow_75 (by decide) (fun h75 => ?_) (fun h75 => ?_)
        · refine sw_iconst (x := 0) dX5_narrow_82 (by decide) ?_
          refine sw_istore [(0, _), (1, _), (2, _), (3, _), (5, _), (7, _)] dX5_narrow_83 (by decide) rfl ?_
          refine sw_aload_n dX5_narrow_85 rfl (by first | rfl | assumption) ?_
          refine sw_get dX5_narrow_86 fr_X5_9 rfl rfl ?_
          refine sw_iload_n dX5_narrow_89 rfl ?_
          refine sw_lload_n dX5_narrow_90 rfl ?_
          refine g_last (r) dX5_narrow_91 ⟨by decide, rfl⟩ rfl (show r < 100 by omega) ?_
          refine sw_aload_n dX5_narrow_92 rfl (by first | rfl | assumption) ?_
          refine sw_get dX5_narrow_93 fr_X5_15 rfl rfl ?_
          refine sw_iload_n dX5_narrow_96 rfl ?_
          refine sw_lload dX5_narrow_97 rfl ?_
          refine g_last (r) dX5_narrow_99 ⟨by decide, rfl⟩ rfl (show r < 100 by omega) ?_
          refine sw_iload dX5_narrow_100 rfl ?_
          exact sw_iret dX5_narrow_102 rfl (by first | rfl | exact bz_n _) (by omega) (by omega) ⟨rfl, false, _, rfl, rfl, fun q h1 h2 => by rw [vu_ne _ h2, vu_ne _ h1], key, fun _ r1 m1 hm1 => by
        show (if m1 < 64 then bL (vp_updL (B 37) r (B 37 r &&& (B 37 t ||| y1)) r1) m1 else bL (vp_updL (B 38) r (B 38 r &&& (B 38 t ||| y2)) r1) (m1 - 64)) = (if m1 < 64 then bL (B 37 r1) m1 else bL (B 38 r1) (m1 - 64))
        rw [lg_0.mp h63, lg_0.mp h75]
        by_cases u : r1 = r
        · subst u; rw [uL_at, uL_at]
        · rw [uL_ne _ _ u, uL_ne _ _ u], fun h => Bool.noConfusion (show false = true from h)⟩
        · refine sw_iconst (x := 1) dX5_narrow_78 (by decide) ?_
          refine sw_goto 83 dX5_narrow_79 (by decide) ?_
          refine sw_istore [(0, _), (1, _), (2, _), (3, _), (5, _), (7, _)] dX5_narrow_83 (by decide) rfl ?_
          refine sw_aload_n dX5_narrow_85 rfl (by first | rfl | assumption) ?_
          refine sw_get dX5_narrow_86 fr_X5_9 rfl rfl ?_
          refine sw_iload_n dX5_narrow_89 rfl ?_
          refine sw_lload_n dX5_narrow_90 rfl ?_
          refine g_last (r) dX5_narrow_91 ⟨by decide, rfl⟩ rfl (show r < 100 by omega) ?_
          refine sw_aload_n dX5_narrow_92 rfl (by first | rfl | assumption) ?_
          refine sw_get dX5_narrow_93 fr_X5_15 rfl rfl ?_
          refine sw_iload_n dX5_narrow_96 rfl ?_
          refine sw_lload dX5_narrow_97 rfl ?_
          refine g_last (r) dX5_narrow_99 ⟨by decide, rfl⟩ rfl (show r < 100 by omega) ?_
          refine sw_iload dX5_narrow_100 rfl ?_
          exact sw_iret dX5_narrow_102 rfl (by first | rfl | exact bz_n _) (by omega) (by omega) ⟨rfl, true, _, rfl, rfl, fun q h1 h2 => by rw [vu_ne _ h2, vu_ne _ h1], key, fun h => Bool.noConfusion (show true = false from h), fun _ => by
        obtain ⟨j, hj, e1, e2⟩ := wit (B 38 r) (B 38 t ||| y2) (fun q => h75 (lg_0.mpr q))
        refine ⟨j + 64, by omega, ?_, ?_⟩
        · show (if j + 64 < 64 then _ else bL (B 38 r) (j + 64 - 64)) = true
          rw [if_neg (by omega), show j + 64 - 64 = j by omega]; exact e1
        · show (if j + 64 < 64 then _ else bL (vp_updL (B 38) r (B 38 r &&& (B 38 t ||| y2)) r) (j + 64 - 64)) = false
          rw [if_neg (by omega), uL_at, show j + 64 - 64 = j by omega]; exact e2⟩
    · exact absurd h11 (by decide)
set_option maxRecDepth 100000 in
theorem c_X5_narrow0 {l : Launch} {D : va_G} {cy : Nat → ClassId} {d n : Nat} {f : sw_F} {s : Nat → Int32} {A : Nat → Nat → Int32} {B : Nat → Nat → Int64} {o : Int64} {pr : Value} (hd : 1 ≤ d) {r : Nat} (hr : r < 100) : sw_Ct l D cy mX5_narrow d 0 0 [.ref 36, .int (nI r), .int (-1)] n (gd f s A B o pr) (sw_D (some (.int 0)) n (gd f s A B o pr)) := by
  refine sw_of rfl (Nat.le_of_ble_eq_true rfl) ?_
  show SW l D cy mX5_narrow d 0 0 0 0 0 [(0, .ref 36), (1, .int (nI r)), (2, .int (-1))] [] n (gd f s A B o pr) _ _
  refine sw_iload_n dX5_narrow_0 rfl ?_
  refine sw_Sv dX5_narrow_1 k_X5_18 mf_X5_isPlace (by have z := c_X5_isPlace (l := l) (D := D) (cy := cy) (d := d - 1) (n := n) (f := (gd f s A B o pr)) (nI r); rw [isP_n (show r < 100 by omega)] at z; exact z) (by omega) (by omega) (by omega) rfl rfl (Nat.le_of_ble_eq_true rfl) ?_
  refine sw_if_eq 14 dX5_narrow_4 (by decide) (fun h4 => ?_) (fun h4 => ?_)
  · exact absurd h4 (by decide)
  · refine sw_iload_n dX5_narrow_7 rfl ?_
    refine sw_Sv dX5_narrow_8 k_X5_18 mf_X5_isPlace (by have z := c_X5_isPlace (l := l) (D := D) (cy := cy) (d := d - 1) (n := n) (f := (gd f s A B o pr)) (-1); rw [isP_m1] at z; exact z) (by omega) (by omega) (by omega) rfl rfl (Nat.le_of_ble_eq_true rfl) ?_
    refine sw_if_ne 16 dX5_narrow_11 (by decide) (fun h11 => ?_) (fun h11 => ?_)
    · exact absurd rfl h11
    · refine sw_iconst (x := 0) dX5_narrow_14 (by decide) ?_
      exact sw_iret dX5_narrow_15 rfl (by first | rfl | exact bz_n _) (by omega) (by omega) ⟨rfl, rfl, rfl⟩
set_option maxRecDepth 100000 in
theorem c_X5_has39 {l : Launch} {D : va_G} {cy : Nat → ClassId} {d n : Nat} {f : sw_F} {s : Nat → Int32} {A : Nat → Nat → Int32} {B : Nat → Nat → Int64} {o : Int64} {pr : Value} (hd : 1 ≤ d) {r m : Nat} (hr : r < 100) (hm : m < 100) : sw_Ct l D cy mX5_has d 0 0 [.ref 39, .int (nI r), .int (nI m)] n (gd f s A B o pr) (sw_D (some (.int (bz (msk B 39 r m)))) n (gd f s A B o pr)) := by
  refine sw_of rfl (Nat.le_of_ble_eq_true rfl) ?_
  show SW l D cy mX5_has d 0 0 0 0 0 [(0, .ref 39), (1, .int (nI r)), (2, .int (nI m))] [] n (gd f s A B o pr) _ _
  refine sw_iload_n dX5_has_0 rfl ?_
  refine sw_Sv dX5_has_1 k_X5_18 mf_X5_isPlace (by have z := c_X5_isPlace (l := l) (D := D) (cy := cy) (d := d - 1) (n := n) (f := (gd f s A B o pr)) (nI r); rw [isP_n (show r < 100 by omega)] at z; exact z) (by omega) (by omega) (by omega) rfl rfl (Nat.le_of_ble_eq_true rfl) ?_
  refine sw_if_eq 46 dX5_has_4 (by decide) (fun h4 => ?_) (fun h4 => ?_)
  · exact absurd h4 (by decide)
  · refine sw_iload_n dX5_has_7 rfl ?_
    refine sw_Sv dX5_has_8 k_X5_18 mf_X5_isPlace (by have z := c_X5_isPlace (l := l) (D := D) (cy := cy) (d := d - 1) (n := n) (f := (gd f s A B o pr)) (nI m); rw [isP_n (show m < 100 by omega)] at z; exact z) (by omega) (by omega) (by omega) rfl rfl (Nat.le_of_ble_eq_true rfl) ?_
    refine sw_if_eq 46 dX5_has_11 (by decide) (fun h11 => ?_) (fun h11 => ?_)
    · exact absurd h11 (by decide)
    · refine sw_aload_n dX5_has_14 rfl (by first | rfl | assumption) ?_
      refine sw_get dX5_has_15 fr_X5_9 rfl rfl ?_
      refine sw_iload_n dX5_has_18 rfl ?_
      refine sw_laldN (r) dX5_has_19 rfl rfl (show r < 100 by omega) (by decide) ?_
      refine sw_iload_n dX5_has_20 rfl ?_
      refine sw_callS dX5_has_21 k_X5_22 mf_X5_lowBit (c_X5_lowBit (d := d - 1) (i := m) (by omega)) (by omega) ⟨by omega, by omega⟩ rfl rfl (Nat.le_of_ble_eq_true rfl) (fun r' n' f' hq _ => ?_)
      obtain ⟨hn, hf, y1, hr, hy1⟩ := hq
      have hn := hn.symm
      subst hn
      subst hr
      subst hf
      show SW l D cy mX5_has d 0 0 0 0 24 [(0, .ref 39), (1, .int (nI r)), (2, .int (nI m))] [.long y1, .long (B 40 r)] n (gd f s A B o pr) _ _
      refine sw_land dX5_has_24 ?_
      refine sw_aload_n dX5_has_25 rfl (by first | rfl | assumption) ?_
      refine sw_get dX5_has_26 fr_X5_15 rfl rfl ?_
      refine sw_iload_n dX5_has_29 rfl ?_
      refine sw_laldN (r) dX5_has_30 rfl rfl (show r < 100 by omega) (by decide) ?_
      refine sw_iload_n dX5_has_31 rfl ?_
      refine sw_callS dX5_has_32 k_X5_26 mf_X5_highBit (c_X5_highBit (d := d - 1) (i := m) (by omega)) (by omega) ⟨by omega, by omega⟩ rfl rfl (Nat.le_of_ble_eq_true rfl) (fun r' n' f' hq _ => ?_)
      obtain ⟨hn, hf, y2, hr, hy2⟩ := hq
      have hn := hn.symm
      subst hn
      subst hr
      subst hf
      have mh : msk B 39 r m = decide (¬ ((B 40 r &&& y1) ||| (B 41 r &&& y2)) = 0) := by
        have e : ∀ j, j < 64 → bL ((B 40 r &&& y1) ||| (B 41 r &&& y2)) j = ((bL (B 40 r) j && decide (j = m)) || (bL (B 41 r) j && decide (j + 64 = m))) := fun j hj => by rw [bL_or, bL_and, bL_and, hy1 j hj, hy2 j hj]
        show (if m < 64 then bL (B 40 r) m else bL (B 41 r) (m - 64)) = _
        by_cases c : m < 64
        · rw [if_pos c]
          cases hb : bL (B 40 r) m with
          | true => exact (decide_eq_true (p := ¬ ((B 40 r &&& y1) ||| (B 41 r &&& y2)) = 0) (fun q => by have z := e m c; rw [q, bL_0, hb, decide_eq_true rfl] at z; exact absurd z (by simp))).symm
          | false => exact (decide_eq_false (fun q => q (bL_ext (fun j hj => by
              rw [e j hj, bL_0]
              by_cases u : j = m
              · subst u; rw [hb, decide_eq_false (show ¬ j + 64 = j by omega)]; simp
              · rw [decide_eq_false u, decide_eq_false (show ¬ j + 64 = m by omega)]; simp)))).symm
        · rw [if_neg c]
          cases hb : bL (B 41 r) (m - 64) with
          | true => exact (decide_eq_true (p := ¬ ((B 40 r &&& y1) ||| (B 41 r &&& y2)) = 0) (fun q => by have z := e (m - 64) (by omega); rw [q, bL_0, hb, decide_eq_true (show m - 64 + 64 = m by omega)] at z; exact absurd z (by simp))).symm
          | false => exact (decide_eq_false (fun q => q (bL_ext (fun j hj => by
              rw [e j hj, bL_0]
              by_cases u : j = m - 64
              · subst u; rw [hb, decide_eq_false (show ¬ m - 64 = m by omega)]; simp
              · rw [decide_eq_false (show ¬ j = m by omega), decide_eq_false (show ¬ j + 64 = m by omega)]; simp)))).symm
      show SW l D cy mX5_has d 0 0 0 0 35 [(0, .ref 39), (1, .int (nI r)), (2, .int (nI m))] [.long y2, .long (B 41 r), .long (B 40 r &&& y1)] n (gd f s A B o pr) _ _
      refine sw_land dX5_has_35 ?_
      refine sw_lor dX5_has_36 ?_
      refine sw_lconst (x := 0) dX5_has_37 (by decide) ?_
      refine sw_lcmp dX5_has_38 ?_
      refine sw_if_eq 46 dX5_has_39 (by decide) (fun h39 => ?_) (fun h39 => ?_)
      · refine sw_iconst (x := 0) dX5_has_46 (by decide) ?_
        exact sw_iret dX5_has_47 rfl (by first | rfl | exact bz_n _) (by omega) (by omega) ⟨by rw [mh, decide_eq_false (fun q => q (lg_0.mp h39))]; rfl, rfl, rfl⟩
      · refine sw_iconst (x := 1) dX5_has_42 (by decide) ?_
        refine sw_goto 47 dX5_has_43 (by decide) ?_
        exact sw_iret dX5_has_47 rfl (by first | rfl | exact bz_n _) (by omega) (by omega) ⟨by rw [mh, decide_eq_true (p := ¬ ((B 40 r &&& y1) ||| (B 41 r &&& y2)) = 0) (fun q => h39 (lg_0.mpr q))]; rfl, rfl, rfl⟩
set_option maxRecDepth 100000 in
theorem c_X5_add39 {l : Launch} {D : va_G} {cy : Nat → ClassId} {d n : Nat} {f : sw_F} {s : Nat → Int32} {A : Nat → Nat → Int32} {B : Nat → Nat → Int64} {o : Int64} {pr : Value} (hd : 1 ≤ d) {r m : Nat} (hr : r < 100) (hm : m < 100) : sw_Ct l D cy mX5_add d 0 0 [.ref 39, .int (nI r), .int (nI m)] n (gd f s A B o pr) (fun r' n' f' => r' = none ∧ n' = n ∧ ∃ B', f' = gd f s A B' o pr ∧ (∀ q, ¬ q = 40 → ¬ q = 41 → B' q = B q) ∧ ∀ r1 m1, m1 < 128 → msk B' 39 r1 m1 = (msk B 39 r1 m1 || decide (r1 = r ∧ m1 = m))) := by
  refine sw_of rfl (Nat.le_of_ble_eq_true rfl) ?_
  show SW l D cy mX5_add d 0 0 0 0 0 [(0, .ref 39), (1, .int (nI r)), (2, .int (nI m))] [] n (gd f s A B o pr) _ _
  refine sw_iload_n dX5_add_0 rfl ?_
  refine sw_Sv dX5_add_1 k_X5_18 mf_X5_isPlace (by have z := c_X5_isPlace (l := l) (D := D) (cy := cy) (d := d - 1) (n := n) (f := (gd f s A B o pr)) (nI r); rw [isP_n (show r < 100 by omega)] at z; exact z) (by omega) (by omega) (by omega) rfl rfl (Nat.le_of_ble_eq_true rfl) ?_
  refine sw_if_eq 40 dX5_add_4 (by decide) (fun h4 => ?_) (fun h4 => ?_)
  · exact absurd h4 (by decide)
  · refine sw_iload_n dX5_add_7 rfl ?_
    refine sw_Sv dX5_add_8 k_X5_18 mf_X5_isPlace (by have z := c_X5_isPlace (l := l) (D := D) (cy := cy) (d := d - 1) (n := n) (f := (gd f s A B o pr)) (nI m); rw [isP_n (show m < 100 by omega)] at z; exact z) (by omega) (by omega) (by omega) rfl rfl (Nat.le_of_ble_eq_true rfl) ?_
    refine sw_if_eq 40 dX5_add_11 (by decide) (fun h11 => ?_) (fun h11 => ?_)
    · exact absurd h11 (by decide)
    · refine sw_aload_n dX5_add_14 rfl (by first | rfl | assumption) ?_
      refine sw_get dX5_add_15 fr_X5_9 rfl rfl ?_
      refine sw_iload_n dX5_add_18 rfl ?_
      refine sw_dup2 dX5_add_19 rfl rfl ?_
      refine sw_laldN (r) dX5_add_20 rfl rfl (show r < 100 by omega) (by decide) ?_
      refine sw_iload_n dX5_add_21 rfl ?_
      refine sw_callS dX5_add_22 k_X5_22 mf_X5_lowBit (c_X5_lowBit (d := d - 1) (i := m) (by omega)) (by omega) ⟨by omega, by omega⟩ rfl rfl (Nat.le_of_ble_eq_true rfl) (fun r' n' f' hq _ => ?_)
      obtain ⟨hn, hf, y1, hr, hy1⟩ := hq
      have hn := hn.symm
      subst hn
      subst hr
      subst hf
      show SW l D cy mX5_add d 0 0 0 0 25 [(0, .ref 39), (1, .int (nI r)), (2, .int (nI m))] [.long y1, .long (B 40 r), .int (nI r), .ref 40] n (gd f s A B o pr) _ _
      refine sw_lor dX5_add_25 ?_
      refine g_last (r) dX5_add_26 ⟨by decide, rfl⟩ rfl (show r < 100 by omega) ?_
      refine sw_aload_n dX5_add_27 rfl (by first | rfl | assumption) ?_
      refine sw_get dX5_add_28 fr_X5_15 rfl rfl ?_
      refine sw_iload_n dX5_add_31 rfl ?_
      refine sw_dup2 dX5_add_32 rfl rfl ?_
      refine sw_laldN (r) dX5_add_33 rfl rfl (show r < 100 by omega) (by decide) ?_
      refine sw_iload_n dX5_add_34 rfl ?_
      refine sw_callS dX5_add_35 k_X5_26 mf_X5_highBit (c_X5_highBit (d := d - 1) (i := m) (by omega)) (by omega) ⟨by omega, by omega⟩ rfl rfl (Nat.le_of_ble_eq_true rfl) (fun r' n' f' hq _ => ?_)
      obtain ⟨hn, hf, y2, hr, hy2⟩ := hq
      have hn := hn.symm
      subst hn
      subst hr
      subst hf
      show SW l D cy mX5_add d 0 0 0 0 38 [(0, .ref 39), (1, .int (nI r)), (2, .int (nI m))] [.long y2, .long (B 41 r), .int (nI r), .ref 41] n (gd f s A (va_up B 40 (vp_updL (B 40) r (B 40 r ||| y1))) o pr) _ _
      refine sw_lor dX5_add_38 ?_
      refine g_last (r) dX5_add_39 ⟨by decide, rfl⟩ rfl (show r < 100 by omega) ?_
      exact sw_vret dX5_add_40 rfl (by omega) (by omega) ⟨rfl, rfl, _, rfl, fun q h1 h2 => by rw [vu_ne _ h2, vu_ne _ h1], fun r1 m1 hm1 => by
        show (if m1 < 64 then bL (vp_updL (B 40) r (B 40 r ||| y1) r1) m1 else bL (vp_updL (B 41) r (B 41 r ||| y2) r1) (m1 - 64)) = ((if m1 < 64 then bL (B 40 r1) m1 else bL (B 41 r1) (m1 - 64)) || decide (r1 = r ∧ m1 = m))
        by_cases u : r1 = r
        · subst u
          rw [uL_at, uL_at]
          by_cases c : m1 < 64
          · rw [if_pos c, if_pos c, bL_or, hy1 m1 c, show decide (m1 = m) = decide (r1 = r1 ∧ m1 = m) from decide_eq_decide.mpr (by omega)]
          · rw [if_neg c, if_neg c, bL_or, hy2 _ (by omega), show decide (m1 - 64 + 64 = m) = decide (r1 = r1 ∧ m1 = m) from decide_eq_decide.mpr (by omega)]
        · rw [uL_ne _ _ u, uL_ne _ _ u, decide_eq_false (show ¬ (r1 = r ∧ m1 = m) from fun z => u z.1), Bool.or_false]⟩
set_option maxRecDepth 100000 in
theorem c_X5_refill39 {l : Launch} {D : va_G} {cy : Nat → ClassId} {d n : Nat} {f : sw_F} {s : Nat → Int32} {A : Nat → Nat → Int32} {B : Nat → Nat → Int64} {o : Int64} {pr : Value} (hd : 1 ≤ d) {r : Nat} (hr : r < 100) (b : Bool) : sw_Ct l D cy mX5_refill d 0 0 [.ref 39, .int (nI r), .int (bz b)] n (gd f s A B o pr) (fun r' n' f' => r' = none ∧ n' = n ∧ ∃ B', f' = gd f s A B' o pr ∧ (∀ q, ¬ q = 40 → ¬ q = 41 → B' q = B q) ∧ ∀ r1 m1, m1 < 128 → msk B' 39 r1 m1 = (if r1 = r then b else msk B 39 r1 m1)) := by
  refine sw_of rfl (Nat.le_of_ble_eq_true rfl) ?_
  show SW l D cy mX5_refill d 0 0 0 0 0 [(0, .ref 39), (1, .int (nI r)), (2, .int (bz b))] [] n (gd f s A B o pr) _ _
  cases b with
  | false =>
    refine sw_iload_n dX5_refill_0 rfl ?_
    refine sw_Sv dX5_refill_1 k_X5_18 mf_X5_isPlace (by have z := c_X5_isPlace (l := l) (D := D) (cy := cy) (d := d - 1) (n := n) (f := (gd f s A B o pr)) (nI r); rw [isP_n (show r < 100 by omega)] at z; exact z) (by omega) (by omega) (by omega) rfl rfl (Nat.le_of_ble_eq_true rfl) ?_
    refine sw_if_eq 41 dX5_refill_4 (by decide) (fun h4 => ?_) (fun h4 => ?_)
    · exact absurd h4 (by decide)
    · refine sw_aload_n dX5_refill_7 rfl (by first | rfl | assumption) ?_
      refine sw_get dX5_refill_8 fr_X5_9 rfl rfl ?_
      refine sw_iload_n dX5_refill_11 rfl ?_
      refine sw_iload_n dX5_refill_12 rfl ?_
      refine sw_if_eq 22 dX5_refill_13 (by decide) (fun h13 => ?_) (fun h13 => ?_)
      · refine sw_lconst (x := 0) dX5_refill_22 (by decide) ?_
        refine g_last (r) dX5_refill_23 ⟨by decide, rfl⟩ rfl (show r < 100 by omega) ?_
        refine sw_aload_n dX5_refill_24 rfl (by first | rfl | assumption) ?_
        refine sw_get dX5_refill_25 fr_X5_15 rfl rfl ?_
        refine sw_iload_n dX5_refill_28 rfl ?_
        refine sw_iload_n dX5_refill_29 rfl ?_
        refine sw_if_eq 39 dX5_refill_30 (by decide) (fun h30 => ?_) (fun h30 => ?_)
        · refine sw_lconst (x := 0) dX5_refill_39 (by decide) ?_
          refine g_last (r) dX5_refill_40 ⟨by decide, rfl⟩ rfl (show r < 100 by omega) ?_
          exact sw_vret dX5_refill_41 rfl (by omega) (by omega) ⟨rfl, rfl, _, rfl, fun q h1 h2 => by rw [vu_ne _ h2, vu_ne _ h1], fun r1 m1 hm1 => by
  show (if m1 < 64 then bL (vp_updL (B 40) r (0) r1) m1 else bL (vp_updL (B 41) r (0) r1) (m1 - 64)) = (if r1 = r then false else (if m1 < 64 then bL (B 40 r1) m1 else bL (B 41 r1) (m1 - 64)))
  by_cases u : r1 = r
  · subst u
    rw [uL_at, uL_at, if_pos rfl]
    by_cases c : m1 < 64
    · rw [if_pos c]; exact bL_0 _
    · rw [if_neg c]; exact bL_0 _
  · rw [uL_ne _ _ u, uL_ne _ _ u, if_neg u]⟩
        · exact absurd rfl h30
      · exact absurd rfl h13
  | true =>
    refine sw_iload_n dX5_refill_0 rfl ?_
    refine sw_Sv dX5_refill_1 k_X5_18 mf_X5_isPlace (by have z := c_X5_isPlace (l := l) (D := D) (cy := cy) (d := d - 1) (n := n) (f := (gd f s A B o pr)) (nI r); rw [isP_n (show r < 100 by omega)] at z; exact z) (by omega) (by omega) (by omega) rfl rfl (Nat.le_of_ble_eq_true rfl) ?_
    refine sw_if_eq 41 dX5_refill_4 (by decide) (fun h4 => ?_) (fun h4 => ?_)
    · exact absurd h4 (by decide)
    · refine sw_aload_n dX5_refill_7 rfl (by first | rfl | assumption) ?_
      refine sw_get dX5_refill_8 fr_X5_9 rfl rfl ?_
      refine sw_iload_n dX5_refill_11 rfl ?_
      refine sw_iload_n dX5_refill_12 rfl ?_
      refine sw_if_eq 22 dX5_refill_13 (by decide) (fun h13 => ?_) (fun h13 => ?_)
      · exact absurd h13 (by decide)
      · refine sw_ldc2 dX5_refill_16 k_c_X5_29 ?_
        refine sw_goto 23 dX5_refill_19 (by decide) ?_
        refine g_last (r) dX5_refill_23 ⟨by decide, rfl⟩ rfl (show r < 100 by omega) ?_
        refine sw_aload_n dX5_refill_24 rfl (by first | rfl | assumption) ?_
        refine sw_get dX5_refill_25 fr_X5_15 rfl rfl ?_
        refine sw_iload_n dX5_refill_28 rfl ?_
        refine sw_iload_n dX5_refill_29 rfl ?_
        refine sw_if_eq 39 dX5_refill_30 (by decide) (fun h30 => ?_) (fun h30 => ?_)
        · exact absurd h30 (by decide)
        · refine sw_ldc2 dX5_refill_33 k_c_X5_29 ?_
          refine sw_goto 40 dX5_refill_36 (by decide) ?_
          refine g_last (r) dX5_refill_40 ⟨by decide, rfl⟩ rfl (show r < 100 by omega) ?_
          exact sw_vret dX5_refill_41 rfl (by omega) (by omega) ⟨rfl, rfl, _, rfl, fun q h1 h2 => by rw [vu_ne _ h2, vu_ne _ h1], fun r1 m1 hm1 => by
  show (if m1 < 64 then bL (vp_updL (B 40) r (-1) r1) m1 else bL (vp_updL (B 41) r (-1) r1) (m1 - 64)) = (if r1 = r then true else (if m1 < 64 then bL (B 40 r1) m1 else bL (B 41 r1) (m1 - 64)))
  by_cases u : r1 = r
  · subst u
    rw [uL_at, uL_at, if_pos rfl]
    by_cases c : m1 < 64
    · rw [if_pos c]; exact bL_m1 c
    · rw [if_neg c]; exact bL_m1 (by omega)
  · rw [uL_ne _ _ u, uL_ne _ _ u, if_neg u]⟩
