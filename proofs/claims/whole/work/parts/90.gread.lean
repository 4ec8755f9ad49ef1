/-! ===== THE CLASS: Reader ===== -/
def rS (s : Nat → Int32) (p : Nat) (e : Int32) : Nat → Int32 := va_up (va_up s 8 (nI p)) 9 e
theorem rS_p (s : Nat → Int32) (p q : Nat) (e : Int32) : va_up (rS s p e) 8 (nI q) = rS s q e := by
  unfold rS
  rw [vu_so _ (show 8 < 9 by decide), vu_up]
theorem rS_e (s : Nat → Int32) (p : Nat) (e e' : Int32) : va_up (rS s p e) 9 e' = rS s p e' := vu_up _ _ _ _
/-- the text: its length, its characters -/
def TC (s : Nat → Int32) (TX : Nat → Int32) (T : Nat) : Prop := s 7 = nI T ∧ T ≤ 72 ∧ ∀ j, j < T → 32 ≤ TX j ∧ TX j ≤ 126
def cc (TX : Nat → Int32) (T p : Nat) : Int32 := if p < T then TX p else -1
theorem cc_eq {s TX : Nat → Int32} {T p : Nat} (h : TC s TX T) {c : Int32} (hc0 : ¬ c = 0) (hc1 : ¬ c = -1) : cc TX T p = c ↔ hc TX T p = c := by
  unfold cc hc
  by_cases z : p < T
  · rw [if_pos z, if_pos z]
  · rw [if_neg z, if_neg z]
    exact ⟨fun q => absurd q.symm hc1, fun q => absurd q.symm hc0⟩
theorem cc_nm {TX : Nat → Int32} {T p : Nat} : r_nm (cc TX T p) = r_nm (hc TX T p) := by
  unfold cc hc
  by_cases z : p < T
  · rw [if_pos z, if_pos z]
  · rw [if_neg z, if_neg z]; decide
theorem cc_dg {TX : Nat → Int32} {T p : Nat} : r_dg (cc TX T p) = r_dg (hc TX T p) := by
  unfold cc hc
  by_cases z : p < T
  · rw [if_pos z, if_pos z]
  · rw [if_neg z, if_neg z]; decide
theorem cc_op {TX : Nat → Int32} {T p : Nat} : r_op (cc TX T p) = r_op (hc TX T p) := by
  unfold cc hc
  by_cases z : p < T
  · rw [if_pos z, if_pos z]
  · rw [if_neg z, if_neg z]; decide
theorem cc_in {TX : Nat → Int32} {T p : Nat} (h : p < T) : cc TX T p = hc TX T p := by
  unfold cc hc
  rw [if_pos h, if_pos h]
set_option maxRecDepth 100000 in
theorem c_X8_current {l : Launch} {D : va_G} {cy : Nat → ClassId} {d n : Nat} {f : sw_F} {s : Nat → Int32} {A : Nat → Nat → Int32} {B : Nat → Nat → Int64} {o : Int64} {pr : Value} {T p : Nat} (hT : TC s (A 7) T) (hp : p ≤ 1000) (e : Int32) : sw_Ct l D cy mX8_current d 0 0 [.ref 6] n (gd f (rS s (p) e) A B o pr) (sw_D (some (.int (cc (A 7) T p))) n (gd f (rS s (p) e) A B o pr)) := by
  have hT2 := hT.2.1
  refine sw_of rfl (Nat.le_of_ble_eq_true rfl) ?_
  show SW l D cy mX8_current d 0 0 0 0 0 [(0, .ref 6)] [] n (gd f (rS s (p) e) A B o pr) _ _
  refine sw_aload_n dX8_current_0 rfl (by first | rfl | assumption) ?_
  refine sw_get dX8_current_1 fr_X8_19 rfl rfl ?_
  refine sw_top (y := nI p) rfl ?_
  refine sw_aload_n dX8_current_4 rfl (by first | rfl | assumption) ?_
  refine sw_get dX8_current_5 fr_X8_15 rfl rfl ?_
  refine sw_top (y := nI T) hT.1 ?_
  refine sw_icmp_ge 23 dX8_current_8 (by decide) (fun h8 => ?_) (fun h8 => ?_)
  · refine sw_iconst (x := (-1)) dX8_current_23 (by decide) ?_
    exact sw_iret dX8_current_24 rfl (by first | rfl | exact bz_n _) (by omega) (by omega) ⟨by rw [cc, if_neg (by have := (nI_leI (by omega) (by omega)).mp h8; omega)], rfl, rfl⟩
  · have e1 : p < T := (nI_ltI (by omega) (by omega)).mp (i32_nle.mp h8)
    refine sw_aload_n dX8_current_11 rfl (by first | rfl | assumption) ?_
    refine sw_get dX8_current_12 fr_X8_9 rfl rfl ?_
    refine sw_aload_n dX8_current_15 rfl (by first | rfl | assumption) ?_
    refine sw_get dX8_current_16 fr_X8_19 rfl rfl ?_
    refine sw_ialdN (p) dX8_current_19 rfl rfl (show p < 72 by omega) (by decide) ?_
    refine sw_goto 24 dX8_current_20 (by decide) ?_
    exact sw_iret dX8_current_24 rfl (by first | rfl | exact bz_n _) (by omega) (by omega) ⟨by rw [cc, if_pos e1], rfl, rfl⟩
set_option maxRecDepth 100000 in
theorem c_X8_isName {l : Launch} {D : va_G} {cy : Nat → ClassId} {d n : Nat} {f : sw_F} (a : Int32) : sw_Ct l D cy mX8_isName d 0 0 [.int a] n f (sw_D (some (.int (bz (r_nm a)))) n f) := by
  refine sw_of rfl (Nat.le_of_ble_eq_true rfl) ?_
  show SW l D cy mX8_isName d 0 0 0 0 0 [(0, .int a)] [] n f _ _
  refine sw_iload_n dX8_isName_0 rfl ?_
  refine sw_bipush (x := 97) dX8_isName_1 (by decide) ?_
  refine sw_icmp_lt 16 dX8_isName_3 (by decide) (fun h3 => ?_) (fun h3 => ?_)
  · refine sw_iconst (x := 0) dX8_isName_16 (by decide) ?_
    exact sw_iret dX8_isName_17 rfl (by first | rfl | exact bz_n _) (by omega) (by omega) ⟨congrArg (fun z => some (Value.int z)) (show _ = bz (r_nm a) from by rw [show r_nm a = false from decide_eq_false (fun q => by grind)]; rfl), rfl, rfl⟩
  · refine sw_iload_n dX8_isName_6 rfl ?_
    refine sw_bipush (x := 105) dX8_isName_7 (by decide) ?_
    refine sw_icmp_ge 16 dX8_isName_9 (by decide) (fun h9 => ?_) (fun h9 => ?_)
    · refine sw_iconst (x := 0) dX8_isName_16 (by decide) ?_
      exact sw_iret dX8_isName_17 rfl (by first | rfl | exact bz_n _) (by omega) (by omega) ⟨congrArg (fun z => some (Value.int z)) (show _ = bz (r_nm a) from by rw [show r_nm a = false from decide_eq_false (fun q => by grind)]; rfl), rfl, rfl⟩
    · refine sw_iconst (x := 1) dX8_isName_12 (by decide) ?_
      refine sw_goto 17 dX8_isName_13 (by decide) ?_
      exact sw_iret dX8_isName_17 rfl (by first | rfl | exact bz_n _) (by omega) (by omega) ⟨congrArg (fun z => some (Value.int z)) (show _ = bz (r_nm a) from by rw [show r_nm a = true from decide_eq_true (by grind)]; rfl), rfl, rfl⟩
set_option maxRecDepth 100000 in
theorem c_X8_isDigit {l : Launch} {D : va_G} {cy : Nat → ClassId} {d n : Nat} {f : sw_F} (a : Int32) : sw_Ct l D cy mX8_isDigit d 0 0 [.int a] n f (sw_D (some (.int (bz (r_dg a)))) n f) := by
  refine sw_of rfl (Nat.le_of_ble_eq_true rfl) ?_
  show SW l D cy mX8_isDigit d 0 0 0 0 0 [(0, .int a)] [] n f _ _
  refine sw_iload_n dX8_isDigit_0 rfl ?_
  refine sw_bipush (x := 48) dX8_isDigit_1 (by decide) ?_
  refine sw_icmp_lt 16 dX8_isDigit_3 (by decide) (fun h3 => ?_) (fun h3 => ?_)
  · refine sw_iconst (x := 0) dX8_isDigit_16 (by decide) ?_
    exact sw_iret dX8_isDigit_17 rfl (by first | rfl | exact bz_n _) (by omega) (by omega) ⟨congrArg (fun z => some (Value.int z)) (show _ = bz (r_dg a) from by rw [show r_dg a = false from decide_eq_false (fun q => by grind)]; rfl), rfl, rfl⟩
  · refine sw_iload_n dX8_isDigit_6 rfl ?_
    refine sw_bipush (x := 57) dX8_isDigit_7 (by decide) ?_
    refine sw_icmp_gt 16 dX8_isDigit_9 (by decide) (fun h9 => ?_) (fun h9 => ?_)
    · refine sw_iconst (x := 0) dX8_isDigit_16 (by decide) ?_
      exact sw_iret dX8_isDigit_17 rfl (by first | rfl | exact bz_n _) (by omega) (by omega) ⟨congrArg (fun z => some (Value.int z)) (show _ = bz (r_dg a) from by rw [show r_dg a = false from decide_eq_false (fun q => by grind)]; rfl), rfl, rfl⟩
    · refine sw_iconst (x := 1) dX8_isDigit_12 (by decide) ?_
      refine sw_goto 17 dX8_isDigit_13 (by decide) ?_
      exact sw_iret dX8_isDigit_17 rfl (by first | rfl | exact bz_n _) (by omega) (by omega) ⟨congrArg (fun z => some (Value.int z)) (show _ = bz (r_dg a) from by rw [show r_dg a = true from decide_eq_true (by grind)]; rfl), rfl, rfl⟩
set_option maxRecDepth 100000 in
theorem c_skip_1 {l : Launch} {D : va_G} {cy : Nat → ClassId} {d n : Nat} {f : sw_F} {s : Nat → Int32} {A : Nat → Nat → Int32} {B : Nat → Nat → Int64} {o : Int64} {pr : Value} (hd : 1 ≤ d) {T p : Nat} (hT : TC s (A 7) T) (hp : p ≤ 1000) (e : Int32) {c : Int32} (h : cc (A 7) T p = c) : sw_Ct l D cy mX8_skip d 0 0 [.ref 6, .int c] n (gd f (rS s (p) e) A B o pr) (sw_D (some (.int 1)) n (gd f (rS s (p + 1) e) A B o pr)) := by
  refine sw_of rfl (Nat.le_of_ble_eq_true rfl) ?_
  show SW l D cy mX8_skip d 0 0 0 0 0 [(0, .ref 6), (1, .int c)] [] n (gd f (rS s (p) e) A B o pr) _ _
  refine sw_aload_n dX8_skip_0 rfl (by first | rfl | assumption) ?_
  refine sw_Vv dX8_skip_1 k_X8_31 mf_X8_current (c_X8_current (d := d - 1) hT hp e) rfl ⟨_, rfl, rfl⟩ (by omega) (by omega) (by omega) rfl rfl (Nat.le_of_ble_eq_true rfl) ?_
  refine sw_iload_n dX8_skip_4 rfl ?_
  refine sw_icmp_eq 18 dX8_skip_5 (by decide) (fun h5 => ?_) (fun h5 => ?_)
  · refine sw_aload_n dX8_skip_18 rfl (by first | rfl | assumption) ?_
    refine sw_dup dX8_skip_19 rfl ?_
    refine sw_get dX8_skip_20 fr_X8_19 rfl rfl ?_
    refine sw_iconst (x := 1) dX8_skip_23 (by decide) ?_
    refine sw_iadd dX8_skip_24 ?_
    refine sw_top (y := nI (p + 1)) (nI_1 p) ?_
    refine g_put 8 dX8_skip_25 fl_X8_19 rfl ⟨by decide, rfl⟩ rfl (Nat.le_of_ble_eq_true rfl) (sw_fit_i _) rfl ?_
    refine sw_iconst (x := 1) dX8_skip_28 (by decide) ?_
    exact sw_iret dX8_skip_29 rfl (by first | rfl | exact bz_n _) (by omega) (by omega) ⟨rfl, rfl, by rw [rS_p]⟩
  · exact absurd h h5
set_option maxRecDepth 100000 in
theorem c_skip_0 {l : Launch} {D : va_G} {cy : Nat → ClassId} {d n : Nat} {f : sw_F} {s : Nat → Int32} {A : Nat → Nat → Int32} {B : Nat → Nat → Int64} {o : Int64} {pr : Value} (hd : 1 ≤ d) {T p : Nat} (hT : TC s (A 7) T) (hp : p ≤ 1000) (e : Int32) {c : Int32} (h : ¬ cc (A 7) T p = c) : sw_Ct l D cy mX8_skip d 0 0 [.ref 6, .int c] n (gd f (rS s (p) e) A B o pr) (sw_D (some (.int 0)) n (gd f (rS s (p) (nI p)) A B o pr)) := by
  refine sw_of rfl (Nat.le_of_ble_eq_true rfl) ?_
  show SW l D cy mX8_skip d 0 0 0 0 0 [(0, .ref 6), (1, .int c)] [] n (gd f (rS s (p) e) A B o pr) _ _
  refine sw_aload_n dX8_skip_0 rfl (by first | rfl | assumption) ?_
  refine sw_Vv dX8_skip_1 k_X8_31 mf_X8_current (c_X8_current (d := d - 1) hT hp e) rfl ⟨_, rfl, rfl⟩ (by omega) (by omega) (by omega) rfl rfl (Nat.le_of_ble_eq_true rfl) ?_
  refine sw_iload_n dX8_skip_4 rfl ?_
  refine sw_icmp_eq 18 dX8_skip_5 (by decide) (fun h5 => ?_) (fun h5 => ?_)
  · exact absurd h5 h
  · refine sw_aload_n dX8_skip_8 rfl (by first | rfl | assumption) ?_
    refine sw_aload_n dX8_skip_9 rfl (by first | rfl | assumption) ?_
    refine sw_get dX8_skip_10 fr_X8_19 rfl rfl ?_
    refine sw_top (y := nI p) rfl ?_
    refine g_put 9 dX8_skip_13 fl_X8_22 rfl ⟨by decide, rfl⟩ rfl (Nat.le_of_ble_eq_true rfl) (sw_fit_i _) rfl ?_
    refine sw_iconst (x := 0) dX8_skip_16 (by decide) ?_
    exact sw_iret dX8_skip_17 rfl (by first | rfl | exact bz_n _) (by omega) (by omega) ⟨rfl, rfl, by rw [rS_e]⟩
set_option maxRecDepth 100000 in
theorem c_open_1 {l : Launch} {D : va_G} {cy : Nat → ClassId} {d n : Nat} {f : sw_F} {s : Nat → Int32} {A : Nat → Nat → Int32} {B : Nat → Nat → Int64} {o : Int64} {pr : Value} (hd : 1 ≤ d) {T p : Nat} (hT : TC s (A 7) T) (hp : p ≤ 1000) (e : Int32) {c : Int32} {g : Nat} (hg : g ≤ 7) (h : cc (A 7) T p = c ∧ g ≤ 6) : sw_Ct l D cy mX8_open d 0 0 [.ref 6, .int c, .int (nI g)] n (gd f (rS s (p) e) A B o pr) (sw_D (some (.int 1)) n (gd f (rS s (p + 1) e) A B o pr)) := by
  refine sw_of rfl (Nat.le_of_ble_eq_true rfl) ?_
  show SW l D cy mX8_open d 0 0 0 0 0 [(0, .ref 6), (1, .int c), (2, .int (nI g))] [] n (gd f (rS s (p) e) A B o pr) _ _
  refine sw_iload_n dX8_open_0 rfl ?_
  refine sw_bipush (x := 6) dX8_open_1 (by decide) ?_
  refine sw_icmp_gt 14 dX8_open_3 (by decide) (fun h3 => ?_) (fun h3 => ?_)
  · exact absurd h3 (by rw [nl_6, nI_ltI (by omega) (by omega)]; omega)
  · refine sw_aload_n dX8_open_6 rfl (by first | rfl | assumption) ?_
    refine sw_Vv dX8_open_7 k_X8_31 mf_X8_current (c_X8_current (d := d - 1) hT hp e) rfl ⟨_, rfl, rfl⟩ (by omega) (by omega) (by omega) rfl rfl (Nat.le_of_ble_eq_true rfl) ?_
    refine sw_iload_n dX8_open_10 rfl ?_
    refine sw_icmp_eq 24 dX8_open_11 (by decide) (fun h11 => ?_) (fun h11 => ?_)
    · refine sw_aload_n dX8_open_24 rfl (by first | rfl | assumption) ?_
      refine sw_dup dX8_open_25 rfl ?_
      refine sw_get dX8_open_26 fr_X8_19 rfl rfl ?_
      refine sw_iconst (x := 1) dX8_open_29 (by decide) ?_
      refine sw_iadd dX8_open_30 ?_
      refine sw_top (y := nI (p + 1)) (nI_1 p) ?_
      refine g_put 8 dX8_open_31 fl_X8_19 rfl ⟨by decide, rfl⟩ rfl (Nat.le_of_ble_eq_true rfl) (sw_fit_i _) rfl ?_
      refine sw_iconst (x := 1) dX8_open_34 (by decide) ?_
      exact sw_iret dX8_open_35 rfl (by first | rfl | exact bz_n _) (by omega) (by omega) ⟨rfl, rfl, by rw [rS_p]⟩
    · exact absurd h.1 h11
set_option maxRecDepth 100000 in
theorem c_open_0 {l : Launch} {D : va_G} {cy : Nat → ClassId} {d n : Nat} {f : sw_F} {s : Nat → Int32} {A : Nat → Nat → Int32} {B : Nat → Nat → Int64} {o : Int64} {pr : Value} (hd : 1 ≤ d) {T p : Nat} (hT : TC s (A 7) T) (hp : p ≤ 1000) (e : Int32) {c : Int32} {g : Nat} (hg : g ≤ 7) (h : ¬ (cc (A 7) T p = c ∧ g ≤ 6)) : sw_Ct l D cy mX8_open d 0 0 [.ref 6, .int c, .int (nI g)] n (gd f (rS s (p) e) A B o pr) (sw_D (some (.int 0)) n (gd f (rS s (p) (nI p)) A B o pr)) := by
  refine sw_of rfl (Nat.le_of_ble_eq_true rfl) ?_
  show SW l D cy mX8_open d 0 0 0 0 0 [(0, .ref 6), (1, .int c), (2, .int (nI g))] [] n (gd f (rS s (p) e) A B o pr) _ _
  refine sw_iload_n dX8_open_0 rfl ?_
  refine sw_bipush (x := 6) dX8_open_1 (by decide) ?_
  refine sw_icmp_gt 14 dX8_open_3 (by decide) (fun h3 => ?_) (fun h3 => ?_)
  · refine sw_aload_n dX8_open_14 rfl (by first | rfl | assumption) ?_
    refine sw_aload_n dX8_open_15 rfl (by first | rfl | assumption) ?_
    refine sw_get dX8_open_16 fr_X8_19 rfl rfl ?_
    refine sw_top (y := nI p) rfl ?_
    refine g_put 9 dX8_open_19 fl_X8_22 rfl ⟨by decide, rfl⟩ rfl (Nat.le_of_ble_eq_true rfl) (sw_fit_i _) rfl ?_
    refine sw_iconst (x := 0) dX8_open_22 (by decide) ?_
    exact sw_iret dX8_open_23 rfl (by first | rfl | exact bz_n _) (by omega) (by omega) ⟨rfl, rfl, by rw [rS_e]⟩
  · refine sw_aload_n dX8_open_6 rfl (by first | rfl | assumption) ?_
    refine sw_Vv dX8_open_7 k_X8_31 mf_X8_current (c_X8_current (d := d - 1) hT hp e) rfl ⟨_, rfl, rfl⟩ (by omega) (by omega) (by omega) rfl rfl (Nat.le_of_ble_eq_true rfl) ?_
    refine sw_iload_n dX8_open_10 rfl ?_
    refine sw_icmp_eq 24 dX8_open_11 (by decide) (fun h11 => ?_) (fun h11 => ?_)
    · exact absurd ⟨h11, by rw [nl_6, nI_ltI (by omega) (by omega)] at h3; omega⟩ h
    · refine sw_aload_n dX8_open_14 rfl (by first | rfl | assumption) ?_
      refine sw_aload_n dX8_open_15 rfl (by first | rfl | assumption) ?_
      refine sw_get dX8_open_16 fr_X8_19 rfl rfl ?_
      refine sw_top (y := nI p) rfl ?_
      refine g_put 9 dX8_open_19 fl_X8_22 rfl ⟨by decide, rfl⟩ rfl (Nat.le_of_ble_eq_true rfl) (sw_fit_i _) rfl ?_
      refine sw_iconst (x := 0) dX8_open_22 (by decide) ?_
      exact sw_iret dX8_open_23 rfl (by first | rfl | exact bz_n _) (by omega) (by omega) ⟨rfl, rfl, by rw [rS_e]⟩
set_option maxRecDepth 100000 in
theorem c_rop_1 {l : Launch} {D : va_G} {cy : Nat → ClassId} {d n : Nat} {f : sw_F} {s : Nat → Int32} {A : Nat → Nat → Int32} {B : Nat → Nat → Int64} {o : Int64} {pr : Value} (hd : 1 ≤ d) {T p : Nat} (hT : TC s (A 7) T) (hp : p ≤ 1000) (e : Int32) (h : ¬ r_op (cc (A 7) T p) = 0) : sw_Ct l D cy mX8_readOperation d 0 0 [.ref 6] n (gd f (rS s (p) e) A B o pr) (sw_D (some (.int (r_op (cc (A 7) T p)))) n (gd f (rS s (p + 1) e) A B o pr)) := by
  refine sw_of rfl (Nat.le_of_ble_eq_true rfl) ?_
  show SW l D cy mX8_readOperation d 0 0 0 0 0 [(0, .ref 6)] [] n (gd f (rS s (p) e) A B o pr) _ _
  obtain hx | hx | hx | hx : cc (A 7) T p = 43 ∨ cc (A 7) T p = 45 ∨ cc (A 7) T p = 42 ∨ cc (A 7) T p = 60 := by
    unfold r_op at h
    grind
  · rw [hx]
    refine sw_aload_n dX8_readOperation_0 rfl (by first | rfl | assumption) ?_
    refine sw_Vv dX8_readOperation_1 k_X8_31 mf_X8_current (c_X8_current (d := d - 1) hT hp e) rfl ⟨_, rfl, rfl⟩ (by omega) (by omega) (by omega) rfl rfl (Nat.le_of_ble_eq_true rfl) ?_
    refine sw_top (y := 43) hx ?_
    refine sw_look 48 dX8_readOperation_4 (by decide) rfl (by decide) ?_
    refine sw_iconst (x := 3) dX8_readOperation_48 (by decide) ?_
    refine sw_istore_n [(0, _), (1, _)] dX8_readOperation_49 (by decide) rfl ?_
    refine sw_goto 79 dX8_readOperation_50 (by decide) ?_
    refine sw_aload_n dX8_readOperation_79 rfl (by first | rfl | assumption) ?_
    refine sw_dup dX8_readOperation_80 rfl ?_
    refine sw_get dX8_readOperation_81 fr_X8_19 rfl rfl ?_
    refine sw_iconst (x := 1) dX8_readOperation_84 (by decide) ?_
    refine sw_iadd dX8_readOperation_85 ?_
    refine sw_top (y := nI (p + 1)) (nI_1 p) ?_
    refine g_put 8 dX8_readOperation_86 fl_X8_19 rfl ⟨by decide, rfl⟩ rfl (Nat.le_of_ble_eq_true rfl) (sw_fit_i _) rfl ?_
    refine sw_iload_n dX8_readOperation_89 rfl ?_
    exact sw_iret dX8_readOperation_90 rfl (by first | rfl | exact bz_n _) (by omega) (by omega) ⟨rfl, rfl, by rw [rS_p]⟩
  · rw [hx]
    refine sw_aload_n dX8_readOperation_0 rfl (by first | rfl | assumption) ?_
    refine sw_Vv dX8_readOperation_1 k_X8_31 mf_X8_current (c_X8_current (d := d - 1) hT hp e) rfl ⟨_, rfl, rfl⟩ (by omega) (by omega) (by omega) rfl rfl (Nat.le_of_ble_eq_true rfl) ?_
    refine sw_top (y := 45) hx ?_
    refine sw_look 53 dX8_readOperation_4 (by decide) rfl (by decide) ?_
    refine sw_iconst (x := 4) dX8_readOperation_53 (by decide) ?_
    refine sw_istore_n [(0, _), (1, _)] dX8_readOperation_54 (by decide) rfl ?_
    refine sw_goto 79 dX8_readOperation_55 (by decide) ?_
    refine sw_aload_n dX8_readOperation_79 rfl (by first | rfl | assumption) ?_
    refine sw_dup dX8_readOperation_80 rfl ?_
    refine sw_get dX8_readOperation_81 fr_X8_19 rfl rfl ?_
    refine sw_iconst (x := 1) dX8_readOperation_84 (by decide) ?_
    refine sw_iadd dX8_readOperation_85 ?_
    refine sw_top (y := nI (p + 1)) (nI_1 p) ?_
    refine g_put 8 dX8_readOperation_86 fl_X8_19 rfl ⟨by decide, rfl⟩ rfl (Nat.le_of_ble_eq_true rfl) (sw_fit_i _) rfl ?_
    refine sw_iload_n dX8_readOperation_89 rfl ?_
    exact sw_iret dX8_readOperation_90 rfl (by first | rfl | exact bz_n _) (by omega) (by omega) ⟨rfl, rfl, by rw [rS_p]⟩
  · rw [hx]
    refine sw_aload_n dX8_readOperation_0 rfl (by first | rfl | assumption) ?_
    refine sw_Vv dX8_readOperation_1 k_X8_31 mf_X8_current (c_X8_current (d := d - 1) hT hp e) rfl ⟨_, rfl, rfl⟩ (by omega) (by omega) (by omega) rfl rfl (Nat.le_of_ble_eq_true rfl) ?_
    refine sw_top (y := 42) hx ?_
    refine sw_look 58 dX8_readOperation_4 (by decide) rfl (by decide) ?_
    refine sw_iconst (x := 5) dX8_readOperation_58 (by decide) ?_
    refine sw_istore_n [(0, _), (1, _)] dX8_readOperation_59 (by decide) rfl ?_
    refine sw_goto 79 dX8_readOperation_60 (by decide) ?_
    refine sw_aload_n dX8_readOperation_79 rfl (by first | rfl | assumption) ?_
    refine sw_dup dX8_readOperation_80 rfl ?_
    refine sw_get dX8_readOperation_81 fr_X8_19 rfl rfl ?_
    refine sw_iconst (x := 1) dX8_readOperation_84 (by decide) ?_
    refine sw_iadd dX8_readOperation_85 ?_
    refine sw_top (y := nI (p + 1)) (nI_1 p) ?_
    refine g_put 8 dX8_readOperation_86 fl_X8_19 rfl ⟨by decide, rfl⟩ rfl (Nat.le_of_ble_eq_true rfl) (sw_fit_i _) rfl ?_
    refine sw_iload_n dX8_readOperation_89 rfl ?_
    exact sw_iret dX8_readOperation_90 rfl (by first | rfl | exact bz_n _) (by omega) (by omega) ⟨rfl, rfl, by rw [rS_p]⟩
  · rw [hx]
    refine sw_aload_n dX8_readOperation_0 rfl (by first | rfl | assumption) ?_
    refine sw_Vv dX8_readOperation_1 k_X8_31 mf_X8_current (c_X8_current (d := d - 1) hT hp e) rfl ⟨_, rfl, rfl⟩ (by omega) (by omega) (by omega) rfl rfl (Nat.le_of_ble_eq_true rfl) ?_
    refine sw_top (y := 60) hx ?_
    refine sw_look 63 dX8_readOperation_4 (by decide) rfl (by decide) ?_
    refine sw_bipush (x := 6) dX8_readOperation_63 (by decide) ?_
    refine sw_istore_n [(0, _), (1, _)] dX8_readOperation_65 (by decide) rfl ?_
    refine sw_goto 79 dX8_readOperation_66 (by decide) ?_
    refine sw_aload_n dX8_readOperation_79 rfl (by first | rfl | assumption) ?_
    refine sw_dup dX8_readOperation_80 rfl ?_
    refine sw_get dX8_readOperation_81 fr_X8_19 rfl rfl ?_
    refine sw_iconst (x := 1) dX8_readOperation_84 (by decide) ?_
    refine sw_iadd dX8_readOperation_85 ?_
    refine sw_top (y := nI (p + 1)) (nI_1 p) ?_
    refine g_put 8 dX8_readOperation_86 fl_X8_19 rfl ⟨by decide, rfl⟩ rfl (Nat.le_of_ble_eq_true rfl) (sw_fit_i _) rfl ?_
    refine sw_iload_n dX8_readOperation_89 rfl ?_
    exact sw_iret dX8_readOperation_90 rfl (by first | rfl | exact bz_n _) (by omega) (by omega) ⟨rfl, rfl, by rw [rS_p]⟩
set_option maxRecDepth 100000 in
theorem c_rop_0 {l : Launch} {D : va_G} {cy : Nat → ClassId} {d n : Nat} {f : sw_F} {s : Nat → Int32} {A : Nat → Nat → Int32} {B : Nat → Nat → Int64} {o : Int64} {pr : Value} (hd : 1 ≤ d) {T p : Nat} (hT : TC s (A 7) T) (hp : p ≤ 1000) (e : Int32) (h : r_op (cc (A 7) T p) = 0) : sw_Ct l D cy mX8_readOperation d 0 0 [.ref 6] n (gd f (rS s (p) e) A B o pr) (sw_D (some (.int (-1))) n (gd f (rS s (p) (nI p)) A B o pr)) := by
  refine sw_of rfl (Nat.le_of_ble_eq_true rfl) ?_
  show SW l D cy mX8_readOperation d 0 0 0 0 0 [(0, .ref 6)] [] n (gd f (rS s (p) e) A B o pr) _ _
  have hx : ¬ cc (A 7) T p = 42 ∧ ¬ cc (A 7) T p = 43 ∧ ¬ cc (A 7) T p = 45 ∧ ¬ cc (A 7) T p = 60 := by
    unfold r_op at h
    grind
  refine sw_aload_n dX8_readOperation_0 rfl (by first | rfl | assumption) ?_
  refine sw_Vv dX8_readOperation_1 k_X8_31 mf_X8_current (c_X8_current (d := d - 1) hT hp e) rfl ⟨_, rfl, rfl⟩ (by omega) (by omega) (by omega) rfl rfl (Nat.le_of_ble_eq_true rfl) ?_
  refine sw_look 69 dX8_readOperation_4 (by decide) (by show Op.lookupswitch.offset [(42, 54), (43, 44), (45, 49), (60, 59)] 65 _ = 65; rw [lv_osw (k := 42) (a := 42) hx.1 (by decide), lv_osw (k := 43) (a := 43) hx.2.1 (by decide), lv_osw (k := 45) (a := 45) hx.2.2.1 (by decide), lv_osw (k := 60) (a := 60) hx.2.2.2 (by decide)]; rfl) (by decide) ?_
  refine sw_aload_n dX8_readOperation_69 rfl (by first | rfl | assumption) ?_
  refine sw_aload_n dX8_readOperation_70 rfl (by first | rfl | assumption) ?_
  refine sw_get dX8_readOperation_71 fr_X8_19 rfl rfl ?_
  refine sw_top (y := nI p) rfl ?_
  refine g_put 9 dX8_readOperation_74 fl_X8_22 rfl ⟨by decide, rfl⟩ rfl (Nat.le_of_ble_eq_true rfl) (sw_fit_i _) rfl ?_
  refine sw_iconst (x := (-1)) dX8_readOperation_77 (by decide) ?_
  exact sw_iret dX8_readOperation_78 rfl (by first | rfl | exact bz_n _) (by omega) (by omega) ⟨rfl, rfl, by rw [rS_e]⟩
/-! ===== THE CLASS: Node ===== -/
def nd (k v : Int32) (x y z w : Value) : va_E := .inr (6, [.int k, .int v, x, y, z, w])
theorem isR_c {v : Value} (h : sw_isR v = true) : v = .null ∨ ∃ a, v = .ref a := by
  cases v with
  | null => exact Or.inl rfl
  | ref a => exact Or.inr ⟨a, rfl⟩
  | _ => cases h
section NDR
variable {EE : sw_E} {l : Launch} {D : va_G} {cy : Nat → ClassId} {M : sw_MD} {d mc ms cells slots pc : Nat} {L : sw_L} {st : List Value} {n : Nat} {f : sw_F} {Q : sw_Q} {QX : sw_QX} {s : Nat → Int32} {A : Nat → Nat → Int32} {B : Nat → Nat → Int64} {o : Int64} {pr : Value}
theorem g_nputF {idx k p : Nat} {fs : List Value} {v : Value} {ty : FieldType} (hd : decode M.2.1 pc = .ok (.putfield idx, 3)) (hf : sw_fl M.1.cls idx 6 k ty true) (hi : M.1.name = "<init>") (hp : 150 ≤ p) (hfp : f p = .inr (6, fs)) (hl : k < fs.length) (hv : sw_fit ty v) (kk : SWr EE l D cy M d mc ms cells slots (pc + 3) L st n (gd (va_up f p (.inr (6, fs.set k v))) s A B o pr) Q QX) : SWr EE l D cy M d mc ms cells slots pc L (v :: .ref p :: st) n (gd f s A B o pr) Q QX := by
  refine sw_putF hd hf hi (by rw [gd_f _ _ _ _ _ _ hp, hfp]) hl hv ?_
  rw [gd_x _ _ _ _ _ _ hp]
  exact kk
theorem g_nput {idx k p : Nat} {fs : List Value} {v : Value} {ty : FieldType} (hd : decode M.2.1 pc = .ok (.putfield idx, 3)) (hf : sw_fl M.1.cls idx 6 k ty false) (hp : 150 ≤ p) (hfp : f p = .inr (6, fs)) (hl : k < fs.length) (hv : sw_fit ty v) (kk : SWr EE l D cy M d mc ms cells slots (pc + 3) L st n (gd (va_up f p (.inr (6, fs.set k v))) s A B o pr) Q QX) : SWr EE l D cy M d mc ms cells slots pc L (v :: .ref p :: st) n (gd f s A B o pr) Q QX := by
  refine sw_put hd hf (by rw [gd_f _ _ _ _ _ _ hp, hfp]) hl hv ?_
  rw [gd_x _ _ _ _ _ _ hp]
  exact kk
theorem g_nget {idx k p : Nat} {fs : List Value} {v : Value} (hd : decode M.2.1 pc = .ok (.getfield idx, 3)) (hf : sw_fr M.1.cls idx 6 k) (hp : 150 ≤ p) (hfp : f p = .inr (6, fs)) (hl : fs[k]? = some v) (kk : SWr EE l D cy M d mc ms cells slots (pc + 3) L (v :: st) n (gd f s A B o pr) Q QX) : SWr EE l D cy M d mc ms cells slots pc L (.ref p :: st) n (gd f s A B o pr) Q QX :=
  sw_get hd hf (by rw [gd_f _ _ _ _ _ _ hp, hfp]) hl kk
end NDR
set_option maxRecDepth 100000 in
theorem c_X6_init {l : Launch} {D : va_G} {cy : Nat → ClassId} {d n : Nat} {f : sw_F} {s : Nat → Int32} {A : Nat → Nat → Int32} {B : Nat → Nat → Int64} {o : Int64} {pr : Value} (hd : 1 ≤ d) {p : Nat} (hp : 150 ≤ p) (hf : f p = nd 0 0 .null .null .null .null) (k v : Int32) {x y z : Value} (hx : sw_isR x = true) (hy : sw_isR y = true) (hz : sw_isR z = true) : sw_Ct l D cy mX6_init d 0 0 [.ref p, .int k, .int v, x, y, z] n (gd f s A B o pr) (sw_D none n (gd (va_up f p (nd k v x y z .null)) s A B o pr)) := by
  unfold nd at hf
  rcases isR_c hx with rfl | ⟨x, rfl⟩
  · rcases isR_c hy with rfl | ⟨y, rfl⟩
    · rcases isR_c hz with rfl | ⟨z, rfl⟩
      · skip
        refine sw_of rfl (Nat.le_of_ble_eq_true rfl) ?_
        show SW l D cy mX6_init d 0 0 0 0 0 [(0, .ref p), (1, .int k), (2, .int v), (3, .null), (4, .null), (5, .null)] [] n (gd f s A B o pr) _ _
        refine sw_aload_n dX6_init_0 rfl rfl ?_
        refine sw_obj dX6_init_1 k_X6_1 k_obj2 k_obj3 (by omega) (Nat.le_of_ble_eq_true rfl) ?_
        refine sw_aload_n dX6_init_4 rfl rfl ?_
        refine sw_null dX6_init_5 ?_
        refine g_nput dX6_init_6 fl_X6_7 hp hf (Nat.le_of_ble_eq_true rfl) (sw_fit_or rfl) ?_
        refine sw_aload_n dX6_init_9 rfl rfl ?_
        refine sw_iload_n dX6_init_10 rfl ?_
        refine g_nputF dX6_init_11 fl_X6_13 rfl hp (vu_at _ _ _) (Nat.le_of_ble_eq_true rfl) (sw_fit_i _) ?_
        refine sw_aload_n dX6_init_14 rfl rfl ?_
        refine sw_iload_n dX6_init_15 rfl ?_
        refine g_nputF dX6_init_16 fl_X6_17 rfl hp (vu_at _ _ _) (Nat.le_of_ble_eq_true rfl) (sw_fit_i _) ?_
        refine sw_aload_n dX6_init_19 rfl rfl ?_
        refine sw_aload_n dX6_init_20 rfl rfl ?_
        refine g_nputF dX6_init_21 fl_X6_20 rfl hp (vu_at _ _ _) (Nat.le_of_ble_eq_true rfl) (sw_fit_or rfl) ?_
        refine sw_aload_n dX6_init_24 rfl rfl ?_
        refine sw_aload dX6_init_25 rfl rfl ?_
        refine g_nputF dX6_init_27 fl_X6_23 rfl hp (vu_at _ _ _) (Nat.le_of_ble_eq_true rfl) (sw_fit_or rfl) ?_
        refine sw_aload_n dX6_init_30 rfl rfl ?_
        refine sw_aload dX6_init_31 rfl rfl ?_
        refine g_nputF dX6_init_33 fl_X6_26 rfl hp (vu_at _ _ _) (Nat.le_of_ble_eq_true rfl) (sw_fit_or rfl) ?_
        exact sw_vret dX6_init_36 rfl (by omega) (by omega) ⟨rfl, rfl, by rw [vu_up, vu_up, vu_up, vu_up, vu_up]; rfl⟩
      · skip
        refine sw_of rfl (Nat.le_of_ble_eq_true rfl) ?_
        show SW l D cy mX6_init d 0 0 0 0 0 [(0, .ref p), (1, .int k), (2, .int v), (3, .null), (4, .null), (5, .ref z)] [] n (gd f s A B o pr) _ _
        refine sw_aload_n dX6_init_0 rfl rfl ?_
        refine sw_obj dX6_init_1 k_X6_1 k_obj2 k_obj3 (by omega) (Nat.le_of_ble_eq_true rfl) ?_
        refine sw_aload_n dX6_init_4 rfl rfl ?_
        refine sw_null dX6_init_5 ?_
        refine g_nput dX6_init_6 fl_X6_7 hp hf (Nat.le_of_ble_eq_true rfl) (sw_fit_or rfl) ?_
        refine sw_aload_n dX6_init_9 rfl rfl ?_
        refine sw_iload_n dX6_init_10 rfl ?_
        refine g_nputF dX6_init_11 fl_X6_13 rfl hp (vu_at _ _ _) (Nat.le_of_ble_eq_true rfl) (sw_fit_i _) ?_
        refine sw_aload_n dX6_init_14 rfl rfl ?_
        refine sw_iload_n dX6_init_15 rfl ?_
        refine g_nputF dX6_init_16 fl_X6_17 rfl hp (vu_at _ _ _) (Nat.le_of_ble_eq_true rfl) (sw_fit_i _) ?_
        refine sw_aload_n dX6_init_19 rfl rfl ?_
        refine sw_aload_n dX6_init_20 rfl rfl ?_
        refine g_nputF dX6_init_21 fl_X6_20 rfl hp (vu_at _ _ _) (Nat.le_of_ble_eq_true rfl) (sw_fit_or rfl) ?_
        refine sw_aload_n dX6_init_24 rfl rfl ?_
        refine sw_aload dX6_init_25 rfl rfl ?_
        refine g_nputF dX6_init_27 fl_X6_23 rfl hp (vu_at _ _ _) (Nat.le_of_ble_eq_true rfl) (sw_fit_or rfl) ?_
        refine sw_aload_n dX6_init_30 rfl rfl ?_
        refine sw_aload dX6_init_31 rfl rfl ?_
        refine g_nputF dX6_init_33 fl_X6_26 rfl hp (vu_at _ _ _) (Nat.le_of_ble_eq_true rfl) (sw_fit_or rfl) ?_
        exact sw_vret dX6_init_36 rfl (by omega) (by omega) ⟨rfl, rfl, by rw [vu_up, vu_up, vu_up, vu_up, vu_up]; rfl⟩
    · rcases isR_c hz with rfl | ⟨z, rfl⟩
      · skip
        refine sw_of rfl (Nat.le_of_ble_eq_true rfl) ?_
        show SW l D cy mX6_init d 0 0 0 0 0 [(0, .ref p), (1, .int k), (2, .int v), (3, .null), (4, .ref y), (5, .null)] [] n (gd f s A B o pr) _ _
        refine sw_aload_n dX6_init_0 rfl rfl ?_
        refine sw_obj dX6_init_1 k_X6_1 k_obj2 k_obj3 (by omega) (Nat.le_of_ble_eq_true rfl) ?_
        refine sw_aload_n dX6_init_4 rfl rfl ?_
        refine sw_null dX6_init_5 ?_
        refine g_nput dX6_init_6 fl_X6_7 hp hf (Nat.le_of_ble_eq_true rfl) (sw_fit_or rfl) ?_
        refine sw_aload_n dX6_init_9 rfl rfl ?_
        refine sw_iload_n dX6_init_10 rfl ?_
        refine g_nputF dX6_init_11 fl_X6_13 rfl hp (vu_at _ _ _) (Nat.le_of_ble_eq_true rfl) (sw_fit_i _) ?_
        refine sw_aload_n dX6_init_14 rfl rfl ?_
        refine sw_iload_n dX6_init_15 rfl ?_
        refine g_nputF dX6_init_16 fl_X6_17 rfl hp (vu_at _ _ _) (Nat.le_of_ble_eq_true rfl) (sw_fit_i _) ?_
        refine sw_aload_n dX6_init_19 rfl rfl ?_
        refine sw_aload_n dX6_init_20 rfl rfl ?_
        refine g_nputF dX6_init_21 fl_X6_20 rfl hp (vu_at _ _ _) (Nat.le_of_ble_eq_true rfl) (sw_fit_or rfl) ?_
        refine sw_aload_n dX6_init_24 rfl rfl ?_
        refine sw_aload dX6_init_25 rfl rfl ?_
        refine g_nputF dX6_init_27 fl_X6_23 rfl hp (vu_at _ _ _) (Nat.le_of_ble_eq_true rfl) (sw_fit_or rfl) ?_
        refine sw_aload_n dX6_init_30 rfl rfl ?_
        refine sw_aload dX6_init_31 rfl rfl ?_
        refine g_nputF dX6_init_33 fl_X6_26 rfl hp (vu_at _ _ _) (Nat.le_of_ble_eq_true rfl) (sw_fit_or rfl) ?_
        exact sw_vret dX6_init_36 rfl (by omega) (by omega) ⟨rfl, rfl, by rw [vu_up, vu_up, vu_up, vu_up, vu_up]; rfl⟩
      · skip
        refine sw_of rfl (Nat.le_of_ble_eq_true rfl) ?_
        show SW l D cy mX6_init d 0 0 0 0 0 [(0, .ref p), (1, .int k), (2, .int v), (3, .null), (4, .ref y), (5, .ref z)] [] n (gd f s A B o pr) _ _
        refine sw_aload_n dX6_init_0 rfl rfl ?_
        refine sw_obj dX6_init_1 k_X6_1 k_obj2 k_obj3 (by omega) (Nat.le_of_ble_eq_true rfl) ?_
        refine sw_aload_n dX6_init_4 rfl rfl ?_
        refine sw_null dX6_init_5 ?_
        refine g_nput dX6_init_6 fl_X6_7 hp hf (Nat.le_of_ble_eq_true rfl) (sw_fit_or rfl) ?_
        refine sw_aload_n dX6_init_9 rfl rfl ?_
        refine sw_iload_n dX6_init_10 rfl ?_
        refine g_nputF dX6_init_11 fl_X6_13 rfl hp (vu_at _ _ _) (Nat.le_of_ble_eq_true rfl) (sw_fit_i _) ?_
        refine sw_aload_n dX6_init_14 rfl rfl ?_
        refine sw_iload_n dX6_init_15 rfl ?_
        refine g_nputF dX6_init_16 fl_X6_17 rfl hp (vu_at _ _ _) (Nat.le_of_ble_eq_true rfl) (sw_fit_i _) ?_
        refine sw_aload_n dX6_init_19 rfl rfl ?_
        refine sw_aload_n dX6_init_20 rfl rfl ?_
        refine g_nputF dX6_init_21 fl_X6_20 rfl hp (vu_at _ _ _) (Nat.le_of_ble_eq_true rfl) (sw_fit_or rfl) ?_
        refine sw_aload_n dX6_init_24 rfl rfl ?_
        refine sw_aload dX6_init_25 rfl rfl ?_
        refine g_nputF dX6_init_27 fl_X6_23 rfl hp (vu_at _ _ _) (Nat.le_of_ble_eq_true rfl) (sw_fit_or rfl) ?_
        refine sw_aload_n dX6_init_30 rfl rfl ?_
        refine sw_aload dX6_init_31 rfl rfl ?_
        refine g_nputF dX6_init_33 fl_X6_26 rfl hp (vu_at _ _ _) (Nat.le_of_ble_eq_true rfl) (sw_fit_or rfl) ?_
        exact sw_vret dX6_init_36 rfl (by omega) (by omega) ⟨rfl, rfl, by rw [vu_up, vu_up, vu_up, vu_up, vu_up]; rfl⟩
  · rcases isR_c hy with rfl | ⟨y, rfl⟩
    · rcases isR_c hz with rfl | ⟨z, rfl⟩
      · skip
        refine sw_of rfl (Nat.le_of_ble_eq_true rfl) ?_
        show SW l D cy mX6_init d 0 0 0 0 0 [(0, .ref p), (1, .int k), (2, .int v), (3, .ref x), (4, .null), (5, .null)] [] n (gd f s A B o pr) _ _
        refine sw_aload_n dX6_init_0 rfl rfl ?_
        refine sw_obj dX6_init_1 k_X6_1 k_obj2 k_obj3 (by omega) (Nat.le_of_ble_eq_true rfl) ?_
        refine sw_aload_n dX6_init_4 rfl rfl ?_
        refine sw_null dX6_init_5 ?_
        refine g_nput dX6_init_6 fl_X6_7 hp hf (Nat.le_of_ble_eq_true rfl) (sw_fit_or rfl) ?_
        refine sw_aload_n dX6_init_9 rfl rfl ?_
        refine sw_iload_n dX6_init_10 rfl ?_
        refine g_nputF dX6_init_11 fl_X6_13 rfl hp (vu_at _ _ _) (Nat.le_of_ble_eq_true rfl) (sw_fit_i _) ?_
        refine sw_aload_n dX6_init_14 rfl rfl ?_
        refine sw_iload_n dX6_init_15 rfl ?_
        refine g_nputF dX6_init_16 fl_X6_17 rfl hp (vu_at _ _ _) (Nat.le_of_ble_eq_true rfl) (sw_fit_i _) ?_
        refine sw_aload_n dX6_init_19 rfl rfl ?_
        refine sw_aload_n dX6_init_20 rfl rfl ?_
        refine g_nputF dX6_init_21 fl_X6_20 rfl hp (vu_at _ _ _) (Nat.le_of_ble_eq_true rfl) (sw_fit_or rfl) ?_
        refine sw_aload_n dX6_init_24 rfl rfl ?_
        refine sw_aload dX6_init_25 rfl rfl ?_
        refine g_nputF dX6_init_27 fl_X6_23 rfl hp (vu_at _ _ _) (Nat.le_of_ble_eq_true rfl) (sw_fit_or rfl) ?_
        refine sw_aload_n dX6_init_30 rfl rfl ?_
        refine sw_aload dX6_init_31 rfl rfl ?_
        refine g_nputF dX6_init_33 fl_X6_26 rfl hp (vu_at _ _ _) (Nat.le_of_ble_eq_true rfl) (sw_fit_or rfl) ?_
        exact sw_vret dX6_init_36 rfl (by omega) (by omega) ⟨rfl, rfl, by rw [vu_up, vu_up, vu_up, vu_up, vu_up]; rfl⟩
      · skip
        refine sw_of rfl (Nat.le_of_ble_eq_true rfl) ?_
        show SW l D cy mX6_init d 0 0 0 0 0 [(0, .ref p), (1, .int k), (2, .int v), (3, .ref x), (4, .null), (5, .ref z)] [] n (gd f s A B o pr) _ _
        refine sw_aload_n dX6_init_0 rfl rfl ?_
        refine sw_obj dX6_init_1 k_X6_1 k_obj2 k_obj3 (by omega) (Nat.le_of_ble_eq_true rfl) ?_
        refine sw_aload_n dX6_init_4 rfl rfl ?_
        refine sw_null dX6_init_5 ?_
        refine g_nput dX6_init_6 fl_X6_7 hp hf (Nat.le_of_ble_eq_true rfl) (sw_fit_or rfl) ?_
        refine sw_aload_n dX6_init_9 rfl rfl ?_
        refine sw_iload_n dX6_init_10 rfl ?_
        refine g_nputF dX6_init_11 fl_X6_13 rfl hp (vu_at _ _ _) (Nat.le_of_ble_eq_true rfl) (sw_fit_i _) ?_
        refine sw_aload_n dX6_init_14 rfl rfl ?_
        refine sw_iload_n dX6_init_15 rfl ?_
        refine g_nputF dX6_init_16 fl_X6_17 rfl hp (vu_at _ _ _) (Nat.le_of_ble_eq_true rfl) (sw_fit_i _) ?_
        refine sw_aload_n dX6_init_19 rfl rfl ?_
        refine sw_aload_n dX6_init_20 rfl rfl ?_
        refine g_nputF dX6_init_21 fl_X6_20 rfl hp (vu_at _ _ _) (Nat.le_of_ble_eq_true rfl) (sw_fit_or rfl) ?_
        refine sw_aload_n dX6_init_24 rfl rfl ?_
        refine sw_aload dX6_init_25 rfl rfl ?_
        refine g_nputF dX6_init_27 fl_X6_23 rfl hp (vu_at _ _ _) (Nat.le_of_ble_eq_true rfl) (sw_fit_or rfl) ?_
        refine sw_aload_n dX6_init_30 rfl rfl ?_
        refine sw_aload dX6_init_31 rfl rfl ?_
        refine g_nputF dX6_init_33 fl_X6_26 rfl hp (vu_at _ _ _) (Nat.le_of_ble_eq_true rfl) (sw_fit_or rfl) ?_
        exact sw_vret dX6_init_36 rfl (by omega) (by omega) ⟨rfl, rfl, by rw [vu_up, vu_up, vu_up, vu_up, vu_up]; rfl⟩
    · rcases isR_c hz with rfl | ⟨z, rfl⟩
      · skip
        refine sw_of rfl (Nat.le_of_ble_eq_true rfl) ?_
        show SW l D cy mX6_init d 0 0 0 0 0 [(0, .ref p), (1, .int k), (2, .int v), (3, .ref x), (4, .ref y), (5, .null)] [] n (gd f s A B o pr) _ _
        refine sw_aload_n dX6_init_0 rfl rfl ?_
        refine sw_obj dX6_init_1 k_X6_1 k_obj2 k_obj3 (by omega) (Nat.le_of_ble_eq_true rfl) ?_
        refine sw_aload_n dX6_init_4 rfl rfl ?_
        refine sw_null dX6_init_5 ?_
        refine g_nput dX6_init_6 fl_X6_7 hp hf (Nat.le_of_ble_eq_true rfl) (sw_fit_or rfl) ?_
        refine sw_aload_n dX6_init_9 rfl rfl ?_
        refine sw_iload_n dX6_init_10 rfl ?_
        refine g_nputF dX6_init_11 fl_X6_13 rfl hp (vu_at _ _ _) (Nat.le_of_ble_eq_true rfl) (sw_fit_i _) ?_
        refine sw_aload_n dX6_init_14 rfl rfl ?_
        refine sw_iload_n dX6_init_15 rfl ?_
        refine g_nputF dX6_init_16 fl_X6_17 rfl hp (vu_at _ _ _) (Nat.le_of_ble_eq_true rfl) (sw_fit_i _) ?_
        refine sw_aload_n dX6_init_19 rfl rfl ?_
        refine sw_aload_n dX6_init_20 rfl rfl ?_
        refine g_nputF dX6_init_21 fl_X6_20 rfl hp (vu_at _ _ _) (Nat.le_of_ble_eq_true rfl) (sw_fit_or rfl) ?_
        refine sw_aload_n dX6_init_24 rfl rfl ?_
        refine sw_aload dX6_init_25 rfl rfl ?_
        refine g_nputF dX6_init_27 fl_X6_23 rfl hp (vu_at _ _ _) (Nat.le_of_ble_eq_true rfl) (sw_fit_or rfl) ?_
        refine sw_aload_n dX6_init_30 rfl rfl ?_
        refine sw_aload dX6_init_31 rfl rfl ?_
        refine g_nputF dX6_init_33 fl_X6_26 rfl hp (vu_at _ _ _) (Nat.le_of_ble_eq_true rfl) (sw_fit_or rfl) ?_
        exact sw_vret dX6_init_36 rfl (by omega) (by omega) ⟨rfl, rfl, by rw [vu_up, vu_up, vu_up, vu_up, vu_up]; rfl⟩
      · skip
        refine sw_of rfl (Nat.le_of_ble_eq_true rfl) ?_
        show SW l D cy mX6_init d 0 0 0 0 0 [(0, .ref p), (1, .int k), (2, .int v), (3, .ref x), (4, .ref y), (5, .ref z)] [] n (gd f s A B o pr) _ _
        refine sw_aload_n dX6_init_0 rfl rfl ?_
        refine sw_obj dX6_init_1 k_X6_1 k_obj2 k_obj3 (by omega) (Nat.le_of_ble_eq_true rfl) ?_
        refine sw_aload_n dX6_init_4 rfl rfl ?_
        refine sw_null dX6_init_5 ?_
        refine g_nput dX6_init_6 fl_X6_7 hp hf (Nat.le_of_ble_eq_true rfl) (sw_fit_or rfl) ?_
        refine sw_aload_n dX6_init_9 rfl rfl ?_
        refine sw_iload_n dX6_init_10 rfl ?_
        refine g_nputF dX6_init_11 fl_X6_13 rfl hp (vu_at _ _ _) (Nat.le_of_ble_eq_true rfl) (sw_fit_i _) ?_
        refine sw_aload_n dX6_init_14 rfl rfl ?_
        refine sw_iload_n dX6_init_15 rfl ?_
        refine g_nputF dX6_init_16 fl_X6_17 rfl hp (vu_at _ _ _) (Nat.le_of_ble_eq_true rfl) (sw_fit_i _) ?_
        refine sw_aload_n dX6_init_19 rfl rfl ?_
        refine sw_aload_n dX6_init_20 rfl rfl ?_
        refine g_nputF dX6_init_21 fl_X6_20 rfl hp (vu_at _ _ _) (Nat.le_of_ble_eq_true rfl) (sw_fit_or rfl) ?_
        refine sw_aload_n dX6_init_24 rfl rfl ?_
        refine sw_aload dX6_init_25 rfl rfl ?_
        refine g_nputF dX6_init_27 fl_X6_23 rfl hp (vu_at _ _ _) (Nat.le_of_ble_eq_true rfl) (sw_fit_or rfl) ?_
        refine sw_aload_n dX6_init_30 rfl rfl ?_
        refine sw_aload dX6_init_31 rfl rfl ?_
        refine g_nputF dX6_init_33 fl_X6_26 rfl hp (vu_at _ _ _) (Nat.le_of_ble_eq_true rfl) (sw_fit_or rfl) ?_
        exact sw_vret dX6_init_36 rfl (by omega) (by omega) ⟨rfl, rfl, by rw [vu_up, vu_up, vu_up, vu_up, vu_up]; rfl⟩
