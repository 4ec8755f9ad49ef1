/-! ===== THE CLASS: LabelGuard, what does not throw ===== -/
set_option maxRecDepth 100000 in
theorem c_X11_join {l : Launch} {D : va_G} {cy : Nat → ClassId} {d n : Nat} {f : sw_F} {s : Nat → Int32} {A : Nat → Nat → Int32} {B : Nat → Nat → Int64} {o : Int64} {pr : Value} (hd : 2 ≤ d) {N : Nat} (hs4 : s 4 = nI N) (hN : N ≤ 6) (a b : Int32) : sw_Ct l D cy mX11_join d 0 0 [.ref 0, .int a, .int b] n (gd f s A B o pr) (sw_D (some (.int (ljn s A a b))) n (gd f s A B o pr)) := by
  refine sw_of rfl (Nat.le_of_ble_eq_true rfl) ?_
  show SW l D cy mX11_join d 0 0 0 0 0 [(0, .ref 0), (1, .int a), (2, .int b)] [] n (gd f s A B o pr) _ _
  refine sw_aload_n dX11_join_0 rfl (by first | rfl | assumption) ?_
  refine sw_get dX11_join_1 fr_X11_10 rfl rfl ?_
  refine sw_iload_n dX11_join_4 rfl ?_
  refine sw_iload_n dX11_join_5 rfl ?_
  refine sw_Vv dX11_join_6 k_X11_140 mf_X3_joined (c_X3_joined (d := d - 1) (by omega) hs4 hN a b) rfl ⟨_, rfl, rfl⟩ (by omega) (by omega) (by omega) rfl rfl (Nat.le_of_ble_eq_true rfl) ?_
  exact sw_iret dX11_join_9 rfl (by first | rfl | exact bz_n _) (by omega) (by omega) ⟨rfl, rfl, rfl⟩
def lblO (s : Nat → Int32) (sd v lv : Int32) : Bool := isV v && lhas s lv && decide (sd = 0 ∨ sd = 1)
def lblA (s : Nat → Int32) (A : Nat → Nat → Int32) (sd v lv : Int32) : Nat → Nat → Int32 := if lblO s sd v lv = true then (if sd = 0 then va_up A 3 (upd (A 3) v.toNatClampNeg lv) else va_up A 4 (upd (A 4) v.toNatClampNeg lv)) else A
set_option maxRecDepth 100000 in
theorem c_X11_label {l : Launch} {D : va_G} {cy : Nat → ClassId} {d n : Nat} {f : sw_F} {s : Nat → Int32} {A : Nat → Nat → Int32} {B : Nat → Nat → Int64} {o : Int64} {pr : Value} (hd : 1 ≤ d) (sd v lv : Int32) : sw_Ct l D cy mX11_label d 0 0 [.ref 0, .int sd, .int v, .int lv] n (gd f s A B o pr) (sw_D (some (.int (bz (lblO s sd v lv)))) n (gd f s (lblA s A sd v lv) B o pr)) := by
  refine sw_of rfl (Nat.le_of_ble_eq_true rfl) ?_
  show SW l D cy mX11_label d 0 0 0 0 0 [(0, .ref 0), (1, .int sd), (2, .int v), (3, .int lv)] [] n (gd f s A B o pr) _ _
  refine sw_iload_n dX11_label_0 rfl ?_
  refine sw_Sv dX11_label_1 k_X11_144 mf_X11_isVariable (c_X11_isVariable (d := d - 1) v) (by omega) (by omega) (by omega) rfl rfl (Nat.le_of_ble_eq_true rfl) ?_
  refine sw_if_eq 18 dX11_label_4 (by decide) (fun h4 => ?_) (fun h4 => ?_)
  · refine sw_iconst (x := 0) dX11_label_18 (by decide) ?_
    exact sw_iret dX11_label_19 rfl (by first | rfl | exact bz_n _) (by omega) (by omega) ⟨by rw [show lblO s sd v lv = false from by rw [lblO, bz_0.mp h4, Bool.false_and, Bool.false_and]]; rfl, rfl, by rw [lblA, if_neg (by rw [lblO, bz_0.mp h4, Bool.false_and, Bool.false_and]; decide)]⟩
  · refine sw_aload_n dX11_label_7 rfl (by first | rfl | assumption) ?_
    refine sw_get dX11_label_8 fr_X11_10 rfl rfl ?_
    refine sw_iload_n dX11_label_11 rfl ?_
    refine sw_Vv dX11_label_12 k_X11_148 mf_X3_has (c_X3_has (d := d - 1) lv) rfl ⟨_, rfl, rfl⟩ (by omega) (by omega) (by omega) rfl rfl (Nat.le_of_ble_eq_true rfl) ?_
    refine sw_if_ne 20 dX11_label_15 (by decide) (fun h15 => ?_) (fun h15 => ?_)
    · obtain ⟨w, hw, rfl⟩ := isV_i (bz_ne.mp h4)
      refine sw_iload_n dX11_label_20 rfl ?_
      refine sw_if_ne 33 dX11_label_21 (by decide) (fun h21 => ?_) (fun h21 => ?_)
      · refine sw_iload_n dX11_label_33 rfl ?_
        refine sw_iconst (x := 1) dX11_label_34 (by decide) ?_
        refine sw_icmp_ne 47 dX11_label_35 (by decide) (fun h35 => ?_) (fun h35 => ?_)
        · refine sw_iconst (x := 0) dX11_label_47 (by decide) ?_
          exact sw_iret dX11_label_48 rfl (by first | rfl | exact bz_n _) (by omega) (by omega) ⟨by rw [show lblO s sd (nI w) lv = false from by rw [lblO, decide_eq_false (fun z => z.elim h21 h35), Bool.and_false]]; rfl, rfl, by rw [lblA, if_neg (by rw [lblO, decide_eq_false (fun z => z.elim h21 h35), Bool.and_false]; decide)]⟩
        · refine sw_aload_n dX11_label_38 rfl (by first | rfl | assumption) ?_
          refine sw_get dX11_label_39 fr_X11_20 rfl rfl ?_
          refine sw_iload_n dX11_label_42 rfl ?_
          refine sw_iload_n dX11_label_43 rfl ?_
          refine g_iast (w) dX11_label_44 ⟨by decide, rfl, rfl⟩ rfl (show w < 8 by omega) rfl ?_
          refine sw_iconst (x := 1) dX11_label_45 (by decide) ?_
          exact sw_iret dX11_label_46 rfl (by first | rfl | exact bz_n _) (by omega) (by omega) ⟨by rw [show lblO s sd (nI w) lv = true from by rw [lblO, isV_n hw, bz_ne.mp h15, decide_eq_true (Or.inr h35)]; rfl]; rfl, rfl, by rw [lblA, if_pos (by rw [lblO, isV_n hw, bz_ne.mp h15, decide_eq_true (Or.inr h35)]; rfl), if_neg h21, nI_clamp (by omega)]⟩
      · refine sw_aload_n dX11_label_24 rfl (by first | rfl | assumption) ?_
        refine sw_get dX11_label_25 fr_X11_16 rfl rfl ?_
        refine sw_iload_n dX11_label_28 rfl ?_
        refine sw_iload_n dX11_label_29 rfl ?_
        refine g_iast (w) dX11_label_30 ⟨by decide, rfl, rfl⟩ rfl (show w < 8 by omega) rfl ?_
        refine sw_iconst (x := 1) dX11_label_31 (by decide) ?_
        exact sw_iret dX11_label_32 rfl (by first | rfl | exact bz_n _) (by omega) (by omega) ⟨by rw [show lblO s sd (nI w) lv = true from by rw [lblO, isV_n hw, bz_ne.mp h15, decide_eq_true (Or.inl h21)]; rfl]; rfl, rfl, by rw [lblA, if_pos (by rw [lblO, isV_n hw, bz_ne.mp h15, decide_eq_true (Or.inl h21)]; rfl), if_pos h21, nI_clamp (by omega)]⟩
    · refine sw_iconst (x := 0) dX11_label_18 (by decide) ?_
      exact sw_iret dX11_label_19 rfl (by first | rfl | exact bz_n _) (by omega) (by omega) ⟨by rw [show lblO s sd v lv = false from by rw [lblO, bz_0.mp h15, Bool.and_false, Bool.false_and]]; rfl, rfl, by rw [lblA, if_neg (by rw [lblO, bz_0.mp h15, Bool.and_false, Bool.false_and]; decide)]⟩
set_option maxRecDepth 100000 in
theorem c_X11_write {l : Launch} {D : va_G} {cy : Nat → ClassId} {d n : Nat} {f : sw_F} {s : Nat → Int32} {A : Nat → Nat → Int32} {B : Nat → Nat → Int64} {o : Int64} {pr : Value} (hd : 1 ≤ d) {T : Nat} (hT : s 7 = nI T) (hTb : T ≤ 72) (w : Int64) : sw_Ct l D cy mX11_write d 0 0 [.ref 0, .long w] n (gd f s A B o pr) (sw_D (some (.int (bz (wOk T w)))) n (gd f (wS s T w) (wA A T w) B o pr)) := by
  refine sw_of rfl (Nat.le_of_ble_eq_true rfl) ?_
  show SW l D cy mX11_write d 0 0 0 0 0 [(0, .ref 0), (1, .long w)] [] n (gd f s A B o pr) _ _
  refine sw_aload_n dX11_write_0 rfl (by first | rfl | assumption) ?_
  refine sw_get dX11_write_1 fr_X11_29 rfl rfl ?_
  refine sw_lload_n dX11_write_4 rfl ?_
  refine sw_Vv dX11_write_5 k_X11_151 mf_X8_append (c_X8_append (d := d - 1) hT hTb w) rfl ⟨_, rfl, rfl⟩ (by omega) (by omega) (by omega) rfl rfl (Nat.le_of_ble_eq_true rfl) ?_
  exact sw_iret dX11_write_8 rfl (by first | rfl | exact bz_n _) (by omega) (by omega) ⟨rfl, rfl, rfl⟩
set_option maxRecDepth 100000 in
theorem c_X11_position {l : Launch} {D : va_G} {cy : Nat → ClassId} {d n : Nat} {f : sw_F} {s : Nat → Int32} {A : Nat → Nat → Int32} {B : Nat → Nat → Int64} {o : Int64} {pr : Value}  : sw_Ct l D cy mX11_position d 0 0 [.ref 0] n (gd f s A B o pr) (sw_D (some (.int (s 1))) n (gd f s A B o pr)) := by
  refine sw_of rfl (Nat.le_of_ble_eq_true rfl) ?_
  show SW l D cy mX11_position d 0 0 0 0 0 [(0, .ref 0)] [] n (gd f s A B o pr) _ _
  refine sw_aload_n dX11_position_0 rfl (by first | rfl | assumption) ?_
  refine sw_get dX11_position_1 fr_X11_98 rfl rfl ?_
  exact sw_iret dX11_position_4 rfl (by first | rfl | exact bz_n _) (by omega) (by omega) ⟨rfl, rfl, rfl⟩
set_option maxRecDepth 100000 in
theorem c_X11_exit {l : Launch} {D : va_G} {cy : Nat → ClassId} {d n : Nat} {f : sw_F} {s : Nat → Int32} {A : Nat → Nat → Int32} {B : Nat → Nat → Int64} {o : Int64} {pr : Value} (hd : 2 ≤ d) (a : Int32) : sw_Ct l D cy mX11_exit d 0 0 [.ref 0, .int a] n (gd f s A B o pr) (sw_D (some (.int (if s 0 = 0 then -1 else exf A a))) n (gd f s A B o pr)) := by
  refine sw_of rfl (Nat.le_of_ble_eq_true rfl) ?_
  show SW l D cy mX11_exit d 0 0 0 0 0 [(0, .ref 0), (1, .int a)] [] n (gd f s A B o pr) _ _
  refine sw_aload_n dX11_exit_0 rfl (by first | rfl | assumption) ?_
  refine sw_get dX11_exit_1 fr_X11_94 rfl rfl ?_
  refine sw_if_eq 18 dX11_exit_4 (by decide) (fun h4 => ?_) (fun h4 => ?_)
  · refine sw_iconst (x := (-1)) dX11_exit_18 (by decide) ?_
    exact sw_iret dX11_exit_19 rfl (by first | rfl | exact bz_n _) (by omega) (by omega) ⟨by rw [if_pos (show s 0 = 0 from h4)], rfl, rfl⟩
  · refine sw_aload_n dX11_exit_7 rfl (by first | rfl | assumption) ?_
    refine sw_get dX11_exit_8 fr_X11_38 rfl rfl ?_
    refine sw_iload_n dX11_exit_11 rfl ?_
    refine sw_Vv dX11_exit_12 k_X11_180 mf_X7_exitOf (c_X7_exitOf (d := d - 1) (by omega) a) rfl ⟨_, rfl, rfl⟩ (by omega) (by omega) (by omega) rfl rfl (Nat.le_of_ble_eq_true rfl) ?_
    refine sw_goto 19 dX11_exit_15 (by decide) ?_
    exact sw_iret dX11_exit_19 rfl (by first | rfl | exact bz_n _) (by omega) (by omega) ⟨by rw [if_neg (show ¬ s 0 = 0 from h4)], rfl, rfl⟩
def cdX (s : Nat → Int32) (A : Nat → Nat → Int32) (k w : Int32) : Int32 := if k = -1 then s 12 else if chs s k = true then (if w = 0 then cat s (A 29) k else if w = 1 then cat s (A 30) k else -1) else -1
set_option maxRecDepth 100000 in
theorem c_X11_code {l : Launch} {D : va_G} {cy : Nat → ClassId} {d n : Nat} {f : sw_F} {s : Nat → Int32} {A : Nat → Nat → Int32} {B : Nat → Nat → Int64} {o : Int64} {pr : Value} (hd : 2 ≤ d) {C : Nat} (hC : s 12 = nI C) (hCb : C ≤ 100) (k w : Int32) : sw_Ct l D cy mX11_code d 0 0 [.ref 0, .int k, .int w] n (gd f s A B o pr) (sw_D (some (.int (cdX s A k w))) n (gd f s A B o pr)) := by
  refine sw_of rfl (Nat.le_of_ble_eq_true rfl) ?_
  show SW l D cy mX11_code d 0 0 0 0 0 [(0, .ref 0), (1, .int k), (2, .int w)] [] n (gd f s A B o pr) _ _
  refine sw_iload_n dX11_code_0 rfl ?_
  refine sw_iconst (x := (-1)) dX11_code_1 (by decide) ?_
  refine sw_icmp_ne 13 dX11_code_2 (by decide) (fun h2 => ?_) (fun h2 => ?_)
  · refine sw_aload_n dX11_code_13 rfl (by first | rfl | assumption) ?_
    refine sw_get dX11_code_14 fr_X11_52 rfl rfl ?_
    refine sw_iload_n dX11_code_17 rfl ?_
    refine sw_Vv dX11_code_18 k_X11_184 mf_X0_has (c_X0_has (d := d - 1) k) rfl ⟨_, rfl, rfl⟩ (by omega) (by omega) (by omega) rfl rfl (Nat.le_of_ble_eq_true rfl) ?_
    refine sw_if_ne 26 dX11_code_21 (by decide) (fun h21 => ?_) (fun h21 => ?_)
    · refine sw_iload_n dX11_code_26 rfl ?_
      refine sw_if_ne 39 dX11_code_27 (by decide) (fun h27 => ?_) (fun h27 => ?_)
      · refine sw_iload_n dX11_code_39 rfl ?_
        refine sw_iconst (x := 1) dX11_code_40 (by decide) ?_
        refine sw_icmp_ne 55 dX11_code_41 (by decide) (fun h41 => ?_) (fun h41 => ?_)
        · refine sw_iconst (x := (-1)) dX11_code_55 (by decide) ?_
          exact sw_iret dX11_code_56 rfl (by first | rfl | exact bz_n _) (by omega) (by omega) ⟨by rw [cdX, if_neg h2, if_pos (bz_ne.mp h21), if_neg h27, if_neg h41], rfl, rfl⟩
        · refine sw_aload_n dX11_code_44 rfl (by first | rfl | assumption) ?_
          refine sw_get dX11_code_45 fr_X11_52 rfl rfl ?_
          refine sw_iload_n dX11_code_48 rfl ?_
          refine sw_Vv dX11_code_49 k_X11_188 mf_X0_argumentAt (c_X0_argumentAt (d := d - 1) (by omega) hC hCb k) rfl ⟨_, rfl, rfl⟩ (by omega) (by omega) (by omega) rfl rfl (Nat.le_of_ble_eq_true rfl) ?_
          refine sw_goto 56 dX11_code_52 (by decide) ?_
          exact sw_iret dX11_code_56 rfl (by first | rfl | exact bz_n _) (by omega) (by omega) ⟨by rw [cdX, if_neg h2, if_pos (bz_ne.mp h21), if_neg h27, if_pos h41], rfl, rfl⟩
      · refine sw_aload_n dX11_code_30 rfl (by first | rfl | assumption) ?_
        refine sw_get dX11_code_31 fr_X11_52 rfl rfl ?_
        refine sw_iload_n dX11_code_34 rfl ?_
        refine sw_Vv dX11_code_35 k_X11_185 mf_X0_kindAt (c_X0_kindAt (d := d - 1) (by omega) hC hCb k) rfl ⟨_, rfl, rfl⟩ (by omega) (by omega) (by omega) rfl rfl (Nat.le_of_ble_eq_true rfl) ?_
        exact sw_iret dX11_code_38 rfl (by first | rfl | exact bz_n _) (by omega) (by omega) ⟨by rw [cdX, if_neg h2, if_pos (bz_ne.mp h21), if_pos h27], rfl, rfl⟩
    · refine sw_iconst (x := (-1)) dX11_code_24 (by decide) ?_
      exact sw_iret dX11_code_25 rfl (by first | rfl | exact bz_n _) (by omega) (by omega) ⟨by rw [cdX, if_neg h2, if_neg (by rw [bz_0.mp h21]; decide)], rfl, rfl⟩
  · refine sw_aload_n dX11_code_5 rfl (by first | rfl | assumption) ?_
    refine sw_get dX11_code_6 fr_X11_52 rfl rfl ?_
    refine sw_Vv dX11_code_9 k_X11_177 mf_X0_size (c_X0_size (d := d - 1)) rfl ⟨_, rfl, rfl⟩ (by omega) (by omega) (by omega) rfl rfl (Nat.le_of_ble_eq_true rfl) ?_
    exact sw_iret dX11_code_12 rfl (by first | rfl | exact bz_n _) (by omega) (by omega) ⟨by rw [cdX, if_pos h2], rfl, rfl⟩
def fgS (s : Nat → Int32) : Nat → Int32 := va_up (va_up s 2 0) 3 0
set_option maxRecDepth 100000 in
theorem c_X11_forgetChecks {l : Launch} {D : va_G} {cy : Nat → ClassId} {d n : Nat} {f : sw_F} {s : Nat → Int32} {A : Nat → Nat → Int32} {B : Nat → Nat → Int64} {o : Int64} {pr : Value}  : sw_Ct l D cy mX11_forgetChecks d 0 0 [.ref 0] n (gd f s A B o pr) (sw_D none n (gd f (fgS s) A B o pr)) := by
  refine sw_of rfl (Nat.le_of_ble_eq_true rfl) ?_
  show SW l D cy mX11_forgetChecks d 0 0 0 0 0 [(0, .ref 0)] [] n (gd f s A B o pr) _ _
  refine sw_aload_n dX11_forgetChecks_0 rfl (by first | rfl | assumption) ?_
  refine sw_iconst (x := 0) dX11_forgetChecks_1 (by decide) ?_
  refine g_put 2 dX11_forgetChecks_2 fl_X11_102 rfl ⟨by decide, rfl⟩ rfl (Nat.le_of_ble_eq_true rfl) (by first | exact sw_fit_z0 | exact sw_fit_z1 | exact sw_fit_z _) rfl ?_
  refine sw_aload_n dX11_forgetChecks_5 rfl (by first | rfl | assumption) ?_
  refine sw_iconst (x := 0) dX11_forgetChecks_6 (by decide) ?_
  refine g_put 3 dX11_forgetChecks_7 fl_X11_105 rfl ⟨by decide, rfl⟩ rfl (Nat.le_of_ble_eq_true rfl) (by first | exact sw_fit_z0 | exact sw_fit_z1 | exact sw_fit_z _) rfl ?_
  exact sw_vret dX11_forgetChecks_10 rfl (by omega) (by omega) ⟨rfl, rfl, rfl⟩
set_option maxRecDepth 100000 in
theorem c_X11_empty {l : Launch} {D : va_G} {cy : Nat → ClassId} {d n : Nat} {f : sw_F} {s : Nat → Int32} {A : Nat → Nat → Int32} {B : Nat → Nat → Int64} {o : Int64} {pr : Value} (hd : 1 ≤ d) : sw_Ct l D cy mX11_empty d 0 0 [.ref 0] n (gd f s A B o pr) (sw_D none n (gd f (fgS (va_up s 12 0)) A B o pr)) := by
  refine sw_of rfl (Nat.le_of_ble_eq_true rfl) ?_
  show SW l D cy mX11_empty d 0 0 0 0 0 [(0, .ref 0)] [] n (gd f s A B o pr) _ _
  refine sw_aload_n dX11_empty_0 rfl (by first | rfl | assumption) ?_
  refine sw_get dX11_empty_1 fr_X11_52 rfl rfl ?_
  refine sw_Vn dX11_empty_4 k_X11_191 mf_X0_clear (c_X0_clear (d := d - 1)) rfl ⟨_, rfl, rfl⟩ (by omega) (by omega) (by omega) rfl rfl (Nat.le_of_ble_eq_true rfl) ?_
  refine sw_aload_n dX11_empty_7 rfl (by first | rfl | assumption) ?_
  refine sw_Vn dX11_empty_8 k_X11_194 mf_X11_forgetChecks (c_X11_forgetChecks (d := d - 1)) rfl ⟨_, rfl, rfl⟩ (by omega) (by omega) (by omega) rfl rfl (Nat.le_of_ble_eq_true rfl) ?_
  exact sw_vret dX11_empty_11 rfl (by omega) (by omega) ⟨rfl, rfl, rfl⟩
def puS (s : Nat → Int32) : Nat → Int32 := if s 12 < 100 then fgS (cadS s) else s
set_option maxRecDepth 100000 in
theorem c_X11_put {l : Launch} {D : va_G} {cy : Nat → ClassId} {d n : Nat} {f : sw_F} {s : Nat → Int32} {A : Nat → Nat → Int32} {B : Nat → Nat → Int64} {o : Int64} {pr : Value} (hd : 1 ≤ d) {C : Nat} (hC : s 12 = nI C) (hCb : C ≤ 100) (k g : Int32) : sw_Ct l D cy mX11_put d 0 0 [.ref 0, .int k, .int g] n (gd f s A B o pr) (sw_D (some (.int (bz (decide (s 12 < 100))))) n (gd f (puS s) (cadA s A k g) B o pr)) := by
  refine sw_of rfl (Nat.le_of_ble_eq_true rfl) ?_
  show SW l D cy mX11_put d 0 0 0 0 0 [(0, .ref 0), (1, .int k), (2, .int g)] [] n (gd f s A B o pr) _ _
  refine sw_aload_n dX11_put_0 rfl (by first | rfl | assumption) ?_
  refine sw_get dX11_put_1 fr_X11_52 rfl rfl ?_
  refine sw_iload_n dX11_put_4 rfl ?_
  refine sw_iload_n dX11_put_5 rfl ?_
  refine sw_Vv dX11_put_6 k_X11_197 mf_X0_add (c_X0_add (d := d - 1) hC hCb k g) rfl ⟨_, rfl, rfl⟩ (by omega) (by omega) (by omega) rfl rfl (Nat.le_of_ble_eq_true rfl) ?_
  refine sw_if_ne 14 dX11_put_9 (by decide) (fun h9 => ?_) (fun h9 => ?_)
  · refine sw_aload_n dX11_put_14 rfl (by first | rfl | assumption) ?_
    refine sw_Vn dX11_put_15 k_X11_194 mf_X11_forgetChecks (c_X11_forgetChecks (d := d - 1)) rfl ⟨_, rfl, rfl⟩ (by omega) (by omega) (by omega) rfl rfl (Nat.le_of_ble_eq_true rfl) ?_
    refine sw_iconst (x := 1) dX11_put_18 (by decide) ?_
    exact sw_iret dX11_put_19 rfl (by first | rfl | exact bz_n _) (by omega) (by omega) ⟨by rw [bz_ne.mp h9]; rfl, rfl, by rw [puS, if_pos (of_decide_eq_true (bz_ne.mp h9))]⟩
  · refine sw_iconst (x := 0) dX11_put_12 (by decide) ?_
    exact sw_iret dX11_put_13 rfl (by first | rfl | exact bz_n _) (by omega) (by omega) ⟨by rw [bz_0.mp h9]; rfl, rfl, by rw [puS, cadS, if_neg (of_decide_eq_false (bz_0.mp h9)), if_neg (of_decide_eq_false (bz_0.mp h9))]⟩
set_option maxRecDepth 100000 in
theorem c_X11_found {l : Launch} {D : va_G} {cy : Nat → ClassId} {d n : Nat} {f : sw_F} {s : Nat → Int32} {A : Nat → Nat → Int32} {B : Nat → Nat → Int64} {o : Int64} {pr : Value} (hd : 3 ≤ d) {C : Nat} (hC : s 12 = nI C) (hCb : C ≤ 100) (a w : Int32) : sw_Ct l D cy mX11_found d 0 0 [.ref 0, .int a, .int w] n (gd f s A B o pr) (sw_D (some (.int (if s 3 = 0 then -1 else lat s (A 32) (fun k => A (45 + k)) a w))) n (gd f s A B o pr)) := by
  refine sw_of rfl (Nat.le_of_ble_eq_true rfl) ?_
  show SW l D cy mX11_found d 0 0 0 0 0 [(0, .ref 0), (1, .int a), (2, .int w)] [] n (gd f s A B o pr) _ _
  refine sw_aload_n dX11_found_0 rfl (by first | rfl | assumption) ?_
  refine sw_get dX11_found_1 fr_X11_105 rfl rfl ?_
  refine sw_if_eq 19 dX11_found_4 (by decide) (fun h4 => ?_) (fun h4 => ?_)
  · refine sw_iconst (x := (-1)) dX11_found_19 (by decide) ?_
    exact sw_iret dX11_found_20 rfl (by first | rfl | exact bz_n _) (by omega) (by omega) ⟨by rw [if_pos (show s 3 = 0 from h4)], rfl, rfl⟩
  · refine sw_aload_n dX11_found_7 rfl (by first | rfl | assumption) ?_
    refine sw_get dX11_found_8 fr_X11_79 rfl rfl ?_
    refine sw_iload_n dX11_found_11 rfl ?_
    refine sw_iload_n dX11_found_12 rfl ?_
    refine sw_Vv dX11_found_13 k_X11_218 mf_X1_labelAt (by have z := c_X1_labelAt (l := l) (D := D) (cy := cy) (d := d - 1) (n := n) (f := f) (s := s) (A := A) (B := B) (o := o) (pr := pr) (Y := fun k => A (45 + k)) (V := A 145) (L := A 146) (by omega) hC hCb a w; rw [la_id] at z; exact z) rfl ⟨_, rfl, rfl⟩ (by omega) (by omega) (by omega) rfl rfl (Nat.le_of_ble_eq_true rfl) ?_
    refine sw_goto 20 dX11_found_16 (by decide) ?_
    exact sw_iret dX11_found_20 rfl (by first | rfl | exact bz_n _) (by omega) (by omega) ⟨by rw [if_neg (show ¬ s 3 = 0 from h4)], rfl, rfl⟩
def seA (A : Nat → Nat → Int32) (a x : Int32) : Nat → Nat → Int32 := if isV a = true then va_up A 5 (upd (A 5) a.toNatClampNeg x) else A
set_option maxRecDepth 100000 in
theorem c_X11_set {l : Launch} {D : va_G} {cy : Nat → ClassId} {d n : Nat} {f : sw_F} {s : Nat → Int32} {A : Nat → Nat → Int32} {B : Nat → Nat → Int64} {o : Int64} {pr : Value} (hd : 1 ≤ d) (a x : Int32) : sw_Ct l D cy mX11_set d 0 0 [.ref 0, .int a, .int x] n (gd f s A B o pr) (sw_D (some (.int (bz (isV a)))) n (gd f s (seA A a x) B o pr)) := by
  refine sw_of rfl (Nat.le_of_ble_eq_true rfl) ?_
  show SW l D cy mX11_set d 0 0 0 0 0 [(0, .ref 0), (1, .int a), (2, .int x)] [] n (gd f s A B o pr) _ _
  refine sw_iload_n dX11_set_0 rfl ?_
  refine sw_Sv dX11_set_1 k_X11_144 mf_X11_isVariable (c_X11_isVariable (d := d - 1) a) (by omega) (by omega) (by omega) rfl rfl (Nat.le_of_ble_eq_true rfl) ?_
  refine sw_if_ne 9 dX11_set_4 (by decide) (fun h4 => ?_) (fun h4 => ?_)
  · obtain ⟨v, hv, rfl⟩ := isV_i (bz_ne.mp h4)
    refine sw_aload_n dX11_set_9 rfl (by first | rfl | assumption) ?_
    refine sw_get dX11_set_10 fr_X11_23 rfl rfl ?_
    refine sw_iload_n dX11_set_13 rfl ?_
    refine sw_iload_n dX11_set_14 rfl ?_
    refine g_iast (v) dX11_set_15 ⟨by decide, rfl, rfl⟩ rfl (show v < 8 by omega) rfl ?_
    refine sw_iconst (x := 1) dX11_set_16 (by decide) ?_
    exact sw_iret dX11_set_17 rfl (by first | rfl | exact bz_n _) (by omega) (by omega) ⟨by rw [isV_n hv]; rfl, rfl, by rw [seA, if_pos (isV_n hv), nI_clamp (by omega)]⟩
  · refine sw_iconst (x := 0) dX11_set_7 (by decide) ?_
    exact sw_iret dX11_set_8 rfl (by first | rfl | exact bz_n _) (by omega) (by omega) ⟨by rw [bz_0.mp h4]; rfl, rfl, by rw [seA, if_neg (by rw [bz_0.mp h4]; decide)]⟩
set_option maxRecDepth 100000 in
theorem c_X11_get {l : Launch} {D : va_G} {cy : Nat → ClassId} {d n : Nat} {f : sw_F} {s : Nat → Int32} {A : Nat → Nat → Int32} {B : Nat → Nat → Int64} {o : Int64} {pr : Value} (hd : 1 ≤ d) (a : Int32) : sw_Ct l D cy mX11_get d 0 0 [.ref 0, .int a] n (gd f s A B o pr) (sw_D (some (.int (if isV a = true then A 5 a.toNatClampNeg else 0))) n (gd f s A B o pr)) := by
  refine sw_of rfl (Nat.le_of_ble_eq_true rfl) ?_
  show SW l D cy mX11_get d 0 0 0 0 0 [(0, .ref 0), (1, .int a)] [] n (gd f s A B o pr) _ _
  refine sw_iload_n dX11_get_0 rfl ?_
  refine sw_Sv dX11_get_1 k_X11_144 mf_X11_isVariable (c_X11_isVariable (d := d - 1) a) (by omega) (by omega) (by omega) rfl rfl (Nat.le_of_ble_eq_true rfl) ?_
  refine sw_if_eq 16 dX11_get_4 (by decide) (fun h4 => ?_) (fun h4 => ?_)
  · refine sw_iconst (x := 0) dX11_get_16 (by decide) ?_
    exact sw_iret dX11_get_17 rfl (by first | rfl | exact bz_n _) (by omega) (by omega) ⟨by rw [if_neg (by rw [bz_0.mp h4]; decide)], rfl, rfl⟩
  · obtain ⟨v, hv, rfl⟩ := isV_i (bz_ne.mp h4)
    refine sw_aload_n dX11_get_7 rfl (by first | rfl | assumption) ?_
    refine sw_get dX11_get_8 fr_X11_23 rfl rfl ?_
    refine sw_iload_n dX11_get_11 rfl ?_
    refine sw_ialdN (v) dX11_get_12 rfl rfl (show v < 8 by omega) (by decide) ?_
    refine sw_goto 17 dX11_get_13 (by decide) ?_
    exact sw_iret dX11_get_17 rfl (by first | rfl | exact bz_n _) (by omega) (by omega) ⟨by rw [if_pos (isV_n hv), nI_clamp (by omega)], rfl, rfl⟩
def fwO (s : Nat → Int32) (x : Int32) : Prop := ¬ s 0 = 0 ∧ ¬ x < 0 ∧ x ≤ 500
set_option maxRecDepth 100000 in
theorem c_fol_0 {l : Launch} {D : va_G} {cy : Nat → ClassId} {d n : Nat} {f : sw_F} {s : Nat → Int32} {A : Nat → Nat → Int32} {B : Nat → Nat → Int64} {o : Int64} {pr : Value} (x : Int32) (h : ¬ fwO s x) : sw_Ct l D cy mX11_follow d 0 0 [.ref 0, .int x] n (gd f s A B o pr) (sw_D (some (.int (-1))) n (gd f s A B o pr)) := by
  refine sw_of rfl (Nat.le_of_ble_eq_true rfl) ?_
  show SW l D cy mX11_follow d 0 0 0 0 0 [(0, .ref 0), (1, .int x)] [] n (gd f s A B o pr) _ _
  refine sw_aload_n dX11_follow_0 rfl (by first | rfl | assumption) ?_
  refine sw_get dX11_follow_1 fr_X11_94 rfl rfl ?_
  refine sw_if_eq 18 dX11_follow_4 (by decide) (fun h4 => ?_) (fun h4 => ?_)
  · refine sw_iconst (x := (-1)) dX11_follow_18 (by decide) ?_
    exact sw_iret dX11_follow_19 rfl (by first | rfl | exact bz_n _) (by omega) (by omega) ⟨rfl, rfl, rfl⟩
  · refine sw_iload_n dX11_follow_7 rfl ?_
    refine sw_if_lt 18 dX11_follow_8 (by decide) (fun h8 => ?_) (fun h8 => ?_)
    · refine sw_iconst (x := (-1)) dX11_follow_18 (by decide) ?_
      exact sw_iret dX11_follow_19 rfl (by first | rfl | exact bz_n _) (by omega) (by omega) ⟨rfl, rfl, rfl⟩
    · refine sw_iload_n dX11_follow_11 rfl ?_
      refine sw_sipush (x := 500) dX11_follow_12 (by decide) ?_
      refine sw_icmp_le 20 dX11_follow_15 (by decide) (fun h15 => ?_) (fun h15 => ?_)
      · exact absurd ⟨h4, h8, h15⟩ h
      · refine sw_iconst (x := (-1)) dX11_follow_18 (by decide) ?_
        exact sw_iret dX11_follow_19 rfl (by first | rfl | exact bz_n _) (by omega) (by omega) ⟨rfl, rfl, rfl⟩
set_option maxRecDepth 100000 in
theorem c_fol_1 {l : Launch} {D : va_G} {cy : Nat → ClassId} {d n : Nat} {f : sw_F} {s : Nat → Int32} {A : Nat → Nat → Int32} {B : Nat → Nat → Int64} {o : Int64} {pr : Value} {Mx : Nat} (hMx : Mx ≤ 500) (h0 : ¬ s 0 = 0) {m n' : Nat} (hm : 150 ≤ m) {t : RT} (hd : 35 ≤ d) (wf : wfR t) (dk : dkR 0 t) (nr : ndR f m n' t pr) : sw_Ct l D cy mX11_follow d 0 0 [.ref 0, .int (nI Mx)] n (gd f s A B o pr) (FoQ n f s A B o pr Mx (mkR t (fillF (A 5) (A 27) 8) Mx)) := by
  have hv := ndR_r _ _ nr
  refine sw_of rfl (Nat.le_of_ble_eq_true rfl) ?_
  show SW l D cy mX11_follow d 0 0 0 0 0 [(0, .ref 0), (1, .int (nI Mx))] [] n (gd f s A B o pr) _ _
  refine sw_aload_n dX11_follow_0 rfl (by first | rfl | assumption) ?_
  refine sw_get dX11_follow_1 fr_X11_94 rfl rfl ?_
  refine sw_if_eq 18 dX11_follow_4 (by decide) (fun h4 => ?_) (fun h4 => ?_)
  · exact absurd h4 h0
  · refine sw_iload_n dX11_follow_7 rfl ?_
    refine sw_if_lt 18 dX11_follow_8 (by decide) (fun h8 => ?_) (fun h8 => ?_)
    · exact absurd h8 (i32_nlt0 (by omega))
    · refine sw_iload_n dX11_follow_11 rfl ?_
      refine sw_sipush (x := 500) dX11_follow_12 (by decide) ?_
      refine sw_icmp_le 20 dX11_follow_15 (by decide) (fun h15 => ?_) (fun h15 => ?_)
      · refine sw_aload_n dX11_follow_20 rfl (by first | rfl | assumption) ?_
        refine sw_get dX11_follow_21 fr_X11_45 rfl rfl ?_
        refine sw_aload_n dX11_follow_24 rfl (by first | rfl | assumption) ?_
        refine sw_get dX11_follow_25 fr_X11_90 rfl rfl ?_
        refine sw_aload_n dX11_follow_28 rfl (by first | rfl | assumption) ?_
        refine sw_get dX11_follow_29 fr_X11_23 rfl rfl ?_
        refine sw_iload_n dX11_follow_32 rfl ?_
        refine sw_callV dX11_follow_33 k_X11_229 mf_X2_execute ⟨_, rfl, rfl⟩ rfl (c_X2_execute (d := d - 1) hMx hm (by omega) wf dk nr) (by omega) ⟨by omega, by omega⟩ rfl rfl (Nat.le_of_ble_eq_true rfl) (fun r' nn f' hq hle => ?_)
        obtain ⟨y, hy⟩ : ∃ y, r' = some (.int y) := by rcases hq.2 with ⟨X', c', _, _, h, _⟩ | ⟨_, h, _⟩; exact ⟨_, h⟩; exact ⟨_, h⟩
        subst hy
        exact sw_iret dX11_follow_36 rfl rfl (by omega) (by omega) hq
      · exact absurd (by rw [nl_500]; exact (nI_leI (by omega) (by omega)).mpr hMx) h15
