/-! ===== THE CLASS: Reader, append ===== -/
theorem wk_8 : ∀ i, i < 9 → wk i + Int32.ofInt (-8) = wk (i + 1) := by decide
theorem n72 : ∀ T, T < 73 → (72 : Int32) - nI T = nI (72 - T) := by decide
set_option maxRecDepth 100000 in
theorem l_X8_ap1 {l : Launch} {D : va_G} {cy : Nat → ClassId} {d n : Nat} {f : sw_F} {s : Nat → Int32} {A : Nat → Nat → Int32} {B : Nat → Nat → Int64} {o : Int64} {pr : Value} (w : Int64) {Q : sw_Q} {QX : sw_QX} (hbad : wok w 0 8 = false → Q (some (.int 0)) n (gd f s A B o pr)) (K : wok w 0 8 = true → SW l D cy mX8_append d 0 0 0 0 62 [(0, .ref 6), (1, .long w), (3, .int (nI (wcn w 8)))] [] n (gd f s A B o pr) Q QX) : ∀ (k i : Nat), i ≤ 8 → 8 < i + k → (∀ j, j < i → wgood (wby w j) = true) → SW l D cy mX8_append d 0 0 0 0 6 [(0, .ref 6), (1, .long w), (3, .int (nI (wcn w i))), (4, .int (wk i))] [] n (gd f s A B o pr) Q QX := by
  intro k
  induction k with
  | zero => intro i0 h1 h2; exact absurd h2 (by omega)
  | succ k ih =>
    intro i he hk hg
    refine sw_iload dX8_append_6 rfl ?_
    refine sw_if_lt 62 dX8_append_8 (by decide) (fun h8 => ?_) (fun h8 => ?_)
    · refine sw_keep [0, 1, 2] rfl ?_
      rw [(wk_0 i (by omega)).mp h8]
      exact K (allF_iff.mpr (fun j h1 h2 => hg j (by rw [(wk_0 i (by omega)).mp h8]; omega)))
    · have e1 : i < 8 := Nat.lt_of_le_of_ne he (fun q => h8 ((wk_0 i (by omega)).mpr q))
      refine sw_lload_n dX8_append_11 rfl ?_
      refine sw_iload dX8_append_12 rfl ?_
      refine sw_lushr dX8_append_14 ?_
      refine sw_ldc2 dX8_append_15 k_c_X8_25 ?_
      refine sw_land dX8_append_18 ?_
      refine sw_l2i dX8_append_19 ?_
      refine sw_top (y := wby w i) rfl ?_
      refine sw_istore [(0, _), (1, _), (3, _), (4, _), (5, _)] dX8_append_20 (by decide) rfl ?_
      refine sw_iload dX8_append_22 rfl ?_
      refine sw_if_eq 43 dX8_append_24 (by decide) (fun h24 => ?_) (fun h24 => ?_)
      · have e3 : wgood (wby w i) = true := by unfold wgood; grind
        refine sw_iload_n dX8_append_43 rfl ?_
        refine sw_iload dX8_append_44 rfl ?_
        refine sw_if_ne 53 dX8_append_46 (by decide) (fun h46 => ?_) (fun h46 => ?_)
        · refine sw_iconst (x := 1) dX8_append_53 (by decide) ?_
          refine sw_iadd dX8_append_54 ?_
          refine sw_top (y := nI (wcn w (i + 1))) (by rw [wcn, if_neg h46]; exact nI_1 _) ?_
          refine sw_istore_n [(0, _), (1, _), (3, _), (4, _), (5, _)] dX8_append_55 (by decide) rfl ?_
          refine sw_iinc [(0, _), (1, _), (3, _), (4, .int (wk (i + 1))), (5, _)] dX8_append_56 rfl (by decide) (by rw [wk_8 i (by omega)]; rfl) ?_
          refine sw_goto 6 dX8_append_59 (by decide) ?_
          refine sw_keep [0, 1, 2, 3] rfl ?_
          exact ih (i + 1) (by omega) (by omega) (fun j hj => (Nat.lt_succ_iff_lt_or_eq.mp hj).elim (hg j) (fun q => by rw [q]; exact e3))
        · refine sw_iconst (x := 0) dX8_append_49 (by decide) ?_
          refine sw_goto 54 dX8_append_50 (by decide) ?_
          refine sw_iadd dX8_append_54 ?_
          refine sw_top (y := nI (wcn w (i + 1))) (by rw [wcn, if_pos h46]; exact Int32.add_zero _) ?_
          refine sw_istore_n [(0, _), (1, _), (3, _), (4, _), (5, _)] dX8_append_55 (by decide) rfl ?_
          refine sw_iinc [(0, _), (1, _), (3, _), (4, .int (wk (i + 1))), (5, _)] dX8_append_56 rfl (by decide) (by rw [wk_8 i (by omega)]; rfl) ?_
          refine sw_goto 6 dX8_append_59 (by decide) ?_
          refine sw_keep [0, 1, 2, 3] rfl ?_
          exact ih (i + 1) (by omega) (by omega) (fun j hj => (Nat.lt_succ_iff_lt_or_eq.mp hj).elim (hg j) (fun q => by rw [q]; exact e3))
      · refine sw_iload dX8_append_27 rfl ?_
        refine sw_bipush (x := 32) dX8_append_29 (by decide) ?_
        refine sw_icmp_lt 41 dX8_append_31 (by decide) (fun h31 => ?_) (fun h31 => ?_)
        · have e2 : wok w 0 8 = false := by
            cases hc : wok w 0 8 with
            | false => rfl
            | true => exact absurd (allF_iff.mp hc i (by omega) (by omega)) (by unfold wgood; grind)
          refine sw_iconst (x := 0) dX8_append_41 (by decide) ?_
          exact sw_iret dX8_append_42 rfl (by first | rfl | exact bz_n _) (by omega) (by omega) (hbad e2)
        · refine sw_iload dX8_append_34 rfl ?_
          refine sw_bipush (x := 126) dX8_append_36 (by decide) ?_
          refine sw_icmp_le 43 dX8_append_38 (by decide) (fun h38 => ?_) (fun h38 => ?_)
          · have e3 : wgood (wby w i) = true := by unfold wgood; grind
            refine sw_iload_n dX8_append_43 rfl ?_
            refine sw_iload dX8_append_44 rfl ?_
            refine sw_if_ne 53 dX8_append_46 (by decide) (fun h46 => ?_) (fun h46 => ?_)
            · refine sw_iconst (x := 1) dX8_append_53 (by decide) ?_
              refine sw_iadd dX8_append_54 ?_
              refine sw_top (y := nI (wcn w (i + 1))) (by rw [wcn, if_neg h46]; exact nI_1 _) ?_
              refine sw_istore_n [(0, _), (1, _), (3, _), (4, _), (5, _)] dX8_append_55 (by decide) rfl ?_
              refine sw_iinc [(0, _), (1, _), (3, _), (4, .int (wk (i + 1))), (5, _)] dX8_append_56 rfl (by decide) (by rw [wk_8 i (by omega)]; rfl) ?_
              refine sw_goto 6 dX8_append_59 (by decide) ?_
              refine sw_keep [0, 1, 2, 3] rfl ?_
              exact ih (i + 1) (by omega) (by omega) (fun j hj => (Nat.lt_succ_iff_lt_or_eq.mp hj).elim (hg j) (fun q => by rw [q]; exact e3))
            · refine sw_iconst (x := 0) dX8_append_49 (by decide) ?_
              refine sw_goto 54 dX8_append_50 (by decide) ?_
              refine sw_iadd dX8_append_54 ?_
              refine sw_top (y := nI (wcn w (i + 1))) (by rw [wcn, if_pos h46]; exact Int32.add_zero _) ?_
              refine sw_istore_n [(0, _), (1, _), (3, _), (4, _), (5, _)] dX8_append_55 (by decide) rfl ?_
              refine sw_iinc [(0, _), (1, _), (3, _), (4, .int (wk (i + 1))), (5, _)] dX8_append_56 rfl (by decide) (by rw [wk_8 i (by omega)]; rfl) ?_
              refine sw_goto 6 dX8_append_59 (by decide) ?_
              refine sw_keep [0, 1, 2, 3] rfl ?_
              exact ih (i + 1) (by omega) (by omega) (fun j hj => (Nat.lt_succ_iff_lt_or_eq.mp hj).elim (hg j) (fun q => by rw [q]; exact e3))
          · have e2 : wok w 0 8 = false := by
              cases hc : wok w 0 8 with
              | false => rfl
              | true => exact absurd (allF_iff.mp hc i (by omega) (by omega)) (by unfold wgood; grind)
            refine sw_iconst (x := 0) dX8_append_41 (by decide) ?_
            exact sw_iret dX8_append_42 rfl (by first | rfl | exact bz_n _) (by omega) (by omega) (hbad e2)
set_option maxRecDepth 100000 in
theorem l_X8_ap2 {l : Launch} {D : va_G} {cy : Nat → ClassId} {d n : Nat} {f : sw_F} {s : Nat → Int32} {A : Nat → Nat → Int32} {B : Nat → Nat → Int64} {o : Int64} {pr : Value} (w : Int64) {T : Nat} (hT : T + wcn w 8 ≤ 72) (hok : wok w 0 8 = true) {QX : sw_QX} : ∀ (k i : Nat), i ≤ 8 → 8 < i + k → SW l D cy mX8_append d 0 0 0 0 79 [(0, .ref 6), (1, .long w), (4, .int (wk i))] [] n (gd f (va_up s 7 (nI (T + wcn w (i)))) (va_up A 7 (wtx w (A 7) T (i))) B o pr) (sw_D (some (.int 1)) n (gd f (va_up s 7 (nI (T + wcn w (8)))) (va_up A 7 (wtx w (A 7) T (8))) B o pr)) QX := by
  intro k
  induction k with
  | zero => intro i0 h1 h2; exact absurd h2 (by omega)
  | succ k ih =>
    intro i he hk
    refine sw_iload dX8_append_79 rfl ?_
    refine sw_if_lt 127 dX8_append_81 (by decide) (fun h81 => ?_) (fun h81 => ?_)
    · rw [(wk_0 i (by omega)).mp h81]
      refine sw_iconst (x := 1) dX8_append_127 (by decide) ?_
      exact sw_iret dX8_append_128 rfl (by first | rfl | exact bz_n _) (by omega) (by omega) ⟨rfl, rfl, rfl⟩
    · have e1 : i < 8 := Nat.lt_of_le_of_ne he (fun q => h81 ((wk_0 i (by omega)).mpr q))
      have e4 : wcn w i ≤ wcn w 8 ∧ (¬ wby w i = 0 → wcn w i < wcn w 8) := wcn_mono w e1
      refine sw_lload_n dX8_append_84 rfl ?_
      refine sw_iload dX8_append_85 rfl ?_
      refine sw_lushr dX8_append_87 ?_
      refine sw_ldc2 dX8_append_88 k_c_X8_25 ?_
      refine sw_land dX8_append_91 ?_
      refine sw_l2i dX8_append_92 ?_
      refine sw_top (y := wby w i) rfl ?_
      refine sw_istore [(0, _), (1, _), (4, _), (5, _)] dX8_append_93 (by decide) rfl ?_
      refine sw_iload dX8_append_95 rfl ?_
      refine sw_if_eq 121 dX8_append_97 (by decide) (fun h97 => ?_) (fun h97 => ?_)
      · refine sw_iinc [(0, _), (1, _), (4, .int (wk (i + 1))), (5, _)] dX8_append_121 rfl (by decide) (by rw [wk_8 i (by omega)]; rfl) ?_
        refine sw_goto 79 dX8_append_124 (by decide) ?_
        refine sw_keep [0, 1, 2] rfl ?_
        exact g_eq (by rw [wcn, if_pos h97]) (by rw [wtx, if_pos h97]) rfl (ih (i + 1) (by omega) (by omega))
      · have e7 := e4.2 h97
        refine sw_aload_n dX8_append_100 rfl (by first | rfl | assumption) ?_
        refine sw_get dX8_append_101 fr_X8_9 rfl rfl ?_
        refine sw_aload_n dX8_append_104 rfl (by first | rfl | assumption) ?_
        refine sw_get dX8_append_105 fr_X8_15 rfl rfl ?_
        refine sw_iload dX8_append_108 rfl ?_
        refine g_iast (T + wcn w i) dX8_append_110 ⟨by decide, rfl, rfl⟩ rfl (show T + wcn w i < 72 by omega) rfl ?_
        refine sw_aload_n dX8_append_111 rfl (by first | rfl | assumption) ?_
        refine sw_dup dX8_append_112 rfl ?_
        refine sw_get dX8_append_113 fr_X8_15 rfl rfl ?_
        refine sw_iconst (x := 1) dX8_append_116 (by decide) ?_
        refine sw_iadd dX8_append_117 ?_
        refine sw_top (y := nI (T + wcn w i + 1)) (nI_1 _) ?_
        refine g_put 7 dX8_append_118 fl_X8_15 rfl ⟨by decide, rfl⟩ rfl (Nat.le_of_ble_eq_true rfl) (sw_fit_i _) rfl ?_
        refine sw_iinc [(0, _), (1, _), (4, .int (wk (i + 1))), (5, _)] dX8_append_121 rfl (by decide) (by rw [wk_8 i (by omega)]; rfl) ?_
        refine sw_goto 79 dX8_append_124 (by decide) ?_
        refine sw_keep [0, 1, 2] rfl ?_
        exact g_eq (by rw [vu_up, wcn, if_neg h97, Nat.add_assoc]) (by rw [vu_up, wtx, if_neg h97, vu_at]) rfl (ih (i + 1) (by omega) (by omega))
def wOk (T : Nat) (w : Int64) : Bool := wok w 0 8 && decide (T + wcn w 8 ≤ 72)
def wS (s : Nat → Int32) (T : Nat) (w : Int64) : Nat → Int32 := if wOk T w = true then va_up s 7 (nI (T + wcn w 8)) else s
def wA (A : Nat → Nat → Int32) (T : Nat) (w : Int64) : Nat → Nat → Int32 := if wOk T w = true then va_up A 7 (wtx w (A 7) T 8) else A
set_option maxRecDepth 100000 in
theorem c_X8_append {l : Launch} {D : va_G} {cy : Nat → ClassId} {d n : Nat} {f : sw_F} {s : Nat → Int32} {A : Nat → Nat → Int32} {B : Nat → Nat → Int64} {o : Int64} {pr : Value} {T : Nat} (hT : s 7 = nI T) (hTb : T ≤ 72) (w : Int64) : sw_Ct l D cy mX8_append d 0 0 [.ref 6, .long w] n (gd f s A B o pr) (sw_D (some (.int (bz (wOk T w)))) n (gd f (wS s T w) (wA A T w) B o pr)) := by
  refine sw_of rfl (Nat.le_of_ble_eq_true rfl) ?_
  show SW l D cy mX8_append d 0 0 0 0 0 [(0, .ref 6), (1, .long w)] [] n (gd f s A B o pr) _ _
  have eC := wcn_le w 8
  refine sw_iconst (x := 0) dX8_append_0 (by decide) ?_
  refine sw_istore_n [(0, _), (1, _), (3, _)] dX8_append_1 (by decide) rfl ?_
  refine sw_bipush (x := 56) dX8_append_2 (by decide) ?_
  refine sw_istore [(0, _), (1, _), (3, _), (4, _)] dX8_append_4 (by decide) rfl ?_
  refine l_X8_ap1 w (fun hb => ⟨by rw [show wOk T w = false from (by rw [wOk, hb]; rfl)]; rfl, rfl, by rw [wS, wA, show wOk T w = false from (by rw [wOk, hb]; rfl), if_neg (by decide), if_neg (by decide)]⟩) (fun hb => ?_) 9 0 (by omega) (by omega) (fun j hj => absurd hj (by omega))
  refine sw_iload_n dX8_append_62 rfl ?_
  refine sw_bipush (x := 72) dX8_append_63 (by decide) ?_
  refine sw_aload_n dX8_append_65 rfl (by first | rfl | assumption) ?_
  refine sw_get dX8_append_66 fr_X8_15 rfl rfl ?_
  refine sw_top (y := nI T) hT ?_
  refine sw_isub dX8_append_69 ?_
  refine sw_top (y := nI (72 - T)) (n72 T (by omega)) ?_
  refine sw_icmp_le 75 dX8_append_70 (by decide) (fun h70 => ?_) (fun h70 => ?_)
  · refine sw_bipush (x := 56) dX8_append_75 (by decide) ?_
    refine sw_istore [(0, _), (1, _), (3, _), (4, _)] dX8_append_77 (by decide) rfl ?_
    refine sw_keep [0, 1, 3] rfl ?_
    have e5 : T + wcn w 8 ≤ 72 := by rw [nI_leI (by omega) (by omega)] at h70; omega
    have e6 : wOk T w = true := by rw [wOk, hb, decide_eq_true e5]; rfl
    rw [wS, wA, e6, if_pos rfl, if_pos rfl]
    refine g_eq (s' := va_up s 7 (nI (T + wcn w 0))) (A' := va_up A 7 (wtx w (A 7) T 0)) (by rw [show nI (T + wcn w 0) = s 7 from hT.symm, vu_id]) (by rw [wtx, vu_id]) rfl ?_
    exact l_X8_ap2 w e5 hb 9 0 (by omega) (by omega)
  · refine sw_iconst (x := 0) dX8_append_73 (by decide) ?_
    exact sw_iret dX8_append_74 rfl (by first | rfl | exact bz_n _) (by omega) (by omega) ⟨by rw [show wOk T w = false from (by rw [wOk, decide_eq_false (fun q => h70 (by rw [nI_leI (by omega) (by omega)]; omega)), Bool.and_false])]; rfl, rfl, by rw [wS, wA, show wOk T w = false from (by rw [wOk, decide_eq_false (fun q => h70 (by rw [nI_leI (by omega) (by omega)]; omega)), Bool.and_false]), if_neg (by decide), if_neg (by decide)]⟩
