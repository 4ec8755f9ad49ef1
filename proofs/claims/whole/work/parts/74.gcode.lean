/-! ===== THE CLASS: Code ===== -/
def chs (s : Nat → Int32) (a : Int32) : Bool := decide (0 ≤ a ∧ a < s 12)
set_option maxRecDepth 100000 in
theorem c_X0_clear {l : Launch} {D : va_G} {cy : Nat → ClassId} {d n : Nat} {f : sw_F} {s : Nat → Int32} {A : Nat → Nat → Int32} {B : Nat → Nat → Int64} {o : Int64} {pr : Value}  : sw_Ct l D cy mX0_clear d 0 0 [.ref 28] n (gd f s A B o pr) (sw_D none n (gd f (va_up s 12 0) A B o pr)) := by
  refine sw_of rfl (Nat.le_of_ble_eq_true rfl) ?_
  show SW l D cy mX0_clear d 0 0 0 0 0 [(0, .ref 28)] [] n (gd f s A B o pr) _ _
  refine sw_aload_n dX0_clear_0 rfl (by first | rfl | assumption) ?_
  refine sw_iconst (x := 0) dX0_clear_1 (by decide) ?_
  refine g_put 12 dX0_clear_2 fl_X0_18 rfl ⟨by decide, rfl⟩ rfl (Nat.le_of_ble_eq_true rfl) (sw_fit_i _) rfl ?_
  exact sw_vret dX0_clear_5 rfl (by omega) (by omega) ⟨rfl, rfl, rfl⟩
set_option maxRecDepth 100000 in
theorem c_X0_size {l : Launch} {D : va_G} {cy : Nat → ClassId} {d n : Nat} {f : sw_F} {s : Nat → Int32} {A : Nat → Nat → Int32} {B : Nat → Nat → Int64} {o : Int64} {pr : Value}  : sw_Ct l D cy mX0_size d 0 0 [.ref 28] n (gd f s A B o pr) (sw_D (some (.int (s 12))) n (gd f s A B o pr)) := by
  refine sw_of rfl (Nat.le_of_ble_eq_true rfl) ?_
  show SW l D cy mX0_size d 0 0 0 0 0 [(0, .ref 28)] [] n (gd f s A B o pr) _ _
  refine sw_aload_n dX0_size_0 rfl (by first | rfl | assumption) ?_
  refine sw_get dX0_size_1 fr_X0_18 rfl rfl ?_
  exact sw_iret dX0_size_4 rfl (by first | rfl | exact bz_n _) (by omega) (by omega) ⟨rfl, rfl, rfl⟩
set_option maxRecDepth 100000 in
theorem c_X0_has {l : Launch} {D : va_G} {cy : Nat → ClassId} {d n : Nat} {f : sw_F} {s : Nat → Int32} {A : Nat → Nat → Int32} {B : Nat → Nat → Int64} {o : Int64} {pr : Value} (a : Int32) : sw_Ct l D cy mX0_has d 0 0 [.ref 28, .int a] n (gd f s A B o pr) (sw_D (some (.int (bz (chs s a)))) n (gd f s A B o pr)) := by
  refine sw_of rfl (Nat.le_of_ble_eq_true rfl) ?_
  show SW l D cy mX0_has d 0 0 0 0 0 [(0, .ref 28), (1, .int a)] [] n (gd f s A B o pr) _ _
  refine sw_iload_n dX0_has_0 rfl ?_
  refine sw_if_lt 16 dX0_has_1 (by decide) (fun h1 => ?_) (fun h1 => ?_)
  · refine sw_iconst (x := 0) dX0_has_16 (by decide) ?_
    exact sw_iret dX0_has_17 rfl (by first | rfl | exact bz_n _) (by omega) (by omega) ⟨by rw [chs, decide_eq_false (fun q => absurd h1 (Int32.not_lt.mpr q.1))]; rfl, rfl, rfl⟩
  · refine sw_iload_n dX0_has_4 rfl ?_
    refine sw_aload_n dX0_has_5 rfl (by first | rfl | assumption) ?_
    refine sw_get dX0_has_6 fr_X0_18 rfl rfl ?_
    refine sw_icmp_ge 16 dX0_has_9 (by decide) (fun h9 => ?_) (fun h9 => ?_)
    · refine sw_iconst (x := 0) dX0_has_16 (by decide) ?_
      exact sw_iret dX0_has_17 rfl (by first | rfl | exact bz_n _) (by omega) (by omega) ⟨by rw [chs, decide_eq_false (fun q => absurd q.2 (Int32.not_lt.mpr h9))]; rfl, rfl, rfl⟩
    · refine sw_iconst (x := 1) dX0_has_12 (by decide) ?_
      refine sw_goto 17 dX0_has_13 (by decide) ?_
      exact sw_iret dX0_has_17 rfl (by first | rfl | exact bz_n _) (by omega) (by omega) ⟨by rw [chs, decide_eq_true ⟨Int32.not_lt.mp h1, Int32.not_le.mp h9⟩]; rfl, rfl, rfl⟩
theorem chs_i {s : Nat → Int32} {C : Nat} (hs : s 12 = nI C) (hN : C ≤ 100) {a : Int32} (h : chs s a = true) : ∃ i, i < C ∧ a = nI i := by
  have h := of_decide_eq_true h
  rw [hs] at h
  obtain ⟨k, hk, rfl⟩ := nI_of2 (M := nI C) (n := C) (nI_toInt (by omega)) (Int32.not_lt.mpr h.1) (Int32.le_of_lt h.2)
  exact ⟨k, (nI_ltI (by omega) (by omega)).mp h.2, rfl⟩
theorem chs_n {s : Nat → Int32} {C i : Nat} (hs : s 12 = nI C) (hN : C ≤ 100) (h : i < C) : chs s (nI i) = true := by
  unfold chs
  rw [hs]
  exact decide_eq_true ⟨Int32.not_lt.mp (i32_nlt0 (by omega)), (nI_ltI (by omega) (by omega)).mpr h⟩
theorem chs_no {s : Nat → Int32} {C i : Nat} (hs : s 12 = nI C) (hN : C ≤ 100) (hi : i < 2147483648) (h : ¬ i < C) : chs s (nI i) = false := by
  unfold chs
  rw [hs]
  exact decide_eq_false (fun q => h ((nI_ltI (by omega) (by omega)).mp q.2))
theorem chs_m1 {s : Nat → Int32} : chs s (-1) = false := decide_eq_false (fun q => absurd q.1 (by decide))
def cat (s : Nat → Int32) (K : Nat → Int32) (a : Int32) : Int32 := if chs s a = true then K a.toNatClampNeg else -1
theorem cat_n {s : Nat → Int32} {K : Nat → Int32} {C i : Nat} (hs : s 12 = nI C) (hN : C ≤ 100) (h : i < C) : cat s K (nI i) = K i := by
  unfold cat
  rw [if_pos (chs_n hs hN h), nI_clamp (by omega)]
set_option maxRecDepth 100000 in
theorem c_X0_kindAt {l : Launch} {D : va_G} {cy : Nat → ClassId} {d n : Nat} {f : sw_F} {s : Nat → Int32} {A : Nat → Nat → Int32} {B : Nat → Nat → Int64} {o : Int64} {pr : Value} (hd : 1 ≤ d) {C : Nat} (hC : s 12 = nI C) (hCb : C ≤ 100) (a : Int32) : sw_Ct l D cy mX0_kindAt d 0 0 [.ref 28, .int a] n (gd f s A B o pr) (sw_D (some (.int (cat s (A 29) a))) n (gd f s A B o pr)) := by
  refine sw_of rfl (Nat.le_of_ble_eq_true rfl) ?_
  show SW l D cy mX0_kindAt d 0 0 0 0 0 [(0, .ref 28), (1, .int a)] [] n (gd f s A B o pr) _ _
  refine sw_aload_n dX0_kindAt_0 rfl (by first | rfl | assumption) ?_
  refine sw_iload_n dX0_kindAt_1 rfl ?_
  refine sw_Vv dX0_kindAt_2 k_X0_22 mf_X0_has (c_X0_has (d := d - 1) _) rfl ⟨_, rfl, rfl⟩ (by omega) (by omega) (by omega) rfl rfl (Nat.le_of_ble_eq_true rfl) ?_
  refine sw_if_eq 17 dX0_kindAt_5 (by decide) (fun h5 => ?_) (fun h5 => ?_)
  · refine sw_iconst (x := (-1)) dX0_kindAt_17 (by decide) ?_
    exact sw_iret dX0_kindAt_18 rfl (by first | rfl | exact bz_n _) (by omega) (by omega) ⟨by rw [cat, if_neg (by rw [bz_0.mp h5]; decide)], rfl, rfl⟩
  · obtain ⟨i, hi, rfl⟩ := chs_i hC hCb (bz_ne.mp h5)
    refine sw_aload_n dX0_kindAt_8 rfl (by first | rfl | assumption) ?_
    refine sw_get dX0_kindAt_9 fr_X0_9 rfl rfl ?_
    refine sw_iload_n dX0_kindAt_12 rfl ?_
    refine sw_ialdN (i) dX0_kindAt_13 rfl rfl (show i < 100 by omega) (by decide) ?_
    refine sw_goto 18 dX0_kindAt_14 (by decide) ?_
    exact sw_iret dX0_kindAt_18 rfl (by first | rfl | exact bz_n _) (by omega) (by omega) ⟨by rw [cat, if_pos (bz_ne.mp h5), nI_clamp (by omega)], rfl, rfl⟩
set_option maxRecDepth 100000 in
theorem c_X0_argumentAt {l : Launch} {D : va_G} {cy : Nat → ClassId} {d n : Nat} {f : sw_F} {s : Nat → Int32} {A : Nat → Nat → Int32} {B : Nat → Nat → Int64} {o : Int64} {pr : Value} (hd : 1 ≤ d) {C : Nat} (hC : s 12 = nI C) (hCb : C ≤ 100) (a : Int32) : sw_Ct l D cy mX0_argumentAt d 0 0 [.ref 28, .int a] n (gd f s A B o pr) (sw_D (some (.int (cat s (A 30) a))) n (gd f s A B o pr)) := by
  refine sw_of rfl (Nat.le_of_ble_eq_true rfl) ?_
  show SW l D cy mX0_argumentAt d 0 0 0 0 0 [(0, .ref 28), (1, .int a)] [] n (gd f s A B o pr) _ _
  refine sw_aload_n dX0_argumentAt_0 rfl (by first | rfl | assumption) ?_
  refine sw_iload_n dX0_argumentAt_1 rfl ?_
  refine sw_Vv dX0_argumentAt_2 k_X0_22 mf_X0_has (c_X0_has (d := d - 1) _) rfl ⟨_, rfl, rfl⟩ (by omega) (by omega) (by omega) rfl rfl (Nat.le_of_ble_eq_true rfl) ?_
  refine sw_if_eq 17 dX0_argumentAt_5 (by decide) (fun h5 => ?_) (fun h5 => ?_)
  · refine sw_iconst (x := (-1)) dX0_argumentAt_17 (by decide) ?_
    exact sw_iret dX0_argumentAt_18 rfl (by first | rfl | exact bz_n _) (by omega) (by omega) ⟨by rw [cat, if_neg (by rw [bz_0.mp h5]; decide)], rfl, rfl⟩
  · obtain ⟨i, hi, rfl⟩ := chs_i hC hCb (bz_ne.mp h5)
    refine sw_aload_n dX0_argumentAt_8 rfl (by first | rfl | assumption) ?_
    refine sw_get dX0_argumentAt_9 fr_X0_15 rfl rfl ?_
    refine sw_iload_n dX0_argumentAt_12 rfl ?_
    refine sw_ialdN (i) dX0_argumentAt_13 rfl rfl (show i < 100 by omega) (by decide) ?_
    refine sw_goto 18 dX0_argumentAt_14 (by decide) ?_
    exact sw_iret dX0_argumentAt_18 rfl (by first | rfl | exact bz_n _) (by omega) (by omega) ⟨by rw [cat, if_pos (bz_ne.mp h5), nI_clamp (by omega)], rfl, rfl⟩
def cnw (K E : Nat → Int32) (a w : Int32) : Int32 := if w = 0 ∧ ¬ K a.toNatClampNeg = 8 ∧ ¬ K a.toNatClampNeg = 9 then a + 1 else if (w = 0 ∧ K a.toNatClampNeg = 8) ∨ (w = 1 ∧ K a.toNatClampNeg = 7) then E a.toNatClampNeg else -1
def cnx (s : Nat → Int32) (K E : Nat → Int32) (a w : Int32) : Int32 := if chs s a = true then (if chs s (cnw K E a w) = true then cnw K E a w else -1) else -1
set_option maxRecDepth 100000 in
theorem c_X0_nextOf {l : Launch} {D : va_G} {cy : Nat → ClassId} {d n : Nat} {f : sw_F} {s : Nat → Int32} {A : Nat → Nat → Int32} {B : Nat → Nat → Int64} {o : Int64} {pr : Value} (hd : 1 ≤ d) {C : Nat} (hC : s 12 = nI C) (hCb : C ≤ 100) (a w : Int32) : sw_Ct l D cy mX0_nextOf d 0 0 [.ref 28, .int a, .int w] n (gd f s A B o pr) (sw_D (some (.int (cnx s (A 29) (A 30) a w))) n (gd f s A B o pr)) := by
  refine sw_of rfl (Nat.le_of_ble_eq_true rfl) ?_
  show SW l D cy mX0_nextOf d 0 0 0 0 0 [(0, .ref 28), (1, .int a), (2, .int w)] [] n (gd f s A B o pr) _ _
  refine sw_aload_n dX0_nextOf_0 rfl (by first | rfl | assumption) ?_
  refine sw_iload_n dX0_nextOf_1 rfl ?_
  refine sw_Vv dX0_nextOf_2 k_X0_22 mf_X0_has (c_X0_has (d := d - 1) _) rfl ⟨_, rfl, rfl⟩ (by omega) (by omega) (by omega) rfl rfl (Nat.le_of_ble_eq_true rfl) ?_
  refine sw_if_ne 10 dX0_nextOf_5 (by decide) (fun h5 => ?_) (fun h5 => ?_)
  · obtain ⟨i, hi, rfl⟩ := chs_i hC hCb (bz_ne.mp h5)
    have e0 := bz_ne.mp h5
    have J : ∀ x : Int32, x = cnw (A 29) (A 30) (nI i) w → SW l D cy mX0_nextOf d 0 0 0 0 73 [(0, .ref 28), (1, .int (nI i)), (2, .int w), (3, .int (A 29 i)), (4, .int x)] [] n (gd f s A B o pr) (sw_D (some (.int (cnx s (A 29) (A 30) (nI i) w))) n (gd f s A B o pr)) (fun _ _ _ => False) := by
      intro x hx
      refine sw_aload_n dX0_nextOf_73 rfl (by first | rfl | assumption) ?_
      refine sw_iload dX0_nextOf_74 rfl ?_
      refine sw_Vv dX0_nextOf_76 k_X0_22 mf_X0_has (c_X0_has (d := d - 1) _) rfl ⟨_, rfl, rfl⟩ (by omega) (by omega) (by omega) rfl rfl (Nat.le_of_ble_eq_true rfl) ?_
      refine sw_if_eq 87 dX0_nextOf_79 (by decide) (fun h79 => ?_) (fun h79 => ?_)
      · refine sw_iconst (x := (-1)) dX0_nextOf_87 (by decide) ?_
        exact sw_iret dX0_nextOf_88 rfl (by first | rfl | exact bz_n _) (by omega) (by omega) ⟨by rw [cnx, if_pos e0, ← hx, if_neg (by rw [bz_0.mp h79]; decide)], rfl, rfl⟩
      · refine sw_iload dX0_nextOf_82 rfl ?_
        refine sw_goto 88 dX0_nextOf_84 (by decide) ?_
        exact sw_iret dX0_nextOf_88 rfl (by first | rfl | exact bz_n _) (by omega) (by omega) ⟨by rw [cnx, if_pos e0, ← hx, if_pos (bz_ne.mp h79)], rfl, rfl⟩
    refine sw_aload_n dX0_nextOf_10 rfl (by first | rfl | assumption) ?_
    refine sw_get dX0_nextOf_11 fr_X0_9 rfl rfl ?_
    refine sw_iload_n dX0_nextOf_14 rfl ?_
    refine sw_ialdN (i) dX0_nextOf_15 rfl rfl (show i < 100 by omega) (by decide) ?_
    refine sw_top (y := A 29 i) rfl ?_
    refine sw_istore_n [(0, _), (1, _), (2, _), (3, _)] dX0_nextOf_16 (by decide) rfl ?_
    refine sw_iconst (x := (-1)) dX0_nextOf_17 (by decide) ?_
    refine sw_istore [(0, _), (1, _), (2, _), (3, _), (4, _)] dX0_nextOf_18 (by decide) rfl ?_
    refine sw_iload_n dX0_nextOf_20 rfl ?_
    refine sw_if_ne 44 dX0_nextOf_21 (by decide) (fun h21 => ?_) (fun h21 => ?_)
    · refine sw_iload_n dX0_nextOf_44 rfl ?_
      refine sw_if_ne 54 dX0_nextOf_45 (by decide) (fun h45 => ?_) (fun h45 => ?_)
      · refine sw_iload_n dX0_nextOf_54 rfl ?_
        refine sw_iconst (x := 1) dX0_nextOf_55 (by decide) ?_
        refine sw_icmp_ne 73 dX0_nextOf_56 (by decide) (fun h56 => ?_) (fun h56 => ?_)
        · exact J _ (by rw [cnw, show (nI i).toNatClampNeg = i from nI_clamp (by omega), if_neg (fun q => h21 q.1), if_neg (fun q => q.elim (fun q => h21 q.1) (fun q => h56 q.1))])
        · refine sw_iload_n dX0_nextOf_59 rfl ?_
          refine sw_bipush (x := 7) dX0_nextOf_60 (by decide) ?_
          refine sw_icmp_ne 73 dX0_nextOf_62 (by decide) (fun h62 => ?_) (fun h62 => ?_)
          · exact J _ (by rw [cnw, show (nI i).toNatClampNeg = i from nI_clamp (by omega), if_neg (fun q => h21 q.1), if_neg (fun q => q.elim (fun q => h21 q.1) (fun q => h62 q.2))])
          · refine sw_aload_n dX0_nextOf_65 rfl (by first | rfl | assumption) ?_
            refine sw_get dX0_nextOf_66 fr_X0_15 rfl rfl ?_
            refine sw_iload_n dX0_nextOf_69 rfl ?_
            refine sw_ialdN (i) dX0_nextOf_70 rfl rfl (show i < 100 by omega) (by decide) ?_
            refine sw_top (y := A 30 i) rfl ?_
            refine sw_istore [(0, _), (1, _), (2, _), (3, _), (4, _)] dX0_nextOf_71 (by decide) rfl ?_
            exact J _ (by rw [cnw, show (nI i).toNatClampNeg = i from nI_clamp (by omega), if_neg (fun q => h21 q.1), if_pos (Or.inr ⟨h56, h62⟩)])
      · refine sw_iload_n dX0_nextOf_48 rfl ?_
        refine sw_bipush (x := 8) dX0_nextOf_49 (by decide) ?_
        refine sw_icmp_eq 65 dX0_nextOf_51 (by decide) (fun h51 => ?_) (fun h51 => ?_)
        · refine sw_aload_n dX0_nextOf_65 rfl (by first | rfl | assumption) ?_
          refine sw_get dX0_nextOf_66 fr_X0_15 rfl rfl ?_
          refine sw_iload_n dX0_nextOf_69 rfl ?_
          refine sw_ialdN (i) dX0_nextOf_70 rfl rfl (show i < 100 by omega) (by decide) ?_
          refine sw_top (y := A 30 i) rfl ?_
          refine sw_istore [(0, _), (1, _), (2, _), (3, _), (4, _)] dX0_nextOf_71 (by decide) rfl ?_
          exact absurd h45 h21
        · refine sw_iload_n dX0_nextOf_54 rfl ?_
          refine sw_iconst (x := 1) dX0_nextOf_55 (by decide) ?_
          refine sw_icmp_ne 73 dX0_nextOf_56 (by decide) (fun h56 => ?_) (fun h56 => ?_)
          · exact absurd h45 h21
          · refine sw_iload_n dX0_nextOf_59 rfl ?_
            refine sw_bipush (x := 7) dX0_nextOf_60 (by decide) ?_
            refine sw_icmp_ne 73 dX0_nextOf_62 (by decide) (fun h62 => ?_) (fun h62 => ?_)
            · exact absurd h45 h21
            · refine sw_aload_n dX0_nextOf_65 rfl (by first | rfl | assumption) ?_
              refine sw_get dX0_nextOf_66 fr_X0_15 rfl rfl ?_
              refine sw_iload_n dX0_nextOf_69 rfl ?_
              refine sw_ialdN (i) dX0_nextOf_70 rfl rfl (show i < 100 by omega) (by decide) ?_
              refine sw_top (y := A 30 i) rfl ?_
              refine sw_istore [(0, _), (1, _), (2, _), (3, _), (4, _)] dX0_nextOf_71 (by decide) rfl ?_
              exact absurd h45 h21
    · refine sw_iload_n dX0_nextOf_24 rfl ?_
      refine sw_bipush (x := 8) dX0_nextOf_25 (by decide) ?_
      refine sw_icmp_eq 44 dX0_nextOf_27 (by decide) (fun h27 => ?_) (fun h27 => ?_)
      · refine sw_iload_n dX0_nextOf_44 rfl ?_
        refine sw_if_ne 54 dX0_nextOf_45 (by decide) (fun h45 => ?_) (fun h45 => ?_)
        · refine sw_iload_n dX0_nextOf_54 rfl ?_
          refine sw_iconst (x := 1) dX0_nextOf_55 (by decide) ?_
          refine sw_icmp_ne 73 dX0_nextOf_56 (by decide) (fun h56 => ?_) (fun h56 => ?_)
          · exact absurd h21 h45
          · refine sw_iload_n dX0_nextOf_59 rfl ?_
            refine sw_bipush (x := 7) dX0_nextOf_60 (by decide) ?_
            refine sw_icmp_ne 73 dX0_nextOf_62 (by decide) (fun h62 => ?_) (fun h62 => ?_)
            · exact absurd h21 h45
            · refine sw_aload_n dX0_nextOf_65 rfl (by first | rfl | assumption) ?_
              refine sw_get dX0_nextOf_66 fr_X0_15 rfl rfl ?_
              refine sw_iload_n dX0_nextOf_69 rfl ?_
              refine sw_ialdN (i) dX0_nextOf_70 rfl rfl (show i < 100 by omega) (by decide) ?_
              refine sw_top (y := A 30 i) rfl ?_
              refine sw_istore [(0, _), (1, _), (2, _), (3, _), (4, _)] dX0_nextOf_71 (by decide) rfl ?_
              exact absurd h21 h45
        · refine sw_iload_n dX0_nextOf_48 rfl ?_
          refine sw_bipush (x := 8) dX0_nextOf_49 (by decide) ?_
          refine sw_icmp_eq 65 dX0_nextOf_51 (by decide) (fun h51 => ?_) (fun h51 => ?_)
          · refine sw_aload_n dX0_nextOf_65 rfl (by first | rfl | assumption) ?_
            refine sw_get dX0_nextOf_66 fr_X0_15 rfl rfl ?_
            refine sw_iload_n dX0_nextOf_69 rfl ?_
            refine sw_ialdN (i) dX0_nextOf_70 rfl rfl (show i < 100 by omega) (by decide) ?_
            refine sw_top (y := A 30 i) rfl ?_
            refine sw_istore [(0, _), (1, _), (2, _), (3, _), (4, _)] dX0_nextOf_71 (by decide) rfl ?_
            exact J _ (by rw [cnw, show (nI i).toNatClampNeg = i from nI_clamp (by omega), if_neg (fun q => q.2.1 h27), if_pos (Or.inl ⟨h21, h27⟩)])
          · refine sw_iload_n dX0_nextOf_54 rfl ?_
            refine sw_iconst (x := 1) dX0_nextOf_55 (by decide) ?_
            refine sw_icmp_ne 73 dX0_nextOf_56 (by decide) (fun h56 => ?_) (fun h56 => ?_)
            · exact absurd h27 h51
            · refine sw_iload_n dX0_nextOf_59 rfl ?_
              refine sw_bipush (x := 7) dX0_nextOf_60 (by decide) ?_
              refine sw_icmp_ne 73 dX0_nextOf_62 (by decide) (fun h62 => ?_) (fun h62 => ?_)
              · exact absurd h27 h51
              · refine sw_aload_n dX0_nextOf_65 rfl (by first | rfl | assumption) ?_
                refine sw_get dX0_nextOf_66 fr_X0_15 rfl rfl ?_
                refine sw_iload_n dX0_nextOf_69 rfl ?_
                refine sw_ialdN (i) dX0_nextOf_70 rfl rfl (show i < 100 by omega) (by decide) ?_
                refine sw_top (y := A 30 i) rfl ?_
                refine sw_istore [(0, _), (1, _), (2, _), (3, _), (4, _)] dX0_nextOf_71 (by decide) rfl ?_
                exact absurd h27 h51
      · refine sw_iload_n dX0_nextOf_30 rfl ?_
        refine sw_bipush (x := 9) dX0_nextOf_31 (by decide) ?_
        refine sw_icmp_eq 44 dX0_nextOf_33 (by decide) (fun h33 => ?_) (fun h33 => ?_)
        · refine sw_iload_n dX0_nextOf_44 rfl ?_
          refine sw_if_ne 54 dX0_nextOf_45 (by decide) (fun h45 => ?_) (fun h45 => ?_)
          · refine sw_iload_n dX0_nextOf_54 rfl ?_
            refine sw_iconst (x := 1) dX0_nextOf_55 (by decide) ?_
            refine sw_icmp_ne 73 dX0_nextOf_56 (by decide) (fun h56 => ?_) (fun h56 => ?_)
            · exact absurd h21 h45
            · refine sw_iload_n dX0_nextOf_59 rfl ?_
              refine sw_bipush (x := 7) dX0_nextOf_60 (by decide) ?_
              refine sw_icmp_ne 73 dX0_nextOf_62 (by decide) (fun h62 => ?_) (fun h62 => ?_)
              · exact absurd h21 h45
              · refine sw_aload_n dX0_nextOf_65 rfl (by first | rfl | assumption) ?_
                refine sw_get dX0_nextOf_66 fr_X0_15 rfl rfl ?_
                refine sw_iload_n dX0_nextOf_69 rfl ?_
                refine sw_ialdN (i) dX0_nextOf_70 rfl rfl (show i < 100 by omega) (by decide) ?_
                refine sw_top (y := A 30 i) rfl ?_
                refine sw_istore [(0, _), (1, _), (2, _), (3, _), (4, _)] dX0_nextOf_71 (by decide) rfl ?_
                exact absurd h21 h45
          · refine sw_iload_n dX0_nextOf_48 rfl ?_
            refine sw_bipush (x := 8) dX0_nextOf_49 (by decide) ?_
            refine sw_icmp_eq 65 dX0_nextOf_51 (by decide) (fun h51 => ?_) (fun h51 => ?_)
            · refine sw_aload_n dX0_nextOf_65 rfl (by first | rfl | assumption) ?_
              refine sw_get dX0_nextOf_66 fr_X0_15 rfl rfl ?_
              refine sw_iload_n dX0_nextOf_69 rfl ?_
              refine sw_ialdN (i) dX0_nextOf_70 rfl rfl (show i < 100 by omega) (by decide) ?_
              refine sw_top (y := A 30 i) rfl ?_
              refine sw_istore [(0, _), (1, _), (2, _), (3, _), (4, _)] dX0_nextOf_71 (by decide) rfl ?_
              exact absurd h51 h27
            · refine sw_iload_n dX0_nextOf_54 rfl ?_
              refine sw_iconst (x := 1) dX0_nextOf_55 (by decide) ?_
              refine sw_icmp_ne 73 dX0_nextOf_56 (by decide) (fun h56 => ?_) (fun h56 => ?_)
              · exact J _ (by rw [cnw, show (nI i).toNatClampNeg = i from nI_clamp (by omega), if_neg (fun q => q.2.2 h33), if_neg (fun q => q.elim (fun q => h27 q.2) (fun q => h56 q.1))])
              · refine sw_iload_n dX0_nextOf_59 rfl ?_
                refine sw_bipush (x := 7) dX0_nextOf_60 (by decide) ?_
                refine sw_icmp_ne 73 dX0_nextOf_62 (by decide) (fun h62 => ?_) (fun h62 => ?_)
                · exact absurd (h21.symm.trans h56) (by decide)
                · refine sw_aload_n dX0_nextOf_65 rfl (by first | rfl | assumption) ?_
                  refine sw_get dX0_nextOf_66 fr_X0_15 rfl rfl ?_
                  refine sw_iload_n dX0_nextOf_69 rfl ?_
                  refine sw_ialdN (i) dX0_nextOf_70 rfl rfl (show i < 100 by omega) (by decide) ?_
                  refine sw_top (y := A 30 i) rfl ?_
                  refine sw_istore [(0, _), (1, _), (2, _), (3, _), (4, _)] dX0_nextOf_71 (by decide) rfl ?_
                  exact absurd (h21.symm.trans h56) (by decide)
        · refine sw_iload_n dX0_nextOf_36 rfl ?_
          refine sw_iconst (x := 1) dX0_nextOf_37 (by decide) ?_
          refine sw_iadd dX0_nextOf_38 ?_
          refine sw_istore [(0, _), (1, _), (2, _), (3, _), (4, _)] dX0_nextOf_39 (by decide) rfl ?_
          refine sw_goto 73 dX0_nextOf_41 (by decide) ?_
          exact J _ (by rw [cnw, show (nI i).toNatClampNeg = i from nI_clamp (by omega), if_pos ⟨h21, h27, h33⟩])
  · refine sw_iconst (x := (-1)) dX0_nextOf_8 (by decide) ?_
    exact sw_iret dX0_nextOf_9 rfl (by first | rfl | exact bz_n _) (by omega) (by omega) ⟨by rw [cnx, if_neg (by rw [bz_0.mp h5]; decide)], rfl, rfl⟩
def cadS (s : Nat → Int32) : Nat → Int32 := if s 12 < 100 then va_up s 12 (s 12 + 1) else s
def cadA (s : Nat → Int32) (A : Nat → Nat → Int32) (k g : Int32) : Nat → Nat → Int32 := if s 12 < 100 then va_up (va_up A 29 (upd (A 29) (s 12).toNatClampNeg k)) 30 (upd (A 30) (s 12).toNatClampNeg g) else A
set_option maxRecDepth 100000 in
theorem c_X0_add {l : Launch} {D : va_G} {cy : Nat → ClassId} {d n : Nat} {f : sw_F} {s : Nat → Int32} {A : Nat → Nat → Int32} {B : Nat → Nat → Int64} {o : Int64} {pr : Value} {C : Nat} (hC : s 12 = nI C) (hCb : C ≤ 100) (k g : Int32) : sw_Ct l D cy mX0_add d 0 0 [.ref 28, .int k, .int g] n (gd f s A B o pr) (sw_D (some (.int (bz (decide (s 12 < 100))))) n (gd f (cadS s) (cadA s A k g) B o pr)) := by
  refine sw_of rfl (Nat.le_of_ble_eq_true rfl) ?_
  show SW l D cy mX0_add d 0 0 0 0 0 [(0, .ref 28), (1, .int k), (2, .int g)] [] n (gd f s A B o pr) _ _
  refine sw_aload_n dX0_add_0 rfl (by first | rfl | assumption) ?_
  refine sw_get dX0_add_1 fr_X0_18 rfl rfl ?_
  refine sw_bipush (x := 100) dX0_add_4 (by decide) ?_
  refine sw_icmp_lt 11 dX0_add_6 (by decide) (fun h6 => ?_) (fun h6 => ?_)
  · have e1 : C < 100 := by rw [show s 12 = nI C from hC, nl_100, nI_ltI (by omega) (by omega)] at h6; exact h6
    refine sw_aload_n dX0_add_11 rfl (by first | rfl | assumption) ?_
    refine sw_get dX0_add_12 fr_X0_9 rfl rfl ?_
    refine sw_aload_n dX0_add_15 rfl (by first | rfl | assumption) ?_
    refine sw_get dX0_add_16 fr_X0_18 rfl rfl ?_
    refine sw_iload_n dX0_add_19 rfl ?_
    refine g_iast (C) dX0_add_20 ⟨by decide, rfl, rfl⟩ hC (show C < 100 by omega) rfl ?_
    refine sw_aload_n dX0_add_21 rfl (by first | rfl | assumption) ?_
    refine sw_get dX0_add_22 fr_X0_15 rfl rfl ?_
    refine sw_aload_n dX0_add_25 rfl (by first | rfl | assumption) ?_
    refine sw_get dX0_add_26 fr_X0_18 rfl rfl ?_
    refine sw_iload_n dX0_add_29 rfl ?_
    refine g_iast (C) dX0_add_30 ⟨by decide, rfl, rfl⟩ hC (show C < 100 by omega) rfl ?_
    refine sw_aload_n dX0_add_31 rfl (by first | rfl | assumption) ?_
    refine sw_dup dX0_add_32 rfl ?_
    refine sw_get dX0_add_33 fr_X0_18 rfl rfl ?_
    refine sw_iconst (x := 1) dX0_add_36 (by decide) ?_
    refine sw_iadd dX0_add_37 ?_
    refine g_put 12 dX0_add_38 fl_X0_18 rfl ⟨by decide, rfl⟩ rfl (Nat.le_of_ble_eq_true rfl) (sw_fit_i _) rfl ?_
    refine sw_iconst (x := 1) dX0_add_41 (by decide) ?_
    exact sw_iret dX0_add_42 rfl (by first | rfl | exact bz_n _) (by omega) (by omega) ⟨by rw [decide_eq_true h6]; rfl, rfl, by rw [cadS, cadA, if_pos h6, if_pos h6, show (s 12).toNatClampNeg = C from by rw [hC, nI_clamp (by omega)]]; rfl⟩
  · refine sw_iconst (x := 0) dX0_add_9 (by decide) ?_
    exact sw_iret dX0_add_10 rfl (by first | rfl | exact bz_n _) (by omega) (by omega) ⟨by rw [decide_eq_false h6]; rfl, rfl, by rw [cadS, cadA, if_neg h6, if_neg h6]⟩
def isV (a : Int32) : Bool := decide (0 ≤ a ∧ a < 8)
def isO (a : Int32) : Bool := decide (3 ≤ a ∧ a ≤ 6)
set_option maxRecDepth 100000 in
theorem c_X11_isVariable {l : Launch} {D : va_G} {cy : Nat → ClassId} {d n : Nat} {f : sw_F} (a : Int32) : sw_Ct l D cy mX11_isVariable d 0 0 [.int a] n f (sw_D (some (.int (bz (isV a)))) n f) := by
  refine sw_of rfl (Nat.le_of_ble_eq_true rfl) ?_
  show SW l D cy mX11_isVariable d 0 0 0 0 0 [(0, .int a)] [] n f _ _
  refine sw_iload_n dX11_isVariable_0 rfl ?_
  refine sw_if_lt 14 dX11_isVariable_1 (by decide) (fun h1 => ?_) (fun h1 => ?_)
  · refine sw_iconst (x := 0) dX11_isVariable_14 (by decide) ?_
    exact sw_iret dX11_isVariable_15 rfl (by first | rfl | exact bz_n _) (by omega) (by omega) ⟨by rw [isV, decide_eq_false (fun q => absurd h1 (Int32.not_lt.mpr q.1))]; rfl, rfl, rfl⟩
  · refine sw_iload_n dX11_isVariable_4 rfl ?_
    refine sw_bipush (x := 8) dX11_isVariable_5 (by decide) ?_
    refine sw_icmp_ge 14 dX11_isVariable_7 (by decide) (fun h7 => ?_) (fun h7 => ?_)
    · refine sw_iconst (x := 0) dX11_isVariable_14 (by decide) ?_
      exact sw_iret dX11_isVariable_15 rfl (by first | rfl | exact bz_n _) (by omega) (by omega) ⟨by rw [isV, decide_eq_false (fun q => absurd q.2 (Int32.not_lt.mpr h7))]; rfl, rfl, rfl⟩
    · refine sw_iconst (x := 1) dX11_isVariable_10 (by decide) ?_
      refine sw_goto 15 dX11_isVariable_11 (by decide) ?_
      exact sw_iret dX11_isVariable_15 rfl (by first | rfl | exact bz_n _) (by omega) (by omega) ⟨by rw [isV, decide_eq_true ⟨Int32.not_lt.mp h1, Int32.not_le.mp h7⟩]; rfl, rfl, rfl⟩
set_option maxRecDepth 100000 in
theorem c_X11_isOperation {l : Launch} {D : va_G} {cy : Nat → ClassId} {d n : Nat} {f : sw_F} (a : Int32) : sw_Ct l D cy mX11_isOperation d 0 0 [.int a] n f (sw_D (some (.int (bz (isO a)))) n f) := by
  refine sw_of rfl (Nat.le_of_ble_eq_true rfl) ?_
  show SW l D cy mX11_isOperation d 0 0 0 0 0 [(0, .int a)] [] n f _ _
  refine sw_iload_n dX11_isOperation_0 rfl ?_
  refine sw_iconst (x := 3) dX11_isOperation_1 (by decide) ?_
  refine sw_icmp_lt 15 dX11_isOperation_2 (by decide) (fun h2 => ?_) (fun h2 => ?_)
  · refine sw_iconst (x := 0) dX11_isOperation_15 (by decide) ?_
    exact sw_iret dX11_isOperation_16 rfl (by first | rfl | exact bz_n _) (by omega) (by omega) ⟨by rw [isO, decide_eq_false (fun q => absurd h2 (Int32.not_lt.mpr q.1))]; rfl, rfl, rfl⟩
  · refine sw_iload_n dX11_isOperation_5 rfl ?_
    refine sw_bipush (x := 6) dX11_isOperation_6 (by decide) ?_
    refine sw_icmp_gt 15 dX11_isOperation_8 (by decide) (fun h8 => ?_) (fun h8 => ?_)
    · refine sw_iconst (x := 0) dX11_isOperation_15 (by decide) ?_
      exact sw_iret dX11_isOperation_16 rfl (by first | rfl | exact bz_n _) (by omega) (by omega) ⟨by rw [isO, decide_eq_false (fun q => absurd h8 (Int32.not_lt.mpr q.2))]; rfl, rfl, rfl⟩
    · refine sw_iconst (x := 1) dX11_isOperation_11 (by decide) ?_
      refine sw_goto 16 dX11_isOperation_12 (by decide) ?_
      exact sw_iret dX11_isOperation_16 rfl (by first | rfl | exact bz_n _) (by omega) (by omega) ⟨by rw [isO, decide_eq_true ⟨Int32.not_lt.mp h2, Int32.not_lt.mp h8⟩]; rfl, rfl, rfl⟩
set_option maxRecDepth 100000 in
theorem c_X11_operate {l : Launch} {D : va_G} {cy : Nat → ClassId} {d n : Nat} {f : sw_F} (w x y : Int32) (hw : 3 ≤ w ∧ w ≤ 6) : sw_Ct l D cy mX11_operate d 0 0 [.int w, .int x, .int y] n f (sw_D (some (.int (r_wk w x y))) n f) := by
  refine sw_of rfl (Nat.le_of_ble_eq_true rfl) ?_
  show SW l D cy mX11_operate d 0 0 0 0 0 [(0, .int w), (1, .int x), (2, .int y)] [] n f _ _
  refine sw_iload_n dX11_operate_0 rfl ?_
  obtain ⟨k, hk, rfl⟩ := nI_of2 (M := 6) (n := 6) (by decide) (show ¬ w < 0 by have := hw.1; grind) hw.2
  have hk3 : 3 ≤ k := (nI_leI (by omega) (by omega)).mp (by rw [← nl_3]; exact hw.1)
  obtain rfl | rfl | rfl | rfl : k = 3 ∨ k = 4 ∨ k = 5 ∨ k = 6 := by omega
  · refine sw_tabIn 28 dX11_operate_1 (by decide) (by decide) rfl (by decide) ?_
    refine sw_iload_n dX11_operate_28 rfl ?_
    refine sw_iload_n dX11_operate_29 rfl ?_
    refine sw_iadd dX11_operate_30 ?_
    exact sw_iret dX11_operate_31 rfl (by first | rfl | exact bz_n _) (by omega) (by omega) ⟨rfl, rfl, rfl⟩
  · refine sw_tabIn 32 dX11_operate_1 (by decide) (by decide) rfl (by decide) ?_
    refine sw_iload_n dX11_operate_32 rfl ?_
    refine sw_iload_n dX11_operate_33 rfl ?_
    refine sw_isub dX11_operate_34 ?_
    exact sw_iret dX11_operate_35 rfl (by first | rfl | exact bz_n _) (by omega) (by omega) ⟨rfl, rfl, rfl⟩
  · refine sw_tabIn 36 dX11_operate_1 (by decide) (by decide) rfl (by decide) ?_
    refine sw_iload_n dX11_operate_36 rfl ?_
    refine sw_iload_n dX11_operate_37 rfl ?_
    refine sw_imul dX11_operate_38 ?_
    exact sw_iret dX11_operate_39 rfl (by first | rfl | exact bz_n _) (by omega) (by omega) ⟨rfl, rfl, rfl⟩
  · refine sw_tabOut 40 dX11_operate_1 (Or.inr (by decide)) (by decide) ?_
    refine sw_iload_n dX11_operate_40 rfl ?_
    refine sw_iload_n dX11_operate_41 rfl ?_
    refine sw_icmp_ge 49 dX11_operate_42 (by decide) (fun h42 => ?_) (fun h42 => ?_)
    · refine sw_iconst (x := 0) dX11_operate_49 (by decide) ?_
      exact sw_iret dX11_operate_50 rfl (by first | rfl | exact bz_n _) (by omega) (by omega) ⟨congrArg (fun z => some (Value.int z)) (show _ = (if x < y then (1 : Int32) else 0) from by rw [if_neg (Int32.not_lt.mpr h42)]), rfl, rfl⟩
    · refine sw_iconst (x := 1) dX11_operate_45 (by decide) ?_
      refine sw_goto 50 dX11_operate_46 (by decide) ?_
      exact sw_iret dX11_operate_50 rfl (by first | rfl | exact bz_n _) (by omega) (by omega) ⟨congrArg (fun z => some (Value.int z)) (show _ = (if x < y then (1 : Int32) else 0) from by rw [if_pos (Int32.not_le.mp h42)]), rfl, rfl⟩
/-! ===== THE CLASS: Machine ===== -/
set_option maxRecDepth 100000 in
theorem c_X4_push {l : Launch} {D : va_G} {cy : Nat → ClassId} {d n : Nat} {f : sw_F} {s : Nat → Int32} {A : Nat → Nat → Int32} {B : Nat → Nat → Int64} {o : Int64} {pr : Value} {h : Nat} (hh : s 15 = nI h) (h8 : h < 8) (x : Int32) : sw_Ct l D cy mX4_push d 0 0 [.ref 147, .int x] n (gd f s A B o pr) (sw_D none n (gd f (va_up s 15 (nI (h + 1))) (va_up A 149 (upd (A 149) h x)) B o pr)) := by
  refine sw_of rfl (Nat.le_of_ble_eq_true rfl) ?_
  show SW l D cy mX4_push d 0 0 0 0 0 [(0, .ref 147), (1, .int x)] [] n (gd f s A B o pr) _ _
  refine sw_aload_n dX4_push_0 rfl (by first | rfl | assumption) ?_
  refine sw_get dX4_push_1 fr_X4_18 rfl rfl ?_
  refine sw_top (y := nI h) hh ?_
  refine sw_bipush (x := 8) dX4_push_4 (by decide) ?_
  refine sw_icmp_ge 29 dX4_push_6 (by decide) (fun h6 => ?_) (fun h6 => ?_)
  · exact absurd h6 (by rw [nl_8, nI_leI (by omega) (by omega)]; omega)
  · refine sw_aload_n dX4_push_9 rfl (by first | rfl | assumption) ?_
    refine sw_get dX4_push_10 fr_X4_15 rfl rfl ?_
    refine sw_aload_n dX4_push_13 rfl (by first | rfl | assumption) ?_
    refine sw_get dX4_push_14 fr_X4_18 rfl rfl ?_
    refine sw_iload_n dX4_push_17 rfl ?_
    refine g_iast (h) dX4_push_18 ⟨by decide, rfl, rfl⟩ hh (show h < 8 by omega) rfl ?_
    refine sw_aload_n dX4_push_19 rfl (by first | rfl | assumption) ?_
    refine sw_dup dX4_push_20 rfl ?_
    refine sw_get dX4_push_21 fr_X4_18 rfl rfl ?_
    refine sw_iconst (x := 1) dX4_push_24 (by decide) ?_
    refine sw_iadd dX4_push_25 ?_
    refine sw_top (y := nI (h + 1)) (by rw [show s 15 = nI h from hh]; exact nI_1 h) ?_
    refine g_put 15 dX4_push_26 fl_X4_18 rfl ⟨by decide, rfl⟩ rfl (Nat.le_of_ble_eq_true rfl) (sw_fit_i _) rfl ?_
    exact sw_vret dX4_push_29 rfl (by omega) (by omega) ⟨rfl, rfl, rfl⟩
set_option maxRecDepth 100000 in
theorem c_X4_pop {l : Launch} {D : va_G} {cy : Nat → ClassId} {d n : Nat} {f : sw_F} {s : Nat → Int32} {A : Nat → Nat → Int32} {B : Nat → Nat → Int64} {o : Int64} {pr : Value} {h : Nat} (hh : s 15 = nI h) (h8 : h ≤ 8) (h0 : 0 < h) : sw_Ct l D cy mX4_pop d 0 0 [.ref 147] n (gd f s A B o pr) (sw_D (some (.int (A 149 (h - 1)))) n (gd f (va_up s 15 (nI (h - 1))) A B o pr)) := by
  refine sw_of rfl (Nat.le_of_ble_eq_true rfl) ?_
  show SW l D cy mX4_pop d 0 0 0 0 0 [(0, .ref 147)] [] n (gd f s A B o pr) _ _
  refine sw_aload_n dX4_pop_0 rfl (by first | rfl | assumption) ?_
  refine sw_get dX4_pop_1 fr_X4_18 rfl rfl ?_
  refine sw_top (y := nI h) hh ?_
  refine sw_if_gt 9 dX4_pop_4 (by decide) (fun h4 => ?_) (fun h4 => ?_)
  · refine sw_aload_n dX4_pop_9 rfl (by first | rfl | assumption) ?_
    refine sw_dup dX4_pop_10 rfl ?_
    refine sw_get dX4_pop_11 fr_X4_18 rfl rfl ?_
    refine sw_iconst (x := 1) dX4_pop_14 (by decide) ?_
    refine sw_isub dX4_pop_15 ?_
    refine sw_top (y := nI (h - 1)) (by rw [show s 15 = nI h from hh]; exact sb_1 h0) ?_
    refine g_put 15 dX4_pop_16 fl_X4_18 rfl ⟨by decide, rfl⟩ rfl (Nat.le_of_ble_eq_true rfl) (sw_fit_i _) rfl ?_
    refine sw_aload_n dX4_pop_19 rfl (by first | rfl | assumption) ?_
    refine sw_get dX4_pop_20 fr_X4_15 rfl rfl ?_
    refine sw_aload_n dX4_pop_23 rfl (by first | rfl | assumption) ?_
    refine sw_get dX4_pop_24 fr_X4_18 rfl rfl ?_
    refine sw_ialdN (h - 1) dX4_pop_27 rfl rfl (show h - 1 < 8 by omega) (by decide) ?_
    exact sw_iret dX4_pop_28 rfl (by first | rfl | exact bz_n _) (by omega) (by omega) ⟨rfl, rfl, rfl⟩
  · exact absurd (show (0 : Int32) < nI h by rw [nl_0, nI_ltI (by omega) (by omega)]; exact h0) h4
def mok (C : Nat) (kd ar : Nat → Int32) (m : GS) : Prop := gok kd ar m ∧ m.1 < C ∧ m.2.1 ≤ 8 ∧ (kd m.1 = 0 ∨ kd m.1 = 1 → m.2.1 < 8) ∧ (¬ kd m.1 = 8 → ¬ kd m.1 = 9 → m.1 + 1 < C) ∧ (kd m.1 = 7 ∨ kd m.1 = 8 → (ar m.1).toNatClampNeg < C)
def mS (s : Nat → Int32) (m : GS) : Nat → Int32 := va_up s 15 (nI m.2.1)
def mA (A : Nat → Nat → Int32) (m : GS) : Nat → Nat → Int32 := va_up (va_up A 148 m.2.2.1) 149 m.2.2.2.1
theorem mS_u (s : Nat → Int32) (m : GS) (h : Nat) : va_up (mS s m) 15 (nI h) = mS s (m.1, h, m.2.2) := vu_up _ _ _ _
theorem mA_k (A : Nat → Nat → Int32) (m : GS) (g : Nat → Int32) : va_up (mA A m) 149 g = mA A (m.1, m.2.1, m.2.2.1, g, m.2.2.2.2) := vu_up _ _ _ _
theorem mA_v (A : Nat → Nat → Int32) (m : GS) (g : Nat → Int32) : va_up (mA A m) 148 g = mA A (m.1, m.2.1, g, m.2.2.2) := by
  show va_up (va_up (va_up A 148 m.2.2.1) 149 m.2.2.2.1) 148 g = va_up (va_up A 148 g) 149 m.2.2.2.1
  rw [vu_so _ (show 148 < 149 by decide), vu_up]
theorem cnx_i {s : Nat → Int32} {K E : Nat → Int32} {C i t : Nat} {w : Int32} (hs : s 12 = nI C) (hC : C ≤ 100) (hi : i < C) (ht : t < C) (h : cnw K E (nI i) w = nI t) : cnx s K E (nI i) w = nI t := by
  unfold cnx
  rw [if_pos (chs_n hs hC hi), h, if_pos (chs_n hs hC ht)]
theorem cnw_1 {K E : Nat → Int32} {i : Nat} (hi : i < 100) (h8 : ¬ K i = 8) (h9 : ¬ K i = 9) : cnw K E (nI i) 0 = nI (i + 1) := by
  unfold cnw
  rw [nI_clamp (by omega), if_pos ⟨rfl, h8, h9⟩]
  exact nI_1 i
theorem cnw_8 {K E : Nat → Int32} {i : Nat} (hi : i < 100) (h8 : K i = 8) : cnw K E (nI i) 0 = E i := by
  unfold cnw
  rw [nI_clamp (by omega), if_neg (fun q => q.2.1 h8), if_pos (Or.inl ⟨rfl, h8⟩)]
theorem cnw_7 {K E : Nat → Int32} {i : Nat} (hi : i < 100) (h7 : K i = 7) : cnw K E (nI i) 1 = E i := by
  unfold cnw
  rw [nI_clamp (by omega), if_neg (fun q => absurd q.1 (by decide)), if_pos (Or.inr ⟨rfl, h7⟩)]
set_option maxRecDepth 100000 in
theorem c_X4_step {l : Launch} {D : va_G} {cy : Nat → ClassId} {d n : Nat} {f : sw_F} {s : Nat → Int32} {A : Nat → Nat → Int32} {B : Nat → Nat → Int64} {o : Int64} {pr : Value} (hd : 2 ≤ d) {C : Nat} (hC : s 12 = nI C) (hCb : C ≤ 100) (m : GS) (hm : mok C (A 29) (A 30) m) (h9 : ¬ A 29 m.1 = 9) : sw_Ct l D cy mX4_step d 0 0 [.ref 147, .int (nI m.1)] n (gd f (mS s m) (mA A m) B o pr) (sw_D (some (.int (nI (gstep (A 29) (A 30) m).1))) n (gd f (mS s (gstep (A 29) (A 30) m)) (mA A (gstep (A 29) (A 30) m)) B o pr)) := by
  obtain ⟨⟨g1, g2, g3, g4, g5, g6, g7, g8⟩, k2, k3, k4, k5, k6⟩ := hm
  refine sw_of rfl (Nat.le_of_ble_eq_true rfl) ?_
  show SW l D cy mX4_step d 0 0 0 0 0 [(0, .ref 147), (1, .int (nI m.1))] [] n (gd f (mS s m) (mA A m) B o pr) _ _
  obtain ⟨k, hkb, hk⟩ := nI_of2 (M := 9) (n := 9) (by decide) (Int32.not_lt.mpr g3) g4
  have hk9 : ¬ k = 9 := fun q => h9 (by rw [hk, q]; rfl)
  obtain rfl | rfl | rfl | rfl | rfl | rfl | rfl | rfl | rfl : k = 0 ∨ k = 1 ∨ k = 2 ∨ k = 3 ∨ k = 4 ∨ k = 5 ∨ k = 6 ∨ k = 7 ∨ k = 8 := by omega
  · have hk : A 29 m.1 = 0 := hk
    refine sw_aload_n dX4_step_0 rfl (by first | rfl | assumption) ?_
    refine sw_get dX4_step_1 fr_X4_22 rfl rfl ?_
    refine sw_iload_n dX4_step_4 rfl ?_
    refine sw_Vv dX4_step_5 k_X4_32 mf_X0_kindAt (c_X0_kindAt (d := d - 1) (s := mS s m) (A := mA A m) (by omega) hC hCb (nI m.1)) rfl ⟨_, rfl, rfl⟩ (by omega) (by omega) (by omega) rfl rfl (Nat.le_of_ble_eq_true rfl) ?_
    refine sw_top (y := 0) (by rw [show cat (mS s m) (mA A m 29) (nI m.1) = A 29 m.1 from cat_n hC hCb k2]; exact hk) ?_
    refine sw_istore_n [(0, _), (1, _), (2, _)] dX4_step_8 (by decide) rfl ?_
    refine sw_aload_n dX4_step_9 rfl (by first | rfl | assumption) ?_
    refine sw_get dX4_step_10 fr_X4_22 rfl rfl ?_
    refine sw_iload_n dX4_step_13 rfl ?_
    refine sw_Vv dX4_step_14 k_X4_41 mf_X0_argumentAt (c_X0_argumentAt (d := d - 1) (s := mS s m) (A := mA A m) (by omega) hC hCb (nI m.1)) rfl ⟨_, rfl, rfl⟩ (by omega) (by omega) (by omega) rfl rfl (Nat.le_of_ble_eq_true rfl) ?_
    refine sw_top (y := A 30 m.1) (by rw [show cat (mS s m) (mA A m 30) (nI m.1) = A 30 m.1 from cat_n hC hCb k2]) ?_
    refine sw_istore_n [(0, _), (1, _), (2, _), (3, _)] dX4_step_17 (by decide) rfl ?_
    refine sw_iload_n dX4_step_18 rfl ?_
    refine sw_if_ne 30 dX4_step_19 (by decide) (fun h19 => ?_) (fun h19 => ?_)
    · exact absurd rfl h19
    · refine sw_aload_n dX4_step_22 rfl (by first | rfl | assumption) ?_
      refine sw_iload_n dX4_step_23 rfl ?_
      refine sw_Vn dX4_step_24 k_X4_44 mf_X4_push (c_X4_push (d := d - 1) (s := mS s m) (A := mA A m) (h := m.2.1) rfl (k4 (Or.inl hk)) _) rfl ⟨_, rfl, rfl⟩ (by omega) (by omega) (by omega) rfl rfl (Nat.le_of_ble_eq_true rfl) ?_
      refine sw_goto 141 dX4_step_27 (by decide) ?_
      refine sw_aload_n dX4_step_141 rfl (by first | rfl | assumption) ?_
      refine sw_get dX4_step_142 fr_X4_22 rfl rfl ?_
      refine sw_iload_n dX4_step_145 rfl ?_
      refine sw_iconst (x := 0) dX4_step_146 (by decide) ?_
      refine sw_Vv dX4_step_147 k_X4_63 mf_X0_nextOf (by have z := c_X0_nextOf (l := l) (D := D) (cy := cy) (d := d - 1) (n := n) (f := f) (s := (va_up (mS s m) 15 (nI (m.2.1 + 1)))) (A := (va_up (mA A m) 149 (upd (mA A m 149) m.2.1 (A 30 m.1)))) (B := B) (o := o) (pr := pr) (by omega) hC hCb (nI m.1) 0; rw [show cnx (va_up (mS s m) 15 (nI (m.2.1 + 1))) ((va_up (mA A m) 149 (upd (mA A m 149) m.2.1 (A 30 m.1))) 29) ((va_up (mA A m) 149 (upd (mA A m 149) m.2.1 (A 30 m.1))) 30) (nI m.1) 0 = nI (m.1 + 1) from cnx_i hC hCb k2 (k5 (by rw [hk]; decide) (by rw [hk]; decide)) (cnw_1 (by omega) (show ¬ A 29 m.1 = 8 by rw [hk]; decide) (show ¬ A 29 m.1 = 9 by rw [hk]; decide))] at z; exact z) rfl ⟨_, rfl, rfl⟩ (by omega) (by omega) (by omega) rfl rfl (Nat.le_of_ble_eq_true rfl) ?_
      exact sw_iret dX4_step_150 rfl (by first | rfl | exact bz_n _) (by omega) (by omega) ⟨by rw [gstep, if_pos hk], rfl, by rw [gstep, if_pos hk, mS_u, mA_k]; rfl⟩
  · have hk : A 29 m.1 = 1 := hk
    obtain ⟨v, hv8, hv⟩ := g5 (Or.inl hk)
    refine sw_aload_n dX4_step_0 rfl (by first | rfl | assumption) ?_
    refine sw_get dX4_step_1 fr_X4_22 rfl rfl ?_
    refine sw_iload_n dX4_step_4 rfl ?_
    refine sw_Vv dX4_step_5 k_X4_32 mf_X0_kindAt (c_X0_kindAt (d := d - 1) (s := mS s m) (A := mA A m) (by omega) hC hCb (nI m.1)) rfl ⟨_, rfl, rfl⟩ (by omega) (by omega) (by omega) rfl rfl (Nat.le_of_ble_eq_true rfl) ?_
    refine sw_top (y := 1) (by rw [show cat (mS s m) (mA A m 29) (nI m.1) = A 29 m.1 from cat_n hC hCb k2]; exact hk) ?_
    refine sw_istore_n [(0, _), (1, _), (2, _)] dX4_step_8 (by decide) rfl ?_
    refine sw_aload_n dX4_step_9 rfl (by first | rfl | assumption) ?_
    refine sw_get dX4_step_10 fr_X4_22 rfl rfl ?_
    refine sw_iload_n dX4_step_13 rfl ?_
    refine sw_Vv dX4_step_14 k_X4_41 mf_X0_argumentAt (c_X0_argumentAt (d := d - 1) (s := mS s m) (A := mA A m) (by omega) hC hCb (nI m.1)) rfl ⟨_, rfl, rfl⟩ (by omega) (by omega) (by omega) rfl rfl (Nat.le_of_ble_eq_true rfl) ?_
    refine sw_top (y := A 30 m.1) (by rw [show cat (mS s m) (mA A m 30) (nI m.1) = A 30 m.1 from cat_n hC hCb k2]) ?_
    refine sw_istore_n [(0, _), (1, _), (2, _), (3, _)] dX4_step_17 (by decide) rfl ?_
    refine sw_iload_n dX4_step_18 rfl ?_
    refine sw_if_ne 30 dX4_step_19 (by decide) (fun h19 => ?_) (fun h19 => ?_)
    · refine sw_iload_n dX4_step_30 rfl ?_
      refine sw_iconst (x := 1) dX4_step_31 (by decide) ?_
      refine sw_icmp_ne 55 dX4_step_32 (by decide) (fun h32 => ?_) (fun h32 => ?_)
      · exact absurd rfl h32
      · have iv : isV (nI v) = true := by rw [isV]; exact decide_eq_true ⟨Int32.not_lt.mp (i32_nlt0 (by omega)), by rw [nl_8, nI_ltI (by omega) (by omega)]; exact hv8⟩
        refine sw_iload_n dX4_step_35 rfl ?_
        refine sw_top (y := nI v) hv ?_
        refine sw_SNv dX4_step_36 k_X4_48 mf_X11_isVariable (c_X11_isVariable (d := d - 1) _) (by omega) (by omega) (by omega) rfl rfl (Nat.le_of_ble_eq_true rfl) ?_
        refine sw_if_eq 55 dX4_step_39 (by decide) (fun h39 => ?_) (fun h39 => ?_)
        · exact absurd h39 (by rw [iv]; decide)
        · refine sw_aload_n dX4_step_42 rfl (by first | rfl | assumption) ?_
          refine sw_aload_n dX4_step_43 rfl (by first | rfl | assumption) ?_
          refine sw_get dX4_step_44 fr_X4_9 rfl rfl ?_
          refine sw_iload_n dX4_step_47 rfl ?_
          refine sw_ialdN (v) dX4_step_48 rfl hv (show v < 8 by omega) (by decide) ?_
          refine sw_Vn dX4_step_49 k_X4_44 mf_X4_push (c_X4_push (d := d - 1) (s := mS s m) (A := mA A m) (h := m.2.1) rfl (k4 (Or.inr hk)) _) rfl ⟨_, rfl, rfl⟩ (by omega) (by omega) (by omega) rfl rfl (Nat.le_of_ble_eq_true rfl) ?_
          refine sw_goto 141 dX4_step_52 (by decide) ?_
          refine sw_aload_n dX4_step_141 rfl (by first | rfl | assumption) ?_
          refine sw_get dX4_step_142 fr_X4_22 rfl rfl ?_
          refine sw_iload_n dX4_step_145 rfl ?_
          refine sw_iconst (x := 0) dX4_step_146 (by decide) ?_
          refine sw_Vv dX4_step_147 k_X4_63 mf_X0_nextOf (by have z := c_X0_nextOf (l := l) (D := D) (cy := cy) (d := d - 1) (n := n) (f := f) (s := (va_up (mS s m) 15 (nI (m.2.1 + 1)))) (A := (va_up (mA A m) 149 (upd (mA A m 149) m.2.1 (m.2.2.1 v)))) (B := B) (o := o) (pr := pr) (by omega) hC hCb (nI m.1) 0; rw [show cnx (va_up (mS s m) 15 (nI (m.2.1 + 1))) ((va_up (mA A m) 149 (upd (mA A m 149) m.2.1 (m.2.2.1 v))) 29) ((va_up (mA A m) 149 (upd (mA A m 149) m.2.1 (m.2.2.1 v))) 30) (nI m.1) 0 = nI (m.1 + 1) from cnx_i hC hCb k2 (k5 (by rw [hk]; decide) (by rw [hk]; decide)) (cnw_1 (by omega) (show ¬ A 29 m.1 = 8 by rw [hk]; decide) (show ¬ A 29 m.1 = 9 by rw [hk]; decide))] at z; exact z) rfl ⟨_, rfl, rfl⟩ (by omega) (by omega) (by omega) rfl rfl (Nat.le_of_ble_eq_true rfl) ?_
          exact sw_iret dX4_step_150 rfl (by first | rfl | exact bz_n _) (by omega) (by omega) ⟨by rw [gstep, if_neg (by rw [hk]; decide), if_pos hk], rfl, by rw [gstep, if_neg (by rw [hk]; decide), if_pos hk, hv, nI_clamp (by omega), mS_u, mA_k]; rfl⟩
    · exact absurd h19 (by decide)
  · have hk : A 29 m.1 = 2 := hk
    obtain ⟨v, hv8, hv⟩ := g5 (Or.inr hk)
    refine sw_aload_n dX4_step_0 rfl (by first | rfl | assumption) ?_
    refine sw_get dX4_step_1 fr_X4_22 rfl rfl ?_
    refine sw_iload_n dX4_step_4 rfl ?_
    refine sw_Vv dX4_step_5 k_X4_32 mf_X0_kindAt (c_X0_kindAt (d := d - 1) (s := mS s m) (A := mA A m) (by omega) hC hCb (nI m.1)) rfl ⟨_, rfl, rfl⟩ (by omega) (by omega) (by omega) rfl rfl (Nat.le_of_ble_eq_true rfl) ?_
    refine sw_top (y := 2) (by rw [show cat (mS s m) (mA A m 29) (nI m.1) = A 29 m.1 from cat_n hC hCb k2]; exact hk) ?_
    refine sw_istore_n [(0, _), (1, _), (2, _)] dX4_step_8 (by decide) rfl ?_
    refine sw_aload_n dX4_step_9 rfl (by first | rfl | assumption) ?_
    refine sw_get dX4_step_10 fr_X4_22 rfl rfl ?_
    refine sw_iload_n dX4_step_13 rfl ?_
    refine sw_Vv dX4_step_14 k_X4_41 mf_X0_argumentAt (c_X0_argumentAt (d := d - 1) (s := mS s m) (A := mA A m) (by omega) hC hCb (nI m.1)) rfl ⟨_, rfl, rfl⟩ (by omega) (by omega) (by omega) rfl rfl (Nat.le_of_ble_eq_true rfl) ?_
    refine sw_top (y := A 30 m.1) (by rw [show cat (mS s m) (mA A m 30) (nI m.1) = A 30 m.1 from cat_n hC hCb k2]) ?_
    refine sw_istore_n [(0, _), (1, _), (2, _), (3, _)] dX4_step_17 (by decide) rfl ?_
    refine sw_iload_n dX4_step_18 rfl ?_
    refine sw_if_ne 30 dX4_step_19 (by decide) (fun h19 => ?_) (fun h19 => ?_)
    · refine sw_iload_n dX4_step_30 rfl ?_
      refine sw_iconst (x := 1) dX4_step_31 (by decide) ?_
      refine sw_icmp_ne 55 dX4_step_32 (by decide) (fun h32 => ?_) (fun h32 => ?_)
      · refine sw_iload_n dX4_step_55 rfl ?_
        refine sw_iconst (x := 2) dX4_step_56 (by decide) ?_
        refine sw_icmp_ne 80 dX4_step_57 (by decide) (fun h57 => ?_) (fun h57 => ?_)
        · exact absurd rfl h57
        · have iv : isV (nI v) = true := by rw [isV]; exact decide_eq_true ⟨Int32.not_lt.mp (i32_nlt0 (by omega)), by rw [nl_8, nI_ltI (by omega) (by omega)]; exact hv8⟩
          refine sw_iload_n dX4_step_60 rfl ?_
          refine sw_top (y := nI v) hv ?_
          refine sw_SNv dX4_step_61 k_X4_48 mf_X11_isVariable (c_X11_isVariable (d := d - 1) _) (by omega) (by omega) (by omega) rfl rfl (Nat.le_of_ble_eq_true rfl) ?_
          refine sw_if_eq 80 dX4_step_64 (by decide) (fun h64 => ?_) (fun h64 => ?_)
          · exact absurd h64 (by rw [iv]; decide)
          · refine sw_aload_n dX4_step_67 rfl (by first | rfl | assumption) ?_
            refine sw_get dX4_step_68 fr_X4_9 rfl rfl ?_
            refine sw_iload_n dX4_step_71 rfl ?_
            refine sw_aload_n dX4_step_72 rfl (by first | rfl | assumption) ?_
            refine sw_Vv dX4_step_73 k_X4_52 mf_X4_pop (c_X4_pop (d := d - 1) (s := mS s m) (A := mA A m) (h := m.2.1) rfl k3 (g7 (Or.inl hk))) rfl ⟨_, rfl, rfl⟩ (by omega) (by omega) (by omega) rfl rfl (Nat.le_of_ble_eq_true rfl) ?_
            refine g_iast (v) dX4_step_76 ⟨by decide, rfl, rfl⟩ hv (show v < 8 by omega) rfl ?_
            refine sw_goto 141 dX4_step_77 (by decide) ?_
            refine sw_aload_n dX4_step_141 rfl (by first | rfl | assumption) ?_
            refine sw_get dX4_step_142 fr_X4_22 rfl rfl ?_
            refine sw_iload_n dX4_step_145 rfl ?_
            refine sw_iconst (x := 0) dX4_step_146 (by decide) ?_
            refine sw_Vv dX4_step_147 k_X4_63 mf_X0_nextOf (by have z := c_X0_nextOf (l := l) (D := D) (cy := cy) (d := d - 1) (n := n) (f := f) (s := (va_up (mS s m) 15 (nI (m.2.1 - 1)))) (A := (va_up (mA A m) 148 (upd (mA A m 148) v (mA A m 149 (m.2.1 - 1))))) (B := B) (o := o) (pr := pr) (by omega) hC hCb (nI m.1) 0; rw [show cnx (va_up (mS s m) 15 (nI (m.2.1 - 1))) ((va_up (mA A m) 148 (upd (mA A m 148) v (mA A m 149 (m.2.1 - 1)))) 29) ((va_up (mA A m) 148 (upd (mA A m 148) v (mA A m 149 (m.2.1 - 1)))) 30) (nI m.1) 0 = nI (m.1 + 1) from cnx_i hC hCb k2 (k5 (by rw [hk]; decide) (by rw [hk]; decide)) (cnw_1 (by omega) (show ¬ A 29 m.1 = 8 by rw [hk]; decide) (show ¬ A 29 m.1 = 9 by rw [hk]; decide))] at z; exact z) rfl ⟨_, rfl, rfl⟩ (by omega) (by omega) (by omega) rfl rfl (Nat.le_of_ble_eq_true rfl) ?_
            exact sw_iret dX4_step_150 rfl (by first | rfl | exact bz_n _) (by omega) (by omega) ⟨by rw [gstep, if_neg (by rw [hk]; decide), if_neg (by rw [hk]; decide), if_pos hk], rfl, by rw [gstep, if_neg (by rw [hk]; decide), if_neg (by rw [hk]; decide), if_pos hk, hv, nI_clamp (by omega), mS_u, mA_v]; rfl⟩
      · exact absurd h32 (by decide)
    · exact absurd h19 (by decide)
  · have hk : A 29 m.1 = 3 := hk
    have hh2 := g8 ⟨by rw [hk]; decide, by rw [hk]; decide⟩
    refine sw_aload_n dX4_step_0 rfl (by first | rfl | assumption) ?_
    refine sw_get dX4_step_1 fr_X4_22 rfl rfl ?_
    refine sw_iload_n dX4_step_4 rfl ?_
    refine sw_Vv dX4_step_5 k_X4_32 mf_X0_kindAt (c_X0_kindAt (d := d - 1) (s := mS s m) (A := mA A m) (by omega) hC hCb (nI m.1)) rfl ⟨_, rfl, rfl⟩ (by omega) (by omega) (by omega) rfl rfl (Nat.le_of_ble_eq_true rfl) ?_
    refine sw_top (y := 3) (by rw [show cat (mS s m) (mA A m 29) (nI m.1) = A 29 m.1 from cat_n hC hCb k2]; exact hk) ?_
    refine sw_istore_n [(0, _), (1, _), (2, _)] dX4_step_8 (by decide) rfl ?_
    refine sw_aload_n dX4_step_9 rfl (by first | rfl | assumption) ?_
    refine sw_get dX4_step_10 fr_X4_22 rfl rfl ?_
    refine sw_iload_n dX4_step_13 rfl ?_
    refine sw_Vv dX4_step_14 k_X4_41 mf_X0_argumentAt (c_X0_argumentAt (d := d - 1) (s := mS s m) (A := mA A m) (by omega) hC hCb (nI m.1)) rfl ⟨_, rfl, rfl⟩ (by omega) (by omega) (by omega) rfl rfl (Nat.le_of_ble_eq_true rfl) ?_
    refine sw_top (y := A 30 m.1) (by rw [show cat (mS s m) (mA A m 30) (nI m.1) = A 30 m.1 from cat_n hC hCb k2]) ?_
    refine sw_istore_n [(0, _), (1, _), (2, _), (3, _)] dX4_step_17 (by decide) rfl ?_
    refine sw_iload_n dX4_step_18 rfl ?_
    refine sw_if_ne 30 dX4_step_19 (by decide) (fun h19 => ?_) (fun h19 => ?_)
    · refine sw_iload_n dX4_step_30 rfl ?_
      refine sw_iconst (x := 1) dX4_step_31 (by decide) ?_
      refine sw_icmp_ne 55 dX4_step_32 (by decide) (fun h32 => ?_) (fun h32 => ?_)
      · refine sw_iload_n dX4_step_55 rfl ?_
        refine sw_iconst (x := 2) dX4_step_56 (by decide) ?_
        refine sw_icmp_ne 80 dX4_step_57 (by decide) (fun h57 => ?_) (fun h57 => ?_)
        · refine sw_iload_n dX4_step_80 rfl ?_
          refine sw_SNv dX4_step_81 k_X4_56 mf_X11_isOperation (c_X11_isOperation (d := d - 1) _) (by omega) (by omega) (by omega) rfl rfl (Nat.le_of_ble_eq_true rfl) ?_
          refine sw_if_eq 114 dX4_step_84 (by decide) (fun h84 => ?_) (fun h84 => ?_)
          · exact absurd h84 (by decide)
          · refine sw_aload_n dX4_step_87 rfl (by first | rfl | assumption) ?_
            refine sw_Vv dX4_step_88 k_X4_52 mf_X4_pop (c_X4_pop (d := d - 1) (s := mS s m) (A := mA A m) (h := m.2.1) rfl k3 (by have := g8 ⟨by rw [hk]; decide, by rw [hk]; decide⟩; omega)) rfl ⟨_, rfl, rfl⟩ (by omega) (by omega) (by omega) rfl rfl (Nat.le_of_ble_eq_true rfl) ?_
            refine sw_istore [(0, _), (1, _), (2, _), (3, _), (4, _)] dX4_step_91 (by decide) rfl ?_
            refine sw_aload_n dX4_step_93 rfl (by first | rfl | assumption) ?_
            refine sw_Vv dX4_step_94 k_X4_52 mf_X4_pop (c_X4_pop (d := d - 1) (s := va_up (mS s m) 15 (nI (m.2.1 - 1))) (A := mA A m) (h := m.2.1 - 1) rfl (by omega) (by have := g8 ⟨by rw [hk]; decide, by rw [hk]; decide⟩; omega)) rfl ⟨_, rfl, rfl⟩ (by omega) (by omega) (by omega) rfl rfl (Nat.le_of_ble_eq_true rfl) ?_
            refine sw_istore [(0, _), (1, _), (2, _), (3, _), (4, _), (5, _)] dX4_step_97 (by decide) rfl ?_
            refine sw_aload_n dX4_step_99 rfl (by first | rfl | assumption) ?_
            refine sw_iload_n dX4_step_100 rfl ?_
            refine sw_iload dX4_step_101 rfl ?_
            refine sw_iload dX4_step_103 rfl ?_
            refine sw_SNv dX4_step_105 k_X4_59 mf_X11_operate (c_X11_operate (d := d - 1) 3 _ _ (by decide)) (by omega) (by omega) (by omega) rfl rfl (Nat.le_of_ble_eq_true rfl) ?_
            refine sw_Vn dX4_step_108 k_X4_44 mf_X4_push (c_X4_push (d := d - 1) (s := va_up (va_up (mS s m) 15 (nI (m.2.1 - 1))) 15 (nI (m.2.1 - 1 - 1))) (A := mA A m) (h := m.2.1 - 1 - 1) rfl (by omega) _) rfl ⟨_, rfl, rfl⟩ (by omega) (by omega) (by omega) rfl rfl (Nat.le_of_ble_eq_true rfl) ?_
            refine sw_goto 141 dX4_step_111 (by decide) ?_
            refine sw_aload_n dX4_step_141 rfl (by first | rfl | assumption) ?_
            refine sw_get dX4_step_142 fr_X4_22 rfl rfl ?_
            refine sw_iload_n dX4_step_145 rfl ?_
            refine sw_iconst (x := 0) dX4_step_146 (by decide) ?_
            refine sw_Vv dX4_step_147 k_X4_63 mf_X0_nextOf (by have z := c_X0_nextOf (l := l) (D := D) (cy := cy) (d := d - 1) (n := n) (f := f) (s := (va_up (va_up (va_up (mS s m) 15 (nI (m.2.1 - 1))) 15 (nI (m.2.1 - 1 - 1))) 15 (nI (m.2.1 - 1 - 1 + 1)))) (A := (va_up (mA A m) 149 (upd (mA A m 149) (m.2.1 - 1 - 1) (r_wk 3 (mA A m 149 (m.2.1 - 1 - 1)) (mA A m 149 (m.2.1 - 1)))))) (B := B) (o := o) (pr := pr) (by omega) hC hCb (nI m.1) 0; rw [show cnx (va_up (va_up (va_up (mS s m) 15 (nI (m.2.1 - 1))) 15 (nI (m.2.1 - 1 - 1))) 15 (nI (m.2.1 - 1 - 1 + 1))) ((va_up (mA A m) 149 (upd (mA A m 149) (m.2.1 - 1 - 1) (r_wk 3 (mA A m 149 (m.2.1 - 1 - 1)) (mA A m 149 (m.2.1 - 1))))) 29) ((va_up (mA A m) 149 (upd (mA A m 149) (m.2.1 - 1 - 1) (r_wk 3 (mA A m 149 (m.2.1 - 1 - 1)) (mA A m 149 (m.2.1 - 1))))) 30) (nI m.1) 0 = nI (m.1 + 1) from cnx_i hC hCb k2 (k5 (by rw [hk]; decide) (by rw [hk]; decide)) (cnw_1 (by omega) (show ¬ A 29 m.1 = 8 by rw [hk]; decide) (show ¬ A 29 m.1 = 9 by rw [hk]; decide))] at z; exact z) rfl ⟨_, rfl, rfl⟩ (by omega) (by omega) (by omega) rfl rfl (Nat.le_of_ble_eq_true rfl) ?_
            exact sw_iret dX4_step_150 rfl (by first | rfl | exact bz_n _) (by omega) (by omega) ⟨by rw [gstep, if_neg (by rw [hk]; decide), if_neg (by rw [hk]; decide), if_neg (by rw [hk]; decide), if_pos (by rw [hk]; decide)], rfl, by rw [gstep, if_neg (by rw [hk]; decide), if_neg (by rw [hk]; decide), if_neg (by rw [hk]; decide), if_pos (by rw [hk]; decide), hk, show m.2.1 - 1 - 1 + 1 = m.2.1 - 1 by have := g8 ⟨by rw [hk]; decide, by rw [hk]; decide⟩; omega, vu_up, vu_up, mS_u, mA_k]; rfl⟩
        · exact absurd h57 (by decide)
      · exact absurd h32 (by decide)
    · exact absurd h19 (by decide)
  · have hk : A 29 m.1 = 4 := hk
    have hh2 := g8 ⟨by rw [hk]; decide, by rw [hk]; decide⟩
    refine sw_aload_n dX4_step_0 rfl (by first | rfl | assumption) ?_
    refine sw_get dX4_step_1 fr_X4_22 rfl rfl ?_
    refine sw_iload_n dX4_step_4 rfl ?_
    refine sw_Vv dX4_step_5 k_X4_32 mf_X0_kindAt (c_X0_kindAt (d := d - 1) (s := mS s m) (A := mA A m) (by omega) hC hCb (nI m.1)) rfl ⟨_, rfl, rfl⟩ (by omega) (by omega) (by omega) rfl rfl (Nat.le_of_ble_eq_true rfl) ?_
    refine sw_top (y := 4) (by rw [show cat (mS s m) (mA A m 29) (nI m.1) = A 29 m.1 from cat_n hC hCb k2]; exact hk) ?_
    refine sw_istore_n [(0, _), (1, _), (2, _)] dX4_step_8 (by decide) rfl ?_
    refine sw_aload_n dX4_step_9 rfl (by first | rfl | assumption) ?_
    refine sw_get dX4_step_10 fr_X4_22 rfl rfl ?_
    refine sw_iload_n dX4_step_13 rfl ?_
    refine sw_Vv dX4_step_14 k_X4_41 mf_X0_argumentAt (c_X0_argumentAt (d := d - 1) (s := mS s m) (A := mA A m) (by omega) hC hCb (nI m.1)) rfl ⟨_, rfl, rfl⟩ (by omega) (by omega) (by omega) rfl rfl (Nat.le_of_ble_eq_true rfl) ?_
    refine sw_top (y := A 30 m.1) (by rw [show cat (mS s m) (mA A m 30) (nI m.1) = A 30 m.1 from cat_n hC hCb k2]) ?_
    refine sw_istore_n [(0, _), (1, _), (2, _), (3, _)] dX4_step_17 (by decide) rfl ?_
    refine sw_iload_n dX4_step_18 rfl ?_
    refine sw_if_ne 30 dX4_step_19 (by decide) (fun h19 => ?_) (fun h19 => ?_)
    · refine sw_iload_n dX4_step_30 rfl ?_
      refine sw_iconst (x := 1) dX4_step_31 (by decide) ?_
      refine sw_icmp_ne 55 dX4_step_32 (by decide) (fun h32 => ?_) (fun h32 => ?_)
      · refine sw_iload_n dX4_step_55 rfl ?_
        refine sw_iconst (x := 2) dX4_step_56 (by decide) ?_
        refine sw_icmp_ne 80 dX4_step_57 (by decide) (fun h57 => ?_) (fun h57 => ?_)
        · refine sw_iload_n dX4_step_80 rfl ?_
          refine sw_SNv dX4_step_81 k_X4_56 mf_X11_isOperation (c_X11_isOperation (d := d - 1) _) (by omega) (by omega) (by omega) rfl rfl (Nat.le_of_ble_eq_true rfl) ?_
          refine sw_if_eq 114 dX4_step_84 (by decide) (fun h84 => ?_) (fun h84 => ?_)
          · exact absurd h84 (by decide)
          · refine sw_aload_n dX4_step_87 rfl (by first | rfl | assumption) ?_
            refine sw_Vv dX4_step_88 k_X4_52 mf_X4_pop (c_X4_pop (d := d - 1) (s := mS s m) (A := mA A m) (h := m.2.1) rfl k3 (by have := g8 ⟨by rw [hk]; decide, by rw [hk]; decide⟩; omega)) rfl ⟨_, rfl, rfl⟩ (by omega) (by omega) (by omega) rfl rfl (Nat.le_of_ble_eq_true rfl) ?_
            refine sw_istore [(0, _), (1, _), (2, _), (3, _), (4, _)] dX4_step_91 (by decide) rfl ?_
            refine sw_aload_n dX4_step_93 rfl (by first | rfl | assumption) ?_
            refine sw_Vv dX4_step_94 k_X4_52 mf_X4_pop (c_X4_pop (d := d - 1) (s := va_up (mS s m) 15 (nI (m.2.1 - 1))) (A := mA A m) (h := m.2.1 - 1) rfl (by omega) (by have := g8 ⟨by rw [hk]; decide, by rw [hk]; decide⟩; omega)) rfl ⟨_, rfl, rfl⟩ (by omega) (by omega) (by omega) rfl rfl (Nat.le_of_ble_eq_true rfl) ?_
            refine sw_istore [(0, _), (1, _), (2, _), (3, _), (4, _), (5, _)] dX4_step_97 (by decide) rfl ?_
            refine sw_aload_n dX4_step_99 rfl (by first | rfl | assumption) ?_
            refine sw_iload_n dX4_step_100 rfl ?_
            refine sw_iload dX4_step_101 rfl ?_
            refine sw_iload dX4_step_103 rfl ?_
            refine sw_SNv dX4_step_105 k_X4_59 mf_X11_operate (c_X11_operate (d := d - 1) 4 _ _ (by decide)) (by omega) (by omega) (by omega) rfl rfl (Nat.le_of_ble_eq_true rfl) ?_
            refine sw_Vn dX4_step_108 k_X4_44 mf_X4_push (c_X4_push (d := d - 1) (s := va_up (va_up (mS s m) 15 (nI (m.2.1 - 1))) 15 (nI (m.2.1 - 1 - 1))) (A := mA A m) (h := m.2.1 - 1 - 1) rfl (by omega) _) rfl ⟨_, rfl, rfl⟩ (by omega) (by omega) (by omega) rfl rfl (Nat.le_of_ble_eq_true rfl) ?_
            refine sw_goto 141 dX4_step_111 (by decide) ?_
            refine sw_aload_n dX4_step_141 rfl (by first | rfl | assumption) ?_
            refine sw_get dX4_step_142 fr_X4_22 rfl rfl ?_
            refine sw_iload_n dX4_step_145 rfl ?_
            refine sw_iconst (x := 0) dX4_step_146 (by decide) ?_
            refine sw_Vv dX4_step_147 k_X4_63 mf_X0_nextOf (by have z := c_X0_nextOf (l := l) (D := D) (cy := cy) (d := d - 1) (n := n) (f := f) (s := (va_up (va_up (va_up (mS s m) 15 (nI (m.2.1 - 1))) 15 (nI (m.2.1 - 1 - 1))) 15 (nI (m.2.1 - 1 - 1 + 1)))) (A := (va_up (mA A m) 149 (upd (mA A m 149) (m.2.1 - 1 - 1) (r_wk 4 (mA A m 149 (m.2.1 - 1 - 1)) (mA A m 149 (m.2.1 - 1)))))) (B := B) (o := o) (pr := pr) (by omega) hC hCb (nI m.1) 0; rw [show cnx (va_up (va_up (va_up (mS s m) 15 (nI (m.2.1 - 1))) 15 (nI (m.2.1 - 1 - 1))) 15 (nI (m.2.1 - 1 - 1 + 1))) ((va_up (mA A m) 149 (upd (mA A m 149) (m.2.1 - 1 - 1) (r_wk 4 (mA A m 149 (m.2.1 - 1 - 1)) (mA A m 149 (m.2.1 - 1))))) 29) ((va_up (mA A m) 149 (upd (mA A m 149) (m.2.1 - 1 - 1) (r_wk 4 (mA A m 149 (m.2.1 - 1 - 1)) (mA A m 149 (m.2.1 - 1))))) 30) (nI m.1) 0 = nI (m.1 + 1) from cnx_i hC hCb k2 (k5 (by rw [hk]; decide) (by rw [hk]; decide)) (cnw_1 (by omega) (show ¬ A 29 m.1 = 8 by rw [hk]; decide) (show ¬ A 29 m.1 = 9 by rw [hk]; decide))] at z; exact z) rfl ⟨_, rfl, rfl⟩ (by omega) (by omega) (by omega) rfl rfl (Nat.le_of_ble_eq_true rfl) ?_
            exact sw_iret dX4_step_150 rfl (by first | rfl | exact bz_n _) (by omega) (by omega) ⟨by rw [gstep, if_neg (by rw [hk]; decide), if_neg (by rw [hk]; decide), if_neg (by rw [hk]; decide), if_pos (by rw [hk]; decide)], rfl, by rw [gstep, if_neg (by rw [hk]; decide), if_neg (by rw [hk]; decide), if_neg (by rw [hk]; decide), if_pos (by rw [hk]; decide), hk, show m.2.1 - 1 - 1 + 1 = m.2.1 - 1 by have := g8 ⟨by rw [hk]; decide, by rw [hk]; decide⟩; omega, vu_up, vu_up, mS_u, mA_k]; rfl⟩
        · exact absurd h57 (by decide)
      · exact absurd h32 (by decide)
    · exact absurd h19 (by decide)
  · have hk : A 29 m.1 = 5 := hk
    have hh2 := g8 ⟨by rw [hk]; decide, by rw [hk]; decide⟩
    refine sw_aload_n dX4_step_0 rfl (by first | rfl | assumption) ?_
    refine sw_get dX4_step_1 fr_X4_22 rfl rfl ?_
    refine sw_iload_n dX4_step_4 rfl ?_
    refine sw_Vv dX4_step_5 k_X4_32 mf_X0_kindAt (c_X0_kindAt (d := d - 1) (s := mS s m) (A := mA A m) (by omega) hC hCb (nI m.1)) rfl ⟨_, rfl, rfl⟩ (by omega) (by omega) (by omega) rfl rfl (Nat.le_of_ble_eq_true rfl) ?_
    refine sw_top (y := 5) (by rw [show cat (mS s m) (mA A m 29) (nI m.1) = A 29 m.1 from cat_n hC hCb k2]; exact hk) ?_
    refine sw_istore_n [(0, _), (1, _), (2, _)] dX4_step_8 (by decide) rfl ?_
    refine sw_aload_n dX4_step_9 rfl (by first | rfl | assumption) ?_
    refine sw_get dX4_step_10 fr_X4_22 rfl rfl ?_
    refine sw_iload_n dX4_step_13 rfl ?_
    refine sw_Vv dX4_step_14 k_X4_41 mf_X0_argumentAt (c_X0_argumentAt (d := d - 1) (s := mS s m) (A := mA A m) (by omega) hC hCb (nI m.1)) rfl ⟨_, rfl, rfl⟩ (by omega) (by omega) (by omega) rfl rfl (Nat.le_of_ble_eq_true rfl) ?_
    refine sw_top (y := A 30 m.1) (by rw [show cat (mS s m) (mA A m 30) (nI m.1) = A 30 m.1 from cat_n hC hCb k2]) ?_
    refine sw_istore_n [(0, _), (1, _), (2, _), (3, _)] dX4_step_17 (by decide) rfl ?_
    refine sw_iload_n dX4_step_18 rfl ?_
    refine sw_if_ne 30 dX4_step_19 (by decide) (fun h19 => ?_) (fun h19 => ?_)
    · refine sw_iload_n dX4_step_30 rfl ?_
      refine sw_iconst (x := 1) dX4_step_31 (by decide) ?_
      refine sw_icmp_ne 55 dX4_step_32 (by decide) (fun h32 => ?_) (fun h32 => ?_)
      · refine sw_iload_n dX4_step_55 rfl ?_
        refine sw_iconst (x := 2) dX4_step_56 (by decide) ?_
        refine sw_icmp_ne 80 dX4_step_57 (by decide) (fun h57 => ?_) (fun h57 => ?_)
        · refine sw_iload_n dX4_step_80 rfl ?_
          refine sw_SNv dX4_step_81 k_X4_56 mf_X11_isOperation (c_X11_isOperation (d := d - 1) _) (by omega) (by omega) (by omega) rfl rfl (Nat.le_of_ble_eq_true rfl) ?_
          refine sw_if_eq 114 dX4_step_84 (by decide) (fun h84 => ?_) (fun h84 => ?_)
          · exact absurd h84 (by decide)
          · refine sw_aload_n dX4_step_87 rfl (by first | rfl | assumption) ?_
            refine sw_Vv dX4_step_88 k_X4_52 mf_X4_pop (c_X4_pop (d := d - 1) (s := mS s m) (A := mA A m) (h := m.2.1) rfl k3 (by have := g8 ⟨by rw [hk]; decide, by rw [hk]; decide⟩; omega)) rfl ⟨_, rfl, rfl⟩ (by omega) (by omega) (by omega) rfl rfl (Nat.le_of_ble_eq_true rfl) ?_
            refine sw_istore [(0, _), (1, _), (2, _), (3, _), (4, _)] dX4_step_91 (by decide) rfl ?_
            refine sw_aload_n dX4_step_93 rfl (by first | rfl | assumption) ?_
            refine sw_Vv dX4_step_94 k_X4_52 mf_X4_pop (c_X4_pop (d := d - 1) (s := va_up (mS s m) 15 (nI (m.2.1 - 1))) (A := mA A m) (h := m.2.1 - 1) rfl (by omega) (by have := g8 ⟨by rw [hk]; decide, by rw [hk]; decide⟩; omega)) rfl ⟨_, rfl, rfl⟩ (by omega) (by omega) (by omega) rfl rfl (Nat.le_of_ble_eq_true rfl) ?_
            refine sw_istore [(0, _), (1, _), (2, _), (3, _), (4, _), (5, _)] dX4_step_97 (by decide) rfl ?_
            refine sw_aload_n dX4_step_99 rfl (by first | rfl | assumption) ?_
            refine sw_iload_n dX4_step_100 rfl ?_
            refine sw_iload dX4_step_101 rfl ?_
            refine sw_iload dX4_step_103 rfl ?_
            refine sw_SNv dX4_step_105 k_X4_59 mf_X11_operate (c_X11_operate (d := d - 1) 5 _ _ (by decide)) (by omega) (by omega) (by omega) rfl rfl (Nat.le_of_ble_eq_true rfl) ?_
            refine sw_Vn dX4_step_108 k_X4_44 mf_X4_push (c_X4_push (d := d - 1) (s := va_up (va_up (mS s m) 15 (nI (m.2.1 - 1))) 15 (nI (m.2.1 - 1 - 1))) (A := mA A m) (h := m.2.1 - 1 - 1) rfl (by omega) _) rfl ⟨_, rfl, rfl⟩ (by omega) (by omega) (by omega) rfl rfl (Nat.le_of_ble_eq_true rfl) ?_
            refine sw_goto 141 dX4_step_111 (by decide) ?_
            refine sw_aload_n dX4_step_141 rfl (by first | rfl | assumption) ?_
            refine sw_get dX4_step_142 fr_X4_22 rfl rfl ?_
            refine sw_iload_n dX4_step_145 rfl ?_
            refine sw_iconst (x := 0) dX4_step_146 (by decide) ?_
            refine sw_Vv dX4_step_147 k_X4_63 mf_X0_nextOf (by have z := c_X0_nextOf (l := l) (D := D) (cy := cy) (d := d - 1) (n := n) (f := f) (s := (va_up (va_up (va_up (mS s m) 15 (nI (m.2.1 - 1))) 15 (nI (m.2.1 - 1 - 1))) 15 (nI (m.2.1 - 1 - 1 + 1)))) (A := (va_up (mA A m) 149 (upd (mA A m 149) (m.2.1 - 1 - 1) (r_wk 5 (mA A m 149 (m.2.1 - 1 - 1)) (mA A m 149 (m.2.1 - 1)))))) (B := B) (o := o) (pr := pr) (by omega) hC hCb (nI m.1) 0; rw [show cnx (va_up (va_up (va_up (mS s m) 15 (nI (m.2.1 - 1))) 15 (nI (m.2.1 - 1 - 1))) 15 (nI (m.2.1 - 1 - 1 + 1))) ((va_up (mA A m) 149 (upd (mA A m 149) (m.2.1 - 1 - 1) (r_wk 5 (mA A m 149 (m.2.1 - 1 - 1)) (mA A m 149 (m.2.1 - 1))))) 29) ((va_up (mA A m) 149 (upd (mA A m 149) (m.2.1 - 1 - 1) (r_wk 5 (mA A m 149 (m.2.1 - 1 - 1)) (mA A m 149 (m.2.1 - 1))))) 30) (nI m.1) 0 = nI (m.1 + 1) from cnx_i hC hCb k2 (k5 (by rw [hk]; decide) (by rw [hk]; decide)) (cnw_1 (by omega) (show ¬ A 29 m.1 = 8 by rw [hk]; decide) (show ¬ A 29 m.1 = 9 by rw [hk]; decide))] at z; exact z) rfl ⟨_, rfl, rfl⟩ (by omega) (by omega) (by omega) rfl rfl (Nat.le_of_ble_eq_true rfl) ?_
            exact sw_iret dX4_step_150 rfl (by first | rfl | exact bz_n _) (by omega) (by omega) ⟨by rw [gstep, if_neg (by rw [hk]; decide), if_neg (by rw [hk]; decide), if_neg (by rw [hk]; decide), if_pos (by rw [hk]; decide)], rfl, by rw [gstep, if_neg (by rw [hk]; decide), if_neg (by rw [hk]; decide), if_neg (by rw [hk]; decide), if_pos (by rw [hk]; decide), hk, show m.2.1 - 1 - 1 + 1 = m.2.1 - 1 by have := g8 ⟨by rw [hk]; decide, by rw [hk]; decide⟩; omega, vu_up, vu_up, mS_u, mA_k]; rfl⟩
        · exact absurd h57 (by decide)
      · exact absurd h32 (by decide)
    · exact absurd h19 (by decide)
  · have hk : A 29 m.1 = 6 := hk
    have hh2 := g8 ⟨by rw [hk]; decide, by rw [hk]; decide⟩
    refine sw_aload_n dX4_step_0 rfl (by first | rfl | assumption) ?_
    refine sw_get dX4_step_1 fr_X4_22 rfl rfl ?_
    refine sw_iload_n dX4_step_4 rfl ?_
    refine sw_Vv dX4_step_5 k_X4_32 mf_X0_kindAt (c_X0_kindAt (d := d - 1) (s := mS s m) (A := mA A m) (by omega) hC hCb (nI m.1)) rfl ⟨_, rfl, rfl⟩ (by omega) (by omega) (by omega) rfl rfl (Nat.le_of_ble_eq_true rfl) ?_
    refine sw_top (y := 6) (by rw [show cat (mS s m) (mA A m 29) (nI m.1) = A 29 m.1 from cat_n hC hCb k2]; exact hk) ?_
    refine sw_istore_n [(0, _), (1, _), (2, _)] dX4_step_8 (by decide) rfl ?_
    refine sw_aload_n dX4_step_9 rfl (by first | rfl | assumption) ?_
    refine sw_get dX4_step_10 fr_X4_22 rfl rfl ?_
    refine sw_iload_n dX4_step_13 rfl ?_
    refine sw_Vv dX4_step_14 k_X4_41 mf_X0_argumentAt (c_X0_argumentAt (d := d - 1) (s := mS s m) (A := mA A m) (by omega) hC hCb (nI m.1)) rfl ⟨_, rfl, rfl⟩ (by omega) (by omega) (by omega) rfl rfl (Nat.le_of_ble_eq_true rfl) ?_
    refine sw_top (y := A 30 m.1) (by rw [show cat (mS s m) (mA A m 30) (nI m.1) = A 30 m.1 from cat_n hC hCb k2]) ?_
    refine sw_istore_n [(0, _), (1, _), (2, _), (3, _)] dX4_step_17 (by decide) rfl ?_
    refine sw_iload_n dX4_step_18 rfl ?_
    refine sw_if_ne 30 dX4_step_19 (by decide) (fun h19 => ?_) (fun h19 => ?_)
    · refine sw_iload_n dX4_step_30 rfl ?_
      refine sw_iconst (x := 1) dX4_step_31 (by decide) ?_
      refine sw_icmp_ne 55 dX4_step_32 (by decide) (fun h32 => ?_) (fun h32 => ?_)
      · refine sw_iload_n dX4_step_55 rfl ?_
        refine sw_iconst (x := 2) dX4_step_56 (by decide) ?_
        refine sw_icmp_ne 80 dX4_step_57 (by decide) (fun h57 => ?_) (fun h57 => ?_)
        · refine sw_iload_n dX4_step_80 rfl ?_
          refine sw_SNv dX4_step_81 k_X4_56 mf_X11_isOperation (c_X11_isOperation (d := d - 1) _) (by omega) (by omega) (by omega) rfl rfl (Nat.le_of_ble_eq_true rfl) ?_
          refine sw_if_eq 114 dX4_step_84 (by decide) (fun h84 => ?_) (fun h84 => ?_)
          · exact absurd h84 (by decide)
          · refine sw_aload_n dX4_step_87 rfl (by first | rfl | assumption) ?_
            refine sw_Vv dX4_step_88 k_X4_52 mf_X4_pop (c_X4_pop (d := d - 1) (s := mS s m) (A := mA A m) (h := m.2.1) rfl k3 (by have := g8 ⟨by rw [hk]; decide, by rw [hk]; decide⟩; omega)) rfl ⟨_, rfl, rfl⟩ (by omega) (by omega) (by omega) rfl rfl (Nat.le_of_ble_eq_true rfl) ?_
            refine sw_istore [(0, _), (1, _), (2, _), (3, _), (4, _)] dX4_step_91 (by decide) rfl ?_
            refine sw_aload_n dX4_step_93 rfl (by first | rfl | assumption) ?_
            refine sw_Vv dX4_step_94 k_X4_52 mf_X4_pop (c_X4_pop (d := d - 1) (s := va_up (mS s m) 15 (nI (m.2.1 - 1))) (A := mA A m) (h := m.2.1 - 1) rfl (by omega) (by have := g8 ⟨by rw [hk]; decide, by rw [hk]; decide⟩; omega)) rfl ⟨_, rfl, rfl⟩ (by omega) (by omega) (by omega) rfl rfl (Nat.le_of_ble_eq_true rfl) ?_
            refine sw_istore [(0, _), (1, _), (2, _), (3, _), (4, _), (5, _)] dX4_step_97 (by decide) rfl ?_
            refine sw_aload_n dX4_step_99 rfl (by first | rfl | assumption) ?_
            refine sw_iload_n dX4_step_100 rfl ?_
            refine sw_iload dX4_step_101 rfl ?_
            refine sw_iload dX4_step_103 rfl ?_
            refine sw_SNv dX4_step_105 k_X4_59 mf_X11_operate (c_X11_operate (d := d - 1) 6 _ _ (by decide)) (by omega) (by omega) (by omega) rfl rfl (Nat.le_of_ble_eq_true rfl) ?_
            refine sw_Vn dX4_step_108 k_X4_44 mf_X4_push (c_X4_push (d := d - 1) (s := va_up (va_up (mS s m) 15 (nI (m.2.1 - 1))) 15 (nI (m.2.1 - 1 - 1))) (A := mA A m) (h := m.2.1 - 1 - 1) rfl (by omega) _) rfl ⟨_, rfl, rfl⟩ (by omega) (by omega) (by omega) rfl rfl (Nat.le_of_ble_eq_true rfl) ?_
            refine sw_goto 141 dX4_step_111 (by decide) ?_
            refine sw_aload_n dX4_step_141 rfl (by first | rfl | assumption) ?_
            refine sw_get dX4_step_142 fr_X4_22 rfl rfl ?_
            refine sw_iload_n dX4_step_145 rfl ?_
            refine sw_iconst (x := 0) dX4_step_146 (by decide) ?_
            refine sw_Vv dX4_step_147 k_X4_63 mf_X0_nextOf (by have z := c_X0_nextOf (l := l) (D := D) (cy := cy) (d := d - 1) (n := n) (f := f) (s := (va_up (va_up (va_up (mS s m) 15 (nI (m.2.1 - 1))) 15 (nI (m.2.1 - 1 - 1))) 15 (nI (m.2.1 - 1 - 1 + 1)))) (A := (va_up (mA A m) 149 (upd (mA A m 149) (m.2.1 - 1 - 1) (r_wk 6 (mA A m 149 (m.2.1 - 1 - 1)) (mA A m 149 (m.2.1 - 1)))))) (B := B) (o := o) (pr := pr) (by omega) hC hCb (nI m.1) 0; rw [show cnx (va_up (va_up (va_up (mS s m) 15 (nI (m.2.1 - 1))) 15 (nI (m.2.1 - 1 - 1))) 15 (nI (m.2.1 - 1 - 1 + 1))) ((va_up (mA A m) 149 (upd (mA A m 149) (m.2.1 - 1 - 1) (r_wk 6 (mA A m 149 (m.2.1 - 1 - 1)) (mA A m 149 (m.2.1 - 1))))) 29) ((va_up (mA A m) 149 (upd (mA A m 149) (m.2.1 - 1 - 1) (r_wk 6 (mA A m 149 (m.2.1 - 1 - 1)) (mA A m 149 (m.2.1 - 1))))) 30) (nI m.1) 0 = nI (m.1 + 1) from cnx_i hC hCb k2 (k5 (by rw [hk]; decide) (by rw [hk]; decide)) (cnw_1 (by omega) (show ¬ A 29 m.1 = 8 by rw [hk]; decide) (show ¬ A 29 m.1 = 9 by rw [hk]; decide))] at z; exact z) rfl ⟨_, rfl, rfl⟩ (by omega) (by omega) (by omega) rfl rfl (Nat.le_of_ble_eq_true rfl) ?_
            exact sw_iret dX4_step_150 rfl (by first | rfl | exact bz_n _) (by omega) (by omega) ⟨by rw [gstep, if_neg (by rw [hk]; decide), if_neg (by rw [hk]; decide), if_neg (by rw [hk]; decide), if_pos (by rw [hk]; decide)], rfl, by rw [gstep, if_neg (by rw [hk]; decide), if_neg (by rw [hk]; decide), if_neg (by rw [hk]; decide), if_pos (by rw [hk]; decide), hk, show m.2.1 - 1 - 1 + 1 = m.2.1 - 1 by have := g8 ⟨by rw [hk]; decide, by rw [hk]; decide⟩; omega, vu_up, vu_up, mS_u, mA_k]; rfl⟩
        · exact absurd h57 (by decide)
      · exact absurd h32 (by decide)
    · exact absurd h19 (by decide)
  · have hk : A 29 m.1 = 7 := hk
    have hv2 : A 30 m.1 = nI (A 30 m.1).toNatClampNeg := by
      obtain ⟨t, ht, hte⟩ := g6 (Or.inl hk)
      rw [hte, nI_clamp (by omega)]
    refine sw_aload_n dX4_step_0 rfl (by first | rfl | assumption) ?_
    refine sw_get dX4_step_1 fr_X4_22 rfl rfl ?_
    refine sw_iload_n dX4_step_4 rfl ?_
    refine sw_Vv dX4_step_5 k_X4_32 mf_X0_kindAt (c_X0_kindAt (d := d - 1) (s := mS s m) (A := mA A m) (by omega) hC hCb (nI m.1)) rfl ⟨_, rfl, rfl⟩ (by omega) (by omega) (by omega) rfl rfl (Nat.le_of_ble_eq_true rfl) ?_
    refine sw_top (y := 7) (by rw [show cat (mS s m) (mA A m 29) (nI m.1) = A 29 m.1 from cat_n hC hCb k2]; exact hk) ?_
    refine sw_istore_n [(0, _), (1, _), (2, _)] dX4_step_8 (by decide) rfl ?_
    refine sw_aload_n dX4_step_9 rfl (by first | rfl | assumption) ?_
    refine sw_get dX4_step_10 fr_X4_22 rfl rfl ?_
    refine sw_iload_n dX4_step_13 rfl ?_
    refine sw_Vv dX4_step_14 k_X4_41 mf_X0_argumentAt (c_X0_argumentAt (d := d - 1) (s := mS s m) (A := mA A m) (by omega) hC hCb (nI m.1)) rfl ⟨_, rfl, rfl⟩ (by omega) (by omega) (by omega) rfl rfl (Nat.le_of_ble_eq_true rfl) ?_
    refine sw_top (y := A 30 m.1) (by rw [show cat (mS s m) (mA A m 30) (nI m.1) = A 30 m.1 from cat_n hC hCb k2]) ?_
    refine sw_istore_n [(0, _), (1, _), (2, _), (3, _)] dX4_step_17 (by decide) rfl ?_
    refine sw_iload_n dX4_step_18 rfl ?_
    refine sw_if_ne 30 dX4_step_19 (by decide) (fun h19 => ?_) (fun h19 => ?_)
    · refine sw_iload_n dX4_step_30 rfl ?_
      refine sw_iconst (x := 1) dX4_step_31 (by decide) ?_
      refine sw_icmp_ne 55 dX4_step_32 (by decide) (fun h32 => ?_) (fun h32 => ?_)
      · refine sw_iload_n dX4_step_55 rfl ?_
        refine sw_iconst (x := 2) dX4_step_56 (by decide) ?_
        refine sw_icmp_ne 80 dX4_step_57 (by decide) (fun h57 => ?_) (fun h57 => ?_)
        · refine sw_iload_n dX4_step_80 rfl ?_
          refine sw_SNv dX4_step_81 k_X4_56 mf_X11_isOperation (c_X11_isOperation (d := d - 1) _) (by omega) (by omega) (by omega) rfl rfl (Nat.le_of_ble_eq_true rfl) ?_
          refine sw_if_eq 114 dX4_step_84 (by decide) (fun h84 => ?_) (fun h84 => ?_)
          · refine sw_iload_n dX4_step_114 rfl ?_
            refine sw_bipush (x := 7) dX4_step_115 (by decide) ?_
            refine sw_icmp_ne 141 dX4_step_117 (by decide) (fun h117 => ?_) (fun h117 => ?_)
            · exact absurd rfl h117
            · refine sw_aload_n dX4_step_120 rfl (by first | rfl | assumption) ?_
              refine sw_get dX4_step_121 fr_X4_22 rfl rfl ?_
              refine sw_iload_n dX4_step_124 rfl ?_
              refine sw_aload_n dX4_step_125 rfl (by first | rfl | assumption) ?_
              refine sw_Vv dX4_step_126 k_X4_52 mf_X4_pop (c_X4_pop (d := d - 1) (s := mS s m) (A := mA A m) (h := m.2.1) rfl k3 (g7 (Or.inr hk))) rfl ⟨_, rfl, rfl⟩ (by omega) (by omega) (by omega) rfl rfl (Nat.le_of_ble_eq_true rfl) ?_
              refine sw_if_ne 136 dX4_step_129 (by decide) (fun h129 => ?_) (fun h129 => ?_)
              · refine sw_iconst (x := 0) dX4_step_136 (by decide) ?_
                refine sw_Vv dX4_step_137 k_X4_63 mf_X0_nextOf (by have z := c_X0_nextOf (l := l) (D := D) (cy := cy) (d := d - 1) (n := n) (f := f) (s := (va_up (mS s m) 15 (nI (m.2.1 - 1)))) (A := (mA A m)) (B := B) (o := o) (pr := pr) (by omega) hC hCb (nI m.1) 0; rw [show cnx (va_up (mS s m) 15 (nI (m.2.1 - 1))) ((mA A m) 29) ((mA A m) 30) (nI m.1) 0 = nI (m.1 + 1) from cnx_i hC hCb k2 (k5 (by rw [hk]; decide) (by rw [hk]; decide)) (cnw_1 (by omega) (show ¬ A 29 m.1 = 8 by rw [hk]; decide) (show ¬ A 29 m.1 = 9 by rw [hk]; decide))] at z; exact z) rfl ⟨_, rfl, rfl⟩ (by omega) (by omega) (by omega) rfl rfl (Nat.le_of_ble_eq_true rfl) ?_
                exact sw_iret dX4_step_140 rfl (by first | rfl | exact bz_n _) (by omega) (by omega) ⟨by rw [gstep, if_neg (by rw [hk]; decide), if_neg (by rw [hk]; decide), if_neg (by rw [hk]; decide), if_neg (by rw [hk]; decide), if_pos hk, if_neg (show ¬ m.2.2.2.1 (m.2.1 - 1) = 0 from h129)], rfl, by rw [gstep, if_neg (by rw [hk]; decide), if_neg (by rw [hk]; decide), if_neg (by rw [hk]; decide), if_neg (by rw [hk]; decide), if_pos hk, if_neg (show ¬ m.2.2.2.1 (m.2.1 - 1) = 0 from h129), mS_u]; rfl⟩
              · refine sw_iconst (x := 1) dX4_step_132 (by decide) ?_
                refine sw_goto 137 dX4_step_133 (by decide) ?_
                refine sw_Vv dX4_step_137 k_X4_63 mf_X0_nextOf (by have z := c_X0_nextOf (l := l) (D := D) (cy := cy) (d := d - 1) (n := n) (f := f) (s := (va_up (mS s m) 15 (nI (m.2.1 - 1)))) (A := (mA A m)) (B := B) (o := o) (pr := pr) (by omega) hC hCb (nI m.1) 1; rw [show cnx (va_up (mS s m) 15 (nI (m.2.1 - 1))) ((mA A m) 29) ((mA A m) 30) (nI m.1) 1 = nI ((A 30 m.1).toNatClampNeg) from cnx_i hC hCb k2 (k6 (Or.inl hk)) ((cnw_7 (by omega) (show A 29 m.1 = 7 from hk)).trans hv2)] at z; exact z) rfl ⟨_, rfl, rfl⟩ (by omega) (by omega) (by omega) rfl rfl (Nat.le_of_ble_eq_true rfl) ?_
                exact sw_iret dX4_step_140 rfl (by first | rfl | exact bz_n _) (by omega) (by omega) ⟨by rw [gstep, if_neg (by rw [hk]; decide), if_neg (by rw [hk]; decide), if_neg (by rw [hk]; decide), if_neg (by rw [hk]; decide), if_pos hk, if_pos (show m.2.2.2.1 (m.2.1 - 1) = 0 from h129)], rfl, by rw [gstep, if_neg (by rw [hk]; decide), if_neg (by rw [hk]; decide), if_neg (by rw [hk]; decide), if_neg (by rw [hk]; decide), if_pos hk, if_pos (show m.2.2.2.1 (m.2.1 - 1) = 0 from h129), mS_u]; rfl⟩
          · exact absurd (by decide) h84
        · exact absurd h57 (by decide)
      · exact absurd h32 (by decide)
    · exact absurd h19 (by decide)
  · have hk : A 29 m.1 = 8 := hk
    have hv2 : A 30 m.1 = nI (A 30 m.1).toNatClampNeg := by
      obtain ⟨t, ht, hte⟩ := g6 (Or.inr hk)
      rw [hte, nI_clamp (by omega)]
    refine sw_aload_n dX4_step_0 rfl (by first | rfl | assumption) ?_
    refine sw_get dX4_step_1 fr_X4_22 rfl rfl ?_
    refine sw_iload_n dX4_step_4 rfl ?_
    refine sw_Vv dX4_step_5 k_X4_32 mf_X0_kindAt (c_X0_kindAt (d := d - 1) (s := mS s m) (A := mA A m) (by omega) hC hCb (nI m.1)) rfl ⟨_, rfl, rfl⟩ (by omega) (by omega) (by omega) rfl rfl (Nat.le_of_ble_eq_true rfl) ?_
    refine sw_top (y := 8) (by rw [show cat (mS s m) (mA A m 29) (nI m.1) = A 29 m.1 from cat_n hC hCb k2]; exact hk) ?_
    refine sw_istore_n [(0, _), (1, _), (2, _)] dX4_step_8 (by decide) rfl ?_
    refine sw_aload_n dX4_step_9 rfl (by first | rfl | assumption) ?_
    refine sw_get dX4_step_10 fr_X4_22 rfl rfl ?_
    refine sw_iload_n dX4_step_13 rfl ?_
    refine sw_Vv dX4_step_14 k_X4_41 mf_X0_argumentAt (c_X0_argumentAt (d := d - 1) (s := mS s m) (A := mA A m) (by omega) hC hCb (nI m.1)) rfl ⟨_, rfl, rfl⟩ (by omega) (by omega) (by omega) rfl rfl (Nat.le_of_ble_eq_true rfl) ?_
    refine sw_top (y := A 30 m.1) (by rw [show cat (mS s m) (mA A m 30) (nI m.1) = A 30 m.1 from cat_n hC hCb k2]) ?_
    refine sw_istore_n [(0, _), (1, _), (2, _), (3, _)] dX4_step_17 (by decide) rfl ?_
    refine sw_iload_n dX4_step_18 rfl ?_
    refine sw_if_ne 30 dX4_step_19 (by decide) (fun h19 => ?_) (fun h19 => ?_)
    · refine sw_iload_n dX4_step_30 rfl ?_
      refine sw_iconst (x := 1) dX4_step_31 (by decide) ?_
      refine sw_icmp_ne 55 dX4_step_32 (by decide) (fun h32 => ?_) (fun h32 => ?_)
      · refine sw_iload_n dX4_step_55 rfl ?_
        refine sw_iconst (x := 2) dX4_step_56 (by decide) ?_
        refine sw_icmp_ne 80 dX4_step_57 (by decide) (fun h57 => ?_) (fun h57 => ?_)
        · refine sw_iload_n dX4_step_80 rfl ?_
          refine sw_SNv dX4_step_81 k_X4_56 mf_X11_isOperation (c_X11_isOperation (d := d - 1) _) (by omega) (by omega) (by omega) rfl rfl (Nat.le_of_ble_eq_true rfl) ?_
          refine sw_if_eq 114 dX4_step_84 (by decide) (fun h84 => ?_) (fun h84 => ?_)
          · refine sw_iload_n dX4_step_114 rfl ?_
            refine sw_bipush (x := 7) dX4_step_115 (by decide) ?_
            refine sw_icmp_ne 141 dX4_step_117 (by decide) (fun h117 => ?_) (fun h117 => ?_)
            · refine sw_aload_n dX4_step_141 rfl (by first | rfl | assumption) ?_
              refine sw_get dX4_step_142 fr_X4_22 rfl rfl ?_
              refine sw_iload_n dX4_step_145 rfl ?_
              refine sw_iconst (x := 0) dX4_step_146 (by decide) ?_
              refine sw_Vv dX4_step_147 k_X4_63 mf_X0_nextOf (by have z := c_X0_nextOf (l := l) (D := D) (cy := cy) (d := d - 1) (n := n) (f := f) (s := (mS s m)) (A := (mA A m)) (B := B) (o := o) (pr := pr) (by omega) hC hCb (nI m.1) 0; rw [show cnx (mS s m) ((mA A m) 29) ((mA A m) 30) (nI m.1) 0 = nI ((A 30 m.1).toNatClampNeg) from cnx_i hC hCb k2 (k6 (Or.inr hk)) ((cnw_8 (by omega) (show A 29 m.1 = 8 from hk)).trans hv2)] at z; exact z) rfl ⟨_, rfl, rfl⟩ (by omega) (by omega) (by omega) rfl rfl (Nat.le_of_ble_eq_true rfl) ?_
              exact sw_iret dX4_step_150 rfl (by first | rfl | exact bz_n _) (by omega) (by omega) ⟨by rw [gstep, if_neg (by rw [hk]; decide), if_neg (by rw [hk]; decide), if_neg (by rw [hk]; decide), if_neg (by rw [hk]; decide), if_neg (by rw [hk]; decide)], rfl, by rw [gstep, if_neg (by rw [hk]; decide), if_neg (by rw [hk]; decide), if_neg (by rw [hk]; decide), if_neg (by rw [hk]; decide), if_neg (by rw [hk]; decide)]; rfl⟩
            · exact absurd h117 (by decide)
          · exact absurd (by decide) h84
        · exact absurd h57 (by decide)
      · exact absurd h32 (by decide)
    · exact absurd h19 (by decide)
