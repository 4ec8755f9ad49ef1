/-! ===== THE CLASS: CodeLabels, keepTo, labelAt ===== -/
def kev (s : Nat → Int32) (o : Int64) (R P : Nat → Int32) (v : Nat) : Bool := lall s o (R v) (P v)
def kek (s : Nat → Int32) (o : Int64) (K W P : Nat → Int32) (Y : Nat → Nat → Int32) (k : Nat) : Bool := decide (W k = -1) || !decide (K k = 9) || allF (kev s o (Y k) P) 0 8
set_option maxRecDepth 100000 in
theorem l_X1_k2 {l : Launch} {D : va_G} {cy : Nat → ClassId} {d n : Nat} {f : sw_F} {s : Nat → Int32} {A : Nat → Nat → Int32} {B : Nat → Nat → Int64} {o : Int64} {pr : Value} (hd : 2 ≤ d) {k : Nat} (hk : k < 100) {Y : Nat → Nat → Int32} {V L : Nat → Int32} {Q : sw_Q} {QX : sw_QX} (K : allF (kev s o (Y k) (A 4)) 0 8 = true → SW l D cy mX1_keepTo d 0 0 0 0 89 [(0, .ref 43), (1, .ref 4), (2, .int (nI (k)))] [] n (gd f s (laA A Y V L) B o pr) Q QX) (K0 : allF (kev s o (Y k) (A 4)) 0 8 = false → Q (some (.int 0)) n (gd f s (laA A Y V L) B o pr)) : ∀ (c v : Nat), v ≤ 8 → 8 < v + c → allF (kev s o (Y k) (A 4)) 0 8 = allF (kev s o (Y k) (A 4)) v (8 - v) → SW l D cy mX1_keepTo d 0 0 0 0 47 [(0, .ref 43), (1, .ref 4), (2, .int (nI (k))), (3, .int 1), (4, .int (nI (v)))] [] n (gd f s (laA A Y V L) B o pr) Q QX := by
  intro c
  induction c with
  | zero => intro v h1 h2; exact absurd h2 (by omega)
  | succ c ih =>
    intro v hv hc hA
    refine sw_iload dX1_keepTo_47 rfl ?_
    refine sw_bipush (x := 8) dX1_keepTo_49 (by decide) ?_
    refine sw_top nl_8 ?_
    refine sw_icmp_ge 89 dX1_keepTo_51 (by decide) (fun h51 => ?_) (fun h51 => ?_)
    · refine sw_keep [0, 1, 2] rfl ?_
      exact K (by rw [hA, allF_end ((nI_leI (by omega) (by omega)).mp h51)])
    · have e1 : v < 8 := (nI_ltI (by omega) (by omega)).mp (i32_nle.mp h51)
      refine sw_iload_n dX1_keepTo_54 rfl ?_
      refine sw_if_eq 89 dX1_keepTo_55 (by decide) (fun h55 => ?_) (fun h55 => ?_)
      · refine sw_keep [0, 1, 2] rfl ?_
        exact absurd h55 (by decide)
      · refine sw_aload_n dX1_keepTo_58 rfl (by first | rfl | assumption) ?_
        refine sw_get dX1_keepTo_59 fr_X1_36 rfl rfl ?_
        refine sw_aload_n dX1_keepTo_62 rfl (by first | rfl | assumption) ?_
        refine sw_get dX1_keepTo_63 fr_X1_13 rfl rfl ?_
        refine sw_iload_n dX1_keepTo_66 rfl ?_
        refine sw_aald dX1_keepTo_67 rfl (vp_in_nI (show k < 100 by omega) (by decide)) (g_row (show k < 100 by omega)) ?_
        refine sw_iload dX1_keepTo_68 rfl ?_
        refine sw_ialdN (v) dX1_keepTo_70 (g_lab f s A Y V L B o pr hk) rfl (show v < 17 by omega) (by decide) ?_
        refine sw_aload_n dX1_keepTo_71 rfl (by first | rfl | assumption) ?_
        refine sw_iload dX1_keepTo_72 rfl ?_
        refine sw_ialdN (v) dX1_keepTo_74 rfl rfl (show v < 8 by omega) (by decide) ?_
        refine sw_top (y := A 4 v) rfl ?_
        refine sw_Vv dX1_keepTo_75 k_X1_69 mf_X3_allows (c_X3_allows (d := d - 1) (A := laA A Y V L) (by omega) (Y k v) (A 4 v)) rfl ⟨_, rfl, rfl⟩ (by omega) (by omega) (by omega) rfl rfl (Nat.le_of_ble_eq_true rfl) ?_
        refine sw_if_ne 83 dX1_keepTo_78 (by decide) (fun h78 => ?_) (fun h78 => ?_)
        · first | refine sw_inc1 [(0, _), (1, _), (2, _), (3, _), (4, _)] dX1_keepTo_83 rfl (by decide) rfl ?_ | refine sw_iinc [(0, _), (1, _), (2, _), (3, _), (4, _)] dX1_keepTo_83 rfl (by decide) rfl ?_
          refine sw_goto 47 dX1_keepTo_86 (by decide) ?_
          refine ih (v + 1) (by omega) (by omega) ?_
          rw [hA, allF_step e1, show (kev s o (Y k) (A 4)) v = true from bz_ne.mp h78, Bool.true_and]
        · refine sw_iconst (x := 0) dX1_keepTo_81 (by decide) ?_
          exact sw_iret dX1_keepTo_82 rfl (by first | rfl | exact bz_n _) (by omega) (by omega) (K0 (by rw [hA, allF_step e1, show (kev s o (Y k) (A 4)) v = false from bz_0.mp h78, Bool.false_and]))
set_option maxRecDepth 100000 in
theorem l_X1_k1 {l : Launch} {D : va_G} {cy : Nat → ClassId} {d n : Nat} {f : sw_F} {s : Nat → Int32} {A : Nat → Nat → Int32} {B : Nat → Nat → Int64} {o : Int64} {pr : Value} (hd : 2 ≤ d) {C : Nat} (hC : s 12 = nI C) (hCb : C ≤ 100) {Y : Nat → Nat → Int32} {V L : Nat → Int32} {QX : sw_QX} : ∀ (c k : Nat), k ≤ C → C < k + c → SW l D cy mX1_keepTo d 0 0 0 0 2 [(0, .ref 43), (1, .ref 4), (2, .int (nI (k)))] [] n (gd f s (laA A Y V L) B o pr) (sw_D (some (.int (bz (allF (kek s o (A 29) (A 32) (A 4) Y) k (C - k))))) n (gd f s (laA A Y V L) B o pr)) QX := by
  intro c
  induction c with
  | zero => intro k h1 h2; exact absurd h2 (by omega)
  | succ c ih =>
    intro k hk hc
    refine sw_iload_n dX1_keepTo_2 rfl ?_
    refine sw_aload_n dX1_keepTo_3 rfl (by first | rfl | assumption) ?_
    refine sw_get dX1_keepTo_4 fr_X1_24 rfl rfl ?_
    refine sw_Vv dX1_keepTo_7 k_X1_40 mf_X0_size (c_X0_size (d := d - 1) (A := laA A Y V L)) rfl ⟨_, rfl, rfl⟩ (by omega) (by omega) (by omega) rfl rfl (Nat.le_of_ble_eq_true rfl) ?_
    refine sw_top (y := nI C) hC ?_
    refine sw_icmp_ge 95 dX1_keepTo_10 (by decide) (fun h10 => ?_) (fun h10 => ?_)
    · refine sw_iconst (x := 1) dX1_keepTo_95 (by decide) ?_
      exact sw_iret dX1_keepTo_96 rfl (by first | rfl | exact bz_n _) (by omega) (by omega) ⟨by rw [allF_end ((nI_leI (by omega) (by omega)).mp h10)]; rfl, rfl, rfl⟩
    · have e1 : k < C := (nI_ltI (by omega) (by omega)).mp (i32_nle.mp h10)
      refine sw_aload_n dX1_keepTo_13 rfl (by first | rfl | assumption) ?_
      refine sw_get dX1_keepTo_14 fr_X1_28 rfl rfl ?_
      refine sw_iload_n dX1_keepTo_17 rfl ?_
      refine sw_Vv dX1_keepTo_18 k_X1_51 mf_X10_heightAt (c_X10_heightAt (d := d - 1) (A := laA A Y V L) (by omega) hC hCb (nI k)) rfl ⟨_, rfl, rfl⟩ (by omega) (by omega) (by omega) rfl rfl (Nat.le_of_ble_eq_true rfl) ?_
      refine sw_top (y := A 32 k) (cat_n hC hCb e1) ?_
      refine sw_iconst (x := (-1)) dX1_keepTo_21 (by decide) ?_
      refine sw_icmp_eq 42 dX1_keepTo_22 (by decide) (fun h22 => ?_) (fun h22 => ?_)
      · refine sw_iconst (x := 0) dX1_keepTo_42 (by decide) ?_
        refine sw_istore_n [(0, _), (1, _), (2, _), (3, _)] dX1_keepTo_43 (by decide) rfl ?_
        refine sw_iconst (x := 0) dX1_keepTo_44 (by decide) ?_
        refine sw_istore [(0, _), (1, _), (2, _), (3, _), (4, _)] dX1_keepTo_45 (by decide) rfl ?_
        rw [allF_step e1, show (kek s o (A 29) (A 32) (A 4) Y) k = true from by unfold kek; rw [decide_eq_true h22, Bool.true_or, Bool.true_or], Bool.true_and]
        refine sw_iload dX1_keepTo_47 rfl ?_
        refine sw_bipush (x := 8) dX1_keepTo_49 (by decide) ?_
        refine sw_icmp_ge 89 dX1_keepTo_51 (by decide) (fun h51 => ?_) (fun h51 => ?_)
        · first | refine sw_inc1 [(0, _), (1, _), (2, _), (3, _), (4, _)] dX1_keepTo_89 rfl (by decide) rfl ?_ | refine sw_iinc [(0, _), (1, _), (2, _), (3, _), (4, _)] dX1_keepTo_89 rfl (by decide) rfl ?_
          refine sw_goto 2 dX1_keepTo_92 (by decide) ?_
          refine sw_keep [0, 1, 2] rfl ?_
          exact ih (k + 1) (by omega) (by omega)
        · refine sw_iload_n dX1_keepTo_54 rfl ?_
          refine sw_if_eq 89 dX1_keepTo_55 (by decide) (fun h55 => ?_) (fun h55 => ?_)
          · first | refine sw_inc1 [(0, _), (1, _), (2, _), (3, _), (4, _)] dX1_keepTo_89 rfl (by decide) rfl ?_ | refine sw_iinc [(0, _), (1, _), (2, _), (3, _), (4, _)] dX1_keepTo_89 rfl (by decide) rfl ?_
            refine sw_goto 2 dX1_keepTo_92 (by decide) ?_
            refine sw_keep [0, 1, 2] rfl ?_
            exact ih (k + 1) (by omega) (by omega)
          · exact absurd rfl h55
      · refine sw_aload_n dX1_keepTo_25 rfl (by first | rfl | assumption) ?_
        refine sw_get dX1_keepTo_26 fr_X1_24 rfl rfl ?_
        refine sw_iload_n dX1_keepTo_29 rfl ?_
        refine sw_Vv dX1_keepTo_30 k_X1_66 mf_X0_kindAt (c_X0_kindAt (d := d - 1) (A := laA A Y V L) (by omega) hC hCb (nI k)) rfl ⟨_, rfl, rfl⟩ (by omega) (by omega) (by omega) rfl rfl (Nat.le_of_ble_eq_true rfl) ?_
        refine sw_top (y := A 29 k) (cat_n hC hCb e1) ?_
        refine sw_bipush (x := 9) dX1_keepTo_33 (by decide) ?_
        refine sw_icmp_ne 42 dX1_keepTo_35 (by decide) (fun h35 => ?_) (fun h35 => ?_)
        · refine sw_iconst (x := 0) dX1_keepTo_42 (by decide) ?_
          refine sw_istore_n [(0, _), (1, _), (2, _), (3, _)] dX1_keepTo_43 (by decide) rfl ?_
          refine sw_iconst (x := 0) dX1_keepTo_44 (by decide) ?_
          refine sw_istore [(0, _), (1, _), (2, _), (3, _), (4, _)] dX1_keepTo_45 (by decide) rfl ?_
          rw [allF_step e1, show (kek s o (A 29) (A 32) (A 4) Y) k = true from by unfold kek; rw [decide_eq_false h35, Bool.not_false, Bool.or_true, Bool.true_or], Bool.true_and]
          refine sw_iload dX1_keepTo_47 rfl ?_
          refine sw_bipush (x := 8) dX1_keepTo_49 (by decide) ?_
          refine sw_icmp_ge 89 dX1_keepTo_51 (by decide) (fun h51 => ?_) (fun h51 => ?_)
          · first | refine sw_inc1 [(0, _), (1, _), (2, _), (3, _), (4, _)] dX1_keepTo_89 rfl (by decide) rfl ?_ | refine sw_iinc [(0, _), (1, _), (2, _), (3, _), (4, _)] dX1_keepTo_89 rfl (by decide) rfl ?_
            refine sw_goto 2 dX1_keepTo_92 (by decide) ?_
            refine sw_keep [0, 1, 2] rfl ?_
            exact ih (k + 1) (by omega) (by omega)
          · refine sw_iload_n dX1_keepTo_54 rfl ?_
            refine sw_if_eq 89 dX1_keepTo_55 (by decide) (fun h55 => ?_) (fun h55 => ?_)
            · first | refine sw_inc1 [(0, _), (1, _), (2, _), (3, _), (4, _)] dX1_keepTo_89 rfl (by decide) rfl ?_ | refine sw_iinc [(0, _), (1, _), (2, _), (3, _), (4, _)] dX1_keepTo_89 rfl (by decide) rfl ?_
              refine sw_goto 2 dX1_keepTo_92 (by decide) ?_
              refine sw_keep [0, 1, 2] rfl ?_
              exact ih (k + 1) (by omega) (by omega)
            · exact absurd rfl h55
        · refine sw_iconst (x := 1) dX1_keepTo_38 (by decide) ?_
          refine sw_goto 43 dX1_keepTo_39 (by decide) ?_
          refine sw_istore_n [(0, _), (1, _), (2, _), (3, _)] dX1_keepTo_43 (by decide) rfl ?_
          refine sw_iconst (x := 0) dX1_keepTo_44 (by decide) ?_
          refine sw_istore [(0, _), (1, _), (2, _), (3, _), (4, _)] dX1_keepTo_45 (by decide) rfl ?_
          have ek : (kek s o (A 29) (A 32) (A 4) Y) k = allF (kev s o (Y k) (A 4)) 0 8 := by unfold kek; rw [decide_eq_false h22, decide_eq_true h35]; rfl
          refine l_X1_k2 hd (show k < 100 by omega) (fun hA => ?_) (fun hA => ?_) 9 0 (by omega) (by omega) rfl
          · rw [allF_step e1, ek, hA, Bool.true_and]
            refine sw_inc1 [(0, _), (1, _), (2, _)] dX1_keepTo_89 rfl (by decide) rfl ?_
            refine sw_goto 2 dX1_keepTo_92 (by decide) ?_
            exact ih (k + 1) (by omega) (by omega)
          · rw [allF_step e1, ek, hA, Bool.false_and]
            exact ⟨rfl, rfl, rfl⟩
set_option maxRecDepth 100000 in
theorem c_X1_keepTo {l : Launch} {D : va_G} {cy : Nat → ClassId} {d n : Nat} {f : sw_F} {s : Nat → Int32} {A : Nat → Nat → Int32} {B : Nat → Nat → Int64} {o : Int64} {pr : Value} (hd : 2 ≤ d) {C : Nat} (hC : s 12 = nI C) (hCb : C ≤ 100) {Y : Nat → Nat → Int32} {V L : Nat → Int32} : sw_Ct l D cy mX1_keepTo d 0 0 [.ref 43, .ref 4] n (gd f s (laA A Y V L) B o pr) (sw_D (some (.int (bz (allF (kek s o (A 29) (A 32) (A 4) Y) 0 C)))) n (gd f s (laA A Y V L) B o pr)) := by
  refine sw_of rfl (Nat.le_of_ble_eq_true rfl) ?_
  show SW l D cy mX1_keepTo d 0 0 0 0 0 [(0, .ref 43), (1, .ref 4)] [] n (gd f s (laA A Y V L) B o pr) _ _
  refine sw_iconst (x := 0) dX1_keepTo_0 (by decide) ?_
  refine sw_istore_n [(0, _), (1, _), (2, _)] dX1_keepTo_1 (by decide) rfl ?_
  exact l_X1_k1 hd hC hCb (C + 1) 0 (by omega) (by omega)
def lat (s : Nat → Int32) (W : Nat → Int32) (Y : Nat → Nat → Int32) (a w : Int32) : Int32 := if ¬ cat s W a = -1 ∧ 0 ≤ w ∧ w < 9 + cat s W a ∧ w < 17 then Y a.toNatClampNeg w.toNatClampNeg else -1
set_option maxRecDepth 100000 in
theorem c_X1_labelAt {l : Launch} {D : va_G} {cy : Nat → ClassId} {d n : Nat} {f : sw_F} {s : Nat → Int32} {A : Nat → Nat → Int32} {B : Nat → Nat → Int64} {o : Int64} {pr : Value} (hd : 2 ≤ d) {C : Nat} (hC : s 12 = nI C) (hCb : C ≤ 100) {Y : Nat → Nat → Int32} {V L : Nat → Int32} (a w : Int32) : sw_Ct l D cy mX1_labelAt d 0 0 [.ref 43, .int a, .int w] n (gd f s (laA A Y V L) B o pr) (sw_D (some (.int (lat s (A 32) Y a w))) n (gd f s (laA A Y V L) B o pr)) := by
  refine sw_of rfl (Nat.le_of_ble_eq_true rfl) ?_
  show SW l D cy mX1_labelAt d 0 0 0 0 0 [(0, .ref 43), (1, .int a), (2, .int w)] [] n (gd f s (laA A Y V L) B o pr) _ _
  refine sw_aload_n dX1_labelAt_0 rfl (by first | rfl | assumption) ?_
  refine sw_get dX1_labelAt_1 fr_X1_28 rfl rfl ?_
  refine sw_iload_n dX1_labelAt_4 rfl ?_
  refine sw_Vv dX1_labelAt_5 k_X1_51 mf_X10_heightAt (c_X10_heightAt (d := d - 1) (A := laA A Y V L) (by omega) hC hCb a) rfl ⟨_, rfl, rfl⟩ (by omega) (by omega) (by omega) rfl rfl (Nat.le_of_ble_eq_true rfl) ?_
  refine sw_top (y := cat s (A 32) a) rfl ?_
  refine sw_istore_n [(0, _), (1, _), (2, _), (3, _)] dX1_labelAt_8 (by decide) rfl ?_
  refine sw_iload_n dX1_labelAt_9 rfl ?_
  refine sw_iconst (x := (-1)) dX1_labelAt_10 (by decide) ?_
  refine sw_icmp_eq 32 dX1_labelAt_11 (by decide) (fun h11 => ?_) (fun h11 => ?_)
  · refine sw_iconst (x := (-1)) dX1_labelAt_32 (by decide) ?_
    exact sw_iret dX1_labelAt_33 rfl (by first | rfl | exact bz_n _) (by omega) (by omega) ⟨by rw [lat, if_neg (fun z => z.1 h11)], rfl, rfl⟩
  · refine sw_iload_n dX1_labelAt_14 rfl ?_
    refine sw_if_lt 32 dX1_labelAt_15 (by decide) (fun h15 => ?_) (fun h15 => ?_)
    · refine sw_iconst (x := (-1)) dX1_labelAt_32 (by decide) ?_
      exact sw_iret dX1_labelAt_33 rfl (by first | rfl | exact bz_n _) (by omega) (by omega) ⟨by rw [lat, if_neg (fun z => absurd h15 (Int32.not_lt.mpr z.2.1))], rfl, rfl⟩
    · refine sw_iload_n dX1_labelAt_18 rfl ?_
      refine sw_bipush (x := 9) dX1_labelAt_19 (by decide) ?_
      refine sw_iload_n dX1_labelAt_21 rfl ?_
      refine sw_iadd dX1_labelAt_22 ?_
      refine sw_icmp_ge 32 dX1_labelAt_23 (by decide) (fun h23 => ?_) (fun h23 => ?_)
      · refine sw_iconst (x := (-1)) dX1_labelAt_32 (by decide) ?_
        exact sw_iret dX1_labelAt_33 rfl (by first | rfl | exact bz_n _) (by omega) (by omega) ⟨by rw [lat, if_neg (fun z => absurd z.2.2.1 (Int32.not_lt.mpr h23))], rfl, rfl⟩
      · refine sw_iload_n dX1_labelAt_26 rfl ?_
        refine sw_bipush (x := 17) dX1_labelAt_27 (by decide) ?_
        refine sw_icmp_lt 34 dX1_labelAt_29 (by decide) (fun h29 => ?_) (fun h29 => ?_)
        · obtain ⟨k, hk, rfl⟩ : ∃ k, k < C ∧ a = nI k := by by_cases z : chs s a = true; exact chs_i hC hCb z; exact absurd (show cat s (A 32) a = -1 by rw [cat, if_neg z]) h11
          obtain ⟨j, hj, rfl⟩ : ∃ j, j ≤ 17 ∧ w = nI j := nI_of2 (M := 17) (n := 17) (by decide) h15 (Int32.le_of_lt h29)
          have hj17 : j < 17 := by rw [nl_17, nI_ltI (by omega) (by omega)] at h29; exact h29
          refine sw_aload_n dX1_labelAt_34 rfl (by first | rfl | assumption) ?_
          refine sw_get dX1_labelAt_35 fr_X1_13 rfl rfl ?_
          refine sw_iload_n dX1_labelAt_38 rfl ?_
          refine sw_aald dX1_labelAt_39 rfl (vp_in_nI (show k < 100 by omega) (by decide)) (g_row (show k < 100 by omega)) ?_
          refine sw_iload_n dX1_labelAt_40 rfl ?_
          refine sw_ialdN (j) dX1_labelAt_41 (g_lab f s A Y V L B o pr (show k < 100 by omega)) rfl (show j < 17 by omega) (by decide) ?_
          exact sw_iret dX1_labelAt_42 rfl (by first | rfl | exact bz_n _) (by omega) (by omega) ⟨by rw [lat, if_pos ⟨h11, Int32.not_lt.mp h15, Int32.not_le.mp h23, h29⟩, nI_clamp (by omega), nI_clamp (by omega)], rfl, rfl⟩
        · refine sw_iconst (x := (-1)) dX1_labelAt_32 (by decide) ?_
          exact sw_iret dX1_labelAt_33 rfl (by first | rfl | exact bz_n _) (by omega) (by omega) ⟨by rw [lat, if_neg (fun z => h29 z.2.2.2)], rfl, rfl⟩
