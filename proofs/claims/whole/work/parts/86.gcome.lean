set_option maxRecDepth 100000 in
theorem l_X1_ct {l : Launch} {D : va_G} {cy : Nat → ClassId} {d n : Nat} {f : sw_F} {s : Nat → Int32} {A : Nat → Nat → Int32} {B : Nat → Nat → Int64} {o : Int64} {pr : Value} (hd : 3 ≤ d) {N : Nat} (hs : s 4 = nI N) (hN : N ≤ 6) (hJ : SL N (J2 A)) {C : Nat} (hC : s 12 = nI C) (hCb : C ≤ 100) {en : Nat → Int32} {Y0 : Nat → Nat → Int32} {V0 L : Nat → Int32} (hY0 : YL N C Y0) {t h : Nat} (ht : t < C) (h8 : h ≤ 8) (hh : A 32 t = nI h) (hL : ∀ b, b < 17 → lv N (L b)) (hz : ∀ Z, LSo N (J2 A) (A 29) (A 30) (A 32) en C Z → ∀ b, b < 9 + h → ¬ b = 8 → jle (J2 A) (L b) (Z t b)) {QX : sw_QX} : ∀ (c a : Nat) (Y : Nat → Nat → Int32) (V : Nat → Int32), a ≤ 9 + h → 9 + h < a + c → RR N (J2 A) C (A 32) Y0 V0 Y V → LU N (J2 A) (A 29) (A 30) (A 32) en C Y → (∀ b, b < a → ¬ b = 8 → jle (J2 A) (L b) (Y t b)) → SW l D cy mX1_comeTo d 0 0 0 0 26 [(0, .ref 43), (1, .int (nI t)), (2, .int (nI (9 + h))), (3, .int (nI (a)))] [] n (gd f s (laA A Y V L) B o pr) (fun r' n' f' => r' = none ∧ n' = n ∧ ∃ Y' V', f' = (gd f s (laA A Y' V' L) B o pr) ∧ RR N (J2 A) C (A 32) Y0 V0 Y' V' ∧ LU N (J2 A) (A 29) (A 30) (A 32) en C Y' ∧ ∀ b, b < 9 + h → ¬ b = 8 → jle (J2 A) (L b) (Y' t b)) QX := by
  intro c
  induction c with
  | zero => intro a Y V h1 h2; exact absurd h2 (by omega)
  | succ c ih =>
    intro a Y V ha hc hR hU hD
    refine sw_iload_n dX1_comeTo_26 rfl ?_
    refine sw_iload_n dX1_comeTo_27 rfl ?_
    refine sw_icmp_ge 61 dX1_comeTo_28 (by decide) (fun h28 => ?_) (fun h28 => ?_)
    · exact sw_vret dX1_comeTo_61 rfl (by omega) (by omega) ⟨rfl, rfl, Y, V, rfl, hR, hU, fun b hb => hD b (by have := (nI_leI (by omega) (by omega)).mp h28; omega)⟩
    · have e1 : a < 9 + h := (nI_ltI (by omega) (by omega)).mp (i32_nle.mp h28)
      refine sw_iload_n dX1_comeTo_31 rfl ?_
      refine sw_bipush (x := 17) dX1_comeTo_32 (by decide) ?_
      refine sw_top (show (17 : Int32) = nI 17 from nl_17) ?_
      refine sw_icmp_ge 61 dX1_comeTo_34 (by decide) (fun h34 => ?_) (fun h34 => ?_)
      · exact absurd h34 (by rw [nI_leI (by omega) (by omega)]; omega)
      · refine sw_iload_n dX1_comeTo_37 rfl ?_
        refine sw_bipush (x := 8) dX1_comeTo_38 (by decide) ?_
        refine sw_icmp_eq 55 dX1_comeTo_40 (by decide) (fun h40 => ?_) (fun h40 => ?_)
        · first | refine sw_inc1 [(0, _), (1, _), (2, _), (3, _)] dX1_comeTo_55 rfl (by decide) rfl ?_ | refine sw_iinc [(0, _), (1, _), (2, _), (3, _)] dX1_comeTo_55 rfl (by decide) rfl ?_
          refine sw_goto 26 dX1_comeTo_58 (by decide) ?_
          refine ih (a + 1) _ _ (by omega) (by omega) hR hU (fun b hb hb8 => ?_)
          by_cases u : b = a
          · subst u; exact absurd (nI_inj (by omega) (by omega) (show nI b = nI 8 from h40)) hb8
          · exact hD b (by omega) hb8
        · have r1 := RR_1 (V := V) (W := A 32) hJ hN hR.1 ht (show a < 17 by omega) (hL a (by omega)) (m1_not h8 hh).2
          have u1 := LU_1 hJ hR.1 hU ht (show a < 17 by omega) (hL a (by omega)) (fun Z hZ _ _ => hz Z hZ a e1 (fun z => h40 (by rw [z]; rfl)))
          refine sw_aload_n dX1_comeTo_43 rfl (by first | rfl | assumption) ?_
          refine sw_iload_n dX1_comeTo_44 rfl ?_
          refine sw_iload_n dX1_comeTo_45 rfl ?_
          refine sw_aload_n dX1_comeTo_46 rfl (by first | rfl | assumption) ?_
          refine sw_get dX1_comeTo_47 fr_X1_20 rfl rfl ?_
          refine sw_iload_n dX1_comeTo_50 rfl ?_
          refine sw_ialdN (a) dX1_comeTo_51 rfl rfl (show a < 17 by omega) (by decide) ?_
          refine sw_top (y := L a) rfl ?_
          refine sw_Vn dX1_comeTo_52 k_X1_57 mf_X1_raise (c_X1_raise (d := d - 1) (by omega) hs hN hJ hCb hR.1 ht (show a < 17 by omega) (hL a (by omega))) rfl ⟨_, rfl, rfl⟩ (by omega) (by omega) (by omega) rfl rfl (Nat.le_of_ble_eq_true rfl) ?_
          first | refine sw_inc1 [(0, _), (1, _), (2, _), (3, _)] dX1_comeTo_55 rfl (by decide) rfl ?_ | refine sw_iinc [(0, _), (1, _), (2, _), (3, _)] dX1_comeTo_55 rfl (by decide) rfl ?_
          refine sw_goto 26 dX1_comeTo_58 (by decide) ?_
          refine ih (a + 1) _ _ (by omega) (by omega) (RR_tr hJ hY0 hR r1.1) u1 (fun b hb hb8 => ?_)
          by_cases u : b = a
          · subst u; exact r1.2
          · exact jle_tr hJ (hL b (by omega)) (hR.1 t b ht (by omega)) (r1.1.1 t b ht (by omega)) (hD b (by omega) hb8) (r1.1.2.1 t b ht (by omega))
set_option maxRecDepth 100000 in
theorem c_X1_comeTo {l : Launch} {D : va_G} {cy : Nat → ClassId} {d n : Nat} {f : sw_F} {s : Nat → Int32} {A : Nat → Nat → Int32} {B : Nat → Nat → Int64} {o : Int64} {pr : Value} (hd : 3 ≤ d) {N : Nat} (hs : s 4 = nI N) (hN : N ≤ 6) (hJ : SL N (J2 A)) {C : Nat} (hC : s 12 = nI C) (hCb : C ≤ 100) {en : Nat → Int32} {Y0 : Nat → Nat → Int32} {V0 L : Nat → Int32} (hY0 : YL N C Y0) {t h : Nat} (ht : t < C) (h8 : h ≤ 8) (hh : A 32 t = nI h) (hL : ∀ b, b < 17 → lv N (L b)) (hz : ∀ Z, LSo N (J2 A) (A 29) (A 30) (A 32) en C Z → ∀ b, b < 9 + h → ¬ b = 8 → jle (J2 A) (L b) (Z t b)) (hU : LU N (J2 A) (A 29) (A 30) (A 32) en C Y0) : sw_Ct l D cy mX1_comeTo d 0 0 [.ref 43, .int (nI t)] n (gd f s (laA A Y0 V0 L) B o pr) (fun r' n' f' => r' = none ∧ n' = n ∧ ∃ Y' V', f' = (gd f s (laA A Y' V' L) B o pr) ∧ RR N (J2 A) C (A 32) Y0 V0 Y' V' ∧ LU N (J2 A) (A 29) (A 30) (A 32) en C Y' ∧ ∀ b, b < 9 + h → ¬ b = 8 → jle (J2 A) (L b) (Y' t b)) := by
  refine sw_of rfl (Nat.le_of_ble_eq_true rfl) ?_
  show SW l D cy mX1_comeTo d 0 0 0 0 0 [(0, .ref 43), (1, .int (nI t))] [] n (gd f s (laA A Y0 V0 L) B o pr) _ _
  refine sw_aload_n dX1_comeTo_0 rfl (by first | rfl | assumption) ?_
  refine sw_get dX1_comeTo_1 fr_X1_24 rfl rfl ?_
  refine sw_iload_n dX1_comeTo_4 rfl ?_
  refine sw_Vv dX1_comeTo_5 k_X1_110 mf_X0_has (by have z := c_X0_has (l := l) (D := D) (cy := cy) (d := d - 1) (n := n) (f := f) (s := s) (A := laA A Y0 V0 L) (B := B) (o := o) (pr := pr) (nI t); rw [show chs s (nI t) = true from chs_n hC hCb ht] at z; exact z) rfl ⟨_, rfl, rfl⟩ (by omega) (by omega) (by omega) rfl rfl (Nat.le_of_ble_eq_true rfl) ?_
  refine sw_if_ne 12 dX1_comeTo_8 (by decide) (fun g8 => ?_) (fun g8 => ?_)
  · refine sw_bipush (x := 9) dX1_comeTo_12 (by decide) ?_
    refine sw_aload_n dX1_comeTo_14 rfl (by first | rfl | assumption) ?_
    refine sw_get dX1_comeTo_15 fr_X1_28 rfl rfl ?_
    refine sw_iload_n dX1_comeTo_18 rfl ?_
    refine sw_Vv dX1_comeTo_19 k_X1_51 mf_X10_heightAt (c_X10_heightAt (d := d - 1) (A := laA A Y0 V0 L) (by omega) hC hCb (nI t)) rfl ⟨_, rfl, rfl⟩ (by omega) (by omega) (by omega) rfl rfl (Nat.le_of_ble_eq_true rfl) ?_
    refine sw_top (y := nI h) ((cat_n hC hCb ht).trans hh) ?_
    refine sw_iadd dX1_comeTo_22 ?_
    refine sw_top (y := nI (9 + h)) (by rw [nl_9, nI_add]) ?_
    refine sw_istore_n [(0, _), (1, _), (2, _)] dX1_comeTo_23 (by decide) rfl ?_
    refine sw_iconst (x := 0) dX1_comeTo_24 (by decide) ?_
    refine sw_istore_n [(0, _), (1, _), (2, _), (3, _)] dX1_comeTo_25 (by decide) rfl ?_
    exact l_X1_ct hd hs hN hJ hC hCb hY0 ht h8 hh hL hz (9 + h + 1) 0 Y0 V0 (by omega) (by omega) (RR_rfl hJ hY0) hU (fun b hb => absurd hb (by omega))
  · exact absurd g8 (by decide)
set_option maxRecDepth 100000 in
theorem c_X1_comeTo0 {l : Launch} {D : va_G} {cy : Nat → ClassId} {d n : Nat} {f : sw_F} {s : Nat → Int32} {A : Nat → Nat → Int32} {B : Nat → Nat → Int64} {o : Int64} {pr : Value} (hd : 1 ≤ d) : sw_Ct l D cy mX1_comeTo d 0 0 [.ref 43, .int (-1)] n (gd f s A B o pr) (sw_D none n (gd f s A B o pr)) := by
  refine sw_of rfl (Nat.le_of_ble_eq_true rfl) ?_
  show SW l D cy mX1_comeTo d 0 0 0 0 0 [(0, .ref 43), (1, .int (-1))] [] n (gd f s A B o pr) _ _
  refine sw_aload_n dX1_comeTo_0 rfl (by first | rfl | assumption) ?_
  refine sw_get dX1_comeTo_1 fr_X1_24 rfl rfl ?_
  refine sw_iload_n dX1_comeTo_4 rfl ?_
  refine sw_Vv dX1_comeTo_5 k_X1_110 mf_X0_has (by have z := c_X0_has (l := l) (D := D) (cy := cy) (d := d - 1) (n := n) (f := f) (s := s) (A := A) (B := B) (o := o) (pr := pr) (-1); rw [chs_m1] at z; exact z) rfl ⟨_, rfl, rfl⟩ (by omega) (by omega) (by omega) rfl rfl (Nat.le_of_ble_eq_true rfl) ?_
  refine sw_if_ne 12 dX1_comeTo_8 (by decide) (fun h8 => ?_) (fun h8 => ?_)
  · exact absurd rfl h8
  · exact sw_vret dX1_comeTo_11 rfl (by omega) (by omega) ⟨rfl, rfl, rfl⟩
set_option maxRecDepth 100000 in
theorem l_X1_rr {l : Launch} {D : va_G} {cy : Nat → ClassId} {d n : Nat} {f : sw_F} {s : Nat → Int32} {A : Nat → Nat → Int32} {B : Nat → Nat → Int64} {o : Int64} {pr : Value} (hd : 3 ≤ d) {N : Nat} (hs : s 4 = nI N) (hN : N ≤ 6) (hJ : SL N (J2 A)) {C : Nat} (hC : s 12 = nI C) (hCb : C ≤ 100) {en : Nat → Int32} {Y0 : Nat → Nat → Int32} {V0 L : Nat → Int32} (hY0 : YL N C Y0) {k : Nat} (hk : k < C) (hmw : ∀ m, m < C → msk B 39 k m = true → 0 ≤ A 32 m) {x : Int32} (hx : lv N x) (hz : ∀ Z, LSo N (J2 A) (A 29) (A 30) (A 32) en C Z → ∀ m, m < C → msk B 39 k m = true → jle (J2 A) x (Z m 8)) {z : Int32} {QX : sw_QX} : ∀ (c m : Nat) (Y : Nat → Nat → Int32) (V : Nat → Int32), m ≤ C → C < m + c → RR N (J2 A) C (A 32) Y0 V0 Y V → LU N (J2 A) (A 29) (A 30) (A 32) en C Y → (∀ b, b < m → msk B 39 k b = true → jle (J2 A) x (Y b 8)) → SW l D cy mX1_raiseRegion d 0 0 0 0 39 [(0, .ref 43), (1, .int (nI k)), (2, .int z), (3, .int x), (4, .int (nI (m)))] [] n (gd f s (laA A Y V L) B o pr) (fun r' n' f' => r' = none ∧ n' = n ∧ ∃ Y' V', f' = (gd f s (laA A Y' V' L) B o pr) ∧ RR N (J2 A) C (A 32) Y0 V0 Y' V' ∧ LU N (J2 A) (A 29) (A 30) (A 32) en C Y' ∧ ∀ m, m < C → msk B 39 k m = true → jle (J2 A) x (Y' m 8)) QX := by
  intro c
  induction c with
  | zero => intro a Y V h1 h2; exact absurd h2 (by omega)
  | succ c ih =>
    intro m Y V hm hc hR hU hD
    refine sw_iload dX1_raiseRegion_39 rfl ?_
    refine sw_aload_n dX1_raiseRegion_41 rfl (by first | rfl | assumption) ?_
    refine sw_get dX1_raiseRegion_42 fr_X1_24 rfl rfl ?_
    refine sw_Vv dX1_raiseRegion_45 k_X1_40 mf_X0_size (c_X0_size (d := d - 1) (A := laA A Y V L)) rfl ⟨_, rfl, rfl⟩ (by omega) (by omega) (by omega) rfl rfl (Nat.le_of_ble_eq_true rfl) ?_
    refine sw_top (y := nI C) hC ?_
    refine sw_icmp_ge 79 dX1_raiseRegion_48 (by decide) (fun h48 => ?_) (fun h48 => ?_)
    · exact sw_vret dX1_raiseRegion_79 rfl (by omega) (by omega) ⟨rfl, rfl, Y, V, rfl, hR, hU, fun b hb => hD b (by have := (nI_leI (by omega) (by omega)).mp h48; omega)⟩
    · have e1 : m < C := (nI_ltI (by omega) (by omega)).mp (i32_nle.mp h48)
      refine sw_aload_n dX1_raiseRegion_51 rfl (by first | rfl | assumption) ?_
      refine sw_get dX1_raiseRegion_52 fr_X1_32 rfl rfl ?_
      refine sw_iload_n dX1_raiseRegion_55 rfl ?_
      refine sw_iload dX1_raiseRegion_56 rfl ?_
      refine sw_Vv dX1_raiseRegion_58 k_X1_105 mf_X9_has (c_X9_has (d := d - 1) (A := laA A Y V L) (by omega) (show k < 100 by omega) (show m < 100 by omega)) rfl ⟨_, rfl, rfl⟩ (by omega) (by omega) (by omega) rfl rfl (Nat.le_of_ble_eq_true rfl) ?_
      refine sw_if_eq 73 dX1_raiseRegion_61 (by decide) (fun h61 => ?_) (fun h61 => ?_)
      · first | refine sw_inc1 [(0, _), (1, _), (2, _), (3, _), (4, _)] dX1_raiseRegion_73 rfl (by decide) rfl ?_ | refine sw_iinc [(0, _), (1, _), (2, _), (3, _), (4, _)] dX1_raiseRegion_73 rfl (by decide) rfl ?_
        refine sw_goto 39 dX1_raiseRegion_76 (by decide) ?_
        refine ih (m + 1) _ _ (by omega) (by omega) hR hU (fun b hb q => ?_)
        by_cases u : b = m
        · subst u; rw [bz_0.mp h61] at q; exact absurd q (by decide)
        · exact hD b (by omega) q
      · have r1 := RR_1 (V := V) (W := A 32) hJ hN hR.1 e1 (show 8 < 17 by omega) hx (hmw m e1 (bz_ne.mp h61))
        have u1 := LU_1 hJ hR.1 hU e1 (show 8 < 17 by omega) hx (fun Z hZ _ _ => hz Z hZ m e1 (bz_ne.mp h61))
        refine sw_aload_n dX1_raiseRegion_64 rfl (by first | rfl | assumption) ?_
        refine sw_iload dX1_raiseRegion_65 rfl ?_
        refine sw_bipush (x := 8) dX1_raiseRegion_67 (by decide) ?_
        refine sw_iload_n dX1_raiseRegion_69 rfl ?_
        refine sw_Vn dX1_raiseRegion_70 k_X1_57 mf_X1_raise (c_X1_raise (d := d - 1) (a := 8) (by omega) hs hN hJ hCb hR.1 e1 (show 8 < 17 by omega) hx) rfl ⟨_, rfl, rfl⟩ (by omega) (by omega) (by omega) rfl rfl (Nat.le_of_ble_eq_true rfl) ?_
        first | refine sw_inc1 [(0, _), (1, _), (2, _), (3, _), (4, _)] dX1_raiseRegion_73 rfl (by decide) rfl ?_ | refine sw_iinc [(0, _), (1, _), (2, _), (3, _), (4, _)] dX1_raiseRegion_73 rfl (by decide) rfl ?_
        refine sw_goto 39 dX1_raiseRegion_76 (by decide) ?_
        refine ih (m + 1) _ _ (by omega) (by omega) (RR_tr hJ hY0 hR r1.1) u1 (fun b hb q => ?_)
        by_cases u : b = m
        · subst u; exact r1.2
        · exact jle_tr hJ hx (hR.1 b 8 (by omega) (by omega)) (r1.1.1 b 8 (by omega) (by omega)) (hD b (by omega) q) (r1.1.2.1 b 8 (by omega) (by omega))
set_option maxRecDepth 100000 in
theorem c_X1_raiseRegion {l : Launch} {D : va_G} {cy : Nat → ClassId} {d n : Nat} {f : sw_F} {s : Nat → Int32} {A : Nat → Nat → Int32} {B : Nat → Nat → Int64} {o : Int64} {pr : Value} (hd : 3 ≤ d) {N : Nat} (hs : s 4 = nI N) (hN : N ≤ 6) (hJ : SL N (J2 A)) {C : Nat} (hC : s 12 = nI C) (hCb : C ≤ 100) {en : Nat → Int32} {Y0 : Nat → Nat → Int32} {V0 L : Nat → Int32} (hY0 : YL N C Y0) {k : Nat} (hk : k < C) (hmw : ∀ m, m < C → msk B 39 k m = true → 0 ≤ A 32 m) {h : Nat} (h8 : h ≤ 8) (h1 : 1 ≤ h) (hh : A 32 k = nI h) (hz : ∀ Z, LSo N (J2 A) (A 29) (A 30) (A 32) en C Z → ∀ m, m < C → msk B 39 k m = true → jle (J2 A) (Y0 k (9 + h - 1)) (Z m 8)) (hU : LU N (J2 A) (A 29) (A 30) (A 32) en C Y0) : sw_Ct l D cy mX1_raiseRegion d 0 0 [.ref 43, .int (nI k)] n (gd f s (laA A Y0 V0 L) B o pr) (fun r' n' f' => r' = none ∧ n' = n ∧ ∃ Y' V', f' = (gd f s (laA A Y' V' L) B o pr) ∧ RR N (J2 A) C (A 32) Y0 V0 Y' V' ∧ LU N (J2 A) (A 29) (A 30) (A 32) en C Y' ∧ ∀ m, m < C → msk B 39 k m = true → jle (J2 A) (Y0 k (9 + h - 1)) (Y' m 8)) := by
  refine sw_of rfl (Nat.le_of_ble_eq_true rfl) ?_
  show SW l D cy mX1_raiseRegion d 0 0 0 0 0 [(0, .ref 43), (1, .int (nI k))] [] n (gd f s (laA A Y0 V0 L) B o pr) _ _
  refine sw_bipush (x := 9) dX1_raiseRegion_0 (by decide) ?_
  refine sw_aload_n dX1_raiseRegion_2 rfl (by first | rfl | assumption) ?_
  refine sw_get dX1_raiseRegion_3 fr_X1_28 rfl rfl ?_
  refine sw_iload_n dX1_raiseRegion_6 rfl ?_
  refine sw_Vv dX1_raiseRegion_7 k_X1_51 mf_X10_heightAt (c_X10_heightAt (d := d - 1) (A := laA A Y0 V0 L) (by omega) hC hCb (nI k)) rfl ⟨_, rfl, rfl⟩ (by omega) (by omega) (by omega) rfl rfl (Nat.le_of_ble_eq_true rfl) ?_
  refine sw_top (y := nI h) ((cat_n hC hCb hk).trans hh) ?_
  refine sw_iadd dX1_raiseRegion_10 ?_
  refine sw_top (y := nI (9 + h)) (by rw [nl_9, nI_add]) ?_
  refine sw_iconst (x := 1) dX1_raiseRegion_11 (by decide) ?_
  refine sw_isub dX1_raiseRegion_12 ?_
  refine sw_top (y := nI (9 + h - 1)) (sb_1 (by omega)) ?_
  refine sw_istore_n [(0, _), (1, _), (2, _)] dX1_raiseRegion_13 (by decide) rfl ?_
  refine sw_iload_n dX1_raiseRegion_14 rfl ?_
  refine sw_bipush (x := 9) dX1_raiseRegion_15 (by decide) ?_
  refine sw_icmp_lt 26 dX1_raiseRegion_17 (by decide) (fun h17 => ?_) (fun h17 => ?_)
  · exact absurd h17 (by rw [nl_9, nI_ltI (by omega) (by omega)]; omega)
  · refine sw_iload_n dX1_raiseRegion_20 rfl ?_
    refine sw_bipush (x := 17) dX1_raiseRegion_21 (by decide) ?_
    refine sw_icmp_lt 27 dX1_raiseRegion_23 (by decide) (fun h23 => ?_) (fun h23 => ?_)
    · refine sw_aload_n dX1_raiseRegion_27 rfl (by first | rfl | assumption) ?_
      refine sw_get dX1_raiseRegion_28 fr_X1_13 rfl rfl ?_
      refine sw_iload_n dX1_raiseRegion_31 rfl ?_
      refine sw_aald dX1_raiseRegion_32 rfl (vp_in_nI (show k < 100 by omega) (by decide)) (g_row (show k < 100 by omega)) ?_
      refine sw_iload_n dX1_raiseRegion_33 rfl ?_
      refine sw_ialdN (9 + h - 1) dX1_raiseRegion_34 (g_lab f s A Y0 V0 L B o pr (show k < 100 by omega)) rfl (show 9 + h - 1 < 17 by omega) (by decide) ?_
      refine sw_istore_n [(0, _), (1, _), (2, _), (3, _)] dX1_raiseRegion_35 (by decide) rfl ?_
      refine sw_iconst (x := 0) dX1_raiseRegion_36 (by decide) ?_
      refine sw_istore [(0, _), (1, _), (2, _), (3, _), (4, _)] dX1_raiseRegion_37 (by decide) rfl ?_
      exact l_X1_rr hd hs hN hJ hC hCb hY0 hk hmw (hY0 k (9 + h - 1) hk (by omega)) hz (C + 1) 0 Y0 V0 (by omega) (by omega) (RR_rfl hJ hY0) hU (fun b hb => absurd hb (by omega))
    · exact absurd (show nI (9 + h - 1) < 17 by rw [nl_17, nI_ltI (by omega) (by omega)]; omega) h23
set_option maxRecDepth 100000 in
theorem c_X1_change {l : Launch} {D : va_G} {cy : Nat → ClassId} {d n : Nat} {f : sw_F} {s : Nat → Int32} {A : Nat → Nat → Int32} {B : Nat → Nat → Int64} {o : Int64} {pr : Value} (hd : 2 ≤ d) {N : Nat} (hs : s 4 = nI N) (hN : N ≤ 6) (hJ : SL N (J2 A)) {Y : Nat → Nat → Int32} {V L : Nat → Int32} (hL : ∀ b, b < 17 → lv N (L b)) {k h : Nat} (h8 : h ≤ 8) (hk9 : 0 ≤ A 29 k ∧ A 29 k ≤ 9) (hv : A 29 k = 1 ∨ A 29 k = 2 → ∃ v, v < 8 ∧ A 30 k = nI v) (h0 : A 29 k = 0 ∨ A 29 k = 1 → h < 8) (h1 : A 29 k = 2 → 1 ≤ h) (h2 : (A 29 k = 3 ∨ A 29 k = 4 ∨ A 29 k = 5 ∨ A 29 k = 6) → 2 ≤ h) : sw_Ct l D cy mX1_change d 0 0 [.ref 43, .int (A 29 k), .int (A 30 k), .int (nI h)] n (gd f s (laA A Y V L) B o pr) (sw_D none n (gd f s (laA A Y V (lft (J2 A) (A 29) (A 30) h k L)) B o pr)) := by
  refine sw_of rfl (Nat.le_of_ble_eq_true rfl) ?_
  show SW l D cy mX1_change d 0 0 0 0 0 [(0, .ref 43), (1, .int (A 29 k)), (2, .int (A 30 k)), (3, .int (nI h))] [] n (gd f s (laA A Y V L) B o pr) _ _
  obtain ⟨q, hqb, hq⟩ := nI_of2 (M := 9) (n := 9) (by decide) (Int32.not_lt.mpr hk9.1) hk9.2
  obtain rfl | rfl | rfl | rfl | rfl | rfl | rfl | rfl | rfl | rfl : q = 0 ∨ q = 1 ∨ q = 2 ∨ q = 3 ∨ q = 4 ∨ q = 5 ∨ q = 6 ∨ q = 7 ∨ q = 8 ∨ q = 9 := by omega
  · have hk : A 29 k = 0 := hq
    rw [hk]
    have hh := h0 (Or.inl hk)
    refine sw_bipush (x := 9) dX1_change_0 (by decide) ?_
    refine sw_iload_n dX1_change_2 rfl ?_
    refine sw_iadd dX1_change_3 ?_
    refine sw_top (y := nI (9 + h)) (by rw [nl_9, nI_add]) ?_
    refine sw_istore [(0, _), (1, _), (2, _), (3, _), (4, _)] dX1_change_4 (by decide) rfl ?_
    refine sw_aload_n dX1_change_6 rfl (by first | rfl | assumption) ?_
    refine sw_get dX1_change_7 fr_X1_20 rfl rfl ?_
    refine sw_bipush (x := 8) dX1_change_10 (by decide) ?_
    refine sw_ialdN (8) dX1_change_12 rfl rfl (show 8 < 17 by omega) (by decide) ?_
    refine sw_top (y := L 8) rfl ?_
    refine sw_istore [(0, _), (1, _), (2, _), (3, _), (4, _), (5, _)] dX1_change_13 (by decide) rfl ?_
    refine sw_iload_n dX1_change_15 rfl ?_
    refine sw_if_ne 38 dX1_change_16 (by decide) (fun h16 => ?_) (fun h16 => ?_)
    · exact absurd rfl h16
    · refine sw_iload dX1_change_19 rfl ?_
      refine sw_bipush (x := 17) dX1_change_21 (by decide) ?_
      refine sw_icmp_ge 38 dX1_change_23 (by decide) (fun h23 => ?_) (fun h23 => ?_)
      · exact absurd h23 (by rw [nl_17, nI_leI (by omega) (by omega)]; omega)
      · refine sw_aload_n dX1_change_26 rfl (by first | rfl | assumption) ?_
        refine sw_get dX1_change_27 fr_X1_20 rfl rfl ?_
        refine sw_iload dX1_change_30 rfl ?_
        refine sw_iload dX1_change_32 rfl ?_
        refine g_iast (9 + h) dX1_change_34 ⟨by decide, rfl, rfl⟩ rfl (show 9 + h < 17 by omega) rfl ?_
        rw [la_l]
        refine sw_goto 185 dX1_change_35 (by decide) ?_
        exact sw_vret dX1_change_185 rfl (by omega) (by omega) ⟨rfl, rfl, by rw [lft, if_pos hk]; rfl⟩
  · have hk : A 29 k = 1 := hq
    rw [hk]
    obtain ⟨v, hv8, hve⟩ := hv (Or.inl hk)
    have iv : isV (nI v) = true := by rw [isV]; exact decide_eq_true ⟨Int32.not_lt.mp (i32_nlt0 (by omega)), by rw [nl_8, nI_ltI (by omega) (by omega)]; exact hv8⟩
    have hh := h0 (Or.inr hk)
    refine sw_bipush (x := 9) dX1_change_0 (by decide) ?_
    refine sw_iload_n dX1_change_2 rfl ?_
    refine sw_iadd dX1_change_3 ?_
    refine sw_top (y := nI (9 + h)) (by rw [nl_9, nI_add]) ?_
    refine sw_istore [(0, _), (1, _), (2, _), (3, _), (4, _)] dX1_change_4 (by decide) rfl ?_
    refine sw_aload_n dX1_change_6 rfl (by first | rfl | assumption) ?_
    refine sw_get dX1_change_7 fr_X1_20 rfl rfl ?_
    refine sw_bipush (x := 8) dX1_change_10 (by decide) ?_
    refine sw_ialdN (8) dX1_change_12 rfl rfl (show 8 < 17 by omega) (by decide) ?_
    refine sw_top (y := L 8) rfl ?_
    refine sw_istore [(0, _), (1, _), (2, _), (3, _), (4, _), (5, _)] dX1_change_13 (by decide) rfl ?_
    refine sw_iload_n dX1_change_15 rfl ?_
    refine sw_if_ne 38 dX1_change_16 (by decide) (fun h16 => ?_) (fun h16 => ?_)
    · refine sw_iload_n dX1_change_38 rfl ?_
      refine sw_iconst (x := 1) dX1_change_39 (by decide) ?_
      refine sw_icmp_ne 82 dX1_change_40 (by decide) (fun h40 => ?_) (fun h40 => ?_)
      · exact absurd rfl h40
      · refine sw_iload dX1_change_43 rfl ?_
        refine sw_bipush (x := 17) dX1_change_45 (by decide) ?_
        refine sw_icmp_ge 82 dX1_change_47 (by decide) (fun h47 => ?_) (fun h47 => ?_)
        · exact absurd h47 (by rw [nl_17, nI_leI (by omega) (by omega)]; omega)
        · refine sw_iload_n dX1_change_50 rfl ?_
          refine sw_top (y := nI v) hve ?_
          refine sw_SNv dX1_change_51 k_X1_95 mf_X11_isVariable (c_X11_isVariable (d := d - 1) _) (by omega) (by omega) (by omega) rfl rfl (Nat.le_of_ble_eq_true rfl) ?_
          refine sw_if_eq 82 dX1_change_54 (by decide) (fun h54 => ?_) (fun h54 => ?_)
          · exact absurd h54 (by rw [iv]; decide)
          · refine sw_aload_n dX1_change_57 rfl (by first | rfl | assumption) ?_
            refine sw_get dX1_change_58 fr_X1_20 rfl rfl ?_
            refine sw_iload dX1_change_61 rfl ?_
            refine sw_aload_n dX1_change_63 rfl (by first | rfl | assumption) ?_
            refine sw_get dX1_change_64 fr_X1_36 rfl rfl ?_
            refine sw_iload dX1_change_67 rfl ?_
            refine sw_aload_n dX1_change_69 rfl (by first | rfl | assumption) ?_
            refine sw_get dX1_change_70 fr_X1_20 rfl rfl ?_
            refine sw_iload_n dX1_change_73 rfl ?_
            refine sw_ialdN (v) dX1_change_74 rfl hve (show v < 17 by omega) (by decide) ?_
            refine sw_top (y := L v) rfl ?_
            refine sw_Vv dX1_change_75 k_X1_99 mf_X3_joined (c_X3_joined (d := d - 1) (A := laA A Y V L) (by omega) hs hN (L 8) (L v)) rfl ⟨_, rfl, rfl⟩ (by omega) (by omega) (by omega) rfl rfl (Nat.le_of_ble_eq_true rfl) ?_
            refine sw_top (y := J2 A (L 8) (L v)) ((ljn_J (A := laA A Y V L) hs hN (hL 8 (by omega)) (hL v (by omega))).trans rfl) ?_
            refine g_iast (9 + h) dX1_change_78 ⟨by decide, rfl, rfl⟩ rfl (show 9 + h < 17 by omega) rfl ?_
            rw [la_l]
            refine sw_goto 185 dX1_change_79 (by decide) ?_
            exact sw_vret dX1_change_185 rfl (by omega) (by omega) ⟨rfl, rfl, by rw [lft, if_neg (by rw [hk]; decide), if_pos hk, hve, nI_clamp (by omega)]; rfl⟩
    · exact absurd h16 (by decide)
  · have hk : A 29 k = 2 := hq
    rw [hk]
    obtain ⟨v, hv8, hve⟩ := hv (Or.inr hk)
    have iv : isV (nI v) = true := by rw [isV]; exact decide_eq_true ⟨Int32.not_lt.mp (i32_nlt0 (by omega)), by rw [nl_8, nI_ltI (by omega) (by omega)]; exact hv8⟩
    have hh := h1 hk
    refine sw_bipush (x := 9) dX1_change_0 (by decide) ?_
    refine sw_iload_n dX1_change_2 rfl ?_
    refine sw_iadd dX1_change_3 ?_
    refine sw_top (y := nI (9 + h)) (by rw [nl_9, nI_add]) ?_
    refine sw_istore [(0, _), (1, _), (2, _), (3, _), (4, _)] dX1_change_4 (by decide) rfl ?_
    refine sw_aload_n dX1_change_6 rfl (by first | rfl | assumption) ?_
    refine sw_get dX1_change_7 fr_X1_20 rfl rfl ?_
    refine sw_bipush (x := 8) dX1_change_10 (by decide) ?_
    refine sw_ialdN (8) dX1_change_12 rfl rfl (show 8 < 17 by omega) (by decide) ?_
    refine sw_top (y := L 8) rfl ?_
    refine sw_istore [(0, _), (1, _), (2, _), (3, _), (4, _), (5, _)] dX1_change_13 (by decide) rfl ?_
    refine sw_iload_n dX1_change_15 rfl ?_
    refine sw_if_ne 38 dX1_change_16 (by decide) (fun h16 => ?_) (fun h16 => ?_)
    · refine sw_iload_n dX1_change_38 rfl ?_
      refine sw_iconst (x := 1) dX1_change_39 (by decide) ?_
      refine sw_icmp_ne 82 dX1_change_40 (by decide) (fun h40 => ?_) (fun h40 => ?_)
      · refine sw_iload_n dX1_change_82 rfl ?_
        refine sw_iconst (x := 2) dX1_change_83 (by decide) ?_
        refine sw_icmp_ne 126 dX1_change_84 (by decide) (fun h84 => ?_) (fun h84 => ?_)
        · exact absurd rfl h84
        · refine sw_iload_n dX1_change_87 rfl ?_
          refine sw_iconst (x := 1) dX1_change_88 (by decide) ?_
          refine sw_icmp_lt 126 dX1_change_89 (by decide) (fun h89 => ?_) (fun h89 => ?_)
          · exact absurd h89 (by rw [nl_1, nI_ltI (by omega) (by omega)]; omega)
          · refine sw_iload_n dX1_change_92 rfl ?_
            refine sw_top (y := nI v) hve ?_
            refine sw_SNv dX1_change_93 k_X1_95 mf_X11_isVariable (c_X11_isVariable (d := d - 1) _) (by omega) (by omega) (by omega) rfl rfl (Nat.le_of_ble_eq_true rfl) ?_
            refine sw_if_eq 126 dX1_change_96 (by decide) (fun h96 => ?_) (fun h96 => ?_)
            · exact absurd h96 (by rw [iv]; decide)
            · refine sw_aload_n dX1_change_99 rfl (by first | rfl | assumption) ?_
              refine sw_get dX1_change_100 fr_X1_20 rfl rfl ?_
              refine sw_iload_n dX1_change_103 rfl ?_
              refine sw_aload_n dX1_change_104 rfl (by first | rfl | assumption) ?_
              refine sw_get dX1_change_105 fr_X1_36 rfl rfl ?_
              refine sw_iload dX1_change_108 rfl ?_
              refine sw_aload_n dX1_change_110 rfl (by first | rfl | assumption) ?_
              refine sw_get dX1_change_111 fr_X1_20 rfl rfl ?_
              refine sw_iload dX1_change_114 rfl ?_
              refine sw_iconst (x := 1) dX1_change_116 (by decide) ?_
              refine sw_isub dX1_change_117 ?_
              refine sw_top (y := nI (9 + h - 1)) (sb_1 (by omega)) ?_
              refine sw_ialdN (9 + h - 1) dX1_change_118 rfl rfl (show 9 + h - 1 < 17 by omega) (by decide) ?_
              refine sw_top (y := L (9 + h - 1)) rfl ?_
              refine sw_Vv dX1_change_119 k_X1_99 mf_X3_joined (c_X3_joined (d := d - 1) (A := laA A Y V L) (by omega) hs hN (L 8) (L (9 + h - 1))) rfl ⟨_, rfl, rfl⟩ (by omega) (by omega) (by omega) rfl rfl (Nat.le_of_ble_eq_true rfl) ?_
              refine sw_top (y := J2 A (L 8) (L (9 + h - 1))) ((ljn_J (A := laA A Y V L) hs hN (hL 8 (by omega)) (hL _ (by omega))).trans rfl) ?_
              refine g_iast (v) dX1_change_122 ⟨by decide, rfl, rfl⟩ hve (show v < 17 by omega) rfl ?_
              rw [la_l]
              refine sw_goto 185 dX1_change_123 (by decide) ?_
              exact sw_vret dX1_change_185 rfl (by omega) (by omega) ⟨rfl, rfl, by rw [lft, if_neg (by rw [hk]; decide), if_neg (by rw [hk]; decide), if_pos hk, hve, nI_clamp (by omega)]; rfl⟩
      · exact absurd h40 (by decide)
    · exact absurd h16 (by decide)
  · have hk : A 29 k = 3 := hq
    rw [hk]
    have hh := h2 (Or.inl hk)
    refine sw_bipush (x := 9) dX1_change_0 (by decide) ?_
    refine sw_iload_n dX1_change_2 rfl ?_
    refine sw_iadd dX1_change_3 ?_
    refine sw_top (y := nI (9 + h)) (by rw [nl_9, nI_add]) ?_
    refine sw_istore [(0, _), (1, _), (2, _), (3, _), (4, _)] dX1_change_4 (by decide) rfl ?_
    refine sw_aload_n dX1_change_6 rfl (by first | rfl | assumption) ?_
    refine sw_get dX1_change_7 fr_X1_20 rfl rfl ?_
    refine sw_bipush (x := 8) dX1_change_10 (by decide) ?_
    refine sw_ialdN (8) dX1_change_12 rfl rfl (show 8 < 17 by omega) (by decide) ?_
    refine sw_top (y := L 8) rfl ?_
    refine sw_istore [(0, _), (1, _), (2, _), (3, _), (4, _), (5, _)] dX1_change_13 (by decide) rfl ?_
    refine sw_iload_n dX1_change_15 rfl ?_
    refine sw_if_ne 38 dX1_change_16 (by decide) (fun h16 => ?_) (fun h16 => ?_)
    · refine sw_iload_n dX1_change_38 rfl ?_
      refine sw_iconst (x := 1) dX1_change_39 (by decide) ?_
      refine sw_icmp_ne 82 dX1_change_40 (by decide) (fun h40 => ?_) (fun h40 => ?_)
      · refine sw_iload_n dX1_change_82 rfl ?_
        refine sw_iconst (x := 2) dX1_change_83 (by decide) ?_
        refine sw_icmp_ne 126 dX1_change_84 (by decide) (fun h84 => ?_) (fun h84 => ?_)
        · refine sw_iload_n dX1_change_126 rfl ?_
          refine sw_SNv dX1_change_127 k_X1_102 mf_X11_isOperation (c_X11_isOperation (d := d - 1) _) (by omega) (by omega) (by omega) rfl rfl (Nat.le_of_ble_eq_true rfl) ?_
          refine sw_if_eq 185 dX1_change_130 (by decide) (fun h130 => ?_) (fun h130 => ?_)
          · exact absurd h130 (by decide)
          · refine sw_iload_n dX1_change_133 rfl ?_
            refine sw_iconst (x := 2) dX1_change_134 (by decide) ?_
            refine sw_icmp_lt 185 dX1_change_135 (by decide) (fun h135 => ?_) (fun h135 => ?_)
            · exact absurd h135 (by rw [nl_2, nI_ltI (by omega) (by omega)]; omega)
            · refine sw_aload_n dX1_change_138 rfl (by first | rfl | assumption) ?_
              refine sw_get dX1_change_139 fr_X1_36 rfl rfl ?_
              refine sw_aload_n dX1_change_142 rfl (by first | rfl | assumption) ?_
              refine sw_get dX1_change_143 fr_X1_20 rfl rfl ?_
              refine sw_iload dX1_change_146 rfl ?_
              refine sw_iconst (x := 2) dX1_change_148 (by decide) ?_
              refine sw_isub dX1_change_149 ?_
              refine sw_top (y := nI (9 + h - 2)) (by rw [nl_2]; exact nI_sub (by omega)) ?_
              refine sw_ialdN (9 + h - 2) dX1_change_150 rfl rfl (show 9 + h - 2 < 17 by omega) (by decide) ?_
              refine sw_top (y := L (9 + h - 2)) rfl ?_
              refine sw_aload_n dX1_change_151 rfl (by first | rfl | assumption) ?_
              refine sw_get dX1_change_152 fr_X1_20 rfl rfl ?_
              refine sw_iload dX1_change_155 rfl ?_
              refine sw_iconst (x := 1) dX1_change_157 (by decide) ?_
              refine sw_isub dX1_change_158 ?_
              refine sw_top (y := nI (9 + h - 1)) (sb_1 (by omega)) ?_
              refine sw_ialdN (9 + h - 1) dX1_change_159 rfl rfl (show 9 + h - 1 < 17 by omega) (by decide) ?_
              refine sw_top (y := L (9 + h - 1)) rfl ?_
              refine sw_Vv dX1_change_160 k_X1_99 mf_X3_joined (c_X3_joined (d := d - 1) (A := laA A Y V L) (by omega) hs hN (L (9 + h - 2)) (L (9 + h - 1))) rfl ⟨_, rfl, rfl⟩ (by omega) (by omega) (by omega) rfl rfl (Nat.le_of_ble_eq_true rfl) ?_
              refine sw_top (y := J2 A (L (9 + h - 2)) (L (9 + h - 1))) ((ljn_J (A := laA A Y V L) hs hN (hL _ (by omega)) (hL _ (by omega))).trans rfl) ?_
              refine sw_istore [(0, _), (1, _), (2, _), (3, _), (4, _), (5, _), (6, _)] dX1_change_163 (by decide) rfl ?_
              refine sw_aload_n dX1_change_165 rfl (by first | rfl | assumption) ?_
              refine sw_get dX1_change_166 fr_X1_20 rfl rfl ?_
              refine sw_iload dX1_change_169 rfl ?_
              refine sw_iconst (x := 2) dX1_change_171 (by decide) ?_
              refine sw_isub dX1_change_172 ?_
              refine sw_top (y := nI (9 + h - 2)) (by rw [nl_2]; exact nI_sub (by omega)) ?_
              refine sw_aload_n dX1_change_173 rfl (by first | rfl | assumption) ?_
              refine sw_get dX1_change_174 fr_X1_36 rfl rfl ?_
              refine sw_iload dX1_change_177 rfl ?_
              refine sw_iload dX1_change_179 rfl ?_
              refine sw_Vv dX1_change_181 k_X1_99 mf_X3_joined (c_X3_joined (d := d - 1) (A := laA A Y V L) (by omega) hs hN (L 8) (J2 A (L (9 + h - 2)) (L (9 + h - 1)))) rfl ⟨_, rfl, rfl⟩ (by omega) (by omega) (by omega) rfl rfl (Nat.le_of_ble_eq_true rfl) ?_
              refine sw_top (y := J2 A (L 8) (J2 A (L (9 + h - 2)) (L (9 + h - 1)))) ((ljn_J (A := laA A Y V L) hs hN (hL 8 (by omega)) (hJ.1 _ _ (hL _ (by omega)) (hL _ (by omega)))).trans rfl) ?_
              refine g_iast (9 + h - 2) dX1_change_184 ⟨by decide, rfl, rfl⟩ rfl (show 9 + h - 2 < 17 by omega) rfl ?_
              rw [la_l]
              exact sw_vret dX1_change_185 rfl (by omega) (by omega) ⟨rfl, rfl, by rw [lft, if_neg (by rw [hk]; decide), if_neg (by rw [hk]; decide), if_neg (by rw [hk]; decide), if_pos (Or.inl hk)]; rfl⟩
        · exact absurd h84 (by decide)
      · exact absurd h40 (by decide)
    · exact absurd h16 (by decide)
  · have hk : A 29 k = 4 := hq
    rw [hk]
    have hh := h2 (Or.inr (Or.inl hk))
    refine sw_bipush (x := 9) dX1_change_0 (by decide) ?_
    refine sw_iload_n dX1_change_2 rfl ?_
    refine sw_iadd dX1_change_3 ?_
    refine sw_top (y := nI (9 + h)) (by rw [nl_9, nI_add]) ?_
    refine sw_istore [(0, _), (1, _), (2, _), (3, _), (4, _)] dX1_change_4 (by decide) rfl ?_
    refine sw_aload_n dX1_change_6 rfl (by first | rfl | assumption) ?_
    refine sw_get dX1_change_7 fr_X1_20 rfl rfl ?_
    refine sw_bipush (x := 8) dX1_change_10 (by decide) ?_
    refine sw_ialdN (8) dX1_change_12 rfl rfl (show 8 < 17 by omega) (by decide) ?_
    refine sw_top (y := L 8) rfl ?_
    refine sw_istore [(0, _), (1, _), (2, _), (3, _), (4, _), (5, _)] dX1_change_13 (by decide) rfl ?_
    refine sw_iload_n dX1_change_15 rfl ?_
    refine sw_if_ne 38 dX1_change_16 (by decide) (fun h16 => ?_) (fun h16 => ?_)
    · refine sw_iload_n dX1_change_38 rfl ?_
      refine sw_iconst (x := 1) dX1_change_39 (by decide) ?_
      refine sw_icmp_ne 82 dX1_change_40 (by decide) (fun h40 => ?_) (fun h40 => ?_)
      · refine sw_iload_n dX1_change_82 rfl ?_
        refine sw_iconst (x := 2) dX1_change_83 (by decide) ?_
        refine sw_icmp_ne 126 dX1_change_84 (by decide) (fun h84 => ?_) (fun h84 => ?_)
        · refine sw_iload_n dX1_change_126 rfl ?_
          refine sw_SNv dX1_change_127 k_X1_102 mf_X11_isOperation (c_X11_isOperation (d := d - 1) _) (by omega) (by omega) (by omega) rfl rfl (Nat.le_of_ble_eq_true rfl) ?_
          refine sw_if_eq 185 dX1_change_130 (by decide) (fun h130 => ?_) (fun h130 => ?_)
          · exact absurd h130 (by decide)
          · refine sw_iload_n dX1_change_133 rfl ?_
            refine sw_iconst (x := 2) dX1_change_134 (by decide) ?_
            refine sw_icmp_lt 185 dX1_change_135 (by decide) (fun h135 => ?_) (fun h135 => ?_)
            · exact absurd h135 (by rw [nl_2, nI_ltI (by omega) (by omega)]; omega)
            · refine sw_aload_n dX1_change_138 rfl (by first | rfl | assumption) ?_
              refine sw_get dX1_change_139 fr_X1_36 rfl rfl ?_
              refine sw_aload_n dX1_change_142 rfl (by first | rfl | assumption) ?_
              refine sw_get dX1_change_143 fr_X1_20 rfl rfl ?_
              refine sw_iload dX1_change_146 rfl ?_
              refine sw_iconst (x := 2) dX1_change_148 (by decide) ?_
              refine sw_isub dX1_change_149 ?_
              refine sw_top (y := nI (9 + h - 2)) (by rw [nl_2]; exact nI_sub (by omega)) ?_
              refine sw_ialdN (9 + h - 2) dX1_change_150 rfl rfl (show 9 + h - 2 < 17 by omega) (by decide) ?_
              refine sw_top (y := L (9 + h - 2)) rfl ?_
              refine sw_aload_n dX1_change_151 rfl (by first | rfl | assumption) ?_
              refine sw_get dX1_change_152 fr_X1_20 rfl rfl ?_
              refine sw_iload dX1_change_155 rfl ?_
              refine sw_iconst (x := 1) dX1_change_157 (by decide) ?_
              refine sw_isub dX1_change_158 ?_
              refine sw_top (y := nI (9 + h - 1)) (sb_1 (by omega)) ?_
              refine sw_ialdN (9 + h - 1) dX1_change_159 rfl rfl (show 9 + h - 1 < 17 by omega) (by decide) ?_
              refine sw_top (y := L (9 + h - 1)) rfl ?_
              refine sw_Vv dX1_change_160 k_X1_99 mf_X3_joined (c_X3_joined (d := d - 1) (A := laA A Y V L) (by omega) hs hN (L (9 + h - 2)) (L (9 + h - 1))) rfl ⟨_, rfl, rfl⟩ (by omega) (by omega) (by omega) rfl rfl (Nat.le_of_ble_eq_true rfl) ?_
              refine sw_top (y := J2 A (L (9 + h - 2)) (L (9 + h - 1))) ((ljn_J (A := laA A Y V L) hs hN (hL _ (by omega)) (hL _ (by omega))).trans rfl) ?_
              refine sw_istore [(0, _), (1, _), (2, _), (3, _), (4, _), (5, _), (6, _)] dX1_change_163 (by decide) rfl ?_
              refine sw_aload_n dX1_change_165 rfl (by first | rfl | assumption) ?_
              refine sw_get dX1_change_166 fr_X1_20 rfl rfl ?_
              refine sw_iload dX1_change_169 rfl ?_
              refine sw_iconst (x := 2) dX1_change_171 (by decide) ?_
              refine sw_isub dX1_change_172 ?_
              refine sw_top (y := nI (9 + h - 2)) (by rw [nl_2]; exact nI_sub (by omega)) ?_
              refine sw_aload_n dX1_change_173 rfl (by first | rfl | assumption) ?_
              refine sw_get dX1_change_174 fr_X1_36 rfl rfl ?_
              refine sw_iload dX1_change_177 rfl ?_
              refine sw_iload dX1_change_179 rfl ?_
              refine sw_Vv dX1_change_181 k_X1_99 mf_X3_joined (c_X3_joined (d := d - 1) (A := laA A Y V L) (by omega) hs hN (L 8) (J2 A (L (9 + h - 2)) (L (9 + h - 1)))) rfl ⟨_, rfl, rfl⟩ (by omega) (by omega) (by omega) rfl rfl (Nat.le_of_ble_eq_true rfl) ?_
              refine sw_top (y := J2 A (L 8) (J2 A (L (9 + h - 2)) (L (9 + h - 1)))) ((ljn_J (A := laA A Y V L) hs hN (hL 8 (by omega)) (hJ.1 _ _ (hL _ (by omega)) (hL _ (by omega)))).trans rfl) ?_
              refine g_iast (9 + h - 2) dX1_change_184 ⟨by decide, rfl, rfl⟩ rfl (show 9 + h - 2 < 17 by omega) rfl ?_
              rw [la_l]
              exact sw_vret dX1_change_185 rfl (by omega) (by omega) ⟨rfl, rfl, by rw [lft, if_neg (by rw [hk]; decide), if_neg (by rw [hk]; decide), if_neg (by rw [hk]; decide), if_pos (Or.inr (Or.inl hk))]; rfl⟩
        · exact absurd h84 (by decide)
      · exact absurd h40 (by decide)
    · exact absurd h16 (by decide)
  · have hk : A 29 k = 5 := hq
    rw [hk]
    have hh := h2 (Or.inr (Or.inr (Or.inl hk)))
    refine sw_bipush (x := 9) dX1_change_0 (by decide) ?_
    refine sw_iload_n dX1_change_2 rfl ?_
    refine sw_iadd dX1_change_3 ?_
    refine sw_top (y := nI (9 + h)) (by rw [nl_9, nI_add]) ?_
    refine sw_istore [(0, _), (1, _), (2, _), (3, _), (4, _)] dX1_change_4 (by decide) rfl ?_
    refine sw_aload_n dX1_change_6 rfl (by first | rfl | assumption) ?_
    refine sw_get dX1_change_7 fr_X1_20 rfl rfl ?_
    refine sw_bipush (x := 8) dX1_change_10 (by decide) ?_
    refine sw_ialdN (8) dX1_change_12 rfl rfl (show 8 < 17 by omega) (by decide) ?_
    refine sw_top (y := L 8) rfl ?_
    refine sw_istore [(0, _), (1, _), (2, _), (3, _), (4, _), (5, _)] dX1_change_13 (by decide) rfl ?_
    refine sw_iload_n dX1_change_15 rfl ?_
    refine sw_if_ne 38 dX1_change_16 (by decide) (fun h16 => ?_) (fun h16 => ?_)
    · refine sw_iload_n dX1_change_38 rfl ?_
      refine sw_iconst (x := 1) dX1_change_39 (by decide) ?_
      refine sw_icmp_ne 82 dX1_change_40 (by decide) (fun h40 => ?_) (fun h40 => ?_)
      · refine sw_iload_n dX1_change_82 rfl ?_
        refine sw_iconst (x := 2) dX1_change_83 (by decide) ?_
        refine sw_icmp_ne 126 dX1_change_84 (by decide) (fun h84 => ?_) (fun h84 => ?_)
        · refine sw_iload_n dX1_change_126 rfl ?_
          refine sw_SNv dX1_change_127 k_X1_102 mf_X11_isOperation (c_X11_isOperation (d := d - 1) _) (by omega) (by omega) (by omega) rfl rfl (Nat.le_of_ble_eq_true rfl) ?_
          refine sw_if_eq 185 dX1_change_130 (by decide) (fun h130 => ?_) (fun h130 => ?_)
          · exact absurd h130 (by decide)
          · refine sw_iload_n dX1_change_133 rfl ?_
            refine sw_iconst (x := 2) dX1_change_134 (by decide) ?_
            refine sw_icmp_lt 185 dX1_change_135 (by decide) (fun h135 => ?_) (fun h135 => ?_)
            · exact absurd h135 (by rw [nl_2, nI_ltI (by omega) (by omega)]; omega)
            · refine sw_aload_n dX1_change_138 rfl (by first | rfl | assumption) ?_
              refine sw_get dX1_change_139 fr_X1_36 rfl rfl ?_
              refine sw_aload_n dX1_change_142 rfl (by first | rfl | assumption) ?_
              refine sw_get dX1_change_143 fr_X1_20 rfl rfl ?_
              refine sw_iload dX1_change_146 rfl ?_
              refine sw_iconst (x := 2) dX1_change_148 (by decide) ?_
              refine sw_isub dX1_change_149 ?_
              refine sw_top (y := nI (9 + h - 2)) (by rw [nl_2]; exact nI_sub (by omega)) ?_
              refine sw_ialdN (9 + h - 2) dX1_change_150 rfl rfl (show 9 + h - 2 < 17 by omega) (by decide) ?_
              refine sw_top (y := L (9 + h - 2)) rfl ?_
              refine sw_aload_n dX1_change_151 rfl (by first | rfl | assumption) ?_
              refine sw_get dX1_change_152 fr_X1_20 rfl rfl ?_
              refine sw_iload dX1_change_155 rfl ?_
              refine sw_iconst (x := 1) dX1_change_157 (by decide) ?_
              refine sw_isub dX1_change_158 ?_
              refine sw_top (y := nI (9 + h - 1)) (sb_1 (by omega)) ?_
              refine sw_ialdN (9 + h - 1) dX1_change_159 rfl rfl (show 9 + h - 1 < 17 by omega) (by decide) ?_
              refine sw_top (y := L (9 + h - 1)) rfl ?_
              refine sw_Vv dX1_change_160 k_X1_99 mf_X3_joined (c_X3_joined (d := d - 1) (A := laA A Y V L) (by omega) hs hN (L (9 + h - 2)) (L (9 + h - 1))) rfl ⟨_, rfl, rfl⟩ (by omega) (by omega) (by omega) rfl rfl (Nat.le_of_ble_eq_true rfl) ?_
              refine sw_top (y := J2 A (L (9 + h - 2)) (L (9 + h - 1))) ((ljn_J (A := laA A Y V L) hs hN (hL _ (by omega)) (hL _ (by omega))).trans rfl) ?_
              refine sw_istore [(0, _), (1, _), (2, _), (3, _), (4, _), (5, _), (6, _)] dX1_change_163 (by decide) rfl ?_
              refine sw_aload_n dX1_change_165 rfl (by first | rfl | assumption) ?_
              refine sw_get dX1_change_166 fr_X1_20 rfl rfl ?_
              refine sw_iload dX1_change_169 rfl ?_
              refine sw_iconst (x := 2) dX1_change_171 (by decide) ?_
              refine sw_isub dX1_change_172 ?_
              refine sw_top (y := nI (9 + h - 2)) (by rw [nl_2]; exact nI_sub (by omega)) ?_
              refine sw_aload_n dX1_change_173 rfl (by first | rfl | assumption) ?_
              refine sw_get dX1_change_174 fr_X1_36 rfl rfl ?_
              refine sw_iload dX1_change_177 rfl ?_
              refine sw_iload dX1_change_179 rfl ?_
              refine sw_Vv dX1_change_181 k_X1_99 mf_X3_joined (c_X3_joined (d := d - 1) (A := laA A Y V L) (by omega) hs hN (L 8) (J2 A (L (9 + h - 2)) (L (9 + h - 1)))) rfl ⟨_, rfl, rfl⟩ (by omega) (by omega) (by omega) rfl rfl (Nat.le_of_ble_eq_true rfl) ?_
              refine sw_top (y := J2 A (L 8) (J2 A (L (9 + h - 2)) (L (9 + h - 1)))) ((ljn_J (A := laA A Y V L) hs hN (hL 8 (by omega)) (hJ.1 _ _ (hL _ (by omega)) (hL _ (by omega)))).trans rfl) ?_
              refine g_iast (9 + h - 2) dX1_change_184 ⟨by decide, rfl, rfl⟩ rfl (show 9 + h - 2 < 17 by omega) rfl ?_
              rw [la_l]
              exact sw_vret dX1_change_185 rfl (by omega) (by omega) ⟨rfl, rfl, by rw [lft, if_neg (by rw [hk]; decide), if_neg (by rw [hk]; decide), if_neg (by rw [hk]; decide), if_pos (Or.inr (Or.inr (Or.inl hk)))]; rfl⟩
        · exact absurd h84 (by decide)
      · exact absurd h40 (by decide)
    · exact absurd h16 (by decide)
  · have hk : A 29 k = 6 := hq
    rw [hk]
    have hh := h2 (Or.inr (Or.inr (Or.inr hk)))
    refine sw_bipush (x := 9) dX1_change_0 (by decide) ?_
    refine sw_iload_n dX1_change_2 rfl ?_
    refine sw_iadd dX1_change_3 ?_
    refine sw_top (y := nI (9 + h)) (by rw [nl_9, nI_add]) ?_
    refine sw_istore [(0, _), (1, _), (2, _), (3, _), (4, _)] dX1_change_4 (by decide) rfl ?_
    refine sw_aload_n dX1_change_6 rfl (by first | rfl | assumption) ?_
    refine sw_get dX1_change_7 fr_X1_20 rfl rfl ?_
    refine sw_bipush (x := 8) dX1_change_10 (by decide) ?_
    refine sw_ialdN (8) dX1_change_12 rfl rfl (show 8 < 17 by omega) (by decide) ?_
    refine sw_top (y := L 8) rfl ?_
    refine sw_istore [(0, _), (1, _), (2, _), (3, _), (4, _), (5, _)] dX1_change_13 (by decide) rfl ?_
    refine sw_iload_n dX1_change_15 rfl ?_
    refine sw_if_ne 38 dX1_change_16 (by decide) (fun h16 => ?_) (fun h16 => ?_)
    · refine sw_iload_n dX1_change_38 rfl ?_
      refine sw_iconst (x := 1) dX1_change_39 (by decide) ?_
      refine sw_icmp_ne 82 dX1_change_40 (by decide) (fun h40 => ?_) (fun h40 => ?_)
      · refine sw_iload_n dX1_change_82 rfl ?_
        refine sw_iconst (x := 2) dX1_change_83 (by decide) ?_
        refine sw_icmp_ne 126 dX1_change_84 (by decide) (fun h84 => ?_) (fun h84 => ?_)
        · refine sw_iload_n dX1_change_126 rfl ?_
          refine sw_SNv dX1_change_127 k_X1_102 mf_X11_isOperation (c_X11_isOperation (d := d - 1) _) (by omega) (by omega) (by omega) rfl rfl (Nat.le_of_ble_eq_true rfl) ?_
          refine sw_if_eq 185 dX1_change_130 (by decide) (fun h130 => ?_) (fun h130 => ?_)
          · exact absurd h130 (by decide)
          · refine sw_iload_n dX1_change_133 rfl ?_
            refine sw_iconst (x := 2) dX1_change_134 (by decide) ?_
            refine sw_icmp_lt 185 dX1_change_135 (by decide) (fun h135 => ?_) (fun h135 => ?_)
            · exact absurd h135 (by rw [nl_2, nI_ltI (by omega) (by omega)]; omega)
            · refine sw_aload_n dX1_change_138 rfl (by first | rfl | assumption) ?_
              refine sw_get dX1_change_139 fr_X1_36 rfl rfl ?_
              refine sw_aload_n dX1_change_142 rfl (by first | rfl | assumption) ?_
              refine sw_get dX1_change_143 fr_X1_20 rfl rfl ?_
              refine sw_iload dX1_change_146 rfl ?_
              refine sw_iconst (x := 2) dX1_change_148 (by decide) ?_
              refine sw_isub dX1_change_149 ?_
              refine sw_top (y := nI (9 + h - 2)) (by rw [nl_2]; exact nI_sub (by omega)) ?_
              refine sw_ialdN (9 + h - 2) dX1_change_150 rfl rfl (show 9 + h - 2 < 17 by omega) (by decide) ?_
              refine sw_top (y := L (9 + h - 2)) rfl ?_
              refine sw_aload_n dX1_change_151 rfl (by first | rfl | assumption) ?_
              refine sw_get dX1_change_152 fr_X1_20 rfl rfl ?_
              refine sw_iload dX1_change_155 rfl ?_
              refine sw_iconst (x := 1) dX1_change_157 (by decide) ?_
              refine sw_isub dX1_change_158 ?_
              refine sw_top (y := nI (9 + h - 1)) (sb_1 (by omega)) ?_
              refine sw_ialdN (9 + h - 1) dX1_change_159 rfl rfl (show 9 + h - 1 < 17 by omega) (by decide) ?_
              refine sw_top (y := L (9 + h - 1)) rfl ?_
              refine sw_Vv dX1_change_160 k_X1_99 mf_X3_joined (c_X3_joined (d := d - 1) (A := laA A Y V L) (by omega) hs hN (L (9 + h - 2)) (L (9 + h - 1))) rfl ⟨_, rfl, rfl⟩ (by omega) (by omega) (by omega) rfl rfl (Nat.le_of_ble_eq_true rfl) ?_
              refine sw_top (y := J2 A (L (9 + h - 2)) (L (9 + h - 1))) ((ljn_J (A := laA A Y V L) hs hN (hL _ (by omega)) (hL _ (by omega))).trans rfl) ?_
              refine sw_istore [(0, _), (1, _), (2, _), (3, _), (4, _), (5, _), (6, _)] dX1_change_163 (by decide) rfl ?_
              refine sw_aload_n dX1_change_165 rfl (by first | rfl | assumption) ?_
              refine sw_get dX1_change_166 fr_X1_20 rfl rfl ?_
              refine sw_iload dX1_change_169 rfl ?_
              refine sw_iconst (x := 2) dX1_change_171 (by decide) ?_
              refine sw_isub dX1_change_172 ?_
              refine sw_top (y := nI (9 + h - 2)) (by rw [nl_2]; exact nI_sub (by omega)) ?_
              refine sw_aload_n dX1_change_173 rfl (by first | rfl | assumption) ?_
              refine sw_get dX1_change_174 fr_X1_36 rfl rfl ?_
              refine sw_iload dX1_change_177 rfl ?_
              refine sw_iload dX1_change_179 rfl ?_
              refine sw_Vv dX1_change_181 k_X1_99 mf_X3_joined (c_X3_joined (d := d - 1) (A := laA A Y V L) (by omega) hs hN (L 8) (J2 A (L (9 + h - 2)) (L (9 + h - 1)))) rfl ⟨_, rfl, rfl⟩ (by omega) (by omega) (by omega) rfl rfl (Nat.le_of_ble_eq_true rfl) ?_
              refine sw_top (y := J2 A (L 8) (J2 A (L (9 + h - 2)) (L (9 + h - 1)))) ((ljn_J (A := laA A Y V L) hs hN (hL 8 (by omega)) (hJ.1 _ _ (hL _ (by omega)) (hL _ (by omega)))).trans rfl) ?_
              refine g_iast (9 + h - 2) dX1_change_184 ⟨by decide, rfl, rfl⟩ rfl (show 9 + h - 2 < 17 by omega) rfl ?_
              rw [la_l]
              exact sw_vret dX1_change_185 rfl (by omega) (by omega) ⟨rfl, rfl, by rw [lft, if_neg (by rw [hk]; decide), if_neg (by rw [hk]; decide), if_neg (by rw [hk]; decide), if_pos (Or.inr (Or.inr (Or.inr hk)))]; rfl⟩
        · exact absurd h84 (by decide)
      · exact absurd h40 (by decide)
    · exact absurd h16 (by decide)
  · have hk : A 29 k = 7 := hq
    rw [hk]
    refine sw_bipush (x := 9) dX1_change_0 (by decide) ?_
    refine sw_iload_n dX1_change_2 rfl ?_
    refine sw_iadd dX1_change_3 ?_
    refine sw_top (y := nI (9 + h)) (by rw [nl_9, nI_add]) ?_
    refine sw_istore [(0, _), (1, _), (2, _), (3, _), (4, _)] dX1_change_4 (by decide) rfl ?_
    refine sw_aload_n dX1_change_6 rfl (by first | rfl | assumption) ?_
    refine sw_get dX1_change_7 fr_X1_20 rfl rfl ?_
    refine sw_bipush (x := 8) dX1_change_10 (by decide) ?_
    refine sw_ialdN (8) dX1_change_12 rfl rfl (show 8 < 17 by omega) (by decide) ?_
    refine sw_top (y := L 8) rfl ?_
    refine sw_istore [(0, _), (1, _), (2, _), (3, _), (4, _), (5, _)] dX1_change_13 (by decide) rfl ?_
    refine sw_iload_n dX1_change_15 rfl ?_
    refine sw_if_ne 38 dX1_change_16 (by decide) (fun h16 => ?_) (fun h16 => ?_)
    · refine sw_iload_n dX1_change_38 rfl ?_
      refine sw_iconst (x := 1) dX1_change_39 (by decide) ?_
      refine sw_icmp_ne 82 dX1_change_40 (by decide) (fun h40 => ?_) (fun h40 => ?_)
      · refine sw_iload_n dX1_change_82 rfl ?_
        refine sw_iconst (x := 2) dX1_change_83 (by decide) ?_
        refine sw_icmp_ne 126 dX1_change_84 (by decide) (fun h84 => ?_) (fun h84 => ?_)
        · refine sw_iload_n dX1_change_126 rfl ?_
          refine sw_SNv dX1_change_127 k_X1_102 mf_X11_isOperation (c_X11_isOperation (d := d - 1) _) (by omega) (by omega) (by omega) rfl rfl (Nat.le_of_ble_eq_true rfl) ?_
          refine sw_if_eq 185 dX1_change_130 (by decide) (fun h130 => ?_) (fun h130 => ?_)
          · exact sw_vret dX1_change_185 rfl (by omega) (by omega) ⟨rfl, rfl, by rw [lft, if_neg (by rw [hk]; decide), if_neg (by rw [hk]; decide), if_neg (by rw [hk]; decide), if_neg (by rw [hk]; decide)]⟩
          · exact absurd (by decide) h130
        · exact absurd h84 (by decide)
      · exact absurd h40 (by decide)
    · exact absurd h16 (by decide)
  · have hk : A 29 k = 8 := hq
    rw [hk]
    refine sw_bipush (x := 9) dX1_change_0 (by decide) ?_
    refine sw_iload_n dX1_change_2 rfl ?_
    refine sw_iadd dX1_change_3 ?_
    refine sw_top (y := nI (9 + h)) (by rw [nl_9, nI_add]) ?_
    refine sw_istore [(0, _), (1, _), (2, _), (3, _), (4, _)] dX1_change_4 (by decide) rfl ?_
    refine sw_aload_n dX1_change_6 rfl (by first | rfl | assumption) ?_
    refine sw_get dX1_change_7 fr_X1_20 rfl rfl ?_
    refine sw_bipush (x := 8) dX1_change_10 (by decide) ?_
    refine sw_ialdN (8) dX1_change_12 rfl rfl (show 8 < 17 by omega) (by decide) ?_
    refine sw_top (y := L 8) rfl ?_
    refine sw_istore [(0, _), (1, _), (2, _), (3, _), (4, _), (5, _)] dX1_change_13 (by decide) rfl ?_
    refine sw_iload_n dX1_change_15 rfl ?_
    refine sw_if_ne 38 dX1_change_16 (by decide) (fun h16 => ?_) (fun h16 => ?_)
    · refine sw_iload_n dX1_change_38 rfl ?_
      refine sw_iconst (x := 1) dX1_change_39 (by decide) ?_
      refine sw_icmp_ne 82 dX1_change_40 (by decide) (fun h40 => ?_) (fun h40 => ?_)
      · refine sw_iload_n dX1_change_82 rfl ?_
        refine sw_iconst (x := 2) dX1_change_83 (by decide) ?_
        refine sw_icmp_ne 126 dX1_change_84 (by decide) (fun h84 => ?_) (fun h84 => ?_)
        · refine sw_iload_n dX1_change_126 rfl ?_
          refine sw_SNv dX1_change_127 k_X1_102 mf_X11_isOperation (c_X11_isOperation (d := d - 1) _) (by omega) (by omega) (by omega) rfl rfl (Nat.le_of_ble_eq_true rfl) ?_
          refine sw_if_eq 185 dX1_change_130 (by decide) (fun h130 => ?_) (fun h130 => ?_)
          · exact sw_vret dX1_change_185 rfl (by omega) (by omega) ⟨rfl, rfl, by rw [lft, if_neg (by rw [hk]; decide), if_neg (by rw [hk]; decide), if_neg (by rw [hk]; decide), if_neg (by rw [hk]; decide)]⟩
          · exact absurd (by decide) h130
        · exact absurd h84 (by decide)
      · exact absurd h40 (by decide)
    · exact absurd h16 (by decide)
  · have hk : A 29 k = 9 := hq
    rw [hk]
    refine sw_bipush (x := 9) dX1_change_0 (by decide) ?_
    refine sw_iload_n dX1_change_2 rfl ?_
    refine sw_iadd dX1_change_3 ?_
    refine sw_top (y := nI (9 + h)) (by rw [nl_9, nI_add]) ?_
    refine sw_istore [(0, _), (1, _), (2, _), (3, _), (4, _)] dX1_change_4 (by decide) rfl ?_
    refine sw_aload_n dX1_change_6 rfl (by first | rfl | assumption) ?_
    refine sw_get dX1_change_7 fr_X1_20 rfl rfl ?_
    refine sw_bipush (x := 8) dX1_change_10 (by decide) ?_
    refine sw_ialdN (8) dX1_change_12 rfl rfl (show 8 < 17 by omega) (by decide) ?_
    refine sw_top (y := L 8) rfl ?_
    refine sw_istore [(0, _), (1, _), (2, _), (3, _), (4, _), (5, _)] dX1_change_13 (by decide) rfl ?_
    refine sw_iload_n dX1_change_15 rfl ?_
    refine sw_if_ne 38 dX1_change_16 (by decide) (fun h16 => ?_) (fun h16 => ?_)
    · refine sw_iload_n dX1_change_38 rfl ?_
      refine sw_iconst (x := 1) dX1_change_39 (by decide) ?_
      refine sw_icmp_ne 82 dX1_change_40 (by decide) (fun h40 => ?_) (fun h40 => ?_)
      · refine sw_iload_n dX1_change_82 rfl ?_
        refine sw_iconst (x := 2) dX1_change_83 (by decide) ?_
        refine sw_icmp_ne 126 dX1_change_84 (by decide) (fun h84 => ?_) (fun h84 => ?_)
        · refine sw_iload_n dX1_change_126 rfl ?_
          refine sw_SNv dX1_change_127 k_X1_102 mf_X11_isOperation (c_X11_isOperation (d := d - 1) _) (by omega) (by omega) (by omega) rfl rfl (Nat.le_of_ble_eq_true rfl) ?_
          refine sw_if_eq 185 dX1_change_130 (by decide) (fun h130 => ?_) (fun h130 => ?_)
          · exact sw_vret dX1_change_185 rfl (by omega) (by omega) ⟨rfl, rfl, by rw [lft, if_neg (by rw [hk]; decide), if_neg (by rw [hk]; decide), if_neg (by rw [hk]; decide), if_neg (by rw [hk]; decide)]⟩
          · exact absurd (by decide) h130
        · exact absurd h84 (by decide)
      · exact absurd h40 (by decide)
    · exact absurd h16 (by decide)
