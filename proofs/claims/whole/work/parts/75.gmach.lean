def crun (kd ar : Nat → Int32) : Nat → Nat → GS → Option Nat × GS
  | 0, _, m => (none, m)
  | k + 1, i, m => if kd m.1 = 9 then (some i, m) else crun kd ar k (i + 1) (gstep kd ar m)
theorem gstep_z (kd ar : Nat → Int32) (m : GS) : (gstep kd ar m).2.2.2.2 ≤ m.2.2.2.2 + 1 := by
  unfold gstep
  repeat' split
  all_goals first | exact Nat.le_refl _ | exact Nat.le_succ _
theorem grun_c (kd ar : Nat → Int32) (mz : Nat) : ∀ (k i : Nat) (m : GS), m.2.2.2.2 + k ≤ mz → grun kd ar mz k i m = crun kd ar k i m
  | 0, i, m, h => rfl
  | k + 1, i, m, h => by
    have := gstep_z kd ar m
    rw [grun, crun, if_neg (show ¬ mz < (gstep kd ar m).2.2.2.2 by omega), grun_c kd ar mz k (i + 1) _ (by omega)]
def exA (A : Nat → Nat → Int32) (r : Option Nat × GS) : Nat → Nat → Int32 := match r.1 with
  | some _ => va_up (mA A r.2) 5 (fillF r.2.2.2.1 (A 5) 8)
  | none => mA A r.2
def exM (A : Nat → Nat → Int32) : GS := (0, 0, fillF (A 5) (A 148) 8, A 149, 0)
set_option maxRecDepth 100000 in
theorem l_X4_ex {l : Launch} {D : va_G} {cy : Nat → ClassId} {d n : Nat} {f : sw_F} {s : Nat → Int32} {A : Nat → Nat → Int32} {B : Nat → Nat → Int64} {o : Int64} {pr : Value} (hd : 3 ≤ d) {C : Nat} (hC : s 12 = nI C) (hCb : C ≤ 100) {Inv : GS → Prop} (hgood : ∀ m, Inv m → mok C (A 29) (A 30) m) (hstep : ∀ m, Inv m → ¬ A 29 m.1 = 9 → Inv (gstep (A 29) (A 30) m)) {Mo : Nat} (hMo : Mo ≤ 2000) {QX : sw_QX} : ∀ (k i : Nat) (m : GS), i + k = Mo + 1 → Inv m → SW l D cy mX4_execute d 0 0 0 0 22 [(0, .ref 147), (1, .ref 5), (2, .int (nI Mo)), (3, .int (nI m.1)), (4, .int (nI i))] [] n (gd f (mS s m) (mA A m) B o pr) (sw_D (some (.int (gRet (crun (A 29) (A 30) k i m)))) n (gd f (mS s (crun (A 29) (A 30) k i m).2) (exA A (crun (A 29) (A 30) k i m)) B o pr)) QX := by
  intro k
  induction k with
  | zero =>
    intro i m hk hI
    rw [crun]
    refine sw_iload dX4_execute_22 rfl ?_
    refine sw_iload_n dX4_execute_24 rfl ?_
    refine sw_icmp_gt 68 dX4_execute_25 (by decide) (fun h25 => ?_) (fun h25 => ?_)
    · refine sw_iconst (x := (-1)) dX4_execute_68 (by decide) ?_
      exact sw_iret dX4_execute_69 rfl (by first | rfl | exact bz_n _) (by omega) (by omega) ⟨rfl, rfl, rfl⟩
    · exact absurd (show nI Mo < nI i by rw [nI_ltI (by omega) (by omega)]; omega) h25
  | succ k ih =>
    intro i m hk hI
    have hm := hgood m hI
    rw [crun]
    refine sw_iload dX4_execute_22 rfl ?_
    refine sw_iload_n dX4_execute_24 rfl ?_
    refine sw_icmp_gt 68 dX4_execute_25 (by decide) (fun h25 => ?_) (fun h25 => ?_)
    · exact absurd h25 (by rw [nI_ltI (by omega) (by omega)]; omega)
    · refine sw_aload_n dX4_execute_28 rfl (by first | rfl | assumption) ?_
      refine sw_get dX4_execute_29 fr_X4_22 rfl rfl ?_
      refine sw_iload_n dX4_execute_32 rfl ?_
      refine sw_Vv dX4_execute_33 k_X4_32 mf_X0_kindAt (c_X0_kindAt (d := d - 1) (s := mS s m) (A := mA A m) (by omega) hC hCb (nI m.1)) rfl ⟨_, rfl, rfl⟩ (by omega) (by omega) (by omega) rfl rfl (Nat.le_of_ble_eq_true rfl) ?_
      refine sw_top (y := A 29 m.1) (cat_n hC hCb hm.2.1) ?_
      refine sw_bipush (x := 9) dX4_execute_36 (by decide) ?_
      refine sw_icmp_ne 56 dX4_execute_38 (by decide) (fun h38 => ?_) (fun h38 => ?_)
      · rw [if_neg h38]
        refine sw_aload_n dX4_execute_56 rfl (by first | rfl | assumption) ?_
        refine sw_iload_n dX4_execute_57 rfl ?_
        refine sw_Vv dX4_execute_58 k_X4_38 mf_X4_step (c_X4_step (d := d - 1) (by omega) hC hCb m hm h38) rfl ⟨_, rfl, rfl⟩ (by omega) (by omega) (by omega) rfl rfl (Nat.le_of_ble_eq_true rfl) ?_
        refine sw_istore_n [(0, _), (1, _), (2, _), (3, _), (4, _)] dX4_execute_61 (by decide) rfl ?_
        first | refine sw_inc1 [(0, _), (1, _), (2, _), (3, _), (4, _)] dX4_execute_62 rfl (by decide) rfl ?_ | refine sw_iinc [(0, _), (1, _), (2, _), (3, _), (4, _)] dX4_execute_62 rfl (by decide) rfl ?_
        refine sw_goto 22 dX4_execute_65 (by decide) ?_
        exact ih (i + 1) _ (by omega) (hstep m hI h38)
      · refine sw_aload_n dX4_execute_41 rfl (by first | rfl | assumption) ?_
        refine sw_get dX4_execute_42 fr_X4_9 rfl rfl ?_
        refine sw_iconst (x := 0) dX4_execute_45 (by decide) ?_
        refine sw_aload_n dX4_execute_46 rfl (by first | rfl | assumption) ?_
        refine sw_iconst (x := 0) dX4_execute_47 (by decide) ?_
        refine sw_bipush (x := 8) dX4_execute_48 (by decide) ?_
        refine g_copy 8 dX4_execute_50 k_X4_26 k_cpy2 k_cpy3 k_cpy4 ⟨by decide, rfl, rfl⟩ ⟨by decide, rfl, rfl⟩ rfl rfl rfl (by decide) (by decide) (by omega) (Nat.le_of_ble_eq_true rfl) ?_
        refine sw_iload dX4_execute_53 rfl ?_
        exact sw_iret dX4_execute_55 rfl (by first | rfl | exact bz_n _) (by omega) (by omega) ⟨by rw [if_pos h38]; rfl, rfl, by rw [if_pos h38]; rfl⟩
set_option maxRecDepth 100000 in
theorem c_X4_execute {l : Launch} {D : va_G} {cy : Nat → ClassId} {d n : Nat} {f : sw_F} {s : Nat → Int32} {A : Nat → Nat → Int32} {B : Nat → Nat → Int64} {o : Int64} {pr : Value} (hd : 3 ≤ d) {C : Nat} (hC : s 12 = nI C) (hCb : C ≤ 100) {Inv : GS → Prop} (hgood : ∀ m, Inv m → mok C (A 29) (A 30) m) (hstep : ∀ m, Inv m → ¬ A 29 m.1 = 9 → Inv (gstep (A 29) (A 30) m)) (hI0 : Inv (exM A)) {Mo : Nat} (hMo : Mo ≤ 2000) : sw_Ct l D cy mX4_execute d 0 0 [.ref 147, .ref 5, .int (nI Mo)] n (gd f s A B o pr) (sw_D (some (.int (gRet (crun (A 29) (A 30) Mo 1 (exM A))))) n (gd f (mS s (crun (A 29) (A 30) Mo 1 (exM A)).2) (exA A (crun (A 29) (A 30) Mo 1 (exM A))) B o pr)) := by
  refine sw_of rfl (Nat.le_of_ble_eq_true rfl) ?_
  show SW l D cy mX4_execute d 0 0 0 0 0 [(0, .ref 147), (1, .ref 5), (2, .int (nI Mo))] [] n (gd f s A B o pr) _ _
  refine sw_aload_n dX4_execute_0 rfl (by first | rfl | assumption) ?_
  refine sw_iconst (x := 0) dX4_execute_1 (by decide) ?_
  refine sw_aload_n dX4_execute_2 rfl (by first | rfl | assumption) ?_
  refine sw_get dX4_execute_3 fr_X4_9 rfl rfl ?_
  refine sw_iconst (x := 0) dX4_execute_6 (by decide) ?_
  refine sw_bipush (x := 8) dX4_execute_7 (by decide) ?_
  refine g_copy 8 dX4_execute_9 k_X4_26 k_cpy2 k_cpy3 k_cpy4 ⟨by decide, rfl, rfl⟩ ⟨by decide, rfl, rfl⟩ rfl rfl rfl (by decide) (by decide) (by omega) (Nat.le_of_ble_eq_true rfl) ?_
  refine sw_aload_n dX4_execute_12 rfl (by first | rfl | assumption) ?_
  refine sw_iconst (x := 0) dX4_execute_13 (by decide) ?_
  refine g_put 15 dX4_execute_14 fl_X4_18 rfl ⟨by decide, rfl⟩ rfl (Nat.le_of_ble_eq_true rfl) (sw_fit_i _) rfl ?_
  refine sw_iconst (x := 0) dX4_execute_17 (by decide) ?_
  refine sw_istore_n [(0, _), (1, _), (2, _), (3, _)] dX4_execute_18 (by decide) rfl ?_
  refine sw_iconst (x := 1) dX4_execute_19 (by decide) ?_
  refine sw_istore [(0, _), (1, _), (2, _), (3, _), (4, _)] dX4_execute_20 (by decide) rfl ?_
  refine g_eq (s' := mS s (exM A)) (A' := mA A (exM A)) rfl (show _ = va_up (va_up A 148 (fillF (A 5) (A 148) 8)) 149 (A 149) from (vu_id (va_up A 148 (fillF (A 5) (A 148) 8)) 149).symm) rfl ?_
  exact l_X4_ex hd hC hCb hgood hstep hMo Mo 1 (exM A) (by omega) hI0
