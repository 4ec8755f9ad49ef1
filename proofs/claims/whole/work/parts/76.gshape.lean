/-! ===== THE CLASS: Shape ===== -/
def VA (K E : Nat → Int32) : Nat → Nat → Int32 := fun q => if q = 176 then K else if q = 177 then E else fun _ => 0
set_option maxRecDepth 100000 in
theorem c_X10_taken {l : Launch} {D : va_G} {cy : Nat → ClassId} {d n : Nat} {f : sw_F} (hd : 1 ≤ d) (w : Int32) : sw_Ct l D cy mX10_taken d 0 0 [.int w] n f (sw_D (some (.int (r_tb w))) n f) := by
  refine sw_of rfl (Nat.le_of_ble_eq_true rfl) ?_
  show SW l D cy mX10_taken d 0 0 0 0 0 [(0, .int w)] [] n f _ _
  refine sw_iload_n dX10_taken_0 rfl ?_
  refine sw_SNv dX10_taken_1 k_X10_77 mf_X11_isOperation (c_X11_isOperation (d := d - 1) _) (by omega) (by omega) (by omega) rfl rfl (Nat.le_of_ble_eq_true rfl) ?_
  refine sw_if_eq 9 dX10_taken_4 (by decide) (fun h4 => ?_) (fun h4 => ?_)
  · refine sw_iload_n dX10_taken_9 rfl ?_
    refine sw_iconst (x := 2) dX10_taken_10 (by decide) ?_
    refine sw_icmp_eq 20 dX10_taken_11 (by decide) (fun h11 => ?_) (fun h11 => ?_)
    · refine sw_iconst (x := 1) dX10_taken_20 (by decide) ?_
      refine sw_goto 25 dX10_taken_21 (by decide) ?_
      exact sw_iret dX10_taken_25 rfl (by first | rfl | exact bz_n _) (by omega) (by omega) ⟨congrArg (fun z => some (Value.int z)) (show _ = r_tb w from by unfold r_tb; have f1 := of_decide_eq_false (bz_0.mp h4); grind), rfl, rfl⟩
    · refine sw_iload_n dX10_taken_14 rfl ?_
      refine sw_bipush (x := 7) dX10_taken_15 (by decide) ?_
      refine sw_icmp_ne 24 dX10_taken_17 (by decide) (fun h17 => ?_) (fun h17 => ?_)
      · refine sw_iconst (x := 0) dX10_taken_24 (by decide) ?_
        exact sw_iret dX10_taken_25 rfl (by first | rfl | exact bz_n _) (by omega) (by omega) ⟨congrArg (fun z => some (Value.int z)) (show _ = r_tb w from by unfold r_tb; have f1 := of_decide_eq_false (bz_0.mp h4); grind), rfl, rfl⟩
      · refine sw_iconst (x := 1) dX10_taken_20 (by decide) ?_
        refine sw_goto 25 dX10_taken_21 (by decide) ?_
        exact sw_iret dX10_taken_25 rfl (by first | rfl | exact bz_n _) (by omega) (by omega) ⟨congrArg (fun z => some (Value.int z)) (show _ = r_tb w from by unfold r_tb; have f1 := of_decide_eq_false (bz_0.mp h4); grind), rfl, rfl⟩
  · refine sw_iconst (x := 2) dX10_taken_7 (by decide) ?_
    exact sw_iret dX10_taken_8 rfl (by first | rfl | exact bz_n _) (by omega) (by omega) ⟨congrArg (fun z => some (Value.int z)) (show _ = r_tb w from by unfold r_tb; have f1 := of_decide_eq_true (bz_ne.mp h4); grind), rfl, rfl⟩
set_option maxRecDepth 100000 in
theorem c_X10_given {l : Launch} {D : va_G} {cy : Nat → ClassId} {d n : Nat} {f : sw_F} (hd : 1 ≤ d) (w : Int32) (hw : 0 ≤ w) : sw_Ct l D cy mX10_given d 0 0 [.int w] n f (sw_D (some (.int (r_gb w))) n f) := by
  refine sw_of rfl (Nat.le_of_ble_eq_true rfl) ?_
  show SW l D cy mX10_given d 0 0 0 0 0 [(0, .int w)] [] n f _ _
  refine sw_iload_n dX10_given_0 rfl ?_
  refine sw_if_eq 16 dX10_given_1 (by decide) (fun h1 => ?_) (fun h1 => ?_)
  · refine sw_iconst (x := 1) dX10_given_16 (by decide) ?_
    refine sw_goto 21 dX10_given_17 (by decide) ?_
    exact sw_iret dX10_given_21 rfl (by first | rfl | exact bz_n _) (by omega) (by omega) ⟨congrArg (fun z => some (Value.int z)) (show _ = r_gb w from by unfold r_gb; grind), rfl, rfl⟩
  · refine sw_iload_n dX10_given_4 rfl ?_
    refine sw_iconst (x := 1) dX10_given_5 (by decide) ?_
    refine sw_icmp_eq 16 dX10_given_6 (by decide) (fun h6 => ?_) (fun h6 => ?_)
    · refine sw_iconst (x := 1) dX10_given_16 (by decide) ?_
      refine sw_goto 21 dX10_given_17 (by decide) ?_
      exact sw_iret dX10_given_21 rfl (by first | rfl | exact bz_n _) (by omega) (by omega) ⟨congrArg (fun z => some (Value.int z)) (show _ = r_gb w from by unfold r_gb; grind), rfl, rfl⟩
    · refine sw_iload_n dX10_given_9 rfl ?_
      refine sw_SNv dX10_given_10 k_X10_77 mf_X11_isOperation (c_X11_isOperation (d := d - 1) _) (by omega) (by omega) (by omega) rfl rfl (Nat.le_of_ble_eq_true rfl) ?_
      refine sw_if_eq 20 dX10_given_13 (by decide) (fun h13 => ?_) (fun h13 => ?_)
      · refine sw_iconst (x := 0) dX10_given_20 (by decide) ?_
        exact sw_iret dX10_given_21 rfl (by first | rfl | exact bz_n _) (by omega) (by omega) ⟨congrArg (fun z => some (Value.int z)) (show _ = r_gb w from by unfold r_gb; have f1 := of_decide_eq_false (bz_0.mp h13); grind), rfl, rfl⟩
      · refine sw_iconst (x := 1) dX10_given_16 (by decide) ?_
        refine sw_goto 21 dX10_given_17 (by decide) ?_
        exact sw_iret dX10_given_21 rfl (by first | rfl | exact bz_n _) (by omega) (by omega) ⟨congrArg (fun z => some (Value.int z)) (show _ = r_gb w from by unfold r_gb; have f1 := of_decide_eq_true (bz_ne.mp h13); grind), rfl, rfl⟩
set_option maxRecDepth 100000 in
theorem c_X10_reachedCount {l : Launch} {D : va_G} {cy : Nat → ClassId} {d n : Nat} {f : sw_F} {s : Nat → Int32} {A : Nat → Nat → Int32} {B : Nat → Nat → Int64} {o : Int64} {pr : Value}  : sw_Ct l D cy mX10_reachedCount d 0 0 [.ref 31] n (gd f s A B o pr) (sw_D (some (.int (s 13))) n (gd f s A B o pr)) := by
  refine sw_of rfl (Nat.le_of_ble_eq_true rfl) ?_
  show SW l D cy mX10_reachedCount d 0 0 0 0 0 [(0, .ref 31)] [] n (gd f s A B o pr) _ _
  refine sw_aload_n dX10_reachedCount_0 rfl (by first | rfl | assumption) ?_
  refine sw_get dX10_reachedCount_1 fr_X10_22 rfl rfl ?_
  exact sw_iret dX10_reachedCount_4 rfl (by first | rfl | exact bz_n _) (by omega) (by omega) ⟨rfl, rfl, rfl⟩
set_option maxRecDepth 100000 in
theorem c_X10_heightAt {l : Launch} {D : va_G} {cy : Nat → ClassId} {d n : Nat} {f : sw_F} {s : Nat → Int32} {A : Nat → Nat → Int32} {B : Nat → Nat → Int64} {o : Int64} {pr : Value} (hd : 1 ≤ d) {C : Nat} (hC : s 12 = nI C) (hCb : C ≤ 100) (a : Int32) : sw_Ct l D cy mX10_heightAt d 0 0 [.ref 31, .int a] n (gd f s A B o pr) (sw_D (some (.int (cat s (A 32) a))) n (gd f s A B o pr)) := by
  refine sw_of rfl (Nat.le_of_ble_eq_true rfl) ?_
  show SW l D cy mX10_heightAt d 0 0 0 0 0 [(0, .ref 31), (1, .int a)] [] n (gd f s A B o pr) _ _
  refine sw_aload_n dX10_heightAt_0 rfl (by first | rfl | assumption) ?_
  refine sw_get dX10_heightAt_1 fr_X10_26 rfl rfl ?_
  refine sw_iload_n dX10_heightAt_4 rfl ?_
  refine sw_Vv dX10_heightAt_5 k_X10_46 mf_X0_has (c_X0_has (d := d - 1) _) rfl ⟨_, rfl, rfl⟩ (by omega) (by omega) (by omega) rfl rfl (Nat.le_of_ble_eq_true rfl) ?_
  refine sw_if_eq 20 dX10_heightAt_8 (by decide) (fun h8 => ?_) (fun h8 => ?_)
  · refine sw_iconst (x := (-1)) dX10_heightAt_20 (by decide) ?_
    exact sw_iret dX10_heightAt_21 rfl (by first | rfl | exact bz_n _) (by omega) (by omega) ⟨by rw [cat, if_neg (by rw [bz_0.mp h8]; decide)], rfl, rfl⟩
  · obtain ⟨i, hi, rfl⟩ := chs_i hC hCb (bz_ne.mp h8)
    refine sw_aload_n dX10_heightAt_11 rfl (by first | rfl | assumption) ?_
    refine sw_get dX10_heightAt_12 fr_X10_9 rfl rfl ?_
    refine sw_iload_n dX10_heightAt_15 rfl ?_
    refine sw_ialdN (i) dX10_heightAt_16 rfl rfl (show i < 100 by omega) (by decide) ?_
    refine sw_goto 21 dX10_heightAt_17 (by decide) ?_
    exact sw_iret dX10_heightAt_21 rfl (by first | rfl | exact bz_n _) (by omega) (by omega) ⟨by rw [cat, if_pos (bz_ne.mp h8), nI_clamp (by omega)], rfl, rfl⟩
theorem r_pk_i {K E : Nat → Int32} {C k : Nat} : r_pk (VA K E) C k = true ↔ 0 ≤ K k ∧ K k ≤ 9 ∧ (K k = 1 ∨ K k = 2 → 0 ≤ E k ∧ E k < 8) ∧ (K k = 7 ∨ K k = 8 → 0 ≤ E k ∧ E k < nI C) := by
  show (decide (0 ≤ K k ∧ K k ≤ 9) && decide (K k = 1 ∨ K k = 2 → 0 ≤ E k ∧ E k < 8) && decide (K k = 7 ∨ K k = 8 → 0 ≤ E k ∧ E k < nI C)) = true ↔ _
  simp only [Bool.and_eq_true, decide_eq_true_iff, and_assoc]
set_option maxRecDepth 100000 in
theorem l_X10_pf {l : Launch} {D : va_G} {cy : Nat → ClassId} {d n : Nat} {f : sw_F} {s : Nat → Int32} {A : Nat → Nat → Int32} {B : Nat → Nat → Int64} {o : Int64} {pr : Value} (hd : 2 ≤ d) {C : Nat} (hC : s 12 = nI C) (hCb : C ≤ 100) {QX : sw_QX} : ∀ (k i : Nat), i ≤ C → C < i + k → SW l D cy mX10_partsFit d 0 0 0 0 2 [(0, .ref 31), (1, .int (nI i))] [] n (gd f s A B o pr) (sw_D (some (.int (bz (allF (r_pk (VA (A 29) (A 30)) C) i (C - i))))) n (gd f s A B o pr)) QX := by
  intro k
  induction k with
  | zero => intro c0 h1 h2; exact absurd h2 (by omega)
  | succ k ih =>
    intro i he hk
    have e2 := r_pk_i (K := A 29) (E := A 30) (C := C) (k := i)
    refine sw_iload_n dX10_partsFit_2 rfl ?_
    refine sw_aload_n dX10_partsFit_3 rfl (by first | rfl | assumption) ?_
    refine sw_get dX10_partsFit_4 fr_X10_26 rfl rfl ?_
    refine sw_Vv dX10_partsFit_7 k_X10_30 mf_X0_size (c_X0_size (d := d - 1)) rfl ⟨_, rfl, rfl⟩ (by omega) (by omega) (by omega) rfl rfl (Nat.le_of_ble_eq_true rfl) ?_
    refine sw_top (y := nI C) hC ?_
    refine sw_icmp_ge 93 dX10_partsFit_10 (by decide) (fun h10 => ?_) (fun h10 => ?_)
    · refine sw_iconst (x := 1) dX10_partsFit_93 (by decide) ?_
      exact sw_iret dX10_partsFit_94 rfl (by first | rfl | exact bz_n _) (by omega) (by omega) ⟨by rw [allF_end ((nI_leI (by omega) (by omega)).mp h10)]; rfl, rfl, rfl⟩
    · have e1 : i < C := (nI_ltI (by omega) (by omega)).mp (i32_nle.mp h10)
      refine sw_aload_n dX10_partsFit_13 rfl (by first | rfl | assumption) ?_
      refine sw_get dX10_partsFit_14 fr_X10_26 rfl rfl ?_
      refine sw_iload_n dX10_partsFit_17 rfl ?_
      refine sw_Vv dX10_partsFit_18 k_X10_50 mf_X0_kindAt (c_X0_kindAt (d := d - 1) (by omega) hC hCb _) rfl ⟨_, rfl, rfl⟩ (by omega) (by omega) (by omega) rfl rfl (Nat.le_of_ble_eq_true rfl) ?_
      refine sw_top (y := A 29 i) (cat_n hC hCb e1) ?_
      refine sw_istore_n [(0, _), (1, _), (2, _)] dX10_partsFit_21 (by decide) rfl ?_
      refine sw_aload_n dX10_partsFit_22 rfl (by first | rfl | assumption) ?_
      refine sw_get dX10_partsFit_23 fr_X10_26 rfl rfl ?_
      refine sw_iload_n dX10_partsFit_26 rfl ?_
      refine sw_Vv dX10_partsFit_27 k_X10_54 mf_X0_argumentAt (c_X0_argumentAt (d := d - 1) (by omega) hC hCb _) rfl ⟨_, rfl, rfl⟩ (by omega) (by omega) (by omega) rfl rfl (Nat.le_of_ble_eq_true rfl) ?_
      refine sw_top (y := A 30 i) (cat_n hC hCb e1) ?_
      refine sw_istore_n [(0, _), (1, _), (2, _), (3, _)] dX10_partsFit_30 (by decide) rfl ?_
      refine sw_iload_n dX10_partsFit_31 rfl ?_
      refine sw_if_lt 41 dX10_partsFit_32 (by decide) (fun h32 => ?_) (fun h32 => ?_)
      · refine sw_iconst (x := 0) dX10_partsFit_41 (by decide) ?_
        exact sw_iret dX10_partsFit_42 rfl (by first | rfl | exact bz_n _) (by omega) (by omega) ⟨by rw [allF_step e1, show r_pk (VA (A 29) (A 30)) C i = false from Bool.eq_false_iff.mpr (fun q => by have q := e2.mp q; grind), Bool.false_and]; rfl, rfl, rfl⟩
      · refine sw_iload_n dX10_partsFit_35 rfl ?_
        refine sw_bipush (x := 9) dX10_partsFit_36 (by decide) ?_
        refine sw_icmp_le 43 dX10_partsFit_38 (by decide) (fun h38 => ?_) (fun h38 => ?_)
        · refine sw_iload_n dX10_partsFit_43 rfl ?_
          refine sw_iconst (x := 1) dX10_partsFit_44 (by decide) ?_
          refine sw_icmp_eq 53 dX10_partsFit_45 (by decide) (fun h45 => ?_) (fun h45 => ?_)
          · refine sw_iload_n dX10_partsFit_53 rfl ?_
            refine sw_SNv dX10_partsFit_54 k_X10_57 mf_X11_isVariable (c_X11_isVariable (d := d - 1) _) (by omega) (by omega) (by omega) rfl rfl (Nat.le_of_ble_eq_true rfl) ?_
            refine sw_if_ne 62 dX10_partsFit_57 (by decide) (fun h57 => ?_) (fun h57 => ?_)
            · refine sw_iload_n dX10_partsFit_62 rfl ?_
              refine sw_bipush (x := 7) dX10_partsFit_63 (by decide) ?_
              refine sw_icmp_eq 74 dX10_partsFit_65 (by decide) (fun h65 => ?_) (fun h65 => ?_)
              · refine sw_aload_n dX10_partsFit_74 rfl (by first | rfl | assumption) ?_
                refine sw_get dX10_partsFit_75 fr_X10_26 rfl rfl ?_
                refine sw_iload_n dX10_partsFit_78 rfl ?_
                refine sw_Vv dX10_partsFit_79 k_X10_46 mf_X0_has (c_X0_has (d := d - 1) _) rfl ⟨_, rfl, rfl⟩ (by omega) (by omega) (by omega) rfl rfl (Nat.le_of_ble_eq_true rfl) ?_
                refine sw_if_ne 87 dX10_partsFit_82 (by decide) (fun h82 => ?_) (fun h82 => ?_)
                · first | refine sw_inc1 [(0, _), (1, _), (2, _), (3, _)] dX10_partsFit_87 rfl (by decide) rfl ?_ | refine sw_iinc [(0, _), (1, _), (2, _), (3, _)] dX10_partsFit_87 rfl (by decide) rfl ?_
                  refine sw_goto 2 dX10_partsFit_90 (by decide) ?_
                  refine sw_keep [0, 1] rfl ?_
                  rw [allF_step e1, show r_pk (VA (A 29) (A 30)) C i = true from e2.mpr (by have f1 := of_decide_eq_true (bz_ne.mp h57); have f2 := of_decide_eq_true (bz_ne.mp h82); rw [hC] at f2; grind), Bool.true_and]
                  exact ih (i + 1) (by omega) (by omega)
                · refine sw_iconst (x := 0) dX10_partsFit_85 (by decide) ?_
                  exact sw_iret dX10_partsFit_86 rfl (by first | rfl | exact bz_n _) (by omega) (by omega) ⟨by rw [allF_step e1, show r_pk (VA (A 29) (A 30)) C i = false from Bool.eq_false_iff.mpr (fun q => by have q := e2.mp q; have f1 := of_decide_eq_true (bz_ne.mp h57); have f2 := of_decide_eq_false (bz_0.mp h82); rw [hC] at f2; grind), Bool.false_and]; rfl, rfl, rfl⟩
              · refine sw_iload_n dX10_partsFit_68 rfl ?_
                refine sw_bipush (x := 8) dX10_partsFit_69 (by decide) ?_
                refine sw_icmp_ne 87 dX10_partsFit_71 (by decide) (fun h71 => ?_) (fun h71 => ?_)
                · first | refine sw_inc1 [(0, _), (1, _), (2, _), (3, _)] dX10_partsFit_87 rfl (by decide) rfl ?_ | refine sw_iinc [(0, _), (1, _), (2, _), (3, _)] dX10_partsFit_87 rfl (by decide) rfl ?_
                  refine sw_goto 2 dX10_partsFit_90 (by decide) ?_
                  refine sw_keep [0, 1] rfl ?_
                  rw [allF_step e1, show r_pk (VA (A 29) (A 30)) C i = true from e2.mpr (by have f1 := of_decide_eq_true (bz_ne.mp h57); grind), Bool.true_and]
                  exact ih (i + 1) (by omega) (by omega)
                · refine sw_aload_n dX10_partsFit_74 rfl (by first | rfl | assumption) ?_
                  refine sw_get dX10_partsFit_75 fr_X10_26 rfl rfl ?_
                  refine sw_iload_n dX10_partsFit_78 rfl ?_
                  refine sw_Vv dX10_partsFit_79 k_X10_46 mf_X0_has (c_X0_has (d := d - 1) _) rfl ⟨_, rfl, rfl⟩ (by omega) (by omega) (by omega) rfl rfl (Nat.le_of_ble_eq_true rfl) ?_
                  refine sw_if_ne 87 dX10_partsFit_82 (by decide) (fun h82 => ?_) (fun h82 => ?_)
                  · first | refine sw_inc1 [(0, _), (1, _), (2, _), (3, _)] dX10_partsFit_87 rfl (by decide) rfl ?_ | refine sw_iinc [(0, _), (1, _), (2, _), (3, _)] dX10_partsFit_87 rfl (by decide) rfl ?_
                    refine sw_goto 2 dX10_partsFit_90 (by decide) ?_
                    refine sw_keep [0, 1] rfl ?_
                    rw [allF_step e1, show r_pk (VA (A 29) (A 30)) C i = true from e2.mpr (by have f1 := of_decide_eq_true (bz_ne.mp h57); have f2 := of_decide_eq_true (bz_ne.mp h82); rw [hC] at f2; grind), Bool.true_and]
                    exact ih (i + 1) (by omega) (by omega)
                  · refine sw_iconst (x := 0) dX10_partsFit_85 (by decide) ?_
                    exact sw_iret dX10_partsFit_86 rfl (by first | rfl | exact bz_n _) (by omega) (by omega) ⟨by rw [allF_step e1, show r_pk (VA (A 29) (A 30)) C i = false from Bool.eq_false_iff.mpr (fun q => by have q := e2.mp q; have f1 := of_decide_eq_true (bz_ne.mp h57); have f2 := of_decide_eq_false (bz_0.mp h82); rw [hC] at f2; grind), Bool.false_and]; rfl, rfl, rfl⟩
            · refine sw_iconst (x := 0) dX10_partsFit_60 (by decide) ?_
              exact sw_iret dX10_partsFit_61 rfl (by first | rfl | exact bz_n _) (by omega) (by omega) ⟨by rw [allF_step e1, show r_pk (VA (A 29) (A 30)) C i = false from Bool.eq_false_iff.mpr (fun q => by have q := e2.mp q; have f1 := of_decide_eq_false (bz_0.mp h57); grind), Bool.false_and]; rfl, rfl, rfl⟩
          · refine sw_iload_n dX10_partsFit_48 rfl ?_
            refine sw_iconst (x := 2) dX10_partsFit_49 (by decide) ?_
            refine sw_icmp_ne 62 dX10_partsFit_50 (by decide) (fun h50 => ?_) (fun h50 => ?_)
            · refine sw_iload_n dX10_partsFit_62 rfl ?_
              refine sw_bipush (x := 7) dX10_partsFit_63 (by decide) ?_
              refine sw_icmp_eq 74 dX10_partsFit_65 (by decide) (fun h65 => ?_) (fun h65 => ?_)
              · refine sw_aload_n dX10_partsFit_74 rfl (by first | rfl | assumption) ?_
                refine sw_get dX10_partsFit_75 fr_X10_26 rfl rfl ?_
                refine sw_iload_n dX10_partsFit_78 rfl ?_
                refine sw_Vv dX10_partsFit_79 k_X10_46 mf_X0_has (c_X0_has (d := d - 1) _) rfl ⟨_, rfl, rfl⟩ (by omega) (by omega) (by omega) rfl rfl (Nat.le_of_ble_eq_true rfl) ?_
                refine sw_if_ne 87 dX10_partsFit_82 (by decide) (fun h82 => ?_) (fun h82 => ?_)
                · first | refine sw_inc1 [(0, _), (1, _), (2, _), (3, _)] dX10_partsFit_87 rfl (by decide) rfl ?_ | refine sw_iinc [(0, _), (1, _), (2, _), (3, _)] dX10_partsFit_87 rfl (by decide) rfl ?_
                  refine sw_goto 2 dX10_partsFit_90 (by decide) ?_
                  refine sw_keep [0, 1] rfl ?_
                  rw [allF_step e1, show r_pk (VA (A 29) (A 30)) C i = true from e2.mpr (by have f2 := of_decide_eq_true (bz_ne.mp h82); rw [hC] at f2; grind), Bool.true_and]
                  exact ih (i + 1) (by omega) (by omega)
                · refine sw_iconst (x := 0) dX10_partsFit_85 (by decide) ?_
                  exact sw_iret dX10_partsFit_86 rfl (by first | rfl | exact bz_n _) (by omega) (by omega) ⟨by rw [allF_step e1, show r_pk (VA (A 29) (A 30)) C i = false from Bool.eq_false_iff.mpr (fun q => by have q := e2.mp q; have f2 := of_decide_eq_false (bz_0.mp h82); rw [hC] at f2; grind), Bool.false_and]; rfl, rfl, rfl⟩
              · refine sw_iload_n dX10_partsFit_68 rfl ?_
                refine sw_bipush (x := 8) dX10_partsFit_69 (by decide) ?_
                refine sw_icmp_ne 87 dX10_partsFit_71 (by decide) (fun h71 => ?_) (fun h71 => ?_)
                · first | refine sw_inc1 [(0, _), (1, _), (2, _), (3, _)] dX10_partsFit_87 rfl (by decide) rfl ?_ | refine sw_iinc [(0, _), (1, _), (2, _), (3, _)] dX10_partsFit_87 rfl (by decide) rfl ?_
                  refine sw_goto 2 dX10_partsFit_90 (by decide) ?_
                  refine sw_keep [0, 1] rfl ?_
                  rw [allF_step e1, show r_pk (VA (A 29) (A 30)) C i = true from e2.mpr (by grind), Bool.true_and]
                  exact ih (i + 1) (by omega) (by omega)
                · refine sw_aload_n dX10_partsFit_74 rfl (by first | rfl | assumption) ?_
                  refine sw_get dX10_partsFit_75 fr_X10_26 rfl rfl ?_
                  refine sw_iload_n dX10_partsFit_78 rfl ?_
                  refine sw_Vv dX10_partsFit_79 k_X10_46 mf_X0_has (c_X0_has (d := d - 1) _) rfl ⟨_, rfl, rfl⟩ (by omega) (by omega) (by omega) rfl rfl (Nat.le_of_ble_eq_true rfl) ?_
                  refine sw_if_ne 87 dX10_partsFit_82 (by decide) (fun h82 => ?_) (fun h82 => ?_)
                  · first | refine sw_inc1 [(0, _), (1, _), (2, _), (3, _)] dX10_partsFit_87 rfl (by decide) rfl ?_ | refine sw_iinc [(0, _), (1, _), (2, _), (3, _)] dX10_partsFit_87 rfl (by decide) rfl ?_
                    refine sw_goto 2 dX10_partsFit_90 (by decide) ?_
                    refine sw_keep [0, 1] rfl ?_
                    rw [allF_step e1, show r_pk (VA (A 29) (A 30)) C i = true from e2.mpr (by have f2 := of_decide_eq_true (bz_ne.mp h82); rw [hC] at f2; grind), Bool.true_and]
                    exact ih (i + 1) (by omega) (by omega)
                  · refine sw_iconst (x := 0) dX10_partsFit_85 (by decide) ?_
                    exact sw_iret dX10_partsFit_86 rfl (by first | rfl | exact bz_n _) (by omega) (by omega) ⟨by rw [allF_step e1, show r_pk (VA (A 29) (A 30)) C i = false from Bool.eq_false_iff.mpr (fun q => by have q := e2.mp q; have f2 := of_decide_eq_false (bz_0.mp h82); rw [hC] at f2; grind), Bool.false_and]; rfl, rfl, rfl⟩
            · refine sw_iload_n dX10_partsFit_53 rfl ?_
              refine sw_SNv dX10_partsFit_54 k_X10_57 mf_X11_isVariable (c_X11_isVariable (d := d - 1) _) (by omega) (by omega) (by omega) rfl rfl (Nat.le_of_ble_eq_true rfl) ?_
              refine sw_if_ne 62 dX10_partsFit_57 (by decide) (fun h57 => ?_) (fun h57 => ?_)
              · refine sw_iload_n dX10_partsFit_62 rfl ?_
                refine sw_bipush (x := 7) dX10_partsFit_63 (by decide) ?_
                refine sw_icmp_eq 74 dX10_partsFit_65 (by decide) (fun h65 => ?_) (fun h65 => ?_)
                · refine sw_aload_n dX10_partsFit_74 rfl (by first | rfl | assumption) ?_
                  refine sw_get dX10_partsFit_75 fr_X10_26 rfl rfl ?_
                  refine sw_iload_n dX10_partsFit_78 rfl ?_
                  refine sw_Vv dX10_partsFit_79 k_X10_46 mf_X0_has (c_X0_has (d := d - 1) _) rfl ⟨_, rfl, rfl⟩ (by omega) (by omega) (by omega) rfl rfl (Nat.le_of_ble_eq_true rfl) ?_
                  refine sw_if_ne 87 dX10_partsFit_82 (by decide) (fun h82 => ?_) (fun h82 => ?_)
                  · first | refine sw_inc1 [(0, _), (1, _), (2, _), (3, _)] dX10_partsFit_87 rfl (by decide) rfl ?_ | refine sw_iinc [(0, _), (1, _), (2, _), (3, _)] dX10_partsFit_87 rfl (by decide) rfl ?_
                    refine sw_goto 2 dX10_partsFit_90 (by decide) ?_
                    refine sw_keep [0, 1] rfl ?_
                    rw [allF_step e1, show r_pk (VA (A 29) (A 30)) C i = true from e2.mpr (by have f1 := of_decide_eq_true (bz_ne.mp h57); have f2 := of_decide_eq_true (bz_ne.mp h82); rw [hC] at f2; grind), Bool.true_and]
                    exact ih (i + 1) (by omega) (by omega)
                  · refine sw_iconst (x := 0) dX10_partsFit_85 (by decide) ?_
                    exact sw_iret dX10_partsFit_86 rfl (by first | rfl | exact bz_n _) (by omega) (by omega) ⟨by rw [allF_step e1, show r_pk (VA (A 29) (A 30)) C i = false from Bool.eq_false_iff.mpr (fun q => by have q := e2.mp q; have f1 := of_decide_eq_true (bz_ne.mp h57); have f2 := of_decide_eq_false (bz_0.mp h82); rw [hC] at f2; grind), Bool.false_and]; rfl, rfl, rfl⟩
                · refine sw_iload_n dX10_partsFit_68 rfl ?_
                  refine sw_bipush (x := 8) dX10_partsFit_69 (by decide) ?_
                  refine sw_icmp_ne 87 dX10_partsFit_71 (by decide) (fun h71 => ?_) (fun h71 => ?_)
                  · first | refine sw_inc1 [(0, _), (1, _), (2, _), (3, _)] dX10_partsFit_87 rfl (by decide) rfl ?_ | refine sw_iinc [(0, _), (1, _), (2, _), (3, _)] dX10_partsFit_87 rfl (by decide) rfl ?_
                    refine sw_goto 2 dX10_partsFit_90 (by decide) ?_
                    refine sw_keep [0, 1] rfl ?_
                    rw [allF_step e1, show r_pk (VA (A 29) (A 30)) C i = true from e2.mpr (by have f1 := of_decide_eq_true (bz_ne.mp h57); grind), Bool.true_and]
                    exact ih (i + 1) (by omega) (by omega)
                  · refine sw_aload_n dX10_partsFit_74 rfl (by first | rfl | assumption) ?_
                    refine sw_get dX10_partsFit_75 fr_X10_26 rfl rfl ?_
                    refine sw_iload_n dX10_partsFit_78 rfl ?_
                    refine sw_Vv dX10_partsFit_79 k_X10_46 mf_X0_has (c_X0_has (d := d - 1) _) rfl ⟨_, rfl, rfl⟩ (by omega) (by omega) (by omega) rfl rfl (Nat.le_of_ble_eq_true rfl) ?_
                    refine sw_if_ne 87 dX10_partsFit_82 (by decide) (fun h82 => ?_) (fun h82 => ?_)
                    · first | refine sw_inc1 [(0, _), (1, _), (2, _), (3, _)] dX10_partsFit_87 rfl (by decide) rfl ?_ | refine sw_iinc [(0, _), (1, _), (2, _), (3, _)] dX10_partsFit_87 rfl (by decide) rfl ?_
                      refine sw_goto 2 dX10_partsFit_90 (by decide) ?_
                      refine sw_keep [0, 1] rfl ?_
                      rw [allF_step e1, show r_pk (VA (A 29) (A 30)) C i = true from e2.mpr (by have f1 := of_decide_eq_true (bz_ne.mp h57); have f2 := of_decide_eq_true (bz_ne.mp h82); rw [hC] at f2; grind), Bool.true_and]
                      exact ih (i + 1) (by omega) (by omega)
                    · refine sw_iconst (x := 0) dX10_partsFit_85 (by decide) ?_
                      exact sw_iret dX10_partsFit_86 rfl (by first | rfl | exact bz_n _) (by omega) (by omega) ⟨by rw [allF_step e1, show r_pk (VA (A 29) (A 30)) C i = false from Bool.eq_false_iff.mpr (fun q => by have q := e2.mp q; have f1 := of_decide_eq_true (bz_ne.mp h57); have f2 := of_decide_eq_false (bz_0.mp h82); rw [hC] at f2; grind), Bool.false_and]; rfl, rfl, rfl⟩
              · refine sw_iconst (x := 0) dX10_partsFit_60 (by decide) ?_
                exact sw_iret dX10_partsFit_61 rfl (by first | rfl | exact bz_n _) (by omega) (by omega) ⟨by rw [allF_step e1, show r_pk (VA (A 29) (A 30)) C i = false from Bool.eq_false_iff.mpr (fun q => by have q := e2.mp q; have f1 := of_decide_eq_false (bz_0.mp h57); grind), Bool.false_and]; rfl, rfl, rfl⟩
        · refine sw_iconst (x := 0) dX10_partsFit_41 (by decide) ?_
          exact sw_iret dX10_partsFit_42 rfl (by first | rfl | exact bz_n _) (by omega) (by omega) ⟨by rw [allF_step e1, show r_pk (VA (A 29) (A 30)) C i = false from Bool.eq_false_iff.mpr (fun q => by have q := e2.mp q; grind), Bool.false_and]; rfl, rfl, rfl⟩
set_option maxRecDepth 100000 in
theorem c_X10_partsFit {l : Launch} {D : va_G} {cy : Nat → ClassId} {d n : Nat} {f : sw_F} {s : Nat → Int32} {A : Nat → Nat → Int32} {B : Nat → Nat → Int64} {o : Int64} {pr : Value} (hd : 2 ≤ d) {C : Nat} (hC : s 12 = nI C) (hCb : C ≤ 100) : sw_Ct l D cy mX10_partsFit d 0 0 [.ref 31] n (gd f s A B o pr) (sw_D (some (.int (bz (allF (r_pk (VA (A 29) (A 30)) C) 0 C)))) n (gd f s A B o pr)) := by
  refine sw_of rfl (Nat.le_of_ble_eq_true rfl) ?_
  show SW l D cy mX10_partsFit d 0 0 0 0 0 [(0, .ref 31)] [] n (gd f s A B o pr) _ _
  refine sw_iconst (x := 0) dX10_partsFit_0 (by decide) ?_
  refine sw_istore_n [(0, _), (1, _)] dX10_partsFit_1 (by decide) rfl ?_
  exact l_X10_pf hd hC hCb (C + 1) 0 (by omega) (by omega)
abbrev CW : Type := (Nat → Int32) × (Nat → Int32) × Nat
def cps (E : CW) (t : Nat) (h : Int32) : CW := if E.1 t = -1 then (upd E.1 t h, upd E.2.1 E.2.2 (nI t), E.2.2 + 1) else E
def hwS (s : Nat → Int32) (E : CW) : Nat → Int32 := va_up s 13 (nI E.2.2)
def hwA (A : Nat → Nat → Int32) (E : CW) : Nat → Nat → Int32 := va_up (va_up A 32 E.1) 33 E.2.1
theorem hwA_p (A : Nat → Nat → Int32) (E : CW) (g g' : Nat → Int32) (r : Nat) : va_up (va_up (hwA A E) 32 g) 33 g' = hwA A (g, g', r) := by
  show va_up (va_up (va_up (va_up A 32 E.1) 33 E.2.1) 32 g) 33 g' = va_up (va_up A 32 g) 33 g'
  rw [vu_so _ (show 32 < 33 by decide), vu_up, vu_up]
theorem hwS_p (s : Nat → Int32) (E : CW) (r : Nat) (g g' : Nat → Int32) : va_up (hwS s E) 13 (nI r) = hwS s (g, g', r) := vu_up _ _ _ _
set_option maxRecDepth 100000 in
theorem c_X10_comesTo {l : Launch} {D : va_G} {cy : Nat → ClassId} {d n : Nat} {f : sw_F} {s : Nat → Int32} {A : Nat → Nat → Int32} {B : Nat → Nat → Int64} {o : Int64} {pr : Value} (hd : 1 ≤ d) {C : Nat} (hC : s 12 = nI C) (hCb : C ≤ 100) (E : CW) {t : Nat} (ht : t < C) (h : Int32) (hr : E.1 t = -1 → E.2.2 < 100) : sw_Ct l D cy mX10_comesTo d 0 0 [.ref 31, .int (nI t), .int h] n (gd f (hwS s E) (hwA A E) B o pr) (sw_D (some (.int (bz (decide ((cps E t h).1 t = h))))) n (gd f (hwS s (cps E t h)) (hwA A (cps E t h)) B o pr)) := by
  refine sw_of rfl (Nat.le_of_ble_eq_true rfl) ?_
  show SW l D cy mX10_comesTo d 0 0 0 0 0 [(0, .ref 31), (1, .int (nI t)), (2, .int h)] [] n (gd f (hwS s E) (hwA A E) B o pr) _ _
  refine sw_aload_n dX10_comesTo_0 rfl (by first | rfl | assumption) ?_
  refine sw_get dX10_comesTo_1 fr_X10_26 rfl rfl ?_
  refine sw_iload_n dX10_comesTo_4 rfl ?_
  refine sw_Vv dX10_comesTo_5 k_X10_46 mf_X0_has (by have z := c_X0_has (l := l) (D := D) (cy := cy) (d := d - 1) (n := n) (f := f) (s := hwS s E) (A := hwA A E) (B := B) (o := o) (pr := pr) (nI t); rw [show chs (hwS s E) (nI t) = true from chs_n hC hCb ht] at z; exact z) rfl ⟨_, rfl, rfl⟩ (by omega) (by omega) (by omega) rfl rfl (Nat.le_of_ble_eq_true rfl) ?_
  refine sw_if_ne 13 dX10_comesTo_8 (by decide) (fun h8 => ?_) (fun h8 => ?_)
  · refine sw_aload_n dX10_comesTo_13 rfl (by first | rfl | assumption) ?_
    refine sw_get dX10_comesTo_14 fr_X10_9 rfl rfl ?_
    refine sw_iload_n dX10_comesTo_17 rfl ?_
    refine sw_ialdN (t) dX10_comesTo_18 rfl rfl (show t < 100 by omega) (by decide) ?_
    refine sw_top (y := E.1 t) rfl ?_
    refine sw_iconst (x := (-1)) dX10_comesTo_19 (by decide) ?_
    refine sw_icmp_ne 59 dX10_comesTo_20 (by decide) (fun h20 => ?_) (fun h20 => ?_)
    · have e4 : (cps E t h) = E := by rw [cps, if_neg h20]
      rw [e4]
      refine sw_aload_n dX10_comesTo_59 rfl (by first | rfl | assumption) ?_
      refine sw_get dX10_comesTo_60 fr_X10_9 rfl rfl ?_
      refine sw_iload_n dX10_comesTo_63 rfl ?_
      refine sw_ialdN (t) dX10_comesTo_64 rfl rfl (show t < 100 by omega) (by decide) ?_
      refine sw_top (y := E.1 t) rfl ?_
      refine sw_iload_n dX10_comesTo_65 rfl ?_
      refine sw_icmp_ne 73 dX10_comesTo_66 (by decide) (fun h66 => ?_) (fun h66 => ?_)
      · refine sw_iconst (x := 0) dX10_comesTo_73 (by decide) ?_
        exact sw_iret dX10_comesTo_74 rfl (by first | rfl | exact bz_n _) (by omega) (by omega) ⟨by rw [decide_eq_false h66]; rfl, rfl, rfl⟩
      · refine sw_iconst (x := 1) dX10_comesTo_69 (by decide) ?_
        refine sw_goto 74 dX10_comesTo_70 (by decide) ?_
        exact sw_iret dX10_comesTo_74 rfl (by first | rfl | exact bz_n _) (by omega) (by omega) ⟨by rw [decide_eq_true h66]; rfl, rfl, rfl⟩
    · have e3 := hr h20
      refine sw_aload_n dX10_comesTo_23 rfl (by first | rfl | assumption) ?_
      refine sw_get dX10_comesTo_24 fr_X10_22 rfl rfl ?_
      refine sw_top (y := nI E.2.2) rfl ?_
      refine sw_bipush (x := 100) dX10_comesTo_27 (by decide) ?_
      refine sw_icmp_ge 59 dX10_comesTo_29 (by decide) (fun h29 => ?_) (fun h29 => ?_)
      · exact absurd h29 (by rw [nl_100, nI_leI (by omega) (by omega)]; omega)
      · refine sw_aload_n dX10_comesTo_32 rfl (by first | rfl | assumption) ?_
        refine sw_get dX10_comesTo_33 fr_X10_9 rfl rfl ?_
        refine sw_iload_n dX10_comesTo_36 rfl ?_
        refine sw_iload_n dX10_comesTo_37 rfl ?_
        refine g_iast (t) dX10_comesTo_38 ⟨by decide, rfl, rfl⟩ rfl (show t < 100 by omega) rfl ?_
        refine sw_aload_n dX10_comesTo_39 rfl (by first | rfl | assumption) ?_
        refine sw_get dX10_comesTo_40 fr_X10_15 rfl rfl ?_
        refine sw_aload_n dX10_comesTo_43 rfl (by first | rfl | assumption) ?_
        refine sw_get dX10_comesTo_44 fr_X10_22 rfl rfl ?_
        refine sw_iload_n dX10_comesTo_47 rfl ?_
        refine g_iast (E.2.2) dX10_comesTo_48 ⟨by decide, rfl, rfl⟩ rfl (show E.2.2 < 100 by omega) rfl ?_
        refine sw_aload_n dX10_comesTo_49 rfl (by first | rfl | assumption) ?_
        refine sw_dup dX10_comesTo_50 rfl ?_
        refine sw_get dX10_comesTo_51 fr_X10_22 rfl rfl ?_
        refine sw_iconst (x := 1) dX10_comesTo_54 (by decide) ?_
        refine sw_iadd dX10_comesTo_55 ?_
        refine sw_top (y := nI (E.2.2 + 1)) (nI_1 _) ?_
        refine g_put 13 dX10_comesTo_56 fl_X10_22 rfl ⟨by decide, rfl⟩ rfl (Nat.le_of_ble_eq_true rfl) (sw_fit_i _) rfl ?_
        refine g_eq (s' := hwS s (cps E t h)) (A' := hwA A (cps E t h)) (by rw [cps, if_pos h20]; exact hwS_p s E (E.2.2 + 1) _ _) (by rw [cps, if_pos h20]; exact hwA_p A E _ _ _) rfl ?_
        refine sw_aload_n dX10_comesTo_59 rfl (by first | rfl | assumption) ?_
        refine sw_get dX10_comesTo_60 fr_X10_9 rfl rfl ?_
        refine sw_iload_n dX10_comesTo_63 rfl ?_
        refine sw_ialdN (t) dX10_comesTo_64 rfl rfl (show t < 100 by omega) (by decide) ?_
        refine sw_top (y := (cps E t h).1 t) rfl ?_
        refine sw_iload_n dX10_comesTo_65 rfl ?_
        refine sw_icmp_ne 73 dX10_comesTo_66 (by decide) (fun h66 => ?_) (fun h66 => ?_)
        · refine sw_iconst (x := 0) dX10_comesTo_73 (by decide) ?_
          exact sw_iret dX10_comesTo_74 rfl (by first | rfl | exact bz_n _) (by omega) (by omega) ⟨by rw [decide_eq_false h66]; rfl, rfl, rfl⟩
        · refine sw_iconst (x := 1) dX10_comesTo_69 (by decide) ?_
          refine sw_goto 74 dX10_comesTo_70 (by decide) ?_
          exact sw_iret dX10_comesTo_74 rfl (by first | rfl | exact bz_n _) (by omega) (by omega) ⟨by rw [decide_eq_true h66]; rfl, rfl, rfl⟩
  · exact absurd h8 (by decide)
def cgw (C : Nat) (K E : Nat → Int32) (W : CW) (k : Nat) : Bool × CW :=
  if K k = 9 then (decide (W.1 k = 0), W)
  else if W.1 k < r_tb (K k) ∨ 8 < W.1 k - r_tb (K k) + r_gb (K k) ∨ (¬ K k = 8 ∧ C ≤ k + 1) then (false, W)
  else
    let t := if K k = 8 then (E k).toNatClampNeg else k + 1
    let h := W.1 k - r_tb (K k) + r_gb (K k)
    if ¬ (cps W t h).1 t = h then (false, cps W t h)
    else if K k = 7 then (decide ((cps (cps W t h) (E k).toNatClampNeg h).1 (E k).toNatClampNeg = h), cps (cps W t h) (E k).toNatClampNeg h)
    else (true, cps W t h)
