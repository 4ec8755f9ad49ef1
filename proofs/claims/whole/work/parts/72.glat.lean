/-! ===== THE CLASS: Lattice ===== -/
def lhas (s : Nat → Int32) (a : Int32) : Bool := decide (0 ≤ a ∧ a < s 4)
set_option maxRecDepth 100000 in
theorem c_X3_has {l : Launch} {D : va_G} {cy : Nat → ClassId} {d n : Nat} {f : sw_F} {s : Nat → Int32} {A : Nat → Nat → Int32} {B : Nat → Nat → Int64} {o : Int64} {pr : Value} (a : Int32) : sw_Ct l D cy mX3_has d 0 0 [.ref 1, .int a] n (gd f s A B o pr) (sw_D (some (.int (bz (lhas s a)))) n (gd f s A B o pr)) := by
  refine sw_of rfl (Nat.le_of_ble_eq_true rfl) ?_
  show SW l D cy mX3_has d 0 0 0 0 0 [(0, .ref 1), (1, .int a)] [] n (gd f s A B o pr) _ _
  refine sw_iload_n dX3_has_0 rfl ?_
  refine sw_if_lt 16 dX3_has_1 (by decide) (fun h1 => ?_) (fun h1 => ?_)
  · refine sw_iconst (x := 0) dX3_has_16 (by decide) ?_
    exact sw_iret dX3_has_17 rfl (by first | rfl | exact bz_n _) (by omega) (by omega) ⟨by rw [lhas, decide_eq_false (fun q => absurd h1 (Int32.not_lt.mpr q.1))]; rfl, rfl, rfl⟩
  · refine sw_iload_n dX3_has_4 rfl ?_
    refine sw_aload_n dX3_has_5 rfl (by first | rfl | assumption) ?_
    refine sw_get dX3_has_6 fr_X3_15 rfl rfl ?_
    refine sw_icmp_ge 16 dX3_has_9 (by decide) (fun h9 => ?_) (fun h9 => ?_)
    · refine sw_iconst (x := 0) dX3_has_16 (by decide) ?_
      exact sw_iret dX3_has_17 rfl (by first | rfl | exact bz_n _) (by omega) (by omega) ⟨by rw [lhas, decide_eq_false (fun q => absurd q.2 (Int32.not_lt.mpr h9))]; rfl, rfl, rfl⟩
    · refine sw_iconst (x := 1) dX3_has_12 (by decide) ?_
      refine sw_goto 17 dX3_has_13 (by decide) ?_
      exact sw_iret dX3_has_17 rfl (by first | rfl | exact bz_n _) (by omega) (by omega) ⟨by rw [lhas, decide_eq_true ⟨Int32.not_lt.mp h1, Int32.not_le.mp h9⟩]; rfl, rfl, rfl⟩
set_option maxRecDepth 100000 in
theorem c_X3_bottom {l : Launch} {D : va_G} {cy : Nat → ClassId} {d n : Nat} {f : sw_F} {s : Nat → Int32} {A : Nat → Nat → Int32} {B : Nat → Nat → Int64} {o : Int64} {pr : Value}  : sw_Ct l D cy mX3_bottom d 0 0 [.ref 1] n (gd f s A B o pr) (sw_D (some (.int (s 5))) n (gd f s A B o pr)) := by
  refine sw_of rfl (Nat.le_of_ble_eq_true rfl) ?_
  show SW l D cy mX3_bottom d 0 0 0 0 0 [(0, .ref 1)] [] n (gd f s A B o pr) _ _
  refine sw_aload_n dX3_bottom_0 rfl (by first | rfl | assumption) ?_
  refine sw_get dX3_bottom_1 fr_X3_23 rfl rfl ?_
  exact sw_iret dX3_bottom_4 rfl (by first | rfl | exact bz_n _) (by omega) (by omega) ⟨rfl, rfl, rfl⟩
set_option maxRecDepth 100000 in
theorem c_X3_top {l : Launch} {D : va_G} {cy : Nat → ClassId} {d n : Nat} {f : sw_F} {s : Nat → Int32} {A : Nat → Nat → Int32} {B : Nat → Nat → Int64} {o : Int64} {pr : Value}  : sw_Ct l D cy mX3_top d 0 0 [.ref 1] n (gd f s A B o pr) (sw_D (some (.int (s 6))) n (gd f s A B o pr)) := by
  refine sw_of rfl (Nat.le_of_ble_eq_true rfl) ?_
  show SW l D cy mX3_top d 0 0 0 0 0 [(0, .ref 1)] [] n (gd f s A B o pr) _ _
  refine sw_aload_n dX3_top_0 rfl (by first | rfl | assumption) ?_
  refine sw_get dX3_top_1 fr_X3_26 rfl rfl ?_
  exact sw_iret dX3_top_4 rfl (by first | rfl | exact bz_n _) (by omega) (by omega) ⟨rfl, rfl, rfl⟩
def lall (s : Nat → Int32) (o : Int64) (a b : Int32) : Bool := lhas s a && lhas s b && hb o a b
set_option maxRecDepth 100000 in
theorem c_X3_allows {l : Launch} {D : va_G} {cy : Nat → ClassId} {d n : Nat} {f : sw_F} {s : Nat → Int32} {A : Nat → Nat → Int32} {B : Nat → Nat → Int64} {o : Int64} {pr : Value} (hd : 1 ≤ d) (a b : Int32) : sw_Ct l D cy mX3_allows d 0 0 [.ref 1, .int a, .int b] n (gd f s A B o pr) (sw_D (some (.int (bz (lall s o a b)))) n (gd f s A B o pr)) := by
  refine sw_of rfl (Nat.le_of_ble_eq_true rfl) ?_
  show SW l D cy mX3_allows d 0 0 0 0 0 [(0, .ref 1), (1, .int a), (2, .int b)] [] n (gd f s A B o pr) _ _
  refine sw_aload_n dX3_allows_0 rfl (by first | rfl | assumption) ?_
  refine sw_iload_n dX3_allows_1 rfl ?_
  refine sw_Vv dX3_allows_2 k_X3_53 mf_X3_has (c_X3_has (d := d - 1) _) rfl ⟨_, rfl, rfl⟩ (by omega) (by omega) (by omega) rfl rfl (Nat.le_of_ble_eq_true rfl) ?_
  refine sw_if_eq 32 dX3_allows_5 (by decide) (fun h5 => ?_) (fun h5 => ?_)
  · refine sw_iconst (x := 0) dX3_allows_32 (by decide) ?_
    exact sw_iret dX3_allows_33 rfl (by first | rfl | exact bz_n _) (by omega) (by omega) ⟨by rw [lall, bz_0.mp h5]; rfl, rfl, rfl⟩
  · refine sw_aload_n dX3_allows_8 rfl (by first | rfl | assumption) ?_
    refine sw_iload_n dX3_allows_9 rfl ?_
    refine sw_Vv dX3_allows_10 k_X3_53 mf_X3_has (c_X3_has (d := d - 1) _) rfl ⟨_, rfl, rfl⟩ (by omega) (by omega) (by omega) rfl rfl (Nat.le_of_ble_eq_true rfl) ?_
    refine sw_if_eq 32 dX3_allows_13 (by decide) (fun h13 => ?_) (fun h13 => ?_)
    · refine sw_iconst (x := 0) dX3_allows_32 (by decide) ?_
      exact sw_iret dX3_allows_33 rfl (by first | rfl | exact bz_n _) (by omega) (by omega) ⟨by rw [lall, bz_ne.mp h5, bz_0.mp h13]; rfl, rfl, rfl⟩
    · refine sw_aload_n dX3_allows_16 rfl (by first | rfl | assumption) ?_
      refine sw_get dX3_allows_17 fr_X3_19 rfl rfl ?_
      refine sw_iload_n dX3_allows_20 rfl ?_
      refine sw_iload_n dX3_allows_21 rfl ?_
      refine sw_Sv dX3_allows_22 k_X3_29 mf_X3_holds (c_X3_holds (d := d - 1) _ _ _) (by omega) (by omega) (by omega) rfl rfl (Nat.le_of_ble_eq_true rfl) ?_
      refine sw_if_eq 32 dX3_allows_25 (by decide) (fun h25 => ?_) (fun h25 => ?_)
      · refine sw_iconst (x := 0) dX3_allows_32 (by decide) ?_
        exact sw_iret dX3_allows_33 rfl (by first | rfl | exact bz_n _) (by omega) (by omega) ⟨by rw [lall, bz_ne.mp h5, bz_ne.mp h13, bz_0.mp h25]; rfl, rfl, rfl⟩
      · refine sw_iconst (x := 1) dX3_allows_28 (by decide) ?_
        refine sw_goto 33 dX3_allows_29 (by decide) ?_
        exact sw_iret dX3_allows_33 rfl (by first | rfl | exact bz_n _) (by omega) (by omega) ⟨by rw [lall, bz_ne.mp h5, bz_ne.mp h13, bz_ne.mp h25]; rfl, rfl, rfl⟩
def ljn (s : Nat → Int32) (A : Nat → Nat → Int32) (a b : Int32) : Int32 := if lhas s a && lhas s b then A 2 (6 * a.toNatClampNeg + b.toNatClampNeg) else -1
theorem lhas_i {s : Nat → Int32} {N : Nat} (hs : s 4 = nI N) (hN : N ≤ 6) {a : Int32} (h : lhas s a = true) : ∃ i, i < N ∧ a = nI i := by
  have h := of_decide_eq_true h
  rw [hs] at h
  obtain ⟨k, hk, rfl⟩ := nI_of2 (M := nI N) (n := N) (nI_toInt (by omega)) (Int32.not_lt.mpr h.1) (Int32.le_of_lt h.2)
  exact ⟨k, (nI_ltI (by omega) (by omega)).mp h.2, rfl⟩
theorem lhas_n {s : Nat → Int32} {N i : Nat} (hs : s 4 = nI N) (hN : N ≤ 6) (h : i < N) : lhas s (nI i) = true := by
  unfold lhas
  rw [hs]
  exact decide_eq_true ⟨Int32.not_lt.mp (i32_nlt0 (by omega)), (nI_ltI (by omega) (by omega)).mpr h⟩
set_option maxRecDepth 100000 in
theorem c_X3_joined {l : Launch} {D : va_G} {cy : Nat → ClassId} {d n : Nat} {f : sw_F} {s : Nat → Int32} {A : Nat → Nat → Int32} {B : Nat → Nat → Int64} {o : Int64} {pr : Value} (hd : 1 ≤ d) {N : Nat} (hs : s 4 = nI N) (hN : N ≤ 6) (a b : Int32) : sw_Ct l D cy mX3_joined d 0 0 [.ref 1, .int a, .int b] n (gd f s A B o pr) (sw_D (some (.int (ljn s A a b))) n (gd f s A B o pr)) := by
  refine sw_of rfl (Nat.le_of_ble_eq_true rfl) ?_
  show SW l D cy mX3_joined d 0 0 0 0 0 [(0, .ref 1), (1, .int a), (2, .int b)] [] n (gd f s A B o pr) _ _
  refine sw_aload_n dX3_joined_0 rfl (by first | rfl | assumption) ?_
  refine sw_iload_n dX3_joined_1 rfl ?_
  refine sw_Vv dX3_joined_2 k_X3_53 mf_X3_has (c_X3_has (d := d - 1) _) rfl ⟨_, rfl, rfl⟩ (by omega) (by omega) (by omega) rfl rfl (Nat.le_of_ble_eq_true rfl) ?_
  refine sw_if_eq 30 dX3_joined_5 (by decide) (fun h5 => ?_) (fun h5 => ?_)
  · refine sw_iconst (x := (-1)) dX3_joined_30 (by decide) ?_
    exact sw_iret dX3_joined_31 rfl (by first | rfl | exact bz_n _) (by omega) (by omega) ⟨by rw [ljn, bz_0.mp h5]; rfl, rfl, rfl⟩
  · refine sw_aload_n dX3_joined_8 rfl (by first | rfl | assumption) ?_
    refine sw_iload_n dX3_joined_9 rfl ?_
    refine sw_Vv dX3_joined_10 k_X3_53 mf_X3_has (c_X3_has (d := d - 1) _) rfl ⟨_, rfl, rfl⟩ (by omega) (by omega) (by omega) rfl rfl (Nat.le_of_ble_eq_true rfl) ?_
    refine sw_if_eq 30 dX3_joined_13 (by decide) (fun h13 => ?_) (fun h13 => ?_)
    · refine sw_iconst (x := (-1)) dX3_joined_30 (by decide) ?_
      exact sw_iret dX3_joined_31 rfl (by first | rfl | exact bz_n _) (by omega) (by omega) ⟨by rw [ljn, bz_ne.mp h5, bz_0.mp h13]; rfl, rfl, rfl⟩
    · obtain ⟨i, hi, rfl⟩ := lhas_i hs hN (bz_ne.mp h5)
      obtain ⟨j, hj, rfl⟩ := lhas_i hs hN (bz_ne.mp h13)
      refine sw_aload_n dX3_joined_16 rfl (by first | rfl | assumption) ?_
      refine sw_get dX3_joined_17 fr_X3_9 rfl rfl ?_
      refine sw_bipush (x := 6) dX3_joined_20 (by decide) ?_
      refine sw_iload_n dX3_joined_22 rfl ?_
      refine sw_imul dX3_joined_23 ?_
      refine sw_iload_n dX3_joined_24 rfl ?_
      refine sw_iadd dX3_joined_25 ?_
      refine sw_ialdN (6 * i + j) dX3_joined_26 rfl (by rw [nl_6, pk_mul, nI_add]) (show 6 * i + j < 36 by omega) (by decide) ?_
      refine sw_goto 31 dX3_joined_27 (by decide) ?_
      exact sw_iret dX3_joined_31 rfl (by first | rfl | exact bz_n _) (by omega) (by omega) ⟨by rw [ljn, bz_ne.mp h5, bz_ne.mp h13, nI_clamp (by omega), nI_clamp (by omega)]; rfl, rfl, rfl⟩
theorem q_holds {l : Launch} {D : va_G} {cy : Nat → ClassId} {d n : Nat} {f : sw_F} (w : Int64) (i j : Nat) : sw_Ct l D cy mX3_holds d 0 0 [.long w, .int (nI i), .int (nI j)] n f (sw_D (some (.int (bz (cbit w (6 * i + j))))) n f) := by
  have h := c_X3_holds (l := l) (D := D) (cy := cy) (d := d) (n := n) (f := f) w (nI i) (nI j)
  rw [hb_c] at h
  exact h
def cpo (w : Int64) (a b c : Nat) : Bool := !cbit w (6 * b + c) || cbit w (6 * a + c)
set_option maxRecDepth 100000 in
theorem l_X3_po {l : Launch} {D : va_G} {cy : Nat → ClassId} {d n : Nat} {f : sw_F} (hd : 1 ≤ d) {N : Nat} (hN : N ≤ 6) (w : Int64) (a b : Nat) {QX : sw_QX} : ∀ (k c : Nat), c ≤ N → N < c + k → SW l D cy mX3_passesOn d 0 0 0 0 3 [(0, .int (nI N)), (1, .long w), (3, .int (nI a)), (4, .int (nI b)), (5, .int (nI c))] [] n f (sw_D (some (.int (bz (allF (cpo w a b) c (N - c))))) n f) QX := by
  intro k
  induction k with
  | zero => intro c0 h1 h2; exact absurd h2 (by omega)
  | succ k ih =>
    intro c he hk
    refine sw_iload dX3_passesOn_3 rfl ?_
    refine sw_iload_n dX3_passesOn_5 rfl ?_
    refine sw_icmp_ge 38 dX3_passesOn_6 (by decide) (fun h6 => ?_) (fun h6 => ?_)
    · refine sw_iconst (x := 1) dX3_passesOn_38 (by decide) ?_
      exact sw_iret dX3_passesOn_39 rfl (by first | rfl | exact bz_n _) (by omega) (by omega) ⟨by rw [allF_end ((nI_leI (by omega) (by omega)).mp h6)]; rfl, rfl, rfl⟩
    · have e1 : c < N := (nI_ltI (by omega) (by omega)).mp (i32_nle.mp h6)
      refine sw_lload_n dX3_passesOn_9 rfl ?_
      refine sw_iload dX3_passesOn_10 rfl ?_
      refine sw_iload dX3_passesOn_12 rfl ?_
      refine sw_Sv dX3_passesOn_14 k_X3_29 mf_X3_holds (q_holds (d := d - 1) _ _ _) (by omega) (by omega) (by omega) rfl rfl (Nat.le_of_ble_eq_true rfl) ?_
      refine sw_if_eq 32 dX3_passesOn_17 (by decide) (fun h17 => ?_) (fun h17 => ?_)
      · first | refine sw_inc1 [(0, _), (1, _), (3, _), (4, _), (5, _)] dX3_passesOn_32 rfl (by decide) rfl ?_ | refine sw_iinc [(0, _), (1, _), (3, _), (4, _), (5, _)] dX3_passesOn_32 rfl (by decide) rfl ?_
        refine sw_goto 3 dX3_passesOn_35 (by decide) ?_
        rw [allF_step e1, show cpo w a b c = true from by rw [cpo, bz_0.mp h17, Bool.not_false, Bool.true_or], Bool.true_and]
        exact ih (c + 1) (by omega) (by omega)
      · refine sw_lload_n dX3_passesOn_20 rfl ?_
        refine sw_iload_n dX3_passesOn_21 rfl ?_
        refine sw_iload dX3_passesOn_22 rfl ?_
        refine sw_Sv dX3_passesOn_24 k_X3_29 mf_X3_holds (q_holds (d := d - 1) _ _ _) (by omega) (by omega) (by omega) rfl rfl (Nat.le_of_ble_eq_true rfl) ?_
        refine sw_if_ne 32 dX3_passesOn_27 (by decide) (fun h27 => ?_) (fun h27 => ?_)
        · first | refine sw_inc1 [(0, _), (1, _), (3, _), (4, _), (5, _)] dX3_passesOn_32 rfl (by decide) rfl ?_ | refine sw_iinc [(0, _), (1, _), (3, _), (4, _), (5, _)] dX3_passesOn_32 rfl (by decide) rfl ?_
          refine sw_goto 3 dX3_passesOn_35 (by decide) ?_
          rw [allF_step e1, show cpo w a b c = true from by rw [cpo, bz_ne.mp h27, Bool.or_true], Bool.true_and]
          exact ih (c + 1) (by omega) (by omega)
        · refine sw_iconst (x := 0) dX3_passesOn_30 (by decide) ?_
          exact sw_iret dX3_passesOn_31 rfl (by first | rfl | exact bz_n _) (by omega) (by omega) ⟨by rw [allF_step e1, show cpo w a b c = false from by rw [cpo, bz_ne.mp h17, bz_0.mp h27]; rfl, Bool.false_and]; rfl, rfl, rfl⟩
set_option maxRecDepth 100000 in
theorem c_X3_passesOn {l : Launch} {D : va_G} {cy : Nat → ClassId} {d n : Nat} {f : sw_F} (hd : 1 ≤ d) {N : Nat} (hN : N ≤ 6) (w : Int64) (a b : Nat) : sw_Ct l D cy mX3_passesOn d 0 0 [.int (nI N), .long w, .int (nI a), .int (nI b)] n f (sw_D (some (.int (bz (allF (cpo w a b) 0 N)))) n f) := by
  refine sw_of rfl (Nat.le_of_ble_eq_true rfl) ?_
  show SW l D cy mX3_passesOn d 0 0 0 0 0 [(0, .int (nI N)), (1, .long w), (3, .int (nI a)), (4, .int (nI b))] [] n f _ _
  refine sw_iconst (x := 0) dX3_passesOn_0 (by decide) ?_
  refine sw_istore [(0, _), (1, _), (3, _), (4, _), (5, _)] dX3_passesOn_1 (by decide) rfl ?_
  exact l_X3_po hd hN w a b (N + 1) 0 (by omega) (by omega)
def cob (w : Int64) (N a b : Nat) : Bool := decide (a = b) || !cbit w (6 * a + b) || (!cbit w (6 * b + a) && allF (cpo w a b) 0 N)
def coa (w : Int64) (N a : Nat) : Bool := cbit w (6 * a + a) && allF (cob w N a) 0 N
def cord (w : Int64) (N : Nat) : Bool := allF (coa w N) 0 N
set_option maxRecDepth 100000 in
theorem l_X3_ord2 {l : Launch} {D : va_G} {cy : Nat → ClassId} {d n : Nat} {f : sw_F} (hd : 2 ≤ d) {N : Nat} (hN : N ≤ 6) (w : Int64) {a : Nat} (ha : a < N) {QX : sw_QX} {Q : sw_Q} (K : allF (cob w N a) 0 N = true → SW l D cy mX3_isOrder d 0 0 0 0 72 [(0, .int (nI N)), (1, .long w), (3, .int (nI a))] [] n f Q QX) (K0 : allF (cob w N a) 0 N = false → Q (some (.int 0)) n f) : ∀ (k b : Nat), b ≤ N → N < b + k → allF (cob w N a) 0 N = allF (cob w N a) b (N - b) → SW l D cy mX3_isOrder d 0 0 0 0 21 [(0, .int (nI N)), (1, .long w), (3, .int (nI a)), (4, .int (nI b))] [] n f Q QX := by
  intro k
  induction k with
  | zero => intro c0 h1 h2; exact absurd h2 (by omega)
  | succ k ih =>
    intro b he hk hA
    refine sw_iload dX3_isOrder_21 rfl ?_
    refine sw_iload_n dX3_isOrder_23 rfl ?_
    refine sw_icmp_ge 72 dX3_isOrder_24 (by decide) (fun h24 => ?_) (fun h24 => ?_)
    · refine sw_keep [0, 1, 2] rfl ?_
      exact K (by rw [hA, allF_end ((nI_leI (by omega) (by omega)).mp h24)])
    · have e1 : b < N := (nI_ltI (by omega) (by omega)).mp (i32_nle.mp h24)
      refine sw_iload_n dX3_isOrder_27 rfl ?_
      refine sw_iload dX3_isOrder_28 rfl ?_
      refine sw_icmp_eq 66 dX3_isOrder_30 (by decide) (fun h30 => ?_) (fun h30 => ?_)
      · first | refine sw_inc1 [(0, _), (1, _), (3, _), (4, _)] dX3_isOrder_66 rfl (by decide) rfl ?_ | refine sw_iinc [(0, _), (1, _), (3, _), (4, _)] dX3_isOrder_66 rfl (by decide) rfl ?_
        refine sw_goto 21 dX3_isOrder_69 (by decide) ?_
        refine ih (b + 1) (by omega) (by omega) ?_
        rw [hA, allF_step e1, show cob w N a b = true from by rw [cob, decide_eq_true (nI_inj (by omega) (by omega) h30)]; rfl, Bool.true_and]
      · refine sw_lload_n dX3_isOrder_33 rfl ?_
        refine sw_iload_n dX3_isOrder_34 rfl ?_
        refine sw_iload dX3_isOrder_35 rfl ?_
        refine sw_Sv dX3_isOrder_37 k_X3_29 mf_X3_holds (q_holds (d := d - 1) _ _ _) (by omega) (by omega) (by omega) rfl rfl (Nat.le_of_ble_eq_true rfl) ?_
        refine sw_if_eq 66 dX3_isOrder_40 (by decide) (fun h40 => ?_) (fun h40 => ?_)
        · first | refine sw_inc1 [(0, _), (1, _), (3, _), (4, _)] dX3_isOrder_66 rfl (by decide) rfl ?_ | refine sw_iinc [(0, _), (1, _), (3, _), (4, _)] dX3_isOrder_66 rfl (by decide) rfl ?_
          refine sw_goto 21 dX3_isOrder_69 (by decide) ?_
          refine ih (b + 1) (by omega) (by omega) ?_
          rw [hA, allF_step e1, show cob w N a b = true from by rw [cob, bz_0.mp h40]; simp, Bool.true_and]
        · refine sw_lload_n dX3_isOrder_43 rfl ?_
          refine sw_iload dX3_isOrder_44 rfl ?_
          refine sw_iload_n dX3_isOrder_46 rfl ?_
          refine sw_Sv dX3_isOrder_47 k_X3_29 mf_X3_holds (q_holds (d := d - 1) _ _ _) (by omega) (by omega) (by omega) rfl rfl (Nat.le_of_ble_eq_true rfl) ?_
          refine sw_if_ne 64 dX3_isOrder_50 (by decide) (fun h50 => ?_) (fun h50 => ?_)
          · refine sw_iconst (x := 0) dX3_isOrder_64 (by decide) ?_
            exact sw_iret dX3_isOrder_65 rfl (by first | rfl | exact bz_n _) (by omega) (by omega) (K0 (by rw [hA, allF_step e1, show cob w N a b = false from by rw [cob, decide_eq_false (fun q => h30 (congrArg nI q)), bz_ne.mp h40, bz_ne.mp h50]; rfl, Bool.false_and]))
          · refine sw_iload_n dX3_isOrder_53 rfl ?_
            refine sw_lload_n dX3_isOrder_54 rfl ?_
            refine sw_iload_n dX3_isOrder_55 rfl ?_
            refine sw_iload dX3_isOrder_56 rfl ?_
            refine sw_Sv dX3_isOrder_58 k_X3_33 mf_X3_passesOn (c_X3_passesOn (d := d - 1) (by omega) hN w a b) (by omega) (by omega) (by omega) rfl rfl (Nat.le_of_ble_eq_true rfl) ?_
            refine sw_if_ne 66 dX3_isOrder_61 (by decide) (fun h61 => ?_) (fun h61 => ?_)
            · first | refine sw_inc1 [(0, _), (1, _), (3, _), (4, _)] dX3_isOrder_66 rfl (by decide) rfl ?_ | refine sw_iinc [(0, _), (1, _), (3, _), (4, _)] dX3_isOrder_66 rfl (by decide) rfl ?_
              refine sw_goto 21 dX3_isOrder_69 (by decide) ?_
              refine ih (b + 1) (by omega) (by omega) ?_
              rw [hA, allF_step e1, show cob w N a b = true from by rw [cob, bz_ne.mp h40, bz_0.mp h50, bz_ne.mp h61]; simp, Bool.true_and]
            · refine sw_iconst (x := 0) dX3_isOrder_64 (by decide) ?_
              exact sw_iret dX3_isOrder_65 rfl (by first | rfl | exact bz_n _) (by omega) (by omega) (K0 (by rw [hA, allF_step e1, show cob w N a b = false from by rw [cob, decide_eq_false (fun q => h30 (congrArg nI q)), bz_ne.mp h40, bz_0.mp h50, bz_0.mp h61]; rfl, Bool.false_and]))
set_option maxRecDepth 100000 in
theorem l_X3_ord1 {l : Launch} {D : va_G} {cy : Nat → ClassId} {d n : Nat} {f : sw_F} (hd : 2 ≤ d) {N : Nat} (hN : N ≤ 6) (w : Int64) {QX : sw_QX} : ∀ (k a : Nat), a ≤ N → N < a + k → SW l D cy mX3_isOrder d 0 0 0 0 2 [(0, .int (nI N)), (1, .long w), (3, .int (nI a))] [] n f (sw_D (some (.int (bz (allF (coa w N) a (N - a))))) n f) QX := by
  intro k
  induction k with
  | zero => intro c0 h1 h2; exact absurd h2 (by omega)
  | succ k ih =>
    intro a he hk
    refine sw_iload_n dX3_isOrder_2 rfl ?_
    refine sw_iload_n dX3_isOrder_3 rfl ?_
    refine sw_icmp_ge 78 dX3_isOrder_4 (by decide) (fun h4 => ?_) (fun h4 => ?_)
    · refine sw_iconst (x := 1) dX3_isOrder_78 (by decide) ?_
      exact sw_iret dX3_isOrder_79 rfl (by first | rfl | exact bz_n _) (by omega) (by omega) ⟨by rw [allF_end ((nI_leI (by omega) (by omega)).mp h4)]; rfl, rfl, rfl⟩
    · have e1 : a < N := (nI_ltI (by omega) (by omega)).mp (i32_nle.mp h4)
      refine sw_lload_n dX3_isOrder_7 rfl ?_
      refine sw_iload_n dX3_isOrder_8 rfl ?_
      refine sw_iload_n dX3_isOrder_9 rfl ?_
      refine sw_Sv dX3_isOrder_10 k_X3_29 mf_X3_holds (q_holds (d := d - 1) _ _ _) (by omega) (by omega) (by omega) rfl rfl (Nat.le_of_ble_eq_true rfl) ?_
      refine sw_if_ne 18 dX3_isOrder_13 (by decide) (fun h13 => ?_) (fun h13 => ?_)
      · refine sw_iconst (x := 0) dX3_isOrder_18 (by decide) ?_
        refine sw_istore [(0, _), (1, _), (3, _), (4, _)] dX3_isOrder_19 (by decide) rfl ?_
        refine l_X3_ord2 hd hN w e1 (fun hA => ?_) (fun hA => ?_) (N + 1) 0 (by omega) (by omega) rfl
        · rw [allF_step e1, show coa w N a = true from by rw [coa, bz_ne.mp h13, hA]; rfl, Bool.true_and]
          first | refine sw_inc1 [(0, _), (1, _), (3, _)] dX3_isOrder_72 rfl (by decide) rfl ?_ | skip
          refine sw_goto 2 dX3_isOrder_75 (by decide) ?_
          exact ih (a + 1) (by omega) (by omega)
        · rw [allF_step e1, show coa w N a = false from by rw [coa, bz_ne.mp h13, hA]; rfl, Bool.false_and]
          exact ⟨rfl, rfl, rfl⟩
      · refine sw_iconst (x := 0) dX3_isOrder_16 (by decide) ?_
        exact sw_iret dX3_isOrder_17 rfl (by first | rfl | exact bz_n _) (by omega) (by omega) ⟨by rw [allF_step e1, show coa w N a = false from by rw [coa, bz_0.mp h13]; rfl, Bool.false_and]; rfl, rfl, rfl⟩
set_option maxRecDepth 100000 in
theorem c_X3_isOrder {l : Launch} {D : va_G} {cy : Nat → ClassId} {d n : Nat} {f : sw_F} (hd : 2 ≤ d) {N : Nat} (hN : N ≤ 6) (w : Int64) : sw_Ct l D cy mX3_isOrder d 0 0 [.int (nI N), .long w] n f (sw_D (some (.int (bz (cord w N)))) n f) := by
  refine sw_of rfl (Nat.le_of_ble_eq_true rfl) ?_
  show SW l D cy mX3_isOrder d 0 0 0 0 0 [(0, .int (nI N)), (1, .long w)] [] n f _ _
  refine sw_iconst (x := 0) dX3_isOrder_0 (by decide) ?_
  refine sw_istore_n [(0, _), (1, _), (3, _)] dX3_isOrder_1 (by decide) rfl ?_
  exact l_X3_ord1 hd hN w (N + 1) 0 (by omega) (by omega)
set_option maxRecDepth 100000 in
theorem c_X3_isAboveBoth {l : Launch} {D : va_G} {cy : Nat → ClassId} {d n : Nat} {f : sw_F} (hd : 1 ≤ d) (w : Int64) (a b c : Nat) : sw_Ct l D cy mX3_isAboveBoth d 0 0 [.long w, .int (nI a), .int (nI b), .int (nI c)] n f (sw_D (some (.int (bz (cbit w (6 * a + c) && cbit w (6 * b + c))))) n f) := by
  refine sw_of rfl (Nat.le_of_ble_eq_true rfl) ?_
  show SW l D cy mX3_isAboveBoth d 0 0 0 0 0 [(0, .long w), (2, .int (nI a)), (3, .int (nI b)), (4, .int (nI c))] [] n f _ _
  refine sw_lload_n dX3_isAboveBoth_0 rfl ?_
  refine sw_iload_n dX3_isAboveBoth_1 rfl ?_
  refine sw_iload dX3_isAboveBoth_2 rfl ?_
  refine sw_Sv dX3_isAboveBoth_4 k_X3_29 mf_X3_holds (q_holds (d := d - 1) _ _ _) (by omega) (by omega) (by omega) rfl rfl (Nat.le_of_ble_eq_true rfl) ?_
  refine sw_if_eq 24 dX3_isAboveBoth_7 (by decide) (fun h7 => ?_) (fun h7 => ?_)
  · refine sw_iconst (x := 0) dX3_isAboveBoth_24 (by decide) ?_
    exact sw_iret dX3_isAboveBoth_25 rfl (by first | rfl | exact bz_n _) (by omega) (by omega) ⟨by rw [bz_0.mp h7]; rfl, rfl, rfl⟩
  · refine sw_lload_n dX3_isAboveBoth_10 rfl ?_
    refine sw_iload_n dX3_isAboveBoth_11 rfl ?_
    refine sw_iload dX3_isAboveBoth_12 rfl ?_
    refine sw_Sv dX3_isAboveBoth_14 k_X3_29 mf_X3_holds (q_holds (d := d - 1) _ _ _) (by omega) (by omega) (by omega) rfl rfl (Nat.le_of_ble_eq_true rfl) ?_
    refine sw_if_eq 24 dX3_isAboveBoth_17 (by decide) (fun h17 => ?_) (fun h17 => ?_)
    · refine sw_iconst (x := 0) dX3_isAboveBoth_24 (by decide) ?_
      exact sw_iret dX3_isAboveBoth_25 rfl (by first | rfl | exact bz_n _) (by omega) (by omega) ⟨by rw [bz_ne.mp h7, bz_0.mp h17]; rfl, rfl, rfl⟩
    · refine sw_iconst (x := 1) dX3_isAboveBoth_20 (by decide) ?_
      refine sw_goto 25 dX3_isAboveBoth_21 (by decide) ?_
      exact sw_iret dX3_isAboveBoth_25 rfl (by first | rfl | exact bz_n _) (by omega) (by omega) ⟨by rw [bz_ne.mp h7, bz_ne.mp h17]; rfl, rfl, rfl⟩
set_option maxRecDepth 100000 in
theorem l_X3_il {l : Launch} {D : va_G} {cy : Nat → ClassId} {d n : Nat} {f : sw_F} (hd : 2 ≤ d) {N : Nat} (hN : N ≤ 6) (w : Int64) (a b c : Nat) {QX : sw_QX} : ∀ (k e : Nat), e ≤ N → N < e + k → SW l D cy mX3_isLeast d 0 0 0 0 3 [(0, .int (nI N)), (1, .long w), (3, .int (nI a)), (4, .int (nI b)), (5, .int (nI c)), (6, .int (nI e))] [] n f (sw_D (some (.int (bz (allF (r_bq (cbit w) a b false c) e (N - e))))) n f) QX := by
  intro k
  induction k with
  | zero => intro c0 h1 h2; exact absurd h2 (by omega)
  | succ k ih =>
    intro e he hk
    refine sw_iload dX3_isLeast_3 rfl ?_
    refine sw_iload_n dX3_isLeast_5 rfl ?_
    refine sw_icmp_ge 40 dX3_isLeast_6 (by decide) (fun h6 => ?_) (fun h6 => ?_)
    · refine sw_iconst (x := 1) dX3_isLeast_40 (by decide) ?_
      exact sw_iret dX3_isLeast_41 rfl (by first | rfl | exact bz_n _) (by omega) (by omega) ⟨by rw [allF_end ((nI_leI (by omega) (by omega)).mp h6)]; rfl, rfl, rfl⟩
    · have e1 : e < N := (nI_ltI (by omega) (by omega)).mp (i32_nle.mp h6)
      refine sw_lload_n dX3_isLeast_9 rfl ?_
      refine sw_iload_n dX3_isLeast_10 rfl ?_
      refine sw_iload dX3_isLeast_11 rfl ?_
      refine sw_iload dX3_isLeast_13 rfl ?_
      refine sw_Sv dX3_isLeast_15 k_X3_45 mf_X3_isAboveBoth (c_X3_isAboveBoth (d := d - 1) (by omega) w a b _) (by omega) (by omega) (by omega) rfl rfl (Nat.le_of_ble_eq_true rfl) ?_
      refine sw_if_eq 34 dX3_isLeast_18 (by decide) (fun h18 => ?_) (fun h18 => ?_)
      · first | refine sw_inc1 [(0, _), (1, _), (3, _), (4, _), (5, _), (6, _)] dX3_isLeast_34 rfl (by decide) rfl ?_ | refine sw_iinc [(0, _), (1, _), (3, _), (4, _), (5, _), (6, _)] dX3_isLeast_34 rfl (by decide) rfl ?_
        refine sw_goto 3 dX3_isLeast_37 (by decide) ?_
        rw [allF_step e1, show r_bq (cbit w) a b false c e = true from by show (!(cbit w (6 * a + e) && cbit w (6 * b + e)) || cbit w (6 * c + e)) = true; rw [bz_0.mp h18]; rfl, Bool.true_and]
        exact ih (e + 1) (by omega) (by omega)
      · refine sw_lload_n dX3_isLeast_21 rfl ?_
        refine sw_iload dX3_isLeast_22 rfl ?_
        refine sw_iload dX3_isLeast_24 rfl ?_
        refine sw_Sv dX3_isLeast_26 k_X3_29 mf_X3_holds (q_holds (d := d - 1) _ _ _) (by omega) (by omega) (by omega) rfl rfl (Nat.le_of_ble_eq_true rfl) ?_
        refine sw_if_ne 34 dX3_isLeast_29 (by decide) (fun h29 => ?_) (fun h29 => ?_)
        · first | refine sw_inc1 [(0, _), (1, _), (3, _), (4, _), (5, _), (6, _)] dX3_isLeast_34 rfl (by decide) rfl ?_ | refine sw_iinc [(0, _), (1, _), (3, _), (4, _), (5, _), (6, _)] dX3_isLeast_34 rfl (by decide) rfl ?_
          refine sw_goto 3 dX3_isLeast_37 (by decide) ?_
          rw [allF_step e1, show r_bq (cbit w) a b false c e = true from by show (!(cbit w (6 * a + e) && cbit w (6 * b + e)) || cbit w (6 * c + e)) = true; rw [bz_ne.mp h29, Bool.or_true], Bool.true_and]
          exact ih (e + 1) (by omega) (by omega)
        · refine sw_iconst (x := 0) dX3_isLeast_32 (by decide) ?_
          exact sw_iret dX3_isLeast_33 rfl (by first | rfl | exact bz_n _) (by omega) (by omega) ⟨by rw [allF_step e1, show r_bq (cbit w) a b false c e = false from by show (!(cbit w (6 * a + e) && cbit w (6 * b + e)) || cbit w (6 * c + e)) = false; rw [bz_ne.mp h18, bz_0.mp h29]; rfl, Bool.false_and]; rfl, rfl, rfl⟩
set_option maxRecDepth 100000 in
theorem c_X3_isLeast {l : Launch} {D : va_G} {cy : Nat → ClassId} {d n : Nat} {f : sw_F} (hd : 2 ≤ d) {N : Nat} (hN : N ≤ 6) (w : Int64) (a b c : Nat) : sw_Ct l D cy mX3_isLeast d 0 0 [.int (nI N), .long w, .int (nI a), .int (nI b), .int (nI c)] n f (sw_D (some (.int (bz (allF (r_bq (cbit w) a b false c) 0 N)))) n f) := by
  refine sw_of rfl (Nat.le_of_ble_eq_true rfl) ?_
  show SW l D cy mX3_isLeast d 0 0 0 0 0 [(0, .int (nI N)), (1, .long w), (3, .int (nI a)), (4, .int (nI b)), (5, .int (nI c))] [] n f _ _
  refine sw_iconst (x := 0) dX3_isLeast_0 (by decide) ?_
  refine sw_istore [(0, _), (1, _), (3, _), (4, _), (5, _), (6, _)] dX3_isLeast_1 (by decide) rfl ?_
  exact l_X3_il hd hN w a b c (N + 1) 0 (by omega) (by omega)
set_option maxRecDepth 100000 in
theorem l_X3_la {l : Launch} {D : va_G} {cy : Nat → ClassId} {d n : Nat} {f : sw_F} (hd : 3 ≤ d) {N : Nat} (hN : N ≤ 6) (w : Int64) (a b : Nat) {QX : sw_QX} : ∀ (k c : Nat), c ≤ N → N < c + k → SW l D cy mX3_leastAbove d 0 0 0 0 3 [(0, .int (nI N)), (1, .long w), (3, .int (nI a)), (4, .int (nI b)), (5, .int (nI c))] [] n f (sw_D (some (.int (match fstF (r_isB (cbit w) N a b false) c (N - c) with | some c => nI c | none => -1))) n f) QX := by
  intro k
  induction k with
  | zero => intro c0 h1 h2; exact absurd h2 (by omega)
  | succ k ih =>
    intro c he hk
    refine sw_iload dX3_leastAbove_3 rfl ?_
    refine sw_iload_n dX3_leastAbove_5 rfl ?_
    refine sw_icmp_ge 43 dX3_leastAbove_6 (by decide) (fun h6 => ?_) (fun h6 => ?_)
    · refine sw_iconst (x := (-1)) dX3_leastAbove_43 (by decide) ?_
      exact sw_iret dX3_leastAbove_44 rfl (by first | rfl | exact bz_n _) (by omega) (by omega) ⟨by rw [show N - c = 0 by have := (nI_leI (by omega) (by omega)).mp h6; omega]; rfl, rfl, rfl⟩
    · have e1 : c < N := (nI_ltI (by omega) (by omega)).mp (i32_nle.mp h6)
      rw [show N - c = (N - (c + 1)) + 1 by omega, fstF]
      refine sw_lload_n dX3_leastAbove_9 rfl ?_
      refine sw_iload_n dX3_leastAbove_10 rfl ?_
      refine sw_iload dX3_leastAbove_11 rfl ?_
      refine sw_iload dX3_leastAbove_13 rfl ?_
      refine sw_Sv dX3_leastAbove_15 k_X3_45 mf_X3_isAboveBoth (c_X3_isAboveBoth (d := d - 1) (by omega) w a b _) (by omega) (by omega) (by omega) rfl rfl (Nat.le_of_ble_eq_true rfl) ?_
      refine sw_if_eq 37 dX3_leastAbove_18 (by decide) (fun h18 => ?_) (fun h18 => ?_)
      · first | refine sw_inc1 [(0, _), (1, _), (3, _), (4, _), (5, _)] dX3_leastAbove_37 rfl (by decide) rfl ?_ | refine sw_iinc [(0, _), (1, _), (3, _), (4, _), (5, _)] dX3_leastAbove_37 rfl (by decide) rfl ?_
        refine sw_goto 3 dX3_leastAbove_40 (by decide) ?_
        rw [if_neg (by show ¬ ((cbit w (6 * a + c) && cbit w (6 * b + c)) && allF (r_bq (cbit w) a b false c) 0 N) = true; rw [bz_0.mp h18, Bool.false_and]; decide)]
        exact ih (c + 1) (by omega) (by omega)
      · refine sw_iload_n dX3_leastAbove_21 rfl ?_
        refine sw_lload_n dX3_leastAbove_22 rfl ?_
        refine sw_iload_n dX3_leastAbove_23 rfl ?_
        refine sw_iload dX3_leastAbove_24 rfl ?_
        refine sw_iload dX3_leastAbove_26 rfl ?_
        refine sw_Sv dX3_leastAbove_28 k_X3_49 mf_X3_isLeast (c_X3_isLeast (d := d - 1) (by omega) hN w a b _) (by omega) (by omega) (by omega) rfl rfl (Nat.le_of_ble_eq_true rfl) ?_
        refine sw_if_eq 37 dX3_leastAbove_31 (by decide) (fun h31 => ?_) (fun h31 => ?_)
        · first | refine sw_inc1 [(0, _), (1, _), (3, _), (4, _), (5, _)] dX3_leastAbove_37 rfl (by decide) rfl ?_ | refine sw_iinc [(0, _), (1, _), (3, _), (4, _), (5, _)] dX3_leastAbove_37 rfl (by decide) rfl ?_
          refine sw_goto 3 dX3_leastAbove_40 (by decide) ?_
          rw [if_neg (by show ¬ ((cbit w (6 * a + c) && cbit w (6 * b + c)) && allF (r_bq (cbit w) a b false c) 0 N) = true; rw [bz_ne.mp h18, bz_0.mp h31]; decide)]
          exact ih (c + 1) (by omega) (by omega)
        · refine sw_iload dX3_leastAbove_34 rfl ?_
          exact sw_iret dX3_leastAbove_36 rfl (by first | rfl | exact bz_n _) (by omega) (by omega) ⟨by rw [if_pos (by show ((cbit w (6 * a + c) && cbit w (6 * b + c)) && allF (r_bq (cbit w) a b false c) 0 N) = true; rw [bz_ne.mp h18, bz_ne.mp h31]; rfl)], rfl, rfl⟩
set_option maxRecDepth 100000 in
theorem c_X3_leastAbove {l : Launch} {D : va_G} {cy : Nat → ClassId} {d n : Nat} {f : sw_F} (hd : 3 ≤ d) {N : Nat} (hN : N ≤ 6) (w : Int64) (a b : Nat) : sw_Ct l D cy mX3_leastAbove d 0 0 [.int (nI N), .long w, .int (nI a), .int (nI b)] n f (sw_D (some (.int (r_bd (cbit w) N a b false))) n f) := by
  refine sw_of rfl (Nat.le_of_ble_eq_true rfl) ?_
  show SW l D cy mX3_leastAbove d 0 0 0 0 0 [(0, .int (nI N)), (1, .long w), (3, .int (nI a)), (4, .int (nI b))] [] n f _ _
  refine sw_iconst (x := 0) dX3_leastAbove_0 (by decide) ?_
  refine sw_istore [(0, _), (1, _), (3, _), (4, _), (5, _)] dX3_leastAbove_1 (by decide) rfl ?_
  exact l_X3_la hd hN w a b (N + 1) 0 (by omega) (by omega)
