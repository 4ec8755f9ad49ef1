/-! ===== THE REFERENCE: small methods ===== -/
theorem bz_ne {b : Bool} : ¬ bz b = 0 ↔ b = true := by cases b <;> decide
theorem i32_ge {a : Int32} : ¬ a < 0 ↔ 0 ≤ a := by grind
set_option maxRecDepth 100000 in
theorem c_X12_thrown {l : Launch} {D : va_G} {cy : Nat → ClassId} {d n : Nat} {f : sw_F} {s : Nat → Int32} {A : Nat → Nat → Int32}  : sw_Ct l D cy mX12_thrown d 0 0 [.ref 150] n (md f s A) (sw_D (some (.int (s 0))) n (md f (s) (A))) := by
  refine sw_of rfl (Nat.le_of_ble_eq_true rfl) ?_
  show SW l D cy mX12_thrown d 0 0 0 0 0 [(0, .ref 150)] [] n (md f s A) _ _
  refine sw_aload_n dX12_thrown_0 rfl (by first | rfl | assumption) ?_
  refine sw_get dX12_thrown_1 fr_X12_124 rfl rfl ?_
  exact sw_iret dX12_thrown_4 rfl (by first | rfl | exact bz_n _) (by omega) (by omega) ⟨rfl, rfl, rfl⟩
def r_lev (s : Nat → Int32) (a : Int32) : Bool := decide (0 ≤ a ∧ a < s 1)
theorem r_lev_nI {s : Nat → Int32} {a : Int32} {N : Nat} (hN : s 1 = nI N) (hb : N < 2147483648) (h : r_lev s a = true) : ∃ i, i < N ∧ a = nI i := by
  unfold r_lev at h
  rw [decide_eq_true_iff] at h
  obtain ⟨j, hj, rfl⟩ := nI_of (x := a) (fun z => by grind)
  exact ⟨j, (nI_ltI hj hb).mp (by rw [← hN]; exact h.2), rfl⟩
set_option maxRecDepth 100000 in
theorem c_X12_isLevel {l : Launch} {D : va_G} {cy : Nat → ClassId} {d n : Nat} {f : sw_F} {s : Nat → Int32} {A : Nat → Nat → Int32} (a : Int32) : sw_Ct l D cy mX12_isLevel d 0 0 [.ref 150, .int a] n (md f s A) (sw_D (some (.int (bz (r_lev s a)))) n (md f (s) (A))) := by
  refine sw_of rfl (Nat.le_of_ble_eq_true rfl) ?_
  show SW l D cy mX12_isLevel d 0 0 0 0 0 [(0, .ref 150), (1, .int a)] [] n (md f s A) _ _
  refine sw_iload_n dX12_isLevel_0 rfl ?_
  refine sw_if_lt 16 dX12_isLevel_1 (by decide) (fun h1 => ?_) (fun h1 => ?_)
  · refine sw_iconst (x := 0) dX12_isLevel_16 (by decide) ?_
    exact sw_iret dX12_isLevel_17 rfl (by first | rfl | exact bz_n _) (by omega) (by omega) ⟨by simp only [r_lev, bz]; grind, rfl, rfl⟩
  · refine sw_iload_n dX12_isLevel_4 rfl ?_
    refine sw_aload_n dX12_isLevel_5 rfl (by first | rfl | assumption) ?_
    refine sw_get dX12_isLevel_6 fr_X12_7 rfl rfl ?_
    refine sw_icmp_ge 16 dX12_isLevel_9 (by decide) (fun h9 => ?_) (fun h9 => ?_)
    · refine sw_iconst (x := 0) dX12_isLevel_16 (by decide) ?_
      exact sw_iret dX12_isLevel_17 rfl (by first | rfl | exact bz_n _) (by omega) (by omega) ⟨by simp only [r_lev, bz]; grind, rfl, rfl⟩
    · refine sw_iconst (x := 1) dX12_isLevel_12 (by decide) ?_
      refine sw_goto 17 dX12_isLevel_13 (by decide) ?_
      exact sw_iret dX12_isLevel_17 rfl (by first | rfl | exact bz_n _) (by omega) (by omega) ⟨by simp only [r_lev, bz]; grind, rfl, rfl⟩
set_option maxRecDepth 100000 in
theorem c_X12_joined {l : Launch} {D : va_G} {cy : Nat → ClassId} {d n : Nat} {f : sw_F} {s : Nat → Int32} {A : Nat → Nat → Int32} {i j : Nat} (hi : i < 6) (hj : j < 6) : sw_Ct l D cy mX12_joined d 0 0 [.ref 150, .int (nI i), .int (nI j)] n (md f s A) (sw_D (some (.int (A 152 (6 * i + j)))) n (md f (s) (A))) := by
  refine sw_of rfl (Nat.le_of_ble_eq_true rfl) ?_
  show SW l D cy mX12_joined d 0 0 0 0 0 [(0, .ref 150), (1, .int (nI i)), (2, .int (nI j))] [] n (md f s A) _ _
  refine sw_aload_n dX12_joined_0 rfl (by first | rfl | assumption) ?_
  refine sw_get dX12_joined_1 fr_X12_17 rfl rfl ?_
  refine sw_bipush (x := 6) dX12_joined_4 (by decide) ?_
  refine sw_iload_n dX12_joined_6 rfl ?_
  refine sw_imul dX12_joined_7 ?_
  refine sw_iload_n dX12_joined_8 rfl ?_
  refine sw_iadd dX12_joined_9 ?_
  refine sw_ialdN (6 * i + j) dX12_joined_10 rfl (by rw [nl_6, pk_mul, nI_add]) (show 6 * i + j < 36 by omega) (by decide) ?_
  exact sw_iret dX12_joined_11 rfl (by first | rfl | exact bz_n _) (by omega) (by omega) ⟨rfl, rfl, rfl⟩
def r_join (s : Nat → Int32) (A : Nat → Nat → Int32) (a b : Int32) : Int32 := if (r_lev s a && r_lev s b) = true then A 152 (6 * a.toNatClampNeg + b.toNatClampNeg) else -1
set_option maxRecDepth 100000 in
theorem c_X12_join {l : Launch} {D : va_G} {cy : Nat → ClassId} {d n : Nat} {f : sw_F} {s : Nat → Int32} {A : Nat → Nat → Int32} {N : Nat} (hN : s 1 = nI N) (h6 : N ≤ 6) (hd : 1 ≤ d) (a b : Int32) : sw_Ct l D cy mX12_join d 0 0 [.ref 150, .int a, .int b] n (md f s A) (sw_D (some (.int (r_join s A a b))) n (md f (va_up s 0 0) (A))) := by
  refine sw_of rfl (Nat.le_of_ble_eq_true rfl) ?_
  show SW l D cy mX12_join d 0 0 0 0 0 [(0, .ref 150), (1, .int a), (2, .int b)] [] n (md f s A) _ _
  refine sw_aload_n dX12_join_0 rfl (by first | rfl | assumption) ?_
  refine sw_iconst (x := 0) dX12_join_1 (by decide) ?_
  refine m_put dX12_join_2 fl_X12_124 (by decide) (sw_fit_i _) rfl ?_
  refine sw_aload_n dX12_join_5 rfl (by first | rfl | assumption) ?_
  refine sw_iload_n dX12_join_6 rfl ?_
  refine sw_Vv dX12_join_7 k_X12_145 mf_X12_isLevel (c_X12_isLevel (d := d - 1) a) rfl ⟨_, rfl, rfl⟩ (by omega) (by omega) (by omega) rfl rfl (Nat.le_of_ble_eq_true rfl) ?_
  refine sw_if_eq 30 dX12_join_10 (by decide) (fun h10 => ?_) (fun h10 => ?_)
  · refine sw_iconst (x := (-1)) dX12_join_30 (by decide) ?_
    exact sw_iret dX12_join_31 rfl (by first | rfl | exact bz_n _) (by omega) (by omega) ⟨by first | (rw [r_join, if_pos (by rw [e1, e2]; rfl), nI_clamp (by omega), nI_clamp (by omega)]; done) | (have h10 : r_lev s a = true := bz_ne.mp h10; have h18 : r_lev s b = false := bz_0.mp h18; simp [r_join, h18]; done) | (have h10 : r_lev s a = false := bz_0.mp h10; simp [r_join, h10]), rfl, rfl⟩
  · refine sw_aload_n dX12_join_13 rfl (by first | rfl | assumption) ?_
    refine sw_iload_n dX12_join_14 rfl ?_
    refine sw_Vv dX12_join_15 k_X12_145 mf_X12_isLevel (c_X12_isLevel (d := d - 1) b) rfl ⟨_, rfl, rfl⟩ (by omega) (by omega) (by omega) rfl rfl (Nat.le_of_ble_eq_true rfl) ?_
    refine sw_if_eq 30 dX12_join_18 (by decide) (fun h18 => ?_) (fun h18 => ?_)
    · refine sw_iconst (x := (-1)) dX12_join_30 (by decide) ?_
      exact sw_iret dX12_join_31 rfl (by first | rfl | exact bz_n _) (by omega) (by omega) ⟨by first | (rw [r_join, if_pos (by rw [e1, e2]; rfl), nI_clamp (by omega), nI_clamp (by omega)]; done) | (have h10 : r_lev s a = true := bz_ne.mp h10; have h18 : r_lev s b = false := bz_0.mp h18; simp [r_join, h18]; done) | (have h10 : r_lev s a = false := bz_0.mp h10; simp [r_join, h10]), rfl, rfl⟩
    · have e1 := (show r_lev s a = true from bz_ne.mp h10)
      have e2 := (show r_lev s b = true from bz_ne.mp h18)
      obtain ⟨i, hi, rfl⟩ := r_lev_nI hN (by omega) e1
      obtain ⟨j, hj, rfl⟩ := r_lev_nI hN (by omega) e2
      refine sw_aload_n dX12_join_21 rfl (by first | rfl | assumption) ?_
      refine sw_iload_n dX12_join_22 rfl ?_
      refine sw_iload_n dX12_join_23 rfl ?_
      refine sw_Vv dX12_join_24 k_X12_148 mf_X12_joined (c_X12_joined (d := d - 1) (Nat.lt_of_lt_of_le hi h6) (Nat.lt_of_lt_of_le hj h6)) rfl ⟨_, rfl, rfl⟩ (by omega) (by omega) (by omega) rfl rfl (Nat.le_of_ble_eq_true rfl) ?_
      refine sw_goto 31 dX12_join_27 (by decide) ?_
      exact sw_iret dX12_join_31 rfl (by first | rfl | exact bz_n _) (by omega) (by omega) ⟨by first | (rw [r_join, if_pos (by rw [e1, e2]; rfl), nI_clamp (by omega), nI_clamp (by omega)]; done) | (have h10 : r_lev s a = true := bz_ne.mp h10; have h18 : r_lev s b = false := bz_0.mp h18; simp [r_join, h18]; done) | (have h10 : r_lev s a = false := bz_0.mp h10; simp [r_join, h10]), rfl, rfl⟩
def r_nm (c : Int32) : Bool := decide (97 ≤ c ∧ c ≤ 104)
set_option maxRecDepth 100000 in
theorem c_X12_isName {l : Launch} {D : va_G} {cy : Nat → ClassId} {d n : Nat} {f : sw_F} (c : Int32) : sw_Ct l D cy mX12_isName d 0 0 [.int c] n f (sw_D (some (.int (bz (r_nm c)))) n f) := by
  refine sw_of rfl (Nat.le_of_ble_eq_true rfl) ?_
  show SW l D cy mX12_isName d 0 0 0 0 0 [(0, .int c)] [] n f _ _
  refine sw_iload_n dX12_isName_0 rfl ?_
  refine sw_bipush (x := 97) dX12_isName_1 (by decide) ?_
  refine sw_icmp_lt 16 dX12_isName_3 (by decide) (fun h3 => ?_) (fun h3 => ?_)
  · refine sw_iconst (x := 0) dX12_isName_16 (by decide) ?_
    exact sw_iret dX12_isName_17 rfl (by first | rfl | exact bz_n _) (by omega) (by omega) ⟨by simp only [r_nm]; grind [bz], rfl, rfl⟩
  · refine sw_iload_n dX12_isName_6 rfl ?_
    refine sw_bipush (x := 104) dX12_isName_7 (by decide) ?_
    refine sw_icmp_gt 16 dX12_isName_9 (by decide) (fun h9 => ?_) (fun h9 => ?_)
    · refine sw_iconst (x := 0) dX12_isName_16 (by decide) ?_
      exact sw_iret dX12_isName_17 rfl (by first | rfl | exact bz_n _) (by omega) (by omega) ⟨by simp only [r_nm]; grind [bz], rfl, rfl⟩
    · refine sw_iconst (x := 1) dX12_isName_12 (by decide) ?_
      refine sw_goto 17 dX12_isName_13 (by decide) ?_
      exact sw_iret dX12_isName_17 rfl (by first | rfl | exact bz_n _) (by omega) (by omega) ⟨by simp only [r_nm]; grind [bz], rfl, rfl⟩
def r_dg (c : Int32) : Bool := decide (48 ≤ c ∧ c ≤ 57)
set_option maxRecDepth 100000 in
theorem c_X12_isDigit {l : Launch} {D : va_G} {cy : Nat → ClassId} {d n : Nat} {f : sw_F} (c : Int32) : sw_Ct l D cy mX12_isDigit d 0 0 [.int c] n f (sw_D (some (.int (bz (r_dg c)))) n f) := by
  refine sw_of rfl (Nat.le_of_ble_eq_true rfl) ?_
  show SW l D cy mX12_isDigit d 0 0 0 0 0 [(0, .int c)] [] n f _ _
  refine sw_iload_n dX12_isDigit_0 rfl ?_
  refine sw_bipush (x := 48) dX12_isDigit_1 (by decide) ?_
  refine sw_icmp_lt 16 dX12_isDigit_3 (by decide) (fun h3 => ?_) (fun h3 => ?_)
  · refine sw_iconst (x := 0) dX12_isDigit_16 (by decide) ?_
    exact sw_iret dX12_isDigit_17 rfl (by first | rfl | exact bz_n _) (by omega) (by omega) ⟨by simp only [r_dg]; grind [bz], rfl, rfl⟩
  · refine sw_iload_n dX12_isDigit_6 rfl ?_
    refine sw_bipush (x := 57) dX12_isDigit_7 (by decide) ?_
    refine sw_icmp_gt 16 dX12_isDigit_9 (by decide) (fun h9 => ?_) (fun h9 => ?_)
    · refine sw_iconst (x := 0) dX12_isDigit_16 (by decide) ?_
      exact sw_iret dX12_isDigit_17 rfl (by first | rfl | exact bz_n _) (by omega) (by omega) ⟨by simp only [r_dg]; grind [bz], rfl, rfl⟩
    · refine sw_iconst (x := 1) dX12_isDigit_12 (by decide) ?_
      refine sw_goto 17 dX12_isDigit_13 (by decide) ?_
      exact sw_iret dX12_isDigit_17 rfl (by first | rfl | exact bz_n _) (by omega) (by omega) ⟨by simp only [r_dg]; grind [bz], rfl, rfl⟩
def r_op (c : Int32) : Int32 := if c = 43 then 3 else if c = 45 then 4 else if c = 42 then 5 else if c = 60 then 6 else 0
set_option maxRecDepth 100000 in
theorem c_X12_operation {l : Launch} {D : va_G} {cy : Nat → ClassId} {d n : Nat} {f : sw_F} (c : Int32) : sw_Ct l D cy mX12_operation d 0 0 [.int c] n f (sw_D (some (.int (r_op c))) n f) := by
  refine sw_of rfl (Nat.le_of_ble_eq_true rfl) ?_
  show SW l D cy mX12_operation d 0 0 0 0 0 [(0, .int c)] [] n f _ _
  refine sw_iload_n dX12_operation_0 rfl ?_
  refine sw_bipush (x := 43) dX12_operation_1 (by decide) ?_
  refine sw_icmp_ne 10 dX12_operation_3 (by decide) (fun h3 => ?_) (fun h3 => ?_)
  · refine sw_iload_n dX12_operation_10 rfl ?_
    refine sw_bipush (x := 45) dX12_operation_11 (by decide) ?_
    refine sw_icmp_ne 20 dX12_operation_13 (by decide) (fun h13 => ?_) (fun h13 => ?_)
    · refine sw_iload_n dX12_operation_20 rfl ?_
      refine sw_bipush (x := 42) dX12_operation_21 (by decide) ?_
      refine sw_icmp_ne 30 dX12_operation_23 (by decide) (fun h23 => ?_) (fun h23 => ?_)
      · refine sw_iload_n dX12_operation_30 rfl ?_
        refine sw_bipush (x := 60) dX12_operation_31 (by decide) ?_
        refine sw_icmp_ne 41 dX12_operation_33 (by decide) (fun h33 => ?_) (fun h33 => ?_)
        · refine sw_iconst (x := 0) dX12_operation_41 (by decide) ?_
          exact sw_iret dX12_operation_42 rfl (by first | rfl | exact bz_n _) (by omega) (by omega) ⟨by simp only [r_op]; grind [bz], rfl, rfl⟩
        · refine sw_bipush (x := 6) dX12_operation_36 (by decide) ?_
          refine sw_goto 42 dX12_operation_38 (by decide) ?_
          exact sw_iret dX12_operation_42 rfl (by first | rfl | exact bz_n _) (by omega) (by omega) ⟨by simp only [r_op]; grind [bz], rfl, rfl⟩
      · refine sw_iconst (x := 5) dX12_operation_26 (by decide) ?_
        refine sw_goto 42 dX12_operation_27 (by decide) ?_
        exact sw_iret dX12_operation_42 rfl (by first | rfl | exact bz_n _) (by omega) (by omega) ⟨by simp only [r_op]; grind [bz], rfl, rfl⟩
    · refine sw_iconst (x := 4) dX12_operation_16 (by decide) ?_
      refine sw_goto 42 dX12_operation_17 (by decide) ?_
      exact sw_iret dX12_operation_42 rfl (by first | rfl | exact bz_n _) (by omega) (by omega) ⟨by simp only [r_op]; grind [bz], rfl, rfl⟩
  · refine sw_iconst (x := 3) dX12_operation_6 (by decide) ?_
    refine sw_goto 42 dX12_operation_7 (by decide) ?_
    exact sw_iret dX12_operation_42 rfl (by first | rfl | exact bz_n _) (by omega) (by omega) ⟨by simp only [r_op]; grind [bz], rfl, rfl⟩
def r_tb (w : Int32) : Int32 := if w = 2 ∨ w = 7 then 1 else if 2 < w ∧ w < 7 then 2 else 0
set_option maxRecDepth 100000 in
theorem c_X12_takenBy {l : Launch} {D : va_G} {cy : Nat → ClassId} {d n : Nat} {f : sw_F} (w : Int32) : sw_Ct l D cy mX12_takenBy d 0 0 [.int w] n f (sw_D (some (.int (r_tb w))) n f) := by
  refine sw_of rfl (Nat.le_of_ble_eq_true rfl) ?_
  show SW l D cy mX12_takenBy d 0 0 0 0 0 [(0, .int w)] [] n f _ _
  refine sw_iload_n dX12_takenBy_0 rfl ?_
  refine sw_iconst (x := 2) dX12_takenBy_1 (by decide) ?_
  refine sw_icmp_eq 11 dX12_takenBy_2 (by decide) (fun h2 => ?_) (fun h2 => ?_)
  · refine sw_iconst (x := 1) dX12_takenBy_11 (by decide) ?_
    refine sw_goto 31 dX12_takenBy_12 (by decide) ?_
    exact sw_iret dX12_takenBy_31 rfl (by first | rfl | exact bz_n _) (by omega) (by omega) ⟨by simp only [r_tb]; grind [bz], rfl, rfl⟩
  · refine sw_iload_n dX12_takenBy_5 rfl ?_
    refine sw_bipush (x := 7) dX12_takenBy_6 (by decide) ?_
    refine sw_icmp_ne 15 dX12_takenBy_8 (by decide) (fun h8 => ?_) (fun h8 => ?_)
    · refine sw_iload_n dX12_takenBy_15 rfl ?_
      refine sw_iconst (x := 2) dX12_takenBy_16 (by decide) ?_
      refine sw_icmp_le 30 dX12_takenBy_17 (by decide) (fun h17 => ?_) (fun h17 => ?_)
      · refine sw_iconst (x := 0) dX12_takenBy_30 (by decide) ?_
        exact sw_iret dX12_takenBy_31 rfl (by first | rfl | exact bz_n _) (by omega) (by omega) ⟨by simp only [r_tb]; grind [bz], rfl, rfl⟩
      · refine sw_iload_n dX12_takenBy_20 rfl ?_
        refine sw_bipush (x := 7) dX12_takenBy_21 (by decide) ?_
        refine sw_icmp_ge 30 dX12_takenBy_23 (by decide) (fun h23 => ?_) (fun h23 => ?_)
        · refine sw_iconst (x := 0) dX12_takenBy_30 (by decide) ?_
          exact sw_iret dX12_takenBy_31 rfl (by first | rfl | exact bz_n _) (by omega) (by omega) ⟨by simp only [r_tb]; grind [bz], rfl, rfl⟩
        · refine sw_iconst (x := 2) dX12_takenBy_26 (by decide) ?_
          refine sw_goto 31 dX12_takenBy_27 (by decide) ?_
          exact sw_iret dX12_takenBy_31 rfl (by first | rfl | exact bz_n _) (by omega) (by omega) ⟨by simp only [r_tb]; grind [bz], rfl, rfl⟩
    · refine sw_iconst (x := 1) dX12_takenBy_11 (by decide) ?_
      refine sw_goto 31 dX12_takenBy_12 (by decide) ?_
      exact sw_iret dX12_takenBy_31 rfl (by first | rfl | exact bz_n _) (by omega) (by omega) ⟨by simp only [r_tb]; grind [bz], rfl, rfl⟩
def r_gb (w : Int32) : Int32 := if w < 2 ∨ (2 < w ∧ w < 7) then 1 else 0
set_option maxRecDepth 100000 in
theorem c_X12_givenBy {l : Launch} {D : va_G} {cy : Nat → ClassId} {d n : Nat} {f : sw_F} (w : Int32) : sw_Ct l D cy mX12_givenBy d 0 0 [.int w] n f (sw_D (some (.int (r_gb w))) n f) := by
  refine sw_of rfl (Nat.le_of_ble_eq_true rfl) ?_
  show SW l D cy mX12_givenBy d 0 0 0 0 0 [(0, .int w)] [] n f _ _
  refine sw_iload_n dX12_givenBy_0 rfl ?_
  refine sw_iconst (x := 2) dX12_givenBy_1 (by decide) ?_
  refine sw_icmp_lt 16 dX12_givenBy_2 (by decide) (fun h2 => ?_) (fun h2 => ?_)
  · refine sw_iconst (x := 1) dX12_givenBy_16 (by decide) ?_
    refine sw_goto 21 dX12_givenBy_17 (by decide) ?_
    exact sw_iret dX12_givenBy_21 rfl (by first | rfl | exact bz_n _) (by omega) (by omega) ⟨by simp only [r_gb]; grind [bz], rfl, rfl⟩
  · refine sw_iload_n dX12_givenBy_5 rfl ?_
    refine sw_iconst (x := 2) dX12_givenBy_6 (by decide) ?_
    refine sw_icmp_le 20 dX12_givenBy_7 (by decide) (fun h7 => ?_) (fun h7 => ?_)
    · refine sw_iconst (x := 0) dX12_givenBy_20 (by decide) ?_
      exact sw_iret dX12_givenBy_21 rfl (by first | rfl | exact bz_n _) (by omega) (by omega) ⟨by simp only [r_gb]; grind [bz], rfl, rfl⟩
    · refine sw_iload_n dX12_givenBy_10 rfl ?_
      refine sw_bipush (x := 7) dX12_givenBy_11 (by decide) ?_
      refine sw_icmp_ge 20 dX12_givenBy_13 (by decide) (fun h13 => ?_) (fun h13 => ?_)
      · refine sw_iconst (x := 0) dX12_givenBy_20 (by decide) ?_
        exact sw_iret dX12_givenBy_21 rfl (by first | rfl | exact bz_n _) (by omega) (by omega) ⟨by simp only [r_gb]; grind [bz], rfl, rfl⟩
      · refine sw_iconst (x := 1) dX12_givenBy_16 (by decide) ?_
        refine sw_goto 21 dX12_givenBy_17 (by decide) ?_
        exact sw_iret dX12_givenBy_21 rfl (by first | rfl | exact bz_n _) (by omega) (by omega) ⟨by simp only [r_gb]; grind [bz], rfl, rfl⟩
def r_wk (w x y : Int32) : Int32 := if w = 3 then x + y else if w = 4 then x - y else if w = 5 then x * y else if x < y then 1 else 0
set_option maxRecDepth 100000 in
theorem c_X12_worked {l : Launch} {D : va_G} {cy : Nat → ClassId} {d n : Nat} {f : sw_F} (w x y : Int32) : sw_Ct l D cy mX12_worked d 0 0 [.int w, .int x, .int y] n f (sw_D (some (.int (r_wk w x y))) n f) := by
  refine sw_of rfl (Nat.le_of_ble_eq_true rfl) ?_
  show SW l D cy mX12_worked d 0 0 0 0 0 [(0, .int w), (1, .int x), (2, .int y)] [] n f _ _
  refine sw_iload_n dX12_worked_0 rfl ?_
  refine sw_iconst (x := 3) dX12_worked_1 (by decide) ?_
  refine sw_icmp_ne 11 dX12_worked_2 (by decide) (fun h2 => ?_) (fun h2 => ?_)
  · refine sw_iload_n dX12_worked_11 rfl ?_
    refine sw_iconst (x := 4) dX12_worked_12 (by decide) ?_
    refine sw_icmp_ne 22 dX12_worked_13 (by decide) (fun h13 => ?_) (fun h13 => ?_)
    · refine sw_iload_n dX12_worked_22 rfl ?_
      refine sw_iconst (x := 5) dX12_worked_23 (by decide) ?_
      refine sw_icmp_ne 33 dX12_worked_24 (by decide) (fun h24 => ?_) (fun h24 => ?_)
      · refine sw_iload_n dX12_worked_33 rfl ?_
        refine sw_iload_n dX12_worked_34 rfl ?_
        refine sw_icmp_ge 42 dX12_worked_35 (by decide) (fun h35 => ?_) (fun h35 => ?_)
        · refine sw_iconst (x := 0) dX12_worked_42 (by decide) ?_
          exact sw_iret dX12_worked_43 rfl (by first | rfl | exact bz_n _) (by omega) (by omega) ⟨by simp only [r_wk]; grind [bz], rfl, rfl⟩
        · refine sw_iconst (x := 1) dX12_worked_38 (by decide) ?_
          refine sw_goto 43 dX12_worked_39 (by decide) ?_
          exact sw_iret dX12_worked_43 rfl (by first | rfl | exact bz_n _) (by omega) (by omega) ⟨by simp only [r_wk]; grind [bz], rfl, rfl⟩
      · refine sw_iload_n dX12_worked_27 rfl ?_
        refine sw_iload_n dX12_worked_28 rfl ?_
        refine sw_imul dX12_worked_29 ?_
        refine sw_goto 43 dX12_worked_30 (by decide) ?_
        exact sw_iret dX12_worked_43 rfl (by first | rfl | exact bz_n _) (by omega) (by omega) ⟨by simp only [r_wk]; grind [bz], rfl, rfl⟩
    · refine sw_iload_n dX12_worked_16 rfl ?_
      refine sw_iload_n dX12_worked_17 rfl ?_
      refine sw_isub dX12_worked_18 ?_
      refine sw_goto 43 dX12_worked_19 (by decide) ?_
      exact sw_iret dX12_worked_43 rfl (by first | rfl | exact bz_n _) (by omega) (by omega) ⟨by simp only [r_wk]; grind [bz], rfl, rfl⟩
  · refine sw_iload_n dX12_worked_5 rfl ?_
    refine sw_iload_n dX12_worked_6 rfl ?_
    refine sw_iadd dX12_worked_7 ?_
    refine sw_goto 43 dX12_worked_8 (by decide) ?_
    exact sw_iret dX12_worked_43 rfl (by first | rfl | exact bz_n _) (by omega) (by omega) ⟨by simp only [r_wk]; grind [bz], rfl, rfl⟩
def r_lbOk (s : Nat → Int32) (side v lev : Int32) : Bool := decide ((side = 0 ∨ side = 1) ∧ 0 ≤ v ∧ v ≤ 7) && r_lev s lev
def r_lbA (s : Nat → Int32) (A : Nat → Nat → Int32) (side v lev : Int32) : Nat → Nat → Int32 := if r_lbOk s side v lev = true then (if side = 0 then va_up A 153 (upd (A 153) v.toNatClampNeg lev) else va_up A 154 (upd (A 154) v.toNatClampNeg lev)) else A
theorem i32_07 {v : Int32} (h1 : ¬ v < 0) (h2 : ¬ (7 : Int32) < v) : ∃ k : Nat, k < 8 ∧ v = nI k := by
  obtain ⟨j, hj, rfl⟩ := nI_of2 (M := 7) (n := 7) (by decide) h1 (by grind)
  exact ⟨j, by omega, rfl⟩
set_option maxRecDepth 100000 in
theorem c_X12_label {l : Launch} {D : va_G} {cy : Nat → ClassId} {d n : Nat} {f : sw_F} {s : Nat → Int32} {A : Nat → Nat → Int32} (hd : 1 ≤ d) (side v lev : Int32) : sw_Ct l D cy mX12_label d 0 0 [.ref 150, .int side, .int v, .int lev] n (md f s A) (sw_D (some (.int (bz (r_lbOk s side v lev)))) n (md f (va_up s 0 0) (r_lbA s A side v lev))) := by
  refine sw_of rfl (Nat.le_of_ble_eq_true rfl) ?_
  show SW l D cy mX12_label d 0 0 0 0 0 [(0, .ref 150), (1, .int side), (2, .int v), (3, .int lev)] [] n (md f s A) _ _
  refine sw_aload_n dX12_label_0 rfl (by first | rfl | assumption) ?_
  refine sw_iconst (x := 0) dX12_label_1 (by decide) ?_
  refine m_put dX12_label_2 fl_X12_124 (by decide) (sw_fit_i _) rfl ?_
  refine sw_iload_n dX12_label_5 rfl ?_
  refine sw_if_eq 14 dX12_label_6 (by decide) (fun h6 => ?_) (fun h6 => ?_)
  · refine sw_iload_n dX12_label_14 rfl ?_
    refine sw_if_lt 32 dX12_label_15 (by decide) (fun h15 => ?_) (fun h15 => ?_)
    · refine sw_iconst (x := 0) dX12_label_32 (by decide) ?_
      exact sw_iret dX12_label_33 rfl (by first | rfl | exact bz_n _) (by omega) (by omega) ⟨by rw [show r_lbOk s side v lev = false from (by first | (have e1 : r_lev s lev = false := bz_0.mp h29; simp [r_lbOk, e1]; done) | (simp only [r_lbOk]; grind))]; rfl, rfl, by rw [r_lbA, if_neg (by first | (have e1 : r_lev s lev = false := bz_0.mp h29; simp [r_lbOk, e1]; done) | (simp only [r_lbOk]; grind))]⟩
    · refine sw_iload_n dX12_label_18 rfl ?_
      refine sw_bipush (x := 7) dX12_label_19 (by decide) ?_
      refine sw_icmp_gt 32 dX12_label_21 (by decide) (fun h21 => ?_) (fun h21 => ?_)
      · refine sw_iconst (x := 0) dX12_label_32 (by decide) ?_
        exact sw_iret dX12_label_33 rfl (by first | rfl | exact bz_n _) (by omega) (by omega) ⟨by rw [show r_lbOk s side v lev = false from (by first | (have e1 : r_lev s lev = false := bz_0.mp h29; simp [r_lbOk, e1]; done) | (simp only [r_lbOk]; grind))]; rfl, rfl, by rw [r_lbA, if_neg (by first | (have e1 : r_lev s lev = false := bz_0.mp h29; simp [r_lbOk, e1]; done) | (simp only [r_lbOk]; grind))]⟩
      · refine sw_aload_n dX12_label_24 rfl (by first | rfl | assumption) ?_
        refine sw_iload_n dX12_label_25 rfl ?_
        refine sw_Vv dX12_label_26 k_X12_145 mf_X12_isLevel (c_X12_isLevel (d := d - 1) lev) rfl ⟨_, rfl, rfl⟩ (by omega) (by omega) (by omega) rfl rfl (Nat.le_of_ble_eq_true rfl) ?_
        refine sw_if_ne 34 dX12_label_29 (by decide) (fun h29 => ?_) (fun h29 => ?_)
        · have e1 : r_lev s lev = true := bz_ne.mp h29
          obtain ⟨k, hk, rfl⟩ := i32_07 h15 h21
          refine sw_iload_n dX12_label_34 rfl ?_
          refine sw_if_ne 48 dX12_label_35 (by decide) (fun h35 => ?_) (fun h35 => ?_)
          · refine sw_aload_n dX12_label_48 rfl (by first | rfl | assumption) ?_
            refine sw_get dX12_label_49 fr_X12_24 rfl rfl ?_
            refine sw_iload_n dX12_label_52 rfl ?_
            refine sw_iload_n dX12_label_53 rfl ?_
            refine m_iast (k) dX12_label_54 ⟨by decide, by decide, rfl⟩ rfl (show k < 8 by omega) rfl ?_
            refine sw_iconst (x := 1) dX12_label_55 (by decide) ?_
            exact sw_iret dX12_label_56 rfl (by first | rfl | exact bz_n _) (by omega) (by omega) ⟨by rw [show r_lbOk s side (nI k) lev = true from (by simp only [r_lbOk, e1]; grind)]; rfl, rfl, by rw [r_lbA, if_pos (by simp only [r_lbOk, e1]; grind), nI_clamp (by omega)]; first | (exfalso; grind; done) | simp [*]⟩
          · refine sw_aload_n dX12_label_38 rfl (by first | rfl | assumption) ?_
            refine sw_get dX12_label_39 fr_X12_21 rfl rfl ?_
            refine sw_iload_n dX12_label_42 rfl ?_
            refine sw_iload_n dX12_label_43 rfl ?_
            refine m_iast (k) dX12_label_44 ⟨by decide, by decide, rfl⟩ rfl (show k < 8 by omega) rfl ?_
            refine sw_goto 55 dX12_label_45 (by decide) ?_
            refine sw_iconst (x := 1) dX12_label_55 (by decide) ?_
            exact sw_iret dX12_label_56 rfl (by first | rfl | exact bz_n _) (by omega) (by omega) ⟨by rw [show r_lbOk s side (nI k) lev = true from (by simp only [r_lbOk, e1]; grind)]; rfl, rfl, by rw [r_lbA, if_pos (by simp only [r_lbOk, e1]; grind), nI_clamp (by omega)]; first | (exfalso; grind; done) | simp [*]⟩
        · refine sw_iconst (x := 0) dX12_label_32 (by decide) ?_
          exact sw_iret dX12_label_33 rfl (by first | rfl | exact bz_n _) (by omega) (by omega) ⟨by rw [show r_lbOk s side v lev = false from (by first | (have e1 : r_lev s lev = false := bz_0.mp h29; simp [r_lbOk, e1]; done) | (simp only [r_lbOk]; grind))]; rfl, rfl, by rw [r_lbA, if_neg (by first | (have e1 : r_lev s lev = false := bz_0.mp h29; simp [r_lbOk, e1]; done) | (simp only [r_lbOk]; grind))]⟩
  · refine sw_iload_n dX12_label_9 rfl ?_
    refine sw_iconst (x := 1) dX12_label_10 (by decide) ?_
    refine sw_icmp_ne 32 dX12_label_11 (by decide) (fun h11 => ?_) (fun h11 => ?_)
    · refine sw_iconst (x := 0) dX12_label_32 (by decide) ?_
      exact sw_iret dX12_label_33 rfl (by first | rfl | exact bz_n _) (by omega) (by omega) ⟨by rw [show r_lbOk s side v lev = false from (by first | (have e1 : r_lev s lev = false := bz_0.mp h29; simp [r_lbOk, e1]; done) | (simp only [r_lbOk]; grind))]; rfl, rfl, by rw [r_lbA, if_neg (by first | (have e1 : r_lev s lev = false := bz_0.mp h29; simp [r_lbOk, e1]; done) | (simp only [r_lbOk]; grind))]⟩
    · refine sw_iload_n dX12_label_14 rfl ?_
      refine sw_if_lt 32 dX12_label_15 (by decide) (fun h15 => ?_) (fun h15 => ?_)
      · refine sw_iconst (x := 0) dX12_label_32 (by decide) ?_
        exact sw_iret dX12_label_33 rfl (by first | rfl | exact bz_n _) (by omega) (by omega) ⟨by rw [show r_lbOk s side v lev = false from (by first | (have e1 : r_lev s lev = false := bz_0.mp h29; simp [r_lbOk, e1]; done) | (simp only [r_lbOk]; grind))]; rfl, rfl, by rw [r_lbA, if_neg (by first | (have e1 : r_lev s lev = false := bz_0.mp h29; simp [r_lbOk, e1]; done) | (simp only [r_lbOk]; grind))]⟩
      · refine sw_iload_n dX12_label_18 rfl ?_
        refine sw_bipush (x := 7) dX12_label_19 (by decide) ?_
        refine sw_icmp_gt 32 dX12_label_21 (by decide) (fun h21 => ?_) (fun h21 => ?_)
        · refine sw_iconst (x := 0) dX12_label_32 (by decide) ?_
          exact sw_iret dX12_label_33 rfl (by first | rfl | exact bz_n _) (by omega) (by omega) ⟨by rw [show r_lbOk s side v lev = false from (by first | (have e1 : r_lev s lev = false := bz_0.mp h29; simp [r_lbOk, e1]; done) | (simp only [r_lbOk]; grind))]; rfl, rfl, by rw [r_lbA, if_neg (by first | (have e1 : r_lev s lev = false := bz_0.mp h29; simp [r_lbOk, e1]; done) | (simp only [r_lbOk]; grind))]⟩
        · refine sw_aload_n dX12_label_24 rfl (by first | rfl | assumption) ?_
          refine sw_iload_n dX12_label_25 rfl ?_
          refine sw_Vv dX12_label_26 k_X12_145 mf_X12_isLevel (c_X12_isLevel (d := d - 1) lev) rfl ⟨_, rfl, rfl⟩ (by omega) (by omega) (by omega) rfl rfl (Nat.le_of_ble_eq_true rfl) ?_
          refine sw_if_ne 34 dX12_label_29 (by decide) (fun h29 => ?_) (fun h29 => ?_)
          · have e1 : r_lev s lev = true := bz_ne.mp h29
            obtain ⟨k, hk, rfl⟩ := i32_07 h15 h21
            refine sw_iload_n dX12_label_34 rfl ?_
            refine sw_if_ne 48 dX12_label_35 (by decide) (fun h35 => ?_) (fun h35 => ?_)
            · refine sw_aload_n dX12_label_48 rfl (by first | rfl | assumption) ?_
              refine sw_get dX12_label_49 fr_X12_24 rfl rfl ?_
              refine sw_iload_n dX12_label_52 rfl ?_
              refine sw_iload_n dX12_label_53 rfl ?_
              refine m_iast (k) dX12_label_54 ⟨by decide, by decide, rfl⟩ rfl (show k < 8 by omega) rfl ?_
              refine sw_iconst (x := 1) dX12_label_55 (by decide) ?_
              exact sw_iret dX12_label_56 rfl (by first | rfl | exact bz_n _) (by omega) (by omega) ⟨by rw [show r_lbOk s side (nI k) lev = true from (by simp only [r_lbOk, e1]; grind)]; rfl, rfl, by rw [r_lbA, if_pos (by simp only [r_lbOk, e1]; grind), nI_clamp (by omega)]; first | (exfalso; grind; done) | simp [*]⟩
            · refine sw_aload_n dX12_label_38 rfl (by first | rfl | assumption) ?_
              refine sw_get dX12_label_39 fr_X12_21 rfl rfl ?_
              refine sw_iload_n dX12_label_42 rfl ?_
              refine sw_iload_n dX12_label_43 rfl ?_
              refine m_iast (k) dX12_label_44 ⟨by decide, by decide, rfl⟩ rfl (show k < 8 by omega) rfl ?_
              refine sw_goto 55 dX12_label_45 (by decide) ?_
              refine sw_iconst (x := 1) dX12_label_55 (by decide) ?_
              exact sw_iret dX12_label_56 rfl (by first | rfl | exact bz_n _) (by omega) (by omega) ⟨by rw [show r_lbOk s side (nI k) lev = true from (by simp only [r_lbOk, e1]; grind)]; rfl, rfl, by rw [r_lbA, if_pos (by simp only [r_lbOk, e1]; grind), nI_clamp (by omega)]; first | (exfalso; grind; done) | simp [*]⟩
          · refine sw_iconst (x := 0) dX12_label_32 (by decide) ?_
            exact sw_iret dX12_label_33 rfl (by first | rfl | exact bz_n _) (by omega) (by omega) ⟨by rw [show r_lbOk s side v lev = false from (by first | (have e1 : r_lev s lev = false := bz_0.mp h29; simp [r_lbOk, e1]; done) | (simp only [r_lbOk]; grind))]; rfl, rfl, by rw [r_lbA, if_neg (by first | (have e1 : r_lev s lev = false := bz_0.mp h29; simp [r_lbOk, e1]; done) | (simp only [r_lbOk]; grind))]⟩
def r_here (s : Nat → Int32) (A : Nat → Nat → Int32) : Int32 := if s 12 < s 10 then A 158 (s 12).toNatClampNeg else 0
theorem i32_nle {a b : Int32} : ¬ a ≤ b ↔ b < a := by grind
set_option maxRecDepth 100000 in
theorem c_X12_here {l : Launch} {D : va_G} {cy : Nat → ClassId} {d n : Nat} {f : sw_F} {s : Nat → Int32} {A : Nat → Nat → Int32} {P T : Nat} (hP : s 12 = nI P) (hT : s 10 = nI T) (hPb : P < 2147483648) (hTb : T ≤ 72) (hx : ∀ j, narrow .char (.int (A 158 j)) = .int (A 158 j)) : sw_Ct l D cy mX12_here d 0 0 [.ref 150] n (md f s A) (sw_D (some (.int (r_here s A))) n (md f (s) (A))) := by
  refine sw_of rfl (Nat.le_of_ble_eq_true rfl) ?_
  show SW l D cy mX12_here d 0 0 0 0 0 [(0, .ref 150)] [] n (md f s A) _ _
  refine sw_aload_n dX12_here_0 rfl (by first | rfl | assumption) ?_
  refine sw_get dX12_here_1 fr_X12_157 rfl rfl ?_
  refine sw_aload_n dX12_here_4 rfl (by first | rfl | assumption) ?_
  refine sw_get dX12_here_5 fr_X12_154 rfl rfl ?_
  refine sw_icmp_ge 23 dX12_here_8 (by decide) (fun h8 => ?_) (fun h8 => ?_)
  · refine sw_iconst (x := 0) dX12_here_23 (by decide) ?_
    exact sw_iret dX12_here_24 rfl (by first | rfl | exact hx _) (by omega) (by omega) ⟨by first | (rw [r_here, if_pos (i32_nle.mp h8), hP, nI_clamp (by omega)]; done) | rw [r_here, if_neg (by grind)], rfl, rfl⟩
  · have e1 : P < T := (nI_ltI hPb (by omega)).mp (by rw [← hP, ← hT]; exact i32_nle.mp h8)
    refine sw_aload_n dX12_here_11 rfl (by first | rfl | assumption) ?_
    refine sw_get dX12_here_12 fr_X12_36 rfl rfl ?_
    refine sw_aload_n dX12_here_15 rfl (by first | rfl | assumption) ?_
    refine sw_get dX12_here_16 fr_X12_157 rfl rfl ?_
    refine sw_caldN (P) dX12_here_19 rfl hP (show P < 72 by omega) (by decide) ?_
    refine sw_goto 24 dX12_here_20 (by decide) ?_
    exact sw_iret dX12_here_24 rfl (by first | rfl | exact hx _) (by omega) (by omega) ⟨by first | (rw [r_here, if_pos (i32_nle.mp h8), hP, nI_clamp (by omega)]; done) | rw [r_here, if_neg (by grind)], rfl, rfl⟩
def r_tkS (s : Nat → Int32) (A : Nat → Nat → Int32) (c : Int32) : Nat → Int32 := if r_here s A = c then va_up s 12 (s 12 + 1) else s
def r_tk (s : Nat → Int32) (A : Nat → Nat → Int32) (c : Int32) : Bool := decide (r_here s A = c)
def r_opOk (s : Nat → Int32) (A : Nat → Nat → Int32) (c : Int32) : Bool := decide (r_here s A = c ∧ ¬ s 13 = 6)
def r_opS (s : Nat → Int32) (A : Nat → Nat → Int32) (c : Int32) : Nat → Int32 := if r_opOk s A c = true then va_up (va_up s 13 (s 13 + 1)) 12 (s 12 + 1) else s
def r_clS (s : Nat → Int32) (A : Nat → Nat → Int32) (c : Int32) : Nat → Int32 := if r_tk s A c = true then va_up (va_up s 12 (s 12 + 1)) 13 (s 13 - 1) else s
set_option maxRecDepth 100000 in
theorem c_X12_takes {l : Launch} {D : va_G} {cy : Nat → ClassId} {d n : Nat} {f : sw_F} {s : Nat → Int32} {A : Nat → Nat → Int32} {P T : Nat} (hd : 1 ≤ d) (hP : s 12 = nI P) (hT : s 10 = nI T) (hPb : P < 2147483648) (hTb : T ≤ 72) (hx : ∀ j, narrow .char (.int (A 158 j)) = .int (A 158 j)) (c : Int32) : sw_Ct l D cy mX12_takes d 0 0 [.ref 150, .int c] n (md f s A) (sw_D (some (.int (bz (r_tk s A c)))) n (md f (r_tkS s A c) (A))) := by
  refine sw_of rfl (Nat.le_of_ble_eq_true rfl) ?_
  show SW l D cy mX12_takes d 0 0 0 0 0 [(0, .ref 150), (1, .int c)] [] n (md f s A) _ _
  refine sw_aload_n dX12_takes_0 rfl (by first | rfl | assumption) ?_
  refine sw_Vv dX12_takes_1 k_X12_160 mf_X12_here (c_X12_here (d := d - 1) hP hT hPb hTb hx) rfl ⟨_, rfl, rfl⟩ (by omega) (by omega) (by omega) rfl rfl (Nat.le_of_ble_eq_true rfl) ?_
  refine sw_iload_n dX12_takes_4 rfl ?_
  refine sw_icmp_ne 12 dX12_takes_5 (by decide) (fun h5 => ?_) (fun h5 => ?_)
  · refine sw_iconst (x := 0) dX12_takes_12 (by decide) ?_
    refine sw_istore_n [(0, _), (1, _), (2, _)] dX12_takes_13 (by decide) rfl ?_
    refine sw_aload_n dX12_takes_14 rfl (by first | rfl | assumption) ?_
    refine sw_iload_n dX12_takes_15 rfl ?_
    refine sw_if_eq 28 dX12_takes_16 (by decide) (fun h16 => ?_) (fun h16 => ?_)
    · refine sw_aload_n dX12_takes_28 rfl (by first | rfl | assumption) ?_
      refine sw_get dX12_takes_29 fr_X12_157 rfl rfl ?_
      refine m_put dX12_takes_32 fl_X12_157 (by decide) (sw_fit_i _) rfl ?_
      refine sw_iload_n dX12_takes_35 rfl ?_
      exact sw_iret dX12_takes_36 rfl (by first | rfl | exact bz_n _) (by omega) (by omega) ⟨by first | (exfalso; grind; done) | (rw [r_tk, decide_eq_true h5]; rfl; done) | (rw [r_tk, decide_eq_false h5]; rfl), rfl, by first | (exfalso; grind; done) | (rw [r_tkS, if_pos h5]; done) | (rw [r_tkS, if_neg h5, vu_id])⟩
    · refine sw_aload_n dX12_takes_19 rfl (by first | rfl | assumption) ?_
      refine sw_get dX12_takes_20 fr_X12_157 rfl rfl ?_
      refine sw_iconst (x := 1) dX12_takes_23 (by decide) ?_
      refine sw_iadd dX12_takes_24 ?_
      refine sw_goto 32 dX12_takes_25 (by decide) ?_
      refine m_put dX12_takes_32 fl_X12_157 (by decide) (sw_fit_i _) rfl ?_
      refine sw_iload_n dX12_takes_35 rfl ?_
      exact sw_iret dX12_takes_36 rfl (by first | rfl | exact bz_n _) (by omega) (by omega) ⟨by first | (exfalso; grind; done) | (rw [r_tk, decide_eq_true h5]; rfl; done) | (rw [r_tk, decide_eq_false h5]; rfl), rfl, by first | (exfalso; grind; done) | (rw [r_tkS, if_pos h5]; done) | (rw [r_tkS, if_neg h5, vu_id])⟩
  · refine sw_iconst (x := 1) dX12_takes_8 (by decide) ?_
    refine sw_goto 13 dX12_takes_9 (by decide) ?_
    refine sw_istore_n [(0, _), (1, _), (2, _)] dX12_takes_13 (by decide) rfl ?_
    refine sw_aload_n dX12_takes_14 rfl (by first | rfl | assumption) ?_
    refine sw_iload_n dX12_takes_15 rfl ?_
    refine sw_if_eq 28 dX12_takes_16 (by decide) (fun h16 => ?_) (fun h16 => ?_)
    · refine sw_aload_n dX12_takes_28 rfl (by first | rfl | assumption) ?_
      refine sw_get dX12_takes_29 fr_X12_157 rfl rfl ?_
      refine m_put dX12_takes_32 fl_X12_157 (by decide) (sw_fit_i _) rfl ?_
      refine sw_iload_n dX12_takes_35 rfl ?_
      exact sw_iret dX12_takes_36 rfl (by first | rfl | exact bz_n _) (by omega) (by omega) ⟨by first | (exfalso; grind; done) | (rw [r_tk, decide_eq_true h5]; rfl; done) | (rw [r_tk, decide_eq_false h5]; rfl), rfl, by first | (exfalso; grind; done) | (rw [r_tkS, if_pos h5]; done) | (rw [r_tkS, if_neg h5, vu_id])⟩
    · refine sw_aload_n dX12_takes_19 rfl (by first | rfl | assumption) ?_
      refine sw_get dX12_takes_20 fr_X12_157 rfl rfl ?_
      refine sw_iconst (x := 1) dX12_takes_23 (by decide) ?_
      refine sw_iadd dX12_takes_24 ?_
      refine sw_goto 32 dX12_takes_25 (by decide) ?_
      refine m_put dX12_takes_32 fl_X12_157 (by decide) (sw_fit_i _) rfl ?_
      refine sw_iload_n dX12_takes_35 rfl ?_
      exact sw_iret dX12_takes_36 rfl (by first | rfl | exact bz_n _) (by omega) (by omega) ⟨by first | (exfalso; grind; done) | (rw [r_tk, decide_eq_true h5]; rfl; done) | (rw [r_tk, decide_eq_false h5]; rfl), rfl, by first | (exfalso; grind; done) | (rw [r_tkS, if_pos h5]; done) | (rw [r_tkS, if_neg h5, vu_id])⟩
set_option maxRecDepth 100000 in
theorem c_X12_opens {l : Launch} {D : va_G} {cy : Nat → ClassId} {d n : Nat} {f : sw_F} {s : Nat → Int32} {A : Nat → Nat → Int32} {P T : Nat} (hd : 1 ≤ d) (hP : s 12 = nI P) (hT : s 10 = nI T) (hPb : P < 2147483648) (hTb : T ≤ 72) (hx : ∀ j, narrow .char (.int (A 158 j)) = .int (A 158 j)) (c : Int32) : sw_Ct l D cy mX12_opens d 0 0 [.ref 150, .int c] n (md f s A) (sw_D (some (.int (bz (r_opOk s A c)))) n (md f (r_opS s A c) (A))) := by
  refine sw_of rfl (Nat.le_of_ble_eq_true rfl) ?_
  show SW l D cy mX12_opens d 0 0 0 0 0 [(0, .ref 150), (1, .int c)] [] n (md f s A) _ _
  refine sw_aload_n dX12_opens_0 rfl (by first | rfl | assumption) ?_
  refine sw_Vv dX12_opens_1 k_X12_160 mf_X12_here (c_X12_here (d := d - 1) hP hT hPb hTb hx) rfl ⟨_, rfl, rfl⟩ (by omega) (by omega) (by omega) rfl rfl (Nat.le_of_ble_eq_true rfl) ?_
  refine sw_iload_n dX12_opens_4 rfl ?_
  refine sw_icmp_ne 17 dX12_opens_5 (by decide) (fun h5 => ?_) (fun h5 => ?_)
  · refine sw_iconst (x := 0) dX12_opens_17 (by decide) ?_
    exact sw_iret dX12_opens_18 rfl (by first | rfl | exact bz_n _) (by omega) (by omega) ⟨by rw [show r_opOk s A c = false from (by simp only [r_opOk]; grind)]; rfl, rfl, by rw [r_opS, if_neg (by simp only [r_opOk]; grind)]⟩
  · refine sw_aload_n dX12_opens_8 rfl (by first | rfl | assumption) ?_
    refine sw_get dX12_opens_9 fr_X12_164 rfl rfl ?_
    refine sw_bipush (x := 6) dX12_opens_12 (by decide) ?_
    refine sw_icmp_ne 19 dX12_opens_14 (by decide) (fun h14 => ?_) (fun h14 => ?_)
    · refine sw_aload_n dX12_opens_19 rfl (by first | rfl | assumption) ?_
      refine sw_dup dX12_opens_20 rfl ?_
      refine sw_get dX12_opens_21 fr_X12_164 rfl rfl ?_
      refine sw_iconst (x := 1) dX12_opens_24 (by decide) ?_
      refine sw_iadd dX12_opens_25 ?_
      refine m_put dX12_opens_26 fl_X12_164 (by decide) (sw_fit_i _) rfl ?_
      refine sw_aload_n dX12_opens_29 rfl (by first | rfl | assumption) ?_
      refine sw_dup dX12_opens_30 rfl ?_
      refine sw_get dX12_opens_31 fr_X12_157 rfl rfl ?_
      refine sw_iconst (x := 1) dX12_opens_34 (by decide) ?_
      refine sw_iadd dX12_opens_35 ?_
      refine m_put dX12_opens_36 fl_X12_157 (by decide) (sw_fit_i _) rfl ?_
      refine sw_iconst (x := 1) dX12_opens_39 (by decide) ?_
      exact sw_iret dX12_opens_40 rfl (by first | rfl | exact bz_n _) (by omega) (by omega) ⟨by rw [show r_opOk s A c = true from (by simp only [r_opOk]; grind)]; rfl, rfl, by rw [r_opS, if_pos (by simp only [r_opOk]; grind)]; rfl⟩
    · refine sw_iconst (x := 0) dX12_opens_17 (by decide) ?_
      exact sw_iret dX12_opens_18 rfl (by first | rfl | exact bz_n _) (by omega) (by omega) ⟨by rw [show r_opOk s A c = false from (by simp only [r_opOk]; grind)]; rfl, rfl, by rw [r_opS, if_neg (by simp only [r_opOk]; grind)]⟩
set_option maxRecDepth 100000 in
theorem c_X12_closes {l : Launch} {D : va_G} {cy : Nat → ClassId} {d n : Nat} {f : sw_F} {s : Nat → Int32} {A : Nat → Nat → Int32} {P T : Nat} (hd : 2 ≤ d) (hP : s 12 = nI P) (hT : s 10 = nI T) (hPb : P < 2147483648) (hTb : T ≤ 72) (hx : ∀ j, narrow .char (.int (A 158 j)) = .int (A 158 j)) (c : Int32) : sw_Ct l D cy mX12_closes d 0 0 [.ref 150, .int c] n (md f s A) (sw_D (some (.int (bz (r_tk s A c)))) n (md f (r_clS s A c) (A))) := by
  refine sw_of rfl (Nat.le_of_ble_eq_true rfl) ?_
  show SW l D cy mX12_closes d 0 0 0 0 0 [(0, .ref 150), (1, .int c)] [] n (md f s A) _ _
  refine sw_aload_n dX12_closes_0 rfl (by first | rfl | assumption) ?_
  refine sw_iload_n dX12_closes_1 rfl ?_
  refine sw_Vv dX12_closes_2 k_X12_167 mf_X12_takes (c_X12_takes (d := d - 1) (by omega) hP hT hPb hTb hx c) rfl ⟨_, rfl, rfl⟩ (by omega) (by omega) (by omega) rfl rfl (Nat.le_of_ble_eq_true rfl) ?_
  refine sw_istore_n [(0, _), (1, _), (2, _)] dX12_closes_5 (by decide) rfl ?_
  refine sw_aload_n dX12_closes_6 rfl (by first | rfl | assumption) ?_
  refine sw_iload_n dX12_closes_7 rfl ?_
  refine sw_if_eq 20 dX12_closes_8 (by decide) (fun h8 => ?_) (fun h8 => ?_)
  · refine sw_aload_n dX12_closes_20 rfl (by first | rfl | assumption) ?_
    refine sw_get dX12_closes_21 fr_X12_164 rfl rfl ?_
    refine m_put dX12_closes_24 fl_X12_164 (by decide) (sw_fit_i _) rfl ?_
    refine sw_iload_n dX12_closes_27 rfl ?_
    exact sw_iret dX12_closes_28 rfl (by first | rfl | exact bz_n _) (by omega) (by omega) ⟨rfl, rfl, by first | (have e1 : r_tk s A c = false := bz_0.mp h8; rw [r_clS, if_neg (by rw [e1]; decide), vu_id, r_tkS, if_neg (by simpa [r_tk] using e1)]; done) | (have e1 : r_tk s A c = true := bz_ne.mp h8; rw [r_clS, if_pos e1, r_tkS, if_pos (by simpa [r_tk] using e1)]; rfl)⟩
  · refine sw_aload_n dX12_closes_11 rfl (by first | rfl | assumption) ?_
    refine sw_get dX12_closes_12 fr_X12_164 rfl rfl ?_
    refine sw_iconst (x := 1) dX12_closes_15 (by decide) ?_
    refine sw_isub dX12_closes_16 ?_
    refine sw_goto 24 dX12_closes_17 (by decide) ?_
    refine m_put dX12_closes_24 fl_X12_164 (by decide) (sw_fit_i _) rfl ?_
    refine sw_iload_n dX12_closes_27 rfl ?_
    exact sw_iret dX12_closes_28 rfl (by first | rfl | exact bz_n _) (by omega) (by omega) ⟨rfl, rfl, by first | (have e1 : r_tk s A c = false := bz_0.mp h8; rw [r_clS, if_neg (by rw [e1]; decide), vu_id, r_tkS, if_neg (by simpa [r_tk] using e1)]; done) | (have e1 : r_tk s A c = true := bz_ne.mp h8; rw [r_clS, if_pos e1, r_tkS, if_pos (by simpa [r_tk] using e1)]; rfl)⟩
set_option maxRecDepth 100000 in
theorem c_X12_say {l : Launch} {D : va_G} {cy : Nat → ClassId} {d n : Nat} {f : sw_F} {s : Nat → Int32} {A : Nat → Nat → Int32} {k : Nat} (hk : k < 100) (w g : Int32) : sw_Ct l D cy mX12_say d 0 0 [.ref 150, .int (nI k), .int w, .int g] n (md f s A) (sw_D none n (md f (s) (va_up (va_up A 173 (upd (A 173) k w)) 174 (upd (A 174) k g)))) := by
  refine sw_of rfl (Nat.le_of_ble_eq_true rfl) ?_
  show SW l D cy mX12_say d 0 0 0 0 0 [(0, .ref 150), (1, .int (nI k)), (2, .int w), (3, .int g)] [] n (md f s A) _ _
  refine sw_aload_n dX12_say_0 rfl (by first | rfl | assumption) ?_
  refine sw_get dX12_say_1 fr_X12_85 rfl rfl ?_
  refine sw_iload_n dX12_say_4 rfl ?_
  refine sw_iload_n dX12_say_5 rfl ?_
  refine m_iast (k) dX12_say_6 ⟨by decide, by decide, rfl⟩ rfl (show k < 100 by omega) rfl ?_
  refine sw_aload_n dX12_say_7 rfl (by first | rfl | assumption) ?_
  refine sw_get dX12_say_8 fr_X12_88 rfl rfl ?_
  refine sw_iload_n dX12_say_11 rfl ?_
  refine sw_iload_n dX12_say_12 rfl ?_
  refine m_iast (k) dX12_say_13 ⟨by decide, by decide, rfl⟩ rfl (show k < 100 by omega) rfl ?_
  exact sw_vret dX12_say_14 rfl (by omega) (by omega) ⟨rfl, rfl, rfl⟩
def r_nx (A : Nat → Nat → Int32) (k : Nat) (way : Int32) : Int32 := if way = 0 then (if A 176 k = 9 then -1 else if A 176 k = 8 then A 177 k else nI (k + 1)) else (if A 176 k = 7 then A 177 k else -1)
set_option maxRecDepth 100000 in
theorem c_X12_nextOf {l : Launch} {D : va_G} {cy : Nat → ClassId} {d n : Nat} {f : sw_F} {s : Nat → Int32} {A : Nat → Nat → Int32} {k : Nat} (hk : k < 100) (way : Int32) : sw_Ct l D cy mX12_nextOf d 0 0 [.ref 150, .int (nI k), .int way] n (md f s A) (sw_D (some (.int (r_nx A k way))) n (md f (s) (A))) := by
  refine sw_of rfl (Nat.le_of_ble_eq_true rfl) ?_
  show SW l D cy mX12_nextOf d 0 0 0 0 0 [(0, .ref 150), (1, .int (nI k)), (2, .int way)] [] n (md f s A) _ _
  refine sw_aload_n dX12_nextOf_0 rfl (by first | rfl | assumption) ?_
  refine sw_get dX12_nextOf_1 fr_X12_94 rfl rfl ?_
  refine sw_iload_n dX12_nextOf_4 rfl ?_
  refine sw_ialdN (k) dX12_nextOf_5 rfl rfl (show k < 100 by omega) (by decide) ?_
  refine sw_istore_n [(0, _), (1, _), (2, _), (3, _)] dX12_nextOf_6 (by decide) rfl ?_
  refine sw_iload_n dX12_nextOf_7 rfl ?_
  refine sw_if_ne 40 dX12_nextOf_8 (by decide) (fun h8 => ?_) (fun h8 => ?_)
  · refine sw_iload_n dX12_nextOf_40 rfl ?_
    refine sw_bipush (x := 7) dX12_nextOf_41 (by decide) ?_
    refine sw_icmp_ne 55 dX12_nextOf_43 (by decide) (fun h43 => ?_) (fun h43 => ?_)
    · refine sw_iconst (x := (-1)) dX12_nextOf_55 (by decide) ?_
      exact sw_iret dX12_nextOf_56 rfl (by first | rfl | exact bz_n _) (by omega) (by omega) ⟨by simp only [r_nx, nI_1, *]; simp [*], rfl, rfl⟩
    · refine sw_aload_n dX12_nextOf_46 rfl (by first | rfl | assumption) ?_
      refine sw_get dX12_nextOf_47 fr_X12_97 rfl rfl ?_
      refine sw_iload_n dX12_nextOf_50 rfl ?_
      refine sw_ialdN (k) dX12_nextOf_51 rfl rfl (show k < 100 by omega) (by decide) ?_
      refine sw_goto 56 dX12_nextOf_52 (by decide) ?_
      exact sw_iret dX12_nextOf_56 rfl (by first | rfl | exact bz_n _) (by omega) (by omega) ⟨by simp only [r_nx, nI_1, *]; simp [*], rfl, rfl⟩
  · refine sw_iload_n dX12_nextOf_11 rfl ?_
    refine sw_bipush (x := 9) dX12_nextOf_12 (by decide) ?_
    refine sw_icmp_ne 21 dX12_nextOf_14 (by decide) (fun h14 => ?_) (fun h14 => ?_)
    · refine sw_iload_n dX12_nextOf_21 rfl ?_
      refine sw_bipush (x := 8) dX12_nextOf_22 (by decide) ?_
      refine sw_icmp_ne 36 dX12_nextOf_24 (by decide) (fun h24 => ?_) (fun h24 => ?_)
      · refine sw_iload_n dX12_nextOf_36 rfl ?_
        refine sw_iconst (x := 1) dX12_nextOf_37 (by decide) ?_
        refine sw_iadd dX12_nextOf_38 ?_
        exact sw_iret dX12_nextOf_39 rfl (by first | rfl | exact bz_n _) (by omega) (by omega) ⟨by simp only [r_nx, nI_1, *]; simp [*], rfl, rfl⟩
      · refine sw_aload_n dX12_nextOf_27 rfl (by first | rfl | assumption) ?_
        refine sw_get dX12_nextOf_28 fr_X12_97 rfl rfl ?_
        refine sw_iload_n dX12_nextOf_31 rfl ?_
        refine sw_ialdN (k) dX12_nextOf_32 rfl rfl (show k < 100 by omega) (by decide) ?_
        refine sw_goto 39 dX12_nextOf_33 (by decide) ?_
        exact sw_iret dX12_nextOf_39 rfl (by first | rfl | exact bz_n _) (by omega) (by omega) ⟨by simp only [r_nx, nI_1, *]; simp [*], rfl, rfl⟩
    · refine sw_iconst (x := (-1)) dX12_nextOf_17 (by decide) ?_
      refine sw_goto 39 dX12_nextOf_18 (by decide) ?_
      exact sw_iret dX12_nextOf_39 rfl (by first | rfl | exact bz_n _) (by omega) (by omega) ⟨by simp only [r_nx, nI_1, *]; simp [*], rfl, rfl⟩
set_option maxRecDepth 100000 in
theorem c_X12_position {l : Launch} {D : va_G} {cy : Nat → ClassId} {d n : Nat} {f : sw_F} {s : Nat → Int32} {A : Nat → Nat → Int32}  : sw_Ct l D cy mX12_position d 0 0 [.ref 150] n (md f s A) (sw_D (some (.int (s 14))) n (md f (va_up s 0 0) (A))) := by
  refine sw_of rfl (Nat.le_of_ble_eq_true rfl) ?_
  show SW l D cy mX12_position d 0 0 0 0 0 [(0, .ref 150)] [] n (md f s A) _ _
  refine sw_aload_n dX12_position_0 rfl (by first | rfl | assumption) ?_
  refine sw_iconst (x := 0) dX12_position_1 (by decide) ?_
  refine m_put dX12_position_2 fl_X12_124 (by decide) (sw_fit_i _) rfl ?_
  refine sw_aload_n dX12_position_5 rfl (by first | rfl | assumption) ?_
  refine sw_get dX12_position_6 fr_X12_40 rfl rfl ?_
  exact sw_iret dX12_position_9 rfl (by first | rfl | exact bz_n _) (by omega) (by omega) ⟨rfl, rfl, rfl⟩
def r_exit (s : Nat → Int32) (A : Nat → Nat → Int32) (v : Int32) : Int32 := if ¬ s 31 = 0 ∧ 0 ≤ v ∧ v < 8 then A 175 v.toNatClampNeg else -1
theorem i32_08 {v : Int32} (h1 : ¬ v < 0) (h2 : ¬ (8 : Int32) ≤ v) : ∃ k : Nat, k < 8 ∧ v = nI k := i32_07 h1 (by grind)
set_option maxRecDepth 100000 in
theorem c_X12_exit {l : Launch} {D : va_G} {cy : Nat → ClassId} {d n : Nat} {f : sw_F} {s : Nat → Int32} {A : Nat → Nat → Int32} (v : Int32) : sw_Ct l D cy mX12_exit d 0 0 [.ref 150, .int v] n (md f s A) (sw_D (some (.int (r_exit s A v))) n (md f (va_up s 0 0) (A))) := by
  refine sw_of rfl (Nat.le_of_ble_eq_true rfl) ?_
  show SW l D cy mX12_exit d 0 0 0 0 0 [(0, .ref 150), (1, .int v)] [] n (md f s A) _ _
  refine sw_aload_n dX12_exit_0 rfl (by first | rfl | assumption) ?_
  refine sw_iconst (x := 0) dX12_exit_1 (by decide) ?_
  refine m_put dX12_exit_2 fl_X12_124 (by decide) (sw_fit_i _) rfl ?_
  refine sw_aload_n dX12_exit_5 rfl (by first | rfl | assumption) ?_
  refine sw_get dX12_exit_6 fr_X12_248 rfl rfl ?_
  refine sw_if_eq 31 dX12_exit_9 (by decide) (fun h9 => ?_) (fun h9 => ?_)
  · refine sw_iconst (x := (-1)) dX12_exit_31 (by decide) ?_
    exact sw_iret dX12_exit_32 rfl (by first | rfl | exact bz_n _) (by omega) (by omega) ⟨by first | (rw [r_exit, if_pos ⟨h9, by grind, by grind⟩, nI_clamp (by omega)]; done) | rw [r_exit, if_neg (by grind [va_up])], rfl, rfl⟩
  · refine sw_iload_n dX12_exit_12 rfl ?_
    refine sw_if_lt 31 dX12_exit_13 (by decide) (fun h13 => ?_) (fun h13 => ?_)
    · refine sw_iconst (x := (-1)) dX12_exit_31 (by decide) ?_
      exact sw_iret dX12_exit_32 rfl (by first | rfl | exact bz_n _) (by omega) (by omega) ⟨by first | (rw [r_exit, if_pos ⟨h9, by grind, by grind⟩, nI_clamp (by omega)]; done) | rw [r_exit, if_neg (by grind [va_up])], rfl, rfl⟩
    · refine sw_iload_n dX12_exit_16 rfl ?_
      refine sw_bipush (x := 8) dX12_exit_17 (by decide) ?_
      refine sw_icmp_ge 31 dX12_exit_19 (by decide) (fun h19 => ?_) (fun h19 => ?_)
      · refine sw_iconst (x := (-1)) dX12_exit_31 (by decide) ?_
        exact sw_iret dX12_exit_32 rfl (by first | rfl | exact bz_n _) (by omega) (by omega) ⟨by first | (rw [r_exit, if_pos ⟨h9, by grind, by grind⟩, nI_clamp (by omega)]; done) | rw [r_exit, if_neg (by grind [va_up])], rfl, rfl⟩
      · obtain ⟨k, hk, rfl⟩ := i32_08 h13 h19
        refine sw_aload_n dX12_exit_22 rfl (by first | rfl | assumption) ?_
        refine sw_get dX12_exit_23 fr_X12_91 rfl rfl ?_
        refine sw_iload_n dX12_exit_26 rfl ?_
        refine sw_ialdN (k) dX12_exit_27 rfl rfl (show k < 8 by omega) (by decide) ?_
        refine sw_goto 32 dX12_exit_28 (by decide) ?_
        exact sw_iret dX12_exit_32 rfl (by first | rfl | exact bz_n _) (by omega) (by omega) ⟨by first | (rw [r_exit, if_pos ⟨h9, by grind, by grind⟩, nI_clamp (by omega)]; done) | rw [r_exit, if_neg (by grind [va_up])], rfl, rfl⟩
def r_code (s : Nat → Int32) (A : Nat → Nat → Int32) (k w : Int32) : Int32 := if k = -1 then s 36 else if 0 ≤ k ∧ k < s 36 ∧ 0 ≤ w ∧ w ≤ 1 then (if w = 0 then A 176 k.toNatClampNeg else A 177 k.toNatClampNeg) else -1
theorem i32_lt {v : Int32} {C : Nat} (h1 : ¬ v < 0) (h2 : ¬ nI C ≤ v) (hC : C < 2147483648) : ∃ k : Nat, k < C ∧ v = nI k := by
  obtain ⟨j, hj, rfl⟩ := nI_of h1
  exact ⟨j, (nI_ltI hj hC).mp (i32_nle.mp h2), rfl⟩
set_option maxRecDepth 100000 in
theorem c_X12_code {l : Launch} {D : va_G} {cy : Nat → ClassId} {d n : Nat} {f : sw_F} {s : Nat → Int32} {A : Nat → Nat → Int32} {C : Nat} (hC : s 36 = nI C) (hCb : C ≤ 100) (k w : Int32) : sw_Ct l D cy mX12_code d 0 0 [.ref 150, .int k, .int w] n (md f s A) (sw_D (some (.int (r_code s A k w))) n (md f (va_up s 0 0) (A))) := by
  refine sw_of rfl (Nat.le_of_ble_eq_true rfl) ?_
  show SW l D cy mX12_code d 0 0 0 0 0 [(0, .ref 150), (1, .int k), (2, .int w)] [] n (md f s A) _ _
  refine sw_aload_n dX12_code_0 rfl (by first | rfl | assumption) ?_
  refine sw_iconst (x := 0) dX12_code_1 (by decide) ?_
  refine m_put dX12_code_2 fl_X12_124 (by decide) (sw_fit_i _) rfl ?_
  refine sw_iload_n dX12_code_5 rfl ?_
  refine sw_iconst (x := (-1)) dX12_code_6 (by decide) ?_
  refine sw_icmp_ne 15 dX12_code_7 (by decide) (fun h7 => ?_) (fun h7 => ?_)
  · refine sw_iload_n dX12_code_15 rfl ?_
    refine sw_if_lt 36 dX12_code_16 (by decide) (fun h16 => ?_) (fun h16 => ?_)
    · refine sw_iconst (x := (-1)) dX12_code_36 (by decide) ?_
      exact sw_iret dX12_code_37 rfl (by first | rfl | exact bz_n _) (by omega) (by omega) ⟨by rw [r_code, if_neg h7, if_neg (by grind [va_up])], rfl, rfl⟩
    · refine sw_iload_n dX12_code_19 rfl ?_
      refine sw_aload_n dX12_code_20 rfl (by first | rfl | assumption) ?_
      refine sw_get dX12_code_21 fr_X12_251 rfl rfl ?_
      refine sw_icmp_ge 36 dX12_code_24 (by decide) (fun h24 => ?_) (fun h24 => ?_)
      · refine sw_iconst (x := (-1)) dX12_code_36 (by decide) ?_
        exact sw_iret dX12_code_37 rfl (by first | rfl | exact bz_n _) (by omega) (by omega) ⟨by rw [r_code, if_neg h7, if_neg (by grind [va_up])], rfl, rfl⟩
      · refine sw_iload_n dX12_code_27 rfl ?_
        refine sw_if_lt 36 dX12_code_28 (by decide) (fun h28 => ?_) (fun h28 => ?_)
        · refine sw_iconst (x := (-1)) dX12_code_36 (by decide) ?_
          exact sw_iret dX12_code_37 rfl (by first | rfl | exact bz_n _) (by omega) (by omega) ⟨by rw [r_code, if_neg h7, if_neg (by grind [va_up])], rfl, rfl⟩
        · refine sw_iload_n dX12_code_31 rfl ?_
          refine sw_iconst (x := 1) dX12_code_32 (by decide) ?_
          refine sw_icmp_le 38 dX12_code_33 (by decide) (fun h33 => ?_) (fun h33 => ?_)
          · obtain ⟨j, hj, rfl⟩ := i32_lt h16 (show ¬ nI C ≤ k by rw [← hC]; exact h24) (by omega)
            refine sw_iload_n dX12_code_38 rfl ?_
            refine sw_if_ne 51 dX12_code_39 (by decide) (fun h39 => ?_) (fun h39 => ?_)
            · refine sw_aload_n dX12_code_51 rfl (by first | rfl | assumption) ?_
              refine sw_get dX12_code_52 fr_X12_97 rfl rfl ?_
              refine sw_iload_n dX12_code_55 rfl ?_
              refine sw_ialdN (j) dX12_code_56 rfl rfl (show j < 100 by omega) (by decide) ?_
              exact sw_iret dX12_code_57 rfl (by first | rfl | exact bz_n _) (by omega) (by omega) ⟨by rw [r_code, if_neg h7, if_pos ⟨by grind, by grind [va_up], by grind, by grind⟩, nI_clamp (by omega)]; simp [*], rfl, rfl⟩
            · refine sw_aload_n dX12_code_42 rfl (by first | rfl | assumption) ?_
              refine sw_get dX12_code_43 fr_X12_94 rfl rfl ?_
              refine sw_iload_n dX12_code_46 rfl ?_
              refine sw_ialdN (j) dX12_code_47 rfl rfl (show j < 100 by omega) (by decide) ?_
              refine sw_goto 57 dX12_code_48 (by decide) ?_
              exact sw_iret dX12_code_57 rfl (by first | rfl | exact bz_n _) (by omega) (by omega) ⟨by rw [r_code, if_neg h7, if_pos ⟨by grind, by grind [va_up], by grind, by grind⟩, nI_clamp (by omega)]; simp [*], rfl, rfl⟩
          · refine sw_iconst (x := (-1)) dX12_code_36 (by decide) ?_
            exact sw_iret dX12_code_37 rfl (by first | rfl | exact bz_n _) (by omega) (by omega) ⟨by rw [r_code, if_neg h7, if_neg (by grind [va_up])], rfl, rfl⟩
  · refine sw_aload_n dX12_code_10 rfl (by first | rfl | assumption) ?_
    refine sw_get dX12_code_11 fr_X12_251 rfl rfl ?_
    exact sw_iret dX12_code_14 rfl (by first | rfl | exact bz_n _) (by omega) (by omega) ⟨by rw [r_code, if_pos h7]; rfl, rfl, rfl⟩
set_option maxRecDepth 100000 in
theorem c_X12_empty {l : Launch} {D : va_G} {cy : Nat → ClassId} {d n : Nat} {f : sw_F} {s : Nat → Int32} {A : Nat → Nat → Int32}  : sw_Ct l D cy mX12_empty d 0 0 [.ref 150] n (md f s A) (sw_D none n (md f (va_up (va_up (va_up (va_up s 0 0) 36 0) 39 0) 40 0) (A))) := by
  refine sw_of rfl (Nat.le_of_ble_eq_true rfl) ?_
  show SW l D cy mX12_empty d 0 0 0 0 0 [(0, .ref 150)] [] n (md f s A) _ _
  refine sw_aload_n dX12_empty_0 rfl (by first | rfl | assumption) ?_
  refine sw_iconst (x := 0) dX12_empty_1 (by decide) ?_
  refine m_put dX12_empty_2 fl_X12_124 (by decide) (sw_fit_i _) rfl ?_
  refine sw_aload_n dX12_empty_5 rfl (by first | rfl | assumption) ?_
  refine sw_iconst (x := 0) dX12_empty_6 (by decide) ?_
  refine m_put dX12_empty_7 fl_X12_251 (by decide) (sw_fit_i _) rfl ?_
  refine sw_aload_n dX12_empty_10 rfl (by first | rfl | assumption) ?_
  refine sw_iconst (x := 0) dX12_empty_11 (by decide) ?_
  refine m_put dX12_empty_12 fl_X12_254 (by decide) (by first | exact sw_fit_z0 | exact sw_fit_z1 | exact sw_fit_z _) rfl ?_
  refine sw_aload_n dX12_empty_15 rfl (by first | rfl | assumption) ?_
  refine sw_iconst (x := 0) dX12_empty_16 (by decide) ?_
  refine m_put dX12_empty_17 fl_X12_257 (by decide) (by first | exact sw_fit_z0 | exact sw_fit_z1 | exact sw_fit_z _) rfl ?_
  exact sw_vret dX12_empty_20 rfl (by omega) (by omega) ⟨rfl, rfl, rfl⟩
theorem lt_of_neN {C K : Nat} {x : Int32} (hx : x = nI C) (hC : C ≤ K) (hn : ¬ x = nI K) : C < K := by
  rcases Nat.lt_or_ge C K with q | q
  · exact q
  · exact absurd (by rw [hx, show C = K by omega]) hn
def r_putS (s : Nat → Int32) : Nat → Int32 := if s 36 = 100 then va_up s 0 0 else va_up (va_up (va_up (va_up s 0 0) 36 (s 36 + 1)) 39 0) 40 0
def r_putA (s : Nat → Int32) (A : Nat → Nat → Int32) (k g : Int32) : Nat → Nat → Int32 := if s 36 = 100 then A else va_up (va_up A 176 (upd (A 176) (s 36).toNatClampNeg k)) 177 (upd (A 177) (s 36).toNatClampNeg g)
set_option maxRecDepth 100000 in
theorem c_X12_put {l : Launch} {D : va_G} {cy : Nat → ClassId} {d n : Nat} {f : sw_F} {s : Nat → Int32} {A : Nat → Nat → Int32} {C : Nat} (hC : s 36 = nI C) (hCb : C ≤ 100) (k g : Int32) : sw_Ct l D cy mX12_put d 0 0 [.ref 150, .int k, .int g] n (md f s A) (sw_D (some (.int (bz (decide (¬ s 36 = 100))))) n (md f (r_putS s) (r_putA s A k g))) := by
  refine sw_of rfl (Nat.le_of_ble_eq_true rfl) ?_
  show SW l D cy mX12_put d 0 0 0 0 0 [(0, .ref 150), (1, .int k), (2, .int g)] [] n (md f s A) _ _
  refine sw_aload_n dX12_put_0 rfl (by first | rfl | assumption) ?_
  refine sw_iconst (x := 0) dX12_put_1 (by decide) ?_
  refine m_put dX12_put_2 fl_X12_124 (by decide) (sw_fit_i _) rfl ?_
  refine sw_aload_n dX12_put_5 rfl (by first | rfl | assumption) ?_
  refine sw_get dX12_put_6 fr_X12_251 rfl rfl ?_
  refine sw_bipush (x := 100) dX12_put_9 (by decide) ?_
  refine sw_icmp_ne 16 dX12_put_11 (by decide) (fun h11 => ?_) (fun h11 => ?_)
  · have hC2 : C < 100 := lt_of_neN hC hCb (by rw [← nl_100]; exact h11)
    refine sw_aload_n dX12_put_16 rfl (by first | rfl | assumption) ?_
    refine sw_get dX12_put_17 fr_X12_94 rfl rfl ?_
    refine sw_aload_n dX12_put_20 rfl (by first | rfl | assumption) ?_
    refine sw_get dX12_put_21 fr_X12_251 rfl rfl ?_
    refine sw_iload_n dX12_put_24 rfl ?_
    refine m_iast (C) dX12_put_25 ⟨by decide, by decide, rfl⟩ hC (show C < 100 by omega) rfl ?_
    refine sw_aload_n dX12_put_26 rfl (by first | rfl | assumption) ?_
    refine sw_get dX12_put_27 fr_X12_97 rfl rfl ?_
    refine sw_aload_n dX12_put_30 rfl (by first | rfl | assumption) ?_
    refine sw_get dX12_put_31 fr_X12_251 rfl rfl ?_
    refine sw_iload_n dX12_put_34 rfl ?_
    refine m_iast (C) dX12_put_35 ⟨by decide, by decide, rfl⟩ hC (show C < 100 by omega) rfl ?_
    refine sw_aload_n dX12_put_36 rfl (by first | rfl | assumption) ?_
    refine sw_dup dX12_put_37 rfl ?_
    refine sw_get dX12_put_38 fr_X12_251 rfl rfl ?_
    refine sw_iconst (x := 1) dX12_put_41 (by decide) ?_
    refine sw_iadd dX12_put_42 ?_
    refine m_put dX12_put_43 fl_X12_251 (by decide) (sw_fit_i _) rfl ?_
    refine sw_aload_n dX12_put_46 rfl (by first | rfl | assumption) ?_
    refine sw_iconst (x := 0) dX12_put_47 (by decide) ?_
    refine m_put dX12_put_48 fl_X12_254 (by decide) (by first | exact sw_fit_z0 | exact sw_fit_z1 | exact sw_fit_z _) rfl ?_
    refine sw_aload_n dX12_put_51 rfl (by first | rfl | assumption) ?_
    refine sw_iconst (x := 0) dX12_put_52 (by decide) ?_
    refine m_put dX12_put_53 fl_X12_257 (by decide) (by first | exact sw_fit_z0 | exact sw_fit_z1 | exact sw_fit_z _) rfl ?_
    refine sw_iconst (x := 1) dX12_put_56 (by decide) ?_
    exact sw_iret dX12_put_57 rfl (by first | rfl | exact bz_n _) (by omega) (by omega) ⟨by rw [decide_eq_true (show ¬ s 36 = 100 from h11)]; rfl, rfl, by rw [r_putS, r_putA, if_neg (show ¬ s 36 = 100 from h11), if_neg (show ¬ s 36 = 100 from h11), show (s 36).toNatClampNeg = C from (by rw [hC, nI_clamp (by omega)])]; rfl⟩
  · refine sw_iconst (x := 0) dX12_put_14 (by decide) ?_
    exact sw_iret dX12_put_15 rfl (by first | rfl | exact bz_n _) (by omega) (by omega) ⟨by rw [decide_eq_false (fun q => q h11)]; rfl, rfl, by rw [r_putS, r_putA, if_pos (show s 36 = 100 from h11), if_pos (show s 36 = 100 from h11)]⟩
def r_setA (A : Nat → Nat → Int32) (v x : Int32) : Nat → Nat → Int32 := if 0 ≤ v ∧ v ≤ 7 then va_up A 155 (upd (A 155) v.toNatClampNeg x) else A
def r_get (A : Nat → Nat → Int32) (v : Int32) : Int32 := if 0 ≤ v ∧ v < 8 then A 155 v.toNatClampNeg else 0
set_option maxRecDepth 100000 in
theorem c_X12_set {l : Launch} {D : va_G} {cy : Nat → ClassId} {d n : Nat} {f : sw_F} {s : Nat → Int32} {A : Nat → Nat → Int32} (v x : Int32) : sw_Ct l D cy mX12_set d 0 0 [.ref 150, .int v, .int x] n (md f s A) (sw_D (some (.int (bz (decide (0 ≤ v ∧ v ≤ 7))))) n (md f (va_up s 0 0) (r_setA A v x))) := by
  refine sw_of rfl (Nat.le_of_ble_eq_true rfl) ?_
  show SW l D cy mX12_set d 0 0 0 0 0 [(0, .ref 150), (1, .int v), (2, .int x)] [] n (md f s A) _ _
  refine sw_aload_n dX12_set_0 rfl (by first | rfl | assumption) ?_
  refine sw_iconst (x := 0) dX12_set_1 (by decide) ?_
  refine m_put dX12_set_2 fl_X12_124 (by decide) (sw_fit_i _) rfl ?_
  refine sw_iload_n dX12_set_5 rfl ?_
  refine sw_if_lt 15 dX12_set_6 (by decide) (fun h6 => ?_) (fun h6 => ?_)
  · refine sw_iconst (x := 0) dX12_set_15 (by decide) ?_
    exact sw_iret dX12_set_16 rfl (by first | rfl | exact bz_n _) (by omega) (by omega) ⟨by rw [decide_eq_false (by grind)]; rfl, rfl, by rw [r_setA, if_neg (by grind)]⟩
  · refine sw_iload_n dX12_set_9 rfl ?_
    refine sw_bipush (x := 7) dX12_set_10 (by decide) ?_
    refine sw_icmp_le 17 dX12_set_12 (by decide) (fun h12 => ?_) (fun h12 => ?_)
    · obtain ⟨k, hk, rfl⟩ := i32_07 h6 (by grind)
      refine sw_aload_n dX12_set_17 rfl (by first | rfl | assumption) ?_
      refine sw_get dX12_set_18 fr_X12_27 rfl rfl ?_
      refine sw_iload_n dX12_set_21 rfl ?_
      refine sw_iload_n dX12_set_22 rfl ?_
      refine m_iast (k) dX12_set_23 ⟨by decide, by decide, rfl⟩ rfl (show k < 8 by omega) rfl ?_
      refine sw_iconst (x := 1) dX12_set_24 (by decide) ?_
      exact sw_iret dX12_set_25 rfl (by first | rfl | exact bz_n _) (by omega) (by omega) ⟨by rw [decide_eq_true (by grind)]; rfl, rfl, by rw [r_setA, if_pos (by grind), nI_clamp (by omega)]⟩
    · refine sw_iconst (x := 0) dX12_set_15 (by decide) ?_
      exact sw_iret dX12_set_16 rfl (by first | rfl | exact bz_n _) (by omega) (by omega) ⟨by rw [decide_eq_false (by grind)]; rfl, rfl, by rw [r_setA, if_neg (by grind)]⟩
set_option maxRecDepth 100000 in
theorem c_X12_get {l : Launch} {D : va_G} {cy : Nat → ClassId} {d n : Nat} {f : sw_F} {s : Nat → Int32} {A : Nat → Nat → Int32} (v : Int32) : sw_Ct l D cy mX12_get d 0 0 [.ref 150, .int v] n (md f s A) (sw_D (some (.int (r_get A v))) n (md f (va_up s 0 0) (A))) := by
  refine sw_of rfl (Nat.le_of_ble_eq_true rfl) ?_
  show SW l D cy mX12_get d 0 0 0 0 0 [(0, .ref 150), (1, .int v)] [] n (md f s A) _ _
  refine sw_aload_n dX12_get_0 rfl (by first | rfl | assumption) ?_
  refine sw_iconst (x := 0) dX12_get_1 (by decide) ?_
  refine m_put dX12_get_2 fl_X12_124 (by decide) (sw_fit_i _) rfl ?_
  refine sw_iload_n dX12_get_5 rfl ?_
  refine sw_if_lt 24 dX12_get_6 (by decide) (fun h6 => ?_) (fun h6 => ?_)
  · refine sw_iconst (x := 0) dX12_get_24 (by decide) ?_
    exact sw_iret dX12_get_25 rfl (by first | rfl | exact bz_n _) (by omega) (by omega) ⟨by first | (rw [r_get, if_pos (by grind), nI_clamp (by omega)]; done) | rw [r_get, if_neg (by grind)], rfl, rfl⟩
  · refine sw_iload_n dX12_get_9 rfl ?_
    refine sw_bipush (x := 8) dX12_get_10 (by decide) ?_
    refine sw_icmp_ge 24 dX12_get_12 (by decide) (fun h12 => ?_) (fun h12 => ?_)
    · refine sw_iconst (x := 0) dX12_get_24 (by decide) ?_
      exact sw_iret dX12_get_25 rfl (by first | rfl | exact bz_n _) (by omega) (by omega) ⟨by first | (rw [r_get, if_pos (by grind), nI_clamp (by omega)]; done) | rw [r_get, if_neg (by grind)], rfl, rfl⟩
    · obtain ⟨k, hk, rfl⟩ := i32_08 h6 h12
      refine sw_aload_n dX12_get_15 rfl (by first | rfl | assumption) ?_
      refine sw_get dX12_get_16 fr_X12_27 rfl rfl ?_
      refine sw_iload_n dX12_get_19 rfl ?_
      refine sw_ialdN (k) dX12_get_20 rfl rfl (show k < 8 by omega) (by decide) ?_
      refine sw_goto 25 dX12_get_21 (by decide) ?_
      exact sw_iret dX12_get_25 rfl (by first | rfl | exact bz_n _) (by omega) (by omega) ⟨by first | (rw [r_get, if_pos (by grind), nI_clamp (by omega)]; done) | rw [r_get, if_neg (by grind)], rfl, rfl⟩
def r_cmS (s : Nat → Int32) (A : Nat → Nat → Int32) (i j : Nat) : Nat → Int32 := va_up s 30 (if ¬ s 30 = 0 ∨ ¬ A 152 (6 * i + j) = nI i then 1 else 0)
set_option maxRecDepth 100000 in
theorem c_X12_come {l : Launch} {D : va_G} {cy : Nat → ClassId} {d n : Nat} {f : sw_F} {s : Nat → Int32} {A : Nat → Nat → Int32} {k i j : Nat} (hd : 1 ≤ d) (hk : k < 1600) (hi : i < 6) (hj : j < 6) (hA : A 183 k = nI i) : sw_Ct l D cy mX12_come d 0 0 [.ref 150, .int (nI k), .int (nI j)] n (md f s A) (sw_D none n (md f (r_cmS s A i j) (va_up A 183 (upd (A 183) k (A 152 (6 * i + j)))))) := by
  refine sw_of rfl (Nat.le_of_ble_eq_true rfl) ?_
  show SW l D cy mX12_come d 0 0 0 0 0 [(0, .ref 150), (1, .int (nI k)), (2, .int (nI j))] [] n (md f s A) _ _
  refine sw_aload_n dX12_come_0 rfl (by first | rfl | assumption) ?_
  refine sw_aload_n dX12_come_1 rfl (by first | rfl | assumption) ?_
  refine sw_get dX12_come_2 fr_X12_115 rfl rfl ?_
  refine sw_iload_n dX12_come_5 rfl ?_
  refine sw_ialdN (k) dX12_come_6 rfl rfl (show k < 1600 by omega) (by decide) ?_
  refine sw_iload_n dX12_come_7 rfl ?_
  rw [show A 183 k = nI i from hA]
  refine sw_Vv dX12_come_8 k_X12_148 mf_X12_joined (c_X12_joined (d := d - 1) hi hj) rfl ⟨_, rfl, rfl⟩ (by omega) (by omega) (by omega) rfl rfl (Nat.le_of_ble_eq_true rfl) ?_
  refine sw_istore_n [(0, _), (1, _), (2, _), (3, _)] dX12_come_11 (by decide) rfl ?_
  refine sw_aload_n dX12_come_12 rfl (by first | rfl | assumption) ?_
  refine sw_aload_n dX12_come_13 rfl (by first | rfl | assumption) ?_
  refine sw_get dX12_come_14 fr_X12_207 rfl rfl ?_
  refine sw_if_ne 30 dX12_come_17 (by decide) (fun h17 => ?_) (fun h17 => ?_)
  · refine sw_iconst (x := 1) dX12_come_30 (by decide) ?_
    refine sw_goto 35 dX12_come_31 (by decide) ?_
    refine m_put dX12_come_35 fl_X12_207 (by decide) (by first | exact sw_fit_z0 | exact sw_fit_z1 | exact sw_fit_z _) rfl ?_
    refine sw_aload_n dX12_come_38 rfl (by first | rfl | assumption) ?_
    refine sw_get dX12_come_39 fr_X12_115 rfl rfl ?_
    refine sw_iload_n dX12_come_42 rfl ?_
    refine sw_iload_n dX12_come_43 rfl ?_
    refine m_iast (k) dX12_come_44 ⟨by decide, by decide, rfl⟩ rfl (show k < 1600 by omega) rfl ?_
    exact sw_vret dX12_come_45 rfl (by omega) (by omega) ⟨rfl, rfl, by first | (rw [r_cmS, if_pos (by first | exact Or.inl h17 | exact Or.inr (by rw [← hA]; exact h27))]; done) | (rw [r_cmS, if_neg (by rw [← hA]; intro q; exact q.elim (fun q => q h17) (fun q => q h27))])⟩
  · refine sw_iload_n dX12_come_20 rfl ?_
    refine sw_aload_n dX12_come_21 rfl (by first | rfl | assumption) ?_
    refine sw_get dX12_come_22 fr_X12_115 rfl rfl ?_
    refine sw_iload_n dX12_come_25 rfl ?_
    refine sw_ialdN (k) dX12_come_26 rfl rfl (show k < 1600 by omega) (by decide) ?_
    refine sw_icmp_eq 34 dX12_come_27 (by decide) (fun h27 => ?_) (fun h27 => ?_)
    · refine sw_iconst (x := 0) dX12_come_34 (by decide) ?_
      refine m_put dX12_come_35 fl_X12_207 (by decide) (by first | exact sw_fit_z0 | exact sw_fit_z1 | exact sw_fit_z _) rfl ?_
      refine sw_aload_n dX12_come_38 rfl (by first | rfl | assumption) ?_
      refine sw_get dX12_come_39 fr_X12_115 rfl rfl ?_
      refine sw_iload_n dX12_come_42 rfl ?_
      refine sw_iload_n dX12_come_43 rfl ?_
      refine m_iast (k) dX12_come_44 ⟨by decide, by decide, rfl⟩ rfl (show k < 1600 by omega) rfl ?_
      exact sw_vret dX12_come_45 rfl (by omega) (by omega) ⟨rfl, rfl, by first | (rw [r_cmS, if_pos (by first | exact Or.inl h17 | exact Or.inr (by rw [← hA]; exact h27))]; done) | (rw [r_cmS, if_neg (by rw [← hA]; intro q; exact q.elim (fun q => q h17) (fun q => q h27))])⟩
    · refine sw_iconst (x := 1) dX12_come_30 (by decide) ?_
      refine sw_goto 35 dX12_come_31 (by decide) ?_
      refine m_put dX12_come_35 fl_X12_207 (by decide) (by first | exact sw_fit_z0 | exact sw_fit_z1 | exact sw_fit_z _) rfl ?_
      refine sw_aload_n dX12_come_38 rfl (by first | rfl | assumption) ?_
      refine sw_get dX12_come_39 fr_X12_115 rfl rfl ?_
      refine sw_iload_n dX12_come_42 rfl ?_
      refine sw_iload_n dX12_come_43 rfl ?_
      refine m_iast (k) dX12_come_44 ⟨by decide, by decide, rfl⟩ rfl (show k < 1600 by omega) rfl ?_
      exact sw_vret dX12_come_45 rfl (by omega) (by omega) ⟨rfl, rfl, by first | (rw [r_cmS, if_pos (by first | exact Or.inl h17 | exact Or.inr (by rw [← hA]; exact h27))]; done) | (rw [r_cmS, if_neg (by rw [← hA]; intro q; exact q.elim (fun q => q h17) (fun q => q h27))])⟩
def r_found (s : Nat → Int32) (A : Nat → Nat → Int32) (k w : Int32) : Int32 :=
  if ¬ s 40 = 0 ∧ 0 ≤ k ∧ k < s 36 ∧ 0 ≤ A 178 k.toNatClampNeg ∧ 0 ≤ w ∧ w ≤ 8 + A 178 k.toNatClampNeg then
    (if w < 8 then A 183 (16 * k.toNatClampNeg + w.toNatClampNeg) else if w = 8 then A 184 k.toNatClampNeg else A 183 (16 * k.toNatClampNeg + w.toNatClampNeg - 1)) else -1
set_option maxRecDepth 100000 in
theorem c_X12_found {l : Launch} {D : va_G} {cy : Nat → ClassId} {d n : Nat} {f : sw_F} {s : Nat → Int32} {A : Nat → Nat → Int32} {C : Nat} (hC : s 36 = nI C) (hCb : C ≤ 100) (hh : ∀ k, k < C → A 178 k < 0 ∨ ∃ h, h ≤ 8 ∧ A 178 k = nI h) (k w : Int32) : sw_Ct l D cy mX12_found d 0 0 [.ref 150, .int k, .int w] n (md f s A) (sw_D (some (.int (r_found s A k w))) n (md f (va_up s 0 0) (A))) := by
  refine sw_of rfl (Nat.le_of_ble_eq_true rfl) ?_
  show SW l D cy mX12_found d 0 0 0 0 0 [(0, .ref 150), (1, .int k), (2, .int w)] [] n (md f s A) _ _
  refine sw_aload_n dX12_found_0 rfl (by first | rfl | assumption) ?_
  refine sw_iconst (x := 0) dX12_found_1 (by decide) ?_
  refine m_put dX12_found_2 fl_X12_124 (by decide) (sw_fit_i _) rfl ?_
  refine sw_aload_n dX12_found_5 rfl (by first | rfl | assumption) ?_
  refine sw_get dX12_found_6 fr_X12_257 rfl rfl ?_
  refine sw_if_eq 50 dX12_found_9 (by decide) (fun h9 => ?_) (fun h9 => ?_)
  · refine sw_iconst (x := (-1)) dX12_found_50 (by decide) ?_
    exact sw_iret dX12_found_51 rfl (by first | rfl | exact bz_n _) (by omega) (by omega) ⟨(by rw [r_found, if_neg (by first | (rintro ⟨q1, q2, q3, q4, q5, q6⟩; first | exact q1 h9 | exact absurd q2 (by grind) | exact absurd q3 (by grind [va_up]) | (rw [nI_clamp (by omega)] at q4 q6; grind)))]), rfl, rfl⟩
  · refine sw_iload_n dX12_found_12 rfl ?_
    refine sw_if_lt 50 dX12_found_13 (by decide) (fun h13 => ?_) (fun h13 => ?_)
    · refine sw_iconst (x := (-1)) dX12_found_50 (by decide) ?_
      exact sw_iret dX12_found_51 rfl (by first | rfl | exact bz_n _) (by omega) (by omega) ⟨(by rw [r_found, if_neg (by first | (rintro ⟨q1, q2, q3, q4, q5, q6⟩; first | exact q1 h9 | exact absurd q2 (by grind) | exact absurd q3 (by grind [va_up]) | (rw [nI_clamp (by omega)] at q4 q6; grind)))]), rfl, rfl⟩
    · refine sw_iload_n dX12_found_16 rfl ?_
      refine sw_aload_n dX12_found_17 rfl (by first | rfl | assumption) ?_
      refine sw_get dX12_found_18 fr_X12_251 rfl rfl ?_
      refine sw_icmp_ge 50 dX12_found_21 (by decide) (fun h21 => ?_) (fun h21 => ?_)
      · refine sw_iconst (x := (-1)) dX12_found_50 (by decide) ?_
        exact sw_iret dX12_found_51 rfl (by first | rfl | exact bz_n _) (by omega) (by omega) ⟨(by rw [r_found, if_neg (by first | (rintro ⟨q1, q2, q3, q4, q5, q6⟩; first | exact q1 h9 | exact absurd q2 (by grind) | exact absurd q3 (by grind [va_up]) | (rw [nI_clamp (by omega)] at q4 q6; grind)))]), rfl, rfl⟩
      · obtain ⟨j, hj, rfl⟩ := i32_lt h13 (show ¬ nI C ≤ k by rw [← hC]; exact h21) (by omega)
        refine sw_aload_n dX12_found_24 rfl (by first | rfl | assumption) ?_
        refine sw_get dX12_found_25 fr_X12_100 rfl rfl ?_
        refine sw_iload_n dX12_found_28 rfl ?_
        refine sw_ialdN (j) dX12_found_29 rfl rfl (show j < 100 by omega) (by decide) ?_
        refine sw_if_lt 50 dX12_found_30 (by decide) (fun h30 => ?_) (fun h30 => ?_)
        · refine sw_iconst (x := (-1)) dX12_found_50 (by decide) ?_
          exact sw_iret dX12_found_51 rfl (by first | rfl | exact bz_n _) (by omega) (by omega) ⟨(by rw [r_found, if_neg (by first | (rintro ⟨q1, q2, q3, q4, q5, q6⟩; first | exact q1 h9 | exact absurd q2 (by grind) | exact absurd q3 (by grind [va_up]) | (rw [nI_clamp (by omega)] at q4 q6; grind)))]), rfl, rfl⟩
        · refine sw_iload_n dX12_found_33 rfl ?_
          refine sw_if_lt 50 dX12_found_34 (by decide) (fun h34 => ?_) (fun h34 => ?_)
          · refine sw_iconst (x := (-1)) dX12_found_50 (by decide) ?_
            exact sw_iret dX12_found_51 rfl (by first | rfl | exact bz_n _) (by omega) (by omega) ⟨(by rw [r_found, if_neg (by first | (rintro ⟨q1, q2, q3, q4, q5, q6⟩; first | exact q1 h9 | exact absurd q2 (by grind) | exact absurd q3 (by grind [va_up]) | (rw [nI_clamp (by omega)] at q4 q6; grind)))]), rfl, rfl⟩
          · refine sw_iload_n dX12_found_37 rfl ?_
            refine sw_bipush (x := 8) dX12_found_38 (by decide) ?_
            refine sw_aload_n dX12_found_40 rfl (by first | rfl | assumption) ?_
            refine sw_get dX12_found_41 fr_X12_100 rfl rfl ?_
            refine sw_iload_n dX12_found_44 rfl ?_
            refine sw_ialdN (j) dX12_found_45 rfl rfl (show j < 100 by omega) (by decide) ?_
            refine sw_iadd dX12_found_46 ?_
            refine sw_icmp_le 52 dX12_found_47 (by decide) (fun h47 => ?_) (fun h47 => ?_)
            · obtain ⟨h, hh8, hhe⟩ : ∃ h, h ≤ 8 ∧ A 178 j = nI h := (hh j hj).elim (fun q => absurd q h30) id
              have h47b : w ≤ 8 + nI h := by rw [← hhe]; exact h47
              obtain ⟨x, hx, rfl⟩ := nI_of (x := w) h34
              have hx2 : x ≤ 8 + h := (nI_leI hx (by omega)).mp (by rw [← nI_add]; exact h47b)
              refine sw_iload_n dX12_found_52 rfl ?_
              refine sw_bipush (x := 8) dX12_found_53 (by decide) ?_
              refine sw_icmp_ge 72 dX12_found_55 (by decide) (fun h55 => ?_) (fun h55 => ?_)
              · have h55c : ¬ nI x < 8 := by grind
                have h55b : 8 ≤ x := (nI_leI (by omega) hx).mp (by rw [← nl_8]; grind)
                refine sw_iload_n dX12_found_72 rfl ?_
                refine sw_bipush (x := 8) dX12_found_73 (by decide) ?_
                refine sw_icmp_ne 87 dX12_found_75 (by decide) (fun h75 => ?_) (fun h75 => ?_)
                · have h75b : x ≠ 8 := fun q => h75 (by rw [q]; decide)
                  refine sw_aload_n dX12_found_87 rfl (by first | rfl | assumption) ?_
                  refine sw_get dX12_found_88 fr_X12_115 rfl rfl ?_
                  refine sw_bipush (x := 16) dX12_found_91 (by decide) ?_
                  refine sw_iload_n dX12_found_93 rfl ?_
                  refine sw_imul dX12_found_94 ?_
                  refine sw_iload_n dX12_found_95 rfl ?_
                  refine sw_iadd dX12_found_96 ?_
                  refine sw_iconst (x := 1) dX12_found_97 (by decide) ?_
                  refine sw_isub dX12_found_98 ?_
                  refine sw_ialdN (16 * j + x - 1) dX12_found_99 rfl (by rw [nl_16, pk_mul, nI_add, show 16 * j + x = (16 * j + x - 1) + 1 by omega, nI_pred]; rfl) (show 16 * j + x - 1 < 1600 by omega) (by decide) ?_
                  exact sw_iret dX12_found_100 rfl (by first | rfl | exact bz_n _) (by omega) (by omega) ⟨by rw [r_found, if_pos ⟨h9, by grind, by grind [va_up], by rw [nI_clamp (by omega)]; grind, by grind, by rw [nI_clamp (by omega), hhe]; exact h47b⟩, nI_clamp (by omega), nI_clamp (by omega)]; simp [*], rfl, rfl⟩
                · refine sw_aload_n dX12_found_78 rfl (by first | rfl | assumption) ?_
                  refine sw_get dX12_found_79 fr_X12_118 rfl rfl ?_
                  refine sw_iload_n dX12_found_82 rfl ?_
                  refine sw_ialdN (j) dX12_found_83 rfl rfl (show j < 100 by omega) (by decide) ?_
                  refine sw_goto 100 dX12_found_84 (by decide) ?_
                  exact sw_iret dX12_found_100 rfl (by first | rfl | exact bz_n _) (by omega) (by omega) ⟨by rw [r_found, if_pos ⟨h9, by grind, by grind [va_up], by rw [nI_clamp (by omega)]; grind, by grind, by rw [nI_clamp (by omega), hhe]; exact h47b⟩, nI_clamp (by omega), nI_clamp (by omega)]; simp [*], rfl, rfl⟩
              · have h55b : x < 8 := (nI_ltI hx (by omega)).mp (by rw [← nl_8]; grind)
                refine sw_aload_n dX12_found_58 rfl (by first | rfl | assumption) ?_
                refine sw_get dX12_found_59 fr_X12_115 rfl rfl ?_
                refine sw_bipush (x := 16) dX12_found_62 (by decide) ?_
                refine sw_iload_n dX12_found_64 rfl ?_
                refine sw_imul dX12_found_65 ?_
                refine sw_iload_n dX12_found_66 rfl ?_
                refine sw_iadd dX12_found_67 ?_
                refine sw_ialdN (16 * j + x) dX12_found_68 rfl (by rw [nl_16, pk_mul, nI_add]) (show 16 * j + x < 1600 by omega) (by decide) ?_
                refine sw_goto 100 dX12_found_69 (by decide) ?_
                exact sw_iret dX12_found_100 rfl (by first | rfl | exact bz_n _) (by omega) (by omega) ⟨by rw [r_found, if_pos ⟨h9, by grind, by grind [va_up], by rw [nI_clamp (by omega)]; grind, by grind, by rw [nI_clamp (by omega), hhe]; exact h47b⟩, nI_clamp (by omega), nI_clamp (by omega)]; simp [*], rfl, rfl⟩
            · refine sw_iconst (x := (-1)) dX12_found_50 (by decide) ?_
              exact sw_iret dX12_found_51 rfl (by first | rfl | exact bz_n _) (by omega) (by omega) ⟨(by rw [r_found, if_neg (by first | (rintro ⟨q1, q2, q3, q4, q5, q6⟩; first | exact q1 h9 | exact absurd q2 (by grind) | exact absurd q3 (by grind [va_up]) | (rw [nI_clamp (by omega)] at q4 q6; grind)))]), rfl, rfl⟩
