def tw (w y : Int64) (N a b : Nat) : Prop := ∀ i j, i < N → j < N → bL y (6 * j + i) = (decide (i < a ∨ (i = a ∧ j < b)) && cbit w (6 * i + j))
theorem tw_0 {w y : Int64} {N a b : Nat} (hN : N ≤ 6) (ha : a < N) (hb : b < N) (hc : cbit w (6 * a + b) = false) (h : tw w y N a b) : tw w y N a (b + 1) := by
  intro i j hi hj
  rw [h i j hi hj]
  by_cases c : i = a ∧ j = b
  · obtain ⟨rfl, rfl⟩ := c
    rw [hc, Bool.and_false, Bool.and_false]
  · rw [show decide (i < a ∨ (i = a ∧ j < b + 1)) = decide (i < a ∨ (i = a ∧ j < b)) from decide_eq_decide.mpr (by omega)]
theorem tw_1 {w y : Int64} {N a b : Nat} (hN : N ≤ 6) (ha : a < N) (hb : b < N) (hc : cbit w (6 * a + b) = true) (h : tw w y N a b) : tw w (y ||| ((1 : Int64) <<< ((nI (6 * b + a)).toInt64 &&& 63))) N a (b + 1) := by
  intro i j hi hj
  rw [bL_or, bL_shl (by omega) (by omega), h i j hi hj]
  by_cases c : i = a ∧ j = b
  · obtain ⟨rfl, rfl⟩ := c
    rw [hc, decide_eq_true (show i < i ∨ (i = i ∧ j < j + 1) by omega), decide_eq_true (rfl : 6 * j + i = 6 * j + i), Bool.or_true]
    rfl
  · rw [show decide (i < a ∨ (i = a ∧ j < b + 1)) = decide (i < a ∨ (i = a ∧ j < b)) from decide_eq_decide.mpr (by omega), decide_eq_false (show ¬ 6 * j + i = 6 * b + a by omega), Bool.or_false]
theorem tw_n {w y : Int64} {N a : Nat} (h : tw w y N a N) : tw w y N (a + 1) 0 := by
  intro i j hi hj
  rw [h i j hi hj, show decide (i < a ∨ (i = a ∧ j < N)) = decide (i < a + 1 ∨ (i = a + 1 ∧ j < 0)) from decide_eq_decide.mpr (by omega)]
set_option maxRecDepth 100000 in
theorem l_X3_tu2 {l : Launch} {D : va_G} {cy : Nat → ClassId} {d n : Nat} {f : sw_F} (hd : 1 ≤ d) {N : Nat} (hN : N ≤ 6) (w : Int64) {a : Nat} (ha : a < N) {QX : sw_QX} {Q : sw_Q} (K : ∀ y, tw w y N (a + 1) 0 → SW l D cy mX3_turned d 0 0 0 0 50 [(0, .int (nI N)), (1, .long w), (3, .long y), (5, .int (nI (a)))] [] n f Q QX) : ∀ (k b : Nat) (y : Int64), b ≤ N → N < b + k → tw w y N a b → SW l D cy mX3_turned d 0 0 0 0 14 [(0, .int (nI N)), (1, .long w), (3, .long y), (5, .int (nI (a))), (6, .int (nI (b)))] [] n f Q QX := by
  intro k
  induction k with
  | zero => intro c0 y0 h1 h2; exact absurd h2 (by omega)
  | succ k ih =>
    intro b y he hk hT
    refine sw_iload dX3_turned_14 rfl ?_
    refine sw_iload_n dX3_turned_16 rfl ?_
    refine sw_icmp_ge 50 dX3_turned_17 (by decide) (fun h17 => ?_) (fun h17 => ?_)
    · refine sw_keep [0, 1, 2, 3] rfl ?_
      obtain rfl : b = N := by have := (nI_leI (by omega) (by omega)).mp h17; omega
      exact K y (tw_n hT)
    · have e1 : b < N := (nI_ltI (by omega) (by omega)).mp (i32_nle.mp h17)
      refine sw_lload_n dX3_turned_20 rfl ?_
      refine sw_iload dX3_turned_21 rfl ?_
      refine sw_iload dX3_turned_23 rfl ?_
      refine sw_Sv dX3_turned_25 k_X3_29 mf_X3_holds (q_holds (d := d - 1) _ _ _) (by omega) (by omega) (by omega) rfl rfl (Nat.le_of_ble_eq_true rfl) ?_
      refine sw_if_eq 44 dX3_turned_28 (by decide) (fun h28 => ?_) (fun h28 => ?_)
      · first | refine sw_inc1 [(0, _), (1, _), (3, _), (5, _), (6, _)] dX3_turned_44 rfl (by decide) rfl ?_ | refine sw_iinc [(0, _), (1, _), (3, _), (5, _), (6, _)] dX3_turned_44 rfl (by decide) rfl ?_
        refine sw_goto 14 dX3_turned_47 (by decide) ?_
        exact ih (b + 1) _ (by omega) (by omega) (tw_0 hN ha e1 (bz_0.mp h28) hT)
      · refine sw_lload_n dX3_turned_31 rfl ?_
        refine sw_lconst (x := 1) dX3_turned_32 (by decide) ?_
        refine sw_bipush (x := 6) dX3_turned_33 (by decide) ?_
        refine sw_iload dX3_turned_35 rfl ?_
        refine sw_imul dX3_turned_37 ?_
        refine sw_iload dX3_turned_38 rfl ?_
        refine sw_iadd dX3_turned_40 ?_
        refine sw_top (y := nI (6 * b + a)) (by rw [nl_6, pk_mul, nI_add]) ?_
        refine sw_lshl dX3_turned_41 ?_
        refine sw_lor dX3_turned_42 ?_
        refine sw_lstore_n [(0, _), (1, _), (3, _), (5, _), (6, _)] dX3_turned_43 (by decide) rfl ?_
        first | refine sw_inc1 [(0, _), (1, _), (3, _), (5, _), (6, _)] dX3_turned_44 rfl (by decide) rfl ?_ | refine sw_iinc [(0, _), (1, _), (3, _), (5, _), (6, _)] dX3_turned_44 rfl (by decide) rfl ?_
        refine sw_goto 14 dX3_turned_47 (by decide) ?_
        exact ih (b + 1) _ (by omega) (by omega) (tw_1 hN ha e1 (bz_ne.mp h28) hT)
set_option maxRecDepth 100000 in
theorem l_X3_tu1 {l : Launch} {D : va_G} {cy : Nat → ClassId} {d n : Nat} {f : sw_F} (hd : 1 ≤ d) {N : Nat} (hN : N ≤ 6) (w : Int64) {QX : sw_QX} : ∀ (k a : Nat) (y : Int64), a ≤ N → N < a + k → tw w y N a 0 → SW l D cy mX3_turned d 0 0 0 0 5 [(0, .int (nI N)), (1, .long w), (3, .long y), (5, .int (nI (a)))] [] n f (fun r n' f' => ∃ y, r = some (.long y) ∧ n' = n ∧ f' = f ∧ tw w y N N 0) QX := by
  intro k
  induction k with
  | zero => intro c0 y0 h1 h2; exact absurd h2 (by omega)
  | succ k ih =>
    intro a y he hk hT
    refine sw_iload dX3_turned_5 rfl ?_
    refine sw_iload_n dX3_turned_7 rfl ?_
    refine sw_icmp_ge 56 dX3_turned_8 (by decide) (fun h8 => ?_) (fun h8 => ?_)
    · refine sw_lload_n dX3_turned_56 rfl ?_
      exact sw_lret dX3_turned_57 rfl (by omega) (by omega) ⟨y, rfl, rfl, rfl, by rw [show N = a by have := (nI_leI (by omega) (by omega)).mp h8; omega] at hT ⊢; exact hT⟩
    · have e1 : a < N := (nI_ltI (by omega) (by omega)).mp (i32_nle.mp h8)
      refine sw_iconst (x := 0) dX3_turned_11 (by decide) ?_
      refine sw_istore [(0, _), (1, _), (3, _), (5, _), (6, _)] dX3_turned_12 (by decide) rfl ?_
      refine l_X3_tu2 hd hN w e1 (fun y' hT' => ?_) (N + 1) 0 y (by omega) (by omega) hT
      refine sw_inc1 [(0, _), (1, _), (3, _), (5, _)] dX3_turned_50 rfl (by decide) rfl ?_
      refine sw_goto 5 dX3_turned_53 (by decide) ?_
      exact ih (a + 1) y' (by omega) (by omega) hT'
set_option maxRecDepth 100000 in
theorem c_X3_turned {l : Launch} {D : va_G} {cy : Nat → ClassId} {d n : Nat} {f : sw_F} (hd : 1 ≤ d) {N : Nat} (hN : N ≤ 6) (w : Int64) : sw_Ct l D cy mX3_turned d 0 0 [.int (nI N), .long w] n f (fun r n' f' => ∃ y, r = some (.long y) ∧ n' = n ∧ f' = f ∧ tw w y N N 0) := by
  refine sw_of rfl (Nat.le_of_ble_eq_true rfl) ?_
  show SW l D cy mX3_turned d 0 0 0 0 0 [(0, .int (nI N)), (1, .long w)] [] n f _ _
  refine sw_lconst (x := 0) dX3_turned_0 (by decide) ?_
  refine sw_lstore_n [(0, _), (1, _), (3, _)] dX3_turned_1 (by decide) rfl ?_
  refine sw_iconst (x := 0) dX3_turned_2 (by decide) ?_
  refine sw_istore [(0, _), (1, _), (3, _), (5, _)] dX3_turned_3 (by decide) rfl ?_
  exact l_X3_tu1 hd hN w (N + 1) 0 0 (by omega) (by omega) (fun i j hi hj => by rw [bL_0, decide_eq_false (by omega), Bool.false_and])
theorem bnf {b : Bool} (h : ¬ b = false) : b = true := by cases b with | false => exact absurd rfl h | true => rfl
theorem allF_cg {p q : Nat → Bool} : ∀ (k i : Nat), (∀ c, i ≤ c → c < i + k → p c = q c) → allF p i k = allF q i k
  | 0, i, h => rfl
  | k + 1, i, h => by
    rw [allF, allF, h i (by omega) (by omega), allF_cg k (i + 1) (fun c h1 h2 => h c (by omega) (by omega))]
theorem fstF_cg {p q : Nat → Bool} : ∀ (k i : Nat), (∀ c, i ≤ c → c < i + k → p c = q c) → fstF p i k = fstF q i k
  | 0, i, h => rfl
  | k + 1, i, h => by
    rw [fstF, fstF, h i (by omega) (by omega), fstF_cg k (i + 1) (fun c h1 h2 => h c (by omega) (by omega))]
theorem r_isB_cg {nb nb' : Nat → Bool} {t t' : Bool} {N a b c : Nat} (ha : a < N) (hb : b < N) (hc : c < N) (h : ∀ i j, i < N → j < N → r_ft nb i j t = r_ft nb' i j t') : r_isB nb N a b t c = r_isB nb' N a b t' c := by
  unfold r_isB
  rw [h a c ha hc, h b c hb hc, allF_cg N 0 (q := r_bq nb' a b t' c) (fun e h1 h2 => by unfold r_bq; rw [h a e ha (by omega), h b e hb (by omega), h c e hc (by omega)])]
theorem r_bd_cg {nb nb' : Nat → Bool} {t t' : Bool} {N a b : Nat} (ha : a < N) (hb : b < N) (h : ∀ i j, i < N → j < N → r_ft nb i j t = r_ft nb' i j t') : r_bd nb N a b t = r_bd nb' N a b t' := by
  unfold r_bd
  rw [fstF_cg N 0 (q := r_isB nb' N a b t') (fun c h1 h2 => r_isB_cg ha hb (by omega) h)]
theorem tw_ft {w y : Int64} {N : Nat} (hN : N ≤ 6) (h : tw w y N N 0) : ∀ i j, i < N → j < N → r_ft (cbit y) i j false = r_ft (cbit w) i j true := by
  intro i j hi hj
  show cbit y (6 * i + j) = cbit w (6 * j + i)
  rw [cbit_b (by omega), h j i hj hi, decide_eq_true (show j < N ∨ _ from Or.inl hj), Bool.true_and]
theorem r_bd_n {nb : Nat → Bool} {N a b : Nat} {t : Bool} (hN : N ≤ 6) : r_bd nb N a b t = -1 ↔ (fstF (r_isB nb N a b t) 0 N).isSome = false := by
  unfold r_bd
  cases h : fstF (r_isB nb N a b t) 0 N with
  | none => simp
  | some c =>
    have := (fstF_lt h).2.1
    constructor
    · intro q
      have q : nI c = -1 := q
      exact absurd (show nI c < 0 by rw [q]; decide) (i32_nlt0 (by omega))
    · intro q; exact absurd q (by simp)
set_option maxRecDepth 100000 in
theorem l_X3_hb2 {l : Launch} {D : va_G} {cy : Nat → ClassId} {d n : Nat} {f : sw_F} (hd : 4 ≤ d) {N : Nat} (hN : N ≤ 6) (w y : Int64) (hT : tw w y N N 0) {a : Nat} (ha : a < N) {QX : sw_QX} {Q : sw_Q} (K : allF (r_lb (cbit w) N a) 0 N = true → SW l D cy mX3_hasAllBounds d 0 0 0 0 58 [(0, .int (nI N)), (1, .long w), (3, .long y), (5, .int (nI (a)))] [] n f Q QX) (K0 : allF (r_lb (cbit w) N a) 0 N = false → Q (some (.int 0)) n f) : ∀ (k b : Nat), b ≤ N → N < b + k → allF (r_lb (cbit w) N a) 0 N = allF (r_lb (cbit w) N a) b (N - b) → SW l D cy mX3_hasAllBounds d 0 0 0 0 18 [(0, .int (nI N)), (1, .long w), (3, .long y), (5, .int (nI (a))), (6, .int (nI (b)))] [] n f Q QX := by
  intro k
  induction k with
  | zero => intro c0 h1 h2; exact absurd h2 (by omega)
  | succ k ih =>
    intro b he hk hA
    refine sw_iload dX3_hasAllBounds_18 rfl ?_
    refine sw_iload_n dX3_hasAllBounds_20 rfl ?_
    refine sw_icmp_ge 58 dX3_hasAllBounds_21 (by decide) (fun h21 => ?_) (fun h21 => ?_)
    · refine sw_keep [0, 1, 2, 3] rfl ?_
      exact K (by rw [hA, allF_end ((nI_leI (by omega) (by omega)).mp h21)])
    · have e1 : b < N := (nI_ltI (by omega) (by omega)).mp (i32_nle.mp h21)
      refine sw_iload_n dX3_hasAllBounds_24 rfl ?_
      refine sw_lload_n dX3_hasAllBounds_25 rfl ?_
      refine sw_iload dX3_hasAllBounds_26 rfl ?_
      refine sw_iload dX3_hasAllBounds_28 rfl ?_
      refine sw_Sv dX3_hasAllBounds_30 k_X3_41 mf_X3_leastAbove (c_X3_leastAbove (d := d - 1) (by omega) hN w _ _) (by omega) (by omega) (by omega) rfl rfl (Nat.le_of_ble_eq_true rfl) ?_
      refine sw_iconst (x := (-1)) dX3_hasAllBounds_33 (by decide) ?_
      refine sw_icmp_eq 50 dX3_hasAllBounds_34 (by decide) (fun h34 => ?_) (fun h34 => ?_)
      · refine sw_iconst (x := 0) dX3_hasAllBounds_50 (by decide) ?_
        exact sw_iret dX3_hasAllBounds_51 rfl (by first | rfl | exact bz_n _) (by omega) (by omega) (K0 (by rw [hA, allF_step e1, show r_lb (cbit w) N a b = false from by rw [r_lb, (r_bd_n hN).mp h34, Bool.false_and], Bool.false_and]))
      · refine sw_iload_n dX3_hasAllBounds_37 rfl ?_
        refine sw_lload_n dX3_hasAllBounds_38 rfl ?_
        refine sw_iload dX3_hasAllBounds_39 rfl ?_
        refine sw_iload dX3_hasAllBounds_41 rfl ?_
        refine sw_Sv dX3_hasAllBounds_43 k_X3_41 mf_X3_leastAbove (c_X3_leastAbove (d := d - 1) (by omega) hN y _ _) (by omega) (by omega) (by omega) rfl rfl (Nat.le_of_ble_eq_true rfl) ?_
        refine sw_top (y := r_bd (cbit w) N a b true) (r_bd_cg ha e1 (tw_ft hN hT)) ?_
        refine sw_iconst (x := (-1)) dX3_hasAllBounds_46 (by decide) ?_
        refine sw_icmp_ne 52 dX3_hasAllBounds_47 (by decide) (fun h47 => ?_) (fun h47 => ?_)
        · first | refine sw_inc1 [(0, _), (1, _), (3, _), (5, _), (6, _)] dX3_hasAllBounds_52 rfl (by decide) rfl ?_ | refine sw_iinc [(0, _), (1, _), (3, _), (5, _), (6, _)] dX3_hasAllBounds_52 rfl (by decide) rfl ?_
          refine sw_goto 18 dX3_hasAllBounds_55 (by decide) ?_
          refine ih (b + 1) (by omega) (by omega) ?_
          rw [hA, allF_step e1, show r_lb (cbit w) N a b = true from by rw [r_lb, bnf (fun q => h34 ((r_bd_n hN).mpr q)), bnf (fun q => h47 ((r_bd_n hN).mpr q))]; rfl, Bool.true_and]
        · refine sw_iconst (x := 0) dX3_hasAllBounds_50 (by decide) ?_
          exact sw_iret dX3_hasAllBounds_51 rfl (by first | rfl | exact bz_n _) (by omega) (by omega) (K0 (by rw [hA, allF_step e1, show r_lb (cbit w) N a b = false from by rw [r_lb, (r_bd_n hN).mp h47, Bool.and_false], Bool.false_and]))
set_option maxRecDepth 100000 in
theorem l_X3_hb1 {l : Launch} {D : va_G} {cy : Nat → ClassId} {d n : Nat} {f : sw_F} (hd : 4 ≤ d) {N : Nat} (hN : N ≤ 6) (w y : Int64) (hT : tw w y N N 0) {QX : sw_QX} : ∀ (k a : Nat), a ≤ N → N < a + k → SW l D cy mX3_hasAllBounds d 0 0 0 0 9 [(0, .int (nI N)), (1, .long w), (3, .long y), (5, .int (nI (a)))] [] n f (sw_D (some (.int (bz (allF (r_la (cbit w) N) a (N - a))))) n f) QX := by
  intro k
  induction k with
  | zero => intro c0 h1 h2; exact absurd h2 (by omega)
  | succ k ih =>
    intro a he hk
    refine sw_iload dX3_hasAllBounds_9 rfl ?_
    refine sw_iload_n dX3_hasAllBounds_11 rfl ?_
    refine sw_icmp_ge 64 dX3_hasAllBounds_12 (by decide) (fun h12 => ?_) (fun h12 => ?_)
    · refine sw_iconst (x := 1) dX3_hasAllBounds_64 (by decide) ?_
      exact sw_iret dX3_hasAllBounds_65 rfl (by first | rfl | exact bz_n _) (by omega) (by omega) ⟨by rw [allF_end ((nI_leI (by omega) (by omega)).mp h12)]; rfl, rfl, rfl⟩
    · have e1 : a < N := (nI_ltI (by omega) (by omega)).mp (i32_nle.mp h12)
      refine sw_iconst (x := 0) dX3_hasAllBounds_15 (by decide) ?_
      refine sw_istore [(0, _), (1, _), (3, _), (5, _), (6, _)] dX3_hasAllBounds_16 (by decide) rfl ?_
      refine l_X3_hb2 hd hN w y hT e1 (fun hA => ?_) (fun hA => ?_) (N + 1) 0 (by omega) (by omega) rfl
      · rw [allF_step e1, show r_la (cbit w) N a = true from hA, Bool.true_and]
        refine sw_inc1 [(0, _), (1, _), (3, _), (5, _)] dX3_hasAllBounds_58 rfl (by decide) rfl ?_
        refine sw_goto 9 dX3_hasAllBounds_61 (by decide) ?_
        exact ih (a + 1) (by omega) (by omega)
      · rw [allF_step e1, show r_la (cbit w) N a = false from hA, Bool.false_and]
        exact ⟨rfl, rfl, rfl⟩
set_option maxRecDepth 100000 in
theorem c_X3_hasAllBounds {l : Launch} {D : va_G} {cy : Nat → ClassId} {d n : Nat} {f : sw_F} (hd : 4 ≤ d) {N : Nat} (hN : N ≤ 6) (w : Int64) : sw_Ct l D cy mX3_hasAllBounds d 0 0 [.int (nI N), .long w] n f (sw_D (some (.int (bz (r_lat (cbit w) N)))) n f) := by
  refine sw_of rfl (Nat.le_of_ble_eq_true rfl) ?_
  show SW l D cy mX3_hasAllBounds d 0 0 0 0 0 [(0, .int (nI N)), (1, .long w)] [] n f _ _
  refine sw_iload_n dX3_hasAllBounds_0 rfl ?_
  refine sw_lload_n dX3_hasAllBounds_1 rfl ?_
  refine sw_callS dX3_hasAllBounds_2 k_X3_37 mf_X3_turned (c_X3_turned (d := d - 1) (by omega) hN w) (by omega) ⟨by omega, by omega⟩ rfl rfl (Nat.le_of_ble_eq_true rfl) (fun r n' f' hq _ => ?_)
  obtain ⟨y, hr, hn, hf, hT⟩ := hq
  have hn := hn.symm
  subst hn
  subst hr
  have hf := hf.symm
  subst hf
  show SW l D cy mX3_hasAllBounds d 0 0 0 0 5 [(0, .int (nI N)), (1, .long w)] [.long y] n f _ _
  refine sw_lstore_n [(0, _), (1, _), (3, _)] dX3_hasAllBounds_5 (by decide) rfl ?_
  refine sw_iconst (x := 0) dX3_hasAllBounds_6 (by decide) ?_
  refine sw_istore [(0, _), (1, _), (3, _), (5, _)] dX3_hasAllBounds_7 (by decide) rfl ?_
  exact l_X3_hb1 hd hN w y hT (N + 1) 0 (by omega) (by omega)
def cLo (w : Int64) : Nat → Nat
  | 0 => 0
  | a + 1 => if cbit w (6 * a + cLo w a) = true then a else cLo w a
def cHi (w : Int64) : Nat → Nat
  | 0 => 0
  | a + 1 => if cbit w (6 * cHi w a + a) = true then a else cHi w a
theorem cLo_lt (w : Int64) : ∀ a, cLo w a ≤ a
  | 0 => Nat.le_refl 0
  | a + 1 => by
    have := cLo_lt w a
    rw [cLo]
    split <;> omega
theorem cHi_lt (w : Int64) : ∀ a, cHi w a ≤ a
  | 0 => Nat.le_refl 0
  | a + 1 => by
    have := cHi_lt w a
    rw [cHi]
    split <;> omega
def bJ (w : Int64) (N a b : Nat) (J : Nat → Int32) : Prop := ∀ i j, i < N → j < N → (i < a ∨ (i = a ∧ j < b)) → J (6 * i + j) = r_bd (cbit w) N i j false
theorem bJ_1 {w : Int64} {N a b : Nat} {J : Nat → Int32} (hN : N ≤ 6) (ha : a < N) (hb : b < N) (h : bJ w N a b J) : bJ w N a (b + 1) (upd J (6 * a + b) (r_bd (cbit w) N a b false)) := by
  intro i j hi hj hc
  unfold upd
  by_cases c : 6 * i + j = 6 * a + b
  · rw [if_pos c, show i = a by omega, show j = b by omega]
  · rw [if_neg c]
    exact h i j hi hj (by omega)
def bS (s : Nat → Int32) (N x y : Nat) : Nat → Int32 := va_up (va_up (va_up s 4 (nI N)) 5 (nI x)) 6 (nI y)
theorem bS_n (s : Nat → Int32) (N a b x y : Nat) : va_up (va_up (bS s N a b) 5 (nI x)) 6 (nI y) = bS s N x y := by
  unfold bS
  rw [vu_so _ (show 5 < 6 by decide), vu_up, vu_up]
set_option maxRecDepth 100000 in
theorem l_X3_be2 {l : Launch} {D : va_G} {cy : Nat → ClassId} {d n : Nat} {f : sw_F} {s : Nat → Int32} {A : Nat → Nat → Int32} {B : Nat → Nat → Int64} {pr : Value} (hd : 4 ≤ d) {N : Nat} (hN : N ≤ 6) (w : Int64) {a x y : Nat} (ha : a < N) {QX : sw_QX} {Q : sw_Q} (K : ∀ J, bJ w N a N J → SW l D cy mX3_become d 0 0 0 0 66 [(0, .ref 1), (1, .int (nI N)), (2, .long w), (4, .int (nI (a)))] [] n (gd f (bS s N x y) (va_up A 2 J) B w pr) Q QX) : ∀ (k b : Nat) (J : Nat → Int32), b ≤ N → N < b + k → bJ w N a b J → SW l D cy mX3_become d 0 0 0 0 32 [(0, .ref 1), (1, .int (nI N)), (2, .long w), (4, .int (nI (a))), (5, .int (nI (b)))] [] n (gd f (bS s N x y) (va_up A 2 J) B w pr) Q QX := by
  intro k
  induction k with
  | zero => intro c0 y0 h1 h2; exact absurd h2 (by omega)
  | succ k ih =>
    intro b J he hk hT
    refine sw_iload dX3_become_32 rfl ?_
    refine sw_iload_n dX3_become_34 rfl ?_
    refine sw_icmp_ge 66 dX3_become_35 (by decide) (fun h35 => ?_) (fun h35 => ?_)
    · refine sw_keep [0, 1, 2, 3] rfl ?_
      obtain rfl : b = N := by have := (nI_leI (by omega) (by omega)).mp h35; omega
      exact K J hT
    · have e1 : b < N := (nI_ltI (by omega) (by omega)).mp (i32_nle.mp h35)
      refine sw_aload_n dX3_become_38 rfl (by first | rfl | assumption) ?_
      refine sw_get dX3_become_39 fr_X3_9 rfl rfl ?_
      refine sw_bipush (x := 6) dX3_become_42 (by decide) ?_
      refine sw_iload dX3_become_44 rfl ?_
      refine sw_imul dX3_become_46 ?_
      refine sw_iload dX3_become_47 rfl ?_
      refine sw_iadd dX3_become_49 ?_
      refine sw_iload_n dX3_become_50 rfl ?_
      refine sw_lload_n dX3_become_51 rfl ?_
      refine sw_iload dX3_become_52 rfl ?_
      refine sw_iload dX3_become_54 rfl ?_
      refine sw_Sv dX3_become_56 k_X3_41 mf_X3_leastAbove (c_X3_leastAbove (d := d - 1) (by omega) hN w _ _) (by omega) (by omega) (by omega) rfl rfl (Nat.le_of_ble_eq_true rfl) ?_
      refine g_iast (6 * a + b) dX3_become_59 ⟨by decide, rfl, rfl⟩ (by rw [nl_6, pk_mul, nI_add]) (show 6 * a + b < 36 by omega) rfl ?_
      first | refine sw_inc1 [(0, _), (1, _), (2, _), (4, _), (5, _)] dX3_become_60 rfl (by decide) rfl ?_ | refine sw_iinc [(0, _), (1, _), (2, _), (4, _), (5, _)] dX3_become_60 rfl (by decide) rfl ?_
      refine sw_goto 32 dX3_become_63 (by decide) ?_
      refine g_eq (A' := va_up A 2 (upd J (6 * a + b) (r_bd (cbit w) N a b false))) rfl (vu_up _ _ _ _) rfl ?_
      exact ih (b + 1) _ (by omega) (by omega) (bJ_1 hN ha e1 hT)
set_option maxRecDepth 100000 in
theorem l_X3_be1 {l : Launch} {D : va_G} {cy : Nat → ClassId} {d n : Nat} {f : sw_F} {s : Nat → Int32} {A : Nat → Nat → Int32} {B : Nat → Nat → Int64} {pr : Value} (hd : 4 ≤ d) {N : Nat} (hN : N ≤ 6) (w : Int64) {QX : sw_QX} : ∀ (k a x y : Nat) (J : Nat → Int32), a ≤ N → N < a + k → x = cLo w a → y = cHi w a → bJ w N a 0 J → SW l D cy mX3_become d 0 0 0 0 23 [(0, .ref 1), (1, .int (nI N)), (2, .long w), (4, .int (nI (a)))] [] n (gd f (bS s N x y) (va_up A 2 J) B w pr) (fun r n' f' => r = none ∧ n' = n ∧ ∃ J, bJ w N N 0 J ∧ f' = gd f (bS s N (cLo w N) (cHi w N)) (va_up A 2 J) B w pr) QX := by
  intro k
  induction k with
  | zero => intro c0 x0 y0 J0 h1 h2; exact absurd h2 (by omega)
  | succ k ih =>
    intro a x y J he hk hx hy hT
    refine sw_iload dX3_become_23 rfl ?_
    refine sw_iload_n dX3_become_25 rfl ?_
    refine sw_icmp_ge 124 dX3_become_26 (by decide) (fun h26 => ?_) (fun h26 => ?_)
    · exact sw_vret dX3_become_124 rfl (by omega) (by omega) ⟨rfl, rfl, J, fun i j hi hj _ => hT i j hi hj (by have := (nI_leI (by omega) (by omega)).mp h26; omega), by rw [show N = a by have := (nI_leI (by omega) (by omega)).mp h26; omega, hx, hy]⟩
    · have e1 : a < N := (nI_ltI (by omega) (by omega)).mp (i32_nle.mp h26)
      refine sw_iconst (x := 0) dX3_become_29 (by decide) ?_
      refine sw_istore [(0, _), (1, _), (2, _), (4, _), (5, _)] dX3_become_30 (by decide) rfl ?_
      refine l_X3_be2 hd hN w e1 (fun J2 hT2 => ?_) (N + 1) 0 J (by omega) (by omega) hT
      refine sw_aload_n dX3_become_66 rfl (by first | rfl | assumption) ?_
      refine sw_lload_n dX3_become_67 rfl ?_
      refine sw_iload dX3_become_68 rfl ?_
      refine sw_aload_n dX3_become_70 rfl (by first | rfl | assumption) ?_
      refine sw_get dX3_become_71 fr_X3_23 rfl rfl ?_
      refine sw_top (y := nI x) rfl ?_
      refine sw_Sv dX3_become_74 k_X3_29 mf_X3_holds (q_holds (d := d - 1) _ _ _) (by omega) (by omega) (by omega) rfl rfl (Nat.le_of_ble_eq_true rfl) ?_
      refine sw_if_eq 85 dX3_become_77 (by decide) (fun h77 => ?_) (fun h77 => ?_)
      · have x1 : x = cLo w (a + 1) := by rw [cLo, if_neg (by rw [← hx, bz_0.mp h77]; decide)]; exact hx
        refine sw_aload_n dX3_become_85 rfl (by first | rfl | assumption) ?_
        refine sw_get dX3_become_86 fr_X3_23 rfl rfl ?_
        refine sw_top (y := nI x) rfl ?_
        refine g_put 5 dX3_become_89 fl_X3_23 rfl ⟨by decide, rfl⟩ rfl (Nat.le_of_ble_eq_true rfl) (sw_fit_i _) rfl ?_
        refine sw_aload_n dX3_become_92 rfl (by first | rfl | assumption) ?_
        refine sw_lload_n dX3_become_93 rfl ?_
        refine sw_aload_n dX3_become_94 rfl (by first | rfl | assumption) ?_
        refine sw_get dX3_become_95 fr_X3_26 rfl rfl ?_
        refine sw_top (y := nI y) rfl ?_
        refine sw_iload dX3_become_98 rfl ?_
        refine sw_Sv dX3_become_100 k_X3_29 mf_X3_holds (q_holds (d := d - 1) _ _ _) (by omega) (by omega) (by omega) rfl rfl (Nat.le_of_ble_eq_true rfl) ?_
        refine sw_if_eq 111 dX3_become_103 (by decide) (fun h103 => ?_) (fun h103 => ?_)
        · have x2 : y = cHi w (a + 1) := by rw [cHi, if_neg (by rw [← hy, bz_0.mp h103]; decide)]; exact hy
          refine sw_aload_n dX3_become_111 rfl (by first | rfl | assumption) ?_
          refine sw_get dX3_become_112 fr_X3_26 rfl rfl ?_
          refine sw_top (y := nI y) rfl ?_
          refine g_put 6 dX3_become_115 fl_X3_26 rfl ⟨by decide, rfl⟩ rfl (Nat.le_of_ble_eq_true rfl) (sw_fit_i _) rfl ?_
          first | refine sw_inc1 [(0, _), (1, _), (2, _), (4, _)] dX3_become_118 rfl (by decide) rfl ?_ | refine sw_iinc [(0, _), (1, _), (2, _), (4, _)] dX3_become_118 rfl (by decide) rfl ?_
          refine sw_goto 23 dX3_become_121 (by decide) ?_
          refine g_eq (s' := bS s N x y) (bS_n s N x y _ _) rfl rfl ?_
          exact ih (a + 1) _ _ J2 (by omega) (by omega) x1 x2 (fun i j hi hj hc => hT2 i j hi hj (by omega))
        · have x2 : a = cHi w (a + 1) := by rw [cHi, if_pos (by rw [← hy]; exact bz_ne.mp h103)]
          refine sw_iload dX3_become_106 rfl ?_
          refine sw_goto 115 dX3_become_108 (by decide) ?_
          refine g_put 6 dX3_become_115 fl_X3_26 rfl ⟨by decide, rfl⟩ rfl (Nat.le_of_ble_eq_true rfl) (sw_fit_i _) rfl ?_
          first | refine sw_inc1 [(0, _), (1, _), (2, _), (4, _)] dX3_become_118 rfl (by decide) rfl ?_ | refine sw_iinc [(0, _), (1, _), (2, _), (4, _)] dX3_become_118 rfl (by decide) rfl ?_
          refine sw_goto 23 dX3_become_121 (by decide) ?_
          refine g_eq (s' := bS s N x a) (bS_n s N x y _ _) rfl rfl ?_
          exact ih (a + 1) _ _ J2 (by omega) (by omega) x1 x2 (fun i j hi hj hc => hT2 i j hi hj (by omega))
      · have x1 : a = cLo w (a + 1) := by rw [cLo, if_pos (by rw [← hx]; exact bz_ne.mp h77)]
        refine sw_iload dX3_become_80 rfl ?_
        refine sw_goto 89 dX3_become_82 (by decide) ?_
        refine g_put 5 dX3_become_89 fl_X3_23 rfl ⟨by decide, rfl⟩ rfl (Nat.le_of_ble_eq_true rfl) (sw_fit_i _) rfl ?_
        refine sw_aload_n dX3_become_92 rfl (by first | rfl | assumption) ?_
        refine sw_lload_n dX3_become_93 rfl ?_
        refine sw_aload_n dX3_become_94 rfl (by first | rfl | assumption) ?_
        refine sw_get dX3_become_95 fr_X3_26 rfl rfl ?_
        refine sw_top (y := nI y) rfl ?_
        refine sw_iload dX3_become_98 rfl ?_
        refine sw_Sv dX3_become_100 k_X3_29 mf_X3_holds (q_holds (d := d - 1) _ _ _) (by omega) (by omega) (by omega) rfl rfl (Nat.le_of_ble_eq_true rfl) ?_
        refine sw_if_eq 111 dX3_become_103 (by decide) (fun h103 => ?_) (fun h103 => ?_)
        · have x2 : y = cHi w (a + 1) := by rw [cHi, if_neg (by rw [← hy, bz_0.mp h103]; decide)]; exact hy
          refine sw_aload_n dX3_become_111 rfl (by first | rfl | assumption) ?_
          refine sw_get dX3_become_112 fr_X3_26 rfl rfl ?_
          refine sw_top (y := nI y) rfl ?_
          refine g_put 6 dX3_become_115 fl_X3_26 rfl ⟨by decide, rfl⟩ rfl (Nat.le_of_ble_eq_true rfl) (sw_fit_i _) rfl ?_
          first | refine sw_inc1 [(0, _), (1, _), (2, _), (4, _)] dX3_become_118 rfl (by decide) rfl ?_ | refine sw_iinc [(0, _), (1, _), (2, _), (4, _)] dX3_become_118 rfl (by decide) rfl ?_
          refine sw_goto 23 dX3_become_121 (by decide) ?_
          refine g_eq (s' := bS s N a y) (bS_n s N x y _ _) rfl rfl ?_
          exact ih (a + 1) _ _ J2 (by omega) (by omega) x1 x2 (fun i j hi hj hc => hT2 i j hi hj (by omega))
        · have x2 : a = cHi w (a + 1) := by rw [cHi, if_pos (by rw [← hy]; exact bz_ne.mp h103)]
          refine sw_iload dX3_become_106 rfl ?_
          refine sw_goto 115 dX3_become_108 (by decide) ?_
          refine g_put 6 dX3_become_115 fl_X3_26 rfl ⟨by decide, rfl⟩ rfl (Nat.le_of_ble_eq_true rfl) (sw_fit_i _) rfl ?_
          first | refine sw_inc1 [(0, _), (1, _), (2, _), (4, _)] dX3_become_118 rfl (by decide) rfl ?_ | refine sw_iinc [(0, _), (1, _), (2, _), (4, _)] dX3_become_118 rfl (by decide) rfl ?_
          refine sw_goto 23 dX3_become_121 (by decide) ?_
          refine g_eq (s' := bS s N a a) (bS_n s N x y _ _) rfl rfl ?_
          exact ih (a + 1) _ _ J2 (by omega) (by omega) x1 x2 (fun i j hi hj hc => hT2 i j hi hj (by omega))
set_option maxRecDepth 100000 in
theorem c_X3_become {l : Launch} {D : va_G} {cy : Nat → ClassId} {d n : Nat} {f : sw_F} {s : Nat → Int32} {A : Nat → Nat → Int32} {B : Nat → Nat → Int64} {o : Int64} {pr : Value} (hd : 4 ≤ d) {N : Nat} (hN : N ≤ 6) (w : Int64) : sw_Ct l D cy mX3_become d 0 0 [.ref 1, .int (nI N), .long w] n (gd f s A B o pr) (fun r n' f' => r = none ∧ n' = n ∧ ∃ J, bJ w N N 0 J ∧ f' = gd f (bS s N (cLo w N) (cHi w N)) (va_up A 2 J) B w pr) := by
  refine sw_of rfl (Nat.le_of_ble_eq_true rfl) ?_
  show SW l D cy mX3_become d 0 0 0 0 0 [(0, .ref 1), (1, .int (nI N)), (2, .long w)] [] n (gd f s A B o pr) _ _
  refine sw_aload_n dX3_become_0 rfl (by first | rfl | assumption) ?_
  refine sw_iload_n dX3_become_1 rfl ?_
  refine g_put 4 dX3_become_2 fl_X3_15 rfl ⟨by decide, rfl⟩ rfl (Nat.le_of_ble_eq_true rfl) (sw_fit_i _) rfl ?_
  refine sw_aload_n dX3_become_5 rfl (by first | rfl | assumption) ?_
  refine sw_lload_n dX3_become_6 rfl ?_
  refine g_putO dX3_become_7 fl_X3_19 (sw_fit_l _) ?_
  refine sw_aload_n dX3_become_10 rfl (by first | rfl | assumption) ?_
  refine sw_iconst (x := 0) dX3_become_11 (by decide) ?_
  refine g_put 5 dX3_become_12 fl_X3_23 rfl ⟨by decide, rfl⟩ rfl (Nat.le_of_ble_eq_true rfl) (sw_fit_i _) rfl ?_
  refine sw_aload_n dX3_become_15 rfl (by first | rfl | assumption) ?_
  refine sw_iconst (x := 0) dX3_become_16 (by decide) ?_
  refine g_put 6 dX3_become_17 fl_X3_26 rfl ⟨by decide, rfl⟩ rfl (Nat.le_of_ble_eq_true rfl) (sw_fit_i _) rfl ?_
  refine sw_iconst (x := 0) dX3_become_20 (by decide) ?_
  refine sw_istore [(0, _), (1, _), (2, _), (4, _)] dX3_become_21 (by decide) rfl ?_
  refine g_eq (s' := bS s N 0 0) (A' := va_up A 2 (A 2)) rfl (vu_id _ _).symm rfl ?_
  exact l_X3_be1 hd hN w (N + 1) 0 0 0 (A 2) (by omega) (by omega) rfl rfl (fun i j hi hj hc => absurd hc (by omega))
