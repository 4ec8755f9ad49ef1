/-! ===== THE CLASS: Regions, findPassed ===== -/
theorem nl_1000000 : (1000000 : Int32) = nI 1000000 := by decide
/-- the first marks of row j -/
def P0 (K : Nat → Int32) (B : Nat → Nat → Int64) (j : Nat) : Prop := ∀ m, m < 128 → msk B 36 j m = (decide (¬ K j = 9) || decide (m = j))
theorem P0_PI {K E : Nat → Int32} {C : Nat} {W : Nat → Int32} {B : Nat → Nat → Int64} (hC : C ≤ 100) (h : ∀ j, j < C → P0 K B j) : PI (VA K E) C W B := by
  refine ⟨fun j hj j0 m hm hn => ?_, fun j hj h9 m hm q => ?_⟩
  · rw [h j hj m (by omega)]
    by_cases c : K j = 9
    · by_cases v : m = j
      · rw [decide_eq_true v]; simp
      · exact absurd ⟨fun z => v (nI_inj (by omega) (by omega) z).symm, fun T h1 _ => ⟨j, hj, h1, c⟩⟩ hn
    · rw [decide_eq_true (p := ¬ K j = 9) c]; rfl
  · have h9 : K j = 9 := h9
    rw [h j hj m hm, decide_eq_false (p := ¬ K j = 9) (fun z => z h9), Bool.false_or] at q
    exact of_decide_eq_true q
/-- at the end a mark tells what it should -/
theorem PI_end {X : Nat → Nat → Int32} {C : Nat} {W : Nat → Int32} {B : Nat → Nat → Int64} (hC : C ≤ 100) (hW : HL X C W) (h : PI X C W B) (hc : ∀ j, j < C → 0 ≤ W j → ∀ w, w < 2 → PC X C B j w) : ∀ j, j < C → 0 ≤ W j → ∀ m, m < C → (msk B 36 j m = true ↔ ¬ CE X C j (nI m)) := by
  intro j hj j0 m hm
  refine ⟨fun q ce => ?_, h.1 j hj j0 m hm⟩
  obtain ⟨e, he, ⟨e0, e1, e2⟩, e9⟩ := ce.2 (fun x => 0 ≤ W x ∧ ¬ x = m ∧ msk B 36 x m = true) ⟨j0, fun z => ce.1 (by rw [z]), q⟩ (fun x hx ⟨x0, x1, x2⟩ w hw t ht et hne => by
    refine ⟨?_, fun z => hne (by rw [z]), ?_⟩
    · rcases (HL_RC hW x ⟨hx, x0⟩).2 w hw with z | ⟨t', ⟨ht', z0⟩, z⟩
      · rw [et] at z; exact absurd z (i32_nlt0 (by omega))
      · obtain rfl := nI_inj (by omega) (by omega) (et.symm.trans z)
        exact z0
    · rcases hc x hx x0 w hw t ht et m (by omega) x2 with z | z
      · exact z
      · exact absurd z.symm x1)
  exact e1 (h.2 e he e9 m (by omega) e2).symm
set_option maxRecDepth 100000 in
theorem l_X9_fp2 {l : Launch} {D : va_G} {cy : Nat → ClassId} {d n : Nat} {f : sw_F} {s : Nat → Int32} {A : Nat → Nat → Int32} {B : Nat → Nat → Int64} {o : Int64} {pr : Value} (hd : 3 ≤ d) {C : Nat} (hC : s 12 = nI C) (hCb : C ≤ 100) (hW : HL (VA (A 29) (A 30)) C (A 32)) {QX : sw_QX} : ∀ (c r : Nat) (ch : Bool) (B' : Nat → Nat → Int64), r + c = 1000001 → (∀ q, ¬ q = 37 → ¬ q = 38 → B' q = B q) → PI (VA (A 29) (A 30)) C (A 32) B' → (ch = false → ∀ j, j < C → 0 ≤ A 32 j → ∀ w, w < 2 → PC (VA (A 29) (A 30)) C B' j w) → (ch = true → pot B' C + 1 < c) → (ch = false → 0 < c) → SW l D cy mX9_findPassed d 0 0 0 0 68 [(0, .ref 35), (1, .int (bz (ch))), (2, .int (nI (r)))] [] n (gd f s A B' o pr) (fun r' n' f' => r' = none ∧ n' = n ∧ ∃ B', f' = (gd f s A B' o pr) ∧ (∀ q, ¬ q = 37 → ¬ q = 38 → B' q = B q) ∧ ∀ j, j < C → 0 ≤ A 32 j → ∀ m, m < C → (msk B' 36 j m = true ↔ ¬ CE (VA (A 29) (A 30)) C j (nI m))) QX := by
  intro c
  induction c with
  | zero =>
    intro r ch B' hr hf hI hz hp h0
    cases ch with
    | false => exact absurd (h0 rfl) (by omega)
    | true => exact absurd (hp rfl) (by omega)
  | succ c ih =>
    intro r ch B' hr hf hI hz hp h0
    cases ch with
    | false =>
      refine sw_iload_n dX9_findPassed_68 rfl ?_
      refine sw_ldc dX9_findPassed_69 k_c_X9_71 ?_
      refine sw_icmp_ge 89 dX9_findPassed_71 (by decide) (fun h71 => ?_) (fun h71 => ?_)
      · exact sw_vret dX9_findPassed_89 rfl (by omega) (by omega) ⟨rfl, rfl, B', rfl, hf, PI_end hCb hW hI (hz rfl)⟩
      · refine sw_iload_n dX9_findPassed_74 rfl ?_
        refine sw_if_eq 89 dX9_findPassed_75 (by decide) (fun h75 => ?_) (fun h75 => ?_)
        · exact sw_vret dX9_findPassed_89 rfl (by omega) (by omega) ⟨rfl, rfl, B', rfl, hf, PI_end hCb hW hI (hz rfl)⟩
        · exact absurd rfl h75
    | true =>
      have hp1 := hp rfl
      refine sw_iload_n dX9_findPassed_68 rfl ?_
      refine sw_ldc dX9_findPassed_69 k_c_X9_71 ?_
      refine sw_top nl_1000000 ?_
      refine sw_icmp_ge 89 dX9_findPassed_71 (by decide) (fun h71 => ?_) (fun h71 => ?_)
      · exact absurd h71 (by rw [nI_leI (by omega) (by omega)]; omega)
      · refine sw_iload_n dX9_findPassed_74 rfl ?_
        refine sw_if_eq 89 dX9_findPassed_75 (by decide) (fun h75 => ?_) (fun h75 => ?_)
        · exact absurd h75 (by decide)
        · refine sw_aload_n dX9_findPassed_78 rfl (by first | rfl | assumption) ?_
          refine sw_callV dX9_findPassed_79 k_X9_72 mf_X9_narrowAll ⟨_, rfl, rfl⟩ rfl (c_X9_narrowAll (d := d - 1) (B := B') (by omega) hC hCb hW hI) (by omega) ⟨by omega, by omega⟩ rfl rfl (Nat.le_of_ble_eq_true rfl) (fun r' n' f' hq _ => ?_)
          obtain ⟨hn, ch, B2, hr', hf', z1, z2, z3, z4⟩ := hq
          have hn := hn.symm
          subst hn
          subst hr'
          subst hf'
          show SW l D cy mX9_findPassed d 0 0 0 0 82 [(0, .ref 35), (1, .int (bz (true))), (2, .int (nI (r)))] [.int (bz ch)] n (gd f s A B2 o pr) _ _
          refine sw_istore_n [(0, _), (1, _), (2, _)] dX9_findPassed_82 (by decide) rfl ?_
          first | refine sw_inc1 [(0, _), (1, _), (2, _)] dX9_findPassed_83 rfl (by decide) rfl ?_ | refine sw_iinc [(0, _), (1, _), (2, _)] dX9_findPassed_83 rfl (by decide) rfl ?_
          refine sw_goto 68 dX9_findPassed_86 (by decide) ?_
          exact ih (r + 1) ch B2 (by omega) (fun q a b => by rw [z1.1 q a b, hf q a b]) z2 (fun h => (z3 h).2) (fun h => by have := z4 h; omega) (fun _ => by omega)
set_option maxRecDepth 100000 in
theorem l_X9_fp1 {l : Launch} {D : va_G} {cy : Nat → ClassId} {d n : Nat} {f : sw_F} {s : Nat → Int32} {A : Nat → Nat → Int32} {B : Nat → Nat → Int64} {o : Int64} {pr : Value} (hd : 3 ≤ d) {C : Nat} (hC : s 12 = nI C) (hCb : C ≤ 100) {Q : sw_Q} {QX : sw_QX} (K : ∀ B', (∀ q, ¬ q = 37 → ¬ q = 38 → B' q = B q) → (∀ j, j < C → P0 (A 29) B' j) → SW l D cy mX9_findPassed d 0 0 0 0 64 [(0, .ref 35)] [] n (gd f s A B' o pr) Q QX) : ∀ (c k : Nat) (B' : Nat → Nat → Int64), k ≤ C → C < k + c → (∀ q, ¬ q = 37 → ¬ q = 38 → B' q = B q) → (∀ j, j < k → P0 (A 29) B' j) → SW l D cy mX9_findPassed d 0 0 0 0 2 [(0, .ref 35), (1, .int (nI (k)))] [] n (gd f s A B' o pr) Q QX := by
  intro c
  induction c with
  | zero => intro k B' h1 h2; exact absurd h2 (by omega)
  | succ c ih =>
    intro k B' hk hc hf hP
    refine sw_iload_n dX9_findPassed_2 rfl ?_
    refine sw_aload_n dX9_findPassed_3 rfl (by first | rfl | assumption) ?_
    refine sw_get dX9_findPassed_4 fr_X9_29 rfl rfl ?_
    refine sw_Vv dX9_findPassed_7 k_X9_40 mf_X0_size (c_X0_size (d := d - 1) (B := B')) rfl ⟨_, rfl, rfl⟩ (by omega) (by omega) (by omega) rfl rfl (Nat.le_of_ble_eq_true rfl) ?_
    refine sw_top (y := nI C) hC ?_
    refine sw_icmp_ge 64 dX9_findPassed_10 (by decide) (fun h10 => ?_) (fun h10 => ?_)
    · refine sw_keep [0] rfl ?_
      obtain rfl : k = C := by have := (nI_leI (by omega) (by omega)).mp h10; omega
      exact K B' hf hP
    · have e1 : k < C := (nI_ltI (by omega) (by omega)).mp (i32_nle.mp h10)
      refine sw_aload_n dX9_findPassed_13 rfl (by first | rfl | assumption) ?_
      refine sw_get dX9_findPassed_14 fr_X9_29 rfl rfl ?_
      refine sw_iload_n dX9_findPassed_17 rfl ?_
      refine sw_Vv dX9_findPassed_18 k_X9_56 mf_X0_kindAt (c_X0_kindAt (d := d - 1) (B := B') (by omega) hC hCb (nI k)) rfl ⟨_, rfl, rfl⟩ (by omega) (by omega) (by omega) rfl rfl (Nat.le_of_ble_eq_true rfl) ?_
      refine sw_top (y := A 29 k) (cat_n hC hCb e1) ?_
      refine sw_bipush (x := 9) dX9_findPassed_21 (by decide) ?_
      refine sw_icmp_ne 30 dX9_findPassed_23 (by decide) (fun h23 => ?_) (fun h23 => ?_)
      · refine sw_iconst (x := 0) dX9_findPassed_30 (by decide) ?_
        refine sw_istore_n [(0, _), (1, _), (2, _)] dX9_findPassed_31 (by decide) rfl ?_
        refine sw_aload_n dX9_findPassed_32 rfl (by first | rfl | assumption) ?_
        refine sw_get dX9_findPassed_33 fr_X9_12 rfl rfl ?_
        refine sw_iload_n dX9_findPassed_36 rfl ?_
        refine sw_iload_n dX9_findPassed_37 rfl ?_
        refine sw_if_ne 45 dX9_findPassed_38 (by decide) (fun h38 => ?_) (fun h38 => ?_)
        · exact absurd rfl h38
        · refine sw_iconst (x := 1) dX9_findPassed_41 (by decide) ?_
          refine sw_goto 46 dX9_findPassed_42 (by decide) ?_
          refine sw_callV dX9_findPassed_46 k_X9_46 mf_X5_refill ⟨_, rfl, rfl⟩ rfl (c_X5_refill36 (d := d - 1) (B := B') (by omega) (show k < 100 by omega) true) (by omega) ⟨by omega, by omega⟩ rfl rfl (Nat.le_of_ble_eq_true rfl) (fun r' n' f' hq _ => ?_)
          obtain ⟨hr', hn, B1, hf', z1, z2⟩ := hq
          have hn := hn.symm
          subst hn
          subst hr'
          subst hf'
          show SW l D cy mX9_findPassed d 0 0 0 0 49 [(0, .ref 35), (1, .int (nI k)), (2, .int 0)] [] n (gd f s A B1 o pr) _ _
          refine sw_aload_n dX9_findPassed_49 rfl (by first | rfl | assumption) ?_
          refine sw_get dX9_findPassed_50 fr_X9_12 rfl rfl ?_
          refine sw_iload_n dX9_findPassed_53 rfl ?_
          refine sw_iload_n dX9_findPassed_54 rfl ?_
          refine sw_callV dX9_findPassed_55 k_X9_67 mf_X5_add ⟨_, rfl, rfl⟩ rfl (c_X5_add36 (d := d - 1) (B := B1) (by omega) (show k < 100 by omega) (show k < 100 by omega)) (by omega) ⟨by omega, by omega⟩ rfl rfl (Nat.le_of_ble_eq_true rfl) (fun r' n' f' hq _ => ?_)
          obtain ⟨hr', hn, B2, hf', y1, y2⟩ := hq
          have hn := hn.symm
          subst hn
          subst hr'
          subst hf'
          show SW l D cy mX9_findPassed d 0 0 0 0 58 [(0, .ref 35), (1, .int (nI k)), (2, .int 0)] [] n (gd f s A B2 o pr) _ _
          first | refine sw_inc1 [(0, _), (1, _), (2, _)] dX9_findPassed_58 rfl (by decide) rfl ?_ | refine sw_iinc [(0, _), (1, _), (2, _)] dX9_findPassed_58 rfl (by decide) rfl ?_
          refine sw_goto 2 dX9_findPassed_61 (by decide) ?_
          refine sw_keep [0, 1] rfl ?_
          refine ih (k + 1) B2 (by omega) (by omega) (fun q a b => by rw [y1 q a b, z1 q a b, hf q a b]) (fun j hj m hm => ?_)
          rw [y2 j m hm, z2 j m hm]
          by_cases u : j = k
          · subst u
            rw [if_pos rfl, decide_eq_true (p := ¬ A 29 j = 9) h23]
            show (true || decide (j = j ∧ m = j)) = (true || decide (m = j))
            rw [show decide (j = j ∧ m = j) = decide (m = j) from decide_eq_decide.mpr (by omega)]
          · rw [if_neg u, decide_eq_false (show ¬ (j = k ∧ m = k) from fun z => u z.1), Bool.or_false]
            exact hP j (by omega) m hm
      · refine sw_iconst (x := 1) dX9_findPassed_26 (by decide) ?_
        refine sw_goto 31 dX9_findPassed_27 (by decide) ?_
        refine sw_istore_n [(0, _), (1, _), (2, _)] dX9_findPassed_31 (by decide) rfl ?_
        refine sw_aload_n dX9_findPassed_32 rfl (by first | rfl | assumption) ?_
        refine sw_get dX9_findPassed_33 fr_X9_12 rfl rfl ?_
        refine sw_iload_n dX9_findPassed_36 rfl ?_
        refine sw_iload_n dX9_findPassed_37 rfl ?_
        refine sw_if_ne 45 dX9_findPassed_38 (by decide) (fun h38 => ?_) (fun h38 => ?_)
        · refine sw_iconst (x := 0) dX9_findPassed_45 (by decide) ?_
          refine sw_callV dX9_findPassed_46 k_X9_46 mf_X5_refill ⟨_, rfl, rfl⟩ rfl (c_X5_refill36 (d := d - 1) (B := B') (by omega) (show k < 100 by omega) false) (by omega) ⟨by omega, by omega⟩ rfl rfl (Nat.le_of_ble_eq_true rfl) (fun r' n' f' hq _ => ?_)
          obtain ⟨hr', hn, B1, hf', z1, z2⟩ := hq
          have hn := hn.symm
          subst hn
          subst hr'
          subst hf'
          show SW l D cy mX9_findPassed d 0 0 0 0 49 [(0, .ref 35), (1, .int (nI k)), (2, .int 1)] [] n (gd f s A B1 o pr) _ _
          refine sw_aload_n dX9_findPassed_49 rfl (by first | rfl | assumption) ?_
          refine sw_get dX9_findPassed_50 fr_X9_12 rfl rfl ?_
          refine sw_iload_n dX9_findPassed_53 rfl ?_
          refine sw_iload_n dX9_findPassed_54 rfl ?_
          refine sw_callV dX9_findPassed_55 k_X9_67 mf_X5_add ⟨_, rfl, rfl⟩ rfl (c_X5_add36 (d := d - 1) (B := B1) (by omega) (show k < 100 by omega) (show k < 100 by omega)) (by omega) ⟨by omega, by omega⟩ rfl rfl (Nat.le_of_ble_eq_true rfl) (fun r' n' f' hq _ => ?_)
          obtain ⟨hr', hn, B2, hf', y1, y2⟩ := hq
          have hn := hn.symm
          subst hn
          subst hr'
          subst hf'
          show SW l D cy mX9_findPassed d 0 0 0 0 58 [(0, .ref 35), (1, .int (nI k)), (2, .int 1)] [] n (gd f s A B2 o pr) _ _
          first | refine sw_inc1 [(0, _), (1, _), (2, _)] dX9_findPassed_58 rfl (by decide) rfl ?_ | refine sw_iinc [(0, _), (1, _), (2, _)] dX9_findPassed_58 rfl (by decide) rfl ?_
          refine sw_goto 2 dX9_findPassed_61 (by decide) ?_
          refine sw_keep [0, 1] rfl ?_
          refine ih (k + 1) B2 (by omega) (by omega) (fun q a b => by rw [y1 q a b, z1 q a b, hf q a b]) (fun j hj m hm => ?_)
          rw [y2 j m hm, z2 j m hm]
          by_cases u : j = k
          · subst u
            rw [if_pos rfl, decide_eq_false (p := ¬ A 29 j = 9) (fun z => z h23)]
            show (false || decide (j = j ∧ m = j)) = (false || decide (m = j))
            rw [show decide (j = j ∧ m = j) = decide (m = j) from decide_eq_decide.mpr (by omega)]
          · rw [if_neg u, decide_eq_false (show ¬ (j = k ∧ m = k) from fun z => u z.1), Bool.or_false]
            exact hP j (by omega) m hm
        · exact absurd h38 (by decide)
set_option maxRecDepth 100000 in
theorem c_X9_findPassed {l : Launch} {D : va_G} {cy : Nat → ClassId} {d n : Nat} {f : sw_F} {s : Nat → Int32} {A : Nat → Nat → Int32} {B : Nat → Nat → Int64} {o : Int64} {pr : Value} (hd : 3 ≤ d) {C : Nat} (hC : s 12 = nI C) (hCb : C ≤ 100) (hW : HL (VA (A 29) (A 30)) C (A 32)) : sw_Ct l D cy mX9_findPassed d 0 0 [.ref 35] n (gd f s A B o pr) (fun r' n' f' => r' = none ∧ n' = n ∧ ∃ B', f' = (gd f s A B' o pr) ∧ (∀ q, ¬ q = 37 → ¬ q = 38 → B' q = B q) ∧ ∀ j, j < C → 0 ≤ A 32 j → ∀ m, m < C → (msk B' 36 j m = true ↔ ¬ CE (VA (A 29) (A 30)) C j (nI m))) := by
  refine sw_of rfl (Nat.le_of_ble_eq_true rfl) ?_
  show SW l D cy mX9_findPassed d 0 0 0 0 0 [(0, .ref 35)] [] n (gd f s A B o pr) _ _
  refine sw_iconst (x := 0) dX9_findPassed_0 (by decide) ?_
  refine sw_istore_n [(0, _), (1, _)] dX9_findPassed_1 (by decide) rfl ?_
  refine l_X9_fp1 hd hC hCb (fun B' hf hP => ?_) (C + 1) 0 B (by omega) (by omega) (fun _ _ _ => rfl) (fun j hj => absurd hj (by omega))
  refine sw_iconst (x := 1) dX9_findPassed_64 (by decide) ?_
  refine sw_istore_n [(0, _), (1, _)] dX9_findPassed_65 (by decide) rfl ?_
  refine sw_iconst (x := 0) dX9_findPassed_66 (by decide) ?_
  refine sw_istore_n [(0, _), (1, _), (2, _)] dX9_findPassed_67 (by decide) rfl ?_
  exact l_X9_fp2 hd hC hCb hW 1000001 0 true B' (by omega) hf (P0_PI hCb hP) (fun h => Bool.noConfusion h) (fun _ => by have : pot B' C ≤ 128 * C := cnt_max _ _; omega) (fun h => Bool.noConfusion h)
