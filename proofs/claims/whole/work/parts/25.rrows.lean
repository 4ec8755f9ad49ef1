/-! ===== THE REFERENCE: rows of labels ===== -/
def anyF (p : Nat → Bool) : Nat → Nat → Bool
  | _, 0 => false
  | i, k + 1 => p i || anyF p (i + 1) k
theorem anyF_step {p : Nat → Bool} {i N : Nat} (h : i < N) : anyF p i (N - i) = (p i || anyF p (i + 1) (N - (i + 1))) := by
  rw [show N - i = (N - (i + 1)) + 1 by omega, anyF]
theorem anyF_end {p : Nat → Bool} {i N : Nat} (h : N ≤ i) : anyF p i (N - i) = false := by
  rw [show N - i = 0 by omega, anyF]
theorem anyF_iff {p : Nat → Bool} : ∀ {k i : Nat}, anyF p i k = true ↔ ∃ j, i ≤ j ∧ j < i + k ∧ p j = true
  | 0, i => by simp [anyF]; intro j h1 h2; omega
  | k + 1, i => by
    rw [anyF, Bool.or_eq_true, anyF_iff]
    constructor
    · rintro (h | ⟨j, h1, h2, h3⟩)
      · exact ⟨i, Nat.le_refl i, by omega, h⟩
      · exact ⟨j, by omega, by omega, h3⟩
    · rintro ⟨j, h1, h2, h3⟩
      by_cases h : j = i
      · rw [h] at h3; exact Or.inl h3
      · exact Or.inr ⟨j, by omega, by omega, h3⟩
/-- g, but h from place b on, k places -/
def fillS (b : Nat) (h g : Nat → Int32) (k : Nat) : Nat → Int32 := fun j => if b ≤ j ∧ j < b + k then h (j - b) else g j
theorem fs_0 (b : Nat) (h g : Nat → Int32) : fillS b h g 0 = g := by
  funext j
  unfold fillS
  rw [if_neg (by omega)]
theorem fs_1 {b k : Nat} {h g : Nat → Int32} {y : Int32} (hy : y = h k) : upd (fillS b h g k) (b + k) y = fillS b h g (k + 1) := by
  subst hy
  funext j
  unfold upd fillS
  by_cases h1 : j = b + k
  · subst h1
    rw [if_pos rfl, if_pos (by omega), show b + k - b = k by omega]
  · rw [if_neg h1]
    by_cases h2 : b ≤ j ∧ j < b + k
    · rw [if_pos h2, if_pos (by omega)]
    · rw [if_neg h2, if_neg (by omega)]
theorem fs_ge {b k j : Nat} {h g : Nat → Int32} (hj : j < b ∨ b + k ≤ j) : fillS b h g k j = g j := by
  unfold fillS
  rw [if_neg (by omega)]
theorem fill_ge {h g : Nat → Int32} {k j : Nat} (hj : k ≤ j) : fillF h g k j = g j := by
  unfold fillF
  rw [if_neg (by omega)]
theorem fill_lt {h g : Nat → Int32} {k j : Nat} (hj : j < k) : fillF h g k j = h j := by
  unfold fillF
  rw [if_pos hj]
set_option maxRecDepth 100000 in
theorem l_X12_take_in {l : Launch} {D : va_G} {cy : Nat → ClassId} {d n : Nat} {f : sw_F} {s : Nat → Int32} {A : Nat → Nat → Int32} {m : Nat} (hm : m < 160) {QX : sw_QX} : ∀ (k i : Nat), i ≤ 8 → 8 < i + k → SW l D cy mX12_take d 0 0 0 0 2 [(0, .ref 150), (1, .ref 169), (2, .int (nI m)), (3, .int (nI i))] [] n (md f s (va_up A 172 (fillF (fun v => A 169 (8 * m + v)) (A 172) (i)))) (sw_D none n (md f s (va_up A 172 (fillF (fun v => A 169 (8 * m + v)) (A 172) (8))))) QX := by
  intro k
  induction k with
  | zero => intro i0 h1 h2; exact absurd h2 (by omega)
  | succ k ih =>
    intro i he hk
    refine sw_iload_n dX12_take_2 rfl ?_
    refine sw_bipush (x := 8) dX12_take_3 (by decide) ?_
    refine sw_icmp_ge 28 dX12_take_5 (by decide) (fun h5 => ?_) (fun h5 => ?_)
    · rw [show i = 8 from Nat.le_antisymm he ((nI_leI (by omega) (by omega)).mp (by rw [← nl_8]; exact h5))]
      exact sw_vret dX12_take_28 rfl (by omega) (by omega) ⟨rfl, rfl, rfl⟩
    · have e1 : i < 8 := (nI_ltI (by omega) (by omega)).mp (by rw [← nl_8]; exact i32_nle.mp h5)
      refine sw_aload_n dX12_take_8 rfl (by first | rfl | assumption) ?_
      refine sw_get dX12_take_9 fr_X12_82 rfl rfl ?_
      refine sw_iload_n dX12_take_12 rfl ?_
      refine sw_aload_n dX12_take_13 rfl (by first | rfl | assumption) ?_
      refine sw_bipush (x := 8) dX12_take_14 (by decide) ?_
      refine sw_iload_n dX12_take_16 rfl ?_
      refine sw_imul dX12_take_17 ?_
      refine sw_iload_n dX12_take_18 rfl ?_
      refine sw_iadd dX12_take_19 ?_
      refine sw_ialdN (8 * m + i) dX12_take_20 rfl (by rw [nl_8, pk_mul, nI_add]) (show 8 * m + i < 1280 by omega) (by decide) ?_
      refine m_iast (i) dX12_take_21 ⟨by decide, by decide, rfl⟩ rfl (show i < 8 by omega) rfl ?_
      first | refine sw_inc1 [(0, _), (1, _), (2, _), (3, _)] dX12_take_22 rfl (by decide) rfl ?_ | refine sw_iinc [(0, _), (1, _), (2, _), (3, _)] dX12_take_22 rfl (by decide) rfl ?_
      refine sw_goto 2 dX12_take_25 (by decide) ?_
      refine m_eq rfl ?_ (ih (i + 1) (by omega) (by omega))
      rw [vu_up, vu_at, fill_1 (h := fun v => A 169 (8 * m + v))]
      rfl
set_option maxRecDepth 100000 in
theorem c_X12_take_in {l : Launch} {D : va_G} {cy : Nat → ClassId} {d n : Nat} {f : sw_F} {s : Nat → Int32} {A : Nat → Nat → Int32} {m : Nat} (hm : m < 160) : sw_Ct l D cy mX12_take d 0 0 [.ref 150, .ref 169, .int (nI m)] n (md f s A) (sw_D none n (md f s (va_up A 172 (fillF (fun v => A 169 (8 * m + v)) (A 172) (8))))) := by
  refine sw_of rfl (Nat.le_of_ble_eq_true rfl) ?_
  show SW l D cy mX12_take d 0 0 0 0 0 [(0, .ref 150), (1, .ref 169), (2, .int (nI m))] [] n (md f s A) _ _
  refine sw_iconst (x := 0) dX12_take_0 (by decide) ?_
  refine sw_istore_n [(0, _), (1, _), (2, _), (3, _)] dX12_take_1 (by decide) rfl ?_
  refine m_eq (A' := va_up A 172 (fillF (fun v => A 169 (8 * m + v)) (A 172) (0))) rfl (by rw [fill_0, vu_id]) ?_
  exact l_X12_take_in hm 9 0 (by omega) (by omega)
set_option maxRecDepth 100000 in
theorem l_X12_take_out {l : Launch} {D : va_G} {cy : Nat → ClassId} {d n : Nat} {f : sw_F} {s : Nat → Int32} {A : Nat → Nat → Int32} {m : Nat} (hm : m < 160) {QX : sw_QX} : ∀ (k i : Nat), i ≤ 8 → 8 < i + k → SW l D cy mX12_take d 0 0 0 0 2 [(0, .ref 150), (1, .ref 170), (2, .int (nI m)), (3, .int (nI i))] [] n (md f s (va_up A 172 (fillF (fun v => A 170 (8 * m + v)) (A 172) (i)))) (sw_D none n (md f s (va_up A 172 (fillF (fun v => A 170 (8 * m + v)) (A 172) (8))))) QX := by
  intro k
  induction k with
  | zero => intro i0 h1 h2; exact absurd h2 (by omega)
  | succ k ih =>
    intro i he hk
    refine sw_iload_n dX12_take_2 rfl ?_
    refine sw_bipush (x := 8) dX12_take_3 (by decide) ?_
    refine sw_icmp_ge 28 dX12_take_5 (by decide) (fun h5 => ?_) (fun h5 => ?_)
    · rw [show i = 8 from Nat.le_antisymm he ((nI_leI (by omega) (by omega)).mp (by rw [← nl_8]; exact h5))]
      exact sw_vret dX12_take_28 rfl (by omega) (by omega) ⟨rfl, rfl, rfl⟩
    · have e1 : i < 8 := (nI_ltI (by omega) (by omega)).mp (by rw [← nl_8]; exact i32_nle.mp h5)
      refine sw_aload_n dX12_take_8 rfl (by first | rfl | assumption) ?_
      refine sw_get dX12_take_9 fr_X12_82 rfl rfl ?_
      refine sw_iload_n dX12_take_12 rfl ?_
      refine sw_aload_n dX12_take_13 rfl (by first | rfl | assumption) ?_
      refine sw_bipush (x := 8) dX12_take_14 (by decide) ?_
      refine sw_iload_n dX12_take_16 rfl ?_
      refine sw_imul dX12_take_17 ?_
      refine sw_iload_n dX12_take_18 rfl ?_
      refine sw_iadd dX12_take_19 ?_
      refine sw_ialdN (8 * m + i) dX12_take_20 rfl (by rw [nl_8, pk_mul, nI_add]) (show 8 * m + i < 1280 by omega) (by decide) ?_
      refine m_iast (i) dX12_take_21 ⟨by decide, by decide, rfl⟩ rfl (show i < 8 by omega) rfl ?_
      first | refine sw_inc1 [(0, _), (1, _), (2, _), (3, _)] dX12_take_22 rfl (by decide) rfl ?_ | refine sw_iinc [(0, _), (1, _), (2, _), (3, _)] dX12_take_22 rfl (by decide) rfl ?_
      refine sw_goto 2 dX12_take_25 (by decide) ?_
      refine m_eq rfl ?_ (ih (i + 1) (by omega) (by omega))
      rw [vu_up, vu_at, fill_1 (h := fun v => A 170 (8 * m + v))]
      rfl
set_option maxRecDepth 100000 in
theorem c_X12_take_out {l : Launch} {D : va_G} {cy : Nat → ClassId} {d n : Nat} {f : sw_F} {s : Nat → Int32} {A : Nat → Nat → Int32} {m : Nat} (hm : m < 160) : sw_Ct l D cy mX12_take d 0 0 [.ref 150, .ref 170, .int (nI m)] n (md f s A) (sw_D none n (md f s (va_up A 172 (fillF (fun v => A 170 (8 * m + v)) (A 172) (8))))) := by
  refine sw_of rfl (Nat.le_of_ble_eq_true rfl) ?_
  show SW l D cy mX12_take d 0 0 0 0 0 [(0, .ref 150), (1, .ref 170), (2, .int (nI m))] [] n (md f s A) _ _
  refine sw_iconst (x := 0) dX12_take_0 (by decide) ?_
  refine sw_istore_n [(0, _), (1, _), (2, _), (3, _)] dX12_take_1 (by decide) rfl ?_
  refine m_eq (A' := va_up A 172 (fillF (fun v => A 170 (8 * m + v)) (A 172) (0))) rfl (by rw [fill_0, vu_id]) ?_
  exact l_X12_take_out hm 9 0 (by omega) (by omega)
set_option maxRecDepth 100000 in
theorem l_X12_joinOut {l : Launch} {D : va_G} {cy : Nat → ClassId} {d n : Nat} {f : sw_F} {s : Nat → Int32} {A : Nat → Nat → Int32} {N : Nat} {jn : Nat → Nat → Nat} (hN : N ≤ 6) (hJ : ∀ i j, i < N → j < N → A 152 (6 * i + j) = nI (jn i j) ∧ jn i j < N) (hd : 1 ≤ d) {m : Nat} (hm : m < 160) {nw ou : Nat → Nat} (hnw : ∀ v, v < 8 → A 172 v = nI (nw v) ∧ nw v < N) (hou : ∀ v, v < 8 → A 170 (8 * m + v) = nI (ou v) ∧ ou v < N) {QX : sw_QX} : ∀ (k i : Nat), i ≤ 8 → 8 < i + k → SW l D cy mX12_joinOut d 0 0 0 0 2 [(0, .ref 150), (1, .int (nI m)), (2, .int (nI i))] [] n (md f s (va_up A 172 (fillF (fun v => nI (jn (nw v) (ou v))) (A 172) (i)))) (sw_D none n (md f s (va_up A 172 (fillF (fun v => nI (jn (nw v) (ou v))) (A 172) (8))))) QX := by
  intro k
  induction k with
  | zero => intro i0 h1 h2; exact absurd h2 (by omega)
  | succ k ih =>
    intro i he hk
    refine sw_iload_n dX12_joinOut_2 rfl ?_
    refine sw_bipush (x := 8) dX12_joinOut_3 (by decide) ?_
    refine sw_icmp_ge 41 dX12_joinOut_5 (by decide) (fun h5 => ?_) (fun h5 => ?_)
    · rw [show i = 8 from Nat.le_antisymm he ((nI_leI (by omega) (by omega)).mp (by rw [← nl_8]; exact h5))]
      exact sw_vret dX12_joinOut_41 rfl (by omega) (by omega) ⟨rfl, rfl, rfl⟩
    · have e1 : i < 8 := (nI_ltI (by omega) (by omega)).mp (by rw [← nl_8]; exact i32_nle.mp h5)
      have e2 := hnw i e1
      have e3 := hou i e1
      have e4 := hJ _ _ e2.2 e3.2
      refine sw_aload_n dX12_joinOut_8 rfl (by first | rfl | assumption) ?_
      refine sw_get dX12_joinOut_9 fr_X12_82 rfl rfl ?_
      refine sw_iload_n dX12_joinOut_12 rfl ?_
      refine sw_aload_n dX12_joinOut_13 rfl (by first | rfl | assumption) ?_
      refine sw_aload_n dX12_joinOut_14 rfl (by first | rfl | assumption) ?_
      refine sw_get dX12_joinOut_15 fr_X12_82 rfl rfl ?_
      refine sw_iload_n dX12_joinOut_18 rfl ?_
      refine sw_ialdN (i) dX12_joinOut_19 rfl rfl (show i < 8 by omega) (by decide) ?_
      refine sw_top (y := nI (nw i)) (by rw [vu_at, fill_ge (Nat.le_refl i)]; exact e2.1) ?_
      refine sw_aload_n dX12_joinOut_20 rfl (by first | rfl | assumption) ?_
      refine sw_get dX12_joinOut_21 fr_X12_76 rfl rfl ?_
      refine sw_bipush (x := 8) dX12_joinOut_24 (by decide) ?_
      refine sw_iload_n dX12_joinOut_26 rfl ?_
      refine sw_imul dX12_joinOut_27 ?_
      refine sw_iload_n dX12_joinOut_28 rfl ?_
      refine sw_iadd dX12_joinOut_29 ?_
      refine sw_ialdN (8 * m + i) dX12_joinOut_30 rfl (by rw [nl_8, pk_mul, nI_add]) (show 8 * m + i < 1280 by omega) (by decide) ?_
      refine sw_top (y := nI (ou i)) e3.1 ?_
      refine sw_Vv dX12_joinOut_31 k_X12_148 mf_X12_joined (c_X12_joined (d := d - 1) (show nw i < 6 by omega) (show ou i < 6 by omega)) rfl ⟨_, rfl, rfl⟩ (by omega) (by omega) (by omega) rfl rfl (Nat.le_of_ble_eq_true rfl) ?_
      refine sw_top (y := nI (jn (nw i) (ou i))) e4.1 ?_
      refine m_iast (i) dX12_joinOut_34 ⟨by decide, by decide, rfl⟩ rfl (show i < 8 by omega) rfl ?_
      first | refine sw_inc1 [(0, _), (1, _), (2, _)] dX12_joinOut_35 rfl (by decide) rfl ?_ | refine sw_iinc [(0, _), (1, _), (2, _)] dX12_joinOut_35 rfl (by decide) rfl ?_
      refine sw_goto 2 dX12_joinOut_38 (by decide) ?_
      refine m_eq rfl ?_ (ih (i + 1) (by omega) (by omega))
      rw [vu_up, vu_at, fill_1 (h := fun v => nI (jn (nw v) (ou v))) rfl]
set_option maxRecDepth 100000 in
theorem c_X12_joinOut {l : Launch} {D : va_G} {cy : Nat → ClassId} {d n : Nat} {f : sw_F} {s : Nat → Int32} {A : Nat → Nat → Int32} {N : Nat} {jn : Nat → Nat → Nat} (hN : N ≤ 6) (hJ : ∀ i j, i < N → j < N → A 152 (6 * i + j) = nI (jn i j) ∧ jn i j < N) (hd : 1 ≤ d) {m : Nat} (hm : m < 160) {nw ou : Nat → Nat} (hnw : ∀ v, v < 8 → A 172 v = nI (nw v) ∧ nw v < N) (hou : ∀ v, v < 8 → A 170 (8 * m + v) = nI (ou v) ∧ ou v < N) : sw_Ct l D cy mX12_joinOut d 0 0 [.ref 150, .int (nI m)] n (md f s A) (sw_D none n (md f s (va_up A 172 (fillF (fun v => nI (jn (nw v) (ou v))) (A 172) (8))))) := by
  refine sw_of rfl (Nat.le_of_ble_eq_true rfl) ?_
  show SW l D cy mX12_joinOut d 0 0 0 0 0 [(0, .ref 150), (1, .int (nI m))] [] n (md f s A) _ _
  refine sw_iconst (x := 0) dX12_joinOut_0 (by decide) ?_
  refine sw_istore_n [(0, _), (1, _), (2, _)] dX12_joinOut_1 (by decide) rfl ?_
  refine m_eq (A' := va_up A 172 (fillF (fun v => nI (jn (nw v) (ou v))) (A 172) (0))) rfl (by rw [fill_0, vu_id]) ?_
  exact l_X12_joinOut hN hJ hd hm hnw hou 9 0 (by omega) (by omega)
theorem anyF_last (p : Nat → Bool) : ∀ (k i : Nat), anyF p i (k + 1) = (anyF p i k || p (i + k))
  | 0, i => by simp [anyF]
  | k + 1, i => by
    rw [anyF, anyF_last p k (i + 1), anyF, Bool.or_assoc, show i + 1 + k = i + (k + 1) by omega]
set_option maxRecDepth 100000 in
theorem l_X12_setOut {l : Launch} {D : va_G} {cy : Nat → ClassId} {d n : Nat} {f : sw_F} {s : Nat → Int32} {A : Nat → Nat → Int32} {m : Nat} (hm : m < 160) {mo : Bool} {QX : sw_QX} : ∀ (k i : Nat), i ≤ 8 → 8 < i + k → SW l D cy mX12_setOut d 0 0 0 0 2 [(0, .ref 150), (1, .int (nI m)), (2, .int (nI i))] [] n (md f (va_up s 30 (bz (mo || anyF (fun v => decide (¬ A 170 (8 * m + v) = A 172 v)) 0 (i)))) (va_up A 170 (fillS (8 * m) (A 172) (A 170) (i)))) (sw_D none n (md f (va_up s 30 (bz (mo || anyF (fun v => decide (¬ A 170 (8 * m + v) = A 172 v)) 0 (8)))) (va_up A 170 (fillS (8 * m) (A 172) (A 170) (8))))) QX := by
  intro k
  induction k with
  | zero => intro i0 h1 h2; exact absurd h2 (by omega)
  | succ k ih =>
    intro i he hk
    refine sw_iload_n dX12_setOut_2 rfl ?_
    refine sw_bipush (x := 8) dX12_setOut_3 (by decide) ?_
    refine sw_icmp_ge 67 dX12_setOut_5 (by decide) (fun h5 => ?_) (fun h5 => ?_)
    · rw [show i = 8 from Nat.le_antisymm he ((nI_leI (by omega) (by omega)).mp (by rw [← nl_8]; exact h5))]
      exact sw_vret dX12_setOut_67 rfl (by omega) (by omega) ⟨rfl, rfl, rfl⟩
    · have e1 : i < 8 := (nI_ltI (by omega) (by omega)).mp (by rw [← nl_8]; exact i32_nle.mp h5)
      have J : SW l D cy mX12_setOut d 0 0 0 0 41 [(0, .ref 150), (1, .int (nI m)), (2, .int (nI i))] [.int (bz (mo || anyF (fun v => decide (¬ A 170 (8 * m + v) = A 172 v)) 0 (i + 1))), .ref 150] n (md f (va_up s 30 (bz (mo || anyF (fun v => decide (¬ A 170 (8 * m + v) = A 172 v)) 0 (i)))) (va_up A 170 (fillS (8 * m) (A 172) (A 170) (i)))) (sw_D none n (md f (va_up s 30 (bz (mo || anyF (fun v => decide (¬ A 170 (8 * m + v) = A 172 v)) 0 (8)))) (va_up A 170 (fillS (8 * m) (A 172) (A 170) (8))))) QX := by
        refine m_put dX12_setOut_41 fl_X12_207 (by decide) (by first | exact sw_fit_z0 | exact sw_fit_z1 | exact sw_fit_z _) rfl ?_
        refine sw_aload_n dX12_setOut_44 rfl (by first | rfl | assumption) ?_
        refine sw_get dX12_setOut_45 fr_X12_76 rfl rfl ?_
        refine sw_bipush (x := 8) dX12_setOut_48 (by decide) ?_
        refine sw_iload_n dX12_setOut_50 rfl ?_
        refine sw_imul dX12_setOut_51 ?_
        refine sw_iload_n dX12_setOut_52 rfl ?_
        refine sw_iadd dX12_setOut_53 ?_
        refine sw_aload_n dX12_setOut_54 rfl (by first | rfl | assumption) ?_
        refine sw_get dX12_setOut_55 fr_X12_82 rfl rfl ?_
        refine sw_iload_n dX12_setOut_58 rfl ?_
        refine sw_ialdN (i) dX12_setOut_59 rfl rfl (show i < 8 by omega) (by decide) ?_
        refine m_iast (8 * m + i) dX12_setOut_60 ⟨by decide, by decide, rfl⟩ (by rw [nl_8, pk_mul, nI_add]) (show 8 * m + i < 1280 by omega) rfl ?_
        first | refine sw_inc1 [(0, _), (1, _), (2, _)] dX12_setOut_61 rfl (by decide) rfl ?_ | refine sw_iinc [(0, _), (1, _), (2, _)] dX12_setOut_61 rfl (by decide) rfl ?_
        refine sw_goto 2 dX12_setOut_64 (by decide) ?_
        refine m_eq (by rw [vu_up]) ?_ (ih (i + 1) (by omega) (by omega))
        rw [vu_up, vu_at, fs_1 (h := A 172)]
        rfl
      refine sw_aload_n dX12_setOut_8 rfl (by first | rfl | assumption) ?_
      refine sw_aload_n dX12_setOut_9 rfl (by first | rfl | assumption) ?_
      refine sw_get dX12_setOut_10 fr_X12_207 rfl rfl ?_
      refine sw_if_ne 36 dX12_setOut_13 (by decide) (fun h13 => ?_) (fun h13 => ?_)
      · refine sw_iconst (x := 1) dX12_setOut_36 (by decide) ?_
        refine sw_goto 41 dX12_setOut_37 (by decide) ?_
        exact sw_top (y := bz (mo || anyF (fun v => decide (¬ A 170 (8 * m + v) = A 172 v)) 0 (i + 1))) (by rw [anyF_last, Nat.zero_add, ← Bool.or_assoc]; first | (rw [bz_ne.mp h13]; rfl; done) | (have h13 := bz_0.mp h13; rw [h13]; first | (have h33 : A 170 (8 * m + i) = A 172 i := h33; simp [bz, h33]; done) | (have h33 : ¬ A 170 (8 * m + i) = A 172 i := h33; simp [bz, h33]))) J
      · refine sw_aload_n dX12_setOut_16 rfl (by first | rfl | assumption) ?_
        refine sw_get dX12_setOut_17 fr_X12_76 rfl rfl ?_
        refine sw_bipush (x := 8) dX12_setOut_20 (by decide) ?_
        refine sw_iload_n dX12_setOut_22 rfl ?_
        refine sw_imul dX12_setOut_23 ?_
        refine sw_iload_n dX12_setOut_24 rfl ?_
        refine sw_iadd dX12_setOut_25 ?_
        refine sw_ialdN (8 * m + i) dX12_setOut_26 rfl (by rw [nl_8, pk_mul, nI_add]) (show 8 * m + i < 1280 by omega) (by decide) ?_
        refine sw_top (y := A 170 (8 * m + i)) (fs_ge (by omega)) ?_
        refine sw_aload_n dX12_setOut_27 rfl (by first | rfl | assumption) ?_
        refine sw_get dX12_setOut_28 fr_X12_82 rfl rfl ?_
        refine sw_iload_n dX12_setOut_31 rfl ?_
        refine sw_ialdN (i) dX12_setOut_32 rfl rfl (show i < 8 by omega) (by decide) ?_
        refine sw_icmp_eq 40 dX12_setOut_33 (by decide) (fun h33 => ?_) (fun h33 => ?_)
        · refine sw_iconst (x := 0) dX12_setOut_40 (by decide) ?_
          exact sw_top (y := bz (mo || anyF (fun v => decide (¬ A 170 (8 * m + v) = A 172 v)) 0 (i + 1))) (by rw [anyF_last, Nat.zero_add, ← Bool.or_assoc]; first | (rw [bz_ne.mp h13]; rfl; done) | (have h13 := bz_0.mp h13; rw [h13]; first | (have h33 : A 170 (8 * m + i) = A 172 i := h33; simp [bz, h33]; done) | (have h33 : ¬ A 170 (8 * m + i) = A 172 i := h33; simp [bz, h33]))) J
        · refine sw_iconst (x := 1) dX12_setOut_36 (by decide) ?_
          refine sw_goto 41 dX12_setOut_37 (by decide) ?_
          exact sw_top (y := bz (mo || anyF (fun v => decide (¬ A 170 (8 * m + v) = A 172 v)) 0 (i + 1))) (by rw [anyF_last, Nat.zero_add, ← Bool.or_assoc]; first | (rw [bz_ne.mp h13]; rfl; done) | (have h13 := bz_0.mp h13; rw [h13]; first | (have h33 : A 170 (8 * m + i) = A 172 i := h33; simp [bz, h33]; done) | (have h33 : ¬ A 170 (8 * m + i) = A 172 i := h33; simp [bz, h33]))) J
set_option maxRecDepth 100000 in
theorem c_X12_setOut {l : Launch} {D : va_G} {cy : Nat → ClassId} {d n : Nat} {f : sw_F} {s : Nat → Int32} {A : Nat → Nat → Int32} {m : Nat} (hm : m < 160) {mo : Bool} (hmo : s 30 = bz mo) : sw_Ct l D cy mX12_setOut d 0 0 [.ref 150, .int (nI m)] n (md f s A) (sw_D none n (md f (va_up s 30 (bz (mo || anyF (fun v => decide (¬ A 170 (8 * m + v) = A 172 v)) 0 (8)))) (va_up A 170 (fillS (8 * m) (A 172) (A 170) (8))))) := by
  refine sw_of rfl (Nat.le_of_ble_eq_true rfl) ?_
  show SW l D cy mX12_setOut d 0 0 0 0 0 [(0, .ref 150), (1, .int (nI m))] [] n (md f s A) _ _
  refine sw_iconst (x := 0) dX12_setOut_0 (by decide) ?_
  refine sw_istore_n [(0, _), (1, _), (2, _)] dX12_setOut_1 (by decide) rfl ?_
  refine m_eq (s' := va_up s 30 (bz (mo || anyF (fun v => decide (¬ A 170 (8 * m + v) = A 172 v)) 0 (0)))) (A' := va_up A 170 (fillS (8 * m) (A 172) (A 170) (0))) (by rw [anyF, Bool.or_false, ← hmo, vu_id]) (by rw [fs_0, vu_id]) ?_
  exact l_X12_setOut hm 9 0 (by omega) (by omega)
set_option maxRecDepth 100000 in
theorem l_X12_setIn {l : Launch} {D : va_G} {cy : Nat → ClassId} {d n : Nat} {f : sw_F} {s : Nat → Int32} {A : Nat → Nat → Int32} {m : Nat} {u : Int32} (hm : m < 160) {mo : Bool} {QX : sw_QX} : ∀ (k i : Nat), i ≤ 8 → 8 < i + k → SW l D cy mX12_setIn d 0 0 0 0 35 [(0, .ref 150), (1, .int (nI m)), (2, .int u), (3, .int (nI i))] [] n (md f (va_up s 30 (bz (mo || anyF (fun v => decide (¬ A 169 (8 * m + v) = A 172 v)) 0 (i)))) (va_up A 169 (fillS (8 * m) (A 172) (A 169) (i)))) (sw_D none n (md f (va_up s 30 (bz (mo || anyF (fun v => decide (¬ A 169 (8 * m + v) = A 172 v)) 0 (8)))) (va_up A 169 (fillS (8 * m) (A 172) (A 169) (8))))) QX := by
  intro k
  induction k with
  | zero => intro i0 h1 h2; exact absurd h2 (by omega)
  | succ k ih =>
    intro i he hk
    refine sw_iload_n dX12_setIn_35 rfl ?_
    refine sw_bipush (x := 8) dX12_setIn_36 (by decide) ?_
    refine sw_icmp_ge 100 dX12_setIn_38 (by decide) (fun h38 => ?_) (fun h38 => ?_)
    · rw [show i = 8 from Nat.le_antisymm he ((nI_leI (by omega) (by omega)).mp (by rw [← nl_8]; exact h38))]
      exact sw_vret dX12_setIn_100 rfl (by omega) (by omega) ⟨rfl, rfl, rfl⟩
    · have e1 : i < 8 := (nI_ltI (by omega) (by omega)).mp (by rw [← nl_8]; exact i32_nle.mp h38)
      have J : SW l D cy mX12_setIn d 0 0 0 0 74 [(0, .ref 150), (1, .int (nI m)), (2, .int u), (3, .int (nI i))] [.int (bz (mo || anyF (fun v => decide (¬ A 169 (8 * m + v) = A 172 v)) 0 (i + 1))), .ref 150] n (md f (va_up s 30 (bz (mo || anyF (fun v => decide (¬ A 169 (8 * m + v) = A 172 v)) 0 (i)))) (va_up A 169 (fillS (8 * m) (A 172) (A 169) (i)))) (sw_D none n (md f (va_up s 30 (bz (mo || anyF (fun v => decide (¬ A 169 (8 * m + v) = A 172 v)) 0 (8)))) (va_up A 169 (fillS (8 * m) (A 172) (A 169) (8))))) QX := by
        refine m_put dX12_setIn_74 fl_X12_207 (by decide) (by first | exact sw_fit_z0 | exact sw_fit_z1 | exact sw_fit_z _) rfl ?_
        refine sw_aload_n dX12_setIn_77 rfl (by first | rfl | assumption) ?_
        refine sw_get dX12_setIn_78 fr_X12_73 rfl rfl ?_
        refine sw_bipush (x := 8) dX12_setIn_81 (by decide) ?_
        refine sw_iload_n dX12_setIn_83 rfl ?_
        refine sw_imul dX12_setIn_84 ?_
        refine sw_iload_n dX12_setIn_85 rfl ?_
        refine sw_iadd dX12_setIn_86 ?_
        refine sw_aload_n dX12_setIn_87 rfl (by first | rfl | assumption) ?_
        refine sw_get dX12_setIn_88 fr_X12_82 rfl rfl ?_
        refine sw_iload_n dX12_setIn_91 rfl ?_
        refine sw_ialdN (i) dX12_setIn_92 rfl rfl (show i < 8 by omega) (by decide) ?_
        refine m_iast (8 * m + i) dX12_setIn_93 ⟨by decide, by decide, rfl⟩ (by rw [nl_8, pk_mul, nI_add]) (show 8 * m + i < 1280 by omega) rfl ?_
        first | refine sw_inc1 [(0, _), (1, _), (2, _), (3, _)] dX12_setIn_94 rfl (by decide) rfl ?_ | refine sw_iinc [(0, _), (1, _), (2, _), (3, _)] dX12_setIn_94 rfl (by decide) rfl ?_
        refine sw_goto 35 dX12_setIn_97 (by decide) ?_
        refine m_eq (by rw [vu_up]) ?_ (ih (i + 1) (by omega) (by omega))
        rw [vu_up, vu_at, fs_1 (h := A 172)]
        rfl
      refine sw_aload_n dX12_setIn_41 rfl (by first | rfl | assumption) ?_
      refine sw_aload_n dX12_setIn_42 rfl (by first | rfl | assumption) ?_
      refine sw_get dX12_setIn_43 fr_X12_207 rfl rfl ?_
      refine sw_if_ne 69 dX12_setIn_46 (by decide) (fun h46 => ?_) (fun h46 => ?_)
      · refine sw_iconst (x := 1) dX12_setIn_69 (by decide) ?_
        refine sw_goto 74 dX12_setIn_70 (by decide) ?_
        exact sw_top (y := bz (mo || anyF (fun v => decide (¬ A 169 (8 * m + v) = A 172 v)) 0 (i + 1))) (by rw [anyF_last, Nat.zero_add, ← Bool.or_assoc]; first | (rw [bz_ne.mp h46]; rfl; done) | (have h46 := bz_0.mp h46; rw [h46]; first | (have h66 : A 169 (8 * m + i) = A 172 i := h66; simp [bz, h66]; done) | (have h66 : ¬ A 169 (8 * m + i) = A 172 i := h66; simp [bz, h66]))) J
      · refine sw_aload_n dX12_setIn_49 rfl (by first | rfl | assumption) ?_
        refine sw_get dX12_setIn_50 fr_X12_73 rfl rfl ?_
        refine sw_bipush (x := 8) dX12_setIn_53 (by decide) ?_
        refine sw_iload_n dX12_setIn_55 rfl ?_
        refine sw_imul dX12_setIn_56 ?_
        refine sw_iload_n dX12_setIn_57 rfl ?_
        refine sw_iadd dX12_setIn_58 ?_
        refine sw_ialdN (8 * m + i) dX12_setIn_59 rfl (by rw [nl_8, pk_mul, nI_add]) (show 8 * m + i < 1280 by omega) (by decide) ?_
        refine sw_top (y := A 169 (8 * m + i)) (fs_ge (by omega)) ?_
        refine sw_aload_n dX12_setIn_60 rfl (by first | rfl | assumption) ?_
        refine sw_get dX12_setIn_61 fr_X12_82 rfl rfl ?_
        refine sw_iload_n dX12_setIn_64 rfl ?_
        refine sw_ialdN (i) dX12_setIn_65 rfl rfl (show i < 8 by omega) (by decide) ?_
        refine sw_icmp_eq 73 dX12_setIn_66 (by decide) (fun h66 => ?_) (fun h66 => ?_)
        · refine sw_iconst (x := 0) dX12_setIn_73 (by decide) ?_
          exact sw_top (y := bz (mo || anyF (fun v => decide (¬ A 169 (8 * m + v) = A 172 v)) 0 (i + 1))) (by rw [anyF_last, Nat.zero_add, ← Bool.or_assoc]; first | (rw [bz_ne.mp h46]; rfl; done) | (have h46 := bz_0.mp h46; rw [h46]; first | (have h66 : A 169 (8 * m + i) = A 172 i := h66; simp [bz, h66]; done) | (have h66 : ¬ A 169 (8 * m + i) = A 172 i := h66; simp [bz, h66]))) J
        · refine sw_iconst (x := 1) dX12_setIn_69 (by decide) ?_
          refine sw_goto 74 dX12_setIn_70 (by decide) ?_
          exact sw_top (y := bz (mo || anyF (fun v => decide (¬ A 169 (8 * m + v) = A 172 v)) 0 (i + 1))) (by rw [anyF_last, Nat.zero_add, ← Bool.or_assoc]; first | (rw [bz_ne.mp h46]; rfl; done) | (have h46 := bz_0.mp h46; rw [h46]; first | (have h66 : A 169 (8 * m + i) = A 172 i := h66; simp [bz, h66]; done) | (have h66 : ¬ A 169 (8 * m + i) = A 172 i := h66; simp [bz, h66]))) J
def r_siB (A : Nat → Nat → Int32) (m : Nat) (u : Int32) (mo : Bool) : Bool := (mo || decide (¬ A 171 m = u)) || anyF (fun v => decide (¬ A 169 (8 * m + v) = A 172 v)) 0 (8)
def r_siA (A : Nat → Nat → Int32) (m : Nat) (u : Int32) : Nat → Nat → Int32 := va_up (va_up A 169 (fillS (8 * m) (A 172) (A 169) 8)) 171 (upd (A 171) m u)
set_option maxRecDepth 100000 in
theorem c_X12_setIn {l : Launch} {D : va_G} {cy : Nat → ClassId} {d n : Nat} {f : sw_F} {s : Nat → Int32} {A : Nat → Nat → Int32} {m : Nat} (hm : m < 160) {mo : Bool} (hmo : s 30 = bz mo) (u : Int32) : sw_Ct l D cy mX12_setIn d 0 0 [.ref 150, .int (nI m), .int u] n (md f s A) (sw_D none n (md f (va_up s 30 (bz (r_siB A m u mo))) (r_siA A m u))) := by
  refine sw_of rfl (Nat.le_of_ble_eq_true rfl) ?_
  show SW l D cy mX12_setIn d 0 0 0 0 0 [(0, .ref 150), (1, .int (nI m)), (2, .int u)] [] n (md f s A) _ _
  have J : SW l D cy mX12_setIn d 0 0 0 0 23 [(0, .ref 150), (1, .int (nI m)), (2, .int u)] [.int (bz (mo || decide (¬ A 171 m = u))), .ref 150] n (md f s A) (sw_D none n (md f (va_up s 30 (bz (r_siB A m u mo))) (r_siA A m u))) (fun _ _ _ => False) := by
    refine m_put dX12_setIn_23 fl_X12_207 (by decide) (by first | exact sw_fit_z0 | exact sw_fit_z1 | exact sw_fit_z _) rfl ?_
    refine sw_aload_n dX12_setIn_26 rfl (by first | rfl | assumption) ?_
    refine sw_get dX12_setIn_27 fr_X12_79 rfl rfl ?_
    refine sw_iload_n dX12_setIn_30 rfl ?_
    refine sw_iload_n dX12_setIn_31 rfl ?_
    refine m_iast (m) dX12_setIn_32 ⟨by decide, by decide, rfl⟩ rfl (show m < 160 by omega) rfl ?_
    refine sw_iconst (x := 0) dX12_setIn_33 (by decide) ?_
    refine sw_istore_n [(0, _), (1, _), (2, _), (3, _)] dX12_setIn_34 (by decide) rfl ?_
    have e9 : r_siA A m u = va_up (va_up A 171 (upd (A 171) m u)) 169 (fillS (8 * m) (A 172) (A 169) 8) := (vu_so A (show 169 < 171 by decide) _ _).symm
    rw [e9]
    refine m_eq (s' := va_up (va_up s 30 (bz (mo || decide (¬ A 171 m = u)))) 30 (bz ((mo || decide (¬ A 171 m = u)) || anyF (fun v => decide (¬ A 169 (8 * m + v) = A 172 v)) 0 0))) (A' := va_up (va_up A 171 (upd (A 171) m u)) 169 (fillS (8 * m) (A 172) (A 169) 0)) (by rw [anyF, Bool.or_false, vu_up]) (by rw [fs_0]; exact (vu_id (va_up A 171 (upd (A 171) m u)) 169).symm) ?_
    have K := l_X12_setIn (l := l) (D := D) (cy := cy) (d := d) (n := n) (f := f) (s := va_up s 30 (bz (mo || decide (¬ A 171 m = u)))) (A := va_up A 171 (upd (A 171) m u)) (u := u) hm (mo := mo || decide (¬ A 171 m = u)) (QX := fun _ _ _ => False) 9 0 (by omega) (by omega)
    rw [vu_up] at K
    rw [vu_up]
    exact K
  refine sw_aload_n dX12_setIn_0 rfl (by first | rfl | assumption) ?_
  refine sw_aload_n dX12_setIn_1 rfl (by first | rfl | assumption) ?_
  refine sw_get dX12_setIn_2 fr_X12_207 rfl rfl ?_
  refine sw_top hmo ?_
  refine sw_if_ne 18 dX12_setIn_5 (by decide) (fun h5 => ?_) (fun h5 => ?_)
  · refine sw_iconst (x := 1) dX12_setIn_18 (by decide) ?_
    refine sw_goto 23 dX12_setIn_19 (by decide) ?_
    exact sw_top (y := bz (mo || decide (¬ A 171 m = u))) (by first | (rw [bz_ne.mp h5]; rfl; done) | (have h5 := bz_0.mp h5; rw [h5]; simp [bz, h15])) J
  · refine sw_aload_n dX12_setIn_8 rfl (by first | rfl | assumption) ?_
    refine sw_get dX12_setIn_9 fr_X12_79 rfl rfl ?_
    refine sw_iload_n dX12_setIn_12 rfl ?_
    refine sw_ialdN (m) dX12_setIn_13 rfl rfl (show m < 160 by omega) (by decide) ?_
    refine sw_iload_n dX12_setIn_14 rfl ?_
    refine sw_icmp_eq 22 dX12_setIn_15 (by decide) (fun h15 => ?_) (fun h15 => ?_)
    · refine sw_iconst (x := 0) dX12_setIn_22 (by decide) ?_
      exact sw_top (y := bz (mo || decide (¬ A 171 m = u))) (by first | (rw [bz_ne.mp h5]; rfl; done) | (have h5 := bz_0.mp h5; rw [h5]; simp [bz, h15])) J
    · refine sw_iconst (x := 1) dX12_setIn_18 (by decide) ?_
      refine sw_goto 23 dX12_setIn_19 (by decide) ?_
      exact sw_top (y := bz (mo || decide (¬ A 171 m = u))) (by first | (rw [bz_ne.mp h5]; rfl; done) | (have h5 := bz_0.mp h5; rw [h5]; simp [bz, h15])) J
