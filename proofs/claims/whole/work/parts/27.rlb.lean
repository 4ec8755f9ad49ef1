/-! ===== THE REFERENCE: the labels of a program as one state: in, out, under, now, more ===== -/
abbrev LB : Type := (Nat → Int32) × (Nat → Int32) × (Nat → Int32) × (Nat → Int32) × Bool
def lbA (A : Nat → Nat → Int32) (L : LB) : Nat → Nat → Int32 := va_up (va_up (va_up (va_up A 169 L.1) 170 L.2.1) 171 L.2.2.1) 172 L.2.2.2.1
def lbS (s : Nat → Int32) (L : LB) : Nat → Int32 := va_up s 30 (bz L.2.2.2.2)
def lv (N : Nat) (x : Int32) : Prop := ∃ i, i < N ∧ x = nI i
def jI (A : Nat → Nat → Int32) (x y : Int32) : Int32 := A 152 (6 * x.toNatClampNeg + y.toNatClampNeg)
def JOK (N : Nat) (A : Nat → Nat → Int32) : Prop := ∀ i j, i < N → j < N → lv N (A 152 (6 * i + j))
def LOK (N P : Nat) (L : LB) : Prop := (∀ j, j < 8 * P → lv N (L.1 j)) ∧ (∀ j, j < 8 * P → lv N (L.2.1 j)) ∧ (∀ m, m < P → lv N (L.2.2.1 m)) ∧ ∀ v, v < 8 → lv N (L.2.2.2.1 v)
def lTI (L : LB) (m : Nat) : LB := (L.1, L.2.1, L.2.2.1, fillF (fun v => L.1 (8 * m + v)) L.2.2.2.1 8, L.2.2.2.2)
def lTO (L : LB) (m : Nat) : LB := (L.1, L.2.1, L.2.2.1, fillF (fun v => L.2.1 (8 * m + v)) L.2.2.2.1 8, L.2.2.2.2)
def lJO (A : Nat → Nat → Int32) (L : LB) (m : Nat) : LB := (L.1, L.2.1, L.2.2.1, fillF (fun v => jI A (L.2.2.2.1 v) (L.2.1 (8 * m + v))) L.2.2.2.1 8, L.2.2.2.2)
def lSO (L : LB) (m : Nat) : LB := (L.1, fillS (8 * m) L.2.2.2.1 L.2.1 8, L.2.2.1, L.2.2.2.1, L.2.2.2.2 || anyF (fun v => decide (¬ L.2.1 (8 * m + v) = L.2.2.2.1 v)) 0 8)
def lSI (L : LB) (m : Nat) (u : Int32) : LB := (fillS (8 * m) L.2.2.2.1 L.1 8, L.2.1, upd L.2.2.1 m u, L.2.2.2.1, (L.2.2.2.2 || decide (¬ L.2.2.1 m = u)) || anyF (fun v => decide (¬ L.1 (8 * m + v) = L.2.2.2.1 v)) 0 8)
def lNW (L : LB) (v : Nat) (x : Int32) : LB := (L.1, L.2.1, L.2.2.1, upd L.2.2.2.1 v x, L.2.2.2.2)
/-- the label of the expression at the places from e on, c of them, joined to x -/
def loI (A : Nat → Nat → Int32) (W : Nat → Int32) : Nat → Nat → Int32 → Int32
  | _, 0, x => x
  | k, c + 1, x => loI A W (k + 1) c (if A 159 k = 1 then jI A x (W (A 160 k).toNatClampNeg) else x)
theorem lv_to {N : Nat} {x : Int32} (h : lv N x) (hN : N ≤ 6) : x = nI x.toNatClampNeg ∧ x.toNatClampNeg < N := by
  obtain ⟨i, hi, rfl⟩ := h
  rw [nI_clamp (by omega)]
  exact ⟨rfl, hi⟩
theorem jI_lv {N : Nat} {A : Nat → Nat → Int32} {x y : Int32} (hN : N ≤ 6) (hJ : JOK N A) (hx : lv N x) (hy : lv N y) : lv N (jI A x y) := hJ _ _ (lv_to hx hN).2 (lv_to hy hN).2
theorem fill_lv {N : Nat} {h g : Nat → Int32} (hh : ∀ v, v < 8 → lv N (h v)) : ∀ v, v < 8 → lv N (fillF h g 8 v) := fun v hv => by rw [fill_lt hv]; exact hh v hv
theorem fs_lv {N P m : Nat} {h g : Nat → Int32} (hh : ∀ v, v < 8 → lv N (h v)) (hg : ∀ j, j < 8 * P → lv N (g j)) : ∀ j, j < 8 * P → lv N (fillS (8 * m) h g 8 j) := fun j hj => by
  unfold fillS
  split
  · exact hh _ (by omega)
  · exact hg j hj
theorem lTI_ok {N P m : Nat} {L : LB} (h : LOK N P L) (hm : m < P) : LOK N P (lTI L m) := ⟨h.1, h.2.1, h.2.2.1, fill_lv (fun v hv => h.1 _ (by omega))⟩
theorem lTO_ok {N P m : Nat} {L : LB} (h : LOK N P L) (hm : m < P) : LOK N P (lTO L m) := ⟨h.1, h.2.1, h.2.2.1, fill_lv (fun v hv => h.2.1 _ (by omega))⟩
theorem lJO_ok {N P m : Nat} {A : Nat → Nat → Int32} {L : LB} (hN : N ≤ 6) (hJ : JOK N A) (h : LOK N P L) (hm : m < P) : LOK N P (lJO A L m) := ⟨h.1, h.2.1, h.2.2.1, fill_lv (fun v hv => jI_lv hN hJ (h.2.2.2 v hv) (h.2.1 _ (by omega)))⟩
theorem lSO_ok {N P m : Nat} {L : LB} (h : LOK N P L) : LOK N P (lSO L m) := ⟨h.1, fs_lv h.2.2.2 h.2.1, h.2.2.1, h.2.2.2⟩
theorem lSI_ok {N P m : Nat} {u : Int32} {L : LB} (h : LOK N P L) (hu : lv N u) : LOK N P (lSI L m u) := ⟨fs_lv h.2.2.2 h.1, h.2.1, fun k hk => by
    show lv N (upd _ _ _ _)
    unfold upd
    split
    · exact hu
    · exact h.2.2.1 k hk, h.2.2.2⟩
theorem lNW_ok {N P v : Nat} {x : Int32} {L : LB} (h : LOK N P L) (hx : lv N x) : LOK N P (lNW L v x) := ⟨h.1, h.2.1, h.2.2.1, fun k hk => by
    show lv N (upd _ _ _ _)
    unfold upd
    split
    · exact hx
    · exact h.2.2.2 k hk⟩
theorem loI_lv {N : Nat} {A : Nat → Nat → Int32} {W : Nat → Int32} (hN : N ≤ 6) (hJ : JOK N A) (hW : ∀ v, v < 8 → lv N (W v)) : ∀ (c k : Nat) (x : Int32), (∀ j, k ≤ j → j < k + c → A 159 j = 1 → ∃ v, v < 8 ∧ A 160 j = nI v) → lv N x → lv N (loI A W k c x)
  | 0, k, x, _, hx => hx
  | c + 1, k, x, hv, hx => by
    rw [loI]
    refine loI_lv hN hJ hW c (k + 1) _ (fun j h1 h2 => hv j (by omega) (by omega)) ?_
    split
    · rename_i hk
      obtain ⟨v, hv8, hve⟩ := hv k (Nat.le_refl k) (by omega) hk
      rw [hve, nI_clamp (by omega)]
      exact jI_lv hN hJ hx (hW v hv8)
    · exact hx
theorem lof_loI {N : Nat} {A : Nat → Nat → Int32} {W : Nat → Int32} (hN : N ≤ 6) (hJ : JOK N A) (hW : ∀ v, v < 8 → lv N (W v)) : ∀ (c k x : Nat), (∀ j, k ≤ j → j < k + c → A 159 j = 1 → ∃ v, v < 8 ∧ A 160 j = nI v) → x < N → nI (lof (fun i j => (A 152 (6 * i + j)).toNatClampNeg) (r_nm1 A) (r_vx A (fun v => (W v).toNatClampNeg)) k c x) = loI A W k c (nI x)
  | 0, k, x, _, _ => rfl
  | c + 1, k, x, hv, hx => by
    rw [lof, loI]
    by_cases hk : A 159 k = 1
    · obtain ⟨v, hv8, hve⟩ := hv k (Nat.le_refl k) (by omega) hk
      have e1 := lv_to (hW v hv8) hN
      have e2 := hJ x (W v).toNatClampNeg hx e1.2
      have e3 := lv_to e2 hN
      rw [if_pos (show r_nm1 A k = true from decide_eq_true hk), if_pos hk, r_vx, hve, nI_clamp (show v < 2 ^ 31 by omega), lof_loI hN hJ hW c (k + 1) _ (fun j h1 h2 => hv j (by omega) (by omega)) e3.2, ← e3.1, jI, nI_clamp (show x < 2 ^ 31 by omega)]
    · rw [if_neg (show ¬ r_nm1 A k = true from fun q => hk (of_decide_eq_true q)), if_neg hk, lof_loI hN hJ hW c (k + 1) x (fun j h1 h2 => hv j (by omega) (by omega)) hx]
set_option maxRecDepth 100000 in
theorem q_takeI {l : Launch} {D : va_G} {cy : Nat → ClassId} {d n : Nat} {f : sw_F} {s : Nat → Int32} {A : Nat → Nat → Int32} {L : LB} {m : Nat} (hm : m < 160) : sw_Ct l D cy mX12_take d 0 0 [.ref 150, .ref 169, .int (nI m)] n (md f (lbS s L) (lbA A L)) (sw_D none n (md f (lbS s (lTI L m)) (lbA A (lTI L m)))) := by
  have h := c_X12_take_in (l := l) (D := D) (cy := cy) (d := d) (n := n) (f := f) (s := lbS s L) (A := lbA A L) hm
  rw [show va_up (lbA A L) 172 (fillF (fun v => lbA A L 169 (8 * m + v)) (lbA A L 172) 8) = lbA A (lTI L m) from vu_up _ _ _ _] at h
  exact h
set_option maxRecDepth 100000 in
theorem q_takeO {l : Launch} {D : va_G} {cy : Nat → ClassId} {d n : Nat} {f : sw_F} {s : Nat → Int32} {A : Nat → Nat → Int32} {L : LB} {m : Nat} (hm : m < 160) : sw_Ct l D cy mX12_take d 0 0 [.ref 150, .ref 170, .int (nI m)] n (md f (lbS s L) (lbA A L)) (sw_D none n (md f (lbS s (lTO L m)) (lbA A (lTO L m)))) := by
  have h := c_X12_take_out (l := l) (D := D) (cy := cy) (d := d) (n := n) (f := f) (s := lbS s L) (A := lbA A L) hm
  rw [show va_up (lbA A L) 172 (fillF (fun v => lbA A L 170 (8 * m + v)) (lbA A L 172) 8) = lbA A (lTO L m) from vu_up _ _ _ _] at h
  exact h
set_option maxRecDepth 100000 in
theorem q_setOut {l : Launch} {D : va_G} {cy : Nat → ClassId} {d n : Nat} {f : sw_F} {s : Nat → Int32} {A : Nat → Nat → Int32} {L : LB} {m : Nat} (hm : m < 160) : sw_Ct l D cy mX12_setOut d 0 0 [.ref 150, .int (nI m)] n (md f (lbS s L) (lbA A L)) (sw_D none n (md f (lbS s (lSO L m)) (lbA A (lSO L m)))) := by
  have h := c_X12_setOut (l := l) (D := D) (cy := cy) (d := d) (n := n) (f := f) (s := lbS s L) (A := lbA A L) (mo := L.2.2.2.2) hm rfl
  have e : va_up (lbA A L) 170 (fillS (8 * m) (lbA A L 172) (lbA A L 170) 8) = lbA A (lSO L m) := by
    show va_up (va_up (va_up (va_up (va_up A 169 L.1) 170 L.2.1) 171 L.2.2.1) 172 L.2.2.2.1) 170 _ = va_up (va_up (va_up (va_up A 169 L.1) 170 _) 171 L.2.2.1) 172 L.2.2.2.1
    rw [vu_so _ (show 170 < 172 by decide), vu_so _ (show 170 < 171 by decide), vu_up]
    rfl
  rw [e] at h
  rw [show lbS s (lSO L m) = va_up (lbS s L) 30 (bz (lSO L m).2.2.2.2) from (vu_up _ _ _ _).symm]
  exact h
set_option maxRecDepth 100000 in
theorem q_setIn {l : Launch} {D : va_G} {cy : Nat → ClassId} {d n : Nat} {f : sw_F} {s : Nat → Int32} {A : Nat → Nat → Int32} {L : LB} {m : Nat} (hm : m < 160) (u : Int32) : sw_Ct l D cy mX12_setIn d 0 0 [.ref 150, .int (nI m), .int u] n (md f (lbS s L) (lbA A L)) (sw_D none n (md f (lbS s (lSI L m u)) (lbA A (lSI L m u)))) := by
  have h := c_X12_setIn (l := l) (D := D) (cy := cy) (d := d) (n := n) (f := f) (s := lbS s L) (A := lbA A L) (mo := L.2.2.2.2) hm rfl u
  have e : r_siA (lbA A L) m u = lbA A (lSI L m u) := by
    show va_up (va_up (va_up (va_up (va_up (va_up A 169 L.1) 170 L.2.1) 171 L.2.2.1) 172 L.2.2.2.1) 169 _) 171 _ = va_up (va_up (va_up (va_up A 169 _) 170 L.2.1) 171 _) 172 L.2.2.2.1
    rw [vu_so _ (show 169 < 172 by decide), vu_so _ (show 169 < 171 by decide), vu_so _ (show 169 < 170 by decide), vu_up, vu_so _ (show 171 < 172 by decide), vu_up]
    rfl
  rw [e] at h
  rw [show lbS s (lSI L m u) = va_up (lbS s L) 30 (bz (lSI L m u).2.2.2.2) from (vu_up _ _ _ _).symm]
  exact h
set_option maxRecDepth 100000 in
theorem q_joinOut {l : Launch} {D : va_G} {cy : Nat → ClassId} {d n : Nat} {f : sw_F} {s : Nat → Int32} {A : Nat → Nat → Int32} {L : LB} {N P m : Nat} (hN : N ≤ 6) (hJ : JOK N A) (hL : LOK N P L) (hP : P ≤ 160) (hd : 1 ≤ d) (hm : m < P) : sw_Ct l D cy mX12_joinOut d 0 0 [.ref 150, .int (nI m)] n (md f (lbS s L) (lbA A L)) (sw_D none n (md f (lbS s (lJO A L m)) (lbA A (lJO A L m)))) := by
  have h := c_X12_joinOut (l := l) (D := D) (cy := cy) (d := d) (n := n) (f := f) (s := lbS s L) (A := lbA A L) (jn := fun i j => (A 152 (6 * i + j)).toNatClampNeg) (nw := fun v => (L.2.2.2.1 v).toNatClampNeg) (ou := fun v => (L.2.1 (8 * m + v)).toNatClampNeg) hN (fun i j hi hj => lv_to (hJ i j hi hj) hN) hd (show m < 160 by omega) (fun v hv => lv_to (hL.2.2.2 v hv) hN) (fun v hv => lv_to (hL.2.1 _ (by omega)) hN)
  have e : va_up (lbA A L) 172 (fillF (fun v => nI ((fun i j => (A 152 (6 * i + j)).toNatClampNeg) ((L.2.2.2.1 v).toNatClampNeg) ((L.2.1 (8 * m + v)).toNatClampNeg))) (lbA A L 172) 8) = lbA A (lJO A L m) := by
    refine (vu_up _ _ _ _).trans ?_
    show va_up _ _ (fillF _ L.2.2.2.1 8) = va_up _ _ (fillF _ L.2.2.2.1 8)
    congr 1
    funext v
    unfold fillF
    by_cases hv : v < 8
    · rw [if_pos hv, if_pos hv]
      exact (lv_to (hJ _ _ (lv_to (hL.2.2.2 v hv) hN).2 (lv_to (hL.2.1 (8 * m + v) (by omega)) hN).2) hN).1.symm
    · rw [if_neg hv, if_neg hv]
  rw [e] at h
  exact h
/-- statement m: its expression stands at e .. E - 1 -/
def SE (A : Nat → Nat → Int32) (P m e E : Nat) : Prop := m < P ∧ A 162 m = nI e ∧ e < P ∧ e ≤ E ∧ E ≤ P ∧ A 166 e = nI E ∧ ∀ k, e ≤ k → k < E → A 159 k = 1 → ∃ v, v < 8 ∧ A 160 k = nI v
set_option maxRecDepth 100000 in
theorem q_labelOf {l : Launch} {D : va_G} {cy : Nat → ClassId} {d n : Nat} {f : sw_F} {s : Nat → Int32} {A : Nat → Nat → Int32} {L : LB} {N P m e E : Nat} (hN : N ≤ 6) (hJ : JOK N A) (hL : LOK N P L) (hP : P ≤ 160) (hd : 1 ≤ d) (hE : SE A P m e E) (hb : lv N (s 4)) : sw_Ct l D cy mX12_labelOf d 0 0 [.ref 150, .int (nI m)] n (md f (lbS s L) (lbA A L)) (sw_D (some (.int (loI A L.2.2.2.1 e (E - e) (s 4)))) n (md f (lbS s L) (lbA A L))) := by
  obtain ⟨bo, hbN, hbo⟩ := hb
  obtain ⟨h1, h2, h3, h4, h5, h6, h7⟩ := hE
  have h := c_X12_labelOf (l := l) (D := D) (cy := cy) (d := d) (n := n) (f := f) (s := lbS s L) (A := lbA A L) (jn := fun i j => (A 152 (6 * i + j)).toNatClampNeg) (nw := fun v => (L.2.2.2.1 v).toNatClampNeg) hN (fun i j hi hj => lv_to (hJ i j hi hj) hN) (fun v hv => lv_to (hL.2.2.2 v hv) hN) hd h2 (show m < 160 by omega) h4 (show E ≤ 160 by omega) (show e < 160 by omega) h6 h7 (bo := bo) hbo hbN
  have e1 := lof_loI hN hJ (W := L.2.2.2.1) hL.2.2.2 (E - e) e bo (fun j q1 q2 => h7 j q1 (by omega)) hbN
  rw [hbo, ← e1]
  exact h
set_option maxRecDepth 100000 in
theorem q_joined {l : Launch} {D : va_G} {cy : Nat → ClassId} {d n : Nat} {f : sw_F} {s : Nat → Int32} {A : Nat → Nat → Int32} {L : LB} {N : Nat} {x y : Int32} (hN : N ≤ 6) (hx : lv N x) (hy : lv N y) : sw_Ct l D cy mX12_joined d 0 0 [.ref 150, .int x, .int y] n (md f (lbS s L) (lbA A L)) (sw_D (some (.int (jI A x y))) n (md f (lbS s L) (lbA A L))) := by
  obtain ⟨i, hi, rfl⟩ := hx
  obtain ⟨j, hj, rfl⟩ := hy
  have h := c_X12_joined (l := l) (D := D) (cy := cy) (d := d) (n := n) (f := f) (s := lbS s L) (A := lbA A L) (show i < 6 by omega) (show j < 6 by omega)
  unfold jI
  rw [nI_clamp (by omega), nI_clamp (by omega)]
  exact h
def nx (A : Nat → Nat → Int32) (k : Nat) : Nat := (A 164 k).toNatClampNeg
/-- statement m, over its expression at e .. E - 1; x0: the lowest level -/
def lST (A : Nat → Nat → Int32) (x0 : Int32) (L : LB) (m e E : Nat) : LB :=
  if A 159 m = 3 then lSO (lNW (lTI L m) (A 160 m).toNatClampNeg (jI A (L.2.2.1 m) (loI A (lTI L m).2.2.2.1 e (E - e) x0))) m
  else if A 159 m = 5 then lSO (lSI (lJO A (lTI L m) (nx A e)) (nx A e) (jI A (L.2.2.1 m) (loI A (lJO A (lTI L m) (nx A e)).2.2.2.1 e (E - e) x0))) m
  else lSO (lJO A (lTO (lSI (lSI (lTI L m) (nx A e) (jI A (L.2.2.1 m) (loI A (lTI L m).2.2.2.1 e (E - e) x0))) (nx A (nx A e)) (jI A (L.2.2.1 m) (loI A (lTI L m).2.2.2.1 e (E - e) x0))) (nx A e)) (nx A (nx A e))) m
/-- what a statement's parts are -/
def SO (A : Nat → Nat → Int32) (P m e E : Nat) : Prop := SE A P m e E ∧ (A 159 m = 3 → ∃ v, v < 8 ∧ A 160 m = nI v) ∧ (¬ A 159 m = 3 → ∃ b, b < P ∧ A 164 e = nI b ∧ (¬ A 159 m = 5 → ∃ c, c < P ∧ A 164 b = nI c))
set_option maxRecDepth 100000 in
theorem c_X12_statement {l : Launch} {D : va_G} {cy : Nat → ClassId} {d n : Nat} {f : sw_F} {s : Nat → Int32} {A : Nat → Nat → Int32} (hd : 2 ≤ d) {L : LB} {N P m e E : Nat} (hN : N ≤ 6) (hJ : JOK N A) (hL : LOK N P L) (hP : P ≤ 160) (hS : SO A P m e E) (hb : lv N (s 4)) : sw_Ct l D cy mX12_statement d 0 0 [.ref 150, .int (nI m)] n (md f (lbS s L) (lbA A L)) (sw_D none n (md f (lbS s (lST A (s 4) L m e E)) (lbA A (lST A (s 4) L m e E)))) := by
  obtain ⟨hE, hv3, hn3⟩ := hS
  have hm : m < P := hE.1
  have k1 := lTI_ok hL hm
  have hU : lv N (L.2.2.1 m) := hL.2.2.1 m hm
  have hv := hE.2.2.2.2.2.2
  have hle := hE.2.2.2.1
  have heP := hE.2.2.1
  have hlP := hE.2.2.2.2.1
  refine sw_of rfl (Nat.le_of_ble_eq_true rfl) ?_
  show SW l D cy mX12_statement d 0 0 0 0 0 [(0, .ref 150), (1, .int (nI m))] [] n (md f (lbS s L) (lbA A L)) _ _
  refine sw_aload_n dX12_statement_0 rfl (by first | rfl | assumption) ?_
  refine sw_aload_n dX12_statement_1 rfl (by first | rfl | assumption) ?_
  refine sw_get dX12_statement_2 fr_X12_73 rfl rfl ?_
  refine sw_iload_n dX12_statement_5 rfl ?_
  refine sw_Vn dX12_statement_6 k_X12_211 mf_X12_take (q_takeI (d := d - 1) (by omega)) rfl ⟨_, rfl, rfl⟩ (by omega) (by omega) (by omega) rfl rfl (Nat.le_of_ble_eq_true rfl) ?_
  refine sw_aload_n dX12_statement_9 rfl (by first | rfl | assumption) ?_
  refine sw_get dX12_statement_10 fr_X12_43 rfl rfl ?_
  refine sw_iload_n dX12_statement_13 rfl ?_
  refine sw_ialdN (m) dX12_statement_14 rfl rfl (show m < 160 by omega) (by decide) ?_
  refine sw_top (y := A 159 m) rfl ?_
  refine sw_iconst (x := 3) dX12_statement_15 (by decide) ?_
  refine sw_icmp_ne 50 dX12_statement_16 (by decide) (fun h16 => ?_) (fun h16 => ?_)
  · obtain ⟨b, hb1, hb2, hb3⟩ := hn3 h16
    refine sw_aload_n dX12_statement_50 rfl (by first | rfl | assumption) ?_
    refine sw_get dX12_statement_51 fr_X12_58 rfl rfl ?_
    refine sw_aload_n dX12_statement_54 rfl (by first | rfl | assumption) ?_
    refine sw_get dX12_statement_55 fr_X12_52 rfl rfl ?_
    refine sw_iload_n dX12_statement_58 rfl ?_
    refine sw_ialdN (m) dX12_statement_59 rfl rfl (show m < 160 by omega) (by decide) ?_
    refine sw_top (y := nI e) hE.2.1 ?_
    refine sw_ialdN (e) dX12_statement_60 rfl rfl (show e < 160 by omega) (by decide) ?_
    refine sw_top (y := nI b) hb2 ?_
    refine sw_istore_n [(0, _), (1, _), (2, _)] dX12_statement_61 (by decide) rfl ?_
    refine sw_aload_n dX12_statement_62 rfl (by first | rfl | assumption) ?_
    refine sw_get dX12_statement_63 fr_X12_43 rfl rfl ?_
    refine sw_iload_n dX12_statement_66 rfl ?_
    refine sw_ialdN (m) dX12_statement_67 rfl rfl (show m < 160 by omega) (by decide) ?_
    refine sw_top (y := A 159 m) rfl ?_
    refine sw_iconst (x := 5) dX12_statement_68 (by decide) ?_
    refine sw_icmp_ne 100 dX12_statement_69 (by decide) (fun h69 => ?_) (fun h69 => ?_)
    · obtain ⟨c, hc1, hc2⟩ := hb3 h69
      have k2 := loI_lv hN hJ k1.2.2.2 (E - e) e (s 4) (fun j q1 q2 => hv j q1 (by omega)) hb
      have k3 := jI_lv hN hJ hU k2
      have k5 := lSI_ok (m := c) (lSI_ok (m := b) k1 k3) k3
      have k6 := lTO_ok k5 hb1
      refine sw_aload_n dX12_statement_100 rfl (by first | rfl | assumption) ?_
      refine sw_get dX12_statement_101 fr_X12_58 rfl rfl ?_
      refine sw_iload_n dX12_statement_104 rfl ?_
      refine sw_ialdN (b) dX12_statement_105 rfl rfl (show b < 160 by omega) (by decide) ?_
      refine sw_top (y := nI c) hc2 ?_
      refine sw_istore_n [(0, _), (1, _), (2, _), (3, _)] dX12_statement_106 (by decide) rfl ?_
      refine sw_aload_n dX12_statement_107 rfl (by first | rfl | assumption) ?_
      refine sw_aload_n dX12_statement_108 rfl (by first | rfl | assumption) ?_
      refine sw_get dX12_statement_109 fr_X12_79 rfl rfl ?_
      refine sw_iload_n dX12_statement_112 rfl ?_
      refine sw_ialdN (m) dX12_statement_113 rfl rfl (show m < 160 by omega) (by decide) ?_
      refine sw_top (y := L.2.2.1 m) rfl ?_
      refine sw_aload_n dX12_statement_114 rfl (by first | rfl | assumption) ?_
      refine sw_iload_n dX12_statement_115 rfl ?_
      refine sw_Vv dX12_statement_116 k_X12_215 mf_X12_labelOf (q_labelOf (d := d - 1) (L := lTI L m) hN hJ k1 hP (by omega) hE hb) rfl ⟨_, rfl, rfl⟩ (by omega) (by omega) (by omega) rfl rfl (Nat.le_of_ble_eq_true rfl) ?_
      refine sw_Vv dX12_statement_119 k_X12_148 mf_X12_joined (q_joined (d := d - 1) hN hU k2) rfl ⟨_, rfl, rfl⟩ (by omega) (by omega) (by omega) rfl rfl (Nat.le_of_ble_eq_true rfl) ?_
      refine sw_istore [(0, _), (1, _), (2, _), (3, _), (4, _)] dX12_statement_122 (by decide) rfl ?_
      refine sw_aload_n dX12_statement_124 rfl (by first | rfl | assumption) ?_
      refine sw_iload_n dX12_statement_125 rfl ?_
      refine sw_iload dX12_statement_126 rfl ?_
      refine sw_Vn dX12_statement_128 k_X12_222 mf_X12_setIn (q_setIn (d := d - 1) (by omega) _) rfl ⟨_, rfl, rfl⟩ (by omega) (by omega) (by omega) rfl rfl (Nat.le_of_ble_eq_true rfl) ?_
      refine sw_aload_n dX12_statement_131 rfl (by first | rfl | assumption) ?_
      refine sw_iload_n dX12_statement_132 rfl ?_
      refine sw_iload dX12_statement_133 rfl ?_
      refine sw_Vn dX12_statement_135 k_X12_222 mf_X12_setIn (q_setIn (d := d - 1) (by omega) _) rfl ⟨_, rfl, rfl⟩ (by omega) (by omega) (by omega) rfl rfl (Nat.le_of_ble_eq_true rfl) ?_
      refine sw_aload_n dX12_statement_138 rfl (by first | rfl | assumption) ?_
      refine sw_aload_n dX12_statement_139 rfl (by first | rfl | assumption) ?_
      refine sw_get dX12_statement_140 fr_X12_76 rfl rfl ?_
      refine sw_iload_n dX12_statement_143 rfl ?_
      refine sw_Vn dX12_statement_144 k_X12_211 mf_X12_take (q_takeO (d := d - 1) (by omega)) rfl ⟨_, rfl, rfl⟩ (by omega) (by omega) (by omega) rfl rfl (Nat.le_of_ble_eq_true rfl) ?_
      refine sw_aload_n dX12_statement_147 rfl (by first | rfl | assumption) ?_
      refine sw_iload_n dX12_statement_148 rfl ?_
      refine sw_Vn dX12_statement_149 k_X12_218 mf_X12_joinOut (q_joinOut (d := d - 1) hN hJ k6 hP (by omega) hc1) rfl ⟨_, rfl, rfl⟩ (by omega) (by omega) (by omega) rfl rfl (Nat.le_of_ble_eq_true rfl) ?_
      refine sw_aload_n dX12_statement_152 rfl (by first | rfl | assumption) ?_
      refine sw_iload_n dX12_statement_153 rfl ?_
      refine sw_Vn dX12_statement_154 k_X12_226 mf_X12_setOut (q_setOut (d := d - 1) (by omega)) rfl ⟨_, rfl, rfl⟩ (by omega) (by omega) (by omega) rfl rfl (Nat.le_of_ble_eq_true rfl) ?_
      exact sw_vret dX12_statement_157 rfl (by omega) (by omega) ⟨rfl, rfl, by first | (rw [lST, if_pos h16, hve, nI_clamp (by omega)]; done) | (rw [lST, if_neg h16, if_pos h69, nx, hb2, nI_clamp (by omega)]; done) | (rw [lST, if_neg h16, if_neg h69, show nx A e = b from (by rw [nx, hb2, nI_clamp (by omega)]), show nx A b = c from (by rw [nx, hc2, nI_clamp (by omega)])])⟩
    · have k4 := lJO_ok hN hJ k1 hb1
      have k2 := loI_lv hN hJ k4.2.2.2 (E - e) e (s 4) (fun j q1 q2 => hv j q1 (by omega)) hb
      have k3 := jI_lv hN hJ hU k2
      refine sw_aload_n dX12_statement_72 rfl (by first | rfl | assumption) ?_
      refine sw_iload_n dX12_statement_73 rfl ?_
      refine sw_Vn dX12_statement_74 k_X12_218 mf_X12_joinOut (q_joinOut (d := d - 1) hN hJ k1 hP (by omega) hb1) rfl ⟨_, rfl, rfl⟩ (by omega) (by omega) (by omega) rfl rfl (Nat.le_of_ble_eq_true rfl) ?_
      refine sw_aload_n dX12_statement_77 rfl (by first | rfl | assumption) ?_
      refine sw_iload_n dX12_statement_78 rfl ?_
      refine sw_aload_n dX12_statement_79 rfl (by first | rfl | assumption) ?_
      refine sw_aload_n dX12_statement_80 rfl (by first | rfl | assumption) ?_
      refine sw_get dX12_statement_81 fr_X12_79 rfl rfl ?_
      refine sw_iload_n dX12_statement_84 rfl ?_
      refine sw_ialdN (m) dX12_statement_85 rfl rfl (show m < 160 by omega) (by decide) ?_
      refine sw_top (y := L.2.2.1 m) rfl ?_
      refine sw_aload_n dX12_statement_86 rfl (by first | rfl | assumption) ?_
      refine sw_iload_n dX12_statement_87 rfl ?_
      refine sw_Vv dX12_statement_88 k_X12_215 mf_X12_labelOf (q_labelOf (d := d - 1) (L := lJO A (lTI L m) b) hN hJ k4 hP (by omega) hE hb) rfl ⟨_, rfl, rfl⟩ (by omega) (by omega) (by omega) rfl rfl (Nat.le_of_ble_eq_true rfl) ?_
      refine sw_Vv dX12_statement_91 k_X12_148 mf_X12_joined (q_joined (d := d - 1) hN hU k2) rfl ⟨_, rfl, rfl⟩ (by omega) (by omega) (by omega) rfl rfl (Nat.le_of_ble_eq_true rfl) ?_
      refine sw_Vn dX12_statement_94 k_X12_222 mf_X12_setIn (q_setIn (d := d - 1) (by omega) _) rfl ⟨_, rfl, rfl⟩ (by omega) (by omega) (by omega) rfl rfl (Nat.le_of_ble_eq_true rfl) ?_
      refine sw_goto 152 dX12_statement_97 (by decide) ?_
      refine sw_aload_n dX12_statement_152 rfl (by first | rfl | assumption) ?_
      refine sw_iload_n dX12_statement_153 rfl ?_
      refine sw_Vn dX12_statement_154 k_X12_226 mf_X12_setOut (q_setOut (d := d - 1) (by omega)) rfl ⟨_, rfl, rfl⟩ (by omega) (by omega) (by omega) rfl rfl (Nat.le_of_ble_eq_true rfl) ?_
      exact sw_vret dX12_statement_157 rfl (by omega) (by omega) ⟨rfl, rfl, by first | (rw [lST, if_pos h16, hve, nI_clamp (by omega)]; done) | (rw [lST, if_neg h16, if_pos h69, nx, hb2, nI_clamp (by omega)]; done) | (rw [lST, if_neg h16, if_neg h69, show nx A e = b from (by rw [nx, hb2, nI_clamp (by omega)]), show nx A b = c from (by rw [nx, hc2, nI_clamp (by omega)])])⟩
  · obtain ⟨v, hv8, hve⟩ := hv3 h16
    have k2 := loI_lv hN hJ k1.2.2.2 (E - e) e (s 4) (fun j q1 q2 => hv j q1 (by omega)) hb
    have k3 := jI_lv hN hJ hU k2
    refine sw_aload_n dX12_statement_19 rfl (by first | rfl | assumption) ?_
    refine sw_aload_n dX12_statement_20 rfl (by first | rfl | assumption) ?_
    refine sw_get dX12_statement_21 fr_X12_79 rfl rfl ?_
    refine sw_iload_n dX12_statement_24 rfl ?_
    refine sw_ialdN (m) dX12_statement_25 rfl rfl (show m < 160 by omega) (by decide) ?_
    refine sw_top (y := L.2.2.1 m) rfl ?_
    refine sw_aload_n dX12_statement_26 rfl (by first | rfl | assumption) ?_
    refine sw_iload_n dX12_statement_27 rfl ?_
    refine sw_Vv dX12_statement_28 k_X12_215 mf_X12_labelOf (q_labelOf (d := d - 1) (L := lTI L m) hN hJ k1 hP (by omega) hE hb) rfl ⟨_, rfl, rfl⟩ (by omega) (by omega) (by omega) rfl rfl (Nat.le_of_ble_eq_true rfl) ?_
    refine sw_Vv dX12_statement_31 k_X12_148 mf_X12_joined (q_joined (d := d - 1) hN hU k2) rfl ⟨_, rfl, rfl⟩ (by omega) (by omega) (by omega) rfl rfl (Nat.le_of_ble_eq_true rfl) ?_
    refine sw_istore_n [(0, _), (1, _), (2, _)] dX12_statement_34 (by decide) rfl ?_
    refine sw_aload_n dX12_statement_35 rfl (by first | rfl | assumption) ?_
    refine sw_get dX12_statement_36 fr_X12_82 rfl rfl ?_
    refine sw_aload_n dX12_statement_39 rfl (by first | rfl | assumption) ?_
    refine sw_get dX12_statement_40 fr_X12_46 rfl rfl ?_
    refine sw_iload_n dX12_statement_43 rfl ?_
    refine sw_ialdN (m) dX12_statement_44 rfl rfl (show m < 160 by omega) (by decide) ?_
    refine sw_top (y := nI v) hve ?_
    refine sw_iload_n dX12_statement_45 rfl ?_
    refine m_iast (v) dX12_statement_46 ⟨by decide, by decide, rfl⟩ rfl (show v < 8 by omega) rfl ?_
    refine m_eq (A' := lbA A (lNW (lTI L m) v (jI A (L.2.2.1 m) (loI A (lTI L m).2.2.2.1 e (E - e) (s 4))))) rfl (vu_up _ _ _ _) ?_
    change SW l D cy mX12_statement d 0 0 0 0 _ _ _ _ (md f (lbS s (lNW (lTI L m) v (jI A (L.2.2.1 m) (loI A (lTI L m).2.2.2.1 e (E - e) (s 4))))) _) _ _
    refine sw_goto 152 dX12_statement_47 (by decide) ?_
    refine sw_aload_n dX12_statement_152 rfl (by first | rfl | assumption) ?_
    refine sw_iload_n dX12_statement_153 rfl ?_
    refine sw_Vn dX12_statement_154 k_X12_226 mf_X12_setOut (q_setOut (d := d - 1) (by omega)) rfl ⟨_, rfl, rfl⟩ (by omega) (by omega) (by omega) rfl rfl (Nat.le_of_ble_eq_true rfl) ?_
    exact sw_vret dX12_statement_157 rfl (by omega) (by omega) ⟨rfl, rfl, by first | (rw [lST, if_pos h16, hve, nI_clamp (by omega)]; done) | (rw [lST, if_neg h16, if_pos h69, nx, hb2, nI_clamp (by omega)]; done) | (rw [lST, if_neg h16, if_neg h69, show nx A e = b from (by rw [nx, hb2, nI_clamp (by omega)]), show nx A b = c from (by rw [nx, hc2, nI_clamp (by omega)])])⟩
theorem lST_ok {A : Nat → Nat → Int32} {x0 : Int32} {L : LB} {N P m e E : Nat} (hP : P ≤ 160) (hN : N ≤ 6) (hJ : JOK N A) (hL : LOK N P L) (hS : SO A P m e E) (hb : lv N x0) : LOK N P (lST A x0 L m e E) := by
  obtain ⟨hE, hv3, hn3⟩ := hS
  have hm : m < P := hE.1
  have hv := hE.2.2.2.2.2.2
  have hle := hE.2.2.2.1
  have k1 := lTI_ok hL hm
  have hU : lv N (L.2.2.1 m) := hL.2.2.1 m hm
  unfold lST
  by_cases h3 : A 159 m = 3
  · rw [if_pos h3]
    exact lSO_ok (lNW_ok k1 (jI_lv hN hJ hU (loI_lv hN hJ k1.2.2.2 (E - e) e x0 (fun j q1 q2 => hv j q1 (by omega)) hb)))
  · rw [if_neg h3]
    obtain ⟨b, hb1, hb2, hb3⟩ := hn3 h3
    have eb : nx A e = b := by rw [nx, hb2, nI_clamp (by omega)]
    rw [eb]
    by_cases h5 : A 159 m = 5
    · rw [if_pos h5]
      have k4 := lJO_ok hN hJ k1 hb1
      exact lSO_ok (lSI_ok k4 (jI_lv hN hJ hU (loI_lv hN hJ k4.2.2.2 (E - e) e x0 (fun j q1 q2 => hv j q1 (by omega)) hb)))
    · rw [if_neg h5]
      obtain ⟨c, hc1, hc2⟩ := hb3 h5
      have ec : nx A b = c := by rw [nx, hc2, nI_clamp (by omega)]
      rw [ec]
      have k3 := jI_lv hN hJ hU (loI_lv hN hJ k1.2.2.2 (E - e) e x0 (fun j q1 q2 => hv j q1 (by omega)) hb)
      exact lSO_ok (lJO_ok hN hJ (lTO_ok (lSI_ok (lSI_ok k1 k3) k3) hb1) hc1)
/-- the chain of statements that begins at x -/
def Ch (A : Nat → Nat → Int32) (P : Nat) : Int32 → List (Nat × Nat × Nat) → Prop
  | x, [] => x < 0
  | x, q :: r => x = nI q.1 ∧ SO A P q.1 q.2.1 q.2.2 ∧ Ch A P (A 164 q.1) r
def lRW (A : Nat → Nat → Int32) (x0 : Int32) (k : Nat) : LB → List (Nat × Nat × Nat) → LB
  | L, [] => L
  | L, q :: r => lRW A x0 k (lTO (lST A x0 (lSI L q.1 (L.2.2.1 k)) q.1 q.2.1 q.2.2) q.1) r
theorem lRW_ok {A : Nat → Nat → Int32} {x0 : Int32} {N P k : Nat} (hP : P ≤ 160) (hN : N ≤ 6) (hJ : JOK N A) (hk : k < P) (hb : lv N x0) : ∀ (ms : List (Nat × Nat × Nat)) (x : Int32) (L : LB), Ch A P x ms → LOK N P L → LOK N P (lRW A x0 k L ms)
  | [], _, _, _, hL => hL
  | q :: r, _, L, hc, hL => lRW_ok hP hN hJ hk hb r _ _ hc.2.2 (lTO_ok (lST_ok hP hN hJ (lSI_ok hL (hL.2.2.1 k hk)) hc.2.1 hb) hc.2.1.1.1)
set_option maxRecDepth 100000 in
theorem l_X12_row {l : Launch} {D : va_G} {cy : Nat → ClassId} {d n : Nat} {f : sw_F} {s : Nat → Int32} {A : Nat → Nat → Int32} (hd : 3 ≤ d) {N P k : Nat} (hN : N ≤ 6) (hJ : JOK N A) (hP : P ≤ 160) (hk : k < P) (hb : lv N (s 4)) {QX : sw_QX} : ∀ (ms : List (Nat × Nat × Nat)) (x : Int32) (L : LB), Ch A P x ms → LOK N P L → SW l D cy mX12_row d 0 0 0 0 16 [(0, .ref 150), (1, .int (nI k)), (2, .int x)] [] n (md f (lbS s L) (lbA A L)) (sw_D none n (md f (lbS s (lSO (lRW A (s 4) k L ms) k)) (lbA A (lSO (lRW A (s 4) k L ms) k)))) QX := by
  intro ms
  induction ms with
  | nil =>
    intro x L hc hL
    refine sw_iload_n dX12_row_16 rfl ?_
    refine sw_if_lt 55 dX12_row_17 (by decide) (fun h17 => ?_) (fun h17 => ?_)
    · refine sw_aload_n dX12_row_55 rfl (by first | rfl | assumption) ?_
      refine sw_iload_n dX12_row_56 rfl ?_
      refine sw_Vn dX12_row_57 k_X12_226 mf_X12_setOut (q_setOut (d := d - 1) (by omega)) rfl ⟨_, rfl, rfl⟩ (by omega) (by omega) (by omega) rfl rfl (Nat.le_of_ble_eq_true rfl) ?_
      exact sw_vret dX12_row_60 rfl (by omega) (by omega) ⟨rfl, rfl, rfl⟩
    · exact absurd hc h17
  | cons z r ih =>
    intro x L hc hL
    obtain ⟨m, e, E⟩ := z
    obtain ⟨rfl, hS, hr⟩ := hc
    have hm : m < P := hS.1.1
    have hU := hL.2.2.1 k hk
    have k1 : LOK N P (lSI L m (L.2.2.1 k)) := lSI_ok hL hU
    have k2 := lST_ok hP hN hJ k1 hS hb
    have k3 := lTO_ok k2 hm
    refine sw_iload_n dX12_row_16 rfl ?_
    refine sw_if_lt 55 dX12_row_17 (by decide) (fun h17 => ?_) (fun h17 => ?_)
    · exact absurd h17 (nI_pos (by omega))
    · refine sw_aload_n dX12_row_20 rfl (by first | rfl | assumption) ?_
      refine sw_iload_n dX12_row_21 rfl ?_
      refine sw_aload_n dX12_row_22 rfl (by first | rfl | assumption) ?_
      refine sw_get dX12_row_23 fr_X12_79 rfl rfl ?_
      refine sw_iload_n dX12_row_26 rfl ?_
      refine sw_ialdN (k) dX12_row_27 rfl rfl (show k < 160 by omega) (by decide) ?_
      refine sw_top (y := L.2.2.1 k) rfl ?_
      refine sw_Vn dX12_row_28 k_X12_222 mf_X12_setIn (q_setIn (d := d - 1) (by omega) _) rfl ⟨_, rfl, rfl⟩ (by omega) (by omega) (by omega) rfl rfl (Nat.le_of_ble_eq_true rfl) ?_
      refine sw_aload_n dX12_row_31 rfl (by first | rfl | assumption) ?_
      refine sw_iload_n dX12_row_32 rfl ?_
      refine sw_Vn dX12_row_33 k_X12_229 mf_X12_statement (c_X12_statement (d := d - 1) (by omega) hN hJ k1 hP hS hb) rfl ⟨_, rfl, rfl⟩ (by omega) (by omega) (by omega) rfl rfl (Nat.le_of_ble_eq_true rfl) ?_
      refine sw_aload_n dX12_row_36 rfl (by first | rfl | assumption) ?_
      refine sw_aload_n dX12_row_37 rfl (by first | rfl | assumption) ?_
      refine sw_get dX12_row_38 fr_X12_76 rfl rfl ?_
      refine sw_iload_n dX12_row_41 rfl ?_
      refine sw_Vn dX12_row_42 k_X12_211 mf_X12_take (q_takeO (d := d - 1) (by omega)) rfl ⟨_, rfl, rfl⟩ (by omega) (by omega) (by omega) rfl rfl (Nat.le_of_ble_eq_true rfl) ?_
      refine sw_aload_n dX12_row_45 rfl (by first | rfl | assumption) ?_
      refine sw_get dX12_row_46 fr_X12_58 rfl rfl ?_
      refine sw_iload_n dX12_row_49 rfl ?_
      refine sw_ialdN (m) dX12_row_50 rfl rfl (show m < 160 by omega) (by decide) ?_
      refine sw_top (y := A 164 m) rfl ?_
      refine sw_istore_n [(0, _), (1, _), (2, _)] dX12_row_51 (by decide) rfl ?_
      refine sw_goto 16 dX12_row_52 (by decide) ?_
      exact ih _ _ hr k3
def lRO (A : Nat → Nat → Int32) (x0 : Int32) (L : LB) (k : Nat) (ms : List (Nat × Nat × Nat)) : LB := lSO (lRW A x0 k (lTI L k) ms) k
theorem lRO_ok {A : Nat → Nat → Int32} {x0 : Int32} {L : LB} {N P k : Nat} {ms : List (Nat × Nat × Nat)} (hP : P ≤ 160) (hN : N ≤ 6) (hJ : JOK N A) (hk : k < P) (hb : lv N x0) (hc : Ch A P (A 162 k) ms) (hL : LOK N P L) : LOK N P (lRO A x0 L k ms) := lSO_ok (lRW_ok hP hN hJ hk hb ms _ _ hc (lTI_ok hL hk))
set_option maxRecDepth 100000 in
theorem c_X12_row {l : Launch} {D : va_G} {cy : Nat → ClassId} {d n : Nat} {f : sw_F} {s : Nat → Int32} {A : Nat → Nat → Int32} (hd : 3 ≤ d) {N P k : Nat} (hN : N ≤ 6) (hJ : JOK N A) (hP : P ≤ 160) (hk : k < P) (hb : lv N (s 4)) {L : LB} {ms : List (Nat × Nat × Nat)} (hc : Ch A P (A 162 k) ms) (hL : LOK N P L) : sw_Ct l D cy mX12_row d 0 0 [.ref 150, .int (nI k)] n (md f (lbS s L) (lbA A L)) (sw_D none n (md f (lbS s (lRO A (s 4) L k ms)) (lbA A (lRO A (s 4) L k ms)))) := by
  refine sw_of rfl (Nat.le_of_ble_eq_true rfl) ?_
  show SW l D cy mX12_row d 0 0 0 0 0 [(0, .ref 150), (1, .int (nI k))] [] n (md f (lbS s L) (lbA A L)) _ _
  refine sw_aload_n dX12_row_0 rfl (by first | rfl | assumption) ?_
  refine sw_aload_n dX12_row_1 rfl (by first | rfl | assumption) ?_
  refine sw_get dX12_row_2 fr_X12_73 rfl rfl ?_
  refine sw_iload_n dX12_row_5 rfl ?_
  refine sw_Vn dX12_row_6 k_X12_211 mf_X12_take (q_takeI (d := d - 1) (by omega)) rfl ⟨_, rfl, rfl⟩ (by omega) (by omega) (by omega) rfl rfl (Nat.le_of_ble_eq_true rfl) ?_
  refine sw_aload_n dX12_row_9 rfl (by first | rfl | assumption) ?_
  refine sw_get dX12_row_10 fr_X12_52 rfl rfl ?_
  refine sw_iload_n dX12_row_13 rfl ?_
  refine sw_ialdN (k) dX12_row_14 rfl rfl (show k < 160 by omega) (by decide) ?_
  refine sw_top (y := A 162 k) rfl ?_
  refine sw_istore_n [(0, _), (1, _), (2, _)] dX12_row_15 (by decide) rfl ?_
  exact l_X12_row hd hN hJ hP hk hb ms _ _ hc (lTI_ok hL hk)
