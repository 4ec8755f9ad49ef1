/-! ===== THE LAW: what holds of the two sides between calls ===== -/
def yLA (b c : Nat → Int32) (k a : Nat) : Int32 := if a < 8 then b (16 * k + a) else if a = 8 then c k else b (16 * k + (a - 1))
def iLv (s4 s5 : Int32) (a2 a3 a4 : Nat → Int32) (o : Int64) (m1 m4 : Int32) (b1 b2 b3 b4 : Nat → Int32) : Prop := ∃ nb N, LVs nb N ∧ (s4 = nI N ∧ m1 = nI N) ∧ (s5 = nI (r_bot nb N N) ∧ m4 = nI (r_bot nb N N)) ∧ JT nb N a2 ∧ JT nb N b2 ∧ (∀ i j, i < N → j < N → hb o (nI i) (nI j) = nb (6 * i + j) ∧ b1 (6 * i + j) = bz (nb (6 * i + j))) ∧ ∀ v, v < 8 → (lv N (a3 v) ∧ b3 v = a3 v) ∧ lv N (a4 v) ∧ b4 v = a4 v
def iVa (a5 b5 : Nat → Int32) : Prop := ∀ v, v < 8 → b5 v = a5 v
def iTx (s7 : Int32) (a7 : Nat → Int32) (m10 : Int32) (b8 : Nat → Int32) : Prop := ∃ T, T ≤ 72 ∧ s7 = nI T ∧ m10 = nI T ∧ b8 = a7 ∧ (∀ j, j < T → 32 ≤ a7 j ∧ a7 j ≤ 126) ∧ ∀ j, narrow .char (.int (b8 j)) = .int (b8 j)
def iPg (n : Nat) (f : sw_F) (s0 : Int32) (a9 : Nat → Int32) (pr : Value) (m31 : Int32) (b3 b4 b5 : Nat → Int32) : Prop := ∃ b : Bool, s0 = bz b ∧ m31 = bz b ∧ (b = true → ∃ (t : RT) (m n1 : Nat), 187 ≤ m ∧ n1 ≤ n ∧ wfR t ∧ dkR 0 t ∧ lnR t ≤ 99 ∧ ndR f m n1 t pr ∧ cdR b3 b4 t 0 ∧ b3 (lnR t) = 9 ∧ ∀ v, v < 8 → b5 v = a9 v)
def iCd (s12 s2 s3 : Int32) (a29 a30 a32 : Nat → Int32) (Y : Nat → Nat → Int32) (m36 m39 m40 : Int32) (b6 b7 b8 b83 b84 : Nat → Int32) : Prop := ∃ C, C ≤ 100 ∧ s12 = nI C ∧ m36 = nI C ∧ (∀ k, k < C → b6 k = a29 k ∧ b7 k = a30 k) ∧ (∃ a : Bool, s2 = bz a ∧ m39 = bz a ∧ (a = true → ∃ R G, CSf a29 a30 C R G)) ∧ ∃ h : Bool, s3 = bz h ∧ m40 = bz h ∧ (h = true → ∀ k, k < C → b8 k = a32 k ∧ (a32 k = -1 ∨ ∃ g, g ≤ 8 ∧ a32 k = nI g ∧ ∀ a, a < 9 + g → Y k a = yLA b83 b84 k a))
def LI (n : Nat) (f : sw_F) (s : Nat → Int32) (A : Nat → Nat → Int32) (o : Int64) (pr : Value) (sm : Nat → Int32) (Am : Nat → Nat → Int32) : Prop :=
  iLv (s 4) (s 5) (A 2) (A 3) (A 4) o (sm 1) (sm 4) (Am 151) (Am 152) (Am 153) (Am 154) ∧ iVa (A 5) (Am 155) ∧ iTx (s 7) (A 7) (sm 10) (Am 158) ∧ s 1 = sm 14 ∧ iPg n f (s 0) (A 9) pr (sm 31) (Am 173) (Am 174) (Am 175) ∧ iCd (s 12) (s 2) (s 3) (A 29) (A 30) (A 32) (fun k => A (45 + k)) (sm 36) (sm 39) (sm 40) (Am 176) (Am 177) (Am 178) (Am 183) (Am 184) ∧ (∃ R, s 13 = nI R) ∧ ∃ b : Bool, sm 30 = bz b
theorem r45 (A : Nat → Nat → Int32) {q : Nat} (g : Nat → Int32) (h : q < 45) : (fun k => va_up A q g (45 + k)) = fun k => A (45 + k) := by
  funext k
  exact vu_ne _ (by omega) _
theorem v87 {v : Int32} : v < 8 ↔ v ≤ 7 := by
  rw [Int32.lt_iff_toInt_lt, Int32.le_iff_toInt_le]
  show v.toInt < 8 ↔ v.toInt ≤ 7
  omega
section LAW1
variable {n : Nat} {f : sw_F} {s : Nat → Int32} {A : Nat → Nat → Int32} {o : Int64} {pr : Value} {sm : Nat → Int32} {Am : Nat → Nat → Int32}
theorem li_lh (h : LI n f s A o pr sm Am) (x : Int32) : lhas s x = r_lev sm x := by
  obtain ⟨nb, N, hV, ⟨e1, e2⟩, _⟩ := h.1
  unfold lhas r_lev
  rw [e1, e2]
theorem li_join (h : LI n f s A o pr sm Am) (a b : Int32) : ljn s A a b = r_join sm Am a b := by
  obtain ⟨nb, N, hV, ⟨e1, e2⟩, _, j1, j2, _⟩ := id h.1
  have hN := hV.2.1
  unfold ljn r_join
  rw [li_lh h, li_lh h]
  by_cases c : (r_lev sm a && r_lev sm b) = true
  · rw [if_pos c, if_pos c]
    rw [Bool.and_eq_true] at c
    obtain ⟨i, hi, rfl⟩ := r_lev_nI e2 (by omega) c.1
    obtain ⟨j, hj, rfl⟩ := r_lev_nI e2 (by omega) c.2
    rw [nI_clamp (by omega), nI_clamp (by omega), j1 i j hi hj, j2 i j hi hj]
  · rw [if_neg c, if_neg c]
theorem li_0 (h : LI n f s A o pr sm Am) (x : Int32) : LI n f s A o pr (va_up sm 0 x) Am := h
theorem li_lok (h : LI n f s A o pr sm Am) (sd v lev : Int32) : lblO s sd v lev = r_lbOk sm sd v lev := by
  unfold lblO r_lbOk isV
  rw [li_lh h]
  have e : decide ((sd = 0 ∨ sd = 1) ∧ 0 ≤ v ∧ v ≤ 7) = (decide (0 ≤ v ∧ v < 8) && decide (sd = 0 ∨ sd = 1)) := by
    rw [← Bool.decide_and]
    exact decide_eq_decide.mpr ⟨fun z => ⟨⟨z.2.1, v87.mpr z.2.2⟩, z.1⟩, fun z => ⟨z.2, z.1.1, v87.mp z.1.2⟩⟩
  rw [e]
  cases decide (0 ≤ v ∧ v < 8) <;> cases decide (sd = 0 ∨ sd = 1) <;> cases r_lev sm lev <;> rfl
theorem li_label (h : LI n f s A o pr sm Am) (sd v lev : Int32) : LI n f s (lblA s A sd v lev) o pr (va_up sm 0 0) (r_lbA sm Am sd v lev) := by
  have ok := li_lok h sd v lev
  obtain ⟨h1, h2, h3, h4, h5, h6, h7, h8⟩ := id h
  unfold lblA r_lbA
  rw [ok]
  by_cases c : r_lbOk sm sd v lev = true
  · rw [if_pos c, if_pos c]
    obtain ⟨nb, N, hV, ⟨e1, e2⟩, g1, g2, g3, g4, g5⟩ := h1
    have hN := hV.2.1
    have c2 := c
    rw [r_lbOk, Bool.and_eq_true] at c2
    have hl : lv N lev := by
      obtain ⟨i, hi, rfl⟩ := r_lev_nI e2 (by omega) c2.2
      exact ⟨i, hi, rfl⟩
    have up : ∀ (X Y : Nat → Int32), (∀ w, w < 8 → lv N (X w) ∧ Y w = X w) → ∀ w, w < 8 → lv N (upd X v.toNatClampNeg lev w) ∧ upd Y v.toNatClampNeg lev w = upd X v.toNatClampNeg lev w := fun X Y q w hw => by
      by_cases cw : w = v.toNatClampNeg
      · rw [cw, upd_at, upd_at]; exact ⟨hl, rfl⟩
      · rw [upd_ne _ _ cw, upd_ne _ _ cw]; exact q w hw
    by_cases cs : sd = 0
    · rw [if_pos cs, if_pos cs]
      exact ⟨⟨nb, N, hV, ⟨e1, e2⟩, g1, g2, g3, g4, fun w hw => ⟨up _ _ (fun w hw => (g5 w hw).1) w hw, (g5 w hw).2⟩⟩, h2, h3, h4, h5, by rw [r45 A _ (show 3 < 45 by decide)]; exact h6, h7, h8⟩
    · rw [if_neg cs, if_neg cs]
      exact ⟨⟨nb, N, hV, ⟨e1, e2⟩, g1, g2, g3, g4, fun w hw => ⟨(g5 w hw).1, up _ _ (fun w hw => (g5 w hw).2) w hw⟩⟩, h2, h3, h4, h5, by rw [r45 A _ (show 4 < 45 by decide)]; exact h6, h7, h8⟩
  · rw [if_neg c, if_neg c]
    exact h
theorem wtx_eq (w : Int64) {g g' : Nat → Int32} {T : Nat} (h : ∀ j, j < T → g' j = g j) : ∀ i j, j < T + wcn w i → wtx w g' T i j = wtx w g T i j
  | 0, j, hj => h j hj
  | i + 1, j, hj => by
    rw [wtx, wtx]
    rw [wcn] at hj
    by_cases c : wby w i = 0
    · rw [if_pos c] at hj
      rw [if_pos c, if_pos c]; exact wtx_eq w h i j hj
    · rw [if_neg c] at hj
      rw [if_neg c, if_neg c]
      by_cases e : j = T + wcn w i
      · rw [e, upd_at, upd_at]
      · rw [upd_ne _ _ e, upd_ne _ _ e]; exact wtx_eq w h i j (by omega)
theorem wtx_P (w : Int64) {P : Int32 → Prop} {g : Nat → Int32} {T : Nat} (hw : ∀ i, i < 8 → ¬ wby w i = 0 → P (wby w i)) (h : ∀ j, j < T → P (g j)) : ∀ i, i ≤ 8 → ∀ j, j < T + wcn w i → P (wtx w g T i j)
  | 0, _, j, hj => h j hj
  | i + 1, hi, j, hj => by
    rw [wtx]
    rw [wcn] at hj
    by_cases c : wby w i = 0
    · rw [if_pos c] at hj
      rw [if_pos c]; exact wtx_P w hw h i (by omega) j hj
    · rw [if_neg c] at hj
      rw [if_neg c]
      by_cases e : j = T + wcn w i
      · rw [e, upd_at]; exact hw i (by omega) c
      · rw [upd_ne _ _ e]; exact wtx_P w hw h i (by omega) j (by omega)
theorem wtx_A (w : Int64) {P : Int32 → Prop} {g : Nat → Int32} {T : Nat} (hw : ∀ i, i < 8 → ¬ wby w i = 0 → P (wby w i)) (h : ∀ j, P (g j)) : ∀ i, i ≤ 8 → ∀ j, P (wtx w g T i j)
  | 0, _, j => h j
  | i + 1, hi, j => by
    rw [wtx]
    by_cases c : wby w i = 0
    · rw [if_pos c]; exact wtx_A w hw h i (by omega) j
    · rw [if_neg c]
      by_cases e : j = T + wcn w i
      · rw [e, upd_at]; exact hw i (by omega) c
      · rw [upd_ne _ _ e]; exact wtx_A w hw h i (by omega) j
end LAW1
