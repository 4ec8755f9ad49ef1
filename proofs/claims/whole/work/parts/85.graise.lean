/-! ===== THE CLASS: CodeLabels ===== -/
def J2 (A : Nat → Nat → Int32) (x y : Int32) : Int32 := A 2 (6 * x.toNatClampNeg + y.toNatClampNeg)
theorem ljn_J {s : Nat → Int32} {A : Nat → Nat → Int32} {N : Nat} (hs : s 4 = nI N) (hN : N ≤ 6) {x y : Int32} (hx : lv N x) (hy : lv N y) : ljn s A x y = J2 A x y := by
  obtain ⟨i, hi, rfl⟩ := hx
  obtain ⟨j, hj, rfl⟩ := hy
  unfold ljn J2
  rw [lhas_n hs hN hi, lhas_n hs hN hj]
  rfl
theorem u2_id (A : Nat → Nat → Int32) (p i : Nat) {x : Int32} (h : x = A p i) : u2 A p i x = A := by
  funext q j
  rw [u2_at]
  by_cases z : q = p ∧ j = i
  · rw [if_pos z, z.1, z.2, h]
  · rw [if_neg z]
def phi (N : Nat) (J : Int32 → Int32 → Int32) (C : Nat) (Y : Nat → Nat → Int32) (V : Nat → Int32) : Nat := cntB (fun k => decide (¬ V k = 0)) C + 2 * sumN (fun i => 6 - rk N J (Y (i / 17) (i % 17))) (17 * C)
def YL (N C : Nat) (Y : Nat → Nat → Int32) : Prop := ∀ k a, k < C → a < 17 → lv N (Y k a)
/-- from Y, V on labels were raised only, and what was raised waits -/
def RR (N : Nat) (J : Int32 → Int32 → Int32) (C : Nat) (W : Nat → Int32) (Y : Nat → Nat → Int32) (V : Nat → Int32) (Y' : Nat → Nat → Int32) (V' : Nat → Int32) : Prop := YL N C Y' ∧ (∀ k a, k < C → a < 17 → jle J (Y k a) (Y' k a)) ∧ (∀ k, k < C → V' k = 0 → V k = 0 ∧ ∀ a, a < 17 → Y' k a = Y k a) ∧ phi N J C Y' V' ≤ phi N J C Y V ∧ ∀ k, k < C → ¬ V' k = 0 → ¬ V k = 0 ∨ 0 ≤ W k
theorem RR_rfl {N : Nat} {J : Int32 → Int32 → Int32} {C : Nat} {W : Nat → Int32} (h : SL N J) {Y : Nat → Nat → Int32} {V : Nat → Int32} (hY : YL N C Y) : RR N J C W Y V Y V := ⟨hY, fun k a hk ha => jle_rfl h (hY k a hk ha), fun _ _ q => ⟨q, fun _ _ => rfl⟩, Nat.le_refl _, fun _ _ q => Or.inl q⟩
theorem RR_tr {N : Nat} {J : Int32 → Int32 → Int32} {C : Nat} {W : Nat → Int32} (h : SL N J) {Y Y1 Y2 : Nat → Nat → Int32} {V V1 V2 : Nat → Int32} (hY : YL N C Y) (h1 : RR N J C W Y V Y1 V1) (h2 : RR N J C W Y1 V1 Y2 V2) : RR N J C W Y V Y2 V2 := ⟨h2.1, fun k a hk ha => jle_tr h (hY k a hk ha) (h1.1 k a hk ha) (h2.1 k a hk ha) (h1.2.1 k a hk ha) (h2.2.1 k a hk ha), fun k hk q => by
    have z2 := h2.2.2.1 k hk q
    have z1 := h1.2.2.1 k hk z2.1
    exact ⟨z1.1, fun a ha => (z2.2 a ha).trans (z1.2 a ha)⟩, Nat.le_trans h2.2.2.2.1 h1.2.2.2.1, fun k hk q => (h2.2.2.2.2 k hk q).elim (fun z => h1.2.2.2.2 k hk z) Or.inr⟩
def rsY (J : Int32 → Int32 → Int32) (Y : Nat → Nat → Int32) (k a : Nat) (x : Int32) : Nat → Nat → Int32 := u2 Y k a (J (Y k a) x)
def rsV (J : Int32 → Int32 → Int32) (Y : Nat → Nat → Int32) (V : Nat → Int32) (k a : Nat) (x : Int32) : Nat → Int32 := if J (Y k a) x = Y k a then V else upd V k 1
theorem RR_1 {N : Nat} {J : Int32 → Int32 → Int32} {C : Nat} {W : Nat → Int32} (h : SL N J) (hN : N ≤ 6) {Y : Nat → Nat → Int32} {V : Nat → Int32} (hY : YL N C Y) {k a : Nat} (hk : k < C) (ha : a < 17) {x : Int32} (hx : lv N x) (hw0 : 0 ≤ W k) : RR N J C W Y V (rsY J Y k a x) (rsV J Y V k a x) ∧ jle J x (rsY J Y k a x k a) := by
  have hl := hY k a hk ha
  have e0 : rsY J Y k a x k a = J (Y k a) x := by unfold rsY; rw [u2_at, if_pos ⟨rfl, rfl⟩]
  have en : ∀ q i, ¬ (q = k ∧ i = a) → rsY J Y k a x q i = Y q i := fun q i z => by unfold rsY; rw [u2_at, if_neg z]
  refine ⟨⟨fun q i hq hi => ?_, fun q i hq hi => ?_, fun q hq z => ?_, ?_, fun q hq z => ?_⟩, by rw [e0]; exact jle_r h hl hx⟩
  · by_cases c : q = k ∧ i = a
    · rw [c.1, c.2, e0]; exact h.1 _ _ hl hx
    · rw [en q i c]; exact hY q i hq hi
  · by_cases c : q = k ∧ i = a
    · rw [c.1, c.2, e0]; exact jle_l h hl hx
    · rw [en q i c]; exact jle_rfl h (hY q i hq hi)
  · unfold rsV at z
    by_cases c : J (Y k a) x = Y k a
    · rw [if_pos c] at z
      exact ⟨z, fun i hi => by unfold rsY; rw [u2_id Y k a c]⟩
    · rw [if_neg c] at z
      by_cases u : q = k
      · subst u; rw [upd_at] at z; exact absurd z (by decide)
      · rw [upd_ne _ _ u] at z
        exact ⟨z, fun i hi => en q i (fun w => u w.1)⟩
  · by_cases c : J (Y k a) x = Y k a
    · unfold rsV rsY
      rw [if_pos c, u2_id Y k a c]
      exact Nat.le_refl _
    · have hr := rk_lt h hl (h.1 _ _ hl hx) (jle_l h hl hx) (fun z => c z.symm)
      have hb := rk_le (N := N) (J := J) (J (Y k a) x)
      have hs : sumN (fun i => 6 - rk N J (rsY J Y k a x (i / 17) (i % 17))) (17 * C) + 1 ≤ sumN (fun i => 6 - rk N J (Y (i / 17) (i % 17))) (17 * C) := by
        refine sum_dn (i := 17 * k + a) ?_ (17 * C) (by omega) (fun j hj hne => ?_)
        · show 6 - rk N J (rsY J Y k a x ((17 * k + a) / 17) ((17 * k + a) % 17)) < 6 - rk N J (Y ((17 * k + a) / 17) ((17 * k + a) % 17))
          rw [show (17 * k + a) / 17 = k by omega, show (17 * k + a) % 17 = a by omega, e0]
          omega
        · show 6 - rk N J (rsY J Y k a x (j / 17) (j % 17)) = 6 - rk N J (Y (j / 17) (j % 17))
          rw [en _ _ (by omega)]
      have hw : cntB (fun i => decide (¬ rsV J Y V k a x i = 0)) C ≤ cntB (fun i => decide (¬ V i = 0)) C + 1 := by
        unfold rsV
        rw [if_neg c]
        by_cases u : V k = 0
        · have := cnt_add (p := fun i => decide (¬ V i = 0)) (q := fun i => decide (¬ upd V k 1 i = 0)) (t := k) (decide_eq_false (p := ¬ V k = 0) (fun z => z u)) C hk (fun i hi => by
            by_cases e : i = k
            · subst e
              show decide (¬ upd V i 1 i = 0) = (decide (¬ V i = 0) || decide (i = i))
              rw [upd_at, decide_eq_true (rfl : i = i), Bool.or_true]; rfl
            · show decide (¬ upd V k 1 i = 0) = (decide (¬ V i = 0) || decide (i = k))
              rw [upd_ne _ _ e, decide_eq_false e, Bool.or_false])
          omega
        · rw [cnt_cg C (q := fun i => decide (¬ V i = 0)) (fun i hi => by
            by_cases e : i = k
            · subst e
              show decide (¬ upd V i 1 i = 0) = decide (¬ V i = 0)
              rw [upd_at, decide_eq_true (p := ¬ V i = 0) u]; rfl
            · show decide (¬ upd V k 1 i = 0) = decide (¬ V i = 0)
              rw [upd_ne _ _ e])]
          omega
      unfold phi
      omega
  · unfold rsV at z
    by_cases c : J (Y k a) x = Y k a
    · rw [if_pos c] at z; exact Or.inl z
    · rw [if_neg c] at z
      by_cases u : q = k
      · subst u; exact Or.inr hw0
      · rw [upd_ne _ _ u] at z; exact Or.inl z
theorem LU_1 {N : Nat} {J : Int32 → Int32 → Int32} {K E W en : Nat → Int32} {C : Nat} (h : SL N J) {Y : Nat → Nat → Int32} (hY : YL N C Y) (hU : LU N J K E W en C Y) {k a : Nat} (hk : k < C) (ha : a < 17) {x : Int32} (hx : lv N x) (hz : ∀ Z, LSo N J K E W en C Z → 0 ≤ W k → a < 9 + hn W k → jle J x (Z k a)) : LU N J K E W en C (rsY J Y k a x) := by
  intro Z hZ q hq q0 i hi
  unfold rsY
  rw [u2_at]
  by_cases c : q = k ∧ i = a
  · rw [if_pos c]
    obtain ⟨rfl, rfl⟩ := c
    exact jle_j h (hY q i hq ha) hx (hZ.1 q i hq ha) (hU Z hZ q hq q0 i hi) (hz Z hZ q0 hi)
  · rw [if_neg c]; exact hU Z hZ q hq q0 i hi
set_option maxRecDepth 100000 in
theorem c_X1_raise {l : Launch} {D : va_G} {cy : Nat → ClassId} {d n : Nat} {f : sw_F} {s : Nat → Int32} {A : Nat → Nat → Int32} {B : Nat → Nat → Int64} {o : Int64} {pr : Value} (hd : 2 ≤ d) {N : Nat} (hs : s 4 = nI N) (hN : N ≤ 6) (hJ : SL N (J2 A)) {C : Nat} (hCb : C ≤ 100) {Y : Nat → Nat → Int32} {V L : Nat → Int32} (hY : YL N C Y) {k a : Nat} (hk : k < C) (ha : a < 17) {x : Int32} (hx : lv N x) : sw_Ct l D cy mX1_raise d 0 0 [.ref 43, .int (nI k), .int (nI a), .int x] n (gd f s (laA A Y V L) B o pr) (sw_D none n (gd f s (laA A (rsY (J2 A) Y k a x) (rsV (J2 A) Y V k a x) L) B o pr)) := by
  refine sw_of rfl (Nat.le_of_ble_eq_true rfl) ?_
  show SW l D cy mX1_raise d 0 0 0 0 0 [(0, .ref 43), (1, .int (nI k)), (2, .int (nI a)), (3, .int x)] [] n (gd f s (laA A Y V L) B o pr) _ _
  refine sw_aload_n dX1_raise_0 rfl (by first | rfl | assumption) ?_
  refine sw_get dX1_raise_1 fr_X1_36 rfl rfl ?_
  refine sw_aload_n dX1_raise_4 rfl (by first | rfl | assumption) ?_
  refine sw_get dX1_raise_5 fr_X1_13 rfl rfl ?_
  refine sw_iload_n dX1_raise_8 rfl ?_
  refine sw_aald dX1_raise_9 rfl (vp_in_nI (show k < 100 by omega) (by decide)) (g_row (show k < 100 by omega)) ?_
  refine sw_iload_n dX1_raise_10 rfl ?_
  refine sw_ialdN (a) dX1_raise_11 (g_lab f s A Y V L B o pr (show k < 100 by omega)) rfl (show a < 17 by omega) (by decide) ?_
  refine sw_iload_n dX1_raise_12 rfl ?_
  refine sw_Vv dX1_raise_13 k_X1_99 mf_X3_joined (c_X3_joined (d := d - 1) (by omega) hs hN (Y k a) x) rfl ⟨_, rfl, rfl⟩ (by omega) (by omega) (by omega) rfl rfl (Nat.le_of_ble_eq_true rfl) ?_
  refine sw_top (y := (J2 A) (Y k a) x) ((ljn_J hs hN (hY k a hk ha) hx).trans rfl) ?_
  refine sw_istore [(0, _), (1, _), (2, _), (3, _), (4, _)] dX1_raise_16 (by decide) rfl ?_
  refine sw_iload dX1_raise_18 rfl ?_
  refine sw_aload_n dX1_raise_20 rfl (by first | rfl | assumption) ?_
  refine sw_get dX1_raise_21 fr_X1_13 rfl rfl ?_
  refine sw_iload_n dX1_raise_24 rfl ?_
  refine sw_aald dX1_raise_25 rfl (vp_in_nI (show k < 100 by omega) (by decide)) (g_row (show k < 100 by omega)) ?_
  refine sw_iload_n dX1_raise_26 rfl ?_
  refine sw_ialdN (a) dX1_raise_27 (g_lab f s A Y V L B o pr (show k < 100 by omega)) rfl (show a < 17 by omega) (by decide) ?_
  refine sw_icmp_eq 48 dX1_raise_28 (by decide) (fun h28 => ?_) (fun h28 => ?_)
  · exact sw_vret dX1_raise_48 rfl (by omega) (by omega) ⟨rfl, rfl, by rw [rsV, if_pos h28, rsY, u2_id Y k a h28]⟩
  · refine sw_aload_n dX1_raise_31 rfl (by first | rfl | assumption) ?_
    refine sw_get dX1_raise_32 fr_X1_13 rfl rfl ?_
    refine sw_iload_n dX1_raise_35 rfl ?_
    refine sw_aald dX1_raise_36 rfl (vp_in_nI (show k < 100 by omega) (by decide)) (g_row (show k < 100 by omega)) ?_
    refine sw_iload_n dX1_raise_37 rfl ?_
    refine sw_iload dX1_raise_38 rfl ?_
    refine g_iast (a) dX1_raise_40 ⟨by omega, (gq_l k (by omega)).1, (gq_l k (by omega)).2.1⟩ rfl (show a < gl (45 + k) by rw [(gq_l k (by omega)).2.2]; exact ha) rfl ?_
    rw [la_y A Y V L (show k < 100 by omega)]
    refine sw_aload_n dX1_raise_41 rfl (by first | rfl | assumption) ?_
    refine sw_get dX1_raise_42 fr_X1_16 rfl rfl ?_
    refine sw_iload_n dX1_raise_45 rfl ?_
    refine sw_iconst (x := 1) dX1_raise_46 (by decide) ?_
    refine g_zast (k) dX1_raise_47 ⟨by decide, rfl, rfl⟩ rfl (show k < 100 by omega) (show vp_nar .boolean 1 = 1 by decide) ?_
    rw [la_v]
    exact sw_vret dX1_raise_48 rfl (by omega) (by omega) ⟨rfl, rfl, by rw [rsV, if_neg h28]; rfl⟩
