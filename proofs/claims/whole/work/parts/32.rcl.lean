/-! ===== THE REFERENCE: labels of code: labels, contexts, more ===== -/
abbrev CL : Type := (Nat → Int32) × (Nat → Int32) × Bool
def clA (A : Nat → Nat → Int32) (L : CL) : Nat → Nat → Int32 := va_up (va_up A 183 L.1) 184 L.2.1
def clS (s : Nat → Int32) (L : CL) : Nat → Int32 := va_up s 30 (bz L.2.2)
def HT (A : Nat → Nat → Int32) (C : Nat) : Prop := ∀ j, j < C → A 178 j < 0 ∨ ∃ h, h ≤ 8 ∧ A 178 j = nI h
def COK (N C : Nat) (L : CL) : Prop := (∀ i, i < 16 * C → lv N (L.1 i)) ∧ ∀ k, k < C → lv N (L.2.1 k)
theorem cl_l (A : Nat → Nat → Int32) (L : CL) (g : Nat → Int32) : va_up (clA A L) 183 g = clA A (g, L.2) := by
  show va_up (va_up (va_up A 183 L.1) 184 L.2.1) 183 g = va_up (va_up A 183 g) 184 L.2.1
  rw [vu_so _ (show 183 < 184 by decide), vu_up]
theorem cl_c (A : Nat → Nat → Int32) (L : CL) (g : Nat → Int32) : va_up (clA A L) 184 g = clA A (L.1, g, L.2.2) := vu_up _ _ _ _
theorem cl_m (s : Nat → Int32) (L : CL) (b : Bool) : va_up (clS s L) 30 (bz b) = clS s (L.1, L.2.1, b) := vu_up _ _ _ _
def fcq (A : Nat → Nat → Int32) (k j : Nat) : Prop := 0 < A 178 j ∧ A 176 j = 7 ∧ ¬ A 181 (100 * j + k) = 0
/-- the join of x and of the uppermost labels at all ZERO j in whose region k is -/
def fcx (A : Nat → Nat → Int32) (lab : Nat → Int32) (k : Nat) : Nat → Nat → Int32 → Int32
  | _, 0, x => x
  | j, c + 1, x => fcx A lab k (j + 1) c (if 0 < A 178 j ∧ A 176 j = 7 ∧ ¬ A 181 (100 * j + k) = 0 then jI A x (lab (16 * j + 7 + (A 178 j).toNatClampNeg)) else x)
theorem fcx_lv {N C : Nat} {A : Nat → Nat → Int32} {lab : Nat → Int32} {k : Nat} (hN : N ≤ 6) (hJ : JOK N A) (hT : HT A C) (hl : ∀ i, i < 16 * C → lv N (lab i)) : ∀ (c j : Nat) (x : Int32), j + c ≤ C → lv N x → lv N (fcx A lab k j c x)
  | 0, _, _, _, hx => hx
  | c + 1, j, x, hc, hx => by
    rw [fcx]
    refine fcx_lv hN hJ hT hl c (j + 1) _ (by omega) ?_
    by_cases q : 0 < A 178 j ∧ A 176 j = 7 ∧ ¬ A 181 (100 * j + k) = 0
    · rw [if_pos q]
      refine jI_lv hN hJ hx (hl _ ?_)
      rcases hT j (by omega) with h | ⟨h, h8, he⟩
      · exact absurd q.1 (by grind)
      · rw [he, nI_clamp (by omega)]; omega
    · rw [if_neg q]; exact hx
def lFC (A : Nat → Nat → Int32) (x0 : Int32) (C : Nat) (L : CL) (k : Nat) : CL := (L.1, upd L.2.1 k (fcx A L.1 k 0 C x0), L.2.2 || decide (¬ fcx A L.1 k 0 C x0 = L.2.1 k))
theorem lFC_ok {N C : Nat} {A : Nat → Nat → Int32} {x0 : Int32} {L : CL} {k : Nat} (hN : N ≤ 6) (hJ : JOK N A) (hT : HT A C) (hb : lv N x0) (hL : COK N C L) : COK N C (lFC A x0 C L k) := ⟨hL.1, fun j hj => by
  show lv N (upd _ _ _ _)
  unfold upd
  split
  · exact fcx_lv hN hJ hT hL.1 C 0 x0 (by omega) hb
  · exact hL.2 j hj⟩
theorem q_joinedC {l : Launch} {D : va_G} {cy : Nat → ClassId} {d n : Nat} {f : sw_F} {s : Nat → Int32} {A : Nat → Nat → Int32} {L : CL} {N : Nat} {x y : Int32} (hN : N ≤ 6) (hx : lv N x) (hy : lv N y) : sw_Ct l D cy mX12_joined d 0 0 [.ref 150, .int x, .int y] n (md f (clS s L) (clA A L)) (sw_D (some (.int (jI A x y))) n (md f (clS s L) (clA A L))) := by
  obtain ⟨i, hi, rfl⟩ := hx
  obtain ⟨j, hj, rfl⟩ := hy
  have h := c_X12_joined (l := l) (D := D) (cy := cy) (d := d) (n := n) (f := f) (s := clS s L) (A := clA A L) (show i < 6 by omega) (show j < 6 by omega)
  unfold jI
  rw [nI_clamp (by omega), nI_clamp (by omega)]
  exact h
set_option maxRecDepth 100000 in
theorem l_X12_fc {l : Launch} {D : va_G} {cy : Nat → ClassId} {d n : Nat} {f : sw_F} {s : Nat → Int32} {A : Nat → Nat → Int32} (hd : 1 ≤ d) {N C k : Nat} (hC : s 36 = nI C) (hCb : C ≤ 100) (hk : k < C) (hN : N ≤ 6) (hJ : JOK N A) (hT : HT A C) {L : CL} (hL : COK N C L) {Q : sw_Q} {QX : sw_QX} : ∀ (c j : Nat) (x : Int32), j ≤ C → C < j + c → lv N x → SW l D cy mX12_findContext d 0 0 0 0 80 [(0, .ref 150), (1, .int (nI k)), (2, .int (fcx A L.1 k j (C - j) x))] [] n (md f (clS s L) (clA A L)) Q QX → SW l D cy mX12_findContext d 0 0 0 0 7 [(0, .ref 150), (1, .int (nI k)), (2, .int (x)), (3, .int (nI (j)))] [] n (md f (clS s L) (clA A L)) Q QX := by
  intro c
  induction c with
  | zero => intro j0 x0 h1 h2; exact absurd h2 (by omega)
  | succ c ih =>
    intro j x hj hc hx K
    refine sw_iload_n dX12_findContext_7 rfl ?_
    refine sw_aload_n dX12_findContext_8 rfl (by first | rfl | assumption) ?_
    refine sw_get dX12_findContext_9 fr_X12_251 rfl rfl ?_
    refine sw_top hC ?_
    refine sw_icmp_ge 80 dX12_findContext_12 (by decide) (fun h12 => ?_) (fun h12 => ?_)
    · refine sw_keep [0, 1, 2] rfl ?_
      rw [show C - j = 0 by have := (nI_leI (by omega) (by omega)).mp h12; omega] at K
      exact K
    · have e1 : j < C := (nI_ltI (by omega) (by omega)).mp (i32_nle.mp h12)
      rw [show C - j = (C - (j + 1)) + 1 by omega, fcx] at K
      refine sw_aload_n dX12_findContext_15 rfl (by first | rfl | assumption) ?_
      refine sw_get dX12_findContext_16 fr_X12_100 rfl rfl ?_
      refine sw_iload_n dX12_findContext_19 rfl ?_
      refine sw_ialdN (j) dX12_findContext_20 rfl rfl (show j < 100 by omega) (by decide) ?_
      refine sw_top (y := A 178 j) rfl ?_
      refine sw_if_le 74 dX12_findContext_21 (by decide) (fun h21 => ?_) (fun h21 => ?_)
      · first | refine sw_inc1 [(0, _), (1, _), (2, _), (3, _)] dX12_findContext_74 rfl (by decide) rfl ?_ | refine sw_iinc [(0, _), (1, _), (2, _), (3, _)] dX12_findContext_74 rfl (by decide) rfl ?_
        refine sw_goto 7 dX12_findContext_77 (by decide) ?_
        rw [if_neg (fun q => absurd q.1 (Int32.not_lt.mpr h21))] at K
        exact ih (j + 1) _ (by omega) (by omega) hx K
      · refine sw_aload_n dX12_findContext_24 rfl (by first | rfl | assumption) ?_
        refine sw_get dX12_findContext_25 fr_X12_94 rfl rfl ?_
        refine sw_iload_n dX12_findContext_28 rfl ?_
        refine sw_ialdN (j) dX12_findContext_29 rfl rfl (show j < 100 by omega) (by decide) ?_
        refine sw_top (y := A 176 j) rfl ?_
        refine sw_bipush (x := 7) dX12_findContext_30 (by decide) ?_
        refine sw_icmp_ne 74 dX12_findContext_32 (by decide) (fun h32 => ?_) (fun h32 => ?_)
        · first | refine sw_inc1 [(0, _), (1, _), (2, _), (3, _)] dX12_findContext_74 rfl (by decide) rfl ?_ | refine sw_iinc [(0, _), (1, _), (2, _), (3, _)] dX12_findContext_74 rfl (by decide) rfl ?_
          refine sw_goto 7 dX12_findContext_77 (by decide) ?_
          rw [if_neg (fun q => h32 q.2.1)] at K
          exact ih (j + 1) _ (by omega) (by omega) hx K
        · refine sw_aload_n dX12_findContext_35 rfl (by first | rfl | assumption) ?_
          refine sw_get dX12_findContext_36 fr_X12_109 rfl rfl ?_
          refine sw_bipush (x := 100) dX12_findContext_39 (by decide) ?_
          refine sw_iload_n dX12_findContext_41 rfl ?_
          refine sw_imul dX12_findContext_42 ?_
          refine sw_iload_n dX12_findContext_43 rfl ?_
          refine sw_iadd dX12_findContext_44 ?_
          refine sw_zaldN (100 * j + k) dX12_findContext_45 rfl (by rw [nl_100, pk_mul, nI_add]) (show 100 * j + k < 10000 by omega) (by decide) ?_
          refine sw_top (y := A 181 (100 * j + k)) rfl ?_
          refine sw_if_eq 74 dX12_findContext_46 (by decide) (fun h46 => ?_) (fun h46 => ?_)
          · first | refine sw_inc1 [(0, _), (1, _), (2, _), (3, _)] dX12_findContext_74 rfl (by decide) rfl ?_ | refine sw_iinc [(0, _), (1, _), (2, _), (3, _)] dX12_findContext_74 rfl (by decide) rfl ?_
            refine sw_goto 7 dX12_findContext_77 (by decide) ?_
            rw [if_neg (fun q => q.2.2 h46)] at K
            exact ih (j + 1) _ (by omega) (by omega) hx K
          · have e5 : 0 < A 178 j ∧ A 176 j = 7 ∧ ¬ A 181 (100 * j + k) = 0 := ⟨Int32.not_le.mp h21, h32, h46⟩
            obtain ⟨h, h8, he⟩ : ∃ h, h ≤ 8 ∧ A 178 j = nI h := (hT j e1).elim (fun q => absurd q (fun q => h21 (Int32.le_of_lt q))) id
            have e7 : (A 178 j).toNatClampNeg = h := by rw [he, nI_clamp (by omega)]
            have e8 := hL.1 (16 * j + 7 + h) (by omega)
            have e6 := jI_lv hN hJ hx e8
            rw [← e7] at e6
            refine sw_aload_n dX12_findContext_49 rfl (by first | rfl | assumption) ?_
            refine sw_iload_n dX12_findContext_50 rfl ?_
            refine sw_aload_n dX12_findContext_51 rfl (by first | rfl | assumption) ?_
            refine sw_get dX12_findContext_52 fr_X12_115 rfl rfl ?_
            refine sw_bipush (x := 16) dX12_findContext_55 (by decide) ?_
            refine sw_iload_n dX12_findContext_57 rfl ?_
            refine sw_imul dX12_findContext_58 ?_
            refine sw_bipush (x := 7) dX12_findContext_59 (by decide) ?_
            refine sw_iadd dX12_findContext_61 ?_
            refine sw_aload_n dX12_findContext_62 rfl (by first | rfl | assumption) ?_
            refine sw_get dX12_findContext_63 fr_X12_100 rfl rfl ?_
            refine sw_iload_n dX12_findContext_66 rfl ?_
            refine sw_ialdN (j) dX12_findContext_67 rfl rfl (show j < 100 by omega) (by decide) ?_
            refine sw_top (y := nI h) he ?_
            refine sw_iadd dX12_findContext_68 ?_
            refine sw_ialdN (16 * j + 7 + h) dX12_findContext_69 rfl (by rw [nl_16, pk_mul, nl_7, nI_add, nI_add]) (show 16 * j + 7 + h < 1600 by omega) (by decide) ?_
            refine sw_top (y := L.1 (16 * j + 7 + (A 178 j).toNatClampNeg)) (by rw [e7]; rfl) ?_
            refine sw_Vv dX12_findContext_70 k_X12_148 mf_X12_joined (q_joinedC (d := d - 1) hN hx (by rw [e7]; exact e8)) rfl ⟨_, rfl, rfl⟩ (by omega) (by omega) (by omega) rfl rfl (Nat.le_of_ble_eq_true rfl) ?_
            refine sw_istore_n [(0, _), (1, _), (2, _), (3, _)] dX12_findContext_73 (by decide) rfl ?_
            first | refine sw_inc1 [(0, _), (1, _), (2, _), (3, _)] dX12_findContext_74 rfl (by decide) rfl ?_ | refine sw_iinc [(0, _), (1, _), (2, _), (3, _)] dX12_findContext_74 rfl (by decide) rfl ?_
            refine sw_goto 7 dX12_findContext_77 (by decide) ?_
            rw [if_pos e5] at K
            exact ih (j + 1) _ (by omega) (by omega) e6 K
set_option maxRecDepth 100000 in
theorem c_X12_findContext {l : Launch} {D : va_G} {cy : Nat → ClassId} {d n : Nat} {f : sw_F} {s : Nat → Int32} {A : Nat → Nat → Int32} (hd : 1 ≤ d) {N C k : Nat} (hC : s 36 = nI C) (hCb : C ≤ 100) (hk : k < C) (hN : N ≤ 6) (hJ : JOK N A) (hT : HT A C) {L : CL} (hL : COK N C L) (hb : lv N (s 4)) : sw_Ct l D cy mX12_findContext d 0 0 [.ref 150, .int (nI k)] n (md f (clS s L) (clA A L)) (sw_D none n (md f (clS s (lFC A (s 4) C L k)) (clA A (lFC A (s 4) C L k)))) := by
  refine sw_of rfl (Nat.le_of_ble_eq_true rfl) ?_
  show SW l D cy mX12_findContext d 0 0 0 0 0 [(0, .ref 150), (1, .int (nI k))] [] n (md f (clS s L) (clA A L)) _ _
  refine sw_aload_n dX12_findContext_0 rfl (by first | rfl | assumption) ?_
  refine sw_get dX12_findContext_1 fr_X12_142 rfl rfl ?_
  refine sw_istore_n [(0, _), (1, _), (2, _)] dX12_findContext_4 (by decide) rfl ?_
  refine sw_iconst (x := 0) dX12_findContext_5 (by decide) ?_
  refine sw_istore_n [(0, _), (1, _), (2, _), (3, _)] dX12_findContext_6 (by decide) rfl ?_
  refine l_X12_fc hd hC hCb hk hN hJ hT hL (C + 1) 0 (s 4) (by omega) (by omega) hb ?_
  have J : SW l D cy mX12_findContext d 0 0 0 0 103 [(0, .ref 150), (1, .int (nI k)), (2, .int (fcx A L.1 k 0 C (s 4)))] [.int (bz (L.2.2 || decide (¬ fcx A L.1 k 0 C (s 4) = L.2.1 k))), .ref 150] n (md f (clS s L) (clA A L)) (sw_D none n (md f (clS s (lFC A (s 4) C L k)) (clA A (lFC A (s 4) C L k)))) (fun _ _ _ => False) := by
    refine m_put dX12_findContext_103 fl_X12_207 (by decide) (by first | exact sw_fit_z0 | exact sw_fit_z1 | exact sw_fit_z _) rfl ?_
    refine sw_aload_n dX12_findContext_106 rfl (by first | rfl | assumption) ?_
    refine sw_get dX12_findContext_107 fr_X12_118 rfl rfl ?_
    refine sw_iload_n dX12_findContext_110 rfl ?_
    refine sw_iload_n dX12_findContext_111 rfl ?_
    refine m_iast (k) dX12_findContext_112 ⟨by decide, by decide, rfl⟩ rfl (show k < 100 by omega) rfl ?_
    exact sw_vret dX12_findContext_113 rfl (by omega) (by omega) ⟨rfl, rfl, by rw [cl_m, cl_c]; rfl⟩
  refine sw_aload_n dX12_findContext_80 rfl (by first | rfl | assumption) ?_
  refine sw_aload_n dX12_findContext_81 rfl (by first | rfl | assumption) ?_
  refine sw_get dX12_findContext_82 fr_X12_207 rfl rfl ?_
  refine sw_top (y := bz L.2.2) rfl ?_
  refine sw_if_ne 98 dX12_findContext_85 (by decide) (fun h85 => ?_) (fun h85 => ?_)
  · refine sw_iconst (x := 1) dX12_findContext_98 (by decide) ?_
    refine sw_goto 103 dX12_findContext_99 (by decide) ?_
    exact sw_top (y := bz (L.2.2 || decide (¬ fcx A L.1 k 0 C (s 4) = L.2.1 k))) (by first | (rw [bz_ne.mp h85]; rfl; done) | (have h85 := bz_0.mp h85; rw [h85]; first | (have h95 : fcx A L.1 k 0 C (s 4) = L.2.1 k := h95; simp [bz, h95]; done) | (have h95 : ¬ fcx A L.1 k 0 C (s 4) = L.2.1 k := h95; simp [bz, h95]))) J
  · refine sw_iload_n dX12_findContext_88 rfl ?_
    refine sw_aload_n dX12_findContext_89 rfl (by first | rfl | assumption) ?_
    refine sw_get dX12_findContext_90 fr_X12_118 rfl rfl ?_
    refine sw_iload_n dX12_findContext_93 rfl ?_
    refine sw_ialdN (k) dX12_findContext_94 rfl rfl (show k < 100 by omega) (by decide) ?_
    refine sw_icmp_eq 102 dX12_findContext_95 (by decide) (fun h95 => ?_) (fun h95 => ?_)
    · refine sw_iconst (x := 0) dX12_findContext_102 (by decide) ?_
      exact sw_top (y := bz (L.2.2 || decide (¬ fcx A L.1 k 0 C (s 4) = L.2.1 k))) (by first | (rw [bz_ne.mp h85]; rfl; done) | (have h85 := bz_0.mp h85; rw [h85]; first | (have h95 : fcx A L.1 k 0 C (s 4) = L.2.1 k := h95; simp [bz, h95]; done) | (have h95 : ¬ fcx A L.1 k 0 C (s 4) = L.2.1 k := h95; simp [bz, h95]))) J
    · refine sw_iconst (x := 1) dX12_findContext_98 (by decide) ?_
      refine sw_goto 103 dX12_findContext_99 (by decide) ?_
      exact sw_top (y := bz (L.2.2 || decide (¬ fcx A L.1 k 0 C (s 4) = L.2.1 k))) (by first | (rw [bz_ne.mp h85]; rfl; done) | (have h85 := bz_0.mp h85; rw [h85]; first | (have h95 : fcx A L.1 k 0 C (s 4) = L.2.1 k := h95; simp [bz, h95]; done) | (have h95 : ¬ fcx A L.1 k 0 C (s 4) = L.2.1 k := h95; simp [bz, h95]))) J
