/-! ===== THE REFERENCE: labelProgram ===== -/
theorem lb_I (A : Nat → Nat → Int32) (L : LB) (g : Nat → Int32) : va_up (lbA A L) 169 g = lbA A (g, L.2) := by
  show va_up (va_up (va_up (va_up (va_up A 169 L.1) 170 L.2.1) 171 L.2.2.1) 172 L.2.2.2.1) 169 g = va_up (va_up (va_up (va_up A 169 g) 170 L.2.1) 171 L.2.2.1) 172 L.2.2.2.1
  rw [vu_so _ (show 169 < 172 by decide), vu_so _ (show 169 < 171 by decide), vu_so _ (show 169 < 170 by decide), vu_up]
theorem lb_O (A : Nat → Nat → Int32) (L : LB) (g : Nat → Int32) : va_up (lbA A L) 170 g = lbA A (L.1, g, L.2.2) := by
  show va_up (va_up (va_up (va_up (va_up A 169 L.1) 170 L.2.1) 171 L.2.2.1) 172 L.2.2.2.1) 170 g = va_up (va_up (va_up (va_up A 169 L.1) 170 g) 171 L.2.2.1) 172 L.2.2.2.1
  rw [vu_so _ (show 170 < 172 by decide), vu_so _ (show 170 < 171 by decide), vu_up]
theorem lb_U (A : Nat → Nat → Int32) (L : LB) (g : Nat → Int32) : va_up (lbA A L) 171 g = lbA A (L.1, L.2.1, g, L.2.2.2) := by
  show va_up (va_up (va_up (va_up (va_up A 169 L.1) 170 L.2.1) 171 L.2.2.1) 172 L.2.2.2.1) 171 g = va_up (va_up (va_up (va_up A 169 L.1) 170 L.2.1) 171 g) 172 L.2.2.2.1
  rw [vu_so _ (show 171 < 172 by decide), vu_up]
theorem lb_W (A : Nat → Nat → Int32) (L : LB) (g : Nat → Int32) : va_up (lbA A L) 172 g = lbA A (L.1, L.2.1, L.2.2.1, g, L.2.2.2.2) := vu_up _ _ _ _
theorem lb_M (s : Nat → Int32) (L : LB) (b : Bool) : va_up (lbS s L) 30 (bz b) = lbS s (L.1, L.2.1, L.2.2.1, L.2.2.2.1, b) := vu_up _ _ _ _
theorem lb_of (A : Nat → Nat → Int32) (b : Bool) : A = lbA A (A 169, A 170, A 171, A 172, b) := by
  show A = va_up (va_up (va_up (va_up A 169 (A 169)) 170 (A 170)) 171 (A 171)) 172 (A 172)
  rw [vu_id, vu_id, vu_id, vu_id]
def LK3 (N P : Nat) (L : LB) : Prop := (∀ j, j < 8 * P → lv N (L.1 j)) ∧ (∀ j, j < 8 * P → lv N (L.2.1 j)) ∧ ∀ m, m < P → lv N (L.2.2.1 m)
def lIn1 (x0 : Int32) (L : LB) (k : Nat) : LB := (fillF (fun _ => x0) L.1 k, fillF (fun _ => x0) L.2.1 k, L.2.2)
def lIn2 (x0 : Int32) (L : LB) (k : Nat) : LB := (L.1, L.2.1, fillF (fun _ => x0) L.2.2.1 k, L.2.2.2)
def lMo (L : LB) (b : Bool) : LB := (L.1, L.2.1, L.2.2.1, L.2.2.2.1, b)
def lEn (A : Nat → Nat → Int32) (L : LB) (k : Nat) : LB := (L.1, L.2.1, L.2.2.1, fillF (A 153) L.2.2.2.1 k, L.2.2.2.2)
def lRs (A : Nat → Nat → Int32) (x0 : Int32) (ch : Nat → List (Nat × Nat × Nat)) : Nat → Nat → LB → LB
  | _, 0, L => L
  | j, c + 1, L => lRs A x0 ch (j + 1) c (if A 159 j = 6 then lRO A x0 L j (ch j) else L)
def lRd (A : Nat → Nat → Int32) (x0 : Int32) (ch : Nat → List (Nat × Nat × Nat)) (P : Nat) (L : LB) : LB := lRs A x0 ch 0 P (lSI (lEn A (lMo L false) 8) 0 x0)
def lLp (A : Nat → Nat → Int32) (x0 : Int32) (ch : Nat → List (Nat × Nat × Nat)) (P : Nat) : Nat → LB → LB
  | 0, L => L
  | k + 1, L => if L.2.2.2.2 = true then lLp A x0 ch P k (lRd A x0 ch P L) else L
def RS (A : Nat → Nat → Int32) (P : Nat) (ch : Nat → List (Nat × Nat × Nat)) : Prop := ∀ j, j < P → A 159 j = 6 → Ch A P (A 162 j) (ch j)
theorem lRs_ok {A : Nat → Nat → Int32} {x0 : Int32} {ch : Nat → List (Nat × Nat × Nat)} {N P : Nat} (hP : P ≤ 160) (hN : N ≤ 6) (hJ : JOK N A) (hb : lv N x0) (hR : RS A P ch) : ∀ (c j : Nat) (L : LB), j + c ≤ P → LOK N P L → LOK N P (lRs A x0 ch j c L)
  | 0, _, _, _, hL => hL
  | c + 1, j, L, hj, hL => by
    rw [lRs]
    refine lRs_ok hP hN hJ hb hR c (j + 1) _ (by omega) ?_
    by_cases h : A 159 j = 6
    · rw [if_pos h]; exact lRO_ok hP hN hJ (by omega) hb (hR j (by omega) h) hL
    · rw [if_neg h]; exact hL
theorem lRd_pre {A : Nat → Nat → Int32} {x0 : Int32} {L : LB} {N P : Nat} (hb : lv N x0) (he : ∀ v, v < 8 → lv N (A 153 v)) (hL : LK3 N P L) : LOK N P (lSI (lEn A (lMo L false) 8) 0 x0) := lSI_ok ⟨hL.1, hL.2.1, hL.2.2, fill_lv he⟩ hb
theorem lRd_ok {A : Nat → Nat → Int32} {x0 : Int32} {ch : Nat → List (Nat × Nat × Nat)} {L : LB} {N P : Nat} (hP : P ≤ 160) (hN : N ≤ 6) (hJ : JOK N A) (hb : lv N x0) (hR : RS A P ch) (he : ∀ v, v < 8 → lv N (A 153 v)) (hL : LK3 N P L) : LOK N P (lRd A x0 ch P L) := lRs_ok hP hN hJ hb hR P 0 _ (by omega) (lRd_pre hb he hL)
set_option maxRecDepth 100000 in
theorem l_X12_lp1 {l : Launch} {D : va_G} {cy : Nat → ClassId} {d n : Nat} {f : sw_F} {s : Nat → Int32} {A : Nat → Nat → Int32} {P : Nat} (hPs : s 15 = nI P) (hP : P ≤ 160) {L : LB} {Q : sw_Q} {QX : sw_QX} (K : SW l D cy mX12_labelProgram d 0 0 0 0 39 [(0, .ref 150)] [] n (md f (lbS s (lIn1 (s 4) L (8 * P))) (lbA A (lIn1 (s 4) L (8 * P)))) Q QX) : ∀ (k i : Nat), i ≤ 8 * P → 8 * P < i + k → SW l D cy mX12_labelProgram d 0 0 0 0 2 [(0, .ref 150), (1, .int (nI i))] [] n (md f (lbS s (lIn1 (s 4) L i)) (lbA A (lIn1 (s 4) L i))) Q QX := by
  intro k
  induction k with
  | zero => intro i0 h1 h2; exact absurd h2 (by omega)
  | succ k ih =>
    intro i hi hk
    refine sw_iload_n dX12_labelProgram_2 rfl ?_
    refine sw_bipush (x := 8) dX12_labelProgram_3 (by decide) ?_
    refine sw_aload_n dX12_labelProgram_5 rfl (by first | rfl | assumption) ?_
    refine sw_get dX12_labelProgram_6 fr_X12_171 rfl rfl ?_
    refine sw_top hPs ?_
    refine sw_imul dX12_labelProgram_9 ?_
    refine sw_top (y := nI (8 * P)) (by rw [nl_8, pk_mul]) ?_
    refine sw_icmp_ge 39 dX12_labelProgram_10 (by decide) (fun h10 => ?_) (fun h10 => ?_)
    · refine sw_keep [0] rfl ?_
      rw [show i = 8 * P from Nat.le_antisymm hi ((nI_leI (by omega) (by omega)).mp h10)]
      exact K
    · have e1 : i < 8 * P := (nI_ltI (by omega) (by omega)).mp (i32_nle.mp h10)
      refine sw_aload_n dX12_labelProgram_13 rfl (by first | rfl | assumption) ?_
      refine sw_get dX12_labelProgram_14 fr_X12_73 rfl rfl ?_
      refine sw_iload_n dX12_labelProgram_17 rfl ?_
      refine sw_aload_n dX12_labelProgram_18 rfl (by first | rfl | assumption) ?_
      refine sw_get dX12_labelProgram_19 fr_X12_142 rfl rfl ?_
      refine m_iast (i) dX12_labelProgram_22 ⟨by decide, by decide, rfl⟩ rfl (show i < 1280 by omega) rfl ?_
      refine sw_aload_n dX12_labelProgram_23 rfl (by first | rfl | assumption) ?_
      refine sw_get dX12_labelProgram_24 fr_X12_76 rfl rfl ?_
      refine sw_iload_n dX12_labelProgram_27 rfl ?_
      refine sw_aload_n dX12_labelProgram_28 rfl (by first | rfl | assumption) ?_
      refine sw_get dX12_labelProgram_29 fr_X12_142 rfl rfl ?_
      refine m_iast (i) dX12_labelProgram_32 ⟨by decide, by decide, rfl⟩ rfl (show i < 1280 by omega) rfl ?_
      first | refine sw_inc1 [(0, _), (1, _)] dX12_labelProgram_33 rfl (by decide) rfl ?_ | refine sw_iinc [(0, _), (1, _)] dX12_labelProgram_33 rfl (by decide) rfl ?_
      refine sw_goto 2 dX12_labelProgram_36 (by decide) ?_
      refine m_eq (s' := lbS s (lIn1 (s 4) L (i + 1))) rfl ?_ (ih (i + 1) (by omega) (by omega))
      rw [lb_I, lb_O]
      exact congrArg (lbA A) (Prod.ext (fill_1 (h := fun _ => s 4) rfl) (Prod.ext (fill_1 (h := fun _ => s 4) rfl) rfl))
set_option maxRecDepth 100000 in
theorem l_X12_lp2 {l : Launch} {D : va_G} {cy : Nat → ClassId} {d n : Nat} {f : sw_F} {s : Nat → Int32} {A : Nat → Nat → Int32} {P : Nat} (hPs : s 15 = nI P) (hP : P ≤ 160) {L : LB} {Q : sw_Q} {QX : sw_QX} (K : SW l D cy mX12_labelProgram d 0 0 0 0 65 [(0, .ref 150)] [] n (md f (lbS s (lIn2 (s 4) L P)) (lbA A (lIn2 (s 4) L P))) Q QX) : ∀ (k i : Nat), i ≤ P → P < i + k → SW l D cy mX12_labelProgram d 0 0 0 0 41 [(0, .ref 150), (1, .int (nI i))] [] n (md f (lbS s (lIn2 (s 4) L i)) (lbA A (lIn2 (s 4) L i))) Q QX := by
  intro k
  induction k with
  | zero => intro i0 h1 h2; exact absurd h2 (by omega)
  | succ k ih =>
    intro i hi hk
    refine sw_iload_n dX12_labelProgram_41 rfl ?_
    refine sw_aload_n dX12_labelProgram_42 rfl (by first | rfl | assumption) ?_
    refine sw_get dX12_labelProgram_43 fr_X12_171 rfl rfl ?_
    refine sw_top hPs ?_
    refine sw_icmp_ge 65 dX12_labelProgram_46 (by decide) (fun h46 => ?_) (fun h46 => ?_)
    · refine sw_keep [0] rfl ?_
      rw [show i = P from Nat.le_antisymm hi ((nI_leI (by omega) (by omega)).mp h46)]
      exact K
    · have e1 : i < P := (nI_ltI (by omega) (by omega)).mp (i32_nle.mp h46)
      refine sw_aload_n dX12_labelProgram_49 rfl (by first | rfl | assumption) ?_
      refine sw_get dX12_labelProgram_50 fr_X12_79 rfl rfl ?_
      refine sw_iload_n dX12_labelProgram_53 rfl ?_
      refine sw_aload_n dX12_labelProgram_54 rfl (by first | rfl | assumption) ?_
      refine sw_get dX12_labelProgram_55 fr_X12_142 rfl rfl ?_
      refine m_iast (i) dX12_labelProgram_58 ⟨by decide, by decide, rfl⟩ rfl (show i < 160 by omega) rfl ?_
      first | refine sw_inc1 [(0, _), (1, _)] dX12_labelProgram_59 rfl (by decide) rfl ?_ | refine sw_iinc [(0, _), (1, _)] dX12_labelProgram_59 rfl (by decide) rfl ?_
      refine sw_goto 41 dX12_labelProgram_62 (by decide) ?_
      refine m_eq (s' := lbS s (lIn2 (s 4) L (i + 1))) rfl ?_ (ih (i + 1) (by omega) (by omega))
      rw [lb_U]
      exact congrArg (lbA A) (Prod.ext rfl (Prod.ext rfl (Prod.ext (fill_1 (h := fun _ => s 4) rfl) rfl)))
set_option maxRecDepth 100000 in
theorem l_X12_lp4 {l : Launch} {D : va_G} {cy : Nat → ClassId} {d n : Nat} {f : sw_F} {s : Nat → Int32} {A : Nat → Nat → Int32} {L : LB} {r : Int32} {Q : sw_Q} {QX : sw_QX} (K : SW l D cy mX12_labelProgram d 0 0 0 0 117 [(0, .ref 150), (1, .int r)] [] n (md f (lbS s (lEn A L 8)) (lbA A (lEn A L 8))) Q QX) : ∀ (k i : Nat), i ≤ 8 → 8 < i + k → SW l D cy mX12_labelProgram d 0 0 0 0 93 [(0, .ref 150), (1, .int r), (2, .int (nI i))] [] n (md f (lbS s (lEn A L i)) (lbA A (lEn A L i))) Q QX := by
  intro k
  induction k with
  | zero => intro i0 h1 h2; exact absurd h2 (by omega)
  | succ k ih =>
    intro i hi hk
    refine sw_iload_n dX12_labelProgram_93 rfl ?_
    refine sw_bipush (x := 8) dX12_labelProgram_94 (by decide) ?_
    refine sw_icmp_ge 117 dX12_labelProgram_96 (by decide) (fun h96 => ?_) (fun h96 => ?_)
    · refine sw_keep [0, 1] rfl ?_
      rw [show i = 8 from Nat.le_antisymm hi ((nI_leI (by omega) (by omega)).mp (by rw [← nl_8]; exact h96))]
      exact K
    · have e1 : i < 8 := (nI_ltI (by omega) (by omega)).mp (by rw [← nl_8]; exact i32_nle.mp h96)
      refine sw_aload_n dX12_labelProgram_99 rfl (by first | rfl | assumption) ?_
      refine sw_get dX12_labelProgram_100 fr_X12_82 rfl rfl ?_
      refine sw_iload_n dX12_labelProgram_103 rfl ?_
      refine sw_aload_n dX12_labelProgram_104 rfl (by first | rfl | assumption) ?_
      refine sw_get dX12_labelProgram_105 fr_X12_21 rfl rfl ?_
      refine sw_iload_n dX12_labelProgram_108 rfl ?_
      refine sw_ialdN (i) dX12_labelProgram_109 rfl rfl (show i < 8 by omega) (by decide) ?_
      refine m_iast (i) dX12_labelProgram_110 ⟨by decide, by decide, rfl⟩ rfl (show i < 8 by omega) rfl ?_
      first | refine sw_inc1 [(0, _), (1, _), (2, _)] dX12_labelProgram_111 rfl (by decide) rfl ?_ | refine sw_iinc [(0, _), (1, _), (2, _)] dX12_labelProgram_111 rfl (by decide) rfl ?_
      refine sw_goto 93 dX12_labelProgram_114 (by decide) ?_
      refine m_eq (s' := lbS s (lEn A L (i + 1))) rfl ?_ (ih (i + 1) (by omega) (by omega))
      rw [lb_W]
      exact congrArg (lbA A) (Prod.ext rfl (Prod.ext rfl (Prod.ext rfl (Prod.ext (fill_1 (h := A 153) rfl) rfl))))
set_option maxRecDepth 100000 in
theorem l_X12_lp5 {l : Launch} {D : va_G} {cy : Nat → ClassId} {d n : Nat} {f : sw_F} {s : Nat → Int32} {A : Nat → Nat → Int32} (hd : 4 ≤ d) {N P : Nat} (hPs : s 15 = nI P) (hP : P ≤ 160) {ch : Nat → List (Nat × Nat × Nat)} (hN : N ≤ 6) (hJ : JOK N A) (hb : lv N (s 4)) (hR : RS A P ch) (he : ∀ v, v < 8 → lv N (A 153 v)) (hP1 : 0 < P) {r : Int32} {Q : sw_Q} {QX : sw_QX} : ∀ (k i : Nat) (L : LB), i ≤ P → P < i + k → LOK N P L → SW l D cy mX12_labelProgram d 0 0 0 0 158 [(0, .ref 150), (1, .int r)] [] n (md f (lbS s (lRs A (s 4) ch i (P - i) L)) (lbA A (lRs A (s 4) ch i (P - i) L))) Q QX → SW l D cy mX12_labelProgram d 0 0 0 0 128 [(0, .ref 150), (1, .int r), (2, .int (nI i))] [] n (md f (lbS s L) (lbA A L)) Q QX := by
  intro k
  induction k with
  | zero => intro i0 z0 h1 h2; exact absurd h2 (by omega)
  | succ k ih =>
    intro i L hi hk hL K
    refine sw_iload_n dX12_labelProgram_128 rfl ?_
    refine sw_aload_n dX12_labelProgram_129 rfl (by first | rfl | assumption) ?_
    refine sw_get dX12_labelProgram_130 fr_X12_171 rfl rfl ?_
    refine sw_top hPs ?_
    refine sw_icmp_ge 158 dX12_labelProgram_133 (by decide) (fun h133 => ?_) (fun h133 => ?_)
    · refine sw_keep [0, 1] rfl ?_
      rw [show P - i = 0 by have := (nI_leI (by omega) (by omega)).mp h133; omega] at K
      exact K
    · have e1 : i < P := (nI_ltI (by omega) (by omega)).mp (i32_nle.mp h133)
      rw [show P - i = (P - (i + 1)) + 1 by omega, lRs] at K
      refine sw_aload_n dX12_labelProgram_136 rfl (by first | rfl | assumption) ?_
      refine sw_get dX12_labelProgram_137 fr_X12_43 rfl rfl ?_
      refine sw_iload_n dX12_labelProgram_140 rfl ?_
      refine sw_ialdN (i) dX12_labelProgram_141 rfl rfl (show i < 160 by omega) (by decide) ?_
      refine sw_top (y := A 159 i) rfl ?_
      refine sw_bipush (x := 6) dX12_labelProgram_142 (by decide) ?_
      refine sw_icmp_ne 152 dX12_labelProgram_144 (by decide) (fun h144 => ?_) (fun h144 => ?_)
      · first | refine sw_inc1 [(0, _), (1, _), (2, _)] dX12_labelProgram_152 rfl (by decide) rfl ?_ | refine sw_iinc [(0, _), (1, _), (2, _)] dX12_labelProgram_152 rfl (by decide) rfl ?_
        refine sw_goto 128 dX12_labelProgram_155 (by decide) ?_
        first | exact ih (i + 1) _ (by omega) (by omega) (lRO_ok hP hN hJ e1 hb (hR i e1 h144) hL) (by rw [if_pos h144] at K; exact K) | exact ih (i + 1) _ (by omega) (by omega) hL (by rw [if_neg h144] at K; exact K)
      · refine sw_aload_n dX12_labelProgram_147 rfl (by first | rfl | assumption) ?_
        refine sw_iload_n dX12_labelProgram_148 rfl ?_
        refine sw_Vn dX12_labelProgram_149 k_X12_232 mf_X12_row (c_X12_row (d := d - 1) (by omega) hN hJ hP e1 hb (hR i e1 h144) hL) rfl ⟨_, rfl, rfl⟩ (by omega) (by omega) (by omega) rfl rfl (Nat.le_of_ble_eq_true rfl) ?_
        first | refine sw_inc1 [(0, _), (1, _), (2, _)] dX12_labelProgram_152 rfl (by decide) rfl ?_ | refine sw_iinc [(0, _), (1, _), (2, _)] dX12_labelProgram_152 rfl (by decide) rfl ?_
        refine sw_goto 128 dX12_labelProgram_155 (by decide) ?_
        first | exact ih (i + 1) _ (by omega) (by omega) (lRO_ok hP hN hJ e1 hb (hR i e1 h144) hL) (by rw [if_pos h144] at K; exact K) | exact ih (i + 1) _ (by omega) (by omega) hL (by rw [if_neg h144] at K; exact K)
set_option maxRecDepth 100000 in
theorem l_X12_lp3 {l : Launch} {D : va_G} {cy : Nat → ClassId} {d n : Nat} {f : sw_F} {s : Nat → Int32} {A : Nat → Nat → Int32} (hd : 4 ≤ d) {N P : Nat} (hPs : s 15 = nI P) (hP : P ≤ 160) {ch : Nat → List (Nat × Nat × Nat)} (hN : N ≤ 6) (hJ : JOK N A) (hb : lv N (s 4)) (hR : RS A P ch) (he : ∀ v, v < 8 → lv N (A 153 v)) (hP1 : 0 < P) {QX : sw_QX} : ∀ (k i : Nat) (L : LB), i ≤ 10000 → i + k = 10000 → LK3 N P L → SW l D cy mX12_labelProgram d 0 0 0 0 72 [(0, .ref 150), (1, .int (nI i))] [] n (md f (lbS s L) (lbA A L)) (sw_D none n (md f (lbS s (lLp A (s 4) ch P k L)) (lbA A (lLp A (s 4) ch P k L)))) QX := by
  intro k
  induction k with
  | zero =>
    intro i L hi hk hL
    refine sw_iload_n dX12_labelProgram_72 rfl ?_
    refine sw_sipush (x := 10000) dX12_labelProgram_73 (by decide) ?_
    refine sw_icmp_ge 164 dX12_labelProgram_76 (by decide) (fun h76 => ?_) (fun h76 => ?_)
    · exact sw_vret dX12_labelProgram_164 rfl (by omega) (by omega) ⟨rfl, rfl, rfl⟩
    · exact absurd (show (10000 : Int32) ≤ nI i by rw [show i = 10000 by omega]; decide) h76
  | succ k ih =>
    intro i L hi hk hL
    refine sw_iload_n dX12_labelProgram_72 rfl ?_
    refine sw_sipush (x := 10000) dX12_labelProgram_73 (by decide) ?_
    refine sw_icmp_ge 164 dX12_labelProgram_76 (by decide) (fun h76 => ?_) (fun h76 => ?_)
    · first | exact absurd ((nI_leI (a := 10000) (b := i) (by omega) (by omega)).mp (by rw [← nl_10000]; exact h76)) (by omega) | (rw [lLp, if_neg (by rw [bz_0.mp h83]; decide)]; exact sw_vret dX12_labelProgram_164 rfl (by omega) (by omega) ⟨rfl, rfl, rfl⟩)
    · refine sw_aload_n dX12_labelProgram_79 rfl (by first | rfl | assumption) ?_
      refine sw_get dX12_labelProgram_80 fr_X12_207 rfl rfl ?_
      refine sw_top (y := bz L.2.2.2.2) rfl ?_
      refine sw_if_eq 164 dX12_labelProgram_83 (by decide) (fun h83 => ?_) (fun h83 => ?_)
      · first | exact absurd ((nI_leI (a := 10000) (b := i) (by omega) (by omega)).mp (by rw [← nl_10000]; exact h76)) (by omega) | (rw [lLp, if_neg (by rw [bz_0.mp h83]; decide)]; exact sw_vret dX12_labelProgram_164 rfl (by omega) (by omega) ⟨rfl, rfl, rfl⟩)
      · have e2 := bz_ne.mp h83
        rw [lLp, if_pos e2]
        refine sw_aload_n dX12_labelProgram_86 rfl (by first | rfl | assumption) ?_
        refine sw_iconst (x := 0) dX12_labelProgram_87 (by decide) ?_
        refine m_put dX12_labelProgram_88 fl_X12_207 (by decide) (by first | exact sw_fit_z0 | exact sw_fit_z1 | exact sw_fit_z _) rfl ?_
        refine sw_iconst (x := 0) dX12_labelProgram_91 (by decide) ?_
        refine sw_istore_n [(0, _), (1, _), (2, _)] dX12_labelProgram_92 (by decide) rfl ?_
        refine m_eq (s' := lbS s (lEn A (lMo L false) 0)) (A' := lbA A (lEn A (lMo L false) 0)) (lb_M s L false) (by rw [lEn, lMo, fill_0]; rfl) ?_
        refine l_X12_lp4 ?_ 9 0 (by omega) (by omega)
        refine sw_aload_n dX12_labelProgram_117 rfl (by first | rfl | assumption) ?_
        refine sw_iconst (x := 0) dX12_labelProgram_118 (by decide) ?_
        refine sw_aload_n dX12_labelProgram_119 rfl (by first | rfl | assumption) ?_
        refine sw_get dX12_labelProgram_120 fr_X12_142 rfl rfl ?_
        refine sw_Vn dX12_labelProgram_123 k_X12_222 mf_X12_setIn (q_setIn (d := d - 1) (m := 0) (by omega) (s 4)) rfl ⟨_, rfl, rfl⟩ (by omega) (by omega) (by omega) rfl rfl (Nat.le_of_ble_eq_true rfl) ?_
        refine sw_iconst (x := 0) dX12_labelProgram_126 (by decide) ?_
        refine sw_istore_n [(0, _), (1, _), (2, _)] dX12_labelProgram_127 (by decide) rfl ?_
        refine l_X12_lp5 hd hPs hP hN hJ hb hR he hP1 (P + 1) 0 _ (by omega) (by omega) (lRd_pre hb he hL) ?_
        first | refine sw_inc1 [(0, _), (1, _)] dX12_labelProgram_158 rfl (by decide) rfl ?_ | refine sw_iinc [(0, _), (1, _)] dX12_labelProgram_158 rfl (by decide) rfl ?_
        refine sw_goto 72 dX12_labelProgram_161 (by decide) ?_
        have k9 := lRd_ok hP hN hJ hb hR he hL
        exact ih (i + 1) _ (by omega) (by omega) ⟨k9.1, k9.2.1, k9.2.2.1⟩
def lPG (A : Nat → Nat → Int32) (x0 : Int32) (ch : Nat → List (Nat × Nat × Nat)) (P : Nat) (L : LB) : LB := lLp A x0 ch P 10000 (lMo (lIn2 x0 (lIn1 x0 L (8 * P)) P) true)
set_option maxRecDepth 100000 in
theorem c_X12_labelProgram {l : Launch} {D : va_G} {cy : Nat → ClassId} {d n : Nat} {f : sw_F} {s : Nat → Int32} {A : Nat → Nat → Int32} (hd : 4 ≤ d) {N P : Nat} (hPs : s 15 = nI P) (hP : P ≤ 160) {ch : Nat → List (Nat × Nat × Nat)} (hN : N ≤ 6) (hJ : JOK N A) (hb : lv N (s 4)) (hR : RS A P ch) (he : ∀ v, v < 8 → lv N (A 153 v)) (hP1 : 0 < P) {L : LB} : sw_Ct l D cy mX12_labelProgram d 0 0 [.ref 150] n (md f (lbS s L) (lbA A L)) (sw_D none n (md f (lbS s (lPG A (s 4) ch P L)) (lbA A (lPG A (s 4) ch P L)))) := by
  refine sw_of rfl (Nat.le_of_ble_eq_true rfl) ?_
  show SW l D cy mX12_labelProgram d 0 0 0 0 0 [(0, .ref 150)] [] n (md f (lbS s L) (lbA A L)) _ _
  refine sw_iconst (x := 0) dX12_labelProgram_0 (by decide) ?_
  refine sw_istore_n [(0, _), (1, _)] dX12_labelProgram_1 (by decide) rfl ?_
  refine m_eq (s' := lbS s (lIn1 (s 4) L 0)) (A' := lbA A (lIn1 (s 4) L 0)) rfl (by rw [lIn1, fill_0, fill_0]) ?_
  refine l_X12_lp1 hPs hP ?_ (8 * P + 1) 0 (by omega) (by omega)
  refine sw_iconst (x := 0) dX12_labelProgram_39 (by decide) ?_
  refine sw_istore_n [(0, _), (1, _)] dX12_labelProgram_40 (by decide) rfl ?_
  refine m_eq (s' := lbS s (lIn2 (s 4) (lIn1 (s 4) L (8 * P)) 0)) (A' := lbA A (lIn2 (s 4) (lIn1 (s 4) L (8 * P)) 0)) rfl (by rw [lIn2, fill_0]) ?_
  refine l_X12_lp2 hPs hP ?_ (P + 1) 0 (by omega) (by omega)
  refine sw_aload_n dX12_labelProgram_65 rfl (by first | rfl | assumption) ?_
  refine sw_iconst (x := 1) dX12_labelProgram_66 (by decide) ?_
  refine m_put dX12_labelProgram_67 fl_X12_207 (by decide) (by first | exact sw_fit_z0 | exact sw_fit_z1 | exact sw_fit_z _) rfl ?_
  refine sw_iconst (x := 0) dX12_labelProgram_70 (by decide) ?_
  refine sw_istore_n [(0, _), (1, _)] dX12_labelProgram_71 (by decide) rfl ?_
  rw [show va_up (lbS s (lIn2 (s 4) (lIn1 (s 4) L (8 * P)) P)) 30 1 = lbS s (lMo (lIn2 (s 4) (lIn1 (s 4) L (8 * P)) P) true) from lb_M s _ true]
  exact l_X12_lp3 (L := lMo (lIn2 (s 4) (lIn1 (s 4) L (8 * P)) P) true) hd hPs hP hN hJ hb hR he hP1 10000 0 (by omega) (by omega) ⟨fun j hj => (by show lv N (fillF (fun _ => s 4) L.1 (8 * P) j); rw [fill_lt hj]; exact hb), fun j hj => (by show lv N (fillF (fun _ => s 4) L.2.1 (8 * P) j); rw [fill_lt hj]; exact hb), fun j hj => (by show lv N (fillF (fun _ => s 4) L.2.2.1 P j); rw [fill_lt hj]; exact hb)⟩
