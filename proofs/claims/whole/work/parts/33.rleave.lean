/-! ===== THE REFERENCE: leave ===== -/
def lcm (A : Nat → Nat → Int32) (L : CL) (i : Nat) (x : Int32) : CL := (upd L.1 i (jI A (L.1 i) x), L.2.1, L.2.2 || decide (¬ jI A (L.1 i) x = L.1 i))
theorem lcm_ok {N C i : Nat} {A : Nat → Nat → Int32} {L : CL} {x : Int32} (hN : N ≤ 6) (hJ : JOK N A) (hL : COK N C L) (hi : i < 16 * C) (hx : lv N x) : COK N C (lcm A L i x) := ⟨fun j hj => by
  show lv N (upd _ _ _ _)
  unfold upd
  split
  · exact jI_lv hN hJ (hL.1 i hi) hx
  · exact hL.1 j hj, hL.2⟩
theorem q_come {l : Launch} {D : va_G} {cy : Nat → ClassId} {d n : Nat} {f : sw_F} {s : Nat → Int32} {A : Nat → Nat → Int32} {L : CL} {N i : Nat} {x : Int32} (hd : 1 ≤ d) (hN : N ≤ 6) (hi : i < 1600) (hl : lv N (L.1 i)) (hx : lv N x) : sw_Ct l D cy mX12_come d 0 0 [.ref 150, .int (nI i), .int x] n (md f (clS s L) (clA A L)) (sw_D none n (md f (clS s (lcm A L i x)) (clA A (lcm A L i x)))) := by
  obtain ⟨a, ha, hae⟩ := hl
  obtain ⟨b, hb, rfl⟩ := hx
  have h := c_X12_come (l := l) (D := D) (cy := cy) (d := d) (n := n) (f := f) (s := clS s L) (A := clA A L) hd hi (show a < 6 by omega) (show b < 6 by omega) hae
  have e1 : jI A (L.1 i) (nI b) = clA A L 152 (6 * a + b) := by
    show A 152 _ = A 152 _
    rw [hae, nI_clamp (by omega), nI_clamp (by omega)]
  have e2 : r_cmS (clS s L) (clA A L) a b = clS s (lcm A L i (nI b)) := by
    unfold r_cmS lcm
    rw [e1, hae]
    show va_up (va_up s 30 (bz L.2.2)) 30 _ = va_up s 30 (bz (L.2.2 || decide _))
    rw [vu_up]
    show va_up s 30 (if ¬ bz L.2.2 = 0 ∨ ¬ clA A L 152 (6 * a + b) = nI a then 1 else 0) = _
    cases L.2.2 with
    | true => simp [bz]
    | false => simp [bz]
  have e3 : va_up (clA A L) 183 (upd (clA A L 183) i (clA A L 152 (6 * a + b))) = clA A (lcm A L i (nI b)) := by
    rw [cl_l]
    unfold lcm
    rw [e1]
    rfl
  rw [e2, e3] at h
  exact h
/-- the join of x and the labels from place 16 k + 8 + j on, c of them -/
def lvj (A : Nat → Nat → Int32) (lab : Nat → Int32) (k : Nat) : Nat → Nat → Int32 → Int32
  | _, 0, x => x
  | j, c + 1, x => lvj A lab k (j + 1) c (jI A x (lab (16 * k + 8 + j)))
theorem lvj_lv {N C : Nat} {A : Nat → Nat → Int32} {lab : Nat → Int32} {k : Nat} (hN : N ≤ 6) (hJ : JOK N A) (hk : k < C) (hl : ∀ i, i < 16 * C → lv N (lab i)) : ∀ (c j : Nat) (x : Int32), j + c ≤ 8 → lv N x → lv N (lvj A lab k j c x)
  | 0, _, _, _, hx => hx
  | c + 1, j, x, hc, hx => lvj_lv hN hJ hk hl c (j + 1) _ (by omega) (jI_lv hN hJ hx (hl _ (by omega)))
def lv0 (A : Nat → Nat → Int32) (L : CL) (k : Nat) : Int32 := if A 176 k = 1 then jI A (L.2.1 k) (L.1 (16 * k + (A 177 k).toNatClampNeg)) else L.2.1 k
def lVs (A : Nat → Nat → Int32) (k t : Nat) (x : Int32) : Nat → Nat → CL → CL
  | _, 0, L => L
  | v, c + 1, L => lVs A k t x (v + 1) c (lcm A L (16 * t + v) (if A 176 k = 2 ∧ A 177 k = nI v then x else L.1 (16 * k + v)))
theorem lVs_ok {N C k t : Nat} {A : Nat → Nat → Int32} {x : Int32} (hN : N ≤ 6) (hJ : JOK N A) (hk : k < C) (ht : t < C) (hx : lv N x) : ∀ (c v : Nat) (L : CL), v + c ≤ 8 → COK N C L → COK N C (lVs A k t x v c L)
  | 0, _, _, _, hL => hL
  | c + 1, v, L, hc, hL => by
    rw [lVs]
    refine lVs_ok hN hJ hk ht hx c (v + 1) _ (by omega) (lcm_ok hN hJ hL (by omega) ?_)
    split
    · exact hx
    · exact hL.1 _ (by omega)
def lSs (A : Nat → Nat → Int32) (k t : Nat) : Nat → Nat → CL → CL
  | _, 0, L => L
  | j, c + 1, L => lSs A k t (j + 1) c (lcm A L (16 * t + 8 + j) (L.1 (16 * k + 8 + j)))
theorem lSs_ok {N C k t : Nat} {A : Nat → Nat → Int32} (hN : N ≤ 6) (hJ : JOK N A) (hk : k < C) (ht : t < C) : ∀ (c j : Nat) (L : CL), j + c ≤ 8 → COK N C L → COK N C (lSs A k t j c L)
  | 0, _, _, _, hL => hL
  | c + 1, j, L, hc, hL => by
    rw [lSs]
    exact lSs_ok hN hJ hk ht c (j + 1) _ (by omega) (lcm_ok hN hJ hL (by omega) (hL.1 _ (by omega)))
def lGs (A : Nat → Nat → Int32) (k t q : Nat) (x : Int32) (L : CL) : CL := if r_gb (A 176 k) = 1 then lcm A L (16 * t + 8 + q) x else L
def lTo (A : Nat → Nat → Int32) (k t q : Nat) (x : Int32) (L : CL) : CL := lGs A k t q x (lSs A k t 0 q (lVs A k t x 0 8 L))
def lWy (A : Nat → Nat → Int32) (k q w : Nat) (x : Int32) (L : CL) : CL := if r_nx A k (nI w) < 0 then L else lTo A k (r_nx A k (nI w)).toNatClampNeg q x L
/-- instruction k, reached with h on the stack, leaves q of them and goes on to places of the code -/
def KO (A : Nat → Nat → Int32) (C k h q : Nat) : Prop := k < C ∧ A 178 k = nI h ∧ h ≤ 8 ∧ q ≤ h ∧ nI h - r_tb (A 176 k) = nI q ∧ (r_gb (A 176 k) = 1 → q < 8) ∧ (A 176 k = 1 → ∃ v, v < 8 ∧ A 177 k = nI v) ∧ ∀ w, w < 2 → r_nx A k (nI w) < 0 ∨ ∃ t, t < C ∧ r_nx A k (nI w) = nI t
theorem lTo_ok {N C k t q h : Nat} {A : Nat → Nat → Int32} {x : Int32} {L : CL} (hN : N ≤ 6) (hJ : JOK N A) (hK : KO A C k h q) (ht : t < C) (hx : lv N x) (hL : COK N C L) : COK N C (lTo A k t q x L) := by
  have h1 := lSs_ok hN hJ hK.1 ht q 0 _ (by have := hK.2.2.1; have := hK.2.2.2.1; omega) (lVs_ok hN hJ hK.1 ht hx 8 0 L (by omega) hL)
  unfold lTo lGs
  split
  · rename_i hg
    have := hK.2.2.2.2.2.1 hg
    exact lcm_ok hN hJ h1 (by omega) hx
  · exact h1
theorem lWy_ok {N C k q h w : Nat} {A : Nat → Nat → Int32} {x : Int32} {L : CL} (hCb : C ≤ 100) (hN : N ≤ 6) (hJ : JOK N A) (hK : KO A C k h q) (hw : w < 2) (hx : lv N x) (hL : COK N C L) : COK N C (lWy A k q w x L) := by
  unfold lWy
  rcases hK.2.2.2.2.2.2.2 w hw with h1 | ⟨t, ht, he⟩
  · rw [if_pos h1]; exact hL
  · split
    · exact hL
    · rw [he, nI_clamp (by omega)]; exact lTo_ok hN hJ hK ht hx hL
def lLx (A : Nat → Nat → Int32) (L : CL) (k h q : Nat) : Int32 := lvj A L.1 k q (h - q) (lv0 A L k)
def lLv (A : Nat → Nat → Int32) (L : CL) (k h q : Nat) : CL := lWy A k q 1 (lLx A L k h q) (lWy A k q 0 (lLx A L k h q) L)
theorem lv0_lv {N C k h q : Nat} {A : Nat → Nat → Int32} {L : CL} (hN : N ≤ 6) (hJ : JOK N A) (hK : KO A C k h q) (hL : COK N C L) : lv N (lv0 A L k) := by
  unfold lv0
  split
  · rename_i h1
    obtain ⟨v, hv, he⟩ := hK.2.2.2.2.2.2.1 h1
    rw [he, nI_clamp (by omega)]
    have := hK.1
    exact jI_lv hN hJ (hL.2 k hK.1) (hL.1 _ (by omega))
  · exact hL.2 k hK.1
theorem lLx_lv {N C k h q : Nat} {A : Nat → Nat → Int32} {L : CL} (hN : N ≤ 6) (hJ : JOK N A) (hK : KO A C k h q) (hL : COK N C L) : lv N (lLx A L k h q) := lvj_lv hN hJ hK.1 hL.1 _ _ _ (by have := hK.2.2.1; have := hK.2.2.2.1; omega) (lv0_lv hN hJ hK hL)
theorem lLv_ok {N C k h q : Nat} {A : Nat → Nat → Int32} {L : CL} (hCb : C ≤ 100) (hN : N ≤ 6) (hJ : JOK N A) (hK : KO A C k h q) (hL : COK N C L) : COK N C (lLv A L k h q) := lWy_ok hCb hN hJ hK (by omega) (lLx_lv hN hJ hK hL) (lWy_ok hCb hN hJ hK (by omega) (lLx_lv hN hJ hK hL) hL)
set_option maxRecDepth 100000 in
theorem l_X12_le1 {l : Launch} {D : va_G} {cy : Nat → ClassId} {d n : Nat} {f : sw_F} {s : Nat → Int32} {A : Nat → Nat → Int32} (hd : 1 ≤ d) {N C k h q : Nat} (hCb : C ≤ 100) (hN : N ≤ 6) (hJ : JOK N A) (hK : KO A C k h q) {L : CL} (hL : COK N C L) {Q : sw_Q} {QX : sw_QX} : ∀ (c j : Nat) (x : Int32), j ≤ h → h < j + c → lv N x → SW l D cy mX12_leave d 0 0 0 0 103 [(0, .ref 150), (1, .int (nI k)), (2, .int (A 176 k)), (3, .int (nI h)), (4, .int (nI q)), (5, .int (lvj A L.1 k j (h - j) x))] [] n (md f (clS s L) (clA A L)) Q QX → SW l D cy mX12_leave d 0 0 0 0 68 [(0, .ref 150), (1, .int (nI k)), (2, .int (A 176 k)), (3, .int (nI h)), (4, .int (nI q)), (5, .int (x)), (6, .int (nI (j)))] [] n (md f (clS s L) (clA A L)) Q QX := by
  intro c
  induction c with
  | zero => intro j0 x0 h1 h2; exact absurd h2 (by omega)
  | succ c ih =>
    intro j x hj hc hx K
    have k1 := hK.1
    have k3 := hK.2.2.1
    refine sw_iload dX12_leave_68 rfl ?_
    refine sw_iload_n dX12_leave_70 rfl ?_
    refine sw_icmp_ge 103 dX12_leave_71 (by decide) (fun h71 => ?_) (fun h71 => ?_)
    · refine sw_keep [0, 1, 2, 3, 4, 5] rfl ?_
      rw [show h - j = 0 by have := (nI_leI (by omega) (by omega)).mp h71; omega] at K
      exact K
    · have e1 : j < h := (nI_ltI (by omega) (by omega)).mp (i32_nle.mp h71)
      rw [show h - j = (h - (j + 1)) + 1 by omega, lvj] at K
      have e2 := hL.1 (16 * k + 8 + j) (by omega)
      refine sw_aload_n dX12_leave_74 rfl (by first | rfl | assumption) ?_
      refine sw_iload dX12_leave_75 rfl ?_
      refine sw_aload_n dX12_leave_77 rfl (by first | rfl | assumption) ?_
      refine sw_get dX12_leave_78 fr_X12_115 rfl rfl ?_
      refine sw_bipush (x := 16) dX12_leave_81 (by decide) ?_
      refine sw_iload_n dX12_leave_83 rfl ?_
      refine sw_imul dX12_leave_84 ?_
      refine sw_bipush (x := 8) dX12_leave_85 (by decide) ?_
      refine sw_iadd dX12_leave_87 ?_
      refine sw_iload dX12_leave_88 rfl ?_
      refine sw_iadd dX12_leave_90 ?_
      refine sw_ialdN (16 * k + 8 + j) dX12_leave_91 rfl (by rw [nl_16, pk_mul, nl_8, nI_add, nI_add]) (show 16 * k + 8 + j < 1600 by omega) (by decide) ?_
      refine sw_top (y := L.1 (16 * k + 8 + j)) rfl ?_
      refine sw_Vv dX12_leave_92 k_X12_148 mf_X12_joined (q_joinedC (d := d - 1) hN hx e2) rfl ⟨_, rfl, rfl⟩ (by omega) (by omega) (by omega) rfl rfl (Nat.le_of_ble_eq_true rfl) ?_
      refine sw_istore [(0, _), (1, _), (2, _), (3, _), (4, _), (5, _), (6, _)] dX12_leave_95 (by decide) rfl ?_
      first | refine sw_inc1 [(0, _), (1, _), (2, _), (3, _), (4, _), (5, _), (6, _)] dX12_leave_97 rfl (by decide) rfl ?_ | refine sw_iinc [(0, _), (1, _), (2, _), (3, _), (4, _), (5, _), (6, _)] dX12_leave_97 rfl (by decide) rfl ?_
      refine sw_goto 68 dX12_leave_100 (by decide) ?_
      exact ih (j + 1) _ (by omega) (by omega) (jI_lv hN hJ hx e2) K
set_option maxRecDepth 100000 in
theorem l_X12_le2 {l : Launch} {D : va_G} {cy : Nat → ClassId} {d n : Nat} {f : sw_F} {s : Nat → Int32} {A : Nat → Nat → Int32} (hd : 2 ≤ d) {N C k h q : Nat} (hCb : C ≤ 100) (hN : N ≤ 6) (hJ : JOK N A) (hK : KO A C k h q) {x : Int32} (hx : lv N x) {w t : Nat} (ht : t < C) {Q : sw_Q} {QX : sw_QX} : ∀ (c v : Nat) (L : CL), v ≤ 8 → 8 < v + c → COK N C L → SW l D cy mX12_leave d 0 0 0 0 187 [(0, .ref 150), (1, .int (nI k)), (2, .int (A 176 k)), (3, .int (nI h)), (4, .int (nI q)), (5, .int (x)), (6, .int (nI w)), (7, .int (nI t))] [] n (md f (clS s (lVs A k t x v (8 - v) L)) (clA A (lVs A k t x v (8 - v) L))) Q QX → SW l D cy mX12_leave d 0 0 0 0 129 [(0, .ref 150), (1, .int (nI k)), (2, .int (A 176 k)), (3, .int (nI h)), (4, .int (nI q)), (5, .int (x)), (6, .int (nI w)), (7, .int (nI t)), (8, .int (nI v))] [] n (md f (clS s L) (clA A L)) Q QX := by
  intro c
  induction c with
  | zero => intro v0 L0 h1 h2; exact absurd h2 (by omega)
  | succ c ih =>
    intro v L hv hc hL K
    have k1 := hK.1
    refine sw_iload dX12_leave_129 rfl ?_
    refine sw_bipush (x := 8) dX12_leave_131 (by decide) ?_
    refine sw_top nl_8 ?_
    refine sw_icmp_ge 187 dX12_leave_133 (by decide) (fun h133 => ?_) (fun h133 => ?_)
    · refine sw_keep [0, 1, 2, 3, 4, 5, 6, 7] rfl ?_
      rw [show 8 - v = 0 by have := (nI_leI (by omega) (by omega)).mp h133; omega] at K
      exact K
    · have e1 : v < 8 := (nI_ltI (by omega) (by omega)).mp (i32_nle.mp h133)
      rw [show 8 - v = (8 - (v + 1)) + 1 by omega, lVs] at K
      have e4 : lv N (if A 176 k = 2 ∧ A 177 k = nI v then x else L.1 (16 * k + v)) := by
        split
        · exact hx
        · exact hL.1 _ (by omega)
      have J : ∀ y : Int32, y = (if A 176 k = 2 ∧ A 177 k = nI v then x else L.1 (16 * k + v)) → SW l D cy mX12_leave d 0 0 0 0 178 [(0, .ref 150), (1, .int (nI k)), (2, .int (A 176 k)), (3, .int (nI h)), (4, .int (nI q)), (5, .int (x)), (6, .int (nI w)), (7, .int (nI t)), (8, .int (nI v))] [.int y, .int (nI (16 * t + v)), .ref 150] n (md f (clS s L) (clA A L)) Q QX := by
        intro y hy
        subst hy
        refine sw_Vn dX12_leave_178 k_X12_279 mf_X12_come (q_come (d := d - 1) (by omega) hN (show 16 * t + v < 1600 by omega) (hL.1 _ (by omega)) e4) rfl ⟨_, rfl, rfl⟩ (by omega) (by omega) (by omega) rfl rfl (Nat.le_of_ble_eq_true rfl) ?_
        first | refine sw_inc1 [(0, _), (1, _), (2, _), (3, _), (4, _), (5, _), (6, _), (7, _), (8, _)] dX12_leave_181 rfl (by decide) rfl ?_ | refine sw_iinc [(0, _), (1, _), (2, _), (3, _), (4, _), (5, _), (6, _), (7, _), (8, _)] dX12_leave_181 rfl (by decide) rfl ?_
        refine sw_goto 129 dX12_leave_184 (by decide) ?_
        exact ih (v + 1) _ (by omega) (by omega) (lcm_ok hN hJ hL (by omega) e4) K
      refine sw_aload_n dX12_leave_136 rfl (by first | rfl | assumption) ?_
      refine sw_bipush (x := 16) dX12_leave_137 (by decide) ?_
      refine sw_iload dX12_leave_139 rfl ?_
      refine sw_imul dX12_leave_141 ?_
      refine sw_iload dX12_leave_142 rfl ?_
      refine sw_iadd dX12_leave_144 ?_
      refine sw_top (y := nI (16 * t + v)) (by rw [nl_16, pk_mul, nI_add]) ?_
      refine sw_iload_n dX12_leave_145 rfl ?_
      refine sw_iconst (x := 2) dX12_leave_146 (by decide) ?_
      refine sw_icmp_ne 166 dX12_leave_147 (by decide) (fun h147 => ?_) (fun h147 => ?_)
      · refine sw_aload_n dX12_leave_166 rfl (by first | rfl | assumption) ?_
        refine sw_get dX12_leave_167 fr_X12_115 rfl rfl ?_
        refine sw_bipush (x := 16) dX12_leave_170 (by decide) ?_
        refine sw_iload_n dX12_leave_172 rfl ?_
        refine sw_imul dX12_leave_173 ?_
        refine sw_iload dX12_leave_174 rfl ?_
        refine sw_iadd dX12_leave_176 ?_
        refine sw_ialdN (16 * k + v) dX12_leave_177 rfl (by rw [nl_16, pk_mul, nI_add]) (show 16 * k + v < 1600 by omega) (by decide) ?_
        exact J _ (by rw [if_neg (fun z => h147 z.1)]; rfl)
      · refine sw_aload_n dX12_leave_150 rfl (by first | rfl | assumption) ?_
        refine sw_get dX12_leave_151 fr_X12_97 rfl rfl ?_
        refine sw_iload_n dX12_leave_154 rfl ?_
        refine sw_ialdN (k) dX12_leave_155 rfl rfl (show k < 100 by omega) (by decide) ?_
        refine sw_top (y := A 177 k) rfl ?_
        refine sw_iload dX12_leave_156 rfl ?_
        refine sw_icmp_ne 166 dX12_leave_158 (by decide) (fun h158 => ?_) (fun h158 => ?_)
        · refine sw_aload_n dX12_leave_166 rfl (by first | rfl | assumption) ?_
          refine sw_get dX12_leave_167 fr_X12_115 rfl rfl ?_
          refine sw_bipush (x := 16) dX12_leave_170 (by decide) ?_
          refine sw_iload_n dX12_leave_172 rfl ?_
          refine sw_imul dX12_leave_173 ?_
          refine sw_iload dX12_leave_174 rfl ?_
          refine sw_iadd dX12_leave_176 ?_
          refine sw_ialdN (16 * k + v) dX12_leave_177 rfl (by rw [nl_16, pk_mul, nI_add]) (show 16 * k + v < 1600 by omega) (by decide) ?_
          exact J _ (by rw [if_neg (fun z => h158 z.2)]; rfl)
        · refine sw_iload dX12_leave_161 rfl ?_
          refine sw_goto 178 dX12_leave_163 (by decide) ?_
          exact J _ (by rw [if_pos ⟨h147, h158⟩])
set_option maxRecDepth 100000 in
theorem l_X12_le3 {l : Launch} {D : va_G} {cy : Nat → ClassId} {d n : Nat} {f : sw_F} {s : Nat → Int32} {A : Nat → Nat → Int32} (hd : 2 ≤ d) {N C k h q : Nat} (hCb : C ≤ 100) (hN : N ≤ 6) (hJ : JOK N A) (hK : KO A C k h q) {x : Int32} {w t : Nat} (ht : t < C) {Q : sw_Q} {QX : sw_QX} : ∀ (c j : Nat) (L : CL), j ≤ q → q < j + c → COK N C L → SW l D cy mX12_leave d 0 0 0 0 233 [(0, .ref 150), (1, .int (nI k)), (2, .int (A 176 k)), (3, .int (nI h)), (4, .int (nI q)), (5, .int (x)), (6, .int (nI w)), (7, .int (nI t))] [] n (md f (clS s (lSs A k t j (q - j) L)) (clA A (lSs A k t j (q - j) L))) Q QX → SW l D cy mX12_leave d 0 0 0 0 190 [(0, .ref 150), (1, .int (nI k)), (2, .int (A 176 k)), (3, .int (nI h)), (4, .int (nI q)), (5, .int (x)), (6, .int (nI w)), (7, .int (nI t)), (8, .int (nI j))] [] n (md f (clS s L) (clA A L)) Q QX := by
  intro c
  induction c with
  | zero => intro v0 L0 h1 h2; exact absurd h2 (by omega)
  | succ c ih =>
    intro j L hj hc hL K
    have k1 := hK.1
    have k3 := hK.2.2.1
    have k4 := hK.2.2.2.1
    refine sw_iload dX12_leave_190 rfl ?_
    refine sw_iload dX12_leave_192 rfl ?_
    refine sw_icmp_ge 233 dX12_leave_194 (by decide) (fun h194 => ?_) (fun h194 => ?_)
    · refine sw_keep [0, 1, 2, 3, 4, 5, 6, 7] rfl ?_
      rw [show q - j = 0 by have := (nI_leI (by omega) (by omega)).mp h194; omega] at K
      exact K
    · have e1 : j < q := (nI_ltI (by omega) (by omega)).mp (i32_nle.mp h194)
      rw [show q - j = (q - (j + 1)) + 1 by omega, lSs] at K
      refine sw_aload_n dX12_leave_197 rfl (by first | rfl | assumption) ?_
      refine sw_bipush (x := 16) dX12_leave_198 (by decide) ?_
      refine sw_iload dX12_leave_200 rfl ?_
      refine sw_imul dX12_leave_202 ?_
      refine sw_bipush (x := 8) dX12_leave_203 (by decide) ?_
      refine sw_iadd dX12_leave_205 ?_
      refine sw_iload dX12_leave_206 rfl ?_
      refine sw_iadd dX12_leave_208 ?_
      refine sw_top (y := nI (16 * t + 8 + j)) (by rw [nl_16, pk_mul, nl_8, nI_add, nI_add]) ?_
      refine sw_aload_n dX12_leave_209 rfl (by first | rfl | assumption) ?_
      refine sw_get dX12_leave_210 fr_X12_115 rfl rfl ?_
      refine sw_bipush (x := 16) dX12_leave_213 (by decide) ?_
      refine sw_iload_n dX12_leave_215 rfl ?_
      refine sw_imul dX12_leave_216 ?_
      refine sw_bipush (x := 8) dX12_leave_217 (by decide) ?_
      refine sw_iadd dX12_leave_219 ?_
      refine sw_iload dX12_leave_220 rfl ?_
      refine sw_iadd dX12_leave_222 ?_
      refine sw_ialdN (16 * k + 8 + j) dX12_leave_223 rfl (by rw [nl_16, pk_mul, nl_8, nI_add, nI_add]) (show 16 * k + 8 + j < 1600 by omega) (by decide) ?_
      refine sw_top (y := L.1 (16 * k + 8 + j)) rfl ?_
      refine sw_Vn dX12_leave_224 k_X12_279 mf_X12_come (q_come (d := d - 1) (by omega) hN (show 16 * t + 8 + j < 1600 by omega) (hL.1 _ (by omega)) (hL.1 _ (by omega))) rfl ⟨_, rfl, rfl⟩ (by omega) (by omega) (by omega) rfl rfl (Nat.le_of_ble_eq_true rfl) ?_
      first | refine sw_inc1 [(0, _), (1, _), (2, _), (3, _), (4, _), (5, _), (6, _), (7, _), (8, _)] dX12_leave_227 rfl (by decide) rfl ?_ | refine sw_iinc [(0, _), (1, _), (2, _), (3, _), (4, _), (5, _), (6, _), (7, _), (8, _)] dX12_leave_227 rfl (by decide) rfl ?_
      refine sw_goto 190 dX12_leave_230 (by decide) ?_
      exact ih (j + 1) _ (by omega) (by omega) (lcm_ok hN hJ hL (by omega) (hL.1 _ (by omega))) K
set_option maxRecDepth 100000 in
theorem l_X12_le4 {l : Launch} {D : va_G} {cy : Nat → ClassId} {d n : Nat} {f : sw_F} {s : Nat → Int32} {A : Nat → Nat → Int32} (hd : 2 ≤ d) {N C k h q : Nat} (hCb : C ≤ 100) (hN : N ≤ 6) (hJ : JOK N A) (hK : KO A C k h q) {x : Int32} (hx : lv N x) {w : Nat} (hw : w < 2) {L : CL} (hL : COK N C L) {Q : sw_Q} {QX : sw_QX} (K : SW l D cy mX12_leave d 0 0 0 0 106 [(0, .ref 150), (1, .int (nI k)), (2, .int (A 176 k)), (3, .int (nI h)), (4, .int (nI q)), (5, .int (x)), (6, .int (nI (w + 1)))] [] n (md f (clS s (lWy A k q w x L)) (clA A (lWy A k q w x L))) Q QX) : SW l D cy mX12_leave d 0 0 0 0 112 [(0, .ref 150), (1, .int (nI k)), (2, .int (A 176 k)), (3, .int (nI h)), (4, .int (nI q)), (5, .int (x)), (6, .int (nI w))] [] n (md f (clS s L) (clA A L)) Q QX := by
  have k1 := hK.1
  have k3 := hK.2.2.1
  have k4 := hK.2.2.2.1
  refine sw_aload_n dX12_leave_112 rfl (by first | rfl | assumption) ?_
  refine sw_iload_n dX12_leave_113 rfl ?_
  refine sw_iload dX12_leave_114 rfl ?_
  refine sw_Vv dX12_leave_116 k_X12_266 mf_X12_nextOf (c_X12_nextOf (d := d - 1) (show k < 100 by omega) (nI w)) rfl ⟨_, rfl, rfl⟩ (by omega) (by omega) (by omega) rfl rfl (Nat.le_of_ble_eq_true rfl) ?_
  refine sw_top (y := r_nx A k (nI w)) rfl ?_
  refine sw_istore [(0, _), (1, _), (2, _), (3, _), (4, _), (5, _), (6, _), (7, _)] dX12_leave_119 (by decide) rfl ?_
  refine sw_iload dX12_leave_121 rfl ?_
  refine sw_if_lt 258 dX12_leave_123 (by decide) (fun h123 => ?_) (fun h123 => ?_)
  · first | refine sw_inc1 [(0, _), (1, _), (2, _), (3, _), (4, _), (5, _), (6, _), (7, _)] dX12_leave_258 rfl (by decide) rfl ?_ | refine sw_iinc [(0, _), (1, _), (2, _), (3, _), (4, _), (5, _), (6, _), (7, _)] dX12_leave_258 rfl (by decide) rfl ?_
    refine sw_goto 106 dX12_leave_261 (by decide) ?_
    refine sw_keep [0, 1, 2, 3, 4, 5, 6] rfl ?_
    rw [lWy, if_pos h123] at K
    exact K
  · rcases hK.2.2.2.2.2.2.2 w hw with e1 | ⟨t, ht, he⟩
    · exact absurd e1 h123
    rw [lWy, if_neg h123, he, nI_clamp (by omega), lTo] at K
    rw [he]
    refine sw_iconst (x := 0) dX12_leave_126 (by decide) ?_
    refine sw_istore [(0, _), (1, _), (2, _), (3, _), (4, _), (5, _), (6, _), (7, _), (8, _)] dX12_leave_127 (by decide) rfl ?_
    refine l_X12_le2 (by omega) hCb hN hJ hK hx ht 9 0 L (by omega) (by omega) hL ?_
    have e5 := lVs_ok hN hJ k1 ht hx 8 0 L (by omega) hL
    refine sw_iconst (x := 0) dX12_leave_187 (by decide) ?_
    refine sw_istore [(0, _), (1, _), (2, _), (3, _), (4, _), (5, _), (6, _), (7, _), (8, _)] dX12_leave_188 (by decide) rfl ?_
    refine l_X12_le3 (by omega) hCb hN hJ hK ht (q + 1) 0 _ (by omega) (by omega) e5 ?_
    have e6 := lSs_ok hN hJ k1 ht q 0 _ (by omega) e5
    refine sw_iload_n dX12_leave_233 rfl ?_
    refine sw_Sv dX12_leave_234 k_X12_263 mf_X12_givenBy (c_X12_givenBy (d := d - 1) (A 176 k)) (by omega) (by omega) (by omega) rfl rfl (Nat.le_of_ble_eq_true rfl) ?_
    refine sw_iconst (x := 1) dX12_leave_237 (by decide) ?_
    refine sw_icmp_ne 258 dX12_leave_238 (by decide) (fun h238 => ?_) (fun h238 => ?_)
    · first | refine sw_inc1 [(0, _), (1, _), (2, _), (3, _), (4, _), (5, _), (6, _), (7, _)] dX12_leave_258 rfl (by decide) rfl ?_ | refine sw_iinc [(0, _), (1, _), (2, _), (3, _), (4, _), (5, _), (6, _), (7, _)] dX12_leave_258 rfl (by decide) rfl ?_
      refine sw_goto 106 dX12_leave_261 (by decide) ?_
      refine sw_keep [0, 1, 2, 3, 4, 5, 6] rfl ?_
      rw [lGs, if_neg h238] at K
      exact K
    · have k6 := hK.2.2.2.2.2.1 h238
      refine sw_aload_n dX12_leave_241 rfl (by first | rfl | assumption) ?_
      refine sw_bipush (x := 16) dX12_leave_242 (by decide) ?_
      refine sw_iload dX12_leave_244 rfl ?_
      refine sw_imul dX12_leave_246 ?_
      refine sw_bipush (x := 8) dX12_leave_247 (by decide) ?_
      refine sw_iadd dX12_leave_249 ?_
      refine sw_iload dX12_leave_250 rfl ?_
      refine sw_iadd dX12_leave_252 ?_
      refine sw_top (y := nI (16 * t + 8 + q)) (by rw [nl_16, pk_mul, nl_8, nI_add, nI_add]) ?_
      refine sw_iload dX12_leave_253 rfl ?_
      refine sw_Vn dX12_leave_255 k_X12_279 mf_X12_come (q_come (d := d - 1) (by omega) hN (show 16 * t + 8 + q < 1600 by omega) (e6.1 _ (by omega)) hx) rfl ⟨_, rfl, rfl⟩ (by omega) (by omega) (by omega) rfl rfl (Nat.le_of_ble_eq_true rfl) ?_
      first | refine sw_inc1 [(0, _), (1, _), (2, _), (3, _), (4, _), (5, _), (6, _), (7, _)] dX12_leave_258 rfl (by decide) rfl ?_ | refine sw_iinc [(0, _), (1, _), (2, _), (3, _), (4, _), (5, _), (6, _), (7, _)] dX12_leave_258 rfl (by decide) rfl ?_
      refine sw_goto 106 dX12_leave_261 (by decide) ?_
      refine sw_keep [0, 1, 2, 3, 4, 5, 6] rfl ?_
      rw [lGs, if_pos h238] at K
      exact K
set_option maxRecDepth 100000 in
theorem c_X12_leave {l : Launch} {D : va_G} {cy : Nat → ClassId} {d n : Nat} {f : sw_F} {s : Nat → Int32} {A : Nat → Nat → Int32} (hd : 2 ≤ d) {N C k h q : Nat} (hCb : C ≤ 100) (hN : N ≤ 6) (hJ : JOK N A) (hK : KO A C k h q) {L : CL} (hL : COK N C L) : sw_Ct l D cy mX12_leave d 0 0 [.ref 150, .int (nI k)] n (md f (clS s L) (clA A L)) (sw_D none n (md f (clS s (lLv A L k h q)) (clA A (lLv A L k h q)))) := by
  refine sw_of rfl (Nat.le_of_ble_eq_true rfl) ?_
  show SW l D cy mX12_leave d 0 0 0 0 0 [(0, .ref 150), (1, .int (nI k))] [] n (md f (clS s L) (clA A L)) _ _
  have k1 := hK.1
  have k2 : A 178 k = nI h := hK.2.1
  have k3 := hK.2.2.1
  have k4 := hK.2.2.2.1
  have k5 := hK.2.2.2.2.1
  have e8 := lv0_lv hN hJ hK hL
  have e9 := lLx_lv hN hJ hK hL
  refine sw_aload_n dX12_leave_0 rfl (by first | rfl | assumption) ?_
  refine sw_get dX12_leave_1 fr_X12_94 rfl rfl ?_
  refine sw_iload_n dX12_leave_4 rfl ?_
  refine sw_ialdN (k) dX12_leave_5 rfl rfl (show k < 100 by omega) (by decide) ?_
  refine sw_top (y := A 176 k) rfl ?_
  refine sw_istore_n [(0, _), (1, _), (2, _)] dX12_leave_6 (by decide) rfl ?_
  refine sw_aload_n dX12_leave_7 rfl (by first | rfl | assumption) ?_
  refine sw_get dX12_leave_8 fr_X12_100 rfl rfl ?_
  refine sw_iload_n dX12_leave_11 rfl ?_
  refine sw_ialdN (k) dX12_leave_12 rfl rfl (show k < 100 by omega) (by decide) ?_
  refine sw_top (y := nI h) k2 ?_
  refine sw_istore_n [(0, _), (1, _), (2, _), (3, _)] dX12_leave_13 (by decide) rfl ?_
  refine sw_iload_n dX12_leave_14 rfl ?_
  refine sw_iload_n dX12_leave_15 rfl ?_
  refine sw_Sv dX12_leave_16 k_X12_260 mf_X12_takenBy (c_X12_takenBy (d := d - 1) (A 176 k)) (by omega) (by omega) (by omega) rfl rfl (Nat.le_of_ble_eq_true rfl) ?_
  refine sw_isub dX12_leave_19 ?_
  refine sw_top (y := nI q) k5 ?_
  refine sw_istore [(0, _), (1, _), (2, _), (3, _), (4, _)] dX12_leave_20 (by decide) rfl ?_
  refine sw_aload_n dX12_leave_22 rfl (by first | rfl | assumption) ?_
  refine sw_get dX12_leave_23 fr_X12_118 rfl rfl ?_
  refine sw_iload_n dX12_leave_26 rfl ?_
  refine sw_ialdN (k) dX12_leave_27 rfl rfl (show k < 100 by omega) (by decide) ?_
  refine sw_top (y := L.2.1 k) rfl ?_
  refine sw_istore [(0, _), (1, _), (2, _), (3, _), (4, _), (5, _)] dX12_leave_28 (by decide) rfl ?_
  refine sw_iload_n dX12_leave_30 rfl ?_
  refine sw_iconst (x := 1) dX12_leave_31 (by decide) ?_
  refine sw_icmp_ne 60 dX12_leave_32 (by decide) (fun h32 => ?_) (fun h32 => ?_)
  · refine sw_iload dX12_leave_60 rfl ?_
    refine sw_top (y := lv0 A L k) (by rw [lv0, if_neg h32]) ?_
    refine sw_istore [(0, _), (1, _), (2, _), (3, _), (4, _), (5, _)] dX12_leave_62 (by decide) rfl ?_
    refine sw_iload dX12_leave_64 rfl ?_
    refine sw_istore [(0, _), (1, _), (2, _), (3, _), (4, _), (5, _), (6, _)] dX12_leave_66 (by decide) rfl ?_
    refine l_X12_le1 (by omega) hCb hN hJ hK hL (h + 1) q (lv0 A L k) (by omega) (by omega) e8 ?_
    change SW l D cy mX12_leave d 0 0 0 0 103 [(0, .ref 150), (1, .int (nI k)), (2, .int (A 176 k)), (3, .int (nI h)), (4, .int (nI q)), (5, .int (lLx A L k h q))] [] n (md f (clS s L) (clA A L)) _ _
    refine sw_iconst (x := 0) dX12_leave_103 (by decide) ?_
    refine sw_istore [(0, _), (1, _), (2, _), (3, _), (4, _), (5, _), (6, _)] dX12_leave_104 (by decide) rfl ?_
    refine sw_iload dX12_leave_106 rfl ?_
    refine sw_iconst (x := 2) dX12_leave_108 (by decide) ?_
    refine sw_icmp_ge 264 dX12_leave_109 (by decide) (fun h109 => ?_) (fun h109 => ?_)
    · exact absurd h109 (by decide)
    · refine l_X12_le4 hd hCb hN hJ hK e9 (w := 0) (by omega) hL ?_
      refine sw_iload dX12_leave_106 rfl ?_
      refine sw_iconst (x := 2) dX12_leave_108 (by decide) ?_
      refine sw_icmp_ge 264 dX12_leave_109 (by decide) (fun h109 => ?_) (fun h109 => ?_)
      · exact absurd h109 (by decide)
      · refine l_X12_le4 hd hCb hN hJ hK e9 (w := 1) (by omega) (lWy_ok hCb hN hJ hK (by omega) e9 hL) ?_
        refine sw_iload dX12_leave_106 rfl ?_
        refine sw_iconst (x := 2) dX12_leave_108 (by decide) ?_
        refine sw_icmp_ge 264 dX12_leave_109 (by decide) (fun h109 => ?_) (fun h109 => ?_)
        · exact sw_vret dX12_leave_264 rfl (by omega) (by omega) ⟨rfl, rfl, rfl⟩
        · exact absurd h109 (by decide)
  · obtain ⟨v, hv, he⟩ := hK.2.2.2.2.2.2.1 h32
    have e7 : lv0 A L k = jI A (L.2.1 k) (L.1 (16 * k + v)) := by rw [lv0, if_pos h32, he, nI_clamp (by omega)]
    refine sw_aload_n dX12_leave_35 rfl (by first | rfl | assumption) ?_
    refine sw_iload dX12_leave_36 rfl ?_
    refine sw_aload_n dX12_leave_38 rfl (by first | rfl | assumption) ?_
    refine sw_get dX12_leave_39 fr_X12_115 rfl rfl ?_
    refine sw_bipush (x := 16) dX12_leave_42 (by decide) ?_
    refine sw_iload_n dX12_leave_44 rfl ?_
    refine sw_imul dX12_leave_45 ?_
    refine sw_aload_n dX12_leave_46 rfl (by first | rfl | assumption) ?_
    refine sw_get dX12_leave_47 fr_X12_97 rfl rfl ?_
    refine sw_iload_n dX12_leave_50 rfl ?_
    refine sw_ialdN (k) dX12_leave_51 rfl rfl (show k < 100 by omega) (by decide) ?_
    refine sw_top (y := nI v) he ?_
    refine sw_iadd dX12_leave_52 ?_
    refine sw_ialdN (16 * k + v) dX12_leave_53 rfl (by rw [nl_16, pk_mul, nI_add]) (show 16 * k + v < 1600 by omega) (by decide) ?_
    refine sw_top (y := L.1 (16 * k + v)) rfl ?_
    refine sw_Vv dX12_leave_54 k_X12_148 mf_X12_joined (q_joinedC (d := d - 1) hN (hL.2 k k1) (hL.1 _ (by omega))) rfl ⟨_, rfl, rfl⟩ (by omega) (by omega) (by omega) rfl rfl (Nat.le_of_ble_eq_true rfl) ?_
    refine sw_goto 62 dX12_leave_57 (by decide) ?_
    refine sw_top (y := lv0 A L k) e7.symm ?_
    refine sw_istore [(0, _), (1, _), (2, _), (3, _), (4, _), (5, _)] dX12_leave_62 (by decide) rfl ?_
    refine sw_iload dX12_leave_64 rfl ?_
    refine sw_istore [(0, _), (1, _), (2, _), (3, _), (4, _), (5, _), (6, _)] dX12_leave_66 (by decide) rfl ?_
    refine l_X12_le1 (by omega) hCb hN hJ hK hL (h + 1) q (lv0 A L k) (by omega) (by omega) e8 ?_
    change SW l D cy mX12_leave d 0 0 0 0 103 [(0, .ref 150), (1, .int (nI k)), (2, .int (A 176 k)), (3, .int (nI h)), (4, .int (nI q)), (5, .int (lLx A L k h q))] [] n (md f (clS s L) (clA A L)) _ _
    refine sw_iconst (x := 0) dX12_leave_103 (by decide) ?_
    refine sw_istore [(0, _), (1, _), (2, _), (3, _), (4, _), (5, _), (6, _)] dX12_leave_104 (by decide) rfl ?_
    refine sw_iload dX12_leave_106 rfl ?_
    refine sw_iconst (x := 2) dX12_leave_108 (by decide) ?_
    refine sw_icmp_ge 264 dX12_leave_109 (by decide) (fun h109 => ?_) (fun h109 => ?_)
    · exact absurd h109 (by decide)
    · refine l_X12_le4 hd hCb hN hJ hK e9 (w := 0) (by omega) hL ?_
      refine sw_iload dX12_leave_106 rfl ?_
      refine sw_iconst (x := 2) dX12_leave_108 (by decide) ?_
      refine sw_icmp_ge 264 dX12_leave_109 (by decide) (fun h109 => ?_) (fun h109 => ?_)
      · exact absurd h109 (by decide)
      · refine l_X12_le4 hd hCb hN hJ hK e9 (w := 1) (by omega) (lWy_ok hCb hN hJ hK (by omega) e9 hL) ?_
        refine sw_iload dX12_leave_106 rfl ?_
        refine sw_iconst (x := 2) dX12_leave_108 (by decide) ?_
        refine sw_icmp_ge 264 dX12_leave_109 (by decide) (fun h109 => ?_) (fun h109 => ?_)
        · exact sw_vret dX12_leave_264 rfl (by omega) (by omega) ⟨rfl, rfl, rfl⟩
        · exact absurd h109 (by decide)
