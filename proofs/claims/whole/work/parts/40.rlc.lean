/-! ===== THE REFERENCE: labelCode ===== -/
theorem allF_all {p : Nat → Bool} : ∀ (c i : Nat), allF p i c = true → ∀ k, i ≤ k → k < i + c → p k = true
  | 0, i, _, k, h1, h2 => absurd h2 (by omega)
  | c + 1, i, h, k, h1, h2 => by
    rw [allF, Bool.and_eq_true] at h
    by_cases e : k = i
    · rw [e]; exact h.1
    · exact allF_all c (i + 1) h.2 k (by omega) (by omega)
theorem allF_of {p : Nat → Bool} : ∀ (c i : Nat), (∀ k, i ≤ k → k < i + c → p k = true) → allF p i c = true
  | 0, _, _ => rfl
  | c + 1, i, h => by
    rw [allF, Bool.and_eq_true]
    exact ⟨h i (Nat.le_refl i) (by omega), allF_of c (i + 1) (fun k h1 h2 => h k (by omega) (by omega))⟩
def PL (A : Nat → Nat → Int32) (C : Nat) : Prop := 0 < C ∧ ∀ k, k < C → 0 ≤ A 176 k ∧ A 176 k ≤ 9 ∧ (A 176 k = 1 ∨ A 176 k = 2 → 0 ≤ A 177 k ∧ A 177 k < 8) ∧ (A 176 k = 7 ∨ A 176 k = 8 → 0 ≤ A 177 k ∧ A 177 k < nI C)
theorem r_pl_iff {A : Nat → Nat → Int32} {C : Nat} : r_pl A C = true ↔ PL A C := by
  unfold r_pl PL
  rw [Bool.and_eq_true, decide_eq_true_iff]
  constructor
  · intro h
    refine ⟨h.1, fun k hk => ?_⟩
    have h2 := allF_all C 0 h.2 k (by omega) (by omega)
    unfold r_pk at h2
    simp only [Bool.and_eq_true, decide_eq_true_iff, and_assoc] at h2
    exact h2
  · intro h
    refine ⟨h.1, allF_of C 0 (fun k _ hk => ?_)⟩
    unfold r_pk
    simp only [Bool.and_eq_true, decide_eq_true_iff, and_assoc]
    exact h.2 k (by omega)
theorem i32_to {x : Int32} {m : Nat} (h1 : 0 ≤ x) (h2 : x < nI m) (hm : m < 2147483648) : ∃ k, k < m ∧ x = nI k := by
  obtain ⟨k, hk, he⟩ := i32_lt (show ¬ x < 0 by grind) (show ¬ nI m ≤ x by grind) hm
  exact ⟨k, hk, he⟩
abbrev hN (A : Nat → Nat → Int32) (k : Nat) : Nat := (A 178 k).toNatClampNeg
abbrev qN (A : Nat → Nat → Int32) (k : Nat) : Nat := (A 178 k - r_tb (A 176 k)).toNatClampNeg
theorem KO_of {A : Nat → Nat → Int32} {C k : Nat} (hCb : C ≤ 100) (hW : HL A C (A 178)) (hp : PL A C) (hk : k < C) (h0 : 0 ≤ A 178 k) : KO A C k (hN A k) (qN A k) := by
  obtain ⟨g1, g2, g3, g4⟩ := hW.1.2 k hk h0
  rcases hW.2.1 k hk with u | ⟨h, h8, u⟩
  · rw [u] at h0; exact absurd h0 (by decide)
  · unfold hN qN
    rw [u] at g1 g2 ⊢
    obtain ⟨t, g, e1, e2, e3, e4, e5, e6, e7, e8⟩ := hq_1 h8 g1 g2
    rw [e7, nI_clamp (by omega), nI_clamp (by omega)]
    refine ⟨hk, u, h8, by omega, by rw [e7], fun q => ?_, fun q => ?_, fun w hw => ?_⟩
    · rw [e2] at q
      have : g = 1 := nI_inj (by omega) (by omega) q
      omega
    · obtain ⟨a1, a2⟩ := (hp.2 k hk).2.2.1 (Or.inl q)
      exact i32_to a1 a2 (by omega)
    · rcases g4 w hw with z | ⟨t, ht, he, _⟩
      · exact Or.inl z
      · exact Or.inr ⟨t, ht, he⟩
def cSt (A : Nat → Nat → Int32) (x0 : Int32) (C k : Nat) (L : CL) : CL := if A 178 k < 0 then L else lLv A (lFC A x0 C L k) k (hN A k) (qN A k)
def cKs (A : Nat → Nat → Int32) (x0 : Int32) (C : Nat) : Nat → Nat → CL → CL
  | _, 0, L => L
  | k, c + 1, L => cKs A x0 C (k + 1) c (cSt A x0 C k L)
def cEn (A : Nat → Nat → Int32) : Nat → Nat → CL → CL
  | _, 0, L => L
  | v, c + 1, L => cEn A (v + 1) c (lcm A L v (A 153 v))
def cMo (L : CL) (b : Bool) : CL := (L.1, L.2.1, b)
def cRd (A : Nat → Nat → Int32) (x0 : Int32) (C : Nat) (L : CL) : CL := cKs A x0 C 0 C (cEn A 0 8 (cMo L false))
def cLp (A : Nat → Nat → Int32) (x0 : Int32) (C : Nat) : Nat → CL → CL
  | 0, L => L
  | r + 1, L => if L.2.2 = true then cLp A x0 C r (cRd A x0 C L) else L
def cI0 (x0 : Int32) (A : Nat → Nat → Int32) (C : Nat) : CL := (fillF (fun _ => x0) (A 183) (16 * C), fillF (fun _ => x0) (A 184) C, true)
theorem HL_HT {A : Nat → Nat → Int32} {C : Nat} (hW : HL A C (A 178)) : HT A C := fun j hj => by
  rcases hW.2.1 j hj with u | u
  · exact Or.inl (by rw [u]; decide)
  · exact Or.inr u
theorem cSt_ok {A : Nat → Nat → Int32} {x0 : Int32} {N C k : Nat} {L : CL} (hCb : C ≤ 100) (hN : N ≤ 6) (hJ : JOK N A) (hb : lv N x0) (hW : HL A C (A 178)) (hp : PL A C) (hk : k < C) (hL : COK N C L) : COK N C (cSt A x0 C k L) := by
  unfold cSt
  by_cases h : A 178 k < 0
  · rw [if_pos h]; exact hL
  · rw [if_neg h]; exact lLv_ok hCb hN hJ (KO_of hCb hW hp hk (Int32.not_lt.mp h)) (lFC_ok hN hJ (HL_HT hW) hb hL)
theorem cKs_ok {A : Nat → Nat → Int32} {x0 : Int32} {N C : Nat} (hCb : C ≤ 100) (hN : N ≤ 6) (hJ : JOK N A) (hb : lv N x0) (hW : HL A C (A 178)) (hp : PL A C) : ∀ (c k : Nat) (L : CL), k + c ≤ C → COK N C L → COK N C (cKs A x0 C k c L)
  | 0, _, _, _, hL => hL
  | c + 1, k, L, hc, hL => cKs_ok hCb hN hJ hb hW hp c (k + 1) _ (by omega) (cSt_ok hCb hN hJ hb hW hp (by omega) hL)
theorem cEn_ok {A : Nat → Nat → Int32} {N C : Nat} (hN : N ≤ 6) (hJ : JOK N A) (hC1 : 0 < C) (he : ∀ v, v < 8 → lv N (A 153 v)) : ∀ (c v : Nat) (L : CL), v + c ≤ 8 → COK N C L → COK N C (cEn A v c L)
  | 0, _, _, _, hL => hL
  | c + 1, v, L, hc, hL => cEn_ok hN hJ hC1 he c (v + 1) _ (by omega) (lcm_ok hN hJ hL (by omega) (he v (by omega)))
theorem cMo_ok {N C : Nat} {L : CL} {b : Bool} (hL : COK N C L) : COK N C (cMo L b) := hL
theorem cRd_ok {A : Nat → Nat → Int32} {x0 : Int32} {N C : Nat} {L : CL} (hCb : C ≤ 100) (hN : N ≤ 6) (hJ : JOK N A) (hb : lv N x0) (hW : HL A C (A 178)) (hp : PL A C) (he : ∀ v, v < 8 → lv N (A 153 v)) (hL : COK N C L) : COK N C (cRd A x0 C L) := cKs_ok hCb hN hJ hb hW hp C 0 _ (by omega) (cEn_ok hN hJ hp.1 he 8 0 _ (by omega) (cMo_ok hL))
theorem cl_f (A : Nat → Nat → Int32) (S P G Th S' P' G' Th' : Nat → Int32) (L : CL) : fA (clA (fA A S P G Th) L) S' P' G' Th' = clA (fA A S' P' G' Th') L := by
  unfold clA
  rw [show fA (va_up (va_up (fA A S P G Th) 183 L.1) 184 L.2.1) S' P' G' Th' = va_up (va_up (va_up (va_up (va_up (va_up (fA A S P G Th) 183 L.1) 184 L.2.1) 179 S') 180 P') 181 G') 182 Th' from rfl]
  rw [vu_so _ (show 179 < 184 by decide), vu_so _ (show 179 < 183 by decide), vu_so _ (show 180 < 184 by decide), vu_so _ (show 180 < 183 by decide), vu_so _ (show 181 < 184 by decide), vu_so _ (show 181 < 183 by decide), vu_so _ (show 182 < 184 by decide), vu_so _ (show 182 < 183 by decide)]
  rw [show va_up (va_up (fA A S P G Th) 179 S') 180 P' = fA A S' P' G Th from fA_d A S P G Th S' P', fA_g, fA_t]
theorem cl_0 (A : Nat → Nat → Int32) (b : Bool) : A = clA A (A 183, A 184, b) := by
  unfold clA
  rw [vu_id, vu_id]
set_option maxRecDepth 100000 in
theorem l_X12_lc1 {l : Launch} {D : va_G} {cy : Nat → ClassId} {d n : Nat} {f : sw_F} {s : Nat → Int32} {A : Nat → Nat → Int32} {C : Nat} (hC : s 36 = nI C) (hCb : C ≤ 100) {Q : sw_Q} {QX : sw_QX} (K : SW l D cy mX12_labelCode d 0 0 0 0 29 [(0, .ref 150)] [] n (md f s (va_up A 183 (fillF (fun _ => s 4) (A 183) (16 * C)))) Q QX) : ∀ (c i : Nat), i ≤ 16 * C → 16 * C < i + c → SW l D cy mX12_labelCode d 0 0 0 0 2 [(0, .ref 150), (1, .int (nI i))] [] n (md f s (va_up A 183 (fillF (fun _ => s 4) (A 183) i))) Q QX := by
  intro c
  induction c with
  | zero => intro i0 h1 h2; exact absurd h2 (by omega)
  | succ c ih =>
    intro i hi hc
    refine sw_iload_n dX12_labelCode_2 rfl ?_
    refine sw_bipush (x := 16) dX12_labelCode_3 (by decide) ?_
    refine sw_aload_n dX12_labelCode_5 rfl (by first | rfl | assumption) ?_
    refine sw_get dX12_labelCode_6 fr_X12_251 rfl rfl ?_
    refine sw_top hC ?_
    refine sw_imul dX12_labelCode_9 ?_
    refine sw_top (y := nI (16 * C)) (by rw [nl_16, pk_mul]) ?_
    refine sw_icmp_ge 29 dX12_labelCode_10 (by decide) (fun h10 => ?_) (fun h10 => ?_)
    · refine sw_keep [0] rfl ?_
      rw [show i = 16 * C from Nat.le_antisymm hi ((nI_leI (by omega) (by omega)).mp h10)]
      exact K
    · have e1 : i < 16 * C := (nI_ltI (by omega) (by omega)).mp (i32_nle.mp h10)
      refine sw_aload_n dX12_labelCode_13 rfl (by first | rfl | assumption) ?_
      refine sw_get dX12_labelCode_14 fr_X12_115 rfl rfl ?_
      refine sw_iload_n dX12_labelCode_17 rfl ?_
      refine sw_aload_n dX12_labelCode_18 rfl (by first | rfl | assumption) ?_
      refine sw_get dX12_labelCode_19 fr_X12_142 rfl rfl ?_
      refine m_iast (i) dX12_labelCode_22 ⟨by decide, by decide, rfl⟩ rfl (show i < 1600 by omega) rfl ?_
      first | refine sw_inc1 [(0, _), (1, _)] dX12_labelCode_23 rfl (by decide) rfl ?_ | refine sw_iinc [(0, _), (1, _)] dX12_labelCode_23 rfl (by decide) rfl ?_
      refine sw_goto 2 dX12_labelCode_26 (by decide) ?_
      refine m_eq rfl ?_ (ih (i + 1) (by omega) (by omega))
      rw [vu_up]
      exact congrArg (va_up A 183) (fill_1 (h := fun _ => s 4) rfl)
def RGO (A : Nat → Nat → Int32) (C m : Nat) (G : Nat → Int32) : Prop := ∀ j, j < m → 0 ≤ A 178 j → A 176 j = 7 → ∀ i, i < C → (¬ G (100 * j + i) = 0 ↔ RG A C (RGB A C (A 178) j) j i)
set_option maxRecDepth 100000 in
theorem l_X12_lc2 {l : Launch} {D : va_G} {cy : Nat → ClassId} {d n : Nat} {f : sw_F} {s : Nat → Int32} {A : Nat → Nat → Int32} (hd : 3 ≤ d) {C : Nat} (hC : s 36 = nI C) (hCb : C ≤ 100) (hW : HL A C (A 178)) {g : Nat → Int32} {Q : sw_Q} {QX : sw_QX} (K : ∀ S P G Th : Nat → Int32, RGO A C C G → SW l D cy mX12_labelCode d 0 0 0 0 80 [(0, .ref 150)] [] n (md f s (clA (fA A S P G Th) (g, fillF (fun _ => s 4) (A 184) (C), false))) Q QX) : ∀ (c k : Nat) (S P G Th : Nat → Int32), k ≤ C → C < k + c → RGO A C k G → SW l D cy mX12_labelCode d 0 0 0 0 31 [(0, .ref 150), (1, .int (nI k))] [] n (md f s (clA (fA A S P G Th) (g, fillF (fun _ => s 4) (A 184) (k), false))) Q QX := by
  intro c
  induction c with
  | zero => intro k0 S0 P0 G0 Th0 h1 h2; exact absurd h2 (by omega)
  | succ c ih =>
    intro k S P G Th hk hc hG
    refine sw_iload_n dX12_labelCode_31 rfl ?_
    refine sw_aload_n dX12_labelCode_32 rfl (by first | rfl | assumption) ?_
    refine sw_get dX12_labelCode_33 fr_X12_251 rfl rfl ?_
    refine sw_top hC ?_
    refine sw_icmp_ge 80 dX12_labelCode_36 (by decide) (fun h36 => ?_) (fun h36 => ?_)
    · refine sw_keep [0] rfl ?_
      have e9 : k = C := Nat.le_antisymm hk ((nI_leI (by omega) (by omega)).mp h36)
      subst e9
      exact K S P G Th hG
    · have e1 : k < C := (nI_ltI (by omega) (by omega)).mp (i32_nle.mp h36)
      have J : ∀ (S P G Th : Nat → Int32), RGO A C (k + 1) G → SW l D cy mX12_labelCode d 0 0 0 0 74 [(0, .ref 150), (1, .int (nI k))] [] n (md f s (clA (fA A S P G Th) (g, fillF (fun _ => s 4) (A 184) (k + 1), false))) Q QX := by
        intro S P G Th hG
        first | refine sw_inc1 [(0, _), (1, _)] dX12_labelCode_74 rfl (by decide) rfl ?_ | refine sw_iinc [(0, _), (1, _)] dX12_labelCode_74 rfl (by decide) rfl ?_
        refine sw_goto 31 dX12_labelCode_77 (by decide) ?_
        exact ih (k + 1) S P G Th (by omega) (by omega) hG
      refine sw_aload_n dX12_labelCode_39 rfl (by first | rfl | assumption) ?_
      refine sw_get dX12_labelCode_40 fr_X12_118 rfl rfl ?_
      refine sw_iload_n dX12_labelCode_43 rfl ?_
      refine sw_aload_n dX12_labelCode_44 rfl (by first | rfl | assumption) ?_
      refine sw_get dX12_labelCode_45 fr_X12_142 rfl rfl ?_
      refine m_iast (k) dX12_labelCode_48 ⟨by decide, by decide, rfl⟩ rfl (show k < 100 by omega) rfl ?_
      refine m_eq rfl (A' := clA (fA A S P G Th) (g, fillF (fun _ => s 4) (A 184) (k + 1), false)) ?_ ?_
      · rw [cl_c]
        exact congrArg (clA (fA A S P G Th)) (Prod.ext rfl (Prod.ext (fill_1 (h := fun _ => s 4) rfl) rfl))
      refine sw_aload_n dX12_labelCode_49 rfl (by first | rfl | assumption) ?_
      refine sw_get dX12_labelCode_50 fr_X12_100 rfl rfl ?_
      refine sw_iload_n dX12_labelCode_53 rfl ?_
      refine sw_ialdN (k) dX12_labelCode_54 rfl rfl (show k < 100 by omega) (by decide) ?_
      refine sw_top (y := A 178 k) rfl ?_
      refine sw_if_lt 74 dX12_labelCode_55 (by decide) (fun h55 => ?_) (fun h55 => ?_)
      · exact J S P G Th (fun j hj h0 h7 => by
          by_cases e : j = k
          · rw [e] at h0; exact absurd h0 (Int32.not_le.mpr h55)
          · exact hG j (by omega) h0 h7)
      · refine sw_aload_n dX12_labelCode_58 rfl (by first | rfl | assumption) ?_
        refine sw_get dX12_labelCode_59 fr_X12_94 rfl rfl ?_
        refine sw_iload_n dX12_labelCode_62 rfl ?_
        refine sw_ialdN (k) dX12_labelCode_63 rfl rfl (show k < 100 by omega) (by decide) ?_
        refine sw_top (y := A 176 k) rfl ?_
        refine sw_bipush (x := 7) dX12_labelCode_64 (by decide) ?_
        refine sw_icmp_ne 74 dX12_labelCode_66 (by decide) (fun h66 => ?_) (fun h66 => ?_)
        · exact J S P G Th (fun j hj h0 h7 => by
            by_cases e : j = k
            · rw [e] at h7; exact absurd h7 h66
            · exact hG j (by omega) h0 h7)
        · refine sw_aload_n dX12_labelCode_69 rfl (by first | rfl | assumption) ?_
          refine sw_iload_n dX12_labelCode_70 rfl ?_
          refine sw_callV dX12_labelCode_71 k_X12_282 mf_X12_findRegion ⟨_, rfl, rfl⟩ rfl (c_X12_findRegion (d := d - 1) (by omega) hC hCb (A := clA (fA A S P G Th) (g, fillF (fun _ => s 4) (A 184) (k + 1), false)) hW e1 (Int32.not_lt.mp h55)) (by omega) ⟨by omega, by omega⟩ rfl rfl (Nat.le_of_ble_eq_true rfl) (fun r n' f' hq _ => ?_)
          obtain ⟨S', P', G', Th', rfl, rfl, rfl, q1, q2⟩ := hq
          rw [cl_f]
          refine J S' P' G' Th' (fun j hj h0 h7 i hi => ?_)
          by_cases e : j = k
          · subst e
            exact q1 i hi
          · rw [q2 (100 * j + i) (fun m hm => by omega)]
            exact hG j (by omega) h0 h7 i hi
set_option maxRecDepth 100000 in
theorem l_X12_lc3 {l : Launch} {D : va_G} {cy : Nat → ClassId} {d n : Nat} {f : sw_F} {s : Nat → Int32} {A : Nat → Nat → Int32} (hd : 2 ≤ d) {C : Nat} (hCb : C ≤ 100) (hC1 : 0 < C) {N : Nat} (hN : N ≤ 6) (hJ : JOK N A) (he : ∀ v, v < 8 → lv N (A 153 v)) {r : Nat} {Q : sw_Q} {QX : sw_QX} : ∀ (c v : Nat) (L : CL), v ≤ 8 → 8 < v + c → COK N C L → SW l D cy mX12_labelCode d 0 0 0 0 131 [(0, .ref 150), (1, .int (nI r))] [] n (md f (clS s (cEn A v (8 - v) L)) (clA A (cEn A v (8 - v) L))) Q QX → SW l D cy mX12_labelCode d 0 0 0 0 108 [(0, .ref 150), (1, .int (nI r)), (2, .int (nI v))] [] n (md f (clS s (L)) (clA A (L))) Q QX := by
  intro c
  induction c with
  | zero => intro v0 L0 h1 h2; exact absurd h2 (by omega)
  | succ c ih =>
    intro v L hv hc hL K
    refine sw_iload_n dX12_labelCode_108 rfl ?_
    refine sw_bipush (x := 8) dX12_labelCode_109 (by decide) ?_
    refine sw_top nl_8 ?_
    refine sw_icmp_ge 131 dX12_labelCode_111 (by decide) (fun h111 => ?_) (fun h111 => ?_)
    · refine sw_keep [0, 1] rfl ?_
      rw [show 8 - v = 0 by have := (nI_leI (by omega) (by omega)).mp h111; omega] at K
      exact K
    · have e1 : v < 8 := (nI_ltI (by omega) (by omega)).mp (i32_nle.mp h111)
      rw [show 8 - v = (8 - (v + 1)) + 1 by omega, cEn] at K
      refine sw_aload_n dX12_labelCode_114 rfl (by first | rfl | assumption) ?_
      refine sw_iload_n dX12_labelCode_115 rfl ?_
      refine sw_aload_n dX12_labelCode_116 rfl (by first | rfl | assumption) ?_
      refine sw_get dX12_labelCode_117 fr_X12_21 rfl rfl ?_
      refine sw_iload_n dX12_labelCode_120 rfl ?_
      refine sw_ialdN (v) dX12_labelCode_121 rfl rfl (show v < 8 by omega) (by decide) ?_
      refine sw_top (y := A 153 v) rfl ?_
      refine sw_Vn dX12_labelCode_122 k_X12_279 mf_X12_come (q_come (d := d - 1) (by omega) hN (show v < 1600 by omega) (hL.1 _ (by omega)) (he v e1)) rfl ⟨_, rfl, rfl⟩ (by omega) (by omega) (by omega) rfl rfl (Nat.le_of_ble_eq_true rfl) ?_
      first | refine sw_inc1 [(0, _), (1, _), (2, _)] dX12_labelCode_125 rfl (by decide) rfl ?_ | refine sw_iinc [(0, _), (1, _), (2, _)] dX12_labelCode_125 rfl (by decide) rfl ?_
      refine sw_goto 108 dX12_labelCode_128 (by decide) ?_
      exact ih (v + 1) _ (by omega) (by omega) (lcm_ok hN hJ hL (by omega) (he v e1)) K
set_option maxRecDepth 100000 in
theorem l_X12_lc4 {l : Launch} {D : va_G} {cy : Nat → ClassId} {d n : Nat} {f : sw_F} {s : Nat → Int32} {A : Nat → Nat → Int32} (hd : 3 ≤ d) {C : Nat} (hC : s 36 = nI C) (hCb : C ≤ 100) {N : Nat} (hN : N ≤ 6) (hJ : JOK N A) (hb : lv N (s 4)) (hW : HL A C (A 178)) (hp : PL A C) {r : Nat} {Q : sw_Q} {QX : sw_QX} : ∀ (c k : Nat) (L : CL), k ≤ C → C < k + c → COK N C L → SW l D cy mX12_labelCode d 0 0 0 0 166 [(0, .ref 150), (1, .int (nI r))] [] n (md f (clS s (cKs A (s 4) C k (C - k) L)) (clA A (cKs A (s 4) C k (C - k) L))) Q QX → SW l D cy mX12_labelCode d 0 0 0 0 133 [(0, .ref 150), (1, .int (nI r)), (2, .int (nI k))] [] n (md f (clS s (L)) (clA A (L))) Q QX := by
  intro c
  induction c with
  | zero => intro v0 L0 h1 h2; exact absurd h2 (by omega)
  | succ c ih =>
    intro k L hk hc hL K
    refine sw_iload_n dX12_labelCode_133 rfl ?_
    refine sw_aload_n dX12_labelCode_134 rfl (by first | rfl | assumption) ?_
    refine sw_get dX12_labelCode_135 fr_X12_251 rfl rfl ?_
    refine sw_top hC ?_
    refine sw_icmp_ge 166 dX12_labelCode_138 (by decide) (fun h138 => ?_) (fun h138 => ?_)
    · refine sw_keep [0, 1] rfl ?_
      rw [show C - k = 0 by have := (nI_leI (by omega) (by omega)).mp h138; omega] at K
      exact K
    · have e1 : k < C := (nI_ltI (by omega) (by omega)).mp (i32_nle.mp h138)
      rw [show C - k = (C - (k + 1)) + 1 by omega, cKs] at K
      have e2 := cSt_ok hCb hN hJ hb hW hp e1 hL
      refine sw_aload_n dX12_labelCode_141 rfl (by first | rfl | assumption) ?_
      refine sw_get dX12_labelCode_142 fr_X12_100 rfl rfl ?_
      refine sw_iload_n dX12_labelCode_145 rfl ?_
      refine sw_ialdN (k) dX12_labelCode_146 rfl rfl (show k < 100 by omega) (by decide) ?_
      refine sw_top (y := A 178 k) rfl ?_
      refine sw_if_lt 160 dX12_labelCode_147 (by decide) (fun h147 => ?_) (fun h147 => ?_)
      · first | refine sw_inc1 [(0, _), (1, _), (2, _)] dX12_labelCode_160 rfl (by decide) rfl ?_ | refine sw_iinc [(0, _), (1, _), (2, _)] dX12_labelCode_160 rfl (by decide) rfl ?_
        refine sw_goto 133 dX12_labelCode_163 (by decide) ?_
        rw [cSt, if_pos h147] at K e2
        exact ih (k + 1) _ (by omega) (by omega) e2 K
      · have e3 := KO_of hCb hW hp e1 (Int32.not_lt.mp h147)
        have e4 := lFC_ok (k := k) hN hJ (HL_HT hW) hb hL
        refine sw_aload_n dX12_labelCode_150 rfl (by first | rfl | assumption) ?_
        refine sw_iload_n dX12_labelCode_151 rfl ?_
        refine sw_Vn dX12_labelCode_152 k_X12_285 mf_X12_findContext (c_X12_findContext (d := d - 1) (by omega) hC hCb e1 hN hJ (HL_HT hW) hL hb) rfl ⟨_, rfl, rfl⟩ (by omega) (by omega) (by omega) rfl rfl (Nat.le_of_ble_eq_true rfl) ?_
        refine sw_aload_n dX12_labelCode_155 rfl (by first | rfl | assumption) ?_
        refine sw_iload_n dX12_labelCode_156 rfl ?_
        refine sw_Vn dX12_labelCode_157 k_X12_288 mf_X12_leave (c_X12_leave (d := d - 1) (by omega) hCb hN hJ e3 e4) rfl ⟨_, rfl, rfl⟩ (by omega) (by omega) (by omega) rfl rfl (Nat.le_of_ble_eq_true rfl) ?_
        first | refine sw_inc1 [(0, _), (1, _), (2, _)] dX12_labelCode_160 rfl (by decide) rfl ?_ | refine sw_iinc [(0, _), (1, _), (2, _)] dX12_labelCode_160 rfl (by decide) rfl ?_
        refine sw_goto 133 dX12_labelCode_163 (by decide) ?_
        rw [cSt, if_neg h147] at K e2
        exact ih (k + 1) _ (by omega) (by omega) e2 K
set_option maxRecDepth 100000 in
theorem l_X12_lc5 {l : Launch} {D : va_G} {cy : Nat → ClassId} {d n : Nat} {f : sw_F} {s : Nat → Int32} {A : Nat → Nat → Int32} (hd : 3 ≤ d) {C : Nat} (hC : s 36 = nI C) (hCb : C ≤ 100) {N : Nat} (hN : N ≤ 6) (hJ : JOK N A) (hb : lv N (s 4)) (hW : HL A C (A 178)) (hp : PL A C) (he : ∀ v, v < 8 → lv N (A 153 v)) : ∀ (c i : Nat) (L : CL), i ≤ 10000 → 10000 = i + c → COK N C L → SW l D cy mX12_labelCode d 0 0 0 0 87 [(0, .ref 150), (1, .int (nI i))] [] n (md f (clS s (L)) (clA A (L))) (sw_D none n (md f (clS s (cLp A (s 4) C c L)) (clA A (cLp A (s 4) C c L)))) (fun _ _ _ => False) := by
  intro c
  induction c with
  | zero =>
    intro i L hi hc hL
    refine sw_iload_n dX12_labelCode_87 rfl ?_
    refine sw_sipush (x := 10000) dX12_labelCode_88 (by decide) ?_
    refine sw_icmp_ge 172 dX12_labelCode_91 (by decide) (fun h91 => ?_) (fun h91 => ?_)
    · exact sw_vret dX12_labelCode_172 rfl (by omega) (by omega) ⟨rfl, rfl, rfl⟩
    · exact absurd (show (10000 : Int32) ≤ nI i by rw [show i = 10000 by omega]; decide) h91
  | succ c ih =>
    intro i L hi hc hL
    refine sw_iload_n dX12_labelCode_87 rfl ?_
    refine sw_sipush (x := 10000) dX12_labelCode_88 (by decide) ?_
    refine sw_icmp_ge 172 dX12_labelCode_91 (by decide) (fun h91 => ?_) (fun h91 => ?_)
    · exact absurd ((nI_leI (a := 10000) (b := i) (by omega) (by omega)).mp (by rw [← nl_10000]; exact h91)) (by omega)
    · refine sw_aload_n dX12_labelCode_94 rfl (by first | rfl | assumption) ?_
      refine sw_get dX12_labelCode_95 fr_X12_207 rfl rfl ?_
      refine sw_top (y := bz L.2.2) rfl ?_
      refine sw_if_eq 172 dX12_labelCode_98 (by decide) (fun h98 => ?_) (fun h98 => ?_)
      · (rw [cLp, if_neg (by rw [bz_0.mp h98]; decide)]; exact sw_vret dX12_labelCode_172 rfl (by omega) (by omega) ⟨rfl, rfl, rfl⟩)
      · rw [cLp, if_pos (bz_ne.mp h98)]
        refine sw_aload_n dX12_labelCode_101 rfl (by first | rfl | assumption) ?_
        refine sw_iconst (x := 0) dX12_labelCode_102 (by decide) ?_
        refine m_put dX12_labelCode_103 fl_X12_207 (by decide) (by first | exact sw_fit_z0 | exact sw_fit_z1 | exact sw_fit_z _) rfl ?_
        refine m_eq (s' := clS s (cMo L false)) (A' := clA A (cMo L false)) (cl_m s L false) rfl ?_
        refine sw_iconst (x := 0) dX12_labelCode_106 (by decide) ?_
        refine sw_istore_n [(0, _), (1, _), (2, _)] dX12_labelCode_107 (by decide) rfl ?_
        refine l_X12_lc3 (by omega) hCb hp.1 hN hJ he 9 0 _ (by omega) (by omega) (cMo_ok hL) ?_
        refine sw_iconst (x := 0) dX12_labelCode_131 (by decide) ?_
        refine sw_istore_n [(0, _), (1, _), (2, _)] dX12_labelCode_132 (by decide) rfl ?_
        refine l_X12_lc4 hd hC hCb hN hJ hb hW hp (C + 1) 0 _ (by omega) (by omega) (cEn_ok hN hJ hp.1 he 8 0 _ (by omega) (cMo_ok hL)) ?_
        first | refine sw_inc1 [(0, _), (1, _)] dX12_labelCode_166 rfl (by decide) rfl ?_ | refine sw_iinc [(0, _), (1, _)] dX12_labelCode_166 rfl (by decide) rfl ?_
        refine sw_goto 87 dX12_labelCode_169 (by decide) ?_
        exact ih (i + 1) _ (by omega) (by omega) (cRd_ok hCb hN hJ hb hW hp he hL)
def LQ (n : Nat) (f : sw_F) (s : Nat → Int32) (A : Nat → Nat → Int32) (C : Nat) : sw_Q := fun r n' f' => ∃ S P G Th L, n' = n ∧ r = none ∧ RGO A C C G ∧ L = cLp (fA A S P G Th) (s 4) C 10000 (cI0 (s 4) A C) ∧ f' = md f (clS s L) (clA (fA A S P G Th) L)
set_option maxRecDepth 100000 in
theorem c_X12_labelCode {l : Launch} {D : va_G} {cy : Nat → ClassId} {d n : Nat} {f : sw_F} {s : Nat → Int32} {A : Nat → Nat → Int32} (hd : 3 ≤ d) {C : Nat} (hC : s 36 = nI C) (hCb : C ≤ 100) {N : Nat} (hN : N ≤ 6) (hJ : JOK N A) (hb : lv N (s 4)) (hW : HL A C (A 178)) (hp : PL A C) (he : ∀ v, v < 8 → lv N (A 153 v)) : sw_Ct l D cy mX12_labelCode d 0 0 [.ref 150] n (md f s A) (LQ n f s A C) := by
  refine sw_of rfl (Nat.le_of_ble_eq_true rfl) ?_
  show SW l D cy mX12_labelCode d 0 0 0 0 0 [(0, .ref 150)] [] n (md f s A) _ _
  refine sw_iconst (x := 0) dX12_labelCode_0 (by decide) ?_
  refine sw_istore_n [(0, _), (1, _)] dX12_labelCode_1 (by decide) rfl ?_
  rw [show md f s A = md f s (va_up A 183 (fillF (fun _ => s 4) (A 183) 0)) by rw [fill_0, vu_id]]
  refine l_X12_lc1 hC hCb ?_ (16 * C + 1) 0 (by omega) (by omega)
  refine sw_iconst (x := 0) dX12_labelCode_29 (by decide) ?_
  refine sw_istore_n [(0, _), (1, _)] dX12_labelCode_30 (by decide) rfl ?_
  rw [show va_up A 183 (fillF (fun _ => s 4) (A 183) (16 * C)) = clA (fA A (A 179) (A 180) (A 181) (A 182)) (fillF (fun _ => s 4) (A 183) (16 * C), fillF (fun _ => s 4) (A 184) 0, false) by rw [← fA_0, fill_0]; unfold clA; exact (vu_id (va_up A 183 (fillF (fun _ => s 4) (A 183) (16 * C))) 184).symm]
  refine l_X12_lc2 hd hC hCb hW (fun S P G Th hG => ?_) (C + 1) 0 _ _ _ _ (by omega) (by omega) (fun j hj => absurd hj (by omega))
  refine sw_aload_n dX12_labelCode_80 rfl (by first | rfl | assumption) ?_
  refine sw_iconst (x := 1) dX12_labelCode_81 (by decide) ?_
  refine m_put dX12_labelCode_82 fl_X12_207 (by decide) (by first | exact sw_fit_z0 | exact sw_fit_z1 | exact sw_fit_z _) rfl ?_
  refine sw_iconst (x := 0) dX12_labelCode_85 (by decide) ?_
  refine sw_istore_n [(0, _), (1, _)] dX12_labelCode_86 (by decide) rfl ?_
  refine m_eq (s' := clS s (cI0 (s 4) A C)) (A' := clA (fA A S P G Th) (cI0 (s 4) A C)) rfl rfl ?_
  refine sw_mono (fun r n' f' hq => ?_) (fun _ _ _ h => h) (l_X12_lc5 hd hC hCb hN (A := fA A S P G Th) hJ hb hW hp he 10000 0 (cI0 (s 4) A C) (by omega) (by omega) ⟨fun i hi => ?_, fun k hk => ?_⟩)
  · obtain ⟨h1, h2, h3⟩ := hq
    exact ⟨S, P, G, Th, _, h2, h1, hG, rfl, h3⟩
  · show lv N (fillF (fun _ => s 4) (A 183) (16 * C) i)
    rw [fill_lt hi]
    exact hb
  · show lv N (fillF (fun _ => s 4) (A 184) C k)
    rw [fill_lt hk]
    exact hb
