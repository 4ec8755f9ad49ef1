/-! ===== THE REFERENCE: comesToEnd: seen, pile, how many wait ===== -/
abbrev DS : Type := (Nat → Int32) × (Nat → Int32) × Nat
def dA (A : Nat → Nat → Int32) (S P : Nat → Int32) : Nat → Nat → Int32 := va_up (va_up A 179 S) 180 P
def psh (E : DS) (t : Int32) : DS := if 0 ≤ t ∧ E.1 t.toNatClampNeg = 0 then (upd E.1 t.toNatClampNeg 1, upd E.2.1 E.2.2 t, E.2.2 + 1) else E
def dtop (E : DS) : Nat := (E.2.1 (E.2.2 - 1)).toNatClampNeg
def dpop (E : DS) : DS := (E.1, E.2.1, E.2.2 - 1)
def dst (A : Nat → Nat → Int32) (E : DS) : DS := psh (psh (dpop E) (r_nx A (dtop E) (nI 0))) (r_nx A (dtop E) (nI 1))
def drn (A : Nat → Nat → Int32) : Nat → DS → Bool × DS
  | 0, E => (false, E)
  | c + 1, E => if E.2.2 = 0 then (false, E) else if A 176 (dtop E) = 9 then (true, dpop E) else drn A c (dst A E)
def unm (S : Nat → Int32) : Nat → Nat
  | 0 => 0
  | c + 1 => unm S c + (if S c = 0 then 1 else 0)
theorem unm_le (S : Nat → Int32) : ∀ c, unm S c ≤ c
  | 0 => Nat.le_refl 0
  | c + 1 => by
    have := unm_le S c
    rw [unm]
    split <;> omega
theorem unm_ge {S : Nat → Int32} {t : Nat} {x : Int32} : ∀ c, c ≤ t → unm (upd S t x) c = unm S c
  | 0, _ => rfl
  | c + 1, h => by
    have e : upd S t x c = S c := by
      unfold upd
      rw [if_neg (by omega)]
    rw [unm, unm, unm_ge c (by omega), e]
theorem unm_up {S : Nat → Int32} {t : Nat} (h0 : S t = 0) : ∀ c, t < c → unm (upd S t 1) c + 1 = unm S c
  | 0, h => absurd h (by omega)
  | c + 1, h => by
    rw [unm, unm]
    by_cases e : c = t
    · subst e
      rw [unm_ge c (Nat.le_refl c), if_pos h0]
      unfold upd
      rw [if_pos rfl]
      rfl
    · have h1 := unm_up h0 c (by omega)
      have h2 : upd S t 1 c = S c := by
        unfold upd
        rw [if_neg e]
      rw [h2]
      omega
/-- R holds of places of the code alone, and where it holds of an instruction it holds of the next ones -/
def RC (A : Nat → Nat → Int32) (C : Nat) (R : Nat → Prop) : Prop := ∀ k, R k → k < C ∧ ∀ w, w < 2 → r_nx A k (nI w) < 0 ∨ ∃ t, R t ∧ r_nx A k (nI w) = nI t
def DOK (R : Nat → Prop) (C : Nat) (E : DS) : Prop := E.2.2 + unm E.1 C ≤ C + 1 ∧ ∀ i, i < E.2.2 → ∃ m, R m ∧ E.2.1 i = nI m
theorem i32_nlt0 {m : Nat} (h : m < 2147483648) : ¬ nI m < 0 := by
  rw [show (0 : Int32) = nI 0 from nl_0, nI_ltI h (by omega)]
  omega
theorem i32_le0 {m : Nat} (h : m < 2147483648) : 0 ≤ nI m := by
  rw [show (0 : Int32) = nI 0 from nl_0, nI_leI (by omega) h]
  omega
theorem psh_ok {R : Nat → Prop} {C : Nat} {E : DS} {t : Int32} (hC : C ≤ 100) (hR : ∀ m, R m → m < C) (hE : DOK R C E) (ht : t < 0 ∨ ∃ m, R m ∧ t = nI m) : DOK R C (psh E t) ∧ (psh E t).2.2 + unm (psh E t).1 C = E.2.2 + unm E.1 C := by
  unfold psh
  split
  · rename_i hq
    rcases ht with ht | ⟨m, hm, rfl⟩
    · exact absurd ht (by grind)
    · have hmC := hR m hm
      rw [nI_clamp (by omega)] at hq ⊢
      have h1 := unm_up hq.2 C hmC
      have h2 := hE.1
      refine ⟨⟨by show E.2.2 + 1 + unm (upd E.1 m 1) C ≤ C + 1; omega, fun i hi => ?_⟩, by show E.2.2 + 1 + unm (upd E.1 m 1) C = _; omega⟩
      by_cases e : i = E.2.2
      · exact ⟨m, hm, by show upd _ _ _ _ = _; unfold upd; rw [if_pos e]⟩
      · obtain ⟨k, hk, he⟩ := hE.2 i (by have : i < E.2.2 + 1 := hi; omega)
        exact ⟨k, hk, by show upd _ _ _ _ = _; unfold upd; rw [if_neg e]; exact he⟩
  · exact ⟨hE, rfl⟩
theorem dtop_ok {R : Nat → Prop} {C : Nat} {E : DS} (hC : C ≤ 100) (hR : ∀ m, R m → m < C) (hE : DOK R C E) (h0 : ¬ E.2.2 = 0) : R (dtop E) ∧ E.2.1 (E.2.2 - 1) = nI (dtop E) := by
  obtain ⟨m, hm, he⟩ := hE.2 (E.2.2 - 1) (by omega)
  have := hR m hm
  unfold dtop
  rw [he, nI_clamp (by omega)]
  exact ⟨hm, rfl⟩
theorem dpop_ok {R : Nat → Prop} {C : Nat} {E : DS} (hE : DOK R C E) : DOK R C (dpop E) := ⟨by have := hE.1; show E.2.2 - 1 + unm E.1 C ≤ C + 1; omega, fun i hi => hE.2 i (by have : i < E.2.2 - 1 := hi; omega)⟩
theorem dst_ok {A : Nat → Nat → Int32} {R : Nat → Prop} {C : Nat} {E : DS} (hC : C ≤ 100) (hR : RC A C R) (hE : DOK R C E) (h0 : ¬ E.2.2 = 0) : DOK R C (dst A E) ∧ (dst A E).2.2 + unm (dst A E).1 C + 1 = E.2.2 + unm E.1 C := by
  have hR' : ∀ m, R m → m < C := fun m hm => (hR m hm).1
  have h1 := (dtop_ok hC hR' hE h0).1
  have h2 := psh_ok hC hR' (dpop_ok hE) ((hR _ h1).2 0 (by omega))
  have h3 := psh_ok hC hR' h2.1 ((hR _ h1).2 1 (by omega))
  refine ⟨h3.1, ?_⟩
  have e1 := h3.2
  have e2 := h2.2
  have e3 : (dpop E).2.2 + unm (dpop E).1 C + 1 = E.2.2 + unm E.1 C := by show E.2.2 - 1 + unm E.1 C + 1 = _; omega
  unfold dst
  omega
theorem dA_2 (A : Nat → Nat → Int32) (S P S' P' : Nat → Int32) : va_up (va_up (dA A S P) 179 S') 180 P' = dA A S' P' := by
  unfold dA
  rw [vu_so _ (show 179 < 180 by decide), vu_up, vu_up]
theorem dA_0 (A : Nat → Nat → Int32) : dA A (A 179) (A 180) = A := by
  unfold dA
  rw [vu_id, vu_id]
theorem dA_s (A : Nat → Nat → Int32) (S P S' : Nat → Int32) : va_up (dA A S P) 179 S' = dA A S' P := by
  unfold dA
  rw [vu_so _ (show 179 < 180 by decide), vu_up]
theorem dA_A (A : Nat → Nat → Int32) (S P S' P' : Nat → Int32) : dA (dA A S P) S' P' = dA A S' P' := dA_2 A S P S' P'
def ce0 (A : Nat → Nat → Int32) (C : Nat) (wo : Int32) : Nat → Int32 := fillF (fun k => bz (decide (nI k = wo))) (A 179) C
def r_ce (A : Nat → Nat → Int32) (C b : Nat) (wo : Int32) : Bool × DS := if ¬ ce0 A C wo b = 0 then (false, (ce0 A C wo, A 180, 0)) else drn A (C + 1) (upd (ce0 A C wo) b 1, upd (A 180) 0 (nI b), 1)
set_option maxRecDepth 100000 in
theorem l_X12_ce1 {l : Launch} {D : va_G} {cy : Nat → ClassId} {d n : Nat} {f : sw_F} {s : Nat → Int32} {A : Nat → Nat → Int32} (hd : 1 ≤ d) {C : Nat} (hCb : C ≤ 100) {x wo : Int32} {E : DS} {k w : Nat} (hk : k < 100) (hn : E.2.2 ≤ 101) (ht : r_nx A k (nI w) < 0 ∨ ∃ t, t < C ∧ r_nx A k (nI w) = nI t) {Q : sw_Q} {QX : sw_QX} (K : SW l D cy mX12_comesToEnd d 0 0 0 0 91 [(0, .ref 150), (1, .int x), (2, .int wo), (3, .int (nI (psh E (r_nx A k (nI w))).2.2)), (4, .int (nI k)), (5, .int (nI (w + 1)))] [] n (md f s (dA A (psh E (r_nx A k (nI w))).1 (psh E (r_nx A k (nI w))).2.1)) Q QX) : SW l D cy mX12_comesToEnd d 0 0 0 0 97 [(0, .ref 150), (1, .int x), (2, .int wo), (3, .int (nI E.2.2)), (4, .int (nI k)), (5, .int (nI w))] [] n (md f s (dA A (E).1 (E).2.1)) Q QX := by
  refine sw_aload_n dX12_comesToEnd_97 rfl (by first | rfl | assumption) ?_
  refine sw_iload dX12_comesToEnd_98 rfl ?_
  refine sw_iload dX12_comesToEnd_100 rfl ?_
  refine sw_Vv dX12_comesToEnd_102 k_X12_266 mf_X12_nextOf (c_X12_nextOf (d := d - 1) hk (nI w)) rfl ⟨_, rfl, rfl⟩ (by omega) (by omega) (by omega) rfl rfl (Nat.le_of_ble_eq_true rfl) ?_
  refine sw_top (y := r_nx A k (nI w)) rfl ?_
  refine sw_istore [(0, _), (1, _), (2, _), (3, _), (4, _), (5, _), (6, _)] dX12_comesToEnd_105 (by decide) rfl ?_
  refine sw_iload dX12_comesToEnd_107 rfl ?_
  refine sw_if_lt 141 dX12_comesToEnd_109 (by decide) (fun h109 => ?_) (fun h109 => ?_)
  · first | refine sw_inc1 [(0, _), (1, _), (2, _), (3, _), (4, _), (5, _), (6, _)] dX12_comesToEnd_141 rfl (by decide) rfl ?_ | refine sw_iinc [(0, _), (1, _), (2, _), (3, _), (4, _), (5, _), (6, _)] dX12_comesToEnd_141 rfl (by decide) rfl ?_
    refine sw_goto 91 dX12_comesToEnd_144 (by decide) ?_
    refine sw_keep [0, 1, 2, 3, 4, 5] rfl ?_
    rw [psh, if_neg (fun z => absurd z.1 (Int32.not_le.mpr h109))] at K
    exact K
  · rcases ht with e1 | ⟨t, ht, he⟩
    · exact absurd e1 h109
    rw [he]
    refine sw_aload_n dX12_comesToEnd_112 rfl (by first | rfl | assumption) ?_
    refine sw_get dX12_comesToEnd_113 fr_X12_103 rfl rfl ?_
    refine sw_iload dX12_comesToEnd_116 rfl ?_
    refine sw_zaldN (t) dX12_comesToEnd_118 rfl rfl (show t < 100 by omega) (by decide) ?_
    refine sw_top (y := E.1 t) rfl ?_
    refine sw_if_ne 141 dX12_comesToEnd_119 (by decide) (fun h119 => ?_) (fun h119 => ?_)
    · first | refine sw_inc1 [(0, _), (1, _), (2, _), (3, _), (4, _), (5, _), (6, _)] dX12_comesToEnd_141 rfl (by decide) rfl ?_ | refine sw_iinc [(0, _), (1, _), (2, _), (3, _), (4, _), (5, _), (6, _)] dX12_comesToEnd_141 rfl (by decide) rfl ?_
      refine sw_goto 91 dX12_comesToEnd_144 (by decide) ?_
      refine sw_keep [0, 1, 2, 3, 4, 5] rfl ?_
      rw [he, psh, if_neg (fun z => h119 (by rw [← z.2, nI_clamp (by omega)]))] at K
      exact K
    · refine sw_aload_n dX12_comesToEnd_122 rfl (by first | rfl | assumption) ?_
      refine sw_get dX12_comesToEnd_123 fr_X12_103 rfl rfl ?_
      refine sw_iload dX12_comesToEnd_126 rfl ?_
      refine sw_iconst (x := 1) dX12_comesToEnd_128 (by decide) ?_
      refine m_zast (t) dX12_comesToEnd_129 ⟨by decide, by decide, rfl⟩ rfl (show t < 100 by omega) rfl ?_
      refine sw_aload_n dX12_comesToEnd_130 rfl (by first | rfl | assumption) ?_
      refine sw_get dX12_comesToEnd_131 fr_X12_106 rfl rfl ?_
      refine sw_iload_n dX12_comesToEnd_134 rfl ?_
      refine sw_iload dX12_comesToEnd_135 rfl ?_
      refine m_iast (E.2.2) dX12_comesToEnd_137 ⟨by decide, by decide, rfl⟩ rfl (show E.2.2 < 220 by omega) rfl ?_
      first | refine sw_inc1 [(0, _), (1, _), (2, _), (3, _), (4, _), (5, _), (6, _)] dX12_comesToEnd_138 rfl (by decide) rfl ?_ | refine sw_iinc [(0, _), (1, _), (2, _), (3, _), (4, _), (5, _), (6, _)] dX12_comesToEnd_138 rfl (by decide) rfl ?_
      first | refine sw_inc1 [(0, _), (1, _), (2, _), (3, _), (4, _), (5, _), (6, _)] dX12_comesToEnd_141 rfl (by decide) rfl ?_ | refine sw_iinc [(0, _), (1, _), (2, _), (3, _), (4, _), (5, _), (6, _)] dX12_comesToEnd_141 rfl (by decide) rfl ?_
      refine sw_goto 91 dX12_comesToEnd_144 (by decide) ?_
      refine sw_keep [0, 1, 2, 3, 4, 5] rfl ?_
      rw [he, psh, if_pos ⟨i32_le0 (by omega), by rw [nI_clamp (by omega)]; exact h119⟩, nI_clamp (by omega)] at K
      exact m_eq rfl (dA_2 _ _ _ _ _) K
set_option maxRecDepth 100000 in
theorem l_X12_ce2 {l : Launch} {D : va_G} {cy : Nat → ClassId} {d n : Nat} {f : sw_F} {s : Nat → Int32} {A : Nat → Nat → Int32} (hd : 1 ≤ d) {C : Nat} (hC : s 36 = nI C) (hCb : C ≤ 100) {R : Nat → Prop} (hR : RC A C R) {x wo : Int32} : ∀ (c : Nat) (E : DS), E.2.2 + unm E.1 C < c → DOK R C E → SW l D cy mX12_comesToEnd d 0 0 0 0 59 [(0, .ref 150), (1, .int x), (2, .int wo), (3, .int (nI E.2.2))] [] n (md f s (dA A (E).1 (E).2.1)) (sw_D (some (.int (bz (drn A c E).1))) n (md f s (dA A ((drn A c E).2).1 ((drn A c E).2).2.1))) (fun _ _ _ => False) := by
  intro c
  induction c with
  | zero => intro E h1 h2; exact absurd h1 (by omega)
  | succ c ih =>
    intro E hc hE
    have hR' : ∀ m, R m → m < C := fun m hm => (hR m hm).1
    have e0 := hE.1
    refine sw_iload_n dX12_comesToEnd_59 rfl ?_
    refine sw_if_le 150 dX12_comesToEnd_60 (by decide) (fun h60 => ?_) (fun h60 => ?_)
    · have e1 : E.2.2 = 0 := by rw [show (0 : Int32) = nI 0 from nl_0, nI_leI (by omega) (by omega)] at h60; omega
      refine sw_iconst (x := 0) dX12_comesToEnd_150 (by decide) ?_
      exact sw_iret dX12_comesToEnd_151 rfl (by first | rfl | exact bz_n _) (by omega) (by omega) ⟨by rw [drn, if_pos e1]; rfl, rfl, by rw [drn, if_pos e1]⟩
    · have e1 : ¬ E.2.2 = 0 := fun q => h60 (by rw [q]; decide)
      obtain ⟨e2, e3⟩ := dtop_ok hCb hR' hE e1
      have e4 := hR _ e2
      have e7 := e4.1
      refine sw_dec1 [(0, _), (1, _), (2, _), (3, _)] dX12_comesToEnd_63 rfl (by omega) (by decide) rfl ?_
      refine sw_aload_n dX12_comesToEnd_66 rfl (by first | rfl | assumption) ?_
      refine sw_get dX12_comesToEnd_67 fr_X12_106 rfl rfl ?_
      refine sw_iload_n dX12_comesToEnd_70 rfl ?_
      refine sw_ialdN (E.2.2 - 1) dX12_comesToEnd_71 rfl rfl (show E.2.2 - 1 < 220 by omega) (by decide) ?_
      refine sw_top (y := nI (dtop E)) e3 ?_
      refine sw_istore [(0, _), (1, _), (2, _), (3, _), (4, _)] dX12_comesToEnd_72 (by decide) rfl ?_
      refine sw_aload_n dX12_comesToEnd_74 rfl (by first | rfl | assumption) ?_
      refine sw_get dX12_comesToEnd_75 fr_X12_94 rfl rfl ?_
      refine sw_iload dX12_comesToEnd_78 rfl ?_
      refine sw_ialdN (dtop E) dX12_comesToEnd_80 rfl rfl (show dtop E < 100 by omega) (by decide) ?_
      refine sw_top (y := A 176 (dtop E)) rfl ?_
      refine sw_bipush (x := 9) dX12_comesToEnd_81 (by decide) ?_
      refine sw_icmp_ne 88 dX12_comesToEnd_83 (by decide) (fun h83 => ?_) (fun h83 => ?_)
      · have e5 := psh_ok hCb hR' (dpop_ok hE) (e4.2 0 (by omega))
        have e6 := dst_ok hCb hR hE e1
        rw [drn, if_neg e1, if_neg h83]
        refine sw_iconst (x := 0) dX12_comesToEnd_88 (by decide) ?_
        refine sw_istore [(0, _), (1, _), (2, _), (3, _), (4, _), (5, _)] dX12_comesToEnd_89 (by decide) rfl ?_
        refine sw_iload dX12_comesToEnd_91 rfl ?_
        refine sw_iconst (x := 2) dX12_comesToEnd_93 (by decide) ?_
        refine sw_icmp_ge 147 dX12_comesToEnd_94 (by decide) (fun h94 => ?_) (fun h94 => ?_)
        · exact absurd h94 (by decide)
        · refine l_X12_ce1 (E := dpop E) hd hCb (w := 0) (by omega) (by show E.2.2 - 1 ≤ 101; omega) ((e4.2 0 (by omega)).imp id (fun ⟨t, h1, h2⟩ => ⟨t, (hR t h1).1, h2⟩)) ?_
          refine sw_iload dX12_comesToEnd_91 rfl ?_
          refine sw_iconst (x := 2) dX12_comesToEnd_93 (by decide) ?_
          refine sw_icmp_ge 147 dX12_comesToEnd_94 (by decide) (fun h94 => ?_) (fun h94 => ?_)
          · exact absurd h94 (by decide)
          · refine l_X12_ce1 hd hCb (w := 1) (by omega) (by have := e5.1.1; omega) ((e4.2 1 (by omega)).imp id (fun ⟨t, h1, h2⟩ => ⟨t, (hR t h1).1, h2⟩)) ?_
            refine sw_iload dX12_comesToEnd_91 rfl ?_
            refine sw_iconst (x := 2) dX12_comesToEnd_93 (by decide) ?_
            refine sw_icmp_ge 147 dX12_comesToEnd_94 (by decide) (fun h94 => ?_) (fun h94 => ?_)
            · refine sw_goto 59 dX12_comesToEnd_147 (by decide) ?_
              refine sw_keep [0, 1, 2, 3] rfl ?_
              exact ih (dst A E) (by omega) e6.1
            · exact absurd h94 (by decide)
      · refine sw_iconst (x := 1) dX12_comesToEnd_86 (by decide) ?_
        exact sw_iret dX12_comesToEnd_87 rfl (by first | rfl | exact bz_n _) (by omega) (by omega) ⟨by rw [drn, if_neg e1, if_pos h83]; rfl, rfl, by rw [drn, if_neg e1, if_pos h83]; rfl⟩
set_option maxRecDepth 100000 in
theorem l_X12_ce3 {l : Launch} {D : va_G} {cy : Nat → ClassId} {d n : Nat} {f : sw_F} {s : Nat → Int32} {A : Nat → Nat → Int32} {C : Nat} (hC : s 36 = nI C) (hCb : C ≤ 100) {x wo : Int32} {Q : sw_Q} {QX : sw_QX} (K : SW l D cy mX12_comesToEnd d 0 0 0 0 32 [(0, .ref 150), (1, .int x), (2, .int wo)] [] n (md f s (va_up A 179 (ce0 A C wo))) Q QX) : ∀ (c i : Nat), i ≤ C → C < i + c → SW l D cy mX12_comesToEnd d 0 0 0 0 2 [(0, .ref 150), (1, .int x), (2, .int wo), (3, .int (nI i))] [] n (md f s (va_up A 179 (fillF (fun k => bz (decide (nI k = wo))) (A 179) i))) Q QX := by
  intro c
  induction c with
  | zero => intro i0 h1 h2; exact absurd h2 (by omega)
  | succ c ih =>
    intro i hi hc
    refine sw_iload_n dX12_comesToEnd_2 rfl ?_
    refine sw_aload_n dX12_comesToEnd_3 rfl (by first | rfl | assumption) ?_
    refine sw_get dX12_comesToEnd_4 fr_X12_251 rfl rfl ?_
    refine sw_top hC ?_
    refine sw_icmp_ge 32 dX12_comesToEnd_7 (by decide) (fun h7 => ?_) (fun h7 => ?_)
    · refine sw_keep [0, 1, 2] rfl ?_
      rw [show i = C from Nat.le_antisymm hi ((nI_leI (by omega) (by omega)).mp h7)]
      exact K
    · have e1 : i < C := (nI_ltI (by omega) (by omega)).mp (i32_nle.mp h7)
      refine sw_aload_n dX12_comesToEnd_10 rfl (by first | rfl | assumption) ?_
      refine sw_get dX12_comesToEnd_11 fr_X12_103 rfl rfl ?_
      refine sw_iload_n dX12_comesToEnd_14 rfl ?_
      refine sw_iload_n dX12_comesToEnd_15 rfl ?_
      refine sw_iload_n dX12_comesToEnd_16 rfl ?_
      refine sw_icmp_ne 24 dX12_comesToEnd_17 (by decide) (fun h17 => ?_) (fun h17 => ?_)
      · refine sw_iconst (x := 0) dX12_comesToEnd_24 (by decide) ?_
        refine sw_top (y := bz (decide (nI i = wo))) (by rw [decide_eq_false h17]; rfl) ?_
        refine m_zast (i) dX12_comesToEnd_25 ⟨by decide, by decide, rfl⟩ rfl (show i < 100 by omega) (bz_vp _) ?_
        first | refine sw_inc1 [(0, _), (1, _), (2, _), (3, _)] dX12_comesToEnd_26 rfl (by decide) rfl ?_ | refine sw_iinc [(0, _), (1, _), (2, _), (3, _)] dX12_comesToEnd_26 rfl (by decide) rfl ?_
        refine sw_goto 2 dX12_comesToEnd_29 (by decide) ?_
        refine m_eq rfl ?_ (ih (i + 1) (by omega) (by omega))
        rw [vu_up]
        exact congrArg (va_up A 179) (fill_1 (h := fun k => bz (decide (nI k = wo))) rfl)
      · refine sw_iconst (x := 1) dX12_comesToEnd_20 (by decide) ?_
        refine sw_goto 25 dX12_comesToEnd_21 (by decide) ?_
        refine sw_top (y := bz (decide (nI i = wo))) (by rw [decide_eq_true h17]; rfl) ?_
        refine m_zast (i) dX12_comesToEnd_25 ⟨by decide, by decide, rfl⟩ rfl (show i < 100 by omega) (bz_vp _) ?_
        first | refine sw_inc1 [(0, _), (1, _), (2, _), (3, _)] dX12_comesToEnd_26 rfl (by decide) rfl ?_ | refine sw_iinc [(0, _), (1, _), (2, _), (3, _)] dX12_comesToEnd_26 rfl (by decide) rfl ?_
        refine sw_goto 2 dX12_comesToEnd_29 (by decide) ?_
        refine m_eq rfl ?_ (ih (i + 1) (by omega) (by omega))
        rw [vu_up]
        exact congrArg (va_up A 179) (fill_1 (h := fun k => bz (decide (nI k = wo))) rfl)
set_option maxRecDepth 100000 in
theorem c_X12_comesToEnd {l : Launch} {D : va_G} {cy : Nat → ClassId} {d n : Nat} {f : sw_F} {s : Nat → Int32} {A : Nat → Nat → Int32} (hd : 1 ≤ d) {C : Nat} (hC : s 36 = nI C) (hCb : C ≤ 100) {R : Nat → Prop} (hR : RC A C R) {b : Nat} (hb : R b) (wo : Int32) : sw_Ct l D cy mX12_comesToEnd d 0 0 [.ref 150, .int (nI b), .int wo] n (md f s A) (sw_D (some (.int (bz (r_ce A C b wo).1))) n (md f s (dA A ((r_ce A C b wo).2).1 ((r_ce A C b wo).2).2.1))) := by
  refine sw_of rfl (Nat.le_of_ble_eq_true rfl) ?_
  show SW l D cy mX12_comesToEnd d 0 0 0 0 0 [(0, .ref 150), (1, .int (nI b)), (2, .int wo)] [] n (md f s A) _ _
  have hb1 := (hR b hb).1
  have q1 : va_up A 179 (fillF (fun k => bz (decide (nI k = wo))) (A 179) 0) = A := by rw [fill_0, vu_id]
  have q2 : va_up A 179 (ce0 A C wo) = dA A (ce0 A C wo) (A 180) := by
    unfold dA
    rw [show va_up (va_up A 179 (ce0 A C wo)) 180 (A 180) = va_up A 179 (ce0 A C wo) from vu_id (va_up A 179 (ce0 A C wo)) 180]
  refine sw_iconst (x := 0) dX12_comesToEnd_0 (by decide) ?_
  refine sw_istore_n [(0, _), (1, _), (2, _), (3, _)] dX12_comesToEnd_1 (by decide) rfl ?_
  refine m_eq rfl q1.symm (l_X12_ce3 hC hCb ?_ (C + 1) 0 (by omega) (by omega))
  rw [q2]
  refine sw_aload_n dX12_comesToEnd_32 rfl (by first | rfl | assumption) ?_
  refine sw_get dX12_comesToEnd_33 fr_X12_103 rfl rfl ?_
  refine sw_iload_n dX12_comesToEnd_36 rfl ?_
  refine sw_zaldN (b) dX12_comesToEnd_37 rfl rfl (show b < 100 by omega) (by decide) ?_
  refine sw_top (y := ce0 A C wo b) rfl ?_
  refine sw_if_eq 43 dX12_comesToEnd_38 (by decide) (fun h38 => ?_) (fun h38 => ?_)
  · refine sw_aload_n dX12_comesToEnd_43 rfl (by first | rfl | assumption) ?_
    refine sw_get dX12_comesToEnd_44 fr_X12_103 rfl rfl ?_
    refine sw_iload_n dX12_comesToEnd_47 rfl ?_
    refine sw_iconst (x := 1) dX12_comesToEnd_48 (by decide) ?_
    refine m_zast (b) dX12_comesToEnd_49 ⟨by decide, by decide, rfl⟩ rfl (show b < 100 by omega) rfl ?_
    refine sw_aload_n dX12_comesToEnd_50 rfl (by first | rfl | assumption) ?_
    refine sw_get dX12_comesToEnd_51 fr_X12_106 rfl rfl ?_
    refine sw_iconst (x := 0) dX12_comesToEnd_54 (by decide) ?_
    refine sw_iload_n dX12_comesToEnd_55 rfl ?_
    refine m_iast (0) dX12_comesToEnd_56 ⟨by decide, by decide, rfl⟩ nl_0 (show 0 < 220 by omega) rfl ?_
    refine sw_iconst (x := 1) dX12_comesToEnd_57 (by decide) ?_
    refine sw_istore_n [(0, _), (1, _), (2, _), (3, _)] dX12_comesToEnd_58 (by decide) rfl ?_
    have e5 : r_ce A C b wo = drn A (C + 1) (upd (ce0 A C wo) b 1, upd (A 180) 0 (nI b), 1) := by rw [r_ce, if_neg (fun z => z h38)]
    rw [e5]
    have e6 := unm_up h38 C hb1
    have e7 := unm_le (ce0 A C wo) C
    refine m_eq rfl (dA_2 _ _ _ _ _) (l_X12_ce2 hd hC hCb hR (C + 1) (upd (ce0 A C wo) b 1, upd (A 180) 0 (nI b), 1) ?_ ⟨?_, ?_⟩)
    · show 1 + unm (upd (ce0 A C wo) b 1) C < C + 1
      omega
    · show 1 + unm (upd (ce0 A C wo) b 1) C ≤ C + 1
      omega
    · intro i hi
      have hi : i < 1 := hi
      exact ⟨b, hb, by show upd _ _ _ _ = _; unfold upd; rw [if_pos (by omega)]⟩
  · refine sw_iconst (x := 0) dX12_comesToEnd_41 (by decide) ?_
    exact sw_iret dX12_comesToEnd_42 rfl (by first | rfl | exact bz_n _) (by omega) (by omega) ⟨by rw [r_ce, if_pos h38]; rfl, rfl, by rw [r_ce, if_pos h38]⟩
