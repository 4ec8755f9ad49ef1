/-! ===== THE REFERENCE: verify ===== -/
def vA (A : Nat → Nat → Int32) (W S P G Th : Nat → Int32) : Nat → Nat → Int32 := fA (va_up A 178 W) S P G Th
theorem vA_s (A : Nat → Nat → Int32) (W S P S' P' G Th : Nat → Int32) : fA (sA A W S P) S' P' G Th = vA A W S' P' G Th := by
  unfold vA fA
  rw [show va_up (va_up (sA A W S P) 179 S') 180 P' = va_up (va_up (va_up A 178 W) 179 S') 180 P' from dA_A (va_up A 178 W) S P S' P']
def vsf (A : Nat → Nat → Int32) (k v : Nat) : Bool := decide (A 178 k < 0 ∨ ¬ A 176 k = 9 ∨ ¬ A 151 (6 * (A 183 (16 * k + v)).toNatClampNeg + (A 154 v).toNatClampNeg) = 0)
def vsa (A : Nat → Nat → Int32) (k : Nat) : Bool := allF (vsf A k) 0 8
def rcd (A : Nat → Nat → Int32) : Nat → Nat → Nat → Nat
  | _, 0, m => m
  | k, c + 1, m => rcd A (k + 1) c (if A 178 k < 0 then m else m + 1)
set_option maxRecDepth 100000 in
theorem l_X12_ve1 {l : Launch} {D : va_G} {cy : Nat → ClassId} {d n : Nat} {f : sw_F} {s : Nat → Int32} {A : Nat → Nat → Int32} {C : Nat} (hCb : C ≤ 100) {N : Nat} (hN : N ≤ 6) (hl : ∀ i, i < 16 * C → lv N (A 183 i)) (hpo : ∀ v, v < 8 → lv N (A 154 v)) {k m : Nat} (hk : k < C) {Q : sw_Q} {QX : sw_QX} : ∀ (c v : Nat) (z : Bool), v ≤ 8 → 8 < v + c → SW l D cy mX12_verify d 0 0 0 0 150 [(0, .ref 150), (1, .int (bz (z && allF (vsf A k) v (8 - v)))), (2, .int (nI (m))), (3, .int (nI (k)))] [] n (md f s A) Q QX → SW l D cy mX12_verify d 0 0 0 0 76 [(0, .ref 150), (1, .int (bz (z))), (2, .int (nI (m))), (3, .int (nI (k))), (4, .int (nI v))] [] n (md f s A) Q QX := by
  intro c
  induction c with
  | zero => intro v0 z0 h1 h2; exact absurd h2 (by omega)
  | succ c ih =>
    intro v z hv hc K
    refine sw_iload dX12_verify_76 rfl ?_
    refine sw_bipush (x := 8) dX12_verify_78 (by decide) ?_
    refine sw_top nl_8 ?_
    refine sw_icmp_ge 150 dX12_verify_80 (by decide) (fun h80 => ?_) (fun h80 => ?_)
    · refine sw_keep [0, 1, 2, 3] rfl ?_
      rw [allF_end ((nI_leI (by omega) (by omega)).mp h80), Bool.and_true] at K
      exact K
    · have e1 : v < 8 := (nI_ltI (by omega) (by omega)).mp (i32_nle.mp h80)
      have J : ∀ y : Bool, y = (z && vsf A k v) → SW l D cy mX12_verify d 0 0 0 0 143 [(0, .ref 150), (1, .int (bz (z))), (2, .int (nI (m))), (3, .int (nI (k))), (4, .int (nI v))] [.int (bz y)] n (md f s A) Q QX := by
        intro y hy
        refine sw_istore_n [(0, _), (1, _), (2, _), (3, _), (4, _)] dX12_verify_143 (by decide) rfl ?_
        first | refine sw_inc1 [(0, _), (1, _), (2, _), (3, _), (4, _)] dX12_verify_144 rfl (by decide) rfl ?_ | refine sw_iinc [(0, _), (1, _), (2, _), (3, _), (4, _)] dX12_verify_144 rfl (by decide) rfl ?_
        refine sw_goto 76 dX12_verify_147 (by decide) ?_
        exact ih (v + 1) y (by omega) (by omega) (by rw [allF_step e1, ← Bool.and_assoc, ← hy] at K; exact K)
      obtain ⟨e4, e5⟩ := lv_to (hl (16 * k + v) (by omega)) hN
      obtain ⟨e6, e7⟩ := lv_to (hpo v e1) hN
      refine sw_iload_n dX12_verify_83 rfl ?_
      refine sw_if_eq 142 dX12_verify_84 (by decide) (fun h84 => ?_) (fun h84 => ?_)
      · refine sw_iconst (x := 0) dX12_verify_142 (by decide) ?_
        exact J false (by rw [bz_0.mp h84]; rfl)
      · refine sw_aload_n dX12_verify_87 rfl (by first | rfl | assumption) ?_
        refine sw_get dX12_verify_88 fr_X12_100 rfl rfl ?_
        refine sw_iload_n dX12_verify_91 rfl ?_
        refine sw_ialdN (k) dX12_verify_92 rfl rfl (show k < 100 by omega) (by decide) ?_
        refine sw_top (y := A 178 k) rfl ?_
        refine sw_if_lt 138 dX12_verify_93 (by decide) (fun h93 => ?_) (fun h93 => ?_)
        · refine sw_iconst (x := 1) dX12_verify_138 (by decide) ?_
          refine sw_goto 143 dX12_verify_139 (by decide) ?_
          exact J true (by rw [bz_ne.mp h84, vsf, decide_eq_true (Or.inl h93)]; rfl)
        · refine sw_aload_n dX12_verify_96 rfl (by first | rfl | assumption) ?_
          refine sw_get dX12_verify_97 fr_X12_94 rfl rfl ?_
          refine sw_iload_n dX12_verify_100 rfl ?_
          refine sw_ialdN (k) dX12_verify_101 rfl rfl (show k < 100 by omega) (by decide) ?_
          refine sw_top (y := A 176 k) rfl ?_
          refine sw_bipush (x := 9) dX12_verify_102 (by decide) ?_
          refine sw_icmp_ne 138 dX12_verify_104 (by decide) (fun h104 => ?_) (fun h104 => ?_)
          · refine sw_iconst (x := 1) dX12_verify_138 (by decide) ?_
            refine sw_goto 143 dX12_verify_139 (by decide) ?_
            exact J true (by rw [bz_ne.mp h84, vsf, decide_eq_true (Or.inr (Or.inl h104))]; rfl)
          · refine sw_aload_n dX12_verify_107 rfl (by first | rfl | assumption) ?_
            refine sw_get dX12_verify_108 fr_X12_13 rfl rfl ?_
            refine sw_bipush (x := 6) dX12_verify_111 (by decide) ?_
            refine sw_aload_n dX12_verify_113 rfl (by first | rfl | assumption) ?_
            refine sw_get dX12_verify_114 fr_X12_115 rfl rfl ?_
            refine sw_bipush (x := 16) dX12_verify_117 (by decide) ?_
            refine sw_iload_n dX12_verify_119 rfl ?_
            refine sw_imul dX12_verify_120 ?_
            refine sw_iload dX12_verify_121 rfl ?_
            refine sw_iadd dX12_verify_123 ?_
            refine sw_ialdN (16 * k + v) dX12_verify_124 rfl (by rw [nl_16, pk_mul, nI_add]) (show 16 * k + v < 1600 by omega) (by decide) ?_
            refine sw_top (y := A 183 (16 * k + v)) rfl ?_
            refine sw_imul dX12_verify_125 ?_
            refine sw_aload_n dX12_verify_126 rfl (by first | rfl | assumption) ?_
            refine sw_get dX12_verify_127 fr_X12_24 rfl rfl ?_
            refine sw_iload dX12_verify_130 rfl ?_
            refine sw_ialdN (v) dX12_verify_132 rfl rfl (show v < 8 by omega) (by decide) ?_
            refine sw_top (y := A 154 v) rfl ?_
            refine sw_iadd dX12_verify_133 ?_
            refine sw_zaldN (6 * (A 183 (16 * k + v)).toNatClampNeg + (A 154 v).toNatClampNeg) dX12_verify_134 rfl (by rw [e4, e6, nI_clamp (by omega), nI_clamp (by omega), nl_6, pk_mul, nI_add]) (show 6 * (A 183 (16 * k + v)).toNatClampNeg + (A 154 v).toNatClampNeg < 36 by omega) (by decide) ?_
            refine sw_top (y := A 151 (6 * (A 183 (16 * k + v)).toNatClampNeg + (A 154 v).toNatClampNeg)) rfl ?_
            refine sw_if_eq 142 dX12_verify_135 (by decide) (fun h135 => ?_) (fun h135 => ?_)
            · refine sw_iconst (x := 0) dX12_verify_142 (by decide) ?_
              exact J false (by rw [bz_ne.mp h84, vsf, decide_eq_false]; exact rfl; exact fun q => q.elim h93 (fun q => q.elim (fun q => q h104) (fun q => q h135)))
            · refine sw_iconst (x := 1) dX12_verify_138 (by decide) ?_
              refine sw_goto 143 dX12_verify_139 (by decide) ?_
              exact J true (by rw [bz_ne.mp h84, vsf, decide_eq_true (Or.inr (Or.inr h135))]; rfl)
set_option maxRecDepth 100000 in
theorem l_X12_ve2 {l : Launch} {D : va_G} {cy : Nat → ClassId} {d n : Nat} {f : sw_F} {s : Nat → Int32} {A : Nat → Nat → Int32} {C : Nat} (hC : s 36 = nI C) (hCb : C ≤ 100) {N : Nat} (hN : N ≤ 6) (hl : ∀ i, i < 16 * C → lv N (A 183 i)) (hpo : ∀ v, v < 8 → lv N (A 154 v)) {Q : sw_Q} {QX : sw_QX} : ∀ (c k m : Nat) (z : Bool), k ≤ C → C < k + c → SW l D cy mX12_verify d 0 0 0 0 156 [(0, .ref 150), (1, .int (bz (z && allF (vsa A) k (C - k)))), (2, .int (nI (rcd A k (C - k) m)))] [] n (md f s A) Q QX → SW l D cy mX12_verify d 0 0 0 0 48 [(0, .ref 150), (1, .int (bz (z))), (2, .int (nI (m))), (3, .int (nI (k)))] [] n (md f s A) Q QX := by
  intro c
  induction c with
  | zero => intro k0 m0 z0 h1 h2; exact absurd h2 (by omega)
  | succ c ih =>
    intro k m z hk hc K
    refine sw_iload_n dX12_verify_48 rfl ?_
    refine sw_aload_n dX12_verify_49 rfl (by first | rfl | assumption) ?_
    refine sw_get dX12_verify_50 fr_X12_251 rfl rfl ?_
    refine sw_top hC ?_
    refine sw_icmp_ge 156 dX12_verify_53 (by decide) (fun h53 => ?_) (fun h53 => ?_)
    · refine sw_keep [0, 1, 2] rfl ?_
      rw [show C - k = 0 by have := (nI_leI (by omega) (by omega)).mp h53; omega, allF, Bool.and_true, rcd] at K
      exact K
    · have e1 : k < C := (nI_ltI (by omega) (by omega)).mp (i32_nle.mp h53)
      refine sw_aload_n dX12_verify_56 rfl (by first | rfl | assumption) ?_
      refine sw_get dX12_verify_57 fr_X12_100 rfl rfl ?_
      refine sw_iload_n dX12_verify_60 rfl ?_
      refine sw_ialdN (k) dX12_verify_61 rfl rfl (show k < 100 by omega) (by decide) ?_
      refine sw_top (y := A 178 k) rfl ?_
      refine sw_if_lt 71 dX12_verify_62 (by decide) (fun h62 => ?_) (fun h62 => ?_)
      · refine sw_iload_n dX12_verify_71 rfl ?_
        refine sw_istore_n [(0, _), (1, _), (2, _), (3, _)] dX12_verify_72 (by decide) rfl ?_
        refine sw_iconst (x := 0) dX12_verify_73 (by decide) ?_
        refine sw_istore [(0, _), (1, _), (2, _), (3, _), (4, _)] dX12_verify_74 (by decide) rfl ?_
        refine l_X12_ve1 hCb hN hl hpo e1 9 0 z (by omega) (by omega) ?_
        first | refine sw_inc1 [(0, _), (1, _), (2, _), (3, _)] dX12_verify_150 rfl (by decide) rfl ?_ | refine sw_iinc [(0, _), (1, _), (2, _), (3, _)] dX12_verify_150 rfl (by decide) rfl ?_
        refine sw_goto 48 dX12_verify_153 (by decide) ?_
        exact ih (k + 1) _ _ (by omega) (by omega) (by rw [show C - k = (C - (k + 1)) + 1 by omega, allF, rcd, if_pos h62, ← Bool.and_assoc] at K; exact K)
      · refine sw_iload_n dX12_verify_65 rfl ?_
        refine sw_iconst (x := 1) dX12_verify_66 (by decide) ?_
        refine sw_iadd dX12_verify_67 ?_
        refine sw_top (nI_1 m) ?_
        refine sw_goto 72 dX12_verify_68 (by decide) ?_
        refine sw_istore_n [(0, _), (1, _), (2, _), (3, _)] dX12_verify_72 (by decide) rfl ?_
        refine sw_iconst (x := 0) dX12_verify_73 (by decide) ?_
        refine sw_istore [(0, _), (1, _), (2, _), (3, _), (4, _)] dX12_verify_74 (by decide) rfl ?_
        refine l_X12_ve1 hCb hN hl hpo e1 9 0 z (by omega) (by omega) ?_
        first | refine sw_inc1 [(0, _), (1, _), (2, _), (3, _)] dX12_verify_150 rfl (by decide) rfl ?_ | refine sw_iinc [(0, _), (1, _), (2, _), (3, _)] dX12_verify_150 rfl (by decide) rfl ?_
        refine sw_goto 48 dX12_verify_153 (by decide) ?_
        exact ih (k + 1) _ _ (by omega) (by omega) (by rw [show C - k = (C - (k + 1)) + 1 by omega, allF, rcd, if_neg h62, ← Bool.and_assoc] at K; exact K)
def vS (s : Nat → Int32) (L : CL) (y : Bool) : Nat → Int32 := va_up (va_up (clS (va_up (va_up (va_up s 40 1) 39 0) 0 0) L) 0 (if y = true then 0 else 2)) 39 (bz y)
def VQ (n : Nat) (f : sw_F) (s : Nat → Int32) (A : Nat → Nat → Int32) (C : Nat) : sw_Q := fun r n' f' => n' = n ∧ ((¬ SH A C ∧ r = some (.int 0) ∧ ∃ W S P, f' = md f (va_up (va_up (va_up s 40 0) 39 0) 0 1) (sA A W S P)) ∨
  (SH A C ∧ ∃ W S P G Th L y, HL A C W ∧ RGO (va_up A 178 W) C C G ∧ L = cLp (vA A W S P G Th) (s 4) C 10000 (cI0 (s 4) A C) ∧ y = allF (vsa (clA (vA A W S P G Th) L)) 0 C ∧ r = some (.int (if y = true then nI (rcd (clA (vA A W S P G Th) L) 0 C 0) else 0)) ∧ f' = md f (vS s L y) (clA (vA A W S P G Th) L)))
theorem cLp_ok {A : Nat → Nat → Int32} {x0 : Int32} {N C : Nat} (hCb : C ≤ 100) (hN : N ≤ 6) (hJ : JOK N A) (hb : lv N x0) (hW : HL A C (A 178)) (hp : PL A C) (he : ∀ v, v < 8 → lv N (A 153 v)) : ∀ (c : Nat) (L : CL), COK N C L → COK N C (cLp A x0 C c L)
  | 0, _, hL => hL
  | c + 1, L, hL => by
    rw [cLp]
    split
    · exact cLp_ok hCb hN hJ hb hW hp he c _ (cRd_ok hCb hN hJ hb hW hp he hL)
    · exact hL
theorem cI0_ok {A : Nat → Nat → Int32} {x0 : Int32} {N C : Nat} (hb : lv N x0) : COK N C (cI0 x0 A C) := ⟨fun i hi => by
  show lv N (fillF (fun _ => x0) (A 183) (16 * C) i)
  rw [fill_lt hi]
  exact hb, fun k hk => by
  show lv N (fillF (fun _ => x0) (A 184) C k)
  rw [fill_lt hk]
  exact hb⟩
set_option maxRecDepth 100000 in
theorem c_X12_verify {l : Launch} {D : va_G} {cy : Nat → ClassId} {d n : Nat} {f : sw_F} {s : Nat → Int32} {A : Nat → Nat → Int32} (hd : 4 ≤ d) {C : Nat} (hC : s 36 = nI C) (hCb : C ≤ 100) {N : Nat} (hN : N ≤ 6) (hJ : JOK N A) (hb : lv N (s 4)) (he : ∀ v, v < 8 → lv N (A 153 v)) (hpo : ∀ v, v < 8 → lv N (A 154 v)) : sw_Ct l D cy mX12_verify d 0 0 [.ref 150] n (md f s A) (VQ n f s A C) := by
  refine sw_of rfl (Nat.le_of_ble_eq_true rfl) ?_
  show SW l D cy mX12_verify d 0 0 0 0 0 [(0, .ref 150)] [] n (md f s A) _ _
  refine sw_aload_n dX12_verify_0 rfl (by first | rfl | assumption) ?_
  refine sw_aload_n dX12_verify_1 rfl (by first | rfl | assumption) ?_
  refine sw_callV dX12_verify_2 k_X12_291 mf_X12_shape ⟨_, rfl, rfl⟩ rfl (c_X12_shape (d := d - 1) (by omega) hC hCb) (by omega) ⟨by omega, by omega⟩ rfl rfl (Nat.le_of_ble_eq_true rfl) (fun r n' f' hq _ => ?_)
  obtain ⟨b, W, S, P, hn, rfl, rfl, q4, q5⟩ := hq
  have hn := hn.symm
  subst hn
  show SW l D cy mX12_verify d 0 0 0 0 5 [(0, .ref 150)] [.int (bz b), .ref 150] n (md f s (sA A W S P)) _ _
  cases b with
  | false =>
    refine m_put dX12_verify_5 fl_X12_257 (by decide) (by first | exact sw_fit_z0 | exact sw_fit_z1 | exact sw_fit_z _) rfl ?_
    refine sw_aload_n dX12_verify_8 rfl (by first | rfl | assumption) ?_
    refine sw_iconst (x := 0) dX12_verify_9 (by decide) ?_
    refine m_put dX12_verify_10 fl_X12_254 (by decide) (by first | exact sw_fit_z0 | exact sw_fit_z1 | exact sw_fit_z _) rfl ?_
    refine sw_aload_n dX12_verify_13 rfl (by first | rfl | assumption) ?_
    refine sw_aload_n dX12_verify_14 rfl (by first | rfl | assumption) ?_
    refine sw_get dX12_verify_15 fr_X12_257 rfl rfl ?_
    refine sw_if_eq 25 dX12_verify_18 (by decide) (fun h18 => ?_) (fun h18 => ?_)
    · refine sw_iconst (x := 1) dX12_verify_25 (by decide) ?_
      refine m_put dX12_verify_26 fl_X12_124 (by decide) (sw_fit_i _) rfl ?_
      refine sw_aload_n dX12_verify_29 rfl (by first | rfl | assumption) ?_
      refine sw_get dX12_verify_30 fr_X12_257 rfl rfl ?_
      refine sw_if_ne 38 dX12_verify_33 (by decide) (fun h33 => ?_) (fun h33 => ?_)
      · exact absurd (show (0 : Int32) = 0 from rfl) h33
      · refine sw_iconst (x := 0) dX12_verify_36 (by decide) ?_
        exact sw_iret dX12_verify_37 rfl (by first | rfl | exact bz_n _) (by omega) (by omega) ⟨rfl, Or.inl ⟨fun q => Bool.noConfusion (q4.mpr q), rfl, W, S, P, rfl⟩⟩
    · exact absurd rfl h18
  | true =>
    have hp : PL A C := r_pl_iff.mp (q4.mp rfl).1
    refine m_put dX12_verify_5 fl_X12_257 (by decide) (by first | exact sw_fit_z0 | exact sw_fit_z1 | exact sw_fit_z _) rfl ?_
    refine sw_aload_n dX12_verify_8 rfl (by first | rfl | assumption) ?_
    refine sw_iconst (x := 0) dX12_verify_9 (by decide) ?_
    refine m_put dX12_verify_10 fl_X12_254 (by decide) (by first | exact sw_fit_z0 | exact sw_fit_z1 | exact sw_fit_z _) rfl ?_
    refine sw_aload_n dX12_verify_13 rfl (by first | rfl | assumption) ?_
    refine sw_aload_n dX12_verify_14 rfl (by first | rfl | assumption) ?_
    refine sw_get dX12_verify_15 fr_X12_257 rfl rfl ?_
    refine sw_if_eq 25 dX12_verify_18 (by decide) (fun h18 => ?_) (fun h18 => ?_)
    · exact absurd h18 (show ¬ (1 : Int32) = 0 by decide)
    · refine sw_iconst (x := 0) dX12_verify_21 (by decide) ?_
      refine sw_goto 26 dX12_verify_22 (by decide) ?_
      refine m_put dX12_verify_26 fl_X12_124 (by decide) (sw_fit_i _) rfl ?_
      refine sw_aload_n dX12_verify_29 rfl (by first | rfl | assumption) ?_
      refine sw_get dX12_verify_30 fr_X12_257 rfl rfl ?_
      refine sw_if_ne 38 dX12_verify_33 (by decide) (fun h33 => ?_) (fun h33 => ?_)
      · refine sw_aload_n dX12_verify_38 rfl (by first | rfl | assumption) ?_
        refine sw_callV dX12_verify_39 k_X12_294 mf_X12_labelCode ⟨_, rfl, rfl⟩ rfl (c_X12_labelCode (d := d - 1) (s := va_up (va_up (va_up s 40 1) 39 0) 0 0) (A := sA A W S P) (by omega) hC hCb hN hJ hb (q5 rfl) hp he) (by omega) ⟨by omega, by omega⟩ rfl rfl (Nat.le_of_ble_eq_true rfl) (fun r n' f' hq _ => ?_)
        obtain ⟨S', P', G, Th, L, hn, rfl, hG, hLe, rfl⟩ := hq
        have hn := hn.symm
        subst hn
        rw [vA_s] at hLe ⊢
        have hLe : L = cLp (vA A W S' P' G Th) (s 4) C 10000 (cI0 (s 4) A C) := hLe
        have hG : RGO (va_up A 178 W) C C G := hG
        show SW l D cy mX12_verify d 0 0 0 0 42 [(0, .ref 150)] [] n (md f (clS (va_up (va_up (va_up s 40 1) 39 0) 0 0) L) (clA (vA A W S' P' G Th) L)) _ _
        refine sw_iconst (x := 1) dX12_verify_42 (by decide) ?_
        refine sw_istore_n [(0, _), (1, _)] dX12_verify_43 (by decide) rfl ?_
        refine sw_iconst (x := 0) dX12_verify_44 (by decide) ?_
        refine sw_istore_n [(0, _), (1, _), (2, _)] dX12_verify_45 (by decide) rfl ?_
        refine sw_iconst (x := 0) dX12_verify_46 (by decide) ?_
        refine sw_istore_n [(0, _), (1, _), (2, _), (3, _)] dX12_verify_47 (by decide) rfl ?_
        have cok := cLp_ok hCb hN (A := vA A W S' P' G Th) hJ hb (q5 rfl) hp he 10000 (cI0 (s 4) A C) (cI0_ok hb)
        rw [← hLe] at cok
        refine l_X12_ve2 (s := clS (va_up (va_up (va_up s 40 1) 39 0) 0 0) L) (A := clA (vA A W S' P' G Th) L) hC hCb hN cok.1 hpo (C + 1) 0 0 true (by omega) (by omega) ?_
        generalize hy : (true && allF (vsa (clA (vA A W S' P' G Th) L)) 0 (C - 0)) = y
        have hy2 : y = allF (vsa (clA (vA A W S' P' G Th) L)) 0 C := by rw [← hy, Bool.true_and, Nat.sub_zero]
        clear hy
        cases y with
        | false =>
          refine sw_aload_n dX12_verify_156 rfl (by first | rfl | assumption) ?_
          refine sw_iload_n dX12_verify_157 rfl ?_
          refine sw_if_eq 165 dX12_verify_158 (by decide) (fun h158 => ?_) (fun h158 => ?_)
          · refine sw_iconst (x := 2) dX12_verify_165 (by decide) ?_
            refine m_put dX12_verify_166 fl_X12_124 (by decide) (sw_fit_i _) rfl ?_
            refine sw_aload_n dX12_verify_169 rfl (by first | rfl | assumption) ?_
            refine sw_iload_n dX12_verify_170 rfl ?_
            refine m_put dX12_verify_171 fl_X12_254 (by decide) (by first | exact sw_fit_z0 | exact sw_fit_z1 | exact sw_fit_z _) rfl ?_
            refine sw_iload_n dX12_verify_174 rfl ?_
            refine sw_if_eq 182 dX12_verify_175 (by decide) (fun h175 => ?_) (fun h175 => ?_)
            · refine sw_iconst (x := 0) dX12_verify_182 (by decide) ?_
              exact sw_iret dX12_verify_183 rfl (by first | rfl | exact bz_n _) (by omega) (by omega) ⟨rfl, Or.inr ⟨q4.mp rfl, W, S', P', G, Th, L, false, q5 rfl, hG, hLe, hy2, rfl, rfl⟩⟩
            · exact absurd rfl h175
          · exact absurd rfl h158
        | true =>
          refine sw_aload_n dX12_verify_156 rfl (by first | rfl | assumption) ?_
          refine sw_iload_n dX12_verify_157 rfl ?_
          refine sw_if_eq 165 dX12_verify_158 (by decide) (fun h158 => ?_) (fun h158 => ?_)
          · exact absurd h158 (by decide)
          · refine sw_iconst (x := 0) dX12_verify_161 (by decide) ?_
            refine sw_goto 166 dX12_verify_162 (by decide) ?_
            refine m_put dX12_verify_166 fl_X12_124 (by decide) (sw_fit_i _) rfl ?_
            refine sw_aload_n dX12_verify_169 rfl (by first | rfl | assumption) ?_
            refine sw_iload_n dX12_verify_170 rfl ?_
            refine m_put dX12_verify_171 fl_X12_254 (by decide) (by first | exact sw_fit_z0 | exact sw_fit_z1 | exact sw_fit_z _) rfl ?_
            refine sw_iload_n dX12_verify_174 rfl ?_
            refine sw_if_eq 182 dX12_verify_175 (by decide) (fun h175 => ?_) (fun h175 => ?_)
            · exact absurd h175 (by decide)
            · refine sw_iload_n dX12_verify_178 rfl ?_
              refine sw_goto 183 dX12_verify_179 (by decide) ?_
              exact sw_iret dX12_verify_183 rfl (by first | rfl | exact bz_n _) (by omega) (by omega) ⟨rfl, Or.inr ⟨q4.mp rfl, W, S', P', G, Th, L, true, q5 rfl, hG, hLe, hy2, rfl, rfl⟩⟩
      · exact absurd (show ¬ (1 : Int32) = 0 by decide) (fun q => q h33)
