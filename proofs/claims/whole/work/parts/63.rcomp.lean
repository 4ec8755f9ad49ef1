/-! ===== THE REFERENCE: compile ===== -/
theorem lLp_ok {A : Nat → Nat → Int32} {x0 : Int32} {ch : Nat → List (Nat × Nat × Nat)} {N P : Nat} (hP : P ≤ 160) (hN : N ≤ 6) (hJ : JOK N A) (hb : lv N x0) (hR : RS A P ch) (he : ∀ v, v < 8 → lv N (A 153 v)) : ∀ (c : Nat) (L : LB), LK3 N P L → LK3 N P (lLp A x0 ch P c L)
  | 0, _, hL => hL
  | c + 1, L, hL => by
    rw [lLp]
    split
    · have k9 := lRd_ok hP hN hJ hb hR he hL
      exact lLp_ok hP hN hJ hb hR he c _ ⟨k9.1, k9.2.1, k9.2.2.1⟩
    · exact hL
theorem lPG_ok {A : Nat → Nat → Int32} {x0 : Int32} {ch : Nat → List (Nat × Nat × Nat)} {N P : Nat} (hP : P ≤ 160) (hN : N ≤ 6) (hJ : JOK N A) (hb : lv N x0) (hR : RS A P ch) (he : ∀ v, v < 8 → lv N (A 153 v)) (L : LB) : LK3 N P (lPG A x0 ch P L) := by
  refine lLp_ok hP hN hJ hb hR he _ _ ⟨fun j hj => ?_, fun j hj => ?_, fun j hj => ?_⟩
  · show lv N (fillF (fun _ => x0) L.1 (8 * P) j)
    rw [fill_lt hj]; exact hb
  · show lv N (fillF (fun _ => x0) L.2.1 (8 * P) j)
    rw [fill_lt hj]; exact hb
  · show lv N (fillF (fun _ => x0) L.2.2.1 P j)
    rw [fill_lt hj]; exact hb
def cpf (A : Nat → Nat → Int32) (X : Nat → Int32) (v : Nat) : Bool := decide (¬ A 151 (6 * (X v).toNatClampNeg + (A 154 v).toNatClampNeg) = 0)
set_option maxRecDepth 100000 in
theorem l_X12_cp1 {l : Launch} {D : va_G} {cy : Nat → ClassId} {d n : Nat} {f : sw_F} {s : Nat → Int32} {A : Nat → Nat → Int32} {X : Nat → Int32} (hX : ∀ v, v < 8 → A 170 v = X v) {N : Nat} (hN : N ≤ 6) (hl : ∀ v, v < 8 → lv N (X v)) (hpo : ∀ v, v < 8 → lv N (A 154 v)) {Q : sw_Q} {QX : sw_QX} : ∀ (c v : Nat) (z : Bool), v ≤ 8 → 8 < v + c → SW l D cy mX12_compile d 0 0 0 0 124 [(0, .ref 150), (1, .int 1), (2, .int (bz (z && allF (cpf A X) v (8 - v))))] [] n (md f s (va_up A 175 (fillF X (A 175) (8)))) Q QX → SW l D cy mX12_compile d 0 0 0 0 66 [(0, .ref 150), (1, .int 1), (2, .int (bz (z))), (3, .int (nI (v)))] [] n (md f s (va_up A 175 (fillF X (A 175) (v)))) Q QX := by
  intro c
  induction c with
  | zero => intro v0 z0 h1 h2; exact absurd h2 (by omega)
  | succ c ih =>
    intro v z hv hc K
    refine sw_iload_n dX12_compile_66 rfl ?_
    refine sw_bipush (x := 8) dX12_compile_67 (by decide) ?_
    refine sw_top nl_8 ?_
    refine sw_icmp_ge 124 dX12_compile_69 (by decide) (fun h69 => ?_) (fun h69 => ?_)
    · refine sw_keep [0, 1, 2] rfl ?_
      obtain rfl : v = 8 := by have := (nI_leI (by omega) (by omega)).mp h69; omega
      rw [allF_end (Nat.le_refl 8), Bool.and_true] at K
      exact K
    · have e1 : v < 8 := (nI_ltI (by omega) (by omega)).mp (i32_nle.mp h69)
      have J : ∀ y : Bool, y = (z && cpf A X v) → SW l D cy mX12_compile d 0 0 0 0 117 [(0, .ref 150), (1, .int 1), (2, .int (bz (z))), (3, .int (nI (v)))] [.int (bz y)] n (md f s (va_up A 175 (fillF X (A 175) (v + 1)))) Q QX := by
        intro y hy
        refine sw_istore_n [(0, _), (1, _), (2, _), (3, _)] dX12_compile_117 (by decide) rfl ?_
        first | refine sw_inc1 [(0, _), (1, _), (2, _), (3, _)] dX12_compile_118 rfl (by decide) rfl ?_ | refine sw_iinc [(0, _), (1, _), (2, _), (3, _)] dX12_compile_118 rfl (by decide) rfl ?_
        refine sw_goto 66 dX12_compile_121 (by decide) ?_
        exact ih (v + 1) y (by omega) (by omega) (by rw [allF_step e1, ← Bool.and_assoc, ← hy] at K; exact K)
      obtain ⟨e4, e5⟩ := lv_to (hl v e1) hN
      obtain ⟨e6, e7⟩ := lv_to (hpo v e1) hN
      refine sw_aload_n dX12_compile_72 rfl (by first | rfl | assumption) ?_
      refine sw_get dX12_compile_73 fr_X12_91 rfl rfl ?_
      refine sw_iload_n dX12_compile_76 rfl ?_
      refine sw_aload_n dX12_compile_77 rfl (by first | rfl | assumption) ?_
      refine sw_get dX12_compile_78 fr_X12_76 rfl rfl ?_
      refine sw_iload_n dX12_compile_81 rfl ?_
      refine sw_ialdN (v) dX12_compile_82 rfl rfl (show v < 1280 by omega) (by decide) ?_
      refine sw_top (y := X v) (hX v e1) ?_
      refine m_iast (v) dX12_compile_83 ⟨by decide, by decide, rfl⟩ rfl (show v < 8 by omega) rfl ?_
      refine m_eq (A' := (va_up A 175 (fillF X (A 175) (v + 1)))) rfl (by rw [vu_up]; exact congrArg _ (fill_1 rfl)) ?_
      refine sw_iload_n dX12_compile_84 rfl ?_
      refine sw_if_eq 116 dX12_compile_85 (by decide) (fun h85 => ?_) (fun h85 => ?_)
      · refine sw_iconst (x := 0) dX12_compile_116 (by decide) ?_
        exact J false (by rw [bz_0.mp h85]; rfl)
      · refine sw_aload_n dX12_compile_88 rfl (by first | rfl | assumption) ?_
        refine sw_get dX12_compile_89 fr_X12_13 rfl rfl ?_
        refine sw_bipush (x := 6) dX12_compile_92 (by decide) ?_
        refine sw_aload_n dX12_compile_94 rfl (by first | rfl | assumption) ?_
        refine sw_get dX12_compile_95 fr_X12_91 rfl rfl ?_
        refine sw_iload_n dX12_compile_98 rfl ?_
        refine sw_ialdN (v) dX12_compile_99 rfl rfl (show v < 8 by omega) (by decide) ?_
        refine sw_top (y := X v) (fill_lt (Nat.lt_succ_self v)) ?_
        refine sw_imul dX12_compile_100 ?_
        refine sw_aload_n dX12_compile_101 rfl (by first | rfl | assumption) ?_
        refine sw_get dX12_compile_102 fr_X12_24 rfl rfl ?_
        refine sw_iload_n dX12_compile_105 rfl ?_
        refine sw_ialdN (v) dX12_compile_106 rfl rfl (show v < 8 by omega) (by decide) ?_
        refine sw_top (y := A 154 v) rfl ?_
        refine sw_iadd dX12_compile_107 ?_
        refine sw_zaldN (6 * (X v).toNatClampNeg + (A 154 v).toNatClampNeg) dX12_compile_108 rfl (by rw [e4, e6, nI_clamp (by omega), nI_clamp (by omega), nl_6, pk_mul, nI_add]) (show 6 * (X v).toNatClampNeg + (A 154 v).toNatClampNeg < 36 by omega) (by decide) ?_
        refine sw_top (y := A 151 (6 * (X v).toNatClampNeg + (A 154 v).toNatClampNeg)) rfl ?_
        refine sw_if_eq 116 dX12_compile_109 (by decide) (fun h109 => ?_) (fun h109 => ?_)
        · refine sw_iconst (x := 0) dX12_compile_116 (by decide) ?_
          exact J false (by rw [bz_ne.mp h85, cpf, decide_eq_false (fun q => q h109)]; rfl)
        · refine sw_iconst (x := 1) dX12_compile_112 (by decide) ?_
          refine sw_goto 117 dX12_compile_113 (by decide) ?_
          exact J true (by rw [bz_ne.mp h85, cpf, decide_eq_true h109]; rfl)
set_option maxRecDepth 100000 in
theorem l_X12_cp2 {l : Launch} {D : va_G} {cy : Nat → ClassId} {d n : Nat} {f : sw_F} {s : Nat → Int32} {A : Nat → Nat → Int32} {C : Nat} (hC : s 36 = nI C) (hCb : C ≤ 100) {x1 x2 : Int32} {Q : sw_Q} {QX : sw_QX} : ∀ (c k : Nat), k ≤ C → C < k + c → SW l D cy mX12_compile d 0 0 0 0 191 [(0, .ref 150), (1, .int x1), (2, .int x2)] [] n (md f s (va_up (va_up A 176 (fillF (A 173) (A 176) (C))) 177 (fillF (A 174) (A 177) (C)))) Q QX → SW l D cy mX12_compile d 0 0 0 0 153 [(0, .ref 150), (1, .int x1), (2, .int x2), (3, .int (nI k))] [] n (md f s (va_up (va_up A 176 (fillF (A 173) (A 176) (k))) 177 (fillF (A 174) (A 177) (k)))) Q QX := by
  intro c
  induction c with
  | zero => intro v0 h1 h2; exact absurd h2 (by omega)
  | succ c ih =>
    intro k hk hc K
    refine sw_iload_n dX12_compile_153 rfl ?_
    refine sw_aload_n dX12_compile_154 rfl (by first | rfl | assumption) ?_
    refine sw_get dX12_compile_155 fr_X12_251 rfl rfl ?_
    refine sw_top (y := nI C) hC ?_
    refine sw_icmp_ge 191 dX12_compile_158 (by decide) (fun h158 => ?_) (fun h158 => ?_)
    · refine sw_keep [0, 1, 2] rfl ?_
      obtain rfl : k = C := by have := (nI_leI (by omega) (by omega)).mp h158; omega
      exact K
    · have e1 : k < C := (nI_ltI (by omega) (by omega)).mp (i32_nle.mp h158)
      refine sw_aload_n dX12_compile_161 rfl (by first | rfl | assumption) ?_
      refine sw_get dX12_compile_162 fr_X12_94 rfl rfl ?_
      refine sw_iload_n dX12_compile_165 rfl ?_
      refine sw_aload_n dX12_compile_166 rfl (by first | rfl | assumption) ?_
      refine sw_get dX12_compile_167 fr_X12_85 rfl rfl ?_
      refine sw_iload_n dX12_compile_170 rfl ?_
      refine sw_ialdN (k) dX12_compile_171 rfl rfl (show k < 100 by omega) (by decide) ?_
      refine sw_top (y := A 173 k) rfl ?_
      refine m_iast (k) dX12_compile_172 ⟨by decide, by decide, rfl⟩ rfl (show k < 100 by omega) rfl ?_
      refine sw_aload_n dX12_compile_173 rfl (by first | rfl | assumption) ?_
      refine sw_get dX12_compile_174 fr_X12_97 rfl rfl ?_
      refine sw_iload_n dX12_compile_177 rfl ?_
      refine sw_aload_n dX12_compile_178 rfl (by first | rfl | assumption) ?_
      refine sw_get dX12_compile_179 fr_X12_88 rfl rfl ?_
      refine sw_iload_n dX12_compile_182 rfl ?_
      refine sw_ialdN (k) dX12_compile_183 rfl rfl (show k < 100 by omega) (by decide) ?_
      refine sw_top (y := A 174 k) rfl ?_
      refine m_iast (k) dX12_compile_184 ⟨by decide, by decide, rfl⟩ rfl (show k < 100 by omega) rfl ?_
      first | refine sw_inc1 [(0, _), (1, _), (2, _), (3, _)] dX12_compile_185 rfl (by decide) rfl ?_ | refine sw_iinc [(0, _), (1, _), (2, _), (3, _)] dX12_compile_185 rfl (by decide) rfl ?_
      refine sw_goto 153 dX12_compile_188 (by decide) ?_
      refine m_eq (A' := (va_up (va_up A 176 (fillF (A 173) (A 176) (k + 1))) 177 (fillF (A 174) (A 177) (k + 1)))) rfl ?_ (ih (k + 1) (by omega) (by omega) K)
      rw [← fill_1 (h := A 174) (g := A 177) (k := k) rfl, ← fill_1 (h := A 173) (g := A 176) (k := k) rfl, vu_so _ (show 176 < 177 by decide), vu_up, vu_up]
      rfl
def cpB (A : Nat → Nat → Int32) (L : LB) : Nat → Nat → Int32 := va_up (lbA A L) 175 (fillF L.2.1 (A 175) 8)
def cpA (A : Nat → Nat → Int32) (L : LB) (C : Nat) : Nat → Nat → Int32 := va_up (va_up (cpB A L) 176 (fillF (A 173) (A 176) C)) 177 (fillF (A 174) (A 177) C)
def cpS (s : Nat → Int32) (T P C : Nat) (L : LB) : Nat → Int32 := va_up (lbS (va_up (va_up (va_up (va_up (pS s T 0 P) 10 0) 14 (-1)) 0 0) 32 (nI C)) L) 31 1
/-- the arrays when the labels are worked out -/
def CPX (A A3 : Nat → Nat → Int32) (t : RT) : Prop := (∀ q, q < 159 ∨ 174 < q → A3 q = A q) ∧ A3 159 0 = 6 ∧ A3 162 0 = lnk t 1 ∧ rpR A3 t 1 ∧ cdR (A3 173) (A3 174) t 0 ∧ (A3 173 (lnR t) = 9 ∧ A3 174 (lnR t) = 0)
def CPQ (n : Nat) (f : sw_F) (s : Nat → Int32) (A : Nat → Nat → Int32) (T : Nat) : sw_Q := fun r n' f' => n' = n ∧
  ((∃ q, rdR (A 158) T = (none, q) ∧ r = some (.int 0) ∧ ∃ g' P' A', (∀ z, z < 159 ∨ 166 < z → A' z = A z) ∧ f' = md f (va_up (va_up (va_up (pS s q g' P') 10 0) 14 (nI q)) 0 1) A') ∨
  (∃ t A3 L L0, rdR (A 158) T = (some t, T) ∧ CPX A A3 t ∧ L = lPG A3 (s 4) (chA A3 (1 + szR t)) (1 + szR t) L0 ∧
    ((allF (cpf A L.2.1) 0 8 = false ∧ r = some (.int 0) ∧ f' = md f (va_up (cpS s T (1 + szR t) (lnR t + 1) L) 0 2) (cpB A3 L)) ∨
     (allF (cpf A L.2.1) 0 8 = true ∧ r = some (.int (nI (lnR t + 1))) ∧ f' = md f (va_up (va_up (va_up (va_up (cpS s T (1 + szR t) (lnR t + 1) L) 0 0) 36 (nI (lnR t + 1))) 39 1) 40 0) (cpA A3 L (lnR t + 1))))))
set_option maxRecDepth 100000 in
theorem c_X12_compile {l : Launch} {D : va_G} {cy : Nat → ClassId} {d n : Nat} {f : sw_F} {s : Nat → Int32} {A : Nat → Nat → Int32} (hd : 5 ≤ d) {T N : Nat} (hT : TO s A T) (hN : N ≤ 6) (hJ : JOK N A) (hb : lv N (s 4)) (he : ∀ v, v < 8 → lv N (A 153 v)) (hpo : ∀ v, v < 8 → lv N (A 154 v)) (hmo : ∃ b : Bool, s 30 = bz b) : sw_Ct l D cy mX12_compile d 0 0 [.ref 150] n (md f s A) (CPQ n f s A T) := by
  have hT72 := hT.2.1
  refine sw_of rfl (Nat.le_of_ble_eq_true rfl) ?_
  show SW l D cy mX12_compile d 0 0 0 0 0 [(0, .ref 150)] [] n (md f s A) _ _
  generalize hx : rdR (A 158) T = w
  obtain ⟨w, q⟩ := w
  refine sw_aload_n dX12_compile_0 rfl (by first | rfl | assumption) ?_
  cases w with
  | none =>
    refine sw_callV dX12_compile_1 k_X12_235 mf_X12_read ⟨_, rfl, rfl⟩ rfl (c_rd_0 (d := d - 1) (by omega) hT hx) (by omega) ⟨by omega, by omega⟩ rfl rfl (Nat.le_of_ble_eq_true rfl) (fun r n' f' hq _ => ?_)
    obtain ⟨hr, hn, g', P', A', fr, hf⟩ := hq
    have hn := hn.symm
    subst hn
    subst hr
    subst hf
    show SW l D cy mX12_compile d 0 0 0 0 4 [(0, .ref 150)] [.int 0] n (md f (pS s q g' P') A') _ _
    refine sw_istore_n [(0, _), (1, _)] dX12_compile_4 (by decide) rfl ?_
    refine sw_aload_n dX12_compile_5 rfl (by first | rfl | assumption) ?_
    refine sw_iconst (x := 0) dX12_compile_6 (by decide) ?_
    refine m_put dX12_compile_7 fl_X12_154 (by decide) (sw_fit_i _) rfl ?_
    refine sw_aload_n dX12_compile_10 rfl (by first | rfl | assumption) ?_
    refine sw_iload_n dX12_compile_11 rfl ?_
    refine sw_if_eq 19 dX12_compile_12 (by decide) (fun h12 => ?_) (fun h12 => ?_)
    · refine sw_aload_n dX12_compile_19 rfl (by first | rfl | assumption) ?_
      refine sw_get dX12_compile_20 fr_X12_157 rfl rfl ?_
      refine m_put dX12_compile_23 fl_X12_40 (by decide) (sw_fit_i _) rfl ?_
      refine sw_aload_n dX12_compile_26 rfl (by first | rfl | assumption) ?_
      refine sw_iload_n dX12_compile_27 rfl ?_
      refine sw_if_eq 35 dX12_compile_28 (by decide) (fun h28 => ?_) (fun h28 => ?_)
      · refine sw_iconst (x := 1) dX12_compile_35 (by decide) ?_
        refine m_put dX12_compile_36 fl_X12_124 (by decide) (sw_fit_i _) rfl ?_
        refine sw_iload_n dX12_compile_39 rfl ?_
        refine sw_if_ne 45 dX12_compile_40 (by decide) (fun h40 => ?_) (fun h40 => ?_)
        · exact absurd rfl h40
        · refine sw_iconst (x := 0) dX12_compile_43 (by decide) ?_
          exact sw_iret dX12_compile_44 rfl (by first | rfl | exact bz_n _) (by omega) (by omega) ⟨rfl, Or.inl ⟨q, hx, rfl, g', P', A', fr, rfl⟩⟩
      · exact absurd rfl h28
    · exact absurd rfl h12
  | some t =>
    have ok := rdR_ok hx
    have hq2 := ok.2.2
    subst hq2
    have hln := lnR_le t
    have hln2 := ok.2.1
    refine sw_callV dX12_compile_1 k_X12_235 mf_X12_read ⟨_, rfl, rfl⟩ rfl (c_rd_1 (d := d - 1) (by omega) hT hx) (by omega) ⟨by omega, by omega⟩ rfl rfl (Nat.le_of_ble_eq_true rfl) (fun r n' f' hq _ => ?_)
    obtain ⟨hr, hn, A1, x1, hf⟩ := hq
    have hn := hn.symm
    subst hn
    subst hr
    subst hf
    show SW l D cy mX12_compile d 0 0 0 0 4 [(0, .ref 150)] [.int 1] n (md f (pS s q 0 (1 + szR t)) A1) _ _
    refine sw_istore_n [(0, _), (1, _)] dX12_compile_4 (by decide) rfl ?_
    refine sw_aload_n dX12_compile_5 rfl (by first | rfl | assumption) ?_
    refine sw_iconst (x := 0) dX12_compile_6 (by decide) ?_
    refine m_put dX12_compile_7 fl_X12_154 (by decide) (sw_fit_i _) rfl ?_
    refine sw_aload_n dX12_compile_10 rfl (by first | rfl | assumption) ?_
    refine sw_iload_n dX12_compile_11 rfl ?_
    refine sw_if_eq 19 dX12_compile_12 (by decide) (fun h12 => ?_) (fun h12 => ?_)
    · exact absurd h12 (by decide)
    · refine sw_iconst (x := (-1)) dX12_compile_15 (by decide) ?_
      refine sw_goto 23 dX12_compile_16 (by decide) ?_
      refine m_put dX12_compile_23 fl_X12_40 (by decide) (sw_fit_i _) rfl ?_
      refine sw_aload_n dX12_compile_26 rfl (by first | rfl | assumption) ?_
      refine sw_iload_n dX12_compile_27 rfl ?_
      refine sw_if_eq 35 dX12_compile_28 (by decide) (fun h28 => ?_) (fun h28 => ?_)
      · exact absurd h28 (by decide)
      · refine sw_iconst (x := 0) dX12_compile_31 (by decide) ?_
        refine sw_goto 36 dX12_compile_32 (by decide) ?_
        refine m_put dX12_compile_36 fl_X12_124 (by decide) (sw_fit_i _) rfl ?_
        refine sw_iload_n dX12_compile_39 rfl ?_
        refine sw_if_ne 45 dX12_compile_40 (by decide) (fun h40 => ?_) (fun h40 => ?_)
        · refine sw_aload_n dX12_compile_45 rfl (by first | rfl | assumption) ?_
          refine sw_callV dX12_compile_46 k_X12_239 mf_X12_measure ⟨_, rfl, rfl⟩ rfl (c_X12_measure (d := d - 1) (s := (va_up (va_up (va_up (pS s q 0 (1 + szR t)) 10 0) 14 (-1)) 0 0)) (A := A1) (t := t) rfl (by omega) ok.1 x1.2.1 x1.2.2.1 x1.2.2.2.2) (by omega) ⟨by omega, by omega⟩ rfl rfl (Nat.le_of_ble_eq_true rfl) (fun r n' f' hq _ => ?_)
          obtain ⟨hr, hn, A2, m1, m2, m3, hf⟩ := hq
          have hn := hn.symm
          subst hn
          subst hr
          subst hf
          show SW l D cy mX12_compile d 0 0 0 0 49 [(0, .ref 150), (1, .int 1)] [] n (md f (va_up (va_up (va_up (pS s q 0 (1 + szR t)) 10 0) 14 (-1)) 0 0) A2) _ _
          refine sw_aload_n dX12_compile_49 rfl (by first | rfl | assumption) ?_
          refine sw_callV dX12_compile_50 k_X12_242 mf_X12_lay ⟨_, rfl, rfl⟩ rfl (c_X12_lay (d := d - 1) (s := (va_up (va_up (va_up (pS s q 0 (1 + szR t)) 10 0) 14 (-1)) 0 0)) (A := A2) (t := t) (by omega) rfl (by omega) ok.1 (by rw [m1 _ (by decide)]; exact x1.2.1) (by rw [m1 _ (by decide)]; exact x1.2.2.1) (rpR_f (fun q h1 h2 => m1 q (by omega)) t 1 x1.2.2.2.2) m2 m3) (by omega) ⟨by omega, by omega⟩ rfl rfl (Nat.le_of_ble_eq_true rfl) (fun r n' f' hq _ => ?_)
          obtain ⟨hr, hn, A3, g1, g2, g3, hf⟩ := hq
          have hn := hn.symm
          subst hn
          subst hr
          subst hf
          have x3 : CPX A A3 t := ⟨fun q hq => by rw [g1 q (by omega), m1 q (by omega), x1.1 q (by omega)], by rw [g1 _ (by decide), m1 _ (by decide)]; exact x1.2.1, by rw [g1 _ (by decide), m1 _ (by decide)]; exact x1.2.2.1, rpR_f (fun q h1 h2 => by rw [g1 q (by omega), m1 q (by omega)]) t 1 x1.2.2.2.2, g2, g3⟩
          show SW l D cy mX12_compile d 0 0 0 0 53 [(0, .ref 150), (1, .int 1)] [] n (md f (va_up (va_up (va_up (va_up (pS s q 0 (1 + szR t)) 10 0) 14 (-1)) 0 0) 32 (nI (lnR t + 1))) A3) _ _
          obtain ⟨b0, hb0⟩ : ∃ b0 : Bool, (va_up (va_up (va_up (va_up (pS s q 0 (1 + szR t)) 10 0) 14 (-1)) 0 0) 32 (nI (lnR t + 1))) 30 = bz b0 := hmo
          have hRS := RS_of (A := A3) (P := 1 + szR t) (by omega) (RW_all x3.2.2.1 x3.2.2.2.1 ok.1)
          have hJ3 : JOK N A3 := fun i j hi hj => by rw [x3.1 _ (by decide)]; exact hJ i j hi hj
          have he3 : ∀ v, v < 8 → lv N (A3 153 v) := fun v hv => by rw [x3.1 _ (by decide)]; exact he v hv
          refine m_eq (s' := lbS (va_up (va_up (va_up (va_up (pS s q 0 (1 + szR t)) 10 0) 14 (-1)) 0 0) 32 (nI (lnR t + 1))) (A3 169, A3 170, A3 171, A3 172, b0)) (A' := lbA A3 (A3 169, A3 170, A3 171, A3 172, b0)) ?_ (lb_of A3 b0) ?_
          · show _ = va_up (va_up (va_up (va_up (va_up (pS s q 0 (1 + szR t)) 10 0) 14 (-1)) 0 0) 32 (nI (lnR t + 1))) 30 (bz b0)
            rw [← hb0, vu_id]
          generalize hL0 : (A3 169, A3 170, A3 171, A3 172, b0) = L0
          refine sw_aload_n dX12_compile_53 rfl (by first | rfl | assumption) ?_
          refine sw_Vn dX12_compile_54 k_X12_245 mf_X12_labelProgram (c_X12_labelProgram (d := d - 1) (s := (va_up (va_up (va_up (va_up (pS s q 0 (1 + szR t)) 10 0) 14 (-1)) 0 0) 32 (nI (lnR t + 1)))) (by omega) rfl (by omega) hN hJ3 hb hRS he3 (by omega)) rfl ⟨_, rfl, rfl⟩ (by omega) (by omega) (by omega) rfl rfl (Nat.le_of_ble_eq_true rfl) ?_
          have k9 := lPG_ok (P := 1 + szR t) (by omega) hN hJ3 hb hRS he3 L0
          have hLe : lPG A3 ((va_up (va_up (va_up (va_up (pS s q 0 (1 + szR t)) 10 0) 14 (-1)) 0 0) 32 (nI (lnR t + 1))) 4) (chA A3 (1 + szR t)) (1 + szR t) L0 = lPG A3 (s 4) (chA A3 (1 + szR t)) (1 + szR t) L0 := rfl
          change SW l D cy mX12_compile d 0 0 0 0 57 _ _ n (md f (lbS (va_up (va_up (va_up (va_up (pS s q 0 (1 + szR t)) 10 0) 14 (-1)) 0 0) 32 (nI (lnR t + 1))) (lPG A3 (s 4) (chA A3 (1 + szR t)) (1 + szR t) L0)) (lbA A3 (lPG A3 (s 4) (chA A3 (1 + szR t)) (1 + szR t) L0))) _ _
          replace k9 : LK3 N (1 + szR t) (lPG A3 (s 4) (chA A3 (1 + szR t)) (1 + szR t) L0) := k9
          clear hLe
          generalize hLe : lPG A3 (s 4) (chA A3 (1 + szR t)) (1 + szR t) L0 = L at *
          replace hLe := hLe.symm
          refine sw_aload_n dX12_compile_57 rfl (by first | rfl | assumption) ?_
          refine sw_iconst (x := 1) dX12_compile_58 (by decide) ?_
          refine m_put dX12_compile_59 fl_X12_248 (by decide) (by first | exact sw_fit_z0 | exact sw_fit_z1 | exact sw_fit_z _) rfl ?_
          refine sw_iconst (x := 1) dX12_compile_62 (by decide) ?_
          refine sw_istore_n [(0, _), (1, _), (2, _)] dX12_compile_63 (by decide) rfl ?_
          refine sw_iconst (x := 0) dX12_compile_64 (by decide) ?_
          refine sw_istore_n [(0, _), (1, _), (2, _), (3, _)] dX12_compile_65 (by decide) rfl ?_
          refine m_eq (A' := va_up (lbA A3 L) 175 (fillF L.2.1 (lbA A3 L 175) 0)) rfl (by rw [fill_0, vu_id]) ?_
          refine l_X12_cp1 (A := lbA A3 L) (X := L.2.1) (fun v hv => rfl) hN (fun v hv => k9.2.1 v (by omega)) (fun v hv => by show lv N (A3 154 v); rw [x3.1 _ (by decide)]; exact hpo v hv) 9 0 true (by omega) (by omega) ?_
          have hy : (true && allF (cpf (lbA A3 L) L.2.1) 0 (8 - 0)) = allF (cpf A L.2.1) 0 8 := by
            rw [Bool.true_and]
            refine congrArg (fun g => allF g 0 8) (funext fun v => ?_)
            show decide (¬ A3 151 (6 * (L.2.1 v).toNatClampNeg + (A3 154 v).toNatClampNeg) = 0) = decide (¬ A 151 (6 * (L.2.1 v).toNatClampNeg + (A 154 v).toNatClampNeg) = 0)
            rw [x3.1 151 (by decide), x3.1 154 (by decide)]
          rw [hy]
          have hu : rdR (A 158) q = (some t, q) ∧ CPX A A3 t ∧ L = lPG A3 (s 4) (chA A3 (1 + szR t)) (1 + szR t) _ := ⟨hx, x3, hLe⟩
          generalize hz : allF (cpf A L.2.1) 0 8 = z
          cases z with
          | false =>
            refine sw_aload_n dX12_compile_124 rfl (by first | rfl | assumption) ?_
            refine sw_iload_n dX12_compile_125 rfl ?_
            refine sw_if_eq 133 dX12_compile_126 (by decide) (fun h126 => ?_) (fun h126 => ?_)
            · refine sw_iconst (x := 2) dX12_compile_133 (by decide) ?_
              refine m_put dX12_compile_134 fl_X12_124 (by decide) (sw_fit_i _) rfl ?_
              refine sw_iload_n dX12_compile_137 rfl ?_
              refine sw_if_ne 143 dX12_compile_138 (by decide) (fun h138 => ?_) (fun h138 => ?_)
              · exact absurd rfl h138
              · refine sw_iconst (x := 0) dX12_compile_141 (by decide) ?_
                exact sw_iret dX12_compile_142 rfl (by first | rfl | exact bz_n _) (by omega) (by omega) ⟨rfl, Or.inr ⟨t, A3, L, _, hx, x3, hLe, Or.inl ⟨hz, rfl, rfl⟩⟩⟩
            · exact absurd rfl h126
          | true =>
            refine sw_aload_n dX12_compile_124 rfl (by first | rfl | assumption) ?_
            refine sw_iload_n dX12_compile_125 rfl ?_
            refine sw_if_eq 133 dX12_compile_126 (by decide) (fun h126 => ?_) (fun h126 => ?_)
            · exact absurd h126 (by decide)
            · refine sw_iconst (x := 0) dX12_compile_129 (by decide) ?_
              refine sw_goto 134 dX12_compile_130 (by decide) ?_
              refine m_put dX12_compile_134 fl_X12_124 (by decide) (sw_fit_i _) rfl ?_
              refine sw_iload_n dX12_compile_137 rfl ?_
              refine sw_if_ne 143 dX12_compile_138 (by decide) (fun h138 => ?_) (fun h138 => ?_)
              · refine sw_aload_n dX12_compile_143 rfl (by first | rfl | assumption) ?_
                refine sw_aload_n dX12_compile_144 rfl (by first | rfl | assumption) ?_
                refine sw_get dX12_compile_145 fr_X12_200 rfl rfl ?_
                refine m_put dX12_compile_148 fl_X12_251 (by decide) (sw_fit_i _) rfl ?_
                refine sw_iconst (x := 0) dX12_compile_151 (by decide) ?_
                refine sw_istore_n [(0, _), (1, _), (2, _), (3, _)] dX12_compile_152 (by decide) rfl ?_
                refine m_eq (A' := va_up (va_up (cpB A3 L) 176 (fillF (cpB A3 L 173) (cpB A3 L 176) 0)) 177 (fillF (cpB A3 L 174) (cpB A3 L 177) 0)) rfl (by rw [fill_0, fill_0, vu_id, vu_id]; rfl) ?_
                refine l_X12_cp2 (A := cpB A3 L) (C := lnR t + 1) rfl (by omega) (lnR t + 2) 0 (by omega) (by omega) ?_
                refine sw_aload_n dX12_compile_191 rfl (by first | rfl | assumption) ?_
                refine sw_iconst (x := 1) dX12_compile_192 (by decide) ?_
                refine m_put dX12_compile_193 fl_X12_254 (by decide) (by first | exact sw_fit_z0 | exact sw_fit_z1 | exact sw_fit_z _) rfl ?_
                refine sw_aload_n dX12_compile_196 rfl (by first | rfl | assumption) ?_
                refine sw_iconst (x := 0) dX12_compile_197 (by decide) ?_
                refine m_put dX12_compile_198 fl_X12_257 (by decide) (by first | exact sw_fit_z0 | exact sw_fit_z1 | exact sw_fit_z _) rfl ?_
                refine sw_aload_n dX12_compile_201 rfl (by first | rfl | assumption) ?_
                refine sw_get dX12_compile_202 fr_X12_251 rfl rfl ?_
                exact sw_iret dX12_compile_205 rfl (by first | rfl | exact bz_n _) (by omega) (by omega) ⟨rfl, Or.inr ⟨t, A3, L, _, hx, x3, hLe, Or.inr ⟨hz, rfl, rfl⟩⟩⟩
              · exact absurd h138 (by decide)
        · exact absurd h40 (by decide)
