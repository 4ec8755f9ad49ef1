/-! ===== THE REFERENCE: expression ===== -/
/-- the parts from k on are the expression x -/
def rpE (A : Nat → Nat → Int32) : ET → Nat → Prop
  | .leaf x, k => A 159 k = nI x.1 ∧ A 160 k = nI x.2 ∧ A 162 k = -1
  | .branch q a b, k => A 159 k = 2 ∧ A 160 k = nI q ∧ A 162 k = nI (k + 1) ∧ A 164 (k + 1) = nI (k + 1 + szE a) ∧ A 164 (k + 1 + szE a) = -1 ∧ rpE A a (k + 1) ∧ rpE A b (k + 1 + szE a)
theorem rpE_cg {A A' : Nat → Nat → Int32} : ∀ (x : ET) (k : Nat), (∀ q i, k ≤ i → i < k + szE x → ¬ (i = k ∧ q = 164) → A' q i = A q i) → rpE A x k → rpE A' x k
  | .leaf x, k, h, r => by
    rw [szE] at h
    unfold rpE at r ⊢
    rw [h 159 k (by omega) (by omega) (by omega), h 160 k (by omega) (by omega) (by omega), h 162 k (by omega) (by omega) (by omega)]
    exact r
  | .branch z a b, k, h, r => by
    rw [szE] at h
    have ha := szE_pos a
    have hb := szE_pos b
    unfold rpE at r ⊢
    obtain ⟨r1, r2, r3, r4, r5, r6, r7⟩ := r
    rw [h 159 k (by omega) (by omega) (by omega), h 160 k (by omega) (by omega) (by omega), h 162 k (by omega) (by omega) (by omega), h 164 (k + 1) (by omega) (by omega) (by omega), h 164 (k + 1 + szE a) (by omega) (by omega) (by omega)]
    exact ⟨r1, r2, r3, r4, r5, rpE_cg a (k + 1) (fun q i h1 h2 h3 => h q i (by omega) (by omega) (by omega)) r6, rpE_cg b (k + 1 + szE a) (fun q i h1 h2 h3 => h q i (by omega) (by omega) (by omega)) r7⟩
def EXF (A A' : Nat → Nat → Int32) (P a : Nat) (o : Option Nat) (x : ET) : Prop := (∀ q i, i < P → ¬ (i = a ∧ (q = 162 ∨ q = 163 ∨ q = 165)) → ¬ (o = some i ∧ q = 164) → A' q i = A q i) ∧ (∀ q, q < 159 ∨ 166 < q → A' q = A q) ∧ rpE A' x P ∧ A' 164 P = -1 ∧ A' 163 a = nI P ∧ A' 165 a = A 165 a + 1 ∧ A' 162 a = (match o with | none => nI P | some _ => A 162 a) ∧ ∀ c, o = some c → A' 164 c = nI P
theorem EXF_leaf {A A' : Nat → Nat → Int32} {P a : Nat} {o : Option Nat} {w v : Nat} (ha : a < P) (h : PT A A' P a o (nI w) (nI v)) : EXF A A' P a o (.leaf (w, v)) := by
  obtain ⟨h1, h2, h3, h4, h5, h6, h7, h8, h9, h10, h11, h12, h13⟩ := h
  exact ⟨fun q i z1 z2 z3 => h1 q i (by omega) z2 z3, h2, ⟨h3, h4, h6⟩, h7, h10, h11, h12, h13⟩
theorem EXF_sum {A A1 A2 A4 : Nat → Nat → Int32} {P a z : Nat} {o : Option Nat} {x1 x2 : ET} (ha : a < P) (ho : ∀ c, o = some c → c < P) (h1 : PT A A1 P a o 2 0) (h2 : EXF A1 A2 (P + 1) P none x1) (h4 : EXF (u2 A2 160 P (nI z)) A4 (P + 1 + szE x1) P (some (P + 1)) x2) : EXF A A4 P a o (.branch z x1 x2) ∧ A4 161 P = nI a := by
  obtain ⟨f1, f2, f3, f4, f5, f6, f7, f8, f9, f10, f11, f12, f13⟩ := h1
  obtain ⟨g1, g2, g3, g4, g5, g6, g7, g8⟩ := h2
  obtain ⟨k1, k2, k3, k4, k5, k6, k7, k8⟩ := h4
  have sz := szE_pos x1
  have fr : ∀ q i, i ≤ P → ¬ (i = P ∧ (q = 160 ∨ q = 162 ∨ q = 163 ∨ q = 165)) → A4 q i = A1 q i := by
    intro q i hi hq
    rw [k1 q i (by omega) (by omega) (by intro y; have := Option.some.inj y.1; omega), u2_at, if_neg (by omega)]
    exact g1 q i (by omega) (by omega) (by intro y; exact absurd y.1 (by simp))
  refine ⟨⟨fun q i hi hq ho2 => ?_, fun q hq => ?_, ?_, ?_, ?_, ?_, ?_, fun c hc => ?_⟩, ?_⟩
  · rw [fr q i (by omega) (by omega)]
    exact f1 q i (by omega) hq ho2
  · rw [k2 q hq, u2_q _ _ (by omega), g2 q hq, f2 q hq]
  · refine ⟨?_, ?_, ?_, ?_, ?_, ?_, ?_⟩
    · rw [fr _ _ (Nat.le_refl P) (by omega)]; exact f3
    · rw [k1 160 P (by omega) (by omega) (by intro y; have := Option.some.inj y.1; omega), u2_at, if_pos ⟨rfl, rfl⟩]
    · have k7 : A4 162 P = u2 A2 160 P (nI z) 162 P := k7
      rw [k7, u2_q _ _ (by decide)]
      exact g7
    · exact k8 _ rfl
    · exact k4
    · refine rpE_cg x1 (P + 1) (fun q i y1 y2 y3 => ?_) g3
      rw [k1 q i (by omega) (by omega) (by intro y; have := Option.some.inj y.1; omega), u2_at, if_neg (by omega)]
    · exact k3
  · rw [fr _ _ (Nat.le_refl P) (by omega)]; exact f7
  · rw [fr _ a (by omega) (by omega)]; exact f10
  · rw [fr _ a (by omega) (by omega)]; exact f11
  · rw [fr _ a (by omega) (by omega)]; exact f12
  · have := ho c hc
    rw [fr _ c (by omega) (by omega)]; exact f13 c hc
  · rw [fr _ _ (Nat.le_refl P) (by omega)]; exact f5
/-! lengths -/
theorem hc_in {TX : Nat → Int32} {T p : Nat} (h : ¬ hc TX T p = 0) : p < T := by
  unfold hc at h
  by_cases z : p < T
  · exact z
  · rw [if_neg z] at h; exact absurd rfl h
theorem pN_le {TX : Nat → Int32} {T : Nat} : ∀ (k p v : Nat), p ≤ T → p ≤ (pN TX T k p v).2 ∧ (pN TX T k p v).2 ≤ T
  | 0, p, v, h => ⟨Nat.le_refl p, h⟩
  | k + 1, p, v, h => by
    rw [pN]
    by_cases z : r_dg (hc TX T p) = true
    · rw [if_pos z]
      have := hc_in (TX := TX) (T := T) (p := p) (fun y => by rw [y] at z; exact absurd z (by decide))
      have := pN_le (TX := TX) (T := T) k (p + 1) (10 * v + ((hc TX T p).toNatClampNeg - 48)) (by omega)
      omega
    · rw [if_neg z]; exact ⟨Nat.le_refl p, h⟩
theorem pN_lt {TX : Nat → Int32} {T p : Nat} (h : r_dg (hc TX T p) = true) : p < (pN TX T 3 p 0).2 ∧ (pN TX T 3 p 0).2 ≤ T := by
  rw [pN, if_pos h]
  have := hc_in (TX := TX) (T := T) (p := p) (fun y => by rw [y] at h; exact absurd h (by decide))
  have := pN_le (TX := TX) 2 (p + 1) (10 * 0 + ((hc TX T p).toNatClampNeg - 48)) (show p + 1 ≤ T by omega)
  omega
theorem r_op_i (c : Int32) : r_op c = nI (r_op c).toNatClampNeg ∧ (r_op c).toNatClampNeg ≤ 6 := by
  unfold r_op
  by_cases h1 : c = 43
  · rw [if_pos h1]; decide
  · rw [if_neg h1]
    by_cases h2 : c = 45
    · rw [if_pos h2]; decide
    · rw [if_neg h2]
      by_cases h3 : c = 42
      · rw [if_pos h3]; decide
      · rw [if_neg h3]
        by_cases h4 : c = 60
        · rw [if_pos h4]; decide
        · rw [if_neg h4]; decide
def pOK (T p : Nat) (r : Option ET × Nat) : Prop := p ≤ r.2 ∧ r.2 ≤ T ∧ ∀ x, r.1 = some x → p + szE x ≤ r.2
theorem pOK_n {T p q : Nat} (h1 : p ≤ q) (h2 : q ≤ T) : pOK T p (none, q) := ⟨h1, h2, fun x hx => absurd hx (by simp)⟩
theorem pOK_s {T p q : Nat} {x : ET} (h1 : p + szE x ≤ q) (h2 : q ≤ T) : pOK T p (some x, q) := ⟨by show p ≤ q; omega, h2, fun y hy => by obtain rfl := Option.some.inj hy; exact h1⟩
theorem pE_le {TX : Nat → Int32} {T : Nat} : ∀ (F g p : Nat), p ≤ T → pOK T p (pE TX T F g p)
  | 0, g, p, h => pOK_n (Nat.le_refl p) h
  | F + 1, g, p, h => by
    rw [pE]
    by_cases c1 : r_dg (hc TX T p) = true
    · rw [if_pos c1]
      have := pN_lt c1
      exact pOK_s (by rw [szE]; omega) (by omega)
    · rw [if_neg c1]
      by_cases c2 : r_nm (hc TX T p) = true
      · rw [if_pos c2]
        have := hc_in (TX := TX) (T := T) (p := p) (fun y => by rw [y] at c2; exact absurd c2 (by decide))
        exact pOK_s (by rw [szE]; omega) (by omega)
      · rw [if_neg c2]
        by_cases c3 : hc TX T p = 40 ∧ g < 6
        · rw [if_pos c3]
          have q0 := hc_in (TX := TX) (T := T) (p := p) (fun y => by rw [y] at c3; exact absurd c3.1 (by decide))
          have i1 := pE_le (TX := TX) F (g + 1) (p + 1) (show p + 1 ≤ T by omega)
          revert i1
          generalize pE TX T F (g + 1) (p + 1) = w1
          obtain ⟨w1, q1⟩ := w1
          intro i1
          obtain ⟨i1, i2, i3⟩ := i1
          have i1 : p + 1 ≤ q1 := i1
          have i2 : q1 ≤ T := i2
          cases w1 with
          | none => exact pOK_n (by omega) i2
          | some x1 =>
            have i3 : p + 1 + szE x1 ≤ q1 := i3 x1 rfl
            show pOK T p (if r_op (hc TX T q1) = 0 then (none, q1) else _)
            by_cases c4 : r_op (hc TX T q1) = 0
            · rw [if_pos c4]
              exact pOK_n (by omega) i2
            · rw [if_neg c4]
              have q2 := hc_in (TX := TX) (T := T) (p := q1) (fun y => by rw [y] at c4; exact absurd (by decide) c4)
              have j1 := pE_le (TX := TX) F (g + 1) (q1 + 1) (show q1 + 1 ≤ T by omega)
              revert j1
              generalize pE TX T F (g + 1) (q1 + 1) = w2
              obtain ⟨w2, q2⟩ := w2
              intro j1
              obtain ⟨j1, j2, j3⟩ := j1
              have j1 : q1 + 1 ≤ q2 := j1
              have j2 : q2 ≤ T := j2
              cases w2 with
              | none => exact pOK_n (by omega) j2
              | some x2 =>
                have j3 : q1 + 1 + szE x2 ≤ q2 := j3 x2 rfl
                show pOK T p (if hc TX T q2 = 41 then _ else (none, q2))
                by_cases c5 : hc TX T q2 = 41
                · rw [if_pos c5]
                  have q3 := hc_in (TX := TX) (T := T) (p := q2) (fun y => by rw [y] at c5; exact absurd c5 (by decide))
                  exact pOK_s (by rw [szE]; omega) (by omega)
                · rw [if_neg c5]
                  exact pOK_n (by omega) j2
        · rw [if_neg c3]
          exact pOK_n (Nat.le_refl p) h
theorem pv_lt {A : Nat → Nat → Int32} {a P : Nat} {o : Option Nat} (h : PV A a P o) : ∀ c, o = some c → c < P := by
  intro c hc
  rcases h with ⟨h, _⟩ | ⟨c', h, h1, _⟩
  · rw [h] at hc; exact absurd hc (by simp)
  · rw [h] at hc
    obtain rfl := Option.some.inj hc
    exact h1
set_option maxRecDepth 100000 in
theorem l_ex {l : Launch} {D : va_G} {cy : Nat → ClassId} {d n : Nat} {f : sw_F} {s : Nat → Int32} {T st : Nat} {TX : Nat → Int32} (hd : 3 ≤ d) {Q : sw_Q} {QX : sw_QX} : ∀ (F g p P a r : Nat) (o : Option Nat) (A : Nat → Nat → Int32), TO s A T → A 158 = TX → p ≤ T → T < p + F → P ≤ p + 1 → r ≤ p → a < P → st < P → g ≤ 6 → PV A a P o → (∀ q, pE TX T F g p = (none, q) → ∀ g' P' A', (∀ z, z < 159 ∨ 166 < z → A' z = A z) → Q (some (.int 0)) n (md f (pS s q g' P') A')) → (∀ x q, pE TX T F g p = (some x, q) → ∀ r' A', r' ≤ q → EXF A A' P a o x → SW l D cy mX12_expression d 0 0 0 0 37 [(0, .ref 150), (1, .int (nI st)), (2, .int (nI a)), (3, .int (nI (r'))), (4, .int 0)] [] n (md f (pS s q g (P + szE x)) A') Q QX) → SW l D cy mX12_expression d 0 0 0 0 4 [(0, .ref 150), (1, .int (nI st)), (2, .int (nI a)), (3, .int (nI (r)))] [] n (md f (pS s (p) (g) (P)) A) Q QX := by
  intro F
  induction F with
  | zero => intro g p P a r o A hT hTX hp hF; omega
  | succ F ih =>
    intro g p P a r o A hT hTX hp hF hP hr ha hst hg hv KF K
    have hT72 := hT.2.1
    by_cases c1 : r_dg (hc TX T p) = true
    · have y := pN_lt c1
      obtain ⟨A', hA, hct⟩ := c_begin_4 (l := l) (D := D) (cy := cy) (d := d - 1) (n := n) (f := f) (e := g) (by omega) hT (p := p) (by omega) ha (by omega) hv (by rw [hTX]; exact c1)
      rw [hTX] at hA hct
      refine sw_iload_n dX12_expression_4 rfl ?_
      refine sw_bipush (x := 100) dX12_expression_5 (by decide) ?_
      refine sw_icmp_ge 141 dX12_expression_7 (by decide) (fun h7 => ?_) (fun h7 => ?_)
      · exact absurd h7 (by rw [nl_100, nI_leI (by omega) (by omega)]; omega)
      · refine sw_aload_n dX12_expression_10 rfl (by first | rfl | assumption) ?_
        refine sw_iload_n dX12_expression_11 rfl ?_
        refine sw_Vv dX12_expression_12 k_X12_186 mf_X12_begin hct rfl ⟨_, rfl, rfl⟩ (by omega) (by omega) (by omega) rfl rfl (Nat.le_of_ble_eq_true rfl) ?_
        refine sw_istore [(0, _), (1, _), (2, _), (3, _), (4, _)] dX12_expression_15 (by decide) rfl ?_
        refine sw_iload dX12_expression_17 rfl ?_
        refine sw_if_ge 24 dX12_expression_19 (by decide) (fun h19 => ?_) (fun h19 => ?_)
        · refine sw_iload dX12_expression_24 rfl ?_
          refine sw_iconst (x := 1) dX12_expression_26 (by decide) ?_
          refine sw_icmp_ne 37 dX12_expression_27 (by decide) (fun h27 => ?_) (fun h27 => ?_)
          · exact K _ _ (by rw [pE, if_pos c1]) r A' (by omega) (EXF_leaf ha hA)
          · exact absurd h27 (by decide)
        · exact absurd (by decide) h19
    by_cases c2 : r_nm (hc TX T p) = true
    · obtain ⟨A', hA, hct⟩ := c_begin_3 (l := l) (D := D) (cy := cy) (d := d - 1) (n := n) (f := f) (e := g) (by omega) hT (p := p) (by omega) ha (by omega) hv (by rw [hTX]; exact c2)
      rw [hTX] at hA
      refine sw_iload_n dX12_expression_4 rfl ?_
      refine sw_bipush (x := 100) dX12_expression_5 (by decide) ?_
      refine sw_icmp_ge 141 dX12_expression_7 (by decide) (fun h7 => ?_) (fun h7 => ?_)
      · exact absurd h7 (by rw [nl_100, nI_leI (by omega) (by omega)]; omega)
      · refine sw_aload_n dX12_expression_10 rfl (by first | rfl | assumption) ?_
        refine sw_iload_n dX12_expression_11 rfl ?_
        refine sw_Vv dX12_expression_12 k_X12_186 mf_X12_begin hct rfl ⟨_, rfl, rfl⟩ (by omega) (by omega) (by omega) rfl rfl (Nat.le_of_ble_eq_true rfl) ?_
        refine sw_istore [(0, _), (1, _), (2, _), (3, _), (4, _)] dX12_expression_15 (by decide) rfl ?_
        refine sw_iload dX12_expression_17 rfl ?_
        refine sw_if_ge 24 dX12_expression_19 (by decide) (fun h19 => ?_) (fun h19 => ?_)
        · refine sw_iload dX12_expression_24 rfl ?_
          refine sw_iconst (x := 1) dX12_expression_26 (by decide) ?_
          refine sw_icmp_ne 37 dX12_expression_27 (by decide) (fun h27 => ?_) (fun h27 => ?_)
          · exact K _ _ (by rw [pE, if_neg c1, if_pos c2]) r A' (by omega) (EXF_leaf ha hA)
          · exact absurd h27 (by decide)
        · exact absurd (by decide) h19
    by_cases c3 : hc TX T p = 40 ∧ g < 6
    · have y := hc_in (TX := TX) (T := T) (p := p) (fun y => by rw [y] at c3; exact absurd c3.1 (by decide))
      obtain ⟨A1, hA1, hct⟩ := c_begin_1 (l := l) (D := D) (cy := cy) (d := d - 1) (n := n) (f := f) (e := g) (by omega) hT (p := p) (by omega) ha (by omega) hv (by rw [hTX]; exact c3.1) c3.2
      have hTX1 : A1 158 = TX := (hA1.2.1 158 (by decide)).trans hTX
      have hT1 : TO s A1 T := TO_A hT (by rw [hTX1, hTX])
      refine sw_iload_n dX12_expression_4 rfl ?_
      refine sw_bipush (x := 100) dX12_expression_5 (by decide) ?_
      refine sw_icmp_ge 141 dX12_expression_7 (by decide) (fun h7 => ?_) (fun h7 => ?_)
      · exact absurd h7 (by rw [nl_100, nI_leI (by omega) (by omega)]; omega)
      · refine sw_aload_n dX12_expression_10 rfl (by first | rfl | assumption) ?_
        refine sw_iload_n dX12_expression_11 rfl ?_
        refine sw_Vv dX12_expression_12 k_X12_186 mf_X12_begin hct rfl ⟨_, rfl, rfl⟩ (by omega) (by omega) (by omega) rfl rfl (Nat.le_of_ble_eq_true rfl) ?_
        refine sw_istore [(0, _), (1, _), (2, _), (3, _), (4, _)] dX12_expression_15 (by decide) rfl ?_
        refine sw_iload dX12_expression_17 rfl ?_
        refine sw_if_ge 24 dX12_expression_19 (by decide) (fun h19 => ?_) (fun h19 => ?_)
        · refine sw_iload dX12_expression_24 rfl ?_
          refine sw_iconst (x := 1) dX12_expression_26 (by decide) ?_
          refine sw_icmp_ne 37 dX12_expression_27 (by decide) (fun h27 => ?_) (fun h27 => ?_)
          · exact absurd rfl h27
          · refine sw_aload_n dX12_expression_30 rfl (by first | rfl | assumption) ?_
            refine sw_get dX12_expression_31 fr_X12_171 rfl rfl ?_
            refine sw_iconst (x := 1) dX12_expression_34 (by decide) ?_
            refine sw_isub dX12_expression_35 ?_
            refine sw_top (y := nI P) (sb_1 (e := P + 1) (by omega)) ?_
            refine sw_istore_n [(0, _), (1, _), (2, _), (3, _), (4, _)] dX12_expression_36 (by decide) rfl ?_
            refine sw_iload dX12_expression_37 rfl ?_
            refine sw_if_ne 135 dX12_expression_39 (by decide) (fun h39 => ?_) (fun h39 => ?_)
            · first | refine sw_inc1 [(0, _), (1, _), (2, _), (3, _), (4, _)] dX12_expression_135 rfl (by decide) rfl ?_ | refine sw_iinc [(0, _), (1, _), (2, _), (3, _), (4, _)] dX12_expression_135 rfl (by decide) rfl ?_
              refine sw_goto 4 dX12_expression_138 (by decide) ?_
              refine sw_keep [0, 1, 2, 3] rfl ?_
              refine ih (g + 1) (p + 1) (P + 1) P (r + 1) none A1 hT1 hTX1 (by omega) (by omega) (by omega) (by omega) (by omega) (by omega) (by omega) (Or.inl ⟨rfl, hA1.2.2.2.2.2.1⟩) ?_ ?_
              · intro q w1 g' P' A' fr
                exact KF q (by rw [pE, if_neg c1, if_neg c2, if_pos c3, w1]) g' P' A' (fun z hz => by rw [fr z hz, hA1.2.1 z hz])
              · intro x1 q1 w1 r1 A2 hr1 f2
                have l1 := pE_le (TX := TX) F (g + 1) (p + 1) (show p + 1 ≤ T by omega)
                rw [w1] at l1
                have l5 : p + 1 + szE x1 ≤ q1 := l1.2.2 x1 rfl
                have l6 : q1 ≤ T := l1.2.1
                have sp := szE_pos x1
                have e3 : ∀ z, z < 159 ∨ 166 < z → A2 z = A z := fun z hz => by rw [f2.2.1 z hz, hA1.2.1 z hz]
                have e2 : A2 158 = TX := (e3 158 (by decide)).trans hTX
                have hT2 : TO s A2 T := TO_A hT (by rw [e2, hTX])
                have e4 : A2 165 P = 1 := by have y := f2.2.2.2.2.2.1; rw [y, hA1.2.2.2.2.2.2.2.1]; rfl
                by_cases c4 : r_op (hc TX T q1) = 0
                · skip
                  refine sw_iload dX12_expression_37 rfl ?_
                  refine sw_if_ne 135 dX12_expression_39 (by decide) (fun h39 => ?_) (fun h39 => ?_)
                  · exact absurd rfl h39
                  · refine sw_iload_n dX12_expression_42 rfl ?_
                    refine sw_iload_n dX12_expression_43 rfl ?_
                    refine sw_icmp_ne 64 dX12_expression_44 (by decide) (fun h44 => ?_) (fun h44 => ?_)
                    · refine sw_aload_n dX12_expression_64 rfl (by first | rfl | assumption) ?_
                      refine sw_get dX12_expression_65 fr_X12_61 rfl rfl ?_
                      refine sw_iload_n dX12_expression_68 rfl ?_
                      refine sw_ialdN (P) dX12_expression_69 rfl rfl (show P < 160 by omega) (by decide) ?_
                      refine sw_top (y := 1) e4 ?_
                      refine sw_iconst (x := 1) dX12_expression_70 (by decide) ?_
                      refine sw_icmp_ne 114 dX12_expression_71 (by decide) (fun h71 => ?_) (fun h71 => ?_)
                      · exact absurd rfl h71
                      · refine sw_aload_n dX12_expression_74 rfl (by first | rfl | assumption) ?_
                        refine sw_get dX12_expression_75 fr_X12_46 rfl rfl ?_
                        refine sw_iload_n dX12_expression_78 rfl ?_
                        refine sw_aload_n dX12_expression_79 rfl (by first | rfl | assumption) ?_
                        refine sw_Vv dX12_expression_80 k_X12_160 mf_X12_here (q_here (d := d - 1) hT2 (by omega)) rfl ⟨_, rfl, rfl⟩ (by omega) (by omega) (by omega) rfl rfl (Nat.le_of_ble_eq_true rfl) ?_
                        refine sw_top (y := hc TX T q1) (by rw [e2]) ?_
                        refine sw_Sv dX12_expression_83 k_X12_190 mf_X12_operation (c_X12_operation (d := d - 1) _) (by omega) (by omega) (by omega) rfl rfl (Nat.le_of_ble_eq_true rfl) ?_
                        refine sw_top (y := r_op (hc TX T q1)) rfl ?_
                        refine m_iast (P) dX12_expression_86 ⟨by decide, by decide, rfl⟩ rfl (show P < 160 by omega) rfl ?_
                        change SW l D cy mX12_expression d 0 0 0 0 87 _ _ n (md f (pS s (q1) (g + 1) (P + 1 + szE x1)) (u2 A2 160 P (r_op (hc TX T q1)))) _ _
                        refine sw_aload_n dX12_expression_87 rfl (by first | rfl | assumption) ?_
                        refine sw_get dX12_expression_88 fr_X12_46 rfl rfl ?_
                        refine sw_iload_n dX12_expression_91 rfl ?_
                        refine sw_ialdN (P) dX12_expression_92 rfl rfl (show P < 160 by omega) (by decide) ?_
                        refine sw_top (y := r_op (hc TX T q1)) (by rw [u2_at, if_pos ⟨rfl, rfl⟩]) ?_
                        refine sw_if_ne 98 dX12_expression_93 (by decide) (fun h93 => ?_) (fun h93 => ?_)
                        · exact absurd c4 h93
                        · refine sw_iconst (x := 0) dX12_expression_96 (by decide) ?_
                          exact sw_iret dX12_expression_97 rfl (by first | rfl | exact bz_n _) (by omega) (by omega) (KF q1 (by rw [pE, if_neg c1, if_neg c2, if_pos c3, w1]; show (if _ then _ else _ : Option ET × Nat) = _; rw [if_pos c4]) _ _ _ (fun z hz => by rw [u2_q _ _ (by omega), e3 z hz]))
                    · exact absurd (nI_inj (by omega) (by omega) h44) (by omega)
                · have l7 := hc_in (TX := TX) (T := T) (p := q1) (fun y => by rw [y] at c4; exact absurd (by decide) c4)
                  have hTX3 : u2 A2 160 P (nI (r_op (hc TX T q1)).toNatClampNeg) 158 = TX := by rw [u2_q _ _ (by decide), e2]
                  have hT3 : TO s (u2 A2 160 P (nI (r_op (hc TX T q1)).toNatClampNeg)) T := TO_A hT (by rw [hTX3, hTX])
                  refine sw_iload dX12_expression_37 rfl ?_
                  refine sw_if_ne 135 dX12_expression_39 (by decide) (fun h39 => ?_) (fun h39 => ?_)
                  · exact absurd rfl h39
                  · refine sw_iload_n dX12_expression_42 rfl ?_
                    refine sw_iload_n dX12_expression_43 rfl ?_
                    refine sw_icmp_ne 64 dX12_expression_44 (by decide) (fun h44 => ?_) (fun h44 => ?_)
                    · refine sw_aload_n dX12_expression_64 rfl (by first | rfl | assumption) ?_
                      refine sw_get dX12_expression_65 fr_X12_61 rfl rfl ?_
                      refine sw_iload_n dX12_expression_68 rfl ?_
                      refine sw_ialdN (P) dX12_expression_69 rfl rfl (show P < 160 by omega) (by decide) ?_
                      refine sw_top (y := 1) e4 ?_
                      refine sw_iconst (x := 1) dX12_expression_70 (by decide) ?_
                      refine sw_icmp_ne 114 dX12_expression_71 (by decide) (fun h71 => ?_) (fun h71 => ?_)
                      · exact absurd rfl h71
                      · refine sw_aload_n dX12_expression_74 rfl (by first | rfl | assumption) ?_
                        refine sw_get dX12_expression_75 fr_X12_46 rfl rfl ?_
                        refine sw_iload_n dX12_expression_78 rfl ?_
                        refine sw_aload_n dX12_expression_79 rfl (by first | rfl | assumption) ?_
                        refine sw_Vv dX12_expression_80 k_X12_160 mf_X12_here (q_here (d := d - 1) hT2 (by omega)) rfl ⟨_, rfl, rfl⟩ (by omega) (by omega) (by omega) rfl rfl (Nat.le_of_ble_eq_true rfl) ?_
                        refine sw_top (y := hc TX T q1) (by rw [e2]) ?_
                        refine sw_Sv dX12_expression_83 k_X12_190 mf_X12_operation (c_X12_operation (d := d - 1) _) (by omega) (by omega) (by omega) rfl rfl (Nat.le_of_ble_eq_true rfl) ?_
                        refine sw_top (y := r_op (hc TX T q1)) rfl ?_
                        refine m_iast (P) dX12_expression_86 ⟨by decide, by decide, rfl⟩ rfl (show P < 160 by omega) rfl ?_
                        change SW l D cy mX12_expression d 0 0 0 0 87 _ _ n (md f (pS s (q1) (g + 1) (P + 1 + szE x1)) (u2 A2 160 P (r_op (hc TX T q1)))) _ _
                        refine sw_aload_n dX12_expression_87 rfl (by first | rfl | assumption) ?_
                        refine sw_get dX12_expression_88 fr_X12_46 rfl rfl ?_
                        refine sw_iload_n dX12_expression_91 rfl ?_
                        refine sw_ialdN (P) dX12_expression_92 rfl rfl (show P < 160 by omega) (by decide) ?_
                        refine sw_top (y := r_op (hc TX T q1)) (by rw [u2_at, if_pos ⟨rfl, rfl⟩]) ?_
                        refine sw_if_ne 98 dX12_expression_93 (by decide) (fun h93 => ?_) (fun h93 => ?_)
                        · rw [(r_op_i (hc TX T q1)).1]
                          refine sw_aload_n dX12_expression_98 rfl (by first | rfl | assumption) ?_
                          refine sw_dup dX12_expression_99 rfl ?_
                          refine sw_get dX12_expression_100 fr_X12_157 rfl rfl ?_
                          refine sw_iconst (x := 1) dX12_expression_103 (by decide) ?_
                          refine sw_iadd dX12_expression_104 ?_
                          refine sw_top (y := nI (q1 + 1)) (nI_1 q1) ?_
                          refine m_put dX12_expression_105 fl_X12_157 (by decide) (sw_fit_i _) rfl ?_
                          rw [pS_p]
                          refine sw_iconst (x := 1) dX12_expression_108 (by decide) ?_
                          refine sw_istore [(0, _), (1, _), (2, _), (3, _), (4, _)] dX12_expression_109 (by decide) rfl ?_
                          refine sw_goto 37 dX12_expression_111 (by decide) ?_
                          refine sw_iload dX12_expression_37 rfl ?_
                          refine sw_if_ne 135 dX12_expression_39 (by decide) (fun h39 => ?_) (fun h39 => ?_)
                          · first | refine sw_inc1 [(0, _), (1, _), (2, _), (3, _), (4, _)] dX12_expression_135 rfl (by decide) rfl ?_ | refine sw_iinc [(0, _), (1, _), (2, _), (3, _), (4, _)] dX12_expression_135 rfl (by decide) rfl ?_
                            refine sw_goto 4 dX12_expression_138 (by decide) ?_
                            refine sw_keep [0, 1, 2, 3] rfl ?_
                            refine ih (g + 1) (q1 + 1) (P + 1 + szE x1) P (r1 + 1) (some (P + 1)) _ hT3 hTX3 (by omega) (by omega) (by omega) (by omega) (by omega) (by omega) (by omega) (Or.inr ⟨P + 1, rfl, by omega, by omega, ?_, ?_⟩) ?_ ?_
                            · rw [u2_q _ _ (by decide), show A2 162 P = nI (P + 1) from f2.2.2.2.2.2.2.1]
                              exact i32_nlt0 (by omega)
                            · rw [u2_q _ _ (by decide)]
                              exact f2.2.2.2.2.1
                            · intro q w2 g' P' A' fr
                              exact KF q (by rw [pE, if_neg c1, if_neg c2, if_pos c3, w1]; show (if _ then _ else _ : Option ET × Nat) = _; rw [if_neg c4, w2]) g' P' A' (fun z hz => by rw [fr z hz, u2_q _ _ (by omega), e3 z hz])
                            · intro x2 q2 w2 r2 A4 hr2 f4
                              have l2 := pE_le (TX := TX) F (g + 1) (q1 + 1) (show q1 + 1 ≤ T by omega)
                              rw [w2] at l2
                              have l3 : q1 + 1 + szE x2 ≤ q2 := l2.2.2 x2 rfl
                              have l4 : q2 ≤ T := l2.2.1
                              have e8 := EXF_sum ha (fun c hc => (pv_lt hv c hc)) hA1 f2 f4
                              have e9 : A4 165 P = 2 := by
                                have y := f4.2.2.2.2.2.1
                                rw [u2_q _ _ (by decide), show A2 165 P = 1 from by have y := f2.2.2.2.2.2.1; rw [y, hA1.2.2.2.2.2.2.2.1]; rfl] at y
                                rw [y]; rfl
                              have e11 : ∀ z, z < 159 ∨ 166 < z → A4 z = A z := e8.1.2.1
                              have hTX4 : A4 158 = TX := (e11 158 (by decide)).trans hTX
                              have hT4 : TO s A4 T := TO_A hT (by rw [hTX4, hTX])
                              by_cases c5 : hc TX T q2 = 41
                              · have e10 := (by have z := q_closes (l := l) (D := D) (cy := cy) (d := d - 1) (n := n) (f := f) (s := s) (A := A4) (T := T) (p := q2) (e := g + 1) (P := P + 1 + szE x1 + szE x2) (by omega) hT4 (by omega) (by omega) 41; rw [hTX4] at z; rw [decide_eq_true c5, if_pos c5, if_pos c5, show g + 1 - 1 = g by omega] at z; exact z)
                                refine sw_iload dX12_expression_37 rfl ?_
                                refine sw_if_ne 135 dX12_expression_39 (by decide) (fun h39 => ?_) (fun h39 => ?_)
                                · exact absurd rfl h39
                                · refine sw_iload_n dX12_expression_42 rfl ?_
                                  refine sw_iload_n dX12_expression_43 rfl ?_
                                  refine sw_icmp_ne 64 dX12_expression_44 (by decide) (fun h44 => ?_) (fun h44 => ?_)
                                  · refine sw_aload_n dX12_expression_64 rfl (by first | rfl | assumption) ?_
                                    refine sw_get dX12_expression_65 fr_X12_61 rfl rfl ?_
                                    refine sw_iload_n dX12_expression_68 rfl ?_
                                    refine sw_ialdN (P) dX12_expression_69 rfl rfl (show P < 160 by omega) (by decide) ?_
                                    refine sw_top (y := 2) e9 ?_
                                    refine sw_iconst (x := 1) dX12_expression_70 (by decide) ?_
                                    refine sw_icmp_ne 114 dX12_expression_71 (by decide) (fun h71 => ?_) (fun h71 => ?_)
                                    · refine sw_aload_n dX12_expression_114 rfl (by first | rfl | assumption) ?_
                                      refine sw_bipush (x := 41) dX12_expression_115 (by decide) ?_
                                      refine sw_Vv dX12_expression_117 k_X12_194 mf_X12_closes e10 rfl ⟨_, rfl, rfl⟩ (by omega) (by omega) (by omega) rfl rfl (Nat.le_of_ble_eq_true rfl) ?_
                                      refine sw_if_ne 125 dX12_expression_120 (by decide) (fun h120 => ?_) (fun h120 => ?_)
                                      · refine sw_aload_n dX12_expression_125 rfl (by first | rfl | assumption) ?_
                                        refine sw_get dX12_expression_126 fr_X12_49 rfl rfl ?_
                                        refine sw_iload_n dX12_expression_129 rfl ?_
                                        refine sw_ialdN (P) dX12_expression_130 rfl rfl (show P < 160 by omega) (by decide) ?_
                                        refine sw_top (y := nI a) e8.2 ?_
                                        refine sw_istore_n [(0, _), (1, _), (2, _), (3, _), (4, _)] dX12_expression_131 (by decide) rfl ?_
                                        refine sw_goto 37 dX12_expression_132 (by decide) ?_
                                        rw [show P + 1 + szE x1 + szE x2 = P + szE (.branch (r_op (hc TX T q1)).toNatClampNeg x1 x2) by rw [szE]; omega]
                                        exact K _ _ (by rw [pE, if_neg c1, if_neg c2, if_pos c3, w1]; show (if _ then _ else _ : Option ET × Nat) = _; rw [if_neg c4, w2]; show (if _ then _ else _ : Option ET × Nat) = _; rw [if_pos c5]) r2 A4 (by omega) e8.1
                                      · exact absurd h120 (by decide)
                                    · exact absurd h71 (by decide)
                                  · exact absurd (nI_inj (by omega) (by omega) h44) (by omega)
                              · have e10 := (by have z := q_closes (l := l) (D := D) (cy := cy) (d := d - 1) (n := n) (f := f) (s := s) (A := A4) (T := T) (p := q2) (e := g + 1) (P := P + 1 + szE x1 + szE x2) (by omega) hT4 (by omega) (by omega) 41; rw [hTX4] at z; rw [decide_eq_false c5, if_neg c5, if_neg c5] at z; exact z)
                                refine sw_iload dX12_expression_37 rfl ?_
                                refine sw_if_ne 135 dX12_expression_39 (by decide) (fun h39 => ?_) (fun h39 => ?_)
                                · exact absurd rfl h39
                                · refine sw_iload_n dX12_expression_42 rfl ?_
                                  refine sw_iload_n dX12_expression_43 rfl ?_
                                  refine sw_icmp_ne 64 dX12_expression_44 (by decide) (fun h44 => ?_) (fun h44 => ?_)
                                  · refine sw_aload_n dX12_expression_64 rfl (by first | rfl | assumption) ?_
                                    refine sw_get dX12_expression_65 fr_X12_61 rfl rfl ?_
                                    refine sw_iload_n dX12_expression_68 rfl ?_
                                    refine sw_ialdN (P) dX12_expression_69 rfl rfl (show P < 160 by omega) (by decide) ?_
                                    refine sw_top (y := 2) e9 ?_
                                    refine sw_iconst (x := 1) dX12_expression_70 (by decide) ?_
                                    refine sw_icmp_ne 114 dX12_expression_71 (by decide) (fun h71 => ?_) (fun h71 => ?_)
                                    · refine sw_aload_n dX12_expression_114 rfl (by first | rfl | assumption) ?_
                                      refine sw_bipush (x := 41) dX12_expression_115 (by decide) ?_
                                      refine sw_Vv dX12_expression_117 k_X12_194 mf_X12_closes e10 rfl ⟨_, rfl, rfl⟩ (by omega) (by omega) (by omega) rfl rfl (Nat.le_of_ble_eq_true rfl) ?_
                                      refine sw_if_ne 125 dX12_expression_120 (by decide) (fun h120 => ?_) (fun h120 => ?_)
                                      · exact absurd rfl h120
                                      · refine sw_iconst (x := 0) dX12_expression_123 (by decide) ?_
                                        exact sw_iret dX12_expression_124 rfl (by first | rfl | exact bz_n _) (by omega) (by omega) (KF q2 (by rw [pE, if_neg c1, if_neg c2, if_pos c3, w1]; show (if _ then _ else _ : Option ET × Nat) = _; rw [if_neg c4, w2]; show (if _ then _ else _ : Option ET × Nat) = _; rw [if_neg c5]) _ _ _ e11)
                                    · exact absurd h71 (by decide)
                                  · exact absurd (nI_inj (by omega) (by omega) h44) (by omega)
                          · exact absurd h39 (by decide)
                        · exact absurd h93 c4
                    · exact absurd (nI_inj (by omega) (by omega) h44) (by omega)
            · exact absurd h39 (by decide)
        · exact absurd (by decide) h19
    have kf := KF p (by rw [pE, if_neg c1, if_neg c2, if_neg c3]) g P A (fun _ _ => rfl)
    by_cases c4 : hc TX T p = 40
    · have hct := c_begin_0 (l := l) (D := D) (cy := cy) (d := d - 1) (n := n) (f := f) (e := g) (by omega) hT (p := p) (by omega) ha (by omega) (by rw [hTX]; exact c4) (by have : ¬ g < 6 := fun z => c3 ⟨c4, z⟩; omega)
      refine sw_iload_n dX12_expression_4 rfl ?_
      refine sw_bipush (x := 100) dX12_expression_5 (by decide) ?_
      refine sw_icmp_ge 141 dX12_expression_7 (by decide) (fun h7 => ?_) (fun h7 => ?_)
      · exact absurd h7 (by rw [nl_100, nI_leI (by omega) (by omega)]; omega)
      · refine sw_aload_n dX12_expression_10 rfl (by first | rfl | assumption) ?_
        refine sw_iload_n dX12_expression_11 rfl ?_
        refine sw_Vv dX12_expression_12 k_X12_186 mf_X12_begin hct rfl ⟨_, rfl, rfl⟩ (by omega) (by omega) (by omega) rfl rfl (Nat.le_of_ble_eq_true rfl) ?_
        refine sw_istore [(0, _), (1, _), (2, _), (3, _), (4, _)] dX12_expression_15 (by decide) rfl ?_
        refine sw_iload dX12_expression_17 rfl ?_
        refine sw_if_ge 24 dX12_expression_19 (by decide) (fun h19 => ?_) (fun h19 => ?_)
        · exact absurd h19 (by decide)
        · refine sw_iconst (x := 0) dX12_expression_22 (by decide) ?_
          exact sw_iret dX12_expression_23 rfl (by first | rfl | exact bz_n _) (by omega) (by omega) kf
    · have hct := c_begin_2 (l := l) (D := D) (cy := cy) (d := d - 1) (n := n) (f := f) (e := g) (by omega) hT (p := p) (by omega) ha (by omega) (by rw [hTX]; exact c4) (by rw [hTX]; exact Bool.eq_false_iff.mpr c2) (by rw [hTX]; exact Bool.eq_false_iff.mpr c1)
      refine sw_iload_n dX12_expression_4 rfl ?_
      refine sw_bipush (x := 100) dX12_expression_5 (by decide) ?_
      refine sw_icmp_ge 141 dX12_expression_7 (by decide) (fun h7 => ?_) (fun h7 => ?_)
      · exact absurd h7 (by rw [nl_100, nI_leI (by omega) (by omega)]; omega)
      · refine sw_aload_n dX12_expression_10 rfl (by first | rfl | assumption) ?_
        refine sw_iload_n dX12_expression_11 rfl ?_
        refine sw_Vv dX12_expression_12 k_X12_186 mf_X12_begin hct rfl ⟨_, rfl, rfl⟩ (by omega) (by omega) (by omega) rfl rfl (Nat.le_of_ble_eq_true rfl) ?_
        refine sw_istore [(0, _), (1, _), (2, _), (3, _), (4, _)] dX12_expression_15 (by decide) rfl ?_
        refine sw_iload dX12_expression_17 rfl ?_
        refine sw_if_ge 24 dX12_expression_19 (by decide) (fun h19 => ?_) (fun h19 => ?_)
        · exact absurd h19 (by decide)
        · refine sw_iconst (x := 0) dX12_expression_22 (by decide) ?_
          exact sw_iret dX12_expression_23 rfl (by first | rfl | exact bz_n _) (by omega) (by omega) kf
