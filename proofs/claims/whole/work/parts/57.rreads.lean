/-! ===== THE REFERENCE: read: loop, choice ===== -/
theorem FR_1 {A1 A2 A3 A4 : Nat → Nat → Int32} {P : Nat} {e : ET} {r : RT} (h2 : EXG A1 A2 (P + 1) P e) (h3 : PT A2 A3 (P + 1 + szE e) P (some (P + 1)) 6 0) (h4 : BXF A3 A4 (P + 1 + szE e) r) : ∀ q i, i ≤ P → ¬ (i = P ∧ (q = 162 ∨ q = 163 ∨ q = 165)) → A4 q i = A1 q i := by
  intro q i z1 z2
  rw [h4.1 q i (by omega) (by omega), h3.1 q i (by omega) z2 (oS (by omega))]
  exact h2.1 q i (by omega) z2
theorem FR_2 {A4 A5 A6 : Nat → Nat → Int32} {P b c : Nat} {r : RT} (hb : P < b) (hc : b < c) (h6 : PT A4 A5 c P (some b) 6 0) (h7 : BXF A5 A6 c r) : ∀ q i, i ≤ P → ¬ (i = P ∧ (q = 162 ∨ q = 163 ∨ q = 165)) → A6 q i = A4 q i := by
  intro q i z1 z2
  rw [h7.1 q i (by omega) (by omega)]
  exact h6.1 q i (by omega) z2 (oS (by omega))
theorem MN_1 {A1 A2 A3 A4 : Nat → Nat → Int32} {P : Nat} {e : ET} {r : RT} (h0 : A1 165 P = 0) (h2 : EXG A1 A2 (P + 1) P e) (h3 : PT A2 A3 (P + 1 + szE e) P (some (P + 1)) 6 0) (h4 : BXF A3 A4 (P + 1 + szE e) r) : A4 165 P = 2 ∧ A4 162 P = nI (P + 1) ∧ A4 163 P = nI (P + 1 + szE e) := by
  have sp := szE_pos e
  rw [h4.1 165 P (by omega) (by omega), h4.1 162 P (by omega) (by omega), h4.1 163 P (by omega) (by omega), h3.2.2.2.2.2.2.2.2.2.2.1, h3.2.2.2.2.2.2.2.2.2.1, h2.2.2.2.2.2.1, h0]
  exact ⟨rfl, h3.2.2.2.2.2.2.2.2.2.2.2.1.trans h2.2.2.2.2.2.2.1, rfl⟩
theorem MN_2 {A4 A5 A6 : Nat → Nat → Int32} {P b c : Nat} {r : RT} (hb : P < b) (hc : b < c) (h0 : A4 165 P = 2) (h6 : PT A4 A5 c P (some b) 6 0) (h7 : BXF A5 A6 c r) : A6 165 P = 3 := by
  rw [h7.1 165 P (by omega) (by omega), h6.2.2.2.2.2.2.2.2.2.2.1, h0]
  rfl
set_option maxRecDepth 100000 in
theorem RD_lp {l : Launch} {D : va_G} {cy : Nat → ClassId} {d n : Nat} {f : sw_F} {s : Nat → Int32} {A : Nat → Nat → Int32} (hd : 4 ≤ d) {Q : sw_Q} {QX : sw_QX} {T F g p P a : Nat} {o : Option Nat} {TX : Nat → Int32} (ih : RDs l D cy d n f s T TX Q QX F) (hT : TO s A T) (hTX : A 158 = TX) (hp : p ≤ T) (hF : T < p + (F + 1)) (hP : P ≤ p + 1) (ha : a < P) (hg : g ≤ 6) (hw : PW A a P o) (KF : ∀ q, pR TX T (F + 1) g p = (none, q) → ∀ g' P' A', (∀ z, z < 159 ∨ 166 < z → A' z = A z) → Q (some (.int 0)) n (md f (pS s q g' P') A')) (K : ∀ t q, pR TX T (F + 1) g p = (some t, q) → ∀ A', RXF A A' P a o t → SW l D cy mX12_read d 0 0 0 0 23 [(0, .ref 150), (1, .int (nI (a)))] [] n (md f (pS s (q) (g) (P + szR t)) A') Q QX) (c1 : ¬ r_nm (hc TX T p) = true) (c4 : ¬ hc TX T p = 63) (c5 : hc TX T p = 42) : SW l D cy mX12_read d 0 0 0 0 23 [(0, .ref 150), (1, .int (nI (a)))] [] n (md f (pS s (p) (g) (P)) A) Q QX := by
  have hT72 := hT.2.1
  have y := hc_in (TX := TX) (T := T) (p := p) (fun y => by rw [y] at c5; exact absurd c5 (by decide))
  obtain ⟨A1, hA, hct⟩ := q_part (l := l) (D := D) (cy := cy) (d := d - 1) (n := n) (f := f) (s := s) (p := p) (e := g) ha (show P < 160 by omega) hw.1 5
  have hTX1 : A1 158 = TX := (hA.2.1 158 (by decide)).trans hTX
  have hT1 : TO s A1 T := TO_A hT (by rw [hTX1, hTX])
  have el := pE_le (TX := TX) 100 g (p + 1) (show p + 1 ≤ T by omega)
  generalize w : pE TX T 100 g (p + 1) = x at el
  obtain ⟨x, q⟩ := x
  have e1 : p + 1 ≤ q := el.1
  have e0 : q ≤ T := el.2.1
  cases x with
  | none =>
    refine sw_aload_n dX12_read_23 rfl (by first | rfl | assumption) ?_
    refine sw_get dX12_read_24 fr_X12_157 rfl rfl ?_
    refine sw_top (y := nI p) rfl ?_
    refine sw_aload_n dX12_read_27 rfl (by first | rfl | assumption) ?_
    refine sw_get dX12_read_28 fr_X12_154 rfl rfl ?_
    refine sw_top (y := nI T) hT.1 ?_
    refine sw_icmp_ge 263 dX12_read_31 (by decide) (fun h31 => ?_) (fun h31 => ?_)
    · exact absurd h31 (by rw [nI_leI (by omega) (by omega)]; omega)
    · refine sw_aload_n dX12_read_34 rfl (by first | rfl | assumption) ?_
      refine sw_Vv dX12_read_35 k_X12_160 mf_X12_here (q_here (d := d - 1) hT (by omega)) rfl ⟨_, rfl, rfl⟩ (by omega) (by omega) (by omega) rfl rfl (Nat.le_of_ble_eq_true rfl) ?_
      refine sw_top (y := 42) (by rw [hTX]; exact c5) ?_
      refine sw_istore_n [(0, _), (1, _), (2, _)] dX12_read_38 (by decide) rfl ?_
      refine sw_iload_n dX12_read_39 rfl ?_
      refine sw_Sv dX12_read_40 k_X12_180 mf_X12_isName (c_X12_isName (d := d - 1) _) (by omega) (by omega) (by omega) rfl rfl (Nat.le_of_ble_eq_true rfl) ?_
      refine sw_if_eq 104 dX12_read_43 (by decide) (fun h43 => ?_) (fun h43 => ?_)
      · refine sw_iload_n dX12_read_104 rfl ?_
        refine sw_bipush (x := 63) dX12_read_105 (by decide) ?_
        refine sw_icmp_eq 116 dX12_read_107 (by decide) (fun h107 => ?_) (fun h107 => ?_)
        · exact absurd h107 (by decide)
        · refine sw_iload_n dX12_read_110 rfl ?_
          refine sw_bipush (x := 42) dX12_read_111 (by decide) ?_
          refine sw_icmp_ne 173 dX12_read_113 (by decide) (fun h113 => ?_) (fun h113 => ?_)
          · exact absurd rfl h113
          · refine sw_aload_n dX12_read_116 rfl (by first | rfl | assumption) ?_
            refine sw_iload_n dX12_read_117 rfl ?_
            refine sw_bipush (x := 63) dX12_read_118 (by decide) ?_
            refine sw_icmp_ne 127 dX12_read_120 (by decide) (fun h120 => ?_) (fun h120 => ?_)
            · refine sw_iconst (x := 5) dX12_read_127 (by decide) ?_
              refine sw_iload_n dX12_read_128 rfl ?_
              refine sw_Vv dX12_read_129 k_X12_177 mf_X12_part hct rfl ⟨_, rfl, rfl⟩ (by omega) (by omega) (by omega) rfl rfl (Nat.le_of_ble_eq_true rfl) ?_
              refine sw_istore_n [(0, _), (1, _), (2, _), (3, _)] dX12_read_132 (by decide) rfl ?_
              refine sw_aload_n dX12_read_133 rfl (by first | rfl | assumption) ?_
              refine sw_dup dX12_read_134 rfl ?_
              refine sw_get dX12_read_135 fr_X12_157 rfl rfl ?_
              refine sw_iconst (x := 1) dX12_read_138 (by decide) ?_
              refine sw_iadd dX12_read_139 ?_
              refine sw_top (y := nI (p + 1)) (nI_1 p) ?_
              refine m_put dX12_read_140 fl_X12_157 (by decide) (sw_fit_i _) rfl ?_
              rw [pS_p]
              refine sw_aload_n dX12_read_143 rfl (by first | rfl | assumption) ?_
              refine sw_iload_n dX12_read_144 rfl ?_
              refine sw_callV dX12_read_145 k_X12_197 mf_X12_expression ⟨_, rfl, rfl⟩ rfl (c_ex_0 (d := d - 1) (A := A1) (s := s) (by omega) hT1 hTX1 (by omega) (by omega) (by omega) hg hA.2.2.2.2.2.1 w) (by omega) ⟨by omega, by omega⟩ rfl rfl (Nat.le_of_ble_eq_true rfl) (fun r n' f' hq _ => ?_)
              obtain ⟨hr, hn, g', P', A', fr, hf⟩ := hq
              have hn := hn.symm
              subst hn
              subst hr
              subst hf
              show SW l D cy mX12_read d 0 0 0 0 148 [(0, .ref 150), (1, .int (nI a)), (2, .int 42), (3, .int (nI P))] [.int 0] n (md f (pS s q g' P') A') _ _
              refine sw_if_eq 160 dX12_read_148 (by decide) (fun h148 => ?_) (fun h148 => ?_)
              · refine sw_iconst (x := 0) dX12_read_160 (by decide) ?_
                exact sw_iret dX12_read_161 rfl (by first | rfl | exact bz_n _) (by omega) (by omega) (KF q (by rw [pR, if_neg c1, if_neg c4, if_pos c5, w]) g' P' A' (fun z hz => by rw [fr z hz, hA.2.1 z hz]))
              · exact absurd rfl h148
            · exact absurd h120 (by decide)
      · exact absurd (by decide) h43
  | some e =>
    have e4 : p + 1 + szE e ≤ q := el.2.2 e rfl
    have sp := szE_pos e
    by_cases c6 : hc TX T q = 123 ∧ g < 6
    · have y3 := hc_in (TX := TX) (T := T) (p := q) (fun y => by rw [y] at c6; exact absurd c6.1 (by decide))
      refine sw_aload_n dX12_read_23 rfl (by first | rfl | assumption) ?_
      refine sw_get dX12_read_24 fr_X12_157 rfl rfl ?_
      refine sw_top (y := nI p) rfl ?_
      refine sw_aload_n dX12_read_27 rfl (by first | rfl | assumption) ?_
      refine sw_get dX12_read_28 fr_X12_154 rfl rfl ?_
      refine sw_top (y := nI T) hT.1 ?_
      refine sw_icmp_ge 263 dX12_read_31 (by decide) (fun h31 => ?_) (fun h31 => ?_)
      · exact absurd h31 (by rw [nI_leI (by omega) (by omega)]; omega)
      · refine sw_aload_n dX12_read_34 rfl (by first | rfl | assumption) ?_
        refine sw_Vv dX12_read_35 k_X12_160 mf_X12_here (q_here (d := d - 1) hT (by omega)) rfl ⟨_, rfl, rfl⟩ (by omega) (by omega) (by omega) rfl rfl (Nat.le_of_ble_eq_true rfl) ?_
        refine sw_top (y := 42) (by rw [hTX]; exact c5) ?_
        refine sw_istore_n [(0, _), (1, _), (2, _)] dX12_read_38 (by decide) rfl ?_
        refine sw_iload_n dX12_read_39 rfl ?_
        refine sw_Sv dX12_read_40 k_X12_180 mf_X12_isName (c_X12_isName (d := d - 1) _) (by omega) (by omega) (by omega) rfl rfl (Nat.le_of_ble_eq_true rfl) ?_
        refine sw_if_eq 104 dX12_read_43 (by decide) (fun h43 => ?_) (fun h43 => ?_)
        · refine sw_iload_n dX12_read_104 rfl ?_
          refine sw_bipush (x := 63) dX12_read_105 (by decide) ?_
          refine sw_icmp_eq 116 dX12_read_107 (by decide) (fun h107 => ?_) (fun h107 => ?_)
          · exact absurd h107 (by decide)
          · refine sw_iload_n dX12_read_110 rfl ?_
            refine sw_bipush (x := 42) dX12_read_111 (by decide) ?_
            refine sw_icmp_ne 173 dX12_read_113 (by decide) (fun h113 => ?_) (fun h113 => ?_)
            · exact absurd rfl h113
            · refine sw_aload_n dX12_read_116 rfl (by first | rfl | assumption) ?_
              refine sw_iload_n dX12_read_117 rfl ?_
              refine sw_bipush (x := 63) dX12_read_118 (by decide) ?_
              refine sw_icmp_ne 127 dX12_read_120 (by decide) (fun h120 => ?_) (fun h120 => ?_)
              · refine sw_iconst (x := 5) dX12_read_127 (by decide) ?_
                refine sw_iload_n dX12_read_128 rfl ?_
                refine sw_Vv dX12_read_129 k_X12_177 mf_X12_part hct rfl ⟨_, rfl, rfl⟩ (by omega) (by omega) (by omega) rfl rfl (Nat.le_of_ble_eq_true rfl) ?_
                refine sw_istore_n [(0, _), (1, _), (2, _), (3, _)] dX12_read_132 (by decide) rfl ?_
                refine sw_aload_n dX12_read_133 rfl (by first | rfl | assumption) ?_
                refine sw_dup dX12_read_134 rfl ?_
                refine sw_get dX12_read_135 fr_X12_157 rfl rfl ?_
                refine sw_iconst (x := 1) dX12_read_138 (by decide) ?_
                refine sw_iadd dX12_read_139 ?_
                refine sw_top (y := nI (p + 1)) (nI_1 p) ?_
                refine m_put dX12_read_140 fl_X12_157 (by decide) (sw_fit_i _) rfl ?_
                rw [pS_p]
                refine sw_aload_n dX12_read_143 rfl (by first | rfl | assumption) ?_
                refine sw_iload_n dX12_read_144 rfl ?_
                refine sw_callV dX12_read_145 k_X12_197 mf_X12_expression ⟨_, rfl, rfl⟩ rfl (c_ex_1 (d := d - 1) (A := A1) (s := s) (by omega) hT1 hTX1 (by omega) (by omega) (by omega) hg hA.2.2.2.2.2.1 w) (by omega) ⟨by omega, by omega⟩ rfl rfl (Nat.le_of_ble_eq_true rfl) (fun r n' f' hq _ => ?_)
                obtain ⟨hr, hn, A2, e2, hf⟩ := hq
                have hn := hn.symm
                subst hn
                subst hr
                subst hf
                have fr2 : ∀ z, z < 159 ∨ 166 < z → A2 z = A z := fun z hz => by rw [e2.2.1 z hz, hA.2.1 z hz]
                have hTX2 : A2 158 = TX := (fr2 158 (by decide)).trans hTX
                have hT2 : TO s A2 T := TO_A hT (by rw [hTX2, hTX])
                show SW l D cy mX12_read d 0 0 0 0 148 [(0, .ref 150), (1, .int (nI a)), (2, .int 42), (3, .int (nI P))] [.int 1] n (md f (pS s (q) (g) (P + 1 + szE e)) A2) _ _
                refine sw_if_eq 160 dX12_read_148 (by decide) (fun h148 => ?_) (fun h148 => ?_)
                · exact absurd h148 (by decide)
                · refine sw_aload_n dX12_read_151 rfl (by first | rfl | assumption) ?_
                  refine sw_bipush (x := 123) dX12_read_152 (by decide) ?_
                  refine sw_Vv dX12_read_154 k_X12_174 mf_X12_opens (q_op1 (d := d - 1) (by omega) hT2 (by omega) (by rw [hTX2]; exact c6)) rfl ⟨_, rfl, rfl⟩ (by omega) (by omega) (by omega) rfl rfl (Nat.le_of_ble_eq_true rfl) ?_
                  refine sw_if_ne 162 dX12_read_157 (by decide) (fun h157 => ?_) (fun h157 => ?_)
                  · obtain ⟨A3, hA3, hct3⟩ := q_part (l := l) (D := D) (cy := cy) (d := d - 1) (n := n) (f := f) (s := s) (A := A2) (P := (P + 1 + szE e)) (a := P) (o := some (P + 1)) (p := q + 1) (e := g + 1) (by omega) (by omega) (Or.inr ⟨P + 1, rfl, by omega, by omega, by rw [e2.2.2.2.2.2.2.1]; exact i32_nlt0 (by omega), e2.2.2.2.2.1⟩) 6
                    refine sw_aload_n dX12_read_162 rfl (by first | rfl | assumption) ?_
                    refine sw_bipush (x := 6) dX12_read_163 (by decide) ?_
                    refine sw_iload_n dX12_read_165 rfl ?_
                    refine sw_Vv dX12_read_166 k_X12_177 mf_X12_part hct3 rfl ⟨_, rfl, rfl⟩ (by omega) (by omega) (by omega) rfl rfl (Nat.le_of_ble_eq_true rfl) ?_
                    refine sw_istore_n [(0, _), (1, _), (2, _), (3, _)] dX12_read_169 (by decide) rfl ?_
                    refine sw_goto 260 dX12_read_170 (by decide) ?_
                    refine sw_goto 23 dX12_read_260 (by decide) ?_
                    refine sw_keep [0, 1] rfl ?_
                    refine l_blk (b := (P + 1 + szE e)) (k := P) hd ih (TO_A hT (by rw [hA3.2.1 158 (by decide), hTX2, hTX])) ((hA3.2.1 158 (by decide)).trans hTX2) (by omega) (by omega) (by omega) c6 hA3.2.2.2.2.2.1 hA3.2.2.2.2.1 ?_ ?_
                    · intro q1 w1 g' P' A' fr
                      exact KF q1 (by rw [pR, if_neg c1, if_neg c4, if_pos c5, w]; show (match pB TX T g (pR TX T F (g + 1)) q with | (none, q1) => (none, q1) | (some r1, q1) => _ : Option RT × Nat) = _; rw [w1]) g' P' A' (fun z hz => by rw [fr z hz, hA3.2.1 z hz, fr2 z hz])
                    · intro r1 q1 w1 A4 hx
                      have l0 := pB_le (TX := TX) (T := T) (d := g) (rd := pR TX T F (g + 1)) (fun p hp => pR_le F (g + 1) p hp) (p := q) (by omega)
                      rw [w1] at l0
                      obtain ⟨l0, l1, l2⟩ := l0
                      have l1 : q1 ≤ T := l1
                      have l2 : q + 2 + szR r1 ≤ q1 := l2 r1 rfl
                      have e5 := FR_1 e2 hA3 hx
                      have e6 := MN_1 hA.2.2.2.2.2.2.2.1 e2 hA3 hx
                      have fr4 : ∀ z, z < 159 ∨ 166 < z → A4 z = A z := fun z hz => by rw [hx.2.1 z hz, hA3.2.1 z hz, fr2 z hz]
                      have hTX4 : A4 158 = TX := (fr4 158 (by decide)).trans hTX
                      have hT4 : TO s A4 T := TO_A hT (by rw [hTX4, hTX])
                      refine sw_iload_n dX12_read_198 rfl ?_
                      refine sw_if_eq 247 dX12_read_199 (by decide) (fun h199 => ?_) (fun h199 => ?_)
                      · exact absurd h199 (by decide)
                      · refine sw_aload_n dX12_read_202 rfl (by first | rfl | assumption) ?_
                        refine sw_get dX12_read_203 fr_X12_43 rfl rfl ?_
                        refine sw_iload dX12_read_206 rfl ?_
                        refine sw_ialdN (P) dX12_read_208 rfl rfl (show P < 160 by omega) (by decide) ?_
                        refine sw_top (y := 5) ((e5 _ P (by omega) (by omega)).trans hA.2.2.1) ?_
                        refine sw_iconst (x := 4) dX12_read_209 (by decide) ?_
                        refine sw_icmp_ne 247 dX12_read_210 (by decide) (fun h210 => ?_) (fun h210 => ?_)
                        · refine sw_aload_n dX12_read_247 rfl (by first | rfl | assumption) ?_
                          refine sw_get dX12_read_248 fr_X12_49 rfl rfl ?_
                          refine sw_iload dX12_read_251 rfl ?_
                          refine sw_ialdN (P) dX12_read_253 rfl rfl (show P < 160 by omega) (by decide) ?_
                          refine sw_top (y := nI a) ((e5 _ P (by omega) (by omega)).trans hA.2.2.2.2.1) ?_
                          refine sw_istore_n [(0, _), (1, _), (3, _), (4, _)] dX12_read_254 (by decide) rfl ?_
                          refine sw_goto 260 dX12_read_255 (by decide) ?_
                          refine sw_goto 23 dX12_read_260 (by decide) ?_
                          refine sw_keep [0, 1] rfl ?_
                          refine ih g q1 ((P + 1 + szE e) + 1 + szR r1) a (some P) A4 hT4 hTX4 (by omega) (by omega) (by omega) (by omega) hg (PW_1 (by omega) ha (by omega) hA hw.1 (e5 _ _ (by omega) (by omega)) (e5 _ _ (by omega) (by omega)) (e5 _ _ (by omega) (by omega))) ?_ ?_
                          · intro q2 w2 g' P' A' fr
                            exact KF q2 (by rw [pR, if_neg c1, if_neg c4, if_pos c5, w]; show (match pB TX T g (pR TX T F (g + 1)) q with | (none, q1) => (none, q1) | (some r1, q1) => _ : Option RT × Nat) = _; rw [w1]; show (match pR TX T F g q1 with | (none, q3) => (none, q3) | (some R, q3) => _ : Option RT × Nat) = _; rw [w2]) g' P' A' (fun z hz => by rw [fr z hz, fr4 z hz])
                          · intro R q2 w2 A' hy
                            have kk := K (rLp e r1 R) q2 (by rw [pR, if_neg c1, if_neg c4, if_pos c5, w]; show (match pB TX T g (pR TX T F (g + 1)) q with | (none, q1) => (none, q1) | (some r1, q1) => _ : Option RT × Nat) = _; rw [w1]; show (match pR TX T F g q1 with | (none, q3) => (none, q3) | (some R, q3) => _ : Option RT × Nat) = _; rw [w2]) A' (RX_lp ha (pv_lt hw.1) hA e2 hA3 hx hy)
                            rw [szR, show P + (1 + szE e + (1 + szR r1) + szR R) = (P + 1 + szE e) + 1 + szR r1 + szR R by omega] at kk
                            exact kk
                        · exact absurd h210 (by decide)
                  · exact absurd h157 (by decide)
              · exact absurd h120 (by decide)
        · exact absurd (by decide) h43
    · skip
      refine sw_aload_n dX12_read_23 rfl (by first | rfl | assumption) ?_
      refine sw_get dX12_read_24 fr_X12_157 rfl rfl ?_
      refine sw_top (y := nI p) rfl ?_
      refine sw_aload_n dX12_read_27 rfl (by first | rfl | assumption) ?_
      refine sw_get dX12_read_28 fr_X12_154 rfl rfl ?_
      refine sw_top (y := nI T) hT.1 ?_
      refine sw_icmp_ge 263 dX12_read_31 (by decide) (fun h31 => ?_) (fun h31 => ?_)
      · exact absurd h31 (by rw [nI_leI (by omega) (by omega)]; omega)
      · refine sw_aload_n dX12_read_34 rfl (by first | rfl | assumption) ?_
        refine sw_Vv dX12_read_35 k_X12_160 mf_X12_here (q_here (d := d - 1) hT (by omega)) rfl ⟨_, rfl, rfl⟩ (by omega) (by omega) (by omega) rfl rfl (Nat.le_of_ble_eq_true rfl) ?_
        refine sw_top (y := 42) (by rw [hTX]; exact c5) ?_
        refine sw_istore_n [(0, _), (1, _), (2, _)] dX12_read_38 (by decide) rfl ?_
        refine sw_iload_n dX12_read_39 rfl ?_
        refine sw_Sv dX12_read_40 k_X12_180 mf_X12_isName (c_X12_isName (d := d - 1) _) (by omega) (by omega) (by omega) rfl rfl (Nat.le_of_ble_eq_true rfl) ?_
        refine sw_if_eq 104 dX12_read_43 (by decide) (fun h43 => ?_) (fun h43 => ?_)
        · refine sw_iload_n dX12_read_104 rfl ?_
          refine sw_bipush (x := 63) dX12_read_105 (by decide) ?_
          refine sw_icmp_eq 116 dX12_read_107 (by decide) (fun h107 => ?_) (fun h107 => ?_)
          · exact absurd h107 (by decide)
          · refine sw_iload_n dX12_read_110 rfl ?_
            refine sw_bipush (x := 42) dX12_read_111 (by decide) ?_
            refine sw_icmp_ne 173 dX12_read_113 (by decide) (fun h113 => ?_) (fun h113 => ?_)
            · exact absurd rfl h113
            · refine sw_aload_n dX12_read_116 rfl (by first | rfl | assumption) ?_
              refine sw_iload_n dX12_read_117 rfl ?_
              refine sw_bipush (x := 63) dX12_read_118 (by decide) ?_
              refine sw_icmp_ne 127 dX12_read_120 (by decide) (fun h120 => ?_) (fun h120 => ?_)
              · refine sw_iconst (x := 5) dX12_read_127 (by decide) ?_
                refine sw_iload_n dX12_read_128 rfl ?_
                refine sw_Vv dX12_read_129 k_X12_177 mf_X12_part hct rfl ⟨_, rfl, rfl⟩ (by omega) (by omega) (by omega) rfl rfl (Nat.le_of_ble_eq_true rfl) ?_
                refine sw_istore_n [(0, _), (1, _), (2, _), (3, _)] dX12_read_132 (by decide) rfl ?_
                refine sw_aload_n dX12_read_133 rfl (by first | rfl | assumption) ?_
                refine sw_dup dX12_read_134 rfl ?_
                refine sw_get dX12_read_135 fr_X12_157 rfl rfl ?_
                refine sw_iconst (x := 1) dX12_read_138 (by decide) ?_
                refine sw_iadd dX12_read_139 ?_
                refine sw_top (y := nI (p + 1)) (nI_1 p) ?_
                refine m_put dX12_read_140 fl_X12_157 (by decide) (sw_fit_i _) rfl ?_
                rw [pS_p]
                refine sw_aload_n dX12_read_143 rfl (by first | rfl | assumption) ?_
                refine sw_iload_n dX12_read_144 rfl ?_
                refine sw_callV dX12_read_145 k_X12_197 mf_X12_expression ⟨_, rfl, rfl⟩ rfl (c_ex_1 (d := d - 1) (A := A1) (s := s) (by omega) hT1 hTX1 (by omega) (by omega) (by omega) hg hA.2.2.2.2.2.1 w) (by omega) ⟨by omega, by omega⟩ rfl rfl (Nat.le_of_ble_eq_true rfl) (fun r n' f' hq _ => ?_)
                obtain ⟨hr, hn, A2, e2, hf⟩ := hq
                have hn := hn.symm
                subst hn
                subst hr
                subst hf
                have fr2 : ∀ z, z < 159 ∨ 166 < z → A2 z = A z := fun z hz => by rw [e2.2.1 z hz, hA.2.1 z hz]
                have hTX2 : A2 158 = TX := (fr2 158 (by decide)).trans hTX
                have hT2 : TO s A2 T := TO_A hT (by rw [hTX2, hTX])
                show SW l D cy mX12_read d 0 0 0 0 148 [(0, .ref 150), (1, .int (nI a)), (2, .int 42), (3, .int (nI P))] [.int 1] n (md f (pS s (q) (g) (P + 1 + szE e)) A2) _ _
                refine sw_if_eq 160 dX12_read_148 (by decide) (fun h148 => ?_) (fun h148 => ?_)
                · exact absurd h148 (by decide)
                · refine sw_aload_n dX12_read_151 rfl (by first | rfl | assumption) ?_
                  refine sw_bipush (x := 123) dX12_read_152 (by decide) ?_
                  refine sw_Vv dX12_read_154 k_X12_174 mf_X12_opens (q_op0 (d := d - 1) (by omega) hT2 (by omega) hg (by rw [hTX2]; exact c6)) rfl ⟨_, rfl, rfl⟩ (by omega) (by omega) (by omega) rfl rfl (Nat.le_of_ble_eq_true rfl) ?_
                  refine sw_if_ne 162 dX12_read_157 (by decide) (fun h157 => ?_) (fun h157 => ?_)
                  · exact absurd rfl h157
                  · refine sw_iconst (x := 0) dX12_read_160 (by decide) ?_
                    exact sw_iret dX12_read_161 rfl (by first | rfl | exact bz_n _) (by omega) (by omega) (KF q (by rw [pR, if_neg c1, if_neg c4, if_pos c5, w]; show (match pB TX T g (pR TX T F (g + 1)) q with | (none, q1) => (none, q1) | (some r1, q1) => _ : Option RT × Nat) = _; rw [pB, if_neg c6]) _ _ _ fr2)
              · exact absurd h120 (by decide)
        · exact absurd (by decide) h43
set_option maxRecDepth 100000 in
theorem RD_ch {l : Launch} {D : va_G} {cy : Nat → ClassId} {d n : Nat} {f : sw_F} {s : Nat → Int32} {A : Nat → Nat → Int32} (hd : 4 ≤ d) {Q : sw_Q} {QX : sw_QX} {T F g p P a : Nat} {o : Option Nat} {TX : Nat → Int32} (ih : RDs l D cy d n f s T TX Q QX F) (hT : TO s A T) (hTX : A 158 = TX) (hp : p ≤ T) (hF : T < p + (F + 1)) (hP : P ≤ p + 1) (ha : a < P) (hg : g ≤ 6) (hw : PW A a P o) (KF : ∀ q, pR TX T (F + 1) g p = (none, q) → ∀ g' P' A', (∀ z, z < 159 ∨ 166 < z → A' z = A z) → Q (some (.int 0)) n (md f (pS s q g' P') A')) (K : ∀ t q, pR TX T (F + 1) g p = (some t, q) → ∀ A', RXF A A' P a o t → SW l D cy mX12_read d 0 0 0 0 23 [(0, .ref 150), (1, .int (nI (a)))] [] n (md f (pS s (q) (g) (P + szR t)) A') Q QX) (c1 : ¬ r_nm (hc TX T p) = true) (c4 : hc TX T p = 63) : SW l D cy mX12_read d 0 0 0 0 23 [(0, .ref 150), (1, .int (nI (a)))] [] n (md f (pS s (p) (g) (P)) A) Q QX := by
  have hT72 := hT.2.1
  have y := hc_in (TX := TX) (T := T) (p := p) (fun y => by rw [y] at c4; exact absurd c4 (by decide))
  obtain ⟨A1, hA, hct⟩ := q_part (l := l) (D := D) (cy := cy) (d := d - 1) (n := n) (f := f) (s := s) (p := p) (e := g) ha (show P < 160 by omega) hw.1 4
  have hTX1 : A1 158 = TX := (hA.2.1 158 (by decide)).trans hTX
  have hT1 : TO s A1 T := TO_A hT (by rw [hTX1, hTX])
  have el := pE_le (TX := TX) 100 g (p + 1) (show p + 1 ≤ T by omega)
  generalize w : pE TX T 100 g (p + 1) = x at el
  obtain ⟨x, q⟩ := x
  have e1 : p + 1 ≤ q := el.1
  have e0 : q ≤ T := el.2.1
  cases x with
  | none =>
    refine sw_aload_n dX12_read_23 rfl (by first | rfl | assumption) ?_
    refine sw_get dX12_read_24 fr_X12_157 rfl rfl ?_
    refine sw_top (y := nI p) rfl ?_
    refine sw_aload_n dX12_read_27 rfl (by first | rfl | assumption) ?_
    refine sw_get dX12_read_28 fr_X12_154 rfl rfl ?_
    refine sw_top (y := nI T) hT.1 ?_
    refine sw_icmp_ge 263 dX12_read_31 (by decide) (fun h31 => ?_) (fun h31 => ?_)
    · exact absurd h31 (by rw [nI_leI (by omega) (by omega)]; omega)
    · refine sw_aload_n dX12_read_34 rfl (by first | rfl | assumption) ?_
      refine sw_Vv dX12_read_35 k_X12_160 mf_X12_here (q_here (d := d - 1) hT (by omega)) rfl ⟨_, rfl, rfl⟩ (by omega) (by omega) (by omega) rfl rfl (Nat.le_of_ble_eq_true rfl) ?_
      refine sw_top (y := 63) (by rw [hTX]; exact c4) ?_
      refine sw_istore_n [(0, _), (1, _), (2, _)] dX12_read_38 (by decide) rfl ?_
      refine sw_iload_n dX12_read_39 rfl ?_
      refine sw_Sv dX12_read_40 k_X12_180 mf_X12_isName (c_X12_isName (d := d - 1) _) (by omega) (by omega) (by omega) rfl rfl (Nat.le_of_ble_eq_true rfl) ?_
      refine sw_if_eq 104 dX12_read_43 (by decide) (fun h43 => ?_) (fun h43 => ?_)
      · refine sw_iload_n dX12_read_104 rfl ?_
        refine sw_bipush (x := 63) dX12_read_105 (by decide) ?_
        refine sw_icmp_eq 116 dX12_read_107 (by decide) (fun h107 => ?_) (fun h107 => ?_)
        · refine sw_aload_n dX12_read_116 rfl (by first | rfl | assumption) ?_
          refine sw_iload_n dX12_read_117 rfl ?_
          refine sw_bipush (x := 63) dX12_read_118 (by decide) ?_
          refine sw_icmp_ne 127 dX12_read_120 (by decide) (fun h120 => ?_) (fun h120 => ?_)
          · exact absurd rfl h120
          · refine sw_iconst (x := 4) dX12_read_123 (by decide) ?_
            refine sw_goto 128 dX12_read_124 (by decide) ?_
            refine sw_iload_n dX12_read_128 rfl ?_
            refine sw_Vv dX12_read_129 k_X12_177 mf_X12_part hct rfl ⟨_, rfl, rfl⟩ (by omega) (by omega) (by omega) rfl rfl (Nat.le_of_ble_eq_true rfl) ?_
            refine sw_istore_n [(0, _), (1, _), (2, _), (3, _)] dX12_read_132 (by decide) rfl ?_
            refine sw_aload_n dX12_read_133 rfl (by first | rfl | assumption) ?_
            refine sw_dup dX12_read_134 rfl ?_
            refine sw_get dX12_read_135 fr_X12_157 rfl rfl ?_
            refine sw_iconst (x := 1) dX12_read_138 (by decide) ?_
            refine sw_iadd dX12_read_139 ?_
            refine sw_top (y := nI (p + 1)) (nI_1 p) ?_
            refine m_put dX12_read_140 fl_X12_157 (by decide) (sw_fit_i _) rfl ?_
            rw [pS_p]
            refine sw_aload_n dX12_read_143 rfl (by first | rfl | assumption) ?_
            refine sw_iload_n dX12_read_144 rfl ?_
            refine sw_callV dX12_read_145 k_X12_197 mf_X12_expression ⟨_, rfl, rfl⟩ rfl (c_ex_0 (d := d - 1) (A := A1) (s := s) (by omega) hT1 hTX1 (by omega) (by omega) (by omega) hg hA.2.2.2.2.2.1 w) (by omega) ⟨by omega, by omega⟩ rfl rfl (Nat.le_of_ble_eq_true rfl) (fun r n' f' hq _ => ?_)
            obtain ⟨hr, hn, g', P', A', fr, hf⟩ := hq
            have hn := hn.symm
            subst hn
            subst hr
            subst hf
            show SW l D cy mX12_read d 0 0 0 0 148 [(0, .ref 150), (1, .int (nI a)), (2, .int 63), (3, .int (nI P))] [.int 0] n (md f (pS s q g' P') A') _ _
            refine sw_if_eq 160 dX12_read_148 (by decide) (fun h148 => ?_) (fun h148 => ?_)
            · refine sw_iconst (x := 0) dX12_read_160 (by decide) ?_
              exact sw_iret dX12_read_161 rfl (by first | rfl | exact bz_n _) (by omega) (by omega) (KF q (by rw [pR, if_neg c1, if_pos c4, w]) g' P' A' (fun z hz => by rw [fr z hz, hA.2.1 z hz]))
            · exact absurd rfl h148
        · exact absurd rfl h107
      · exact absurd (by decide) h43
  | some e =>
    have e4 : p + 1 + szE e ≤ q := el.2.2 e rfl
    have sp := szE_pos e
    by_cases c6 : hc TX T q = 123 ∧ g < 6
    · have y3 := hc_in (TX := TX) (T := T) (p := q) (fun y => by rw [y] at c6; exact absurd c6.1 (by decide))
      refine sw_aload_n dX12_read_23 rfl (by first | rfl | assumption) ?_
      refine sw_get dX12_read_24 fr_X12_157 rfl rfl ?_
      refine sw_top (y := nI p) rfl ?_
      refine sw_aload_n dX12_read_27 rfl (by first | rfl | assumption) ?_
      refine sw_get dX12_read_28 fr_X12_154 rfl rfl ?_
      refine sw_top (y := nI T) hT.1 ?_
      refine sw_icmp_ge 263 dX12_read_31 (by decide) (fun h31 => ?_) (fun h31 => ?_)
      · exact absurd h31 (by rw [nI_leI (by omega) (by omega)]; omega)
      · refine sw_aload_n dX12_read_34 rfl (by first | rfl | assumption) ?_
        refine sw_Vv dX12_read_35 k_X12_160 mf_X12_here (q_here (d := d - 1) hT (by omega)) rfl ⟨_, rfl, rfl⟩ (by omega) (by omega) (by omega) rfl rfl (Nat.le_of_ble_eq_true rfl) ?_
        refine sw_top (y := 63) (by rw [hTX]; exact c4) ?_
        refine sw_istore_n [(0, _), (1, _), (2, _)] dX12_read_38 (by decide) rfl ?_
        refine sw_iload_n dX12_read_39 rfl ?_
        refine sw_Sv dX12_read_40 k_X12_180 mf_X12_isName (c_X12_isName (d := d - 1) _) (by omega) (by omega) (by omega) rfl rfl (Nat.le_of_ble_eq_true rfl) ?_
        refine sw_if_eq 104 dX12_read_43 (by decide) (fun h43 => ?_) (fun h43 => ?_)
        · refine sw_iload_n dX12_read_104 rfl ?_
          refine sw_bipush (x := 63) dX12_read_105 (by decide) ?_
          refine sw_icmp_eq 116 dX12_read_107 (by decide) (fun h107 => ?_) (fun h107 => ?_)
          · refine sw_aload_n dX12_read_116 rfl (by first | rfl | assumption) ?_
            refine sw_iload_n dX12_read_117 rfl ?_
            refine sw_bipush (x := 63) dX12_read_118 (by decide) ?_
            refine sw_icmp_ne 127 dX12_read_120 (by decide) (fun h120 => ?_) (fun h120 => ?_)
            · exact absurd rfl h120
            · refine sw_iconst (x := 4) dX12_read_123 (by decide) ?_
              refine sw_goto 128 dX12_read_124 (by decide) ?_
              refine sw_iload_n dX12_read_128 rfl ?_
              refine sw_Vv dX12_read_129 k_X12_177 mf_X12_part hct rfl ⟨_, rfl, rfl⟩ (by omega) (by omega) (by omega) rfl rfl (Nat.le_of_ble_eq_true rfl) ?_
              refine sw_istore_n [(0, _), (1, _), (2, _), (3, _)] dX12_read_132 (by decide) rfl ?_
              refine sw_aload_n dX12_read_133 rfl (by first | rfl | assumption) ?_
              refine sw_dup dX12_read_134 rfl ?_
              refine sw_get dX12_read_135 fr_X12_157 rfl rfl ?_
              refine sw_iconst (x := 1) dX12_read_138 (by decide) ?_
              refine sw_iadd dX12_read_139 ?_
              refine sw_top (y := nI (p + 1)) (nI_1 p) ?_
              refine m_put dX12_read_140 fl_X12_157 (by decide) (sw_fit_i _) rfl ?_
              rw [pS_p]
              refine sw_aload_n dX12_read_143 rfl (by first | rfl | assumption) ?_
              refine sw_iload_n dX12_read_144 rfl ?_
              refine sw_callV dX12_read_145 k_X12_197 mf_X12_expression ⟨_, rfl, rfl⟩ rfl (c_ex_1 (d := d - 1) (A := A1) (s := s) (by omega) hT1 hTX1 (by omega) (by omega) (by omega) hg hA.2.2.2.2.2.1 w) (by omega) ⟨by omega, by omega⟩ rfl rfl (Nat.le_of_ble_eq_true rfl) (fun r n' f' hq _ => ?_)
              obtain ⟨hr, hn, A2, e2, hf⟩ := hq
              have hn := hn.symm
              subst hn
              subst hr
              subst hf
              have fr2 : ∀ z, z < 159 ∨ 166 < z → A2 z = A z := fun z hz => by rw [e2.2.1 z hz, hA.2.1 z hz]
              have hTX2 : A2 158 = TX := (fr2 158 (by decide)).trans hTX
              have hT2 : TO s A2 T := TO_A hT (by rw [hTX2, hTX])
              show SW l D cy mX12_read d 0 0 0 0 148 [(0, .ref 150), (1, .int (nI a)), (2, .int 63), (3, .int (nI P))] [.int 1] n (md f (pS s (q) (g) (P + 1 + szE e)) A2) _ _
              refine sw_if_eq 160 dX12_read_148 (by decide) (fun h148 => ?_) (fun h148 => ?_)
              · exact absurd h148 (by decide)
              · refine sw_aload_n dX12_read_151 rfl (by first | rfl | assumption) ?_
                refine sw_bipush (x := 123) dX12_read_152 (by decide) ?_
                refine sw_Vv dX12_read_154 k_X12_174 mf_X12_opens (q_op1 (d := d - 1) (by omega) hT2 (by omega) (by rw [hTX2]; exact c6)) rfl ⟨_, rfl, rfl⟩ (by omega) (by omega) (by omega) rfl rfl (Nat.le_of_ble_eq_true rfl) ?_
                refine sw_if_ne 162 dX12_read_157 (by decide) (fun h157 => ?_) (fun h157 => ?_)
                · obtain ⟨A3, hA3, hct3⟩ := q_part (l := l) (D := D) (cy := cy) (d := d - 1) (n := n) (f := f) (s := s) (A := A2) (P := (P + 1 + szE e)) (a := P) (o := some (P + 1)) (p := q + 1) (e := g + 1) (by omega) (by omega) (Or.inr ⟨P + 1, rfl, by omega, by omega, by rw [e2.2.2.2.2.2.2.1]; exact i32_nlt0 (by omega), e2.2.2.2.2.1⟩) 6
                  refine sw_aload_n dX12_read_162 rfl (by first | rfl | assumption) ?_
                  refine sw_bipush (x := 6) dX12_read_163 (by decide) ?_
                  refine sw_iload_n dX12_read_165 rfl ?_
                  refine sw_Vv dX12_read_166 k_X12_177 mf_X12_part hct3 rfl ⟨_, rfl, rfl⟩ (by omega) (by omega) (by omega) rfl rfl (Nat.le_of_ble_eq_true rfl) ?_
                  refine sw_istore_n [(0, _), (1, _), (2, _), (3, _)] dX12_read_169 (by decide) rfl ?_
                  refine sw_goto 260 dX12_read_170 (by decide) ?_
                  refine sw_goto 23 dX12_read_260 (by decide) ?_
                  refine sw_keep [0, 1] rfl ?_
                  refine l_blk (b := (P + 1 + szE e)) (k := P) hd ih (TO_A hT (by rw [hA3.2.1 158 (by decide), hTX2, hTX])) ((hA3.2.1 158 (by decide)).trans hTX2) (by omega) (by omega) (by omega) c6 hA3.2.2.2.2.2.1 hA3.2.2.2.2.1 ?_ ?_
                  · intro q1 w1 g' P' A' fr
                    exact KF q1 (by rw [pR, if_neg c1, if_pos c4, w]; show (match pB TX T g (pR TX T F (g + 1)) q with | (none, q1) => (none, q1) | (some r1, q1) => _ : Option RT × Nat) = _; rw [w1]) g' P' A' (fun z hz => by rw [fr z hz, hA3.2.1 z hz, fr2 z hz])
                  · intro r1 q1 w1 A4 hx
                    have l0 := pB_le (TX := TX) (T := T) (d := g) (rd := pR TX T F (g + 1)) (fun p hp => pR_le F (g + 1) p hp) (p := q) (by omega)
                    rw [w1] at l0
                    obtain ⟨l0, l1, l2⟩ := l0
                    have l1 : q1 ≤ T := l1
                    have l2 : q + 2 + szR r1 ≤ q1 := l2 r1 rfl
                    have e5 := FR_1 e2 hA3 hx
                    have e6 := MN_1 hA.2.2.2.2.2.2.2.1 e2 hA3 hx
                    have fr4 : ∀ z, z < 159 ∨ 166 < z → A4 z = A z := fun z hz => by rw [hx.2.1 z hz, hA3.2.1 z hz, fr2 z hz]
                    have hTX4 : A4 158 = TX := (fr4 158 (by decide)).trans hTX
                    have hT4 : TO s A4 T := TO_A hT (by rw [hTX4, hTX])
                    by_cases c7 : hc TX T q1 = 123 ∧ g < 6
                    · have y4 := hc_in (TX := TX) (T := T) (p := q1) (fun y => by rw [y] at c7; exact absurd c7.1 (by decide))
                      obtain ⟨A5, hA5, hct5⟩ := q_part (l := l) (D := D) (cy := cy) (d := d - 1) (n := n) (f := f) (s := s) (A := A4) (P := (P + 1 + szE e + 1 + szR r1)) (a := P) (o := some (P + 1 + szE e)) (p := q1 + 1) (e := g + 1) (by omega) (by omega) (Or.inr ⟨(P + 1 + szE e), rfl, by omega, by omega, by rw [e6.2.1]; exact i32_nlt0 (by omega), e6.2.2⟩) 6
                      refine sw_iload_n dX12_read_198 rfl ?_
                      refine sw_if_eq 247 dX12_read_199 (by decide) (fun h199 => ?_) (fun h199 => ?_)
                      · exact absurd h199 (by decide)
                      · refine sw_aload_n dX12_read_202 rfl (by first | rfl | assumption) ?_
                        refine sw_get dX12_read_203 fr_X12_43 rfl rfl ?_
                        refine sw_iload dX12_read_206 rfl ?_
                        refine sw_ialdN (P) dX12_read_208 rfl rfl (show P < 160 by omega) (by decide) ?_
                        refine sw_top (y := 4) ((e5 _ P (by omega) (by omega)).trans hA.2.2.1) ?_
                        refine sw_iconst (x := 4) dX12_read_209 (by decide) ?_
                        refine sw_icmp_ne 247 dX12_read_210 (by decide) (fun h210 => ?_) (fun h210 => ?_)
                        · exact absurd rfl h210
                        · refine sw_aload_n dX12_read_213 rfl (by first | rfl | assumption) ?_
                          refine sw_get dX12_read_214 fr_X12_61 rfl rfl ?_
                          refine sw_iload dX12_read_217 rfl ?_
                          refine sw_ialdN (P) dX12_read_219 rfl rfl (show P < 160 by omega) (by decide) ?_
                          refine sw_top (y := 2) e6.1 ?_
                          refine sw_iconst (x := 2) dX12_read_220 (by decide) ?_
                          refine sw_icmp_ne 247 dX12_read_221 (by decide) (fun h221 => ?_) (fun h221 => ?_)
                          · exact absurd rfl h221
                          · refine sw_aload_n dX12_read_224 rfl (by first | rfl | assumption) ?_
                            refine sw_bipush (x := 123) dX12_read_225 (by decide) ?_
                            refine sw_Vv dX12_read_227 k_X12_174 mf_X12_opens (q_op1 (d := d - 1) (by omega) hT4 (by omega) (by rw [hTX4]; exact c7)) rfl ⟨_, rfl, rfl⟩ (by omega) (by omega) (by omega) rfl rfl (Nat.le_of_ble_eq_true rfl) ?_
                            refine sw_if_ne 235 dX12_read_230 (by decide) (fun h230 => ?_) (fun h230 => ?_)
                            · refine sw_aload_n dX12_read_235 rfl (by first | rfl | assumption) ?_
                              refine sw_bipush (x := 6) dX12_read_236 (by decide) ?_
                              refine sw_iload dX12_read_238 rfl ?_
                              refine sw_Vv dX12_read_240 k_X12_177 mf_X12_part hct5 rfl ⟨_, rfl, rfl⟩ (by omega) (by omega) (by omega) rfl rfl (Nat.le_of_ble_eq_true rfl) ?_
                              refine sw_istore_n [(0, _), (1, _), (3, _), (4, _)] dX12_read_243 (by decide) rfl ?_
                              refine sw_goto 255 dX12_read_244 (by decide) ?_
                              refine sw_goto 260 dX12_read_255 (by decide) ?_
                              refine sw_goto 23 dX12_read_260 (by decide) ?_
                              refine sw_keep [0, 1] rfl ?_
                              refine l_blk (b := (P + 1 + szE e + 1 + szR r1)) (k := P) hd ih (TO_A hT (by rw [hA5.2.1 158 (by decide), hTX4, hTX])) ((hA5.2.1 158 (by decide)).trans hTX4) (by omega) (by omega) (by omega) c7 hA5.2.2.2.2.2.1 hA5.2.2.2.2.1 ?_ ?_
                              · intro q2 w2 g' P' A' fr
                                exact KF q2 (by rw [pR, if_neg c1, if_pos c4, w]; show (match pB TX T g (pR TX T F (g + 1)) q with | (none, q1) => (none, q1) | (some r1, q1) => _ : Option RT × Nat) = _; rw [w1]; show (match pB TX T g (pR TX T F (g + 1)) q1 with | (none, q2) => (none, q2) | (some r2, q2) => _ : Option RT × Nat) = _; rw [w2]) g' P' A' (fun z hz => by rw [fr z hz, hA5.2.1 z hz, fr4 z hz])
                              · intro r2 q2 w2 A6 hx2
                                have l3 := pB_le (TX := TX) (T := T) (d := g) (rd := pR TX T F (g + 1)) (fun p hp => pR_le F (g + 1) p hp) (p := q1) (by omega)
                                rw [w2] at l3
                                obtain ⟨l3, l4, l5⟩ := l3
                                have l4 : q2 ≤ T := l4
                                have l5 : q1 + 2 + szR r2 ≤ q2 := l5 r2 rfl
                                have e7 : ∀ q i, i ≤ P → ¬ (i = P ∧ (q = 162 ∨ q = 163 ∨ q = 165)) → A6 q i = A1 q i := fun q i z1 z2 => (FR_2 (by omega) (by omega) hA5 hx2 q i z1 z2).trans (e5 q i z1 z2)
                                have e8 := MN_2 (by omega) (by omega) e6.1 hA5 hx2
                                have fr6 : ∀ z, z < 159 ∨ 166 < z → A6 z = A z := fun z hz => by rw [hx2.2.1 z hz, hA5.2.1 z hz, fr4 z hz]
                                have hTX6 : A6 158 = TX := (fr6 158 (by decide)).trans hTX
                                have hT6 : TO s A6 T := TO_A hT (by rw [hTX6, hTX])
                                refine sw_iload_n dX12_read_198 rfl ?_
                                refine sw_if_eq 247 dX12_read_199 (by decide) (fun h199 => ?_) (fun h199 => ?_)
                                · exact absurd h199 (by decide)
                                · refine sw_aload_n dX12_read_202 rfl (by first | rfl | assumption) ?_
                                  refine sw_get dX12_read_203 fr_X12_43 rfl rfl ?_
                                  refine sw_iload dX12_read_206 rfl ?_
                                  refine sw_ialdN (P) dX12_read_208 rfl rfl (show P < 160 by omega) (by decide) ?_
                                  refine sw_top (y := 4) ((e7 _ P (by omega) (by omega)).trans hA.2.2.1) ?_
                                  refine sw_iconst (x := 4) dX12_read_209 (by decide) ?_
                                  refine sw_icmp_ne 247 dX12_read_210 (by decide) (fun h210 => ?_) (fun h210 => ?_)
                                  · exact absurd rfl h210
                                  · refine sw_aload_n dX12_read_213 rfl (by first | rfl | assumption) ?_
                                    refine sw_get dX12_read_214 fr_X12_61 rfl rfl ?_
                                    refine sw_iload dX12_read_217 rfl ?_
                                    refine sw_ialdN (P) dX12_read_219 rfl rfl (show P < 160 by omega) (by decide) ?_
                                    refine sw_top (y := 3) e8 ?_
                                    refine sw_iconst (x := 2) dX12_read_220 (by decide) ?_
                                    refine sw_icmp_ne 247 dX12_read_221 (by decide) (fun h221 => ?_) (fun h221 => ?_)
                                    · refine sw_aload_n dX12_read_247 rfl (by first | rfl | assumption) ?_
                                      refine sw_get dX12_read_248 fr_X12_49 rfl rfl ?_
                                      refine sw_iload dX12_read_251 rfl ?_
                                      refine sw_ialdN (P) dX12_read_253 rfl rfl (show P < 160 by omega) (by decide) ?_
                                      refine sw_top (y := nI a) ((e7 _ P (by omega) (by omega)).trans hA.2.2.2.2.1) ?_
                                      refine sw_istore_n [(0, _), (1, _), (3, _), (4, _)] dX12_read_254 (by decide) rfl ?_
                                      refine sw_goto 260 dX12_read_255 (by decide) ?_
                                      refine sw_goto 23 dX12_read_260 (by decide) ?_
                                      refine sw_keep [0, 1] rfl ?_
                                      refine ih g q2 ((P + 1 + szE e + 1 + szR r1) + 1 + szR r2) a (some P) A6 hT6 hTX6 (by omega) (by omega) (by omega) (by omega) hg (PW_1 (by omega) ha (by omega) hA hw.1 (e7 _ _ (by omega) (by omega)) (e7 _ _ (by omega) (by omega)) (e7 _ _ (by omega) (by omega))) ?_ ?_
                                      · intro q3 w3 g' P' A' fr
                                        exact KF q3 (by rw [pR, if_neg c1, if_pos c4, w]; show (match pB TX T g (pR TX T F (g + 1)) q with | (none, q1) => (none, q1) | (some r1, q1) => _ : Option RT × Nat) = _; rw [w1]; show (match pB TX T g (pR TX T F (g + 1)) q1 with | (none, q2) => (none, q2) | (some r2, q2) => _ : Option RT × Nat) = _; rw [w2]; show (match pR TX T F g q2 with | (none, q3) => (none, q3) | (some R, q3) => _ : Option RT × Nat) = _; rw [w3]) g' P' A' (fun z hz => by rw [fr z hz, fr6 z hz])
                                      · intro R q3 w3 A' hy
                                        have kk := K (rCh e r1 r2 R) q3 (by rw [pR, if_neg c1, if_pos c4, w]; show (match pB TX T g (pR TX T F (g + 1)) q with | (none, q1) => (none, q1) | (some r1, q1) => _ : Option RT × Nat) = _; rw [w1]; show (match pB TX T g (pR TX T F (g + 1)) q1 with | (none, q2) => (none, q2) | (some r2, q2) => _ : Option RT × Nat) = _; rw [w2]; show (match pR TX T F g q2 with | (none, q3) => (none, q3) | (some R, q3) => _ : Option RT × Nat) = _; rw [w3]) A' (RX_ch ha (pv_lt hw.1) hA e2 hA3 hx hA5 hx2 hy)
                                        rw [szR, show P + (1 + szE e + (1 + szR r1) + (1 + szR r2) + szR R) = (P + 1 + szE e + 1 + szR r1) + 1 + szR r2 + szR R by omega] at kk
                                        exact kk
                                    · exact absurd h221 (by decide)
                            · exact absurd h230 (by decide)
                    · skip
                      refine sw_iload_n dX12_read_198 rfl ?_
                      refine sw_if_eq 247 dX12_read_199 (by decide) (fun h199 => ?_) (fun h199 => ?_)
                      · exact absurd h199 (by decide)
                      · refine sw_aload_n dX12_read_202 rfl (by first | rfl | assumption) ?_
                        refine sw_get dX12_read_203 fr_X12_43 rfl rfl ?_
                        refine sw_iload dX12_read_206 rfl ?_
                        refine sw_ialdN (P) dX12_read_208 rfl rfl (show P < 160 by omega) (by decide) ?_
                        refine sw_top (y := 4) ((e5 _ P (by omega) (by omega)).trans hA.2.2.1) ?_
                        refine sw_iconst (x := 4) dX12_read_209 (by decide) ?_
                        refine sw_icmp_ne 247 dX12_read_210 (by decide) (fun h210 => ?_) (fun h210 => ?_)
                        · exact absurd rfl h210
                        · refine sw_aload_n dX12_read_213 rfl (by first | rfl | assumption) ?_
                          refine sw_get dX12_read_214 fr_X12_61 rfl rfl ?_
                          refine sw_iload dX12_read_217 rfl ?_
                          refine sw_ialdN (P) dX12_read_219 rfl rfl (show P < 160 by omega) (by decide) ?_
                          refine sw_top (y := 2) e6.1 ?_
                          refine sw_iconst (x := 2) dX12_read_220 (by decide) ?_
                          refine sw_icmp_ne 247 dX12_read_221 (by decide) (fun h221 => ?_) (fun h221 => ?_)
                          · exact absurd rfl h221
                          · refine sw_aload_n dX12_read_224 rfl (by first | rfl | assumption) ?_
                            refine sw_bipush (x := 123) dX12_read_225 (by decide) ?_
                            refine sw_Vv dX12_read_227 k_X12_174 mf_X12_opens (q_op0 (d := d - 1) (by omega) hT4 (by omega) hg (by rw [hTX4]; exact c7)) rfl ⟨_, rfl, rfl⟩ (by omega) (by omega) (by omega) rfl rfl (Nat.le_of_ble_eq_true rfl) ?_
                            refine sw_if_ne 235 dX12_read_230 (by decide) (fun h230 => ?_) (fun h230 => ?_)
                            · exact absurd rfl h230
                            · refine sw_iconst (x := 0) dX12_read_233 (by decide) ?_
                              exact sw_iret dX12_read_234 rfl (by first | rfl | exact bz_n _) (by omega) (by omega) (KF q1 (by rw [pR, if_neg c1, if_pos c4, w]; show (match pB TX T g (pR TX T F (g + 1)) q with | (none, q1) => (none, q1) | (some r1, q1) => _ : Option RT × Nat) = _; rw [w1]; show (match pB TX T g (pR TX T F (g + 1)) q1 with | (none, q2) => (none, q2) | (some r2, q2) => _ : Option RT × Nat) = _; rw [pB, if_neg c7]) _ _ _ fr4)
                · exact absurd h157 (by decide)
          · exact absurd rfl h107
        · exact absurd (by decide) h43
    · skip
      refine sw_aload_n dX12_read_23 rfl (by first | rfl | assumption) ?_
      refine sw_get dX12_read_24 fr_X12_157 rfl rfl ?_
      refine sw_top (y := nI p) rfl ?_
      refine sw_aload_n dX12_read_27 rfl (by first | rfl | assumption) ?_
      refine sw_get dX12_read_28 fr_X12_154 rfl rfl ?_
      refine sw_top (y := nI T) hT.1 ?_
      refine sw_icmp_ge 263 dX12_read_31 (by decide) (fun h31 => ?_) (fun h31 => ?_)
      · exact absurd h31 (by rw [nI_leI (by omega) (by omega)]; omega)
      · refine sw_aload_n dX12_read_34 rfl (by first | rfl | assumption) ?_
        refine sw_Vv dX12_read_35 k_X12_160 mf_X12_here (q_here (d := d - 1) hT (by omega)) rfl ⟨_, rfl, rfl⟩ (by omega) (by omega) (by omega) rfl rfl (Nat.le_of_ble_eq_true rfl) ?_
        refine sw_top (y := 63) (by rw [hTX]; exact c4) ?_
        refine sw_istore_n [(0, _), (1, _), (2, _)] dX12_read_38 (by decide) rfl ?_
        refine sw_iload_n dX12_read_39 rfl ?_
        refine sw_Sv dX12_read_40 k_X12_180 mf_X12_isName (c_X12_isName (d := d - 1) _) (by omega) (by omega) (by omega) rfl rfl (Nat.le_of_ble_eq_true rfl) ?_
        refine sw_if_eq 104 dX12_read_43 (by decide) (fun h43 => ?_) (fun h43 => ?_)
        · refine sw_iload_n dX12_read_104 rfl ?_
          refine sw_bipush (x := 63) dX12_read_105 (by decide) ?_
          refine sw_icmp_eq 116 dX12_read_107 (by decide) (fun h107 => ?_) (fun h107 => ?_)
          · refine sw_aload_n dX12_read_116 rfl (by first | rfl | assumption) ?_
            refine sw_iload_n dX12_read_117 rfl ?_
            refine sw_bipush (x := 63) dX12_read_118 (by decide) ?_
            refine sw_icmp_ne 127 dX12_read_120 (by decide) (fun h120 => ?_) (fun h120 => ?_)
            · exact absurd rfl h120
            · refine sw_iconst (x := 4) dX12_read_123 (by decide) ?_
              refine sw_goto 128 dX12_read_124 (by decide) ?_
              refine sw_iload_n dX12_read_128 rfl ?_
              refine sw_Vv dX12_read_129 k_X12_177 mf_X12_part hct rfl ⟨_, rfl, rfl⟩ (by omega) (by omega) (by omega) rfl rfl (Nat.le_of_ble_eq_true rfl) ?_
              refine sw_istore_n [(0, _), (1, _), (2, _), (3, _)] dX12_read_132 (by decide) rfl ?_
              refine sw_aload_n dX12_read_133 rfl (by first | rfl | assumption) ?_
              refine sw_dup dX12_read_134 rfl ?_
              refine sw_get dX12_read_135 fr_X12_157 rfl rfl ?_
              refine sw_iconst (x := 1) dX12_read_138 (by decide) ?_
              refine sw_iadd dX12_read_139 ?_
              refine sw_top (y := nI (p + 1)) (nI_1 p) ?_
              refine m_put dX12_read_140 fl_X12_157 (by decide) (sw_fit_i _) rfl ?_
              rw [pS_p]
              refine sw_aload_n dX12_read_143 rfl (by first | rfl | assumption) ?_
              refine sw_iload_n dX12_read_144 rfl ?_
              refine sw_callV dX12_read_145 k_X12_197 mf_X12_expression ⟨_, rfl, rfl⟩ rfl (c_ex_1 (d := d - 1) (A := A1) (s := s) (by omega) hT1 hTX1 (by omega) (by omega) (by omega) hg hA.2.2.2.2.2.1 w) (by omega) ⟨by omega, by omega⟩ rfl rfl (Nat.le_of_ble_eq_true rfl) (fun r n' f' hq _ => ?_)
              obtain ⟨hr, hn, A2, e2, hf⟩ := hq
              have hn := hn.symm
              subst hn
              subst hr
              subst hf
              have fr2 : ∀ z, z < 159 ∨ 166 < z → A2 z = A z := fun z hz => by rw [e2.2.1 z hz, hA.2.1 z hz]
              have hTX2 : A2 158 = TX := (fr2 158 (by decide)).trans hTX
              have hT2 : TO s A2 T := TO_A hT (by rw [hTX2, hTX])
              show SW l D cy mX12_read d 0 0 0 0 148 [(0, .ref 150), (1, .int (nI a)), (2, .int 63), (3, .int (nI P))] [.int 1] n (md f (pS s (q) (g) (P + 1 + szE e)) A2) _ _
              refine sw_if_eq 160 dX12_read_148 (by decide) (fun h148 => ?_) (fun h148 => ?_)
              · exact absurd h148 (by decide)
              · refine sw_aload_n dX12_read_151 rfl (by first | rfl | assumption) ?_
                refine sw_bipush (x := 123) dX12_read_152 (by decide) ?_
                refine sw_Vv dX12_read_154 k_X12_174 mf_X12_opens (q_op0 (d := d - 1) (by omega) hT2 (by omega) hg (by rw [hTX2]; exact c6)) rfl ⟨_, rfl, rfl⟩ (by omega) (by omega) (by omega) rfl rfl (Nat.le_of_ble_eq_true rfl) ?_
                refine sw_if_ne 162 dX12_read_157 (by decide) (fun h157 => ?_) (fun h157 => ?_)
                · exact absurd rfl h157
                · refine sw_iconst (x := 0) dX12_read_160 (by decide) ?_
                  exact sw_iret dX12_read_161 rfl (by first | rfl | exact bz_n _) (by omega) (by omega) (KF q (by rw [pR, if_neg c1, if_pos c4, w]; show (match pB TX T g (pR TX T F (g + 1)) q with | (none, q1) => (none, q1) | (some r1, q1) => _ : Option RT × Nat) = _; rw [pB, if_neg c6]) _ _ _ fr2)
          · exact absurd rfl h107
        · exact absurd (by decide) h43
