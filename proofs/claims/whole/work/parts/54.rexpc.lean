/-! ===== THE REFERENCE: expression, its contract ===== -/
theorem rpE_u {A : Nat → Nat → Int32} {j : Nat} {v : Int32} : ∀ (x : ET) (k : Nat), rpE A x k → rpE (u2 A 166 j v) x k
  | .leaf x, k, r => by
    unfold rpE at r ⊢
    simp only [u2_q A v (show ¬ 159 = 166 by decide), u2_q A v (show ¬ 160 = 166 by decide), u2_q A v (show ¬ 162 = 166 by decide)]
    exact r
  | .branch z a b, k, r => by
    unfold rpE at r ⊢
    obtain ⟨r1, r2, r3, r4, r5, r6, r7⟩ := r
    simp only [u2_q A v (show ¬ 159 = 166 by decide), u2_q A v (show ¬ 160 = 166 by decide), u2_q A v (show ¬ 162 = 166 by decide), u2_q A v (show ¬ 164 = 166 by decide)]
    exact ⟨r1, r2, r3, r4, r5, rpE_u a _ r6, rpE_u b _ r7⟩
/-- A' is A with the expression x, the first child of st, from P on -/
def EXG (A A' : Nat → Nat → Int32) (P st : Nat) (x : ET) : Prop := (∀ q i, i < P → ¬ (i = st ∧ (q = 162 ∨ q = 163 ∨ q = 165)) → A' q i = A q i) ∧ (∀ q, q < 159 ∨ 166 < q → A' q = A q) ∧ rpE A' x P ∧ A' 164 P = -1 ∧ A' 163 st = nI P ∧ A' 165 st = A 165 st + 1 ∧ A' 162 st = nI P ∧ A' 166 P = nI (P + szE x)
theorem EXG_of {A A' : Nat → Nat → Int32} {P st : Nat} {x : ET} (h : EXF A A' P st none x) : EXG A (u2 A' 166 P (nI (P + szE x))) P st x := by
  obtain ⟨h1, h2, h3, h4, h5, h6, h7, h8⟩ := h
  refine ⟨fun q i z1 z2 => ?_, fun q hq => ?_, rpE_u x P h3, ?_, ?_, ?_, ?_, ?_⟩
  · rw [u2_at, if_neg (by omega)]; exact h1 q i z1 z2 (fun y => absurd y.1 (by simp))
  · rw [u2_q _ _ (by omega)]; exact h2 q hq
  · rw [u2_q _ _ (by decide)]; exact h4
  · rw [u2_q _ _ (by decide)]; exact h5
  · rw [u2_q _ _ (by decide)]; exact h6
  · rw [u2_q _ _ (by decide)]; exact h7
  · rw [u2_at, if_pos ⟨rfl, rfl⟩]
set_option maxRecDepth 100000 in
theorem c_ex_1 {l : Launch} {D : va_G} {cy : Nat → ClassId} {d n : Nat} {f : sw_F} {s : Nat → Int32} {A : Nat → Nat → Int32} (hd : 3 ≤ d) {T st g p P : Nat} {TX : Nat → Int32} (hT : TO s A T) (hTX : A 158 = TX) (hp : p ≤ T) (hP : P ≤ p + 1) (hst : st < P) (hg : g ≤ 6) (hv : A 162 st = -1) {x : ET} {q : Nat} (hx : pE TX T 100 g p = (some x, q)) : sw_Ct l D cy mX12_expression d 0 0 [.ref 150, .int (nI st)] n (md f (pS s (p) (g) (P)) A) (fun r n' f' => r = some (.int 1) ∧ n' = n ∧ ∃ A', EXG A A' P st x ∧ f' = md f (pS s q g (P + szE x)) A') := by
  have hT72 := hT.2.1
  refine sw_of rfl (Nat.le_of_ble_eq_true rfl) ?_
  show SW l D cy mX12_expression d 0 0 0 0 0 [(0, .ref 150), (1, .int (nI st))] [] n (md f (pS s (p) (g) (P)) A) _ _
  refine sw_iload_n dX12_expression_0 rfl ?_
  refine sw_istore_n [(0, _), (1, _), (2, _)] dX12_expression_1 (by decide) rfl ?_
  refine sw_iconst (x := 0) dX12_expression_2 (by decide) ?_
  refine sw_istore_n [(0, _), (1, _), (2, _), (3, _)] dX12_expression_3 (by decide) rfl ?_
  refine l_ex (st := st) (TX := TX) hd 100 g p P st 0 none A hT hTX hp (by omega) hP (by omega) hst hst hg (Or.inl ⟨rfl, hv⟩) ?_ ?_
  · intro q1 w1 g1 P1 A1 fr
    have w2 := congrArg Prod.fst (hx.symm.trans w1)
    exact absurd w2 (by simp)
  · intro x1 q1 w1 r1 A1 hr1 e1
    have w2 := hx.symm.trans w1
    have w3 := congrArg Prod.snd w2
    have w4 := Option.some.inj (congrArg Prod.fst w2)
    have w3 : q = q1 := w3
    subst w3
    subst w4
    have l2 := pE_le (TX := TX) 100 g p hp
    rw [w1] at l2
    have l3 : p + szE x ≤ q := l2.2.2 x rfl
    have l4 : q ≤ T := l2.2.1
    have sp := szE_pos x
    refine sw_iload dX12_expression_37 rfl ?_
    refine sw_if_ne 135 dX12_expression_39 (by decide) (fun h39 => ?_) (fun h39 => ?_)
    · exact absurd rfl h39
    · refine sw_iload_n dX12_expression_42 rfl ?_
      refine sw_iload_n dX12_expression_43 rfl ?_
      refine sw_icmp_ne 64 dX12_expression_44 (by decide) (fun h44 => ?_) (fun h44 => ?_)
      · exact absurd rfl h44
      · refine sw_aload_n dX12_expression_47 rfl (by first | rfl | assumption) ?_
        refine sw_get dX12_expression_48 fr_X12_64 rfl rfl ?_
        refine sw_aload_n dX12_expression_51 rfl (by first | rfl | assumption) ?_
        refine sw_get dX12_expression_52 fr_X12_52 rfl rfl ?_
        refine sw_iload_n dX12_expression_55 rfl ?_
        refine sw_ialdN (st) dX12_expression_56 rfl rfl (show st < 160 by omega) (by decide) ?_
        refine sw_top (y := nI P) e1.2.2.2.2.2.2.1 ?_
        refine sw_aload_n dX12_expression_57 rfl (by first | rfl | assumption) ?_
        refine sw_get dX12_expression_58 fr_X12_171 rfl rfl ?_
        refine m_iast (P) dX12_expression_61 ⟨by decide, by decide, rfl⟩ rfl (show P < 160 by omega) rfl ?_
        refine sw_iconst (x := 1) dX12_expression_62 (by decide) ?_
        exact sw_iret dX12_expression_63 rfl (by first | rfl | exact bz_n _) (by omega) (by omega) ⟨rfl, rfl, _, EXG_of e1, rfl⟩
set_option maxRecDepth 100000 in
theorem c_ex_0 {l : Launch} {D : va_G} {cy : Nat → ClassId} {d n : Nat} {f : sw_F} {s : Nat → Int32} {A : Nat → Nat → Int32} (hd : 3 ≤ d) {T st g p P : Nat} {TX : Nat → Int32} (hT : TO s A T) (hTX : A 158 = TX) (hp : p ≤ T) (hP : P ≤ p + 1) (hst : st < P) (hg : g ≤ 6) (hv : A 162 st = -1) {q : Nat} (hx : pE TX T 100 g p = (none, q)) : sw_Ct l D cy mX12_expression d 0 0 [.ref 150, .int (nI st)] n (md f (pS s (p) (g) (P)) A) (fun r n' f' => r = some (.int 0) ∧ n' = n ∧ ∃ g' P' A', (∀ z, z < 159 ∨ 166 < z → A' z = A z) ∧ f' = md f (pS s q g' P') A') := by
  have hT72 := hT.2.1
  refine sw_of rfl (Nat.le_of_ble_eq_true rfl) ?_
  show SW l D cy mX12_expression d 0 0 0 0 0 [(0, .ref 150), (1, .int (nI st))] [] n (md f (pS s (p) (g) (P)) A) _ _
  refine sw_iload_n dX12_expression_0 rfl ?_
  refine sw_istore_n [(0, _), (1, _), (2, _)] dX12_expression_1 (by decide) rfl ?_
  refine sw_iconst (x := 0) dX12_expression_2 (by decide) ?_
  refine sw_istore_n [(0, _), (1, _), (2, _), (3, _)] dX12_expression_3 (by decide) rfl ?_
  refine l_ex (st := st) (TX := TX) hd 100 g p P st 0 none A hT hTX hp (by omega) hP (by omega) hst hst hg (Or.inl ⟨rfl, hv⟩) ?_ ?_
  · intro q1 w1 g1 P1 A1 fr
    have w3 : q = q1 := congrArg Prod.snd (hx.symm.trans w1)
    subst w3
    exact ⟨rfl, rfl, g1, P1, A1, fr, rfl⟩
  · intro x1 q1 w1 r1 A1 hr1 e1
    have w2 := congrArg Prod.fst (hx.symm.trans w1)
    exact absurd w2 (by simp)
