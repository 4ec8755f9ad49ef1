/-! ===== THE CLASS: Reader, expressions ===== -/
/-- place p has the node of x, all its places from m to n - 1 -/
def ndE (f : sw_F) (m n : Nat) : ET → Nat → Prop
  | .leaf x, p => (m ≤ p ∧ p < n) ∧ f p = nd (nI x.1) (nI x.2) .null .null .null .null
  | .branch q a b, p => (m ≤ p ∧ p < n) ∧ ∃ pa pb, f p = nd 2 (nI q) .null (.ref pa) (.ref pb) .null ∧ ndE f m n a pa ∧ ndE f m n b pb
theorem ndE_x {f f' : sw_F} {m m' n n' : Nat} (hm : m' ≤ m) (hn : n ≤ n') (h : ∀ i, m ≤ i → i < n → f' i = f i) : ∀ (x : ET) (p : Nat), ndE f m n x p → ndE f' m' n' x p
  | .leaf x, p, r => ⟨⟨Nat.le_trans hm r.1.1, Nat.lt_of_lt_of_le r.1.2 hn⟩, by rw [h p r.1.1 r.1.2]; exact r.2⟩
  | .branch q a b, p, r => by
    obtain ⟨r1, pa, pb, r2, r3, r4⟩ := r
    exact ⟨⟨by omega, by omega⟩, pa, pb, by rw [h p r1.1 r1.2]; exact r2, ndE_x hm hn h a pa r3, ndE_x hm hn h b pb r4⟩
def QE (n : Nat) (f : sw_F) (s : Nat → Int32) (A : Nat → Nat → Int32) (B : Nat → Nat → Int64) (o : Int64) (pr : Value) (w : Option ET × Nat) : sw_Q := fun r n' f' => n ≤ n' ∧ ((∃ x np f2, w.1 = some x ∧ r = some (.ref np) ∧ f' = gd f2 (rS s w.2 (-1)) A B o pr ∧ (∀ i, i < n → f2 i = f i) ∧ ndE f2 n n' x np) ∨ (∃ f2, w.1 = none ∧ r = some .null ∧ f' = gd f2 (rS s w.2 (nI w.2)) A B o pr ∧ ∀ i, i < n → f2 i = f i))
set_option maxRecDepth 100000 in
theorem l_X8_num {l : Launch} {D : va_G} {cy : Nat → ClassId} {d n : Nat} {f : sw_F} {s : Nat → Int32} {A : Nat → Nat → Int32} {B : Nat → Nat → Int64} {o : Int64} {pr : Value} (hd : 1 ≤ d) {T : Nat} (hT : TC s (A 7) T) {M : Nat} {Q : sw_Q} {QX : sw_QX} : ∀ (c k p v : Nat), k + c = 3 → p + c ≤ 100 → SW l D cy mX8_readNumber d M (6 * M) 0 0 48 [(0, .ref 6), (1, .int (nI (pN (A 7) T c p v).1))] [] n (gd f (rS s ((pN (A 7) T c p v).2) (-1)) A B o pr) Q QX → SW l D cy mX8_readNumber d M (6 * M) 0 0 4 [(0, .ref 6), (1, .int (nI (v))), (2, .int (nI (k)))] [] n (gd f (rS s (p) (-1)) A B o pr) Q QX := by
  intro c
  induction c with
  | zero =>
    intro k p v hk hp K
    refine sw_iload_n dX8_readNumber_4 rfl ?_
    refine sw_iconst (x := 3) dX8_readNumber_5 (by decide) ?_
    refine sw_icmp_ge 48 dX8_readNumber_6 (by decide) (fun h6 => ?_) (fun h6 => ?_)
    · refine sw_keep [0, 1] rfl ?_
      exact K
    · exact absurd (show (3 : Int32) ≤ nI k by rw [show k = 3 by omega]; decide) h6
  | succ c ih =>
    intro k p v hk hp K
    refine sw_iload_n dX8_readNumber_4 rfl ?_
    refine sw_iconst (x := 3) dX8_readNumber_5 (by decide) ?_
    refine sw_icmp_ge 48 dX8_readNumber_6 (by decide) (fun h6 => ?_) (fun h6 => ?_)
    · refine sw_keep [0, 1] rfl ?_
      exact absurd h6 (by rw [nl_3, nI_leI (by omega) (by omega)]; omega)
    · refine sw_aload_n dX8_readNumber_9 rfl (by first | rfl | assumption) ?_
      refine sw_Vv dX8_readNumber_10 k_X8_31 mf_X8_current (c_X8_current (d := d - 1) (p := p) hT (by omega) (-1)) rfl ⟨_, rfl, rfl⟩ (by omega) (by omega) (by omega) rfl rfl (Nat.le_of_ble_eq_true rfl) ?_
      refine sw_Sv dX8_readNumber_13 k_X8_78 mf_X8_isDigit (c_X8_isDigit (d := d - 1) _) (by omega) (by omega) (by omega) rfl rfl (Nat.le_of_ble_eq_true rfl) ?_
      refine sw_if_eq 48 dX8_readNumber_16 (by decide) (fun h16 => ?_) (fun h16 => ?_)
      · refine sw_keep [0, 1] rfl ?_
        rw [pN, if_neg (by rw [← cc_dg, bz_0.mp h16]; decide)] at K
        exact K
      · have g1 := bz_ne.mp h16
        rw [cc_dg] at g1
        obtain ⟨j, j1, j2, hj⟩ := r_dg_i g1
        have hin := hc_in (TX := A 7) (T := T) (p := p) (fun y => by rw [y] at g1; exact absurd g1 (by decide))
        rw [pN, if_pos g1, hj, nI_clamp (by omega)] at K
        refine sw_iload_n dX8_readNumber_19 rfl ?_
        refine sw_bipush (x := 10) dX8_readNumber_20 (by decide) ?_
        refine sw_imul dX8_readNumber_22 ?_
        refine sw_aload_n dX8_readNumber_23 rfl (by first | rfl | assumption) ?_
        refine sw_Vv dX8_readNumber_24 k_X8_31 mf_X8_current (c_X8_current (d := d - 1) (p := p) hT (by omega) (-1)) rfl ⟨_, rfl, rfl⟩ (by omega) (by omega) (by omega) rfl rfl (Nat.le_of_ble_eq_true rfl) ?_
        refine sw_top (y := nI j) (by rw [cc_in hin]; exact hj) ?_
        refine sw_iadd dX8_readNumber_27 ?_
        refine sw_bipush (x := 48) dX8_readNumber_28 (by decide) ?_
        refine sw_isub dX8_readNumber_30 ?_
        refine sw_top (y := nI (10 * v + (j - 48))) (by rw [nl_10, pk_mul, nI_add, show (48 : Int32) = nI 48 by decide, nI_sub (by omega)]; exact congrArg nI (by omega)) ?_
        refine sw_istore_n [(0, _), (1, _), (2, _)] dX8_readNumber_31 (by decide) rfl ?_
        refine sw_aload_n dX8_readNumber_32 rfl (by first | rfl | assumption) ?_
        refine sw_dup dX8_readNumber_33 rfl ?_
        refine sw_get dX8_readNumber_34 fr_X8_19 rfl rfl ?_
        refine sw_iconst (x := 1) dX8_readNumber_37 (by decide) ?_
        refine sw_iadd dX8_readNumber_38 ?_
        refine sw_top (y := nI (p + 1)) (nI_1 p) ?_
        refine g_put 8 dX8_readNumber_39 fl_X8_19 rfl ⟨by decide, rfl⟩ rfl (Nat.le_of_ble_eq_true rfl) (sw_fit_i _) rfl ?_
        rw [rS_p]
        first | refine sw_inc1 [(0, _), (1, _), (2, _)] dX8_readNumber_42 rfl (by decide) rfl ?_ | refine sw_iinc [(0, _), (1, _), (2, _)] dX8_readNumber_42 rfl (by decide) rfl ?_
        refine sw_goto 4 dX8_readNumber_45 (by decide) ?_
        exact ih (k + 1) (p + 1) _ (by omega) (by omega) K
set_option maxRecDepth 100000 in
theorem c_X8_readNumber {l : Launch} {D : va_G} {cy : Nat → ClassId} {d n : Nat} {f : sw_F} {s : Nat → Int32} {A : Nat → Nat → Int32} {B : Nat → Nat → Int64} {o : Int64} {pr : Value} (hd : 2 ≤ d) {T : Nat} (hT : TC s (A 7) T) {M p : Nat} (hM : 1 ≤ M) (hn : 187 ≤ n) (hp : p ≤ 72) : sw_Ct l D cy mX8_readNumber d M (6 * M) [.ref 6] n (gd f (rS s (p) (-1)) A B o pr) (QE n f s A B o pr (some (.leaf (0, (pN (A 7) T 3 p 0).1)), (pN (A 7) T 3 p 0).2)) := by
  refine sw_of rfl (Nat.le_of_ble_eq_true rfl) ?_
  show SW l D cy mX8_readNumber d M (6 * M) 0 0 0 [(0, .ref 6)] [] n (gd f (rS s (p) (-1)) A B o pr) _ _
  refine sw_iconst (x := 0) dX8_readNumber_0 (by decide) ?_
  refine sw_istore_n [(0, _), (1, _)] dX8_readNumber_1 (by decide) rfl ?_
  refine sw_iconst (x := 0) dX8_readNumber_2 (by decide) ?_
  refine sw_istore_n [(0, _), (1, _), (2, _)] dX8_readNumber_3 (by decide) rfl ?_
  refine l_X8_num (by omega) hT 3 0 p 0 (by omega) (by omega) ?_
  generalize pN (A 7) T 3 p 0 = w
  refine sw_new dX8_readNumber_48 nf_X8_47 (by omega) (by omega) ?_
  rw [gd_x _ _ _ _ _ _ (show 150 ≤ n by omega)]
  refine sw_dup dX8_readNumber_51 rfl ?_
  refine sw_iconst (x := 0) dX8_readNumber_52 (by decide) ?_
  refine sw_iload_n dX8_readNumber_53 rfl ?_
  refine sw_null dX8_readNumber_54 ?_
  refine sw_null dX8_readNumber_55 ?_
  refine sw_null dX8_readNumber_56 ?_
  refine sw_callI dX8_readNumber_57 k_X8_68 mf_X6_init (c_X6_init (d := d - 1) (by omega) (show 150 ≤ n by omega) (vu_at _ _ _) 0 (nI w.1) (x := .null) rfl (y := .null) rfl (z := .null) rfl) (by omega) ⟨by omega, by omega⟩ rfl rfl (Nat.le_of_ble_eq_true rfl) (fun r' n' f' hq hle => ?_)
  obtain ⟨hr', hn', hf'⟩ := hq
  subst hr'
  have hn' := hn'.symm
  subst hn'
  subst hf'
  rw [vu_up]
  show SW l D cy mX8_readNumber d M (6 * M) (0 + 1 + 0) (0 + 6 + 0) 60 [(0, .ref 6), (1, .int (nI w.1))] [.ref n] (n + 1) (gd (va_up f n (nd 0 (nI w.1) .null .null .null .null)) (rS s w.2 (-1)) A B o pr) _ _
  exact sw_aret dX8_readNumber_60 rfl rfl (by omega) (by omega) ⟨by omega, Or.inl ⟨_, n, _, rfl, rfl, rfl, fun i hi => vu_ne _ (by omega) _, ⟨⟨Nat.le_refl n, by omega⟩, vu_at _ _ _⟩⟩⟩
set_option maxRecDepth 100000 in
theorem c_X8_readBrackets {l : Launch} {D : va_G} {cy : Nat → ClassId} {d n : Nat} {f : sw_F} {s : Nat → Int32} {A : Nat → Nat → Int32} {B : Nat → Nat → Int64} {o : Int64} {pr : Value} {T : Nat} (hT : TC s (A 7) T) {F g p M : Nat} (ih : ∀ (g p M n d : Nat) (f : sw_F), g ≤ 6 → 15 - 2 * g ≤ d → 187 ≤ n → p ≤ T → T < p + F → (pE (A 7) T F g p).2 ≤ p + M → sw_Ct l D cy mX8_readExpression d M (6 * (M)) [.ref 6, .int (nI (g))] n (gd f (rS s (p) (-1)) A B o pr) (QE n f s A B o pr (pE (A 7) T F (g) (p)))) (hg : g ≤ 6) (hd : 14 - 2 * g ≤ d) (hd2 : 2 ≤ d) (hn : 187 ≤ n) (hp : p ≤ T) (hF : T < p + (F + 1)) (c1 : ¬ r_dg (hc (A 7) T p) = true) (c2 : ¬ r_nm (hc (A 7) T p) = true) (hM : (pE (A 7) T (F + 1) g p).2 ≤ p + M) : sw_Ct l D cy mX8_readBrackets d M (6 * M) [.ref 6, .int (nI (g + 1))] n (gd f (rS s (p) (-1)) A B o pr) (QE n f s A B o pr (pE (A 7) T (F + 1) g p)) := by
  have hT2 := hT.2.1
  refine sw_of rfl (Nat.le_of_ble_eq_true rfl) ?_
  show SW l D cy mX8_readBrackets d M (6 * M) 0 0 0 [(0, .ref 6), (1, .int (nI (g + 1)))] [] n (gd f (rS s (p) (-1)) A B o pr) _ _
  by_cases c3 : hc (A 7) T p = 40 ∧ g < 6
  · have y3 := hc_in (TX := A 7) (T := T) (p := p) (fun y => by rw [y] at c3; exact absurd c3.1 (by decide))
    have l1 := pE_le (TX := A 7) F (g + 1) (p + 1) (show p + 1 ≤ T by omega)
    generalize w1 : pE (A 7) T F (g + 1) (p + 1) = w1'' at l1
    obtain ⟨w1', q1⟩ := w1''
    have l6 : p + 1 ≤ q1 := l1.1
    have l7 : q1 ≤ T := l1.2.1
    have hMq : q1 ≤ p + M := by
      refine Nat.le_trans ?_ hM
      have l9 := pE_le (TX := A 7) (F + 1) g p hp
      rw [pE, if_neg c1, if_neg c2, if_pos c3, w1]
      cases w1' with
      | none => exact Nat.le_refl q1
      | some z =>
        show q1 ≤ (if _ then _ else _ : Option ET × Nat).2
        by_cases c4 : r_op (hc (A 7) T q1) = 0
        · rw [if_pos c4]; exact Nat.le_refl q1
        · rw [if_neg c4]
          have y4 := hc_in (TX := A 7) (T := T) (p := q1) (fun y => by rw [y] at c4; exact absurd (by decide) c4)
          have l2 := pE_le (TX := A 7) F (g + 1) (q1 + 1) (show q1 + 1 ≤ T by omega)
          generalize pE (A 7) T F (g + 1) (q1 + 1) = w2' at l2
          obtain ⟨w2, q2⟩ := w2'
          have l3 : q1 + 1 ≤ q2 := l2.1
          cases w2 with
          | none => exact Nat.le_of_succ_le l3
          | some z2 =>
            show q1 ≤ (if _ then _ else _ : Option ET × Nat).2
            split
            · exact Nat.le_succ_of_le (Nat.le_of_succ_le l3)
            · exact Nat.le_of_succ_le l3
    refine sw_aload_n dX8_readBrackets_0 rfl (by first | rfl | assumption) ?_
    refine sw_bipush (x := 40) dX8_readBrackets_1 (by decide) ?_
    refine sw_iload_n dX8_readBrackets_3 rfl ?_
    refine sw_Vv dX8_readBrackets_4 k_X8_74 mf_X8_open (c_open_1 (d := d - 1) (by omega) hT (show p ≤ 1000 by omega) (-1) (show g + 1 ≤ 7 by omega) ⟨(cc_eq hT (by decide) (by decide)).mpr c3.1, by omega⟩) rfl ⟨_, rfl, rfl⟩ (by omega) (by omega) (by omega) rfl rfl (Nat.le_of_ble_eq_true rfl) ?_
    refine sw_if_ne 12 dX8_readBrackets_7 (by decide) (fun h7 => ?_) (fun h7 => ?_)
    · refine sw_aload_n dX8_readBrackets_12 rfl (by first | rfl | assumption) ?_
      refine sw_iload_n dX8_readBrackets_13 rfl ?_
      have ct1 := ih (g + 1) (p + 1) (q1 - (p + 1)) n (d - 1) f (by omega) (by omega) hn (by omega) (by omega) (by rw [w1]; show q1 ≤ _; omega)
      rw [w1] at ct1
      refine sw_callV dX8_readBrackets_14 k_X8_65 mf_X8_readExpression ⟨_, rfl, rfl⟩ rfl ct1 (by omega) ⟨by omega, by omega⟩ rfl rfl (Nat.le_of_ble_eq_true rfl) (fun r' n1 f' hq hle => ?_)
      obtain ⟨hle1, hq⟩ := hq
      rcases hq with ⟨x1, np1, f2, e4, hr', hf', fr1, nd1⟩ | ⟨f2, e4, hr', hf', fr1⟩
      · subst hr'
        subst hf'
        have e4 : w1' = some x1 := e4
        subst e4
        have l4 : p + 1 + szE x1 ≤ q1 := l1.2.2 x1 rfl
        have sp1 := szE_pos x1
        show SW l D cy mX8_readBrackets d M (6 * M) (0 + (q1 - (p + 1))) (0 + 6 * (q1 - (p + 1))) 17 [(0, .ref 6), (1, .int (nI (g + 1)))] [.ref np1] n1 (gd f2 (rS s q1 (-1)) A B o pr) _ _
        refine sw_astore_n [(0, _), (1, _), (2, _)] dX8_readBrackets_17 rfl (by decide) rfl ?_
        refine sw_aload_n dX8_readBrackets_18 rfl rfl ?_
        refine sw_ifnonnullR 26 dX8_readBrackets_19 (by decide) ?_
        by_cases c4 : r_op (hc (A 7) T q1) = 0
        · have ew : pE (A 7) T (F + 1) g p = (none, q1) := by rw [pE, if_neg c1, if_neg c2, if_pos c3, w1]; show (if _ then _ else _ : Option ET × Nat) = _; rw [if_pos c4]
          rw [ew] at hM
          have hM : q1 ≤ p + M := hM
          refine sw_aload_n dX8_readBrackets_26 rfl (by first | rfl | assumption) ?_
          refine sw_Vv dX8_readBrackets_27 k_X8_88 mf_X8_readOperation (c_rop_0 (d := d - 1) (by omega) hT (show q1 ≤ 1000 by omega) (-1) (by rw [cc_op]; exact c4)) rfl ⟨_, rfl, rfl⟩ (by omega) (by omega) (by omega) rfl rfl (Nat.le_of_ble_eq_true rfl) ?_
          refine sw_istore_n [(0, _), (1, _), (2, _), (3, _)] dX8_readBrackets_30 (by decide) rfl ?_
          refine sw_iload_n dX8_readBrackets_31 rfl ?_
          refine sw_iconst (x := (-1)) dX8_readBrackets_32 (by decide) ?_
          refine sw_icmp_ne 38 dX8_readBrackets_33 (by decide) (fun h33 => ?_) (fun h33 => ?_)
          · exact absurd rfl h33
          · refine sw_null dX8_readBrackets_36 ?_
            exact sw_aret dX8_readBrackets_37 rfl (by first | rfl | assumption) (by omega) (by omega) ⟨by omega, Or.inr ⟨f2, by rw [ew], rfl, by rw [ew], fr1⟩⟩
        · have y4 := hc_in (TX := A 7) (T := T) (p := q1) (fun y => by rw [y] at c4; exact absurd (by decide) c4)
          have l2 := pE_le (TX := A 7) F (g + 1) (q1 + 1) (show q1 + 1 ≤ T by omega)
          generalize w2e : pE (A 7) T F (g + 1) (q1 + 1) = w2' at l2
          obtain ⟨w2, q2⟩ := w2'
          have l6 : q1 + 1 ≤ q2 := l2.1
          have l7 : q2 ≤ T := l2.2.1
          have hMq : q2 ≤ p + M := by
            refine Nat.le_trans ?_ hM
            rw [pE, if_neg c1, if_neg c2, if_pos c3, w1]
            show q2 ≤ (if _ then _ else _ : Option ET × Nat).2
            rw [if_neg c4, w2e]
            cases w2 with
            | none => exact Nat.le_refl q2
            | some z =>
              show q2 ≤ (if _ then _ else _ : Option ET × Nat).2
              split
              · exact Nat.le_succ q2
              · exact Nat.le_refl q2
          refine sw_aload_n dX8_readBrackets_26 rfl (by first | rfl | assumption) ?_
          refine sw_Vv dX8_readBrackets_27 k_X8_88 mf_X8_readOperation (c_rop_1 (d := d - 1) (by omega) hT (show q1 ≤ 1000 by omega) (-1) (by rw [cc_op]; exact c4)) rfl ⟨_, rfl, rfl⟩ (by omega) (by omega) (by omega) rfl rfl (Nat.le_of_ble_eq_true rfl) ?_
          refine sw_top (y := r_op (hc (A 7) T q1)) (by rw [cc_op]) ?_
          refine sw_istore_n [(0, _), (1, _), (2, _), (3, _)] dX8_readBrackets_30 (by decide) rfl ?_
          refine sw_iload_n dX8_readBrackets_31 rfl ?_
          refine sw_iconst (x := (-1)) dX8_readBrackets_32 (by decide) ?_
          refine sw_icmp_ne 38 dX8_readBrackets_33 (by decide) (fun h33 => ?_) (fun h33 => ?_)
          · refine sw_aload_n dX8_readBrackets_38 rfl (by first | rfl | assumption) ?_
            refine sw_iload_n dX8_readBrackets_39 rfl ?_
            have ct2 := ih (g + 1) (q1 + 1) (q2 - (q1 + 1)) n1 (d - 1) f2 (by omega) (by omega) (by omega) (by omega) (by omega) (by rw [w2e]; show q2 ≤ _; omega)
            rw [w2e] at ct2
            refine sw_callV dX8_readBrackets_40 k_X8_65 mf_X8_readExpression ⟨_, rfl, rfl⟩ rfl ct2 (by omega) ⟨by omega, by omega⟩ rfl rfl (Nat.le_of_ble_eq_true rfl) (fun r' n2 f' hq hle => ?_)
            obtain ⟨hle2, hq⟩ := hq
            rcases hq with ⟨x2, np2, f3, e5, hr', hf', fr2, nd2⟩ | ⟨f3, e5, hr', hf', fr2⟩
            · subst hr'
              subst hf'
              have e5 : w2 = some x2 := e5
              subst e5
              have l5 : q1 + 1 + szE x2 ≤ q2 := l2.2.2 x2 rfl
              show SW l D cy mX8_readBrackets d M (6 * M) (0 + (q1 - (p + 1)) + (q2 - (q1 + 1))) (0 + 6 * (q1 - (p + 1)) + 6 * (q2 - (q1 + 1))) 43 [(0, .ref 6), (1, .int (nI (g + 1))), (2, .ref np1), (3, .int (r_op (hc (A 7) T q1)))] [.ref np2] n2 (gd f3 (rS s q2 (-1)) A B o pr) _ _
              by_cases c5 : hc (A 7) T q2 = 41
              · have y5 := hc_in (TX := A 7) (T := T) (p := q2) (fun y => by rw [y] at c5; exact absurd c5 (by decide))
                have ew : pE (A 7) T (F + 1) g p = (some (.branch (r_op (hc (A 7) T q1)).toNatClampNeg x1 x2), q2 + 1) := by rw [pE, if_neg c1, if_neg c2, if_pos c3, w1]; show (if _ then _ else _ : Option ET × Nat) = _; rw [if_neg c4, w2e]; show (if _ then _ else _ : Option ET × Nat) = _; rw [if_pos c5]
                rw [ew] at hM
                have hM : q2 + 1 ≤ p + M := hM
                refine sw_astore [(0, _), (1, _), (2, _), (3, _), (4, _)] dX8_readBrackets_43 rfl (by decide) rfl ?_
                refine sw_aload dX8_readBrackets_45 rfl rfl ?_
                refine sw_ifnullR dX8_readBrackets_47 ?_
                refine sw_aload_n dX8_readBrackets_50 rfl (by first | rfl | assumption) ?_
                refine sw_bipush (x := 41) dX8_readBrackets_51 (by decide) ?_
                refine sw_Vv dX8_readBrackets_53 k_X8_62 mf_X8_skip (c_skip_1 (d := d - 1) (by omega) hT (show q2 ≤ 1000 by omega) (-1) ((cc_eq hT (by decide) (by decide)).mpr c5)) rfl ⟨_, rfl, rfl⟩ (by omega) (by omega) (by omega) rfl rfl (Nat.le_of_ble_eq_true rfl) ?_
                refine sw_if_eq 75 dX8_readBrackets_56 (by decide) (fun h56 => ?_) (fun h56 => ?_)
                · exact absurd h56 (by decide)
                · refine sw_new dX8_readBrackets_59 nf_X8_47 (by omega) (by omega) ?_
                  rw [gd_x _ _ _ _ _ _ (show 150 ≤ n2 by omega)]
                  refine sw_dup dX8_readBrackets_62 rfl ?_
                  refine sw_iconst (x := 2) dX8_readBrackets_63 (by decide) ?_
                  refine sw_iload_n dX8_readBrackets_64 rfl ?_
                  refine sw_null dX8_readBrackets_65 ?_
                  refine sw_aload_n dX8_readBrackets_66 rfl rfl ?_
                  refine sw_aload dX8_readBrackets_67 rfl rfl ?_
                  refine sw_callI dX8_readBrackets_69 k_X8_68 mf_X6_init (c_X6_init (d := d - 1) (by omega) (show 150 ≤ n2 by omega) (vu_at _ _ _) 2 (r_op (hc (A 7) T q1)) (x := .null) rfl (y := .ref np1) rfl (z := .ref np2) rfl) (by omega) ⟨by omega, by omega⟩ rfl rfl (Nat.le_of_ble_eq_true rfl) (fun r' n' f' hq hle => ?_)
                  obtain ⟨hr', hn', hf'⟩ := hq
                  subst hr'
                  have hn' := hn'.symm
                  subst hn'
                  subst hf'
                  rw [vu_up]
                  show SW l D cy mX8_readBrackets d M (6 * M) (0 + (q1 - (p + 1)) + (q2 - (q1 + 1)) + 1 + 0) (0 + 6 * (q1 - (p + 1)) + 6 * (q2 - (q1 + 1)) + 6 + 0) 72 [(0, .ref 6), (1, .int (nI (g + 1))), (2, .ref np1), (3, .int (r_op (hc (A 7) T q1))), (4, .ref np2)] [.ref n2] (n2 + 1) (gd (va_up f3 n2 (nd 2 (r_op (hc (A 7) T q1)) .null (.ref np1) (.ref np2) .null)) (rS s (q2 + 1) (-1)) A B o pr) _ _
                  refine sw_goto 76 dX8_readBrackets_72 (by decide) ?_
                  refine sw_aret dX8_readBrackets_76 rfl rfl (by omega) (by omega) ⟨by omega, Or.inl ⟨_, n2, _, by rw [ew], rfl, by rw [ew], fun i hi => ?_, ?_⟩⟩
                  · rw [vu_ne _ (show ¬ i = n2 by omega), fr2 i (by omega), fr1 i hi]
                  · refine ⟨⟨by omega, by omega⟩, np1, np2, ?_, ndE_x (Nat.le_refl n) (by omega) (fun i h1 h2 => by rw [vu_ne _ (show ¬ i = n2 by omega), fr2 i h2]) x1 np1 nd1, ndE_x (show n ≤ n1 by omega) (by omega) (fun i h1 h2 => vu_ne _ (by omega) _) x2 np2 nd2⟩
                    rw [vu_at, ← (r_op_i (hc (A 7) T q1)).1]
              · have ew : pE (A 7) T (F + 1) g p = (none, q2) := by rw [pE, if_neg c1, if_neg c2, if_pos c3, w1]; show (if _ then _ else _ : Option ET × Nat) = _; rw [if_neg c4, w2e]; show (if _ then _ else _ : Option ET × Nat) = _; rw [if_neg c5]
                rw [ew] at hM
                have hM : q2 ≤ p + M := hM
                refine sw_astore [(0, _), (1, _), (2, _), (3, _), (4, _)] dX8_readBrackets_43 rfl (by decide) rfl ?_
                refine sw_aload dX8_readBrackets_45 rfl rfl ?_
                refine sw_ifnullR dX8_readBrackets_47 ?_
                refine sw_aload_n dX8_readBrackets_50 rfl (by first | rfl | assumption) ?_
                refine sw_bipush (x := 41) dX8_readBrackets_51 (by decide) ?_
                refine sw_Vv dX8_readBrackets_53 k_X8_62 mf_X8_skip (c_skip_0 (d := d - 1) (by omega) hT (show q2 ≤ 1000 by omega) (-1) (fun z => c5 ((cc_eq hT (by decide) (by decide)).mp z))) rfl ⟨_, rfl, rfl⟩ (by omega) (by omega) (by omega) rfl rfl (Nat.le_of_ble_eq_true rfl) ?_
                refine sw_if_eq 75 dX8_readBrackets_56 (by decide) (fun h56 => ?_) (fun h56 => ?_)
                · refine sw_null dX8_readBrackets_75 ?_
                  exact sw_aret dX8_readBrackets_76 rfl (by first | rfl | assumption) (by omega) (by omega) ⟨by omega, Or.inr ⟨f3, by rw [ew], rfl, by rw [ew], fun i hi => by rw [fr2 i (by omega), fr1 i hi]⟩⟩
                · exact absurd rfl h56
            · subst hr'
              subst hf'
              have e5 : w2 = none := e5
              subst e5
              have ew : pE (A 7) T (F + 1) g p = (none, q2) := by rw [pE, if_neg c1, if_neg c2, if_pos c3, w1]; show (if _ then _ else _ : Option ET × Nat) = _; rw [if_neg c4, w2e]
              rw [ew] at hM
              have hM : q2 ≤ p + M := hM
              show SW l D cy mX8_readBrackets d M (6 * M) (0 + (q1 - (p + 1)) + (q2 - (q1 + 1))) (0 + 6 * (q1 - (p + 1)) + 6 * (q2 - (q1 + 1))) 43 [(0, .ref 6), (1, .int (nI (g + 1))), (2, .ref np1), (3, .int (r_op (hc (A 7) T q1)))] [.null] n2 (gd f3 (rS s q2 (nI q2)) A B o pr) _ _
              refine sw_astore [(0, _), (1, _), (2, _), (3, _), (4, _)] dX8_readBrackets_43 rfl (by decide) rfl ?_
              refine sw_aload dX8_readBrackets_45 rfl rfl ?_
              refine sw_ifnullN 75 dX8_readBrackets_47 (by decide) ?_
              refine sw_null dX8_readBrackets_75 ?_
              exact sw_aret dX8_readBrackets_76 rfl (by first | rfl | assumption) (by omega) (by omega) ⟨by omega, Or.inr ⟨f3, by rw [ew], rfl, by rw [ew], fun i hi => by rw [fr2 i (by omega), fr1 i hi]⟩⟩
          · exact absurd (show r_op (hc (A 7) T q1) < 0 by rw [h33]; decide) (by rw [(r_op_i (hc (A 7) T q1)).1]; exact i32_nlt0 (by have := (r_op_i (hc (A 7) T q1)).2; omega))
      · subst hr'
        subst hf'
        have e4 : w1' = none := e4
        subst e4
        have ew : pE (A 7) T (F + 1) g p = (none, q1) := by rw [pE, if_neg c1, if_neg c2, if_pos c3, w1]
        rw [ew] at hM
        have hM : q1 ≤ p + M := hM
        show SW l D cy mX8_readBrackets d M (6 * M) (0 + (q1 - (p + 1))) (0 + 6 * (q1 - (p + 1))) 17 [(0, .ref 6), (1, .int (nI (g + 1)))] [.null] n1 (gd f2 (rS s q1 (nI q1)) A B o pr) _ _
        refine sw_astore_n [(0, _), (1, _), (2, _)] dX8_readBrackets_17 rfl (by decide) rfl ?_
        refine sw_aload_n dX8_readBrackets_18 rfl rfl ?_
        refine sw_ifnonnullN dX8_readBrackets_19 ?_
        refine sw_iconst (x := (-1)) dX8_readBrackets_22 (by decide) ?_
        refine sw_goto 30 dX8_readBrackets_23 (by decide) ?_
        refine sw_istore_n [(0, _), (1, _), (2, _), (3, _)] dX8_readBrackets_30 (by decide) rfl ?_
        refine sw_iload_n dX8_readBrackets_31 rfl ?_
        refine sw_iconst (x := (-1)) dX8_readBrackets_32 (by decide) ?_
        refine sw_icmp_ne 38 dX8_readBrackets_33 (by decide) (fun h33 => ?_) (fun h33 => ?_)
        · exact absurd rfl h33
        · refine sw_null dX8_readBrackets_36 ?_
          exact sw_aret dX8_readBrackets_37 rfl (by first | rfl | assumption) (by omega) (by omega) ⟨by omega, Or.inr ⟨f2, by rw [ew], rfl, by rw [ew], fr1⟩⟩
    · exact absurd h7 (by decide)
  · have ew : pE (A 7) T (F + 1) g p = (none, p) := by rw [pE, if_neg c1, if_neg c2, if_neg c3]
    refine sw_aload_n dX8_readBrackets_0 rfl (by first | rfl | assumption) ?_
    refine sw_bipush (x := 40) dX8_readBrackets_1 (by decide) ?_
    refine sw_iload_n dX8_readBrackets_3 rfl ?_
    refine sw_Vv dX8_readBrackets_4 k_X8_74 mf_X8_open (c_open_0 (d := d - 1) (by omega) hT (show p ≤ 1000 by omega) (-1) (show g + 1 ≤ 7 by omega) (fun z => c3 ⟨(cc_eq hT (by decide) (by decide)).mp z.1, by omega⟩)) rfl ⟨_, rfl, rfl⟩ (by omega) (by omega) (by omega) rfl rfl (Nat.le_of_ble_eq_true rfl) ?_
    refine sw_if_ne 12 dX8_readBrackets_7 (by decide) (fun h7 => ?_) (fun h7 => ?_)
    · exact absurd rfl h7
    · refine sw_null dX8_readBrackets_10 ?_
      exact sw_aret dX8_readBrackets_11 rfl (by first | rfl | assumption) (by omega) (by omega) ⟨by omega, Or.inr ⟨f, by rw [ew], rfl, by rw [ew], fun i hi => rfl⟩⟩
set_option maxRecDepth 100000 in
theorem c_X8_readExpression {l : Launch} {D : va_G} {cy : Nat → ClassId}  {s : Nat → Int32} {A : Nat → Nat → Int32} {B : Nat → Nat → Int64} {o : Int64} {pr : Value} {T : Nat} (hT : TC s (A 7) T) : ∀ (F g p M n d : Nat) (f : sw_F), g ≤ 6 → 15 - 2 * g ≤ d → 187 ≤ n → p ≤ T → T < p + F → (pE (A 7) T F g p).2 ≤ p + M → sw_Ct l D cy mX8_readExpression d M (6 * (M)) [.ref 6, .int (nI (g))] n (gd f (rS s (p) (-1)) A B o pr) (QE n f s A B o pr (pE (A 7) T F (g) (p))) := by
  have hT2 := hT.2.1
  intro F
  induction F with
  | zero => intro g p M n d f hg hd hn hp hF; omega
  | succ F ih =>
    intro g p M n d f hg hd hn hp hF hM
    refine sw_of rfl (Nat.le_of_ble_eq_true rfl) ?_
    show SW l D cy mX8_readExpression d M (6 * M) 0 0 0 [(0, .ref 6), (1, .int (nI g))] [] n (gd f (rS s (p) (-1)) A B o pr) _ _
    by_cases c1 : r_dg (hc (A 7) T p) = true
    · have ew : pE (A 7) T (F + 1) g p = (some (.leaf (0, (pN (A 7) T 3 p 0).1)), (pN (A 7) T 3 p 0).2) := by rw [pE, if_pos c1]
      have lt := pN_lt c1
      rw [ew] at hM ⊢
      have hM : (pN (A 7) T 3 p 0).2 ≤ p + M := hM
      refine sw_aload_n dX8_readExpression_0 rfl (by first | rfl | assumption) ?_
      refine sw_Vv dX8_readExpression_1 k_X8_31 mf_X8_current (c_X8_current (d := d - 1) (p := p) hT (by omega) (-1)) rfl ⟨_, rfl, rfl⟩ (by omega) (by omega) (by omega) rfl rfl (Nat.le_of_ble_eq_true rfl) ?_
      refine sw_istore_n [(0, _), (1, _), (2, _)] dX8_readExpression_4 (by decide) rfl ?_
      refine sw_iload_n dX8_readExpression_5 rfl ?_
      refine sw_Sv dX8_readExpression_6 k_X8_78 mf_X8_isDigit (c_X8_isDigit (d := d - 1) _) (by omega) (by omega) (by omega) rfl rfl (Nat.le_of_ble_eq_true rfl) ?_
      refine sw_if_eq 17 dX8_readExpression_9 (by decide) (fun h9 => ?_) (fun h9 => ?_)
      · exact absurd h9 (by rw [cc_dg, c1]; decide)
      · refine sw_aload_n dX8_readExpression_12 rfl (by first | rfl | assumption) ?_
        refine sw_callV dX8_readExpression_13 k_X8_81 mf_X8_readNumber ⟨_, rfl, rfl⟩ rfl (c_X8_readNumber (d := d - 1) (M := M) (by omega) hT (by omega) hn (by omega)) (by omega) ⟨by omega, by omega⟩ rfl rfl (Nat.le_of_ble_eq_true rfl) (fun r' n' f' hq hle => ?_)
        obtain ⟨v, hv, hr⟩ : ∃ v, r' = some v ∧ sw_isR v = true := by rcases hq.2 with ⟨x, np, f2, _, h, _⟩ | ⟨f2, _, h, _⟩; exact ⟨_, h, rfl⟩; exact ⟨_, h, rfl⟩
        subst hv
        exact sw_aret dX8_readExpression_16 rfl hr (by omega) (by omega) hq
    · by_cases c2 : r_nm (hc (A 7) T p) = true
      · have ew : pE (A 7) T (F + 1) g p = (some (.leaf (1, (hc (A 7) T p).toNatClampNeg - 97)), p + 1) := by rw [pE, if_neg c1, if_pos c2]
        rw [ew] at hM ⊢
        have hM : p + 1 ≤ p + M := hM
        have y := hc_in (TX := A 7) (T := T) (p := p) (fun y => by rw [y] at c2; exact absurd c2 (by decide))
        obtain ⟨k, k1, k2, hk⟩ := r_nm_i c2
        rw [hk, nI_clamp (by omega)]
        refine sw_aload_n dX8_readExpression_0 rfl (by first | rfl | assumption) ?_
        refine sw_Vv dX8_readExpression_1 k_X8_31 mf_X8_current (c_X8_current (d := d - 1) (p := p) hT (by omega) (-1)) rfl ⟨_, rfl, rfl⟩ (by omega) (by omega) (by omega) rfl rfl (Nat.le_of_ble_eq_true rfl) ?_
        refine sw_top (y := nI k) (by rw [cc_in y]; exact hk) ?_
        refine sw_istore_n [(0, _), (1, _), (2, _)] dX8_readExpression_4 (by decide) rfl ?_
        refine sw_iload_n dX8_readExpression_5 rfl ?_
        refine sw_Sv dX8_readExpression_6 k_X8_78 mf_X8_isDigit (c_X8_isDigit (d := d - 1) _) (by omega) (by omega) (by omega) rfl rfl (Nat.le_of_ble_eq_true rfl) ?_
        refine sw_if_eq 17 dX8_readExpression_9 (by decide) (fun h9 => ?_) (fun h9 => ?_)
        · refine sw_iload_n dX8_readExpression_17 rfl ?_
          refine sw_Sv dX8_readExpression_18 k_X8_35 mf_X8_isName (c_X8_isName (d := d - 1) _) (by omega) (by omega) (by omega) rfl rfl (Nat.le_of_ble_eq_true rfl) ?_
          refine sw_if_eq 50 dX8_readExpression_21 (by decide) (fun h21 => ?_) (fun h21 => ?_)
          · exact absurd h21 (by rw [(r_nm_k k1 k2).1]; decide)
          · refine sw_aload_n dX8_readExpression_24 rfl (by first | rfl | assumption) ?_
            refine sw_dup dX8_readExpression_25 rfl ?_
            refine sw_get dX8_readExpression_26 fr_X8_19 rfl rfl ?_
            refine sw_iconst (x := 1) dX8_readExpression_29 (by decide) ?_
            refine sw_iadd dX8_readExpression_30 ?_
            refine sw_top (y := nI (p + 1)) (nI_1 p) ?_
            refine g_put 8 dX8_readExpression_31 fl_X8_19 rfl ⟨by decide, rfl⟩ rfl (Nat.le_of_ble_eq_true rfl) (sw_fit_i _) rfl ?_
            rw [rS_p]
            refine sw_new dX8_readExpression_34 nf_X8_47 (by omega) (by omega) ?_
            rw [gd_x _ _ _ _ _ _ (show 150 ≤ n by omega)]
            refine sw_dup dX8_readExpression_37 rfl ?_
            refine sw_iconst (x := 1) dX8_readExpression_38 (by decide) ?_
            refine sw_iload_n dX8_readExpression_39 rfl ?_
            refine sw_bipush (x := 97) dX8_readExpression_40 (by decide) ?_
            refine sw_isub dX8_readExpression_42 ?_
            refine sw_top (y := nI (k - 97)) (nI_sub k1) ?_
            refine sw_null dX8_readExpression_43 ?_
            refine sw_null dX8_readExpression_44 ?_
            refine sw_null dX8_readExpression_45 ?_
            refine sw_callI dX8_readExpression_46 k_X8_68 mf_X6_init (c_X6_init (d := d - 1) (by omega) (show 150 ≤ n by omega) (vu_at _ _ _) 1 (nI (k - 97)) (x := .null) rfl (y := .null) rfl (z := .null) rfl) (by omega) ⟨by omega, by omega⟩ rfl rfl (Nat.le_of_ble_eq_true rfl) (fun r' n' f' hq hle => ?_)
            obtain ⟨hr', hn', hf'⟩ := hq
            subst hr'
            have hn' := hn'.symm
            subst hn'
            subst hf'
            rw [vu_up]
            show SW l D cy mX8_readExpression d M (6 * M) (0 + 1 + 0) (0 + 6 + 0) 49 [(0, .ref 6), (1, .int (nI g)), (2, .int (nI k))] [.ref n] (n + 1) (gd (va_up f n (nd 1 (nI (k - 97)) .null .null .null .null)) (rS s (p + 1) (-1)) A B o pr) _ _
            exact sw_aret dX8_readExpression_49 rfl rfl (by omega) (by omega) ⟨by omega, Or.inl ⟨_, n, _, rfl, rfl, rfl, fun i hi => vu_ne _ (by omega) _, ⟨⟨Nat.le_refl n, by omega⟩, vu_at _ _ _⟩⟩⟩
        · exact absurd (show bz (r_dg (nI k)) = 0 by rw [(r_nm_k k1 k2).2.1]; rfl) h9
      · skip
        refine sw_aload_n dX8_readExpression_0 rfl (by first | rfl | assumption) ?_
        refine sw_Vv dX8_readExpression_1 k_X8_31 mf_X8_current (c_X8_current (d := d - 1) (p := p) hT (by omega) (-1)) rfl ⟨_, rfl, rfl⟩ (by omega) (by omega) (by omega) rfl rfl (Nat.le_of_ble_eq_true rfl) ?_
        refine sw_istore_n [(0, _), (1, _), (2, _)] dX8_readExpression_4 (by decide) rfl ?_
        refine sw_iload_n dX8_readExpression_5 rfl ?_
        refine sw_Sv dX8_readExpression_6 k_X8_78 mf_X8_isDigit (c_X8_isDigit (d := d - 1) _) (by omega) (by omega) (by omega) rfl rfl (Nat.le_of_ble_eq_true rfl) ?_
        refine sw_if_eq 17 dX8_readExpression_9 (by decide) (fun h9 => ?_) (fun h9 => ?_)
        · refine sw_iload_n dX8_readExpression_17 rfl ?_
          refine sw_Sv dX8_readExpression_18 k_X8_35 mf_X8_isName (c_X8_isName (d := d - 1) _) (by omega) (by omega) (by omega) rfl rfl (Nat.le_of_ble_eq_true rfl) ?_
          refine sw_if_eq 50 dX8_readExpression_21 (by decide) (fun h21 => ?_) (fun h21 => ?_)
          · refine sw_aload_n dX8_readExpression_50 rfl (by first | rfl | assumption) ?_
            refine sw_iload_n dX8_readExpression_51 rfl ?_
            refine sw_iconst (x := 1) dX8_readExpression_52 (by decide) ?_
            refine sw_iadd dX8_readExpression_53 ?_
            refine sw_top (y := nI (g + 1)) (nI_1 g) ?_
            refine sw_callV dX8_readExpression_54 k_X8_85 mf_X8_readBrackets ⟨_, rfl, rfl⟩ rfl (c_X8_readBrackets (d := d - 1) (M := M) hT ih hg (by omega) (by omega) hn hp hF c1 c2 hM) (by omega) ⟨by omega, by omega⟩ rfl rfl (Nat.le_of_ble_eq_true rfl) (fun r' n' f' hq hle => ?_)
            obtain ⟨v, hv, hr⟩ : ∃ v, r' = some v ∧ sw_isR v = true := by rcases hq.2 with ⟨x, np, f2, _, h, _⟩ | ⟨f2, _, h, _⟩; exact ⟨_, h, rfl⟩; exact ⟨_, h, rfl⟩
            subst hv
            exact sw_aret dX8_readExpression_57 rfl hr (by omega) (by omega) hq
          · exact absurd (show bz (r_nm (cc (A 7) T p)) = 0 by rw [cc_nm, Bool.eq_false_iff.mpr c2]; rfl) h21
        · exact absurd (show bz (r_dg (cc (A 7) T p)) = 0 by rw [cc_dg, Bool.eq_false_iff.mpr c1]; rfl) h9
