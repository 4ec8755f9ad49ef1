/-! ===== THE CLASS: Reader, statements ===== -/
/-- value v has the nodes of the statements t -/
def ndR (f : sw_F) (m n : Nat) : RT → Value → Prop
  | .leaf _, v => v = .null
  | .branch w (.leaf e) R, v => ∃ (p pe : Nat) (nx : Value), v = .ref p ∧ (m ≤ p ∧ p < n) ∧ f p = nd 3 (nI w) (.ref pe) .null .null nx ∧ ndE f m n e pe ∧ ndR f m n R nx
  | .branch _ (.branch _ (.leaf e) r) R, v => ∃ (p pe : Nat) (y nx : Value), v = .ref p ∧ (m ≤ p ∧ p < n) ∧ f p = nd 5 0 (.ref pe) y .null nx ∧ ndE f m n e pe ∧ ndR f m n r y ∧ ndR f m n R nx
  | .branch _ (.branch _ (.branch _ (.leaf e) r1) r2) R, v => ∃ (p pe : Nat) (y z nx : Value), v = .ref p ∧ (m ≤ p ∧ p < n) ∧ f p = nd 4 0 (.ref pe) y z nx ∧ ndE f m n e pe ∧ ndR f m n r1 y ∧ ndR f m n r2 z ∧ ndR f m n R nx
  | .branch _ (.branch _ (.branch _ (.branch _ _ _) _) _) _, _ => False
theorem ndR_x {f f' : sw_F} {m m' n n' : Nat} (hm : m' ≤ m) (hn : n ≤ n') (h : ∀ i, m ≤ i → i < n → f' i = f i) : ∀ (t : RT) (v : Value), ndR f m n t v → ndR f' m' n' t v
  | .leaf _, v, r => r
  | .branch w (.leaf e) R, v, r => by
    obtain ⟨p, pe, nx, r1, r2, r3, r4, r5⟩ := r
    exact ⟨p, pe, nx, r1, ⟨by omega, by omega⟩, by rw [h p r2.1 r2.2]; exact r3, ndE_x hm hn h e pe r4, ndR_x hm hn h R nx r5⟩
  | .branch _ (.branch _ (.leaf e) x) R, v, r => by
    obtain ⟨p, pe, y, nx, r1, r2, r3, r4, r5, r6⟩ := r
    exact ⟨p, pe, y, nx, r1, ⟨by omega, by omega⟩, by rw [h p r2.1 r2.2]; exact r3, ndE_x hm hn h e pe r4, ndR_x hm hn h x y r5, ndR_x hm hn h R nx r6⟩
  | .branch _ (.branch _ (.branch _ (.leaf e) x1) x2) R, v, r => by
    obtain ⟨p, pe, y, z, nx, r1, r2, r3, r4, r5, r6, r7⟩ := r
    exact ⟨p, pe, y, z, nx, r1, ⟨by omega, by omega⟩, by rw [h p r2.1 r2.2]; exact r3, ndE_x hm hn h e pe r4, ndR_x hm hn h x1 y r5, ndR_x hm hn h x2 z r6, ndR_x hm hn h R nx r7⟩
  | .branch _ (.branch _ (.branch _ (.branch _ _ _) _) _) _, v, r => r.elim
theorem ndR_r {f : sw_F} {m n : Nat} : ∀ (t : RT) (v : Value), ndR f m n t v → sw_isR v = true
  | .leaf _, v, r => by rw [show v = .null from r]; rfl
  | .branch w (.leaf e) R, v, r => by obtain ⟨p, pe, nx, r1, _⟩ := r; rw [r1]; rfl
  | .branch _ (.branch _ (.leaf e) x) R, v, r => by obtain ⟨p, pe, y, nx, r1, _⟩ := r; rw [r1]; rfl
  | .branch _ (.branch _ (.branch _ (.leaf e) x1) x2) R, v, r => by obtain ⟨p, pe, y, z, nx, r1, _⟩ := r; rw [r1]; rfl
  | .branch _ (.branch _ (.branch _ (.branch _ _ _) _) _) _, v, r => r.elim
/-- place p has a statement, made at the places n .. n1 - 1; S puts it before others -/
def SC (f1 : sw_F) (n n1 : Nat) (S : RT → RT) (p : Nat) : Prop := (n ≤ p ∧ p < n1) ∧ ∃ k v x y z, f1 p = nd k v x y z .null ∧ ∀ f' m n' R nx, m ≤ n → n1 ≤ n' → (∀ i, n ≤ i → i < n1 → ¬ i = p → f' i = f1 i) → f' p = nd k v x y z nx → ndR f' m n' R nx → ndR f' m n' (S R) (.ref p)
def QSt (n : Nat) (f : sw_F) (s : Nat → Int32) (A : Nat → Nat → Int32) (B : Nat → Nat → Int64) (o : Int64) (pr : Value) (w : Option (RT → RT) × Nat) : sw_Q := fun r n' f' => n ≤ n' ∧ ((∃ (S : RT → RT) (np : Nat) (f2 : sw_F), w.1 = some S ∧ r = some (.ref np) ∧ f' = gd f2 (rS s w.2 (-1)) A B o pr ∧ (∀ i, i < n → f2 i = f i) ∧ SC f2 n n' S np) ∨ (∃ f2, w.1 = none ∧ r = some .null ∧ f' = gd f2 (rS s w.2 (nI w.2)) A B o pr ∧ ∀ i, i < n → f2 i = f i))
def QRw (n : Nat) (f : sw_F) (s : Nat → Int32) (A : Nat → Nat → Int32) (B : Nat → Nat → Int64) (o : Int64) (pr : Value) (w : Option RT × Nat) : sw_Q := fun r n' f' => n ≤ n' ∧ ((∃ t v f2, w.1 = some t ∧ r = some v ∧ f' = gd f2 (rS s w.2 (-1)) A B o pr ∧ (∀ i, i < n → f2 i = f i) ∧ ndR f2 n n' t v) ∨ (∃ f2, w.1 = none ∧ r = some .null ∧ f' = gd f2 (rS s w.2 (nI w.2)) A B o pr ∧ ∀ i, i < n → f2 i = f i))
def pAs (TX : Nat → Int32) (T v g p : Nat) : Option (RT → RT) × Nat :=
  if hc TX T p = 61 then
    match pE TX T 100 g (p + 1) with
    | (none, q) => (none, q)
    | (some e, q) => if hc TX T q = 59 then (some (rAs v e), q + 1) else (none, q)
  else (none, p)
def pCh (TX : Nat → Int32) (T g : Nat) (rd : Nat → Option RT × Nat) (p : Nat) : Option (RT → RT) × Nat :=
  match pE TX T 100 g p with
  | (none, q) => (none, q)
  | (some e, q) =>
    match pB TX T g rd q with
    | (none, q1) => (none, q1)
    | (some r1, q1) =>
      match pB TX T g rd q1 with
      | (none, q2) => (none, q2)
      | (some r2, q2) => (some (rCh e r1 r2), q2)
def pLp (TX : Nat → Int32) (T g : Nat) (rd : Nat → Option RT × Nat) (p : Nat) : Option (RT → RT) × Nat :=
  match pE TX T 100 g p with
  | (none, q) => (none, q)
  | (some e, q) =>
    match pB TX T g rd q with
    | (none, q1) => (none, q1)
    | (some r1, q1) => (some (rLp e r1), q1)
set_option maxRecDepth 100000 in
theorem c_X8_readAssignment {l : Launch} {D : va_G} {cy : Nat → ClassId} {d n : Nat} {f : sw_F} {s : Nat → Int32} {A : Nat → Nat → Int32} {B : Nat → Nat → Int64} {o : Int64} {pr : Value} {T : Nat} (hT : TC s (A 7) T) {v g p M : Nat} (hg : g ≤ 6) (hd : 16 - 2 * g ≤ d) (hn : 187 ≤ n) (hp : p ≤ T) (hM : (pAs (A 7) T v g p).2 ≤ p + M) : sw_Ct l D cy mX8_readAssignment d M (6 * M) [.ref 6, .int (nI v), .int (nI g)] n (gd f (rS s (p) (-1)) A B o pr) (QSt n f s A B o pr (pAs (A 7) T v g p)) := by
  have hT2 := hT.2.1
  refine sw_of rfl (Nat.le_of_ble_eq_true rfl) ?_
  show SW l D cy mX8_readAssignment d M (6 * M) 0 0 0 [(0, .ref 6), (1, .int (nI v)), (2, .int (nI g))] [] n (gd f (rS s (p) (-1)) A B o pr) _ _
  by_cases c3 : hc (A 7) T p = 61
  · have y3 := hc_in (TX := A 7) (T := T) (p := p) (fun y => by rw [y] at c3; exact absurd c3 (by decide))
    have l1 := pE_le (TX := A 7) 100 g (p + 1) (show p + 1 ≤ T by omega)
    generalize w1 : pE (A 7) T 100 g (p + 1) = w1'' at l1
    obtain ⟨w1', q1⟩ := w1''
    have l6 : p + 1 ≤ q1 := l1.1
    have l7 : q1 ≤ T := l1.2.1
    have hMq : q1 ≤ p + M := by
      refine Nat.le_trans ?_ hM
      rw [pAs, if_pos c3, w1]
      cases w1' with
      | none => exact Nat.le_refl q1
      | some z =>
        show q1 ≤ (if _ then _ else _ : Option (RT → RT) × Nat).2
        split
        · exact Nat.le_succ q1
        · exact Nat.le_refl q1
    refine sw_aload_n dX8_readAssignment_0 rfl (by first | rfl | assumption) ?_
    refine sw_bipush (x := 61) dX8_readAssignment_1 (by decide) ?_
    refine sw_Vv dX8_readAssignment_3 k_X8_62 mf_X8_skip (c_skip_1 (d := d - 1) (by omega) hT (show p ≤ 1000 by omega) (-1) ((cc_eq hT (by decide) (by decide)).mpr c3)) rfl ⟨_, rfl, rfl⟩ (by omega) (by omega) (by omega) rfl rfl (Nat.le_of_ble_eq_true rfl) ?_
    refine sw_if_ne 11 dX8_readAssignment_6 (by decide) (fun h6 => ?_) (fun h6 => ?_)
    · refine sw_aload_n dX8_readAssignment_11 rfl (by first | rfl | assumption) ?_
      refine sw_iload_n dX8_readAssignment_12 rfl ?_
      have ct1 := c_X8_readExpression (l := l) (D := D) (cy := cy) (s := s) (B := B) (o := o) (pr := pr) hT 100 g (p + 1) (q1 - (p + 1)) n (d - 1) f hg (by omega) hn (by omega) (by omega) (by rw [w1]; show q1 ≤ _; omega)
      rw [w1] at ct1
      refine sw_callV dX8_readAssignment_13 k_X8_65 mf_X8_readExpression ⟨_, rfl, rfl⟩ rfl ct1 (by omega) ⟨by omega, by omega⟩ rfl rfl (Nat.le_of_ble_eq_true rfl) (fun r' n1 f' hq hle => ?_)
      obtain ⟨hle1, hq⟩ := hq
      rcases hq with ⟨e, np1, f2, e4, hr', hf', fr1, nd1⟩ | ⟨f2, e4, hr', hf', fr1⟩
      · subst hr'
        subst hf'
        have e4 : w1' = some e := e4
        subst e4
        show SW l D cy mX8_readAssignment d M (6 * M) (0 + (q1 - (p + 1))) (0 + 6 * (q1 - (p + 1))) 16 [(0, .ref 6), (1, .int (nI v)), (2, .int (nI g))] [.ref np1] n1 (gd f2 (rS s q1 (-1)) A B o pr) _ _
        refine sw_astore_n [(0, _), (1, _), (2, _), (3, _)] dX8_readAssignment_16 rfl (by decide) rfl ?_
        refine sw_aload_n dX8_readAssignment_17 rfl rfl ?_
        refine sw_ifnullR dX8_readAssignment_18 ?_
        by_cases c4 : hc (A 7) T q1 = 59
        · have y4 := hc_in (TX := A 7) (T := T) (p := q1) (fun y => by rw [y] at c4; exact absurd c4 (by decide))
          have ew : (pAs (A 7) T v g p) = (some (rAs v e), q1 + 1) := by rw [pAs, if_pos c3, w1]; show (if _ then _ else _ : Option (RT → RT) × Nat) = _; rw [if_pos c4]
          rw [ew] at hM
          have hM : q1 + 1 ≤ p + M := hM
          refine sw_aload_n dX8_readAssignment_21 rfl (by first | rfl | assumption) ?_
          refine sw_bipush (x := 59) dX8_readAssignment_22 (by decide) ?_
          refine sw_Vv dX8_readAssignment_24 k_X8_62 mf_X8_skip (c_skip_1 (d := d - 1) (by omega) hT (show q1 ≤ 1000 by omega) (-1) ((cc_eq hT (by decide) (by decide)).mpr c4)) rfl ⟨_, rfl, rfl⟩ (by omega) (by omega) (by omega) rfl rfl (Nat.le_of_ble_eq_true rfl) ?_
          refine sw_if_ne 32 dX8_readAssignment_27 (by decide) (fun h27 => ?_) (fun h27 => ?_)
          · refine sw_new dX8_readAssignment_32 nf_X8_47 (by omega) (by omega) ?_
            rw [gd_x _ _ _ _ _ _ (show 150 ≤ n1 by omega)]
            refine sw_dup dX8_readAssignment_35 rfl ?_
            refine sw_iconst (x := 3) dX8_readAssignment_36 (by decide) ?_
            refine sw_iload_n dX8_readAssignment_37 rfl ?_
            refine sw_aload_n dX8_readAssignment_38 rfl rfl ?_
            refine sw_null dX8_readAssignment_39 ?_
            refine sw_null dX8_readAssignment_40 ?_
            refine sw_callI dX8_readAssignment_41 k_X8_68 mf_X6_init (c_X6_init (d := d - 1) (by omega) (show 150 ≤ n1 by omega) (vu_at _ _ _) 3 (nI v) (x := .ref np1) rfl (y := .null) rfl (z := .null) rfl) (by omega) ⟨by omega, by omega⟩ rfl rfl (Nat.le_of_ble_eq_true rfl) (fun r' n' f' hq hle => ?_)
            obtain ⟨hr', hn', hf'⟩ := hq
            subst hr'
            have hn' := hn'.symm
            subst hn'
            subst hf'
            rw [vu_up]
            show SW l D cy mX8_readAssignment d M (6 * M) (0 + (q1 - (p + 1)) + 1 + 0) (0 + 6 * (q1 - (p + 1)) + 6 + 0) 44 [(0, .ref 6), (1, .int (nI v)), (2, .int (nI g)), (3, .ref np1)] [.ref n1] (n1 + 1) (gd (va_up f2 n1 (nd 3 (nI v) (.ref np1) .null .null .null)) (rS s (q1 + 1) (-1)) A B o pr) _ _
            refine sw_aret dX8_readAssignment_44 rfl rfl (by omega) (by omega) ⟨by omega, Or.inl ⟨_, n1, _, by rw [ew], rfl, by rw [ew], fun i hi => ?_, ?_⟩⟩
            · rw [vu_ne _ (show ¬ i = n1 by omega), fr1 i hi]
            · refine ⟨⟨hle1, by omega⟩, 3, nI v, .ref np1, .null, .null, vu_at _ _ _, fun f' m n' R nx h1 h2 h3 h4 h5 => ?_⟩
              exact ⟨n1, np1, nx, rfl, ⟨by omega, by omega⟩, h4, ndE_x h1 (by omega) (fun i i1 i2 => by rw [h3 i i1 (by omega) (by omega), vu_ne _ (show ¬ i = n1 by omega)]) e np1 nd1, h5⟩
          · exact absurd h27 (by decide)
        · have ew : (pAs (A 7) T v g p) = (none, q1) := by rw [pAs, if_pos c3, w1]; show (if _ then _ else _ : Option (RT → RT) × Nat) = _; rw [if_neg c4]
          rw [ew] at hM
          have hM : q1 ≤ p + M := hM
          refine sw_aload_n dX8_readAssignment_21 rfl (by first | rfl | assumption) ?_
          refine sw_bipush (x := 59) dX8_readAssignment_22 (by decide) ?_
          refine sw_Vv dX8_readAssignment_24 k_X8_62 mf_X8_skip (c_skip_0 (d := d - 1) (by omega) hT (show q1 ≤ 1000 by omega) (-1) (fun z => c4 ((cc_eq hT (by decide) (by decide)).mp z))) rfl ⟨_, rfl, rfl⟩ (by omega) (by omega) (by omega) rfl rfl (Nat.le_of_ble_eq_true rfl) ?_
          refine sw_if_ne 32 dX8_readAssignment_27 (by decide) (fun h27 => ?_) (fun h27 => ?_)
          · exact absurd rfl h27
          · refine sw_null dX8_readAssignment_30 ?_
            exact sw_aret dX8_readAssignment_31 rfl (by first | rfl | assumption) (by omega) (by omega) ⟨by omega, Or.inr ⟨f2, by rw [ew], rfl, by rw [ew], fr1⟩⟩
      · subst hr'
        subst hf'
        have e4 : w1' = none := e4
        subst e4
        have ew : (pAs (A 7) T v g p) = (none, q1) := by rw [pAs, if_pos c3, w1]
        rw [ew] at hM
        have hM : q1 ≤ p + M := hM
        show SW l D cy mX8_readAssignment d M (6 * M) (0 + (q1 - (p + 1))) (0 + 6 * (q1 - (p + 1))) 16 [(0, .ref 6), (1, .int (nI v)), (2, .int (nI g))] [.null] n1 (gd f2 (rS s q1 (nI q1)) A B o pr) _ _
        refine sw_astore_n [(0, _), (1, _), (2, _), (3, _)] dX8_readAssignment_16 rfl (by decide) rfl ?_
        refine sw_aload_n dX8_readAssignment_17 rfl rfl ?_
        refine sw_ifnullN 30 dX8_readAssignment_18 (by decide) ?_
        refine sw_null dX8_readAssignment_30 ?_
        exact sw_aret dX8_readAssignment_31 rfl (by first | rfl | assumption) (by omega) (by omega) ⟨by omega, Or.inr ⟨f2, by rw [ew], rfl, by rw [ew], fr1⟩⟩
    · exact absurd h6 (by decide)
  · have ew : (pAs (A 7) T v g p) = (none, p) := by rw [pAs, if_neg c3]
    refine sw_aload_n dX8_readAssignment_0 rfl (by first | rfl | assumption) ?_
    refine sw_bipush (x := 61) dX8_readAssignment_1 (by decide) ?_
    refine sw_Vv dX8_readAssignment_3 k_X8_62 mf_X8_skip (c_skip_0 (d := d - 1) (by omega) hT (show p ≤ 1000 by omega) (-1) (fun z => c3 ((cc_eq hT (by decide) (by decide)).mp z))) rfl ⟨_, rfl, rfl⟩ (by omega) (by omega) (by omega) rfl rfl (Nat.le_of_ble_eq_true rfl) ?_
    refine sw_if_ne 11 dX8_readAssignment_6 (by decide) (fun h6 => ?_) (fun h6 => ?_)
    · exact absurd rfl h6
    · refine sw_null dX8_readAssignment_9 ?_
      exact sw_aret dX8_readAssignment_10 rfl (by first | rfl | assumption) (by omega) (by omega) ⟨by omega, Or.inr ⟨f, by rw [ew], rfl, by rw [ew], fun i hi => rfl⟩⟩
set_option maxRecDepth 100000 in
theorem c_X8_readBlock {l : Launch} {D : va_G} {cy : Nat → ClassId} {d n : Nat} {f : sw_F} {s : Nat → Int32} {A : Nat → Nat → Int32} {B : Nat → Nat → Int64} {o : Int64} {pr : Value} {T : Nat} (hT : TC s (A 7) T) {F g p M : Nat} (ih : ∀ (g p M n d : Nat) (f : sw_F), g ≤ 6 → 32 - 4 * g ≤ d → 187 ≤ n → p ≤ T → T < p + F → (pR (A 7) T F g p).2 ≤ p + M → sw_Ct l D cy mX8_readRow d M (6 * (M)) [.ref 6, .int (nI (g))] n (gd f (rS s (p) (-1)) A B o pr) (QRw n f s A B o pr (pR (A 7) T F (g) (p)))) (hg : g ≤ 6) (hd : 29 - 4 * g ≤ d) (hd2 : 3 ≤ d) (hn : 187 ≤ n) (hp : p ≤ T) (hF : T < p + 1 + F) (hM : (pB (A 7) T g (pR (A 7) T F (g + 1)) p).2 ≤ p + M) : sw_Ct l D cy mX8_readBlock d M (6 * M) [.ref 6, .int (nI (g + 1))] n (gd f (rS s (p) (-1)) A B o pr) (QRw n f s A B o pr (pB (A 7) T g (pR (A 7) T F (g + 1)) p)) := by
  have hT2 := hT.2.1
  refine sw_of rfl (Nat.le_of_ble_eq_true rfl) ?_
  show SW l D cy mX8_readBlock d M (6 * M) 0 0 0 [(0, .ref 6), (1, .int (nI (g + 1)))] [] n (gd f (rS s (p) (-1)) A B o pr) _ _
  by_cases c3 : hc (A 7) T p = 123 ∧ g < 6
  · have y3 := hc_in (TX := A 7) (T := T) (p := p) (fun y => by rw [y] at c3; exact absurd c3.1 (by decide))
    have l1 := pR_le (TX := A 7) F (g + 1) (p + 1) (show p + 1 ≤ T by omega)
    generalize w1 : pR (A 7) T F (g + 1) (p + 1) = w1'' at l1
    obtain ⟨w1', q1⟩ := w1''
    have l6 : p + 1 ≤ q1 := l1.1
    have l7 : q1 ≤ T := l1.2.1
    have hMq : q1 ≤ p + M := by
      refine Nat.le_trans ?_ hM
      rw [pB, if_pos c3, w1]
      cases w1' with
      | none => exact Nat.le_refl q1
      | some z =>
        show q1 ≤ (if _ then _ else _ : Option RT × Nat).2
        split
        · exact Nat.le_succ q1
        · exact Nat.le_refl q1
    refine sw_aload_n dX8_readBlock_0 rfl (by first | rfl | assumption) ?_
    refine sw_bipush (x := 123) dX8_readBlock_1 (by decide) ?_
    refine sw_iload_n dX8_readBlock_3 rfl ?_
    refine sw_Vv dX8_readBlock_4 k_X8_74 mf_X8_open (c_open_1 (d := d - 1) (by omega) hT (show p ≤ 1000 by omega) (-1) (show g + 1 ≤ 7 by omega) ⟨(cc_eq hT (by decide) (by decide)).mpr c3.1, by omega⟩) rfl ⟨_, rfl, rfl⟩ (by omega) (by omega) (by omega) rfl rfl (Nat.le_of_ble_eq_true rfl) ?_
    refine sw_if_ne 12 dX8_readBlock_7 (by decide) (fun h7 => ?_) (fun h7 => ?_)
    · refine sw_aload_n dX8_readBlock_12 rfl (by first | rfl | assumption) ?_
      refine sw_iload_n dX8_readBlock_13 rfl ?_
      have ct1 := ih (g + 1) (p + 1) (q1 - (p + 1)) n (d - 1) f (by omega) (by omega) hn (by omega) (by omega) (by rw [w1]; show q1 ≤ _; omega)
      rw [w1] at ct1
      refine sw_callV dX8_readBlock_14 k_X8_27 mf_X8_readRow ⟨_, rfl, rfl⟩ rfl ct1 (by omega) ⟨by omega, by omega⟩ rfl rfl (Nat.le_of_ble_eq_true rfl) (fun r' n1 f' hq hle => ?_)
      obtain ⟨hle1, hq⟩ := hq
      rcases hq with ⟨t, v, f2, e4, hr', hf', fr1, nd1⟩ | ⟨f2, e4, hr', hf', fr1⟩
      · subst hr'
        subst hf'
        have e4 : w1' = some t := e4
        subst e4
        have hv := ndR_r t v nd1
        show SW l D cy mX8_readBlock d M (6 * M) (0 + (q1 - (p + 1))) (0 + 6 * (q1 - (p + 1))) 17 [(0, .ref 6), (1, .int (nI (g + 1)))] [v] n1 (gd f2 (rS s q1 (-1)) A B o pr) _ _
        by_cases c4 : hc (A 7) T q1 = 125
        · have y4 := hc_in (TX := A 7) (T := T) (p := q1) (fun y => by rw [y] at c4; exact absurd c4 (by decide))
          have ew : (pB (A 7) T g (pR (A 7) T F (g + 1)) p) = (some t, q1 + 1) := by rw [pB, if_pos c3, w1]; show (if _ then _ else _ : Option RT × Nat) = _; rw [if_pos c4]
          rw [ew] at hM
          have hM : q1 + 1 ≤ p + M := hM
          refine sw_astore_n [(0, _), (1, _), (2, _)] dX8_readBlock_17 (by first | rfl | assumption) (by decide) rfl ?_
          refine sw_aload_n dX8_readBlock_18 rfl (by first | rfl | assumption) ?_
          refine sw_get dX8_readBlock_19 fr_X8_22 rfl rfl ?_
          refine sw_top (y := -1) rfl ?_
          refine sw_iconst (x := (-1)) dX8_readBlock_22 (by decide) ?_
          refine sw_icmp_ne 39 dX8_readBlock_23 (by decide) (fun h23 => ?_) (fun h23 => ?_)
          · exact absurd rfl h23
          · refine sw_aload_n dX8_readBlock_26 rfl (by first | rfl | assumption) ?_
            refine sw_bipush (x := 125) dX8_readBlock_27 (by decide) ?_
            refine sw_Vv dX8_readBlock_29 k_X8_62 mf_X8_skip (c_skip_1 (d := d - 1) (by omega) hT (show q1 ≤ 1000 by omega) (-1) ((cc_eq hT (by decide) (by decide)).mpr c4)) rfl ⟨_, rfl, rfl⟩ (by omega) (by omega) (by omega) rfl rfl (Nat.le_of_ble_eq_true rfl) ?_
            refine sw_if_eq 39 dX8_readBlock_32 (by decide) (fun h32 => ?_) (fun h32 => ?_)
            · exact absurd h32 (by decide)
            · refine sw_aload_n dX8_readBlock_35 rfl (by first | rfl | assumption) ?_
              refine sw_goto 40 dX8_readBlock_36 (by decide) ?_
              exact sw_aret dX8_readBlock_40 rfl hv (by omega) (by omega) ⟨by omega, Or.inl ⟨t, v, f2, by rw [ew], rfl, by rw [ew], fr1, nd1⟩⟩
        · have ew : (pB (A 7) T g (pR (A 7) T F (g + 1)) p) = (none, q1) := by rw [pB, if_pos c3, w1]; show (if _ then _ else _ : Option RT × Nat) = _; rw [if_neg c4]
          rw [ew] at hM
          have hM : q1 ≤ p + M := hM
          refine sw_astore_n [(0, _), (1, _), (2, _)] dX8_readBlock_17 (by first | rfl | assumption) (by decide) rfl ?_
          refine sw_aload_n dX8_readBlock_18 rfl (by first | rfl | assumption) ?_
          refine sw_get dX8_readBlock_19 fr_X8_22 rfl rfl ?_
          refine sw_top (y := -1) rfl ?_
          refine sw_iconst (x := (-1)) dX8_readBlock_22 (by decide) ?_
          refine sw_icmp_ne 39 dX8_readBlock_23 (by decide) (fun h23 => ?_) (fun h23 => ?_)
          · exact absurd rfl h23
          · refine sw_aload_n dX8_readBlock_26 rfl (by first | rfl | assumption) ?_
            refine sw_bipush (x := 125) dX8_readBlock_27 (by decide) ?_
            refine sw_Vv dX8_readBlock_29 k_X8_62 mf_X8_skip (c_skip_0 (d := d - 1) (by omega) hT (show q1 ≤ 1000 by omega) (-1) (fun z => c4 ((cc_eq hT (by decide) (by decide)).mp z))) rfl ⟨_, rfl, rfl⟩ (by omega) (by omega) (by omega) rfl rfl (Nat.le_of_ble_eq_true rfl) ?_
            refine sw_if_eq 39 dX8_readBlock_32 (by decide) (fun h32 => ?_) (fun h32 => ?_)
            · refine sw_null dX8_readBlock_39 ?_
              exact sw_aret dX8_readBlock_40 rfl (by first | rfl | assumption) (by omega) (by omega) ⟨by omega, Or.inr ⟨f2, by rw [ew], rfl, by rw [ew], fr1⟩⟩
            · exact absurd rfl h32
      · subst hr'
        subst hf'
        have e4 : w1' = none := e4
        subst e4
        have ew : (pB (A 7) T g (pR (A 7) T F (g + 1)) p) = (none, q1) := by rw [pB, if_pos c3, w1]
        rw [ew] at hM
        have hM : q1 ≤ p + M := hM
        show SW l D cy mX8_readBlock d M (6 * M) (0 + (q1 - (p + 1))) (0 + 6 * (q1 - (p + 1))) 17 [(0, .ref 6), (1, .int (nI (g + 1)))] [.null] n1 (gd f2 (rS s q1 (nI q1)) A B o pr) _ _
        refine sw_astore_n [(0, _), (1, _), (2, _)] dX8_readBlock_17 (by first | rfl | assumption) (by decide) rfl ?_
        refine sw_aload_n dX8_readBlock_18 rfl (by first | rfl | assumption) ?_
        refine sw_get dX8_readBlock_19 fr_X8_22 rfl rfl ?_
        refine sw_top (y := nI q1) rfl ?_
        refine sw_iconst (x := (-1)) dX8_readBlock_22 (by decide) ?_
        refine sw_icmp_ne 39 dX8_readBlock_23 (by decide) (fun h23 => ?_) (fun h23 => ?_)
        · refine sw_null dX8_readBlock_39 ?_
          exact sw_aret dX8_readBlock_40 rfl (by first | rfl | assumption) (by omega) (by omega) ⟨by omega, Or.inr ⟨f2, by rw [ew], rfl, by rw [ew], fr1⟩⟩
        · exact absurd (show nI q1 < 0 by rw [h23]; decide) (i32_nlt0 (by omega))
    · exact absurd h7 (by decide)
  · have ew : (pB (A 7) T g (pR (A 7) T F (g + 1)) p) = (none, p) := by rw [pB, if_neg c3]
    refine sw_aload_n dX8_readBlock_0 rfl (by first | rfl | assumption) ?_
    refine sw_bipush (x := 123) dX8_readBlock_1 (by decide) ?_
    refine sw_iload_n dX8_readBlock_3 rfl ?_
    refine sw_Vv dX8_readBlock_4 k_X8_74 mf_X8_open (c_open_0 (d := d - 1) (by omega) hT (show p ≤ 1000 by omega) (-1) (show g + 1 ≤ 7 by omega) (fun z => c3 ⟨(cc_eq hT (by decide) (by decide)).mp z.1, by omega⟩)) rfl ⟨_, rfl, rfl⟩ (by omega) (by omega) (by omega) rfl rfl (Nat.le_of_ble_eq_true rfl) ?_
    refine sw_if_ne 12 dX8_readBlock_7 (by decide) (fun h7 => ?_) (fun h7 => ?_)
    · exact absurd rfl h7
    · refine sw_null dX8_readBlock_10 ?_
      exact sw_aret dX8_readBlock_11 rfl (by first | rfl | assumption) (by omega) (by omega) ⟨by omega, Or.inr ⟨f, by rw [ew], rfl, by rw [ew], fun i hi => rfl⟩⟩
