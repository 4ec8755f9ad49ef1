/-! ===== THE CLASS: Reader, statement, row, program ===== -/
theorem pAs_le {TX : Nat → Int32} {T v g p : Nat} (hp : p ≤ T) : p ≤ (pAs TX T v g p).2 ∧ (pAs TX T v g p).2 ≤ T := by
  unfold pAs
  split
  · rename_i h2
    have y3 := hc_in (TX := TX) (T := T) (p := p) (fun y => by rw [y] at h2; exact absurd h2 (by decide))
    have l1 := pE_le (TX := TX) 100 g (p + 1) (show p + 1 ≤ T by omega)
    generalize pE TX T 100 g (p + 1) = w at l1
    obtain ⟨w, q⟩ := w
    have l2 : p + 1 ≤ q := l1.1
    have l3 : q ≤ T := l1.2.1
    cases w with
    | none => exact ⟨by show p ≤ q; omega, l3⟩
    | some e =>
      simp only []
      split
      · rename_i h3
        have y4 := hc_in (TX := TX) (T := T) (p := q) (fun y => by rw [y] at h3; exact absurd h3 (by decide))
        exact ⟨by show p ≤ q + 1; omega, by show q + 1 ≤ T; omega⟩
      · exact ⟨by show p ≤ q; omega, l3⟩
  · exact ⟨Nat.le_refl p, hp⟩
theorem at_in {TX : Nat → Int32} {T p : Nat} (h : atS (hc TX T p) = true) : p < T := hc_in (fun y => by rw [y] at h; exact absurd h (by decide))
theorem pSt_le {TX : Nat → Int32} {T F g p : Nat} (h : p < T) : p + 1 ≤ (pSt TX T F g p).2 ∧ (pSt TX T F g p).2 ≤ T := by
  unfold pSt
  split
  · exact pAs_le (show p + 1 ≤ T by omega)
  · split
    · have a := pCh_le (TX := TX) (T := T) (g := g) (F := F) (p := p + 1) (by omega)
      have b := pE_le (TX := TX) 100 g (p + 1) (show p + 1 ≤ T by omega)
      exact ⟨Nat.le_trans b.1 a.1, a.2.1⟩
    · have a := pLp_le (TX := TX) (T := T) (g := g) (F := F) (p := p + 1) (by omega)
      have b := pE_le (TX := TX) 100 g (p + 1) (show p + 1 ≤ T by omega)
      exact ⟨Nat.le_trans b.1 a.1, a.2.1⟩
set_option maxRecDepth 100000 in
theorem c_X8_atStatement {l : Launch} {D : va_G} {cy : Nat → ClassId} {d n : Nat} {f : sw_F} {s : Nat → Int32} {A : Nat → Nat → Int32} {B : Nat → Nat → Int64} {o : Int64} {pr : Value} (hd : 1 ≤ d) {T : Nat} (hT : TC s (A 7) T) {p : Nat} (hp : p ≤ 1000) : sw_Ct l D cy mX8_atStatement d 0 0 [.ref 6] n (gd f (rS s (p) (-1)) A B o pr) (sw_D (some (.int (bz (atS (hc (A 7) T p))))) n (gd f (rS s (p) (-1)) A B o pr)) := by
  have hT2 := hT.2.1
  have e1 : r_nm (cc (A 7) T p) = r_nm (hc (A 7) T p) := cc_nm
  have e2 : cc (A 7) T p = 63 ↔ hc (A 7) T p = 63 := cc_eq hT (by decide) (by decide)
  have e3 : cc (A 7) T p = 42 ↔ hc (A 7) T p = 42 := cc_eq hT (by decide) (by decide)
  refine sw_of rfl (Nat.le_of_ble_eq_true rfl) ?_
  show SW l D cy mX8_atStatement d 0 0 0 0 0 [(0, .ref 6)] [] n (gd f (rS s (p) (-1)) A B o pr) _ _
  refine sw_aload_n dX8_atStatement_0 rfl (by first | rfl | assumption) ?_
  refine sw_Vv dX8_atStatement_1 k_X8_31 mf_X8_current (c_X8_current (d := d - 1) (p := p) hT (by omega) (-1)) rfl ⟨_, rfl, rfl⟩ (by omega) (by omega) (by omega) rfl rfl (Nat.le_of_ble_eq_true rfl) ?_
  refine sw_istore_n [(0, _), (1, _)] dX8_atStatement_4 (by decide) rfl ?_
  refine sw_iload_n dX8_atStatement_5 rfl ?_
  refine sw_Sv dX8_atStatement_6 k_X8_35 mf_X8_isName (c_X8_isName (d := d - 1) _) (by omega) (by omega) (by omega) rfl rfl (Nat.le_of_ble_eq_true rfl) ?_
  refine sw_if_ne 24 dX8_atStatement_9 (by decide) (fun h9 => ?_) (fun h9 => ?_)
  · refine sw_iconst (x := 1) dX8_atStatement_24 (by decide) ?_
    refine sw_goto 29 dX8_atStatement_25 (by decide) ?_
    exact sw_iret dX8_atStatement_29 rfl (by first | rfl | exact bz_n _) (by omega) (by omega) ⟨congrArg (fun z => some (Value.int z)) (show _ = bz (atS (hc (A 7) T p)) from by rw [atS, ← e1, bz_ne.mp h9]; rfl), rfl, rfl⟩
  · refine sw_iload_n dX8_atStatement_12 rfl ?_
    refine sw_bipush (x := 63) dX8_atStatement_13 (by decide) ?_
    refine sw_icmp_eq 24 dX8_atStatement_15 (by decide) (fun h15 => ?_) (fun h15 => ?_)
    · refine sw_iconst (x := 1) dX8_atStatement_24 (by decide) ?_
      refine sw_goto 29 dX8_atStatement_25 (by decide) ?_
      exact sw_iret dX8_atStatement_29 rfl (by first | rfl | exact bz_n _) (by omega) (by omega) ⟨congrArg (fun z => some (Value.int z)) (show _ = bz (atS (hc (A 7) T p)) from by rw [e2.mp h15]; rfl), rfl, rfl⟩
    · refine sw_iload_n dX8_atStatement_18 rfl ?_
      refine sw_bipush (x := 42) dX8_atStatement_19 (by decide) ?_
      refine sw_icmp_ne 28 dX8_atStatement_21 (by decide) (fun h21 => ?_) (fun h21 => ?_)
      · refine sw_iconst (x := 0) dX8_atStatement_28 (by decide) ?_
        exact sw_iret dX8_atStatement_29 rfl (by first | rfl | exact bz_n _) (by omega) (by omega) ⟨congrArg (fun z => some (Value.int z)) (show _ = bz (atS (hc (A 7) T p)) from by rw [atS, ← e1, bz_0.mp h9, decide_eq_false (fun q => h15 (e2.mpr q)), decide_eq_false (fun q => h21 (e3.mpr q))]; rfl), rfl, rfl⟩
      · refine sw_iconst (x := 1) dX8_atStatement_24 (by decide) ?_
        refine sw_goto 29 dX8_atStatement_25 (by decide) ?_
        exact sw_iret dX8_atStatement_29 rfl (by first | rfl | exact bz_n _) (by omega) (by omega) ⟨congrArg (fun z => some (Value.int z)) (show _ = bz (atS (hc (A 7) T p)) from by rw [e3.mp h21]; rfl), rfl, rfl⟩
set_option maxRecDepth 100000 in
theorem c_X8_readStatement {l : Launch} {D : va_G} {cy : Nat → ClassId} {d n : Nat} {f : sw_F} {s : Nat → Int32} {A : Nat → Nat → Int32} {B : Nat → Nat → Int64} {o : Int64} {pr : Value} {T : Nat} (hT : TC s (A 7) T) {F g p M : Nat} (ih : ∀ (g p M n d : Nat) (f : sw_F), g ≤ 6 → 32 - 4 * g ≤ d → 187 ≤ n → p ≤ T → T < p + F → (pR (A 7) T F g p).2 ≤ p + M → sw_Ct l D cy mX8_readRow d M (6 * (M)) [.ref 6, .int (nI (g))] n (gd f (rS s (p) (-1)) A B o pr) (QRw n f s A B o pr (pR (A 7) T F (g) (p)))) (hg : g ≤ 6) (hd : 31 - 4 * g ≤ d) (hd2 : 5 ≤ d) (hn : 187 ≤ n) (hs : atS (hc (A 7) T p) = true) (hF : T < p + 2 + F) (hM : (pSt (A 7) T F g p).2 ≤ p + M) : sw_Ct l D cy mX8_readStatement d M (6 * M) [.ref 6, .int (nI g)] n (gd f (rS s (p) (-1)) A B o pr) (QSt n f s A B o pr (pSt (A 7) T F g p)) := by
  have hT2 := hT.2.1
  have hp := at_in hs
  have hle0 := pSt_le (TX := A 7) (F := F) (g := g) hp
  refine sw_of rfl (Nat.le_of_ble_eq_true rfl) ?_
  show SW l D cy mX8_readStatement d M (6 * M) 0 0 0 [(0, .ref 6), (1, .int (nI g))] [] n (gd f (rS s (p) (-1)) A B o pr) _ _
  have key : SW l D cy mX8_readStatement d M (6 * M) 0 0 15 [(0, .ref 6), (1, .int (nI g)), (2, .int (hc (A 7) T p))] [] n (gd f (rS s (p + 1) (-1)) A B o pr) (QSt n f s A B o pr (pSt (A 7) T F g p)) (fun _ _ _ => False) := by
    by_cases c1 : hc (A 7) T p = 63
    · have ew : (pSt (A 7) T F g p) = pCh (A 7) T g (pR (A 7) T F (g + 1)) (p + 1) := by rw [pSt, if_neg (by rw [c1]; decide), if_pos c1]
      rw [ew] at hM ⊢
      refine sw_iload_n dX8_readStatement_15 rfl ?_
      refine sw_bipush (x := 63) dX8_readStatement_16 (by decide) ?_
      refine sw_icmp_ne 27 dX8_readStatement_18 (by decide) (fun h18 => ?_) (fun h18 => ?_)
      · exact absurd c1 h18
      · refine sw_aload_n dX8_readStatement_21 rfl (by first | rfl | assumption) ?_
        refine sw_iload_n dX8_readStatement_22 rfl ?_
        refine sw_callV dX8_readStatement_23 k_X8_52 mf_X8_readChoice ⟨_, rfl, rfl⟩ rfl (c_X8_readChoice (d := d - 1) (M := M) hT ih hg (by omega) (by omega) hn (by omega) (by omega) (by omega)) (by omega) ⟨by omega, by omega⟩ rfl rfl (Nat.le_of_ble_eq_true rfl) (fun r' n1 f' hq hle => ?_)
        obtain ⟨v, hv, hr⟩ : ∃ v, r' = some v ∧ sw_isR v = true := by rcases hq.2 with ⟨S, np, f2, _, h, _⟩ | ⟨f2, _, h, _⟩; exact ⟨_, h, rfl⟩; exact ⟨_, h, rfl⟩
        subst hv
        exact sw_aret dX8_readStatement_26 rfl hr (by omega) (by omega) hq
    · by_cases c2 : hc (A 7) T p = 42
      · have ew : (pSt (A 7) T F g p) = pLp (A 7) T g (pR (A 7) T F (g + 1)) (p + 1) := by rw [pSt, if_neg (by rw [c2]; decide), if_neg c1]
        rw [ew] at hM ⊢
        refine sw_iload_n dX8_readStatement_15 rfl ?_
        refine sw_bipush (x := 63) dX8_readStatement_16 (by decide) ?_
        refine sw_icmp_ne 27 dX8_readStatement_18 (by decide) (fun h18 => ?_) (fun h18 => ?_)
        · refine sw_iload_n dX8_readStatement_27 rfl ?_
          refine sw_bipush (x := 42) dX8_readStatement_28 (by decide) ?_
          refine sw_icmp_ne 41 dX8_readStatement_30 (by decide) (fun h30 => ?_) (fun h30 => ?_)
          · exact absurd c2 h30
          · refine sw_aload_n dX8_readStatement_33 rfl (by first | rfl | assumption) ?_
            refine sw_iload_n dX8_readStatement_34 rfl ?_
            refine sw_callV dX8_readStatement_35 k_X8_55 mf_X8_readLoop ⟨_, rfl, rfl⟩ rfl (c_X8_readLoop (d := d - 1) (M := M) hT ih hg (by omega) (by omega) hn (by omega) (by omega) (by omega)) (by omega) ⟨by omega, by omega⟩ rfl rfl (Nat.le_of_ble_eq_true rfl) (fun r' n1 f' hq hle => ?_)
            obtain ⟨v, hv, hr⟩ : ∃ v, r' = some v ∧ sw_isR v = true := by rcases hq.2 with ⟨S, np, f2, _, h, _⟩ | ⟨f2, _, h, _⟩; exact ⟨_, h, rfl⟩; exact ⟨_, h, rfl⟩
            subst hv
            refine sw_goto 50 dX8_readStatement_38 (by decide) ?_
            exact sw_aret dX8_readStatement_50 rfl hr (by omega) (by omega) hq
        · exact absurd h18 c1
      · have c3 : r_nm (hc (A 7) T p) = true := by
          rw [atS, decide_eq_false c1, decide_eq_false c2] at hs
          simpa using hs
        have ew : (pSt (A 7) T F g p) = pAs (A 7) T ((hc (A 7) T p).toNatClampNeg - 97) g (p + 1) := by rw [pSt, if_pos c3]
        rw [ew] at hM ⊢
        obtain ⟨k, k1, k2, hk⟩ := r_nm_i c3
        rw [hk, nI_clamp (by omega)] at hM ⊢
        refine sw_iload_n dX8_readStatement_15 rfl ?_
        refine sw_bipush (x := 63) dX8_readStatement_16 (by decide) ?_
        refine sw_icmp_ne 27 dX8_readStatement_18 (by decide) (fun h18 => ?_) (fun h18 => ?_)
        · refine sw_iload_n dX8_readStatement_27 rfl ?_
          refine sw_bipush (x := 42) dX8_readStatement_28 (by decide) ?_
          refine sw_icmp_ne 41 dX8_readStatement_30 (by decide) (fun h30 => ?_) (fun h30 => ?_)
          · refine sw_aload_n dX8_readStatement_41 rfl (by first | rfl | assumption) ?_
            refine sw_iload_n dX8_readStatement_42 rfl ?_
            refine sw_bipush (x := 97) dX8_readStatement_43 (by decide) ?_
            refine sw_isub dX8_readStatement_45 ?_
            refine sw_top (y := nI (k - 97)) (nI_sub k1) ?_
            refine sw_iload_n dX8_readStatement_46 rfl ?_
            refine sw_callV dX8_readStatement_47 k_X8_58 mf_X8_readAssignment ⟨_, rfl, rfl⟩ rfl (c_X8_readAssignment (d := d - 1) (M := M) hT hg (by omega) hn (by omega) (by omega)) (by omega) ⟨by omega, by omega⟩ rfl rfl (Nat.le_of_ble_eq_true rfl) (fun r' n1 f' hq hle => ?_)
            obtain ⟨v, hv, hr⟩ : ∃ v, r' = some v ∧ sw_isR v = true := by rcases hq.2 with ⟨S, np, f2, _, h, _⟩ | ⟨f2, _, h, _⟩; exact ⟨_, h, rfl⟩; exact ⟨_, h, rfl⟩
            subst hv
            exact sw_aret dX8_readStatement_50 rfl hr (by omega) (by omega) hq
          · exact absurd (hk.trans h30) c2
        · exact absurd (hk.trans h18) c1
  refine sw_aload_n dX8_readStatement_0 rfl (by first | rfl | assumption) ?_
  refine sw_Vv dX8_readStatement_1 k_X8_31 mf_X8_current (c_X8_current (d := d - 1) (p := p) hT (by omega) (-1)) rfl ⟨_, rfl, rfl⟩ (by omega) (by omega) (by omega) rfl rfl (Nat.le_of_ble_eq_true rfl) ?_
  refine sw_top (y := hc (A 7) T p) (cc_in hp) ?_
  refine sw_istore_n [(0, _), (1, _), (2, _)] dX8_readStatement_4 (by decide) rfl ?_
  refine sw_aload_n dX8_readStatement_5 rfl (by first | rfl | assumption) ?_
  refine sw_dup dX8_readStatement_6 rfl ?_
  refine sw_get dX8_readStatement_7 fr_X8_19 rfl rfl ?_
  refine sw_iconst (x := 1) dX8_readStatement_10 (by decide) ?_
  refine sw_iadd dX8_readStatement_11 ?_
  refine sw_top (y := nI (p + 1)) (nI_1 p) ?_
  refine g_put 8 dX8_readStatement_12 fl_X8_19 rfl ⟨by decide, rfl⟩ rfl (Nat.le_of_ble_eq_true rfl) (sw_fit_i _) rfl ?_
  rw [rS_p]
  exact key
/-- a chain from h on, its last one at q; C puts it before others -/
def SCh (f1 : sw_F) (n n1 : Nat) (C : RT → RT) (h : Value) (q : Nat) : Prop := (n ≤ q ∧ q < n1) ∧ ∃ k v x y z, f1 q = nd k v x y z .null ∧ ∀ f' m n' R nx, m ≤ n → n1 ≤ n' → (∀ i, n ≤ i → i < n1 → ¬ i = q → f' i = f1 i) → f' q = nd k v x y z nx → ndR f' m n' R nx → ndR f' m n' (C R) h
def RSt (f1 : sw_F) (n n1 : Nat) (C : RT → RT) (h w : Value) : Prop := (h = .null ∧ w = .null ∧ ∀ R, C R = R) ∨ ∃ q, w = .ref q ∧ SCh f1 n n1 C h q
theorem RSt_end {f1 : sw_F} {n n1 : Nat} {C : RT → RT} {h w : Value} (r : RSt f1 n n1 C h w) : ndR f1 n n1 (C rNo) h := by
  rcases r with ⟨h1, h2, h3⟩ | ⟨q, h2, h3, k, v, x, y, z, h4, h5⟩
  · rw [h3, h1]; rfl
  · exact h5 f1 n n1 rNo .null (Nat.le_refl n) (Nat.le_refl n1) (fun _ _ _ _ => rfl) h4 rfl
theorem SCh_1 {f2 : sw_F} {n n1 n2 : Nat} {S C : RT → RT} {p : Nat} (hn : n ≤ n1) (hC : ∀ R, C R = R) (h : SC f2 n1 n2 S p) : SCh f2 n n2 (fun R => C (S R)) (.ref p) p := by
  obtain ⟨h1, k, v, x, y, z, h2, h3⟩ := h
  exact ⟨⟨by omega, h1.2⟩, k, v, x, y, z, h2, fun f' m n' R nx a b c d e => by show ndR f' m n' (C (S R)) (.ref p); rw [hC]; exact h3 f' m n' R nx (by omega) b (fun i i1 i2 i3 => c i (by omega) i2 i3) d e⟩
theorem SCh_2 {f1 f2 : sw_F} {n n1 n2 : Nat} {S C : RT → RT} {h : Value} {q p : Nat} {k v : Int32} {x y z : Value} (hn : n ≤ n1) (hq : n ≤ q ∧ q < n1) (hc : ∀ f' m n' R nx, m ≤ n → n1 ≤ n' → (∀ i, n ≤ i → i < n1 → ¬ i = q → f' i = f1 i) → f' q = nd k v x y z nx → ndR f' m n' R nx → ndR f' m n' (C R) h) (hf : ∀ i, i < n1 → f2 i = f1 i) (hS : SC f2 n1 n2 S p) : SCh (va_up f2 q (nd k v x y z (.ref p))) n n2 (fun R => C (S R)) h p := by
  obtain ⟨h1, k', v', x', y', z', h2, h3⟩ := hS
  refine ⟨⟨by omega, h1.2⟩, k', v', x', y', z', by rw [vu_ne _ (show ¬ p = q by omega), h2], fun f' m n' R nx a b c d e => ?_⟩
  refine hc f' m n' (S R) (.ref p) a (by omega) (fun i i1 i2 i3 => ?_) ?_ ?_
  · rw [c i i1 (by omega) (by omega), vu_ne _ i3, hf i i2]
  · rw [c q hq.1 (by omega) (by omega), vu_at]
  · exact h3 f' m n' R nx (by omega) b (fun i i1 i2 i3 => by rw [c i (by omega) i2 i3, vu_ne _ (show ¬ i = q by omega)]) d e
set_option maxRecDepth 100000 in
theorem l_X8_row {l : Launch} {D : va_G} {cy : Nat → ClassId} {d n : Nat} {f : sw_F} {s : Nat → Int32} {A : Nat → Nat → Int32} {B : Nat → Nat → Int64} {o : Int64} {pr : Value} {T : Nat} (hT : TC s (A 7) T) {g p0 M F0 : Nat} (ih : ∀ F, F ≤ F0 → ∀ (g p M n d : Nat) (f : sw_F), g ≤ 6 → 32 - 4 * g ≤ d → 187 ≤ n → p ≤ T → T < p + F → (pR (A 7) T F g p).2 ≤ p + M → sw_Ct l D cy mX8_readRow d M (6 * (M)) [.ref 6, .int (nI (g))] n (gd f (rS s (p) (-1)) A B o pr) (QRw n f s A B o pr (pR (A 7) T F (g) (p)))) (hg : g ≤ 6) (hd : 32 - 4 * g ≤ d) (hn : 187 ≤ n) {X : Option RT × Nat} {QX : sw_QX} : ∀ (F : Nat), F ≤ F0 + 1 → ∀ (k p : Nat) (C : RT → RT) (h w : Value) (n1 : Nat) (f1 : sw_F), k ≤ p → p ≤ T → T < p + F → p0 ≤ p → n ≤ n1 → (∀ i, i < n → f1 i = f i) → RSt f1 n n1 C h w → sw_isR h = true → (pR (A 7) T F g p).2 ≤ p0 + M → pC C (pR (A 7) T F g p) = X → SW l D cy mX8_readRow d M (6 * M) (p - p0) (6 * (p - p0)) 7 [(0, .ref 6), (1, .int (nI g)), (2, h), (3, w), (4, .int (nI (k)))] [] n1 (gd f1 (rS s p (-1)) A B o pr) (QRw n f s A B o pr X) QX := by
  have hT2 := hT.2.1
  intro F
  induction F with
  | zero => intro _ k p C h w n1 f1 hk hp hF; omega
  | succ F lp =>
      intro hFF k p C h w n1 f1 hk hpT hF hp0 hn1 fr hr hh hM hX
      have hpq := (pR_le (TX := A 7) (T := T) (F + 1) g p hpT).1
      refine sw_iload dX8_readRow_7 rfl ?_
      refine sw_bipush (x := 72) dX8_readRow_9 (by decide) ?_
      refine sw_icmp_ge 60 dX8_readRow_11 (by decide) (fun h11 => ?_) (fun h11 => ?_)
      · have EW : X = (some (C rNo), p) := by rw [← hX, pR_no (by rw [show hc (A 7) T p = 0 from if_neg (by rw [nl_72, nI_leI (by omega) (by omega)] at h11; omega)]; decide)]; rfl
        refine sw_aload_n dX8_readRow_60 rfl hh ?_
        exact sw_aret dX8_readRow_61 rfl hh (by omega) (by omega) ⟨hn1, Or.inl ⟨C rNo, h, f1, by rw [EW], rfl, by rw [EW], fr, RSt_end hr⟩⟩
      · refine sw_aload_n dX8_readRow_14 rfl (by first | rfl | assumption) ?_
        refine sw_Vv dX8_readRow_15 k_X8_39 mf_X8_atStatement (c_X8_atStatement (d := d - 1) (by omega) hT (show p ≤ 1000 by omega)) rfl ⟨_, rfl, rfl⟩ (by omega) (by omega) (by omega) rfl rfl (Nat.le_of_ble_eq_true rfl) ?_
        refine sw_if_eq 60 dX8_readRow_18 (by decide) (fun h18 => ?_) (fun h18 => ?_)
        · have EW : X = (some (C rNo), p) := by rw [← hX, pR_no (bz_0.mp h18)]; rfl
          refine sw_aload_n dX8_readRow_60 rfl hh ?_
          exact sw_aret dX8_readRow_61 rfl hh (by omega) (by omega) ⟨hn1, Or.inl ⟨C rNo, h, f1, by rw [EW], rfl, by rw [EW], fr, RSt_end hr⟩⟩
        · have cs : atS (hc (A 7) T p) = true := bz_ne.mp h18
          refine sw_aload_n dX8_readRow_21 rfl rfl ?_
          refine sw_iload_n dX8_readRow_22 rfl ?_
          have hp := at_in cs
          have hle0 := pSt_le (TX := A 7) (F := F) (g := g) hp
          have hw := pR_st (TX := A 7) (T := T) (F := F) (g := g) cs
          generalize ew : pSt (A 7) T F g p = w1 at hle0 hw
          obtain ⟨w1, q⟩ := w1
          have l1 : p + 1 ≤ q := hle0.1
          have l2 : q ≤ T := hle0.2
          have hMq : q ≤ p0 + M := by
            rw [hw] at hM
            cases w1 with
            | none => exact hM
            | some S => exact Nat.le_trans (pR_le (TX := A 7) (T := T) F g q l2).1 hM
          have ct := c_X8_readStatement (l := l) (D := D) (cy := cy) (d := d - 1) (n := n1) (f := f1) (s := s) (B := B) (o := o) (pr := pr) (M := q - p) hT (ih F (by omega)) hg (by omega) (by omega) (by omega) cs (by omega) (by rw [ew]; show q ≤ _; omega)
          rw [ew] at ct
          refine sw_callV dX8_readRow_23 k_X8_43 mf_X8_readStatement ⟨_, rfl, rfl⟩ rfl ct (by omega) ⟨by omega, by omega⟩ rfl rfl (Nat.le_of_ble_eq_true rfl) (fun r' n2 f' hq hle => ?_)
          obtain ⟨hle2, hq⟩ := hq
          rcases hq with ⟨S, np, f2, e4, hr', hf', fr2, sc⟩ | ⟨f2, e4, hr', hf', fr2⟩
          · subst hr'
            subst hf'
            have e4 : w1 = some S := e4
            subst e4
            have EQ : pR (A 7) T (F + 1) g p = pC S (pR (A 7) T F g q) := hw
            have EQ2 : pC C (pR (A 7) T (F + 1) g p) = pC (fun R => C (S R)) (pR (A 7) T F g q) := by rw [EQ, pC_pC]
            have hM2 : (pR (A 7) T F g q).2 ≤ p0 + M := by rw [EQ] at hM; exact hM
            rcases hr with ⟨r1, r2, r3⟩ | ⟨lq, r2, r3, kk, vv, xx, yy, zz, r4, r5⟩
            · subst r1
              subst r2
              show SW l D cy mX8_readRow d M (6 * M) (p - p0 + (q - p)) (6 * (p - p0) + 6 * (q - p)) 26 [(0, .ref 6), (1, .int (nI g)), (2, .null), (3, .null), (4, .int (nI (k)))] [.ref np] n2 (gd f2 (rS s q (-1)) A B o pr) _ _
              refine sw_widen (k := q - p0) (j := 6 * (q - p0)) (by omega) (by omega) ?_
              refine sw_astore [(0, _), (1, _), (2, _), (3, _), (4, _), (5, _)] dX8_readRow_26 rfl (by decide) rfl ?_
              refine sw_aload dX8_readRow_28 rfl rfl ?_
              refine sw_ifnonnullR 35 dX8_readRow_30 (by decide) ?_
              refine sw_aload_n dX8_readRow_35 rfl rfl ?_
              refine sw_ifnonnullN dX8_readRow_36 ?_
              refine sw_aload dX8_readRow_39 rfl (by first | rfl | assumption) ?_
              refine sw_astore_n [(0, _), (1, _), (2, _), (3, _), (4, _), (5, _)] dX8_readRow_41 (by first | rfl | assumption) (by decide) rfl ?_
              refine sw_goto 51 dX8_readRow_42 (by decide) ?_
              refine sw_aload dX8_readRow_51 rfl (by first | rfl | assumption) ?_
              refine sw_astore_n [(0, _), (1, _), (2, _), (3, _), (4, _), (5, _)] dX8_readRow_53 (by first | rfl | assumption) (by decide) rfl ?_
              first | refine sw_inc1 [(0, _), (1, _), (2, _), (3, _), (4, _), (5, _)] dX8_readRow_54 rfl (by decide) rfl ?_ | refine sw_iinc [(0, _), (1, _), (2, _), (3, _), (4, _), (5, _)] dX8_readRow_54 rfl (by decide) rfl ?_
              refine sw_goto 7 dX8_readRow_57 (by decide) ?_
              refine sw_keep [0, 1, 2, 3, 4] rfl ?_
              exact lp (by omega) (k + 1) q (fun R => C (S R)) (.ref np) (.ref np) n2 f2 (by omega) (by omega) (by omega) (by omega) (by omega) (fun i hi => by rw [fr2 i (by omega), fr i hi]) (Or.inr ⟨np, rfl, SCh_1 hn1 r3 sc⟩) rfl hM2 (EQ2.symm.trans hX)
            · subst r2
              obtain ⟨sc1, k9, v9, x9, y9, z9, sc2, sc3⟩ := sc
              show SW l D cy mX8_readRow d M (6 * M) (p - p0 + (q - p)) (6 * (p - p0) + 6 * (q - p)) 26 [(0, .ref 6), (1, .int (nI g)), (2, h), (3, .ref lq), (4, .int (nI (k)))] [.ref np] n2 (gd f2 (rS s q (-1)) A B o pr) _ _
              refine sw_widen (k := q - p0) (j := 6 * (q - p0)) (by omega) (by omega) ?_
              refine sw_astore [(0, _), (1, _), (2, _), (3, _), (4, _), (5, _)] dX8_readRow_26 rfl (by decide) rfl ?_
              refine sw_aload dX8_readRow_28 rfl rfl ?_
              refine sw_ifnonnullR 35 dX8_readRow_30 (by decide) ?_
              refine sw_aload_n dX8_readRow_35 rfl rfl ?_
              refine sw_ifnonnullR 45 dX8_readRow_36 (by decide) ?_
              refine sw_aload_n dX8_readRow_45 rfl rfl ?_
              refine sw_aload dX8_readRow_46 rfl rfl ?_
              have hlq : 150 ≤ lq := Nat.le_trans (by omega) r3.1
              refine g_nput dX8_readRow_48 fl_X8_46 hlq (show f2 lq = nd kk vv xx yy zz .null by rw [fr2 lq r3.2, r4]) (Nat.le_of_ble_eq_true rfl) (sw_fit_or rfl) ?_
              show SW l D cy mX8_readRow d M (6 * M) (q - p0) (6 * (q - p0)) 51 [(0, .ref 6), (1, .int (nI g)), (2, h), (3, .ref lq), (4, .int (nI k)), (5, .ref np)] [] n2 (gd (va_up f2 lq (nd kk vv xx yy zz (.ref np))) (rS s q (-1)) A B o pr) _ _
              refine sw_aload dX8_readRow_51 rfl (by first | rfl | assumption) ?_
              refine sw_astore_n [(0, .ref 6), (1, .int (nI g)), (2, h), (3, .ref np), (4, .int (nI k)), (5, .ref np)] dX8_readRow_53 (by first | rfl | assumption) (by decide) (by rcases isR_c hh with rfl | ⟨_, rfl⟩ <;> rfl) ?_
              first | refine sw_inc1 [(0, _), (1, _), (2, _), (3, _), (4, _), (5, _)] dX8_readRow_54 rfl (by decide) rfl ?_ | refine sw_iinc [(0, _), (1, _), (2, _), (3, _), (4, _), (5, _)] dX8_readRow_54 rfl (by decide) rfl ?_
              refine sw_goto 7 dX8_readRow_57 (by decide) ?_
              refine sw_keep [0, 1, 2, 3, 4] rfl ?_
              exact lp (by omega) (k + 1) q (fun R => C (S R)) h (.ref np) n2 _ (by omega) (by omega) (by omega) (by omega) (by omega) (fun i hi => by rw [vu_ne _ (show ¬ i = lq by omega), fr2 i (by omega), fr i hi]) (Or.inr ⟨np, rfl, SCh_2 hn1 r3 r5 fr2 ⟨sc1, k9, v9, x9, y9, z9, sc2, sc3⟩⟩) hh hM2 (EQ2.symm.trans hX)
          · subst hr'
            subst hf'
            have e4 : w1 = none := e4
            subst e4
            have ew2 : X = (none, q) := by rw [← hX, hw]; rfl
            show SW l D cy mX8_readRow d M (6 * M) (p - p0 + (q - p)) (6 * (p - p0) + 6 * (q - p)) 26 [(0, .ref 6), (1, .int (nI g)), (2, h), (3, w), (4, .int (nI (k)))] [.null] n2 (gd f2 (rS s q (nI q)) A B o pr) _ _
            refine sw_astore [(0, _), (1, _), (2, _), (3, _), (4, _), (5, _)] dX8_readRow_26 rfl (by decide) rfl ?_
            refine sw_aload dX8_readRow_28 rfl rfl ?_
            refine sw_ifnonnullN dX8_readRow_30 ?_
            refine sw_null dX8_readRow_33 ?_
            exact sw_aret dX8_readRow_34 rfl rfl (by omega) (by omega) ⟨by omega, Or.inr ⟨f2, by rw [ew2], rfl, by rw [ew2], fun i hi => by rw [fr2 i (by omega), fr i hi]⟩⟩
set_option maxRecDepth 100000 in
theorem c_X8_readRow {l : Launch} {D : va_G} {cy : Nat → ClassId}  {s : Nat → Int32} {A : Nat → Nat → Int32} {B : Nat → Nat → Int64} {o : Int64} {pr : Value} {T : Nat} (hT : TC s (A 7) T) : ∀ (F0 F : Nat), F ≤ F0 → ∀ (g p M n d : Nat) (f : sw_F), g ≤ 6 → 32 - 4 * g ≤ d → 187 ≤ n → p ≤ T → T < p + F → (pR (A 7) T F g p).2 ≤ p + M → sw_Ct l D cy mX8_readRow d M (6 * (M)) [.ref 6, .int (nI (g))] n (gd f (rS s (p) (-1)) A B o pr) (QRw n f s A B o pr (pR (A 7) T F (g) (p))) := by
  have hT2 := hT.2.1
  intro F0
  induction F0 with
  | zero => intro F h0 g p M n d f hg hd hn hp hF hM; exact absurd hF (by omega)
  | succ F0 ih =>
    intro F h0 g p M n d f hg hd hn hp hF hM
    refine sw_of rfl (Nat.le_of_ble_eq_true rfl) ?_
    show SW l D cy mX8_readRow d M (6 * M) 0 0 0 [(0, .ref 6), (1, .int (nI g))] [] n (gd f (rS s (p) (-1)) A B o pr) _ _
    refine sw_null dX8_readRow_0 ?_
    refine sw_astore_n [(0, _), (1, _), (2, _)] dX8_readRow_1 (by first | rfl | assumption) (by decide) rfl ?_
    refine sw_null dX8_readRow_2 ?_
    refine sw_astore_n [(0, _), (1, _), (2, _), (3, _)] dX8_readRow_3 (by first | rfl | assumption) (by decide) rfl ?_
    refine sw_iconst (x := 0) dX8_readRow_4 (by decide) ?_
    refine sw_istore [(0, _), (1, _), (2, _), (3, _), (4, _)] dX8_readRow_5 (by decide) rfl ?_
    refine sw_widen (k := p - p) (j := 6 * (p - p)) (by omega) (by omega) ?_
    exact l_X8_row hT ih hg hd hn F h0 0 p (fun R => R) .null .null n f (by omega) hp hF (Nat.le_refl p) (Nat.le_refl n) (fun _ _ => rfl) (Or.inl ⟨rfl, rfl, fun _ => rfl⟩) rfl hM (pC_id _ (fun _ => rfl) _)
def QTk (n : Nat) (f : sw_F) (s : Nat → Int32) (A : Nat → Nat → Int32) (B : Nat → Nat → Int64) (o : Int64) (pr : Value) (w : Option RT × Nat) : sw_Q := fun r n' f' => n ≤ n' ∧ ((∃ t v f2, w.1 = some t ∧ r = some v ∧ f' = gd f2 (va_up (rS s w.2 (-1)) 7 0) A B o pr ∧ (∀ i, i < n → f2 i = f i) ∧ ndR f2 n n' t v) ∨ (∃ v f2, w.1 = none ∧ r = some v ∧ sw_isR v = true ∧ f' = gd f2 (va_up (rS s w.2 (nI w.2)) 7 0) A B o pr ∧ ∀ i, i < n → f2 i = f i))
set_option maxRecDepth 100000 in
theorem c_X8_takeProgram {l : Launch} {D : va_G} {cy : Nat → ClassId} {d n : Nat} {f : sw_F} {s : Nat → Int32} {A : Nat → Nat → Int32} {B : Nat → Nat → Int64} {o : Int64} {pr : Value} {T : Nat} (hT : TC s (A 7) T) (hd : 33 ≤ d) (hn : 187 ≤ n) : sw_Ct l D cy mX8_takeProgram d 72 432 [.ref 6] n (gd f s A B o pr) (QTk n f s A B o pr (rdR (A 7) T)) := by
  have hT2 := hT.2.1
  have l1 := pR_le (TX := A 7) (T := T) 100 0 0 (Nat.zero_le T)
  generalize ew : pR (A 7) T 100 0 0 = w1 at l1
  obtain ⟨w1, q⟩ := w1
  have l2 : q ≤ T := l1.2.1
  refine sw_of rfl (Nat.le_of_ble_eq_true rfl) ?_
  show SW l D cy mX8_takeProgram d 72 432 0 0 0 [(0, .ref 6)] [] n (gd f s A B o pr) _ _
  refine sw_aload_n dX8_takeProgram_0 rfl (by first | rfl | assumption) ?_
  refine sw_iconst (x := 0) dX8_takeProgram_1 (by decide) ?_
  refine g_put 8 dX8_takeProgram_2 fl_X8_19 rfl ⟨by decide, rfl⟩ rfl (Nat.le_of_ble_eq_true rfl) (sw_fit_i _) rfl ?_
  refine sw_aload_n dX8_takeProgram_5 rfl (by first | rfl | assumption) ?_
  refine sw_iconst (x := (-1)) dX8_takeProgram_6 (by decide) ?_
  refine g_put 9 dX8_takeProgram_7 fl_X8_22 rfl ⟨by decide, rfl⟩ rfl (Nat.le_of_ble_eq_true rfl) (sw_fit_i _) rfl ?_
  refine sw_aload_n dX8_takeProgram_10 rfl (by first | rfl | assumption) ?_
  refine sw_iconst (x := 0) dX8_takeProgram_11 (by decide) ?_
  refine sw_top (y := nI 0) nl_0 ?_
  show SW l D cy mX8_takeProgram d 72 432 0 0 12 [(0, .ref 6)] [.int (nI 0), .ref 6] n (gd f (rS s 0 (-1)) A B o pr) _ _
  have ct := c_X8_readRow (l := l) (D := D) (cy := cy) (s := s) (B := B) (o := o) (pr := pr) hT 100 100 (Nat.le_refl _) 0 0 q n (d - 1) f (by omega) (by omega) hn (Nat.zero_le T) (by omega) (by rw [ew]; show q ≤ _; omega)
  rw [ew] at ct
  refine sw_callV dX8_takeProgram_12 k_X8_27 mf_X8_readRow ⟨_, rfl, rfl⟩ rfl ct (by omega) ⟨by omega, by omega⟩ rfl rfl (Nat.le_of_ble_eq_true rfl) (fun r' n1 f' hq hle => ?_)
  obtain ⟨hle1, hq⟩ := hq
  rcases hq with ⟨t, v, f2, e4, hr', hf', fr1, nd1⟩ | ⟨f2, e4, hr', hf', fr1⟩
  · subst hr'
    subst hf'
    have e4 : w1 = some t := e4
    subst e4
    have hv := ndR_r t v nd1
    show SW l D cy mX8_takeProgram d 72 432 (0 + q) (0 + 6 * q) 15 [(0, .ref 6)] [v] n1 (gd f2 (rS s q (-1)) A B o pr) _ _
    refine sw_astore_n [(0, _), (1, _)] dX8_takeProgram_15 (by first | rfl | assumption) (by decide) rfl ?_
    refine sw_aload_n dX8_takeProgram_16 rfl (by first | rfl | assumption) ?_
    refine sw_get dX8_takeProgram_17 fr_X8_22 rfl rfl ?_
    refine sw_top (y := -1) rfl ?_
    refine sw_iconst (x := (-1)) dX8_takeProgram_20 (by decide) ?_
    refine sw_icmp_ne 43 dX8_takeProgram_21 (by decide) (fun h21 => ?_) (fun h21 => ?_)
    · exact absurd rfl h21
    · refine sw_aload_n dX8_takeProgram_24 rfl (by first | rfl | assumption) ?_
      refine sw_get dX8_takeProgram_25 fr_X8_19 rfl rfl ?_
      refine sw_top (y := nI q) rfl ?_
      refine sw_aload_n dX8_takeProgram_28 rfl (by first | rfl | assumption) ?_
      refine sw_get dX8_takeProgram_29 fr_X8_15 rfl rfl ?_
      refine sw_top (y := nI T) hT.1 ?_
      refine sw_icmp_ge 43 dX8_takeProgram_32 (by decide) (fun h32 => ?_) (fun h32 => ?_)
      · refine sw_aload_n dX8_takeProgram_43 rfl (by first | rfl | assumption) ?_
        refine sw_iconst (x := 0) dX8_takeProgram_44 (by decide) ?_
        refine g_put 7 dX8_takeProgram_45 fl_X8_15 rfl ⟨by decide, rfl⟩ rfl (Nat.le_of_ble_eq_true rfl) (sw_fit_i _) rfl ?_
        refine sw_aload_n dX8_takeProgram_48 rfl (by first | rfl | assumption) ?_
        exact sw_aret dX8_takeProgram_49 rfl (by first | rfl | assumption) (by omega) (by omega) ⟨hle1, Or.inl ⟨t, v, f2, by rw [rdR, ew]; exact congrArg Prod.fst (if_pos (show q = T by have := (nI_leI (by omega) (by omega)).mp h32; omega)), rfl, by rw [show (rdR (A 7) T).2 = q by rw [rdR, ew]; exact congrArg Prod.snd (if_pos (show q = T by have := (nI_leI (by omega) (by omega)).mp h32; omega))], fr1, nd1⟩⟩
      · refine sw_aload_n dX8_takeProgram_35 rfl (by first | rfl | assumption) ?_
        refine sw_aload_n dX8_takeProgram_36 rfl (by first | rfl | assumption) ?_
        refine sw_get dX8_takeProgram_37 fr_X8_19 rfl rfl ?_
        refine sw_top (y := nI q) rfl ?_
        refine g_put 9 dX8_takeProgram_40 fl_X8_22 rfl ⟨by decide, rfl⟩ rfl (Nat.le_of_ble_eq_true rfl) (sw_fit_i _) rfl ?_
        rw [rS_e]
        refine sw_aload_n dX8_takeProgram_43 rfl (by first | rfl | assumption) ?_
        refine sw_iconst (x := 0) dX8_takeProgram_44 (by decide) ?_
        refine g_put 7 dX8_takeProgram_45 fl_X8_15 rfl ⟨by decide, rfl⟩ rfl (Nat.le_of_ble_eq_true rfl) (sw_fit_i _) rfl ?_
        refine sw_aload_n dX8_takeProgram_48 rfl (by first | rfl | assumption) ?_
        exact sw_aret dX8_takeProgram_49 rfl (by first | rfl | assumption) (by omega) (by omega) ⟨hle1, Or.inr ⟨v, f2, by rw [rdR, ew]; exact congrArg Prod.fst (if_neg (show ¬ q = T by have := (nI_ltI (by omega) (by omega)).mp (Int32.not_le.mp h32); omega)), rfl, hv, by rw [show (rdR (A 7) T).2 = q by rw [rdR, ew]; exact congrArg Prod.snd (if_neg (show ¬ q = T by have := (nI_ltI (by omega) (by omega)).mp (Int32.not_le.mp h32); omega))], fr1⟩⟩
  · subst hr'
    subst hf'
    have e4 : w1 = none := e4
    subst e4
    show SW l D cy mX8_takeProgram d 72 432 (0 + q) (0 + 6 * q) 15 [(0, .ref 6)] [.null] n1 (gd f2 (rS s q (nI q)) A B o pr) _ _
    refine sw_astore_n [(0, _), (1, _)] dX8_takeProgram_15 (by first | rfl | assumption) (by decide) rfl ?_
    refine sw_aload_n dX8_takeProgram_16 rfl (by first | rfl | assumption) ?_
    refine sw_get dX8_takeProgram_17 fr_X8_22 rfl rfl ?_
    refine sw_top (y := nI q) rfl ?_
    refine sw_iconst (x := (-1)) dX8_takeProgram_20 (by decide) ?_
    refine sw_icmp_ne 43 dX8_takeProgram_21 (by decide) (fun h21 => ?_) (fun h21 => ?_)
    · refine sw_aload_n dX8_takeProgram_43 rfl (by first | rfl | assumption) ?_
      refine sw_iconst (x := 0) dX8_takeProgram_44 (by decide) ?_
      refine g_put 7 dX8_takeProgram_45 fl_X8_15 rfl ⟨by decide, rfl⟩ rfl (Nat.le_of_ble_eq_true rfl) (sw_fit_i _) rfl ?_
      refine sw_aload_n dX8_takeProgram_48 rfl (by first | rfl | assumption) ?_
      exact sw_aret dX8_takeProgram_49 rfl (by first | rfl | assumption) (by omega) (by omega) ⟨hle1, Or.inr ⟨.null, f2, by rw [rdR, ew], rfl, rfl, by rw [show (rdR (A 7) T).2 = q by rw [rdR, ew]], fr1⟩⟩
    · exact absurd (show nI q < 0 by rw [h21]; decide) (i32_nlt0 (by omega))
set_option maxRecDepth 100000 in
theorem c_X8_error {l : Launch} {D : va_G} {cy : Nat → ClassId} {d n : Nat} {f : sw_F} {s : Nat → Int32} {A : Nat → Nat → Int32} {B : Nat → Nat → Int64} {o : Int64} {pr : Value} : sw_Ct l D cy mX8_error d 0 0 [.ref 6] n (gd f s A B o pr) (sw_D (some (.int (s 9))) n (gd f s A B o pr)) := by
  refine sw_of rfl (Nat.le_of_ble_eq_true rfl) ?_
  show SW l D cy mX8_error d 0 0 0 0 0 [(0, .ref 6)] [] n (gd f s A B o pr) _ _
  refine sw_aload_n dX8_error_0 rfl (by first | rfl | assumption) ?_
  refine sw_get dX8_error_1 fr_X8_22 rfl rfl ?_
  exact sw_iret dX8_error_4 rfl (by first | rfl | exact bz_n _) (by omega) (by omega) ⟨rfl, rfl, rfl⟩
