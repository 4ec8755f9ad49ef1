/-! ===== depth of trees ===== -/
def dkE : Nat → ET → Prop
  | g, .leaf _ => g ≤ 6
  | g, .branch _ a b => g + 1 ≤ 6 ∧ dkE (g + 1) a ∧ dkE (g + 1) b
def dkR : Nat → RT → Prop
  | g, .leaf _ => g ≤ 6
  | g, .branch _ (.leaf e) R => dkE 0 e ∧ dkR g R
  | g, .branch _ (.branch _ (.leaf e) r) R => dkE 0 e ∧ dkR (g + 1) r ∧ dkR g R
  | g, .branch _ (.branch _ (.branch _ (.leaf e) r1) r2) R => dkE 0 e ∧ dkR (g + 1) r1 ∧ dkR (g + 1) r2 ∧ dkR g R
  | _, .branch _ (.branch _ (.branch _ (.branch _ _ _) _) _) _ => False
theorem dkE_m : ∀ (e : ET) (g h : Nat), h ≤ g → dkE g e → dkE h e
  | .leaf _, g, h, hh, r => Nat.le_trans hh r
  | .branch _ a b, g, h, hh, r => ⟨Nat.le_trans (by omega) r.1, dkE_m a (g + 1) (h + 1) (by omega) r.2.1, dkE_m b (g + 1) (h + 1) (by omega) r.2.2⟩
theorem dkR_g : ∀ (t : RT) (g : Nat), dkR g t → g ≤ 6
  | .leaf _, g, r => r
  | .branch _ (.leaf _) R, g, r => dkR_g R g r.2
  | .branch _ (.branch _ (.leaf _) x) R, g, r => dkR_g R g r.2.2
  | .branch _ (.branch _ (.branch _ (.leaf _) x) y) R, g, r => dkR_g R g r.2.2.2
  | .branch _ (.branch _ (.branch _ (.branch _ _ _) _) _) _, g, r => r.elim
theorem pE_dk {TX : Nat → Int32} {T : Nat} : ∀ (F g p : Nat) (x : ET), g ≤ 6 → (pE TX T F g p).1 = some x → dkE g x
  | 0, g, p, x, hg, h => absurd h (by simp [pE])
  | F + 1, g, p, x, hg, h => by
    rw [pE] at h
    by_cases c1 : r_dg (hc TX T p) = true
    · rw [if_pos c1] at h
      rw [← Option.some.inj h]
      exact hg
    · rw [if_neg c1] at h
      by_cases c2 : r_nm (hc TX T p) = true
      · rw [if_pos c2] at h
        rw [← Option.some.inj h]
        exact hg
      · rw [if_neg c2] at h
        by_cases c3 : hc TX T p = 40 ∧ g < 6
        · rw [if_pos c3] at h
          have i1 := pE_dk (TX := TX) (T := T) F (g + 1) (p + 1)
          generalize pE TX T F (g + 1) (p + 1) = w at h i1
          obtain ⟨w, q1⟩ := w
          cases w with
          | none => exact absurd h (by simp)
          | some a =>
            simp only [] at h
            by_cases c4 : r_op (hc TX T q1) = 0
            · rw [if_pos c4] at h; exact absurd h (by simp)
            · rw [if_neg c4] at h
              have i2 := pE_dk (TX := TX) (T := T) F (g + 1) (q1 + 1)
              generalize pE TX T F (g + 1) (q1 + 1) = w at h i2
              obtain ⟨w, q2⟩ := w
              cases w with
              | none => exact absurd h (by simp)
              | some b =>
                simp only [] at h
                by_cases c5 : hc TX T q2 = 41
                · rw [if_pos c5] at h
                  rw [← Option.some.inj h]
                  exact ⟨by omega, i1 a (by omega) rfl, i2 b (by omega) rfl⟩
                · rw [if_neg c5] at h; exact absurd h (by simp)
        · rw [if_neg c3] at h; exact absurd h (by simp)
theorem pE_d0 {TX : Nat → Int32} {T F g p : Nat} {x : ET} (hg : g ≤ 6) (h : (pE TX T F g p).1 = some x) : dkE 0 x := dkE_m x g 0 (Nat.zero_le g) (pE_dk F g p x hg h)
theorem pB_dk {TX : Nat → Int32} {T g : Nat} {rd : Nat → Option RT × Nat} (h : ∀ p x, g + 1 ≤ 6 → (rd p).1 = some x → dkR (g + 1) x) {p : Nat} {x : RT} (hx : (pB TX T g rd p).1 = some x) : dkR (g + 1) x := by
  unfold pB at hx
  by_cases c : hc TX T p = 123 ∧ g < 6
  · rw [if_pos c] at hx
    have i1 := h (p + 1)
    generalize rd (p + 1) = w at hx i1
    obtain ⟨w, q⟩ := w
    cases w with
    | none => exact absurd hx (by simp)
    | some r =>
      simp only [] at hx
      by_cases c2 : hc TX T q = 125
      · rw [if_pos c2] at hx
        rw [← Option.some.inj hx]
        exact i1 r (by omega) rfl
      · rw [if_neg c2] at hx; exact absurd hx (by simp)
  · rw [if_neg c] at hx; exact absurd hx (by simp)
theorem pSt_dk {TX : Nat → Int32} {T F g p : Nat} (hg : g ≤ 6) (h : ∀ p x, g + 1 ≤ 6 → (pR TX T F (g + 1) p).1 = some x → dkR (g + 1) x) {S : RT → RT} (hS : (pSt TX T F g p).1 = some S) {R : RT} (hR : dkR g R) : dkR g (S R) := by
  unfold pSt at hS
  split at hS
  · unfold pAs at hS
    split at hS
    · have i1 := fun x => pE_d0 (TX := TX) (T := T) (F := 100) (p := p + 1 + 1) (x := x) hg
      generalize pE TX T 100 g (p + 1 + 1) = w at hS i1
      obtain ⟨w, q⟩ := w
      cases w with
      | none => exact absurd hS (by simp)
      | some e =>
        simp only [] at hS
        split at hS
        · rw [← Option.some.inj hS]; exact ⟨i1 e rfl, hR⟩
        · exact absurd hS (by simp)
    · exact absurd hS (by simp)
  · split at hS
    · unfold pCh at hS
      have i1 := fun x => pE_d0 (TX := TX) (T := T) (F := 100) (p := p + 1) (x := x) hg
      generalize pE TX T 100 g (p + 1) = w at hS i1
      obtain ⟨w, q⟩ := w
      cases w with
      | none => exact absurd hS (by simp)
      | some e =>
        simp only [] at hS
        have i2 := fun x => pB_dk (TX := TX) (T := T) (g := g) (rd := pR TX T F (g + 1)) h (p := q) (x := x)
        generalize pB TX T g (pR TX T F (g + 1)) q = w at hS i2
        obtain ⟨w, q1⟩ := w
        cases w with
        | none => exact absurd hS (by simp)
        | some r1 =>
          simp only [] at hS
          have i3 := fun x => pB_dk (TX := TX) (T := T) (g := g) (rd := pR TX T F (g + 1)) h (p := q1) (x := x)
          generalize pB TX T g (pR TX T F (g + 1)) q1 = w at hS i3
          obtain ⟨w, q2⟩ := w
          cases w with
          | none => exact absurd hS (by simp)
          | some r2 =>
            simp only [] at hS
            rw [← Option.some.inj hS]
            exact ⟨i1 e rfl, i2 r1 rfl, i3 r2 rfl, hR⟩
    · unfold pLp at hS
      have i1 := fun x => pE_d0 (TX := TX) (T := T) (F := 100) (p := p + 1) (x := x) hg
      generalize pE TX T 100 g (p + 1) = w at hS i1
      obtain ⟨w, q⟩ := w
      cases w with
      | none => exact absurd hS (by simp)
      | some e =>
        simp only [] at hS
        have i2 := fun x => pB_dk (TX := TX) (T := T) (g := g) (rd := pR TX T F (g + 1)) h (p := q) (x := x)
        generalize pB TX T g (pR TX T F (g + 1)) q = w at hS i2
        obtain ⟨w, q1⟩ := w
        cases w with
        | none => exact absurd hS (by simp)
        | some r1 =>
          simp only [] at hS
          rw [← Option.some.inj hS]
          exact ⟨i1 e rfl, i2 r1 rfl, hR⟩
theorem pR_dk {TX : Nat → Int32} {T : Nat} : ∀ (F g p : Nat) (x : RT), g ≤ 6 → (pR TX T F g p).1 = some x → dkR g x
  | 0, g, p, x, hg, h => absurd h (by simp [pR])
  | F + 1, g, p, x, hg, h => by
    cases ca : atS (hc TX T p) with
    | false => rw [pR_no ca] at h; rw [← Option.some.inj h]; exact hg
    | true =>
      rw [pR_st ca] at h
      have i0 := fun p x => pR_dk (TX := TX) (T := T) F (g + 1) p x
      have i1 := fun S => pSt_dk (TX := TX) (T := T) (F := F) (p := p) (S := S) hg i0
      generalize pSt TX T F g p = w at h i1
      obtain ⟨w, q⟩ := w
      cases w with
      | none => exact absurd h (by simp [pM])
      | some S =>
        have i2 := pR_dk (TX := TX) (T := T) F g q
        have h : ((pR TX T F g q).1.map S) = some x := h
        generalize pR TX T F g q = w at h i2
        obtain ⟨w, q2⟩ := w
        cases w with
        | none => exact absurd h (by simp)
        | some R =>
          rw [← (Option.some.inj h : S R = x)]
          exact i1 S rfl (i2 R hg rfl)
theorem rd_dk {TX : Nat → Int32} {T : Nat} {x : RT} (h : (rdR TX T).1 = some x) : dkR 0 x := by
  unfold rdR at h
  have i := pR_dk (TX := TX) (T := T) 100 0 0
  generalize pR TX T 100 0 0 = w at h i
  obtain ⟨w, q⟩ := w
  cases w with
  | none => exact absurd h (by simp)
  | some t =>
    simp only [] at h
    split at h
    · rw [← Option.some.inj h]; exact i t (by omega) rfl
    · exact absurd h (by simp)
/-! ===== THE CLASS: ProgramLabels, small ones ===== -/
def jT (T2 : Nat → Int32) (x y : Int32) : Int32 := T2 (6 * x.toNatClampNeg + y.toNatClampNeg)
theorem jT_J {s : Nat → Int32} {A : Nat → Nat → Int32} {N : Nat} (hs : s 4 = nI N) (hN : N ≤ 6) {x y : Int32} (hx : lv N x) (hy : lv N y) : ljn s A x y = jT (A 2) x y := ljn_J hs hN hx hy
def lbE (J : Int32 → Int32 → Int32) (bo : Int32) (V : Nat → Int32) : ET → Int32
  | .leaf x => if x.1 = 1 then V x.2 else bo
  | .branch _ a b => J (lbE J bo V a) (lbE J bo V b)
theorem lbE_lv {N : Nat} {J : Int32 → Int32 → Int32} {bo : Int32} {V : Nat → Int32} (hJ : SL N J) (hb : lv N bo) (hV : ∀ v, v < 8 → lv N (V v)) : ∀ (e : ET), wfE e → lv N (lbE J bo V e)
  | .leaf x, w => by
    unfold lbE
    split
    · rename_i h
      rcases w with w | w
      · exact absurd h (by rw [w.1]; decide)
      · exact hV _ w.2
    · exact hb
  | .branch _ a b, w => hJ.1 _ _ (lbE_lv hJ hb hV a w.2.1) (lbE_lv hJ hb hV b w.2.2)
theorem lbE_cg {J : Int32 → Int32 → Int32} {bo : Int32} {V W : Nat → Int32} (h : ∀ v, v < 8 → V v = W v) : ∀ (e : ET), wfE e → lbE J bo V e = lbE J bo W e
  | .leaf x, w => by
    unfold lbE
    split
    · rename_i h1
      rcases w with w | w
      · exact absurd h1 (by rw [w.1]; decide)
      · exact h _ w.2
    · rfl
  | .branch _ a b, w => by rw [lbE, lbE, lbE_cg h a w.2.1, lbE_cg h b w.2.2]
theorem gd_n {f : sw_F} {s : Nat → Int32} {A : Nat → Nat → Int32} {B : Nat → Nat → Int64} {o : Int64} {pr : Value} {p : Nat} {e : va_E} (hp : 150 ≤ p) (h : f p = e) : gd f s A B o pr p = e := by rw [gd_f _ _ _ _ _ _ hp, h]
theorem gq_p : ∀ g, g < 7 → (gq (11 + g) = 0 ∧ gt (11 + g) = 0 ∧ gl (11 + g) = 8) ∧ (gq (19 + g) = 0 ∧ gt (19 + g) = 0 ∧ gl (19 + g) = 8) := by decide +kernel
theorem g_rw1 : ∀ g, g < 7 → (fun j => if j < gl 10 then some (10 + 1 + j) else none) (nI g).toNatClampNeg = some (11 + g) := by decide +kernel
theorem g_rw2 : ∀ g, g < 7 → (fun j => if j < gl 18 then some (18 + 1 + j) else none) (nI g).toNatClampNeg = some (19 + g) := by decide +kernel
/-- a row of labels: a place of 8 ints -/
def g8 (p : Nat) : Prop := p < 150 ∧ gq p = 0 ∧ gt p = 0 ∧ gl p = 8
theorem g8_b {g : Nat} (h : g ≤ 6) : g8 (11 + g) := ⟨by omega, (gq_p g (by omega)).1.1, (gq_p g (by omega)).1.2.1, (gq_p g (by omega)).1.2.2⟩
theorem g8_g {g : Nat} (h : g ≤ 6) : g8 (19 + g) := ⟨by omega, (gq_p g (by omega)).2.1, (gq_p g (by omega)).2.2.1, (gq_p g (by omega)).2.2.2⟩
theorem g8_at {f : sw_F} {s : Nat → Int32} {A : Nat → Nat → Int32} {B : Nat → Nat → Int64} {o : Int64} {pr : Value} {p : Nat} (h : g8 p) : gd f s A B o pr p = .inl (0, 8, .inl (A p)) := by rw [gd_0 _ _ _ _ _ _ h.1 h.2.1, h.2.2.1, h.2.2.2]
theorem isV_n {v : Nat} (h : v < 8) : isV (nI v) = true := decide_eq_true ⟨Int32.not_lt.mp (i32_nlt0 (by omega)), by rw [nl_8]; exact (nI_ltI (by omega) (by omega)).mpr h⟩
set_option maxRecDepth 100000 in
theorem c_X7_labelOf {l : Launch} {D : va_G} {cy : Nat → ClassId} {n : Nat} {f : sw_F} {s : Nat → Int32} {A : Nat → Nat → Int32} {B : Nat → Nat → Int64} {o : Int64} {pr : Value} {N : Nat} (hs4 : s 4 = nI N) (hN : N ≤ 6) (hJ : SL N (jT (A 2))) (hb : lv N (s 5)) (hV : ∀ v, v < 8 → lv N (A 9 v)) {m n' : Nat} (hm : 150 ≤ m) : ∀ (e : ET) (j p d : Nat), 9 - j ≤ d → wfE e → dkE j e → ndE f m n' e p → sw_Ct l D cy mX7_labelOf d 0 0 [.ref 8, .ref p, .int (nI j)] n (gd f s A B o pr) (sw_D (some (.int (lbE (jT (A 2)) (s 5) (A 9) e))) n (gd f s A B o pr))
  | .leaf (k, v), j, p, d, hd, wf, dk, nd0 => by
    have hp : 150 ≤ p := Nat.le_trans hm nd0.1.1
    have hf : f p = nd (nI k) (nI v) .null .null .null .null := nd0.2
    have dk : j ≤ 6 := dk
    refine sw_of rfl (Nat.le_of_ble_eq_true rfl) ?_
    show SW l D cy mX7_labelOf d 0 0 0 0 0 [(0, .ref 8), (1, .ref p), (2, .int (nI j))] [] n (gd f s A B o pr) _ _
    refine sw_aload_n dX7_labelOf_0 rfl rfl ?_
    refine sw_ifnullR dX7_labelOf_1 ?_
    rcases wf with ⟨w1, w2⟩ | ⟨w1, w2⟩
    · have w1 : k = 0 := w1
      subst w1
      refine sw_iload_n dX7_labelOf_4 rfl ?_
      refine sw_bipush (x := 6) dX7_labelOf_5 (by decide) ?_
      refine sw_icmp_le 18 dX7_labelOf_7 (by decide) (fun h7 => ?_) (fun h7 => ?_)
      · refine sw_aload_n dX7_labelOf_18 rfl (by first | rfl | assumption) ?_
        refine sw_get dX7_labelOf_19 fr_X7_51 (gd_n hp hf) rfl ?_
        refine sw_iconst (x := 1) dX7_labelOf_22 (by decide) ?_
        refine sw_icmp_ne 46 dX7_labelOf_23 (by decide) (fun h23 => ?_) (fun h23 => ?_)
        · refine sw_aload_n dX7_labelOf_46 rfl (by first | rfl | assumption) ?_
          refine sw_get dX7_labelOf_47 fr_X7_51 (gd_n hp hf) rfl ?_
          refine sw_iconst (x := 2) dX7_labelOf_50 (by decide) ?_
          refine sw_icmp_ne 84 dX7_labelOf_51 (by decide) (fun h51 => ?_) (fun h51 => ?_)
          · refine sw_aload_n dX7_labelOf_84 rfl (by first | rfl | assumption) ?_
            refine sw_get dX7_labelOf_85 fr_X7_23 rfl rfl ?_
            refine sw_Vv dX7_labelOf_88 k_X7_33 mf_X3_bottom (c_X3_bottom (d := d - 1)) rfl ⟨_, rfl, rfl⟩ (by omega) (by omega) (by omega) rfl rfl (Nat.le_of_ble_eq_true rfl) ?_
            exact sw_iret dX7_labelOf_91 rfl (by first | rfl | exact bz_n _) (by omega) (by omega) ⟨rfl, rfl, rfl⟩
          · exact absurd h51 (show ¬ nI 0 = 2 by decide)
        · exact absurd h23 (show ¬ nI 0 = 1 by decide)
      · exact absurd (by rw [nl_6]; exact (nI_leI (by omega) (by omega)).mpr dk) h7
    · have w1 : k = 1 := w1
      subst w1
      have w2 : v < 8 := w2
      refine sw_iload_n dX7_labelOf_4 rfl ?_
      refine sw_bipush (x := 6) dX7_labelOf_5 (by decide) ?_
      refine sw_icmp_le 18 dX7_labelOf_7 (by decide) (fun h7 => ?_) (fun h7 => ?_)
      · refine sw_aload_n dX7_labelOf_18 rfl (by first | rfl | assumption) ?_
        refine sw_get dX7_labelOf_19 fr_X7_51 (gd_n hp hf) rfl ?_
        refine sw_iconst (x := 1) dX7_labelOf_22 (by decide) ?_
        refine sw_icmp_ne 46 dX7_labelOf_23 (by decide) (fun h23 => ?_) (fun h23 => ?_)
        · exact absurd rfl h23
        · refine sw_aload_n dX7_labelOf_26 rfl (by first | rfl | assumption) ?_
          refine sw_get dX7_labelOf_27 fr_X7_63 (gd_n hp hf) rfl ?_
          refine sw_SNv dX7_labelOf_30 k_X7_47 mf_X11_isVariable (c_X11_isVariable (d := d - 1) (nI v)) (by omega) (by omega) (by omega) rfl rfl (Nat.le_of_ble_eq_true rfl) ?_
          refine sw_if_eq 46 dX7_labelOf_33 (by decide) (fun h33 => ?_) (fun h33 => ?_)
          · exact absurd (bz_0.mp h33) (by rw [isV_n w2]; decide)
          · refine sw_aload_n dX7_labelOf_36 rfl (by first | rfl | assumption) ?_
            refine sw_get dX7_labelOf_37 fr_X7_9 rfl rfl ?_
            refine sw_aload_n dX7_labelOf_40 rfl (by first | rfl | assumption) ?_
            refine sw_get dX7_labelOf_41 fr_X7_63 (gd_n hp hf) rfl ?_
            refine sw_ialdN (v) dX7_labelOf_44 rfl rfl (show v < 8 by omega) (by decide) ?_
            exact sw_iret dX7_labelOf_45 rfl (by first | rfl | exact bz_n _) (by omega) (by omega) ⟨rfl, rfl, rfl⟩
      · exact absurd (by rw [nl_6]; exact (nI_leI (by omega) (by omega)).mpr dk) h7
  | .branch q a b, j, p, d, hd, wf, dk, nd0 => by
    obtain ⟨n1, pa, pb, hf, na, nb⟩ := nd0
    have hp : 150 ≤ p := Nat.le_trans hm n1.1
    have dk0 := dk.1
    have la := lbE_lv hJ hb hV a wf.2.1
    have lb := lbE_lv hJ hb hV b wf.2.2
    refine sw_of rfl (Nat.le_of_ble_eq_true rfl) ?_
    show SW l D cy mX7_labelOf d 0 0 0 0 0 [(0, .ref 8), (1, .ref p), (2, .int (nI j))] [] n (gd f s A B o pr) _ _
    refine sw_aload_n dX7_labelOf_0 rfl rfl ?_
    refine sw_ifnullR dX7_labelOf_1 ?_
    refine sw_iload_n dX7_labelOf_4 rfl ?_
    refine sw_bipush (x := 6) dX7_labelOf_5 (by decide) ?_
    refine sw_icmp_le 18 dX7_labelOf_7 (by decide) (fun h7 => ?_) (fun h7 => ?_)
    · refine sw_aload_n dX7_labelOf_18 rfl (by first | rfl | assumption) ?_
      refine sw_get dX7_labelOf_19 fr_X7_51 (gd_n hp hf) rfl ?_
      refine sw_iconst (x := 1) dX7_labelOf_22 (by decide) ?_
      refine sw_icmp_ne 46 dX7_labelOf_23 (by decide) (fun h23 => ?_) (fun h23 => ?_)
      · refine sw_aload_n dX7_labelOf_46 rfl (by first | rfl | assumption) ?_
        refine sw_get dX7_labelOf_47 fr_X7_51 (gd_n hp hf) rfl ?_
        refine sw_iconst (x := 2) dX7_labelOf_50 (by decide) ?_
        refine sw_icmp_ne 84 dX7_labelOf_51 (by decide) (fun h51 => ?_) (fun h51 => ?_)
        · exact absurd rfl h51
        · refine sw_aload_n dX7_labelOf_54 rfl (by first | rfl | assumption) ?_
          refine sw_get dX7_labelOf_55 fr_X7_23 rfl rfl ?_
          refine sw_aload_n dX7_labelOf_58 rfl (by first | rfl | assumption) ?_
          refine sw_aload_n dX7_labelOf_59 rfl (by first | rfl | assumption) ?_
          refine sw_get dX7_labelOf_60 fr_X7_81 (gd_n hp hf) rfl ?_
          refine sw_iload_n dX7_labelOf_63 rfl ?_
          refine sw_iconst (x := 1) dX7_labelOf_64 (by decide) ?_
          refine sw_iadd dX7_labelOf_65 ?_
          refine sw_top (y := nI (j + 1)) (nI_1 j) ?_
          refine sw_Vv dX7_labelOf_66 k_X7_70 mf_X7_labelOf (c_X7_labelOf hs4 hN hJ hb hV hm a (j + 1) pa (d - 1) (by omega) wf.2.1 dk.2.1 na) rfl ⟨_, rfl, rfl⟩ (by omega) (by omega) (by omega) rfl rfl (Nat.le_of_ble_eq_true rfl) ?_
          refine sw_aload_n dX7_labelOf_69 rfl (by first | rfl | assumption) ?_
          refine sw_aload_n dX7_labelOf_70 rfl (by first | rfl | assumption) ?_
          refine sw_get dX7_labelOf_71 fr_X7_84 (gd_n hp hf) rfl ?_
          refine sw_iload_n dX7_labelOf_74 rfl ?_
          refine sw_iconst (x := 1) dX7_labelOf_75 (by decide) ?_
          refine sw_iadd dX7_labelOf_76 ?_
          refine sw_top (y := nI (j + 1)) (nI_1 j) ?_
          refine sw_Vv dX7_labelOf_77 k_X7_70 mf_X7_labelOf (c_X7_labelOf hs4 hN hJ hb hV hm b (j + 1) pb (d - 1) (by omega) wf.2.2 dk.2.2 nb) rfl ⟨_, rfl, rfl⟩ (by omega) (by omega) (by omega) rfl rfl (Nat.le_of_ble_eq_true rfl) ?_
          refine sw_Vv dX7_labelOf_80 k_X7_74 mf_X3_joined (c_X3_joined (d := d - 1) (by omega) hs4 hN _ _) rfl ⟨_, rfl, rfl⟩ (by omega) (by omega) (by omega) rfl rfl (Nat.le_of_ble_eq_true rfl) ?_
          exact sw_iret dX7_labelOf_83 rfl (by first | rfl | exact bz_n _) (by omega) (by omega) ⟨by rw [jT_J hs4 hN la lb]; rfl, rfl, rfl⟩
      · exact absurd h23 (by decide)
    · exact absurd (by rw [nl_6]; exact (nI_leI (by omega) (by omega)).mpr (show j ≤ 6 by omega)) h7
set_option maxRecDepth 100000 in
theorem l_X7_rb {l : Launch} {D : va_G} {cy : Nat → ClassId} {d n : Nat} {f : sw_F} {s : Nat → Int32} {A : Nat → Nat → Int32} {B : Nat → Nat → Int64} {o : Int64} {pr : Value} (hd : 2 ≤ d) {N : Nat} (hs4 : s 4 = nI N) (hN : N ≤ 6) (hJ : SL N (jT (A 2))) {p : Nat} (hp : g8 p) (hp9 : ¬ p = 9) (hV : ∀ v, v < 8 → lv N (A 9 v)) (hW : ∀ v, v < 8 → lv N (A p v)) {QX : sw_QX} : ∀ (k i : Nat), i ≤ 8 → 8 < i + k → SW l D cy mX7_raiseBy d 0 0 0 0 2 [(0, .ref 8), (1, .ref p), (2, .int (nI i))] [] n (gd f s (va_up A 9 (fillF (fun v => jT (A 2) (A 9 v) (A p v)) (A 9) (i))) B o pr) (sw_D none n (gd f s (va_up A 9 (fillF (fun v => jT (A 2) (A 9 v) (A p v)) (A 9) (8))) B o pr)) QX := by
  intro k
  induction k with
  | zero => intro i0 h1 h2; exact absurd h2 (by omega)
  | succ k ih =>
    intro i he hk
    refine sw_iload_n dX7_raiseBy_2 rfl ?_
    refine sw_bipush (x := 8) dX7_raiseBy_3 (by decide) ?_
    refine sw_top nl_8 ?_
    refine sw_icmp_ge 36 dX7_raiseBy_5 (by decide) (fun h5 => ?_) (fun h5 => ?_)
    · exact sw_vret dX7_raiseBy_36 rfl (by omega) (by omega) ⟨rfl, rfl, by rw [show i = 8 by have := (nI_leI (by omega) (by omega)).mp h5; omega]⟩
    · have e1 : i < 8 := (nI_ltI (by omega) (by omega)).mp (i32_nle.mp h5)
      refine sw_aload_n dX7_raiseBy_8 rfl (by first | rfl | assumption) ?_
      refine sw_get dX7_raiseBy_9 fr_X7_9 rfl rfl ?_
      refine sw_iload_n dX7_raiseBy_12 rfl ?_
      refine sw_aload_n dX7_raiseBy_13 rfl (by first | rfl | assumption) ?_
      refine sw_get dX7_raiseBy_14 fr_X7_23 rfl rfl ?_
      refine sw_aload_n dX7_raiseBy_17 rfl (by first | rfl | assumption) ?_
      refine sw_get dX7_raiseBy_18 fr_X7_9 rfl rfl ?_
      refine sw_iload_n dX7_raiseBy_21 rfl ?_
      refine sw_ialdN (i) dX7_raiseBy_22 rfl rfl (show i < 8 by omega) (by decide) ?_
      refine sw_aload_n dX7_raiseBy_23 rfl (by first | rfl | assumption) ?_
      refine sw_iload_n dX7_raiseBy_24 rfl ?_
      refine sw_ialdN (i) dX7_raiseBy_25 (g8_at hp) rfl (show i < 8 by omega) (by decide) ?_
      refine sw_Vv dX7_raiseBy_26 k_X7_74 mf_X3_joined (c_X3_joined (d := d - 1) (A := (va_up A 9 (fillF (fun v => jT (A 2) (A 9 v) (A p v)) (A 9) (i)))) (by omega) hs4 hN _ _) rfl ⟨_, rfl, rfl⟩ (by omega) (by omega) (by omega) rfl rfl (Nat.le_of_ble_eq_true rfl) ?_
      refine sw_top (y := jT (A 2) (A 9 i) (A p i)) (by rw [show ∀ x y, ljn s (va_up A 9 (fillF (fun v => jT (A 2) (A 9 v) (A p v)) (A 9) (i))) x y = ljn s A x y from fun x y => rfl, vu_at, vu_ne _ hp9, fill_ge (Nat.le_refl i)]; exact jT_J hs4 hN (hV i e1) (hW i e1)) ?_
      refine g_iast (i) dX7_raiseBy_29 ⟨by decide, rfl, rfl⟩ rfl (show i < 8 by omega) rfl ?_
      first | refine sw_inc1 [(0, _), (1, _), (2, _)] dX7_raiseBy_30 rfl (by decide) rfl ?_ | refine sw_iinc [(0, _), (1, _), (2, _)] dX7_raiseBy_30 rfl (by decide) rfl ?_
      refine sw_goto 2 dX7_raiseBy_33 (by decide) ?_
      refine g_eq rfl (by rw [vu_up, vu_at, fill_1 rfl]) rfl (ih (i + 1) (by omega) (by omega))
set_option maxRecDepth 100000 in
theorem c_X7_raiseBy {l : Launch} {D : va_G} {cy : Nat → ClassId} {d n : Nat} {f : sw_F} {s : Nat → Int32} {A : Nat → Nat → Int32} {B : Nat → Nat → Int64} {o : Int64} {pr : Value} (hd : 2 ≤ d) {N : Nat} (hs4 : s 4 = nI N) (hN : N ≤ 6) (hJ : SL N (jT (A 2))) {p : Nat} (hp : g8 p) (hp9 : ¬ p = 9) (hV : ∀ v, v < 8 → lv N (A 9 v)) (hW : ∀ v, v < 8 → lv N (A p v)) : sw_Ct l D cy mX7_raiseBy d 0 0 [.ref 8, .ref p] n (gd f s A B o pr) (sw_D none n (gd f s (va_up A 9 (fillF (fun v => jT (A 2) (A 9 v) (A p v)) (A 9) (8))) B o pr)) := by
  refine sw_of rfl (Nat.le_of_ble_eq_true rfl) ?_
  show SW l D cy mX7_raiseBy d 0 0 0 0 0 [(0, .ref 8), (1, .ref p)] [] n (gd f s A B o pr) _ _
  refine sw_iconst (x := 0) dX7_raiseBy_0 (by decide) ?_
  refine sw_istore_n [(0, _), (1, _), (2, _)] dX7_raiseBy_1 (by decide) rfl ?_
  refine g_eq (A' := (va_up A 9 (fillF (fun v => jT (A 2) (A 9 v) (A p v)) (A 9) (0)))) rfl (by rw [fill_0, vu_id]) rfl ?_
  exact l_X7_rb hd hs4 hN hJ hp hp9 hV hW 9 0 (by omega) (by omega)
set_option maxRecDepth 100000 in
theorem l_X7_al {l : Launch} {D : va_G} {cy : Nat → ClassId} {d n : Nat} {f : sw_F} {s : Nat → Int32} {A : Nat → Nat → Int32} {B : Nat → Nat → Int64} {o : Int64} {pr : Value} {p : Nat} (hp : g8 p) {QX : sw_QX} : ∀ (k i : Nat), i ≤ 8 → 8 < i + k → SW l D cy mX7_areLabels d 0 0 0 0 2 [(0, .ref 8), (1, .ref p), (2, .int (nI i))] [] n (gd f s A B o pr) (sw_D (some (.int (bz (allF (fun v => decide (A 9 v = A p v)) i (8 - i))))) n (gd f s A B o pr)) QX := by
  intro k
  induction k with
  | zero => intro i0 h1 h2; exact absurd h2 (by omega)
  | succ k ih =>
    intro i he hk
    refine sw_iload_n dX7_areLabels_2 rfl ?_
    refine sw_bipush (x := 8) dX7_areLabels_3 (by decide) ?_
    refine sw_top nl_8 ?_
    refine sw_icmp_ge 28 dX7_areLabels_5 (by decide) (fun h5 => ?_) (fun h5 => ?_)
    · refine sw_iconst (x := 1) dX7_areLabels_28 (by decide) ?_
      exact sw_iret dX7_areLabels_29 rfl (by first | rfl | exact bz_n _) (by omega) (by omega) ⟨by rw [allF_end ((nI_leI (by omega) (by omega)).mp h5)]; rfl, rfl, rfl⟩
    · have e1 : i < 8 := (nI_ltI (by omega) (by omega)).mp (i32_nle.mp h5)
      refine sw_aload_n dX7_areLabels_8 rfl (by first | rfl | assumption) ?_
      refine sw_get dX7_areLabels_9 fr_X7_9 rfl rfl ?_
      refine sw_iload_n dX7_areLabels_12 rfl ?_
      refine sw_ialdN (i) dX7_areLabels_13 rfl rfl (show i < 8 by omega) (by decide) ?_
      refine sw_aload_n dX7_areLabels_14 rfl (by first | rfl | assumption) ?_
      refine sw_iload_n dX7_areLabels_15 rfl ?_
      refine sw_ialdN (i) dX7_areLabels_16 (g8_at hp) rfl (show i < 8 by omega) (by decide) ?_
      refine sw_icmp_eq 22 dX7_areLabels_17 (by decide) (fun h17 => ?_) (fun h17 => ?_)
      · first | refine sw_inc1 [(0, _), (1, _), (2, _)] dX7_areLabels_22 rfl (by decide) rfl ?_ | refine sw_iinc [(0, _), (1, _), (2, _)] dX7_areLabels_22 rfl (by decide) rfl ?_
        refine sw_goto 2 dX7_areLabels_25 (by decide) ?_
        rw [allF_step e1, show decide (A 9 i = A p i) = true from decide_eq_true h17, Bool.true_and]
        exact ih (i + 1) (by omega) (by omega)
      · refine sw_iconst (x := 0) dX7_areLabels_20 (by decide) ?_
        exact sw_iret dX7_areLabels_21 rfl (by first | rfl | exact bz_n _) (by omega) (by omega) ⟨by rw [allF_step e1, show decide (A 9 i = A p i) = false from decide_eq_false h17, Bool.false_and]; rfl, rfl, rfl⟩
set_option maxRecDepth 100000 in
theorem c_X7_areLabels {l : Launch} {D : va_G} {cy : Nat → ClassId} {d n : Nat} {f : sw_F} {s : Nat → Int32} {A : Nat → Nat → Int32} {B : Nat → Nat → Int64} {o : Int64} {pr : Value} {p : Nat} (hp : g8 p) : sw_Ct l D cy mX7_areLabels d 0 0 [.ref 8, .ref p] n (gd f s A B o pr) (sw_D (some (.int (bz (allF (fun v => decide (A 9 v = A p v)) 0 8)))) n (gd f s A B o pr)) := by
  refine sw_of rfl (Nat.le_of_ble_eq_true rfl) ?_
  show SW l D cy mX7_areLabels d 0 0 0 0 0 [(0, .ref 8), (1, .ref p)] [] n (gd f s A B o pr) _ _
  refine sw_iconst (x := 0) dX7_areLabels_0 (by decide) ?_
  refine sw_istore_n [(0, _), (1, _), (2, _)] dX7_areLabels_1 (by decide) rfl ?_
  exact l_X7_al hp 9 0 (by omega) (by omega)
set_option maxRecDepth 100000 in
theorem l_X7_kt {l : Launch} {D : va_G} {cy : Nat → ClassId} {d n : Nat} {f : sw_F} {s : Nat → Int32} {A : Nat → Nat → Int32} {B : Nat → Nat → Int64} {o : Int64} {pr : Value} (hd : 2 ≤ d) {QX : sw_QX} : ∀ (k i : Nat), i ≤ 8 → 8 < i + k → SW l D cy mX7_keepTo d 0 0 0 0 2 [(0, .ref 8), (1, .ref 4), (2, .int (nI i))] [] n (gd f s A B o pr) (sw_D (some (.int (bz (allF (kev s o (A 9) (A 4)) i (8 - i))))) n (gd f s A B o pr)) QX := by
  intro k
  induction k with
  | zero => intro i0 h1 h2; exact absurd h2 (by omega)
  | succ k ih =>
    intro i he hk
    refine sw_iload_n dX7_keepTo_2 rfl ?_
    refine sw_bipush (x := 8) dX7_keepTo_3 (by decide) ?_
    refine sw_top nl_8 ?_
    refine sw_icmp_ge 35 dX7_keepTo_5 (by decide) (fun h5 => ?_) (fun h5 => ?_)
    · refine sw_iconst (x := 1) dX7_keepTo_35 (by decide) ?_
      exact sw_iret dX7_keepTo_36 rfl (by first | rfl | exact bz_n _) (by omega) (by omega) ⟨by rw [allF_end ((nI_leI (by omega) (by omega)).mp h5)]; rfl, rfl, rfl⟩
    · have e1 : i < 8 := (nI_ltI (by omega) (by omega)).mp (i32_nle.mp h5)
      refine sw_aload_n dX7_keepTo_8 rfl (by first | rfl | assumption) ?_
      refine sw_get dX7_keepTo_9 fr_X7_23 rfl rfl ?_
      refine sw_aload_n dX7_keepTo_12 rfl (by first | rfl | assumption) ?_
      refine sw_get dX7_keepTo_13 fr_X7_9 rfl rfl ?_
      refine sw_iload_n dX7_keepTo_16 rfl ?_
      refine sw_ialdN (i) dX7_keepTo_17 rfl rfl (show i < 8 by omega) (by decide) ?_
      refine sw_aload_n dX7_keepTo_18 rfl (by first | rfl | assumption) ?_
      refine sw_iload_n dX7_keepTo_19 rfl ?_
      refine sw_ialdN (i) dX7_keepTo_20 rfl rfl (show i < 8 by omega) (by decide) ?_
      refine sw_Vv dX7_keepTo_21 k_X7_43 mf_X3_allows (c_X3_allows (d := d - 1) (by omega) (A 9 i) (A 4 i)) rfl ⟨_, rfl, rfl⟩ (by omega) (by omega) (by omega) rfl rfl (Nat.le_of_ble_eq_true rfl) ?_
      refine sw_if_ne 29 dX7_keepTo_24 (by decide) (fun h24 => ?_) (fun h24 => ?_)
      · first | refine sw_inc1 [(0, _), (1, _), (2, _)] dX7_keepTo_29 rfl (by decide) rfl ?_ | refine sw_iinc [(0, _), (1, _), (2, _)] dX7_keepTo_29 rfl (by decide) rfl ?_
        refine sw_goto 2 dX7_keepTo_32 (by decide) ?_
        rw [allF_step e1, show (kev s o (A 9) (A 4)) i = true from bz_ne.mp h24, Bool.true_and]
        exact ih (i + 1) (by omega) (by omega)
      · refine sw_iconst (x := 0) dX7_keepTo_27 (by decide) ?_
        exact sw_iret dX7_keepTo_28 rfl (by first | rfl | exact bz_n _) (by omega) (by omega) ⟨by rw [allF_step e1, show (kev s o (A 9) (A 4)) i = false from bz_0.mp h24, Bool.false_and]; rfl, rfl, rfl⟩
set_option maxRecDepth 100000 in
theorem c_X7_keepTo {l : Launch} {D : va_G} {cy : Nat → ClassId} {d n : Nat} {f : sw_F} {s : Nat → Int32} {A : Nat → Nat → Int32} {B : Nat → Nat → Int64} {o : Int64} {pr : Value} (hd : 2 ≤ d) : sw_Ct l D cy mX7_keepTo d 0 0 [.ref 8, .ref 4] n (gd f s A B o pr) (sw_D (some (.int (bz (allF (kev s o (A 9) (A 4)) 0 8)))) n (gd f s A B o pr)) := by
  refine sw_of rfl (Nat.le_of_ble_eq_true rfl) ?_
  show SW l D cy mX7_keepTo d 0 0 0 0 0 [(0, .ref 8), (1, .ref 4)] [] n (gd f s A B o pr) _ _
  refine sw_iconst (x := 0) dX7_keepTo_0 (by decide) ?_
  refine sw_istore_n [(0, _), (1, _), (2, _)] dX7_keepTo_1 (by decide) rfl ?_
  exact l_X7_kt hd 9 0 (by omega) (by omega)
def exf (A : Nat → Nat → Int32) (a : Int32) : Int32 := if isV a = true then A 9 a.toNatClampNeg else -1
theorem isV_i {a : Int32} (h : isV a = true) : ∃ v, v < 8 ∧ a = nI v := by
  have h := of_decide_eq_true h
  obtain ⟨k, hk, rfl⟩ := nI_of2 (M := 8) (n := 8) (by decide) (Int32.not_lt.mpr h.1) (Int32.le_of_lt h.2)
  exact ⟨k, by have := h.2; rw [nl_8, nI_ltI (by omega) (by omega)] at this; exact this, rfl⟩
set_option maxRecDepth 100000 in
theorem c_X7_exitOf {l : Launch} {D : va_G} {cy : Nat → ClassId} {d n : Nat} {f : sw_F} {s : Nat → Int32} {A : Nat → Nat → Int32} {B : Nat → Nat → Int64} {o : Int64} {pr : Value} (hd : 1 ≤ d) (a : Int32) : sw_Ct l D cy mX7_exitOf d 0 0 [.ref 8, .int a] n (gd f s A B o pr) (sw_D (some (.int (exf A a))) n (gd f s A B o pr)) := by
  refine sw_of rfl (Nat.le_of_ble_eq_true rfl) ?_
  show SW l D cy mX7_exitOf d 0 0 0 0 0 [(0, .ref 8), (1, .int a)] [] n (gd f s A B o pr) _ _
  refine sw_iload_n dX7_exitOf_0 rfl ?_
  refine sw_SNv dX7_exitOf_1 k_X7_47 mf_X11_isVariable (c_X11_isVariable (d := d - 1) a) (by omega) (by omega) (by omega) rfl rfl (Nat.le_of_ble_eq_true rfl) ?_
  refine sw_if_eq 16 dX7_exitOf_4 (by decide) (fun h4 => ?_) (fun h4 => ?_)
  · refine sw_iconst (x := (-1)) dX7_exitOf_16 (by decide) ?_
    exact sw_iret dX7_exitOf_17 rfl (by first | rfl | exact bz_n _) (by omega) (by omega) ⟨by rw [exf, if_neg (by rw [bz_0.mp h4]; decide)], rfl, rfl⟩
  · obtain ⟨v, hv, rfl⟩ := isV_i (bz_ne.mp h4)
    refine sw_aload_n dX7_exitOf_7 rfl (by first | rfl | assumption) ?_
    refine sw_get dX7_exitOf_8 fr_X7_9 rfl rfl ?_
    refine sw_iload_n dX7_exitOf_11 rfl ?_
    refine sw_ialdN (v) dX7_exitOf_12 rfl rfl (show v < 8 by omega) (by decide) ?_
    refine sw_goto 17 dX7_exitOf_13 (by decide) ?_
    exact sw_iret dX7_exitOf_17 rfl (by first | rfl | exact bz_n _) (by omega) (by omega) ⟨by rw [exf, if_pos (isV_n hv), nI_clamp (by omega)], rfl, rfl⟩
