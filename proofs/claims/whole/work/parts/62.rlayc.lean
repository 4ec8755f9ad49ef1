/-! ===== THE REFERENCE: lay, its contract ===== -/
set_option maxRecDepth 100000 in
theorem c_X12_lay {l : Launch} {D : va_G} {cy : Nat → ClassId} {d n : Nat} {f : sw_F} {s : Nat → Int32} {A : Nat → Nat → Int32} {t : RT} (hd : 2 ≤ d) (hP : s 15 = nI (1 + szR t)) (hs : 1 + szR t ≤ 99) (wf : wfR t) (hk : A 159 0 = 6) (hf : A 162 0 = lnk t 1) (hr : rpR A t 1) (hz : A 167 0 = nI (lnR t)) (hm : mzR A t 1) : sw_Ct l D cy mX12_lay d 0 0 [.ref 150] n (md f s A) (fun r n' f' => r = none ∧ n' = n ∧ ∃ A', (∀ q, ¬ (q = 168 ∨ q = 173 ∨ q = 174) → A' q = A q) ∧ cdR (A' 173) (A' 174) t 0 ∧ (A' 173 (lnR t) = 9 ∧ A' 174 (lnR t) = 0) ∧ f' = md f (va_up s 32 (nI (lnR t + 1))) A') := by
  have hl := lnR_le t
  refine sw_of rfl (Nat.le_of_ble_eq_true rfl) ?_
  show SW l D cy mX12_lay d 0 0 0 0 0 [(0, .ref 150)] [] n (md f s A) _ _
  have f0 : ∀ q, ¬ q = 168 → u2 A 168 0 0 q = A q := fun q hq => u2_q _ _ hq
  have g2 : ∀ q, ¬ (q = 168 ∨ q = 173 ∨ q = 174) → (sy (u2 A 168 0 0) (lnR t) 9 0) q = A q := fun q hq => by rw [sy_q (by omega), u2_q _ _ (by omega)]
  have g3 : (sy (u2 A 168 0 0) (lnR t) 9 0) 168 0 = nI 0 := by rw [sy_q (by decide), u2_at, if_pos ⟨rfl, rfl⟩]; rfl
  have g5 : (sy (u2 A 168 0 0) (lnR t) 9 0) 173 (lnR t) = 9 ∧ (sy (u2 A 168 0 0) (lnR t) 9 0) 174 (lnR t) = 0 := sy_k
  have hP1 : va_up s 32 (nI (lnR t + 1)) 15 = nI (1 + szR t) := hP
  refine sw_aload_n dX12_lay_0 rfl (by first | rfl | assumption) ?_
  refine sw_get dX12_lay_1 fr_X12_70 rfl rfl ?_
  refine sw_iconst (x := 0) dX12_lay_4 (by decide) ?_
  refine sw_iconst (x := 0) dX12_lay_5 (by decide) ?_
  refine m_iast (0) dX12_lay_6 ⟨by decide, by decide, rfl⟩ rfl (show 0 < 160 by omega) rfl ?_
  change SW l D cy mX12_lay d 0 0 0 0 7 _ _ n (md f s (u2 A 168 0 0)) _ _
  refine sw_aload_n dX12_lay_7 rfl (by first | rfl | assumption) ?_
  refine sw_aload_n dX12_lay_8 rfl (by first | rfl | assumption) ?_
  refine sw_get dX12_lay_9 fr_X12_67 rfl rfl ?_
  refine sw_iconst (x := 0) dX12_lay_12 (by decide) ?_
  refine sw_ialdN (0) dX12_lay_13 rfl rfl (show 0 < 160 by omega) (by decide) ?_
  refine sw_top (y := nI (lnR t)) (by rw [f0 _ (by decide)]; exact hz) ?_
  refine sw_iconst (x := 1) dX12_lay_14 (by decide) ?_
  refine sw_iadd dX12_lay_15 ?_
  refine sw_top (y := nI (lnR t + 1)) (nI_1 _) ?_
  refine m_put dX12_lay_16 fl_X12_200 (by decide) (sw_fit_i _) rfl ?_
  refine sw_aload_n dX12_lay_19 rfl (by first | rfl | assumption) ?_
  refine sw_aload_n dX12_lay_20 rfl (by first | rfl | assumption) ?_
  refine sw_get dX12_lay_21 fr_X12_67 rfl rfl ?_
  refine sw_iconst (x := 0) dX12_lay_24 (by decide) ?_
  refine sw_ialdN (0) dX12_lay_25 rfl rfl (show 0 < 160 by omega) (by decide) ?_
  refine sw_top (y := nI (lnR t)) (by rw [f0 _ (by decide)]; exact hz) ?_
  refine sw_bipush (x := 9) dX12_lay_26 (by decide) ?_
  refine sw_iconst (x := 0) dX12_lay_28 (by decide) ?_
  refine sw_Vn dX12_lay_29 k_X12_203 mf_X12_say (c_X12_say (d := d - 1) (k := lnR t) (by omega) _ _) rfl ⟨_, rfl, rfl⟩ (by omega) (by omega) (by omega) rfl rfl (Nat.le_of_ble_eq_true rfl) ?_
  change SW l D cy mX12_lay d 0 0 0 0 32 _ _ n (md f (va_up s 32 (nI (lnR t + 1))) (sy (u2 A 168 0 0) (lnR t) 9 0)) _ _
  generalize (sy (u2 A 168 0 0) (lnR t) 9 0) = B at *
  refine sw_iconst (x := 0) dX12_lay_32 (by decide) ?_
  refine sw_istore_n [(0, _), (1, _)] dX12_lay_33 (by decide) rfl ?_
  refine l_yB (b := 0) (w := 0) (r := t) hP1 (by omega) (by rw [g2 _ (by decide)]; exact hk) (by rw [g2 _ (by decide)]; exact hf) (rpR_f (fun q h1 h2 => g2 q (by omega)) t _ hr) (mzR_cg t _ (fun i _ _ => by rw [g2 _ (by decide)]) hm) (by rw [g2 _ (by decide)]; exact hz) g3 (by omega) (fun A2 h1 h2 h3 => ?_)
  have F2 : ∀ q, ¬ (q = 168 ∨ q = 173 ∨ q = 174) → A2 q = A q := fun q hq => by rw [h1 q (by omega), g2 q hq]
  refine l_yR hP1 (by omega) (by omega) t 1 0 A2 (rpR_f (fun q h1 h2 => F2 q (by omega)) t _ hr) wf (mzR_cg t _ (fun i _ _ => by rw [F2 _ (by decide)]) hm) h3 (by omega) (by omega) (fun A3 F3 c3 => ?_)
  refine sw_iload_n dX12_lay_34 rfl ?_
  refine sw_aload_n dX12_lay_35 rfl (by first | rfl | assumption) ?_
  refine sw_get dX12_lay_36 fr_X12_171 rfl rfl ?_
  refine sw_top (y := nI (1 + szR t)) hP1 ?_
  refine sw_icmp_ge 380 dX12_lay_39 (by decide) (fun h39 => ?_) (fun h39 => ?_)
  · exact sw_vret dX12_lay_380 rfl (by omega) (by omega) ⟨rfl, rfl, A3, fun q hq => by rw [F3.1 q hq, F2 q hq], c3, cd_y F3 (by omega) (by rw [h1 173 (by decide), h1 174 (by decide)]; exact g5), rfl⟩
  · exact absurd (show nI (1 + szR t) ≤ nI (1 + szR t) by rw [nI_leI (by omega) (by omega)]; omega) h39
/-! ===== chains of statements ===== -/
theorem rpE_kd {A : Nat → Nat → Int32} : ∀ (e : ET) (k : Nat), rpE A e k → wfE e → ∀ i, k ≤ i → i < k + szE e → (A 159 i = 0 ∨ A 159 i = 1 ∨ A 159 i = 2) ∧ (A 159 i = 1 → ∃ v, v < 8 ∧ A 160 i = nI v)
  | .leaf (w, v), k, r, wf, i, h1, h2 => by
    rw [szE] at h2
    obtain rfl : i = k := by omega
    obtain ⟨r1, r2, r3⟩ := r
    rcases wf with ⟨wf, _⟩ | ⟨wf, w8⟩
    · have wf : w = 0 := wf
      subst wf
      exact ⟨Or.inl r1, fun h => absurd (show nI 0 = 1 from r1.symm.trans h) (by decide)⟩
    · have wf : w = 1 := wf
      subst wf
      exact ⟨Or.inr (Or.inl r1), fun h => ⟨v, w8, r2⟩⟩
  | .branch z a b, k, r, wf, i, h1, h2 => by
    rw [szE] at h2
    obtain ⟨r1, r2, r3, r4, r5, r6, r7⟩ := r
    by_cases c : i = k
    · subst c
      exact ⟨Or.inr (Or.inr r1), fun h => absurd (r1.symm.trans h) (by decide)⟩
    · by_cases c2 : i < k + 1 + szE a
      · exact rpE_kd a _ r6 wf.2.1 i (by omega) c2
      · exact rpE_kd b _ r7 wf.2.2 i (by omega) (by omega)
/-- the expression of a statement -/
def exS : RT → ET
  | .leaf e => e
  | .branch _ (.leaf e) _ => e
  | .branch _ (.branch _ (.leaf e) _) _ => e
  | .branch _ (.branch _ (.branch _ (.leaf e) _) _) _ => e
  | .branch _ (.branch _ (.branch _ (.branch _ _ _) _) _) _ => .leaf (0, 0)
def chL : RT → Nat → List (Nat × Nat × Nat)
  | .leaf _, _ => []
  | .branch v x R, k => (k, k + 1, k + 1 + szE (exS (.branch v x R))) :: chL R (k + szS (.branch v x R))
theorem hd_SE {A : Nat → Nat → Int32} {w : Int32} {e : ET} {k P : Nat} {nx : Int32} (h : hdE A w e k nx) (wf : wfE e) (hP : k + 1 + szE e ≤ P) : SE A P k (k + 1) (k + 1 + szE e) := by
  have sp := szE_pos e
  exact ⟨by omega, h.2.1, by omega, by omega, hP, h.2.2.2.1, fun i h1 h2 h3 => (rpE_kd e _ h.2.2.2.2 wf i h1 h2).2 h3⟩
theorem Ch_of {A : Nat → Nat → Int32} {P : Nat} (hP : P ≤ 160) : ∀ (t : RT) (k : Nat), rpR A t k → wfR t → k + szR t ≤ P → Ch A P (lnk t k) (chL t k)
  | .leaf _, k, r, wf, hk => nlt_m1
  | .branch v (.leaf e) R, k, r, wf, hk => by
    rw [szR] at hk
    obtain ⟨⟨r1, r2⟩, r3, r4⟩ := r
    have hE : SE A P k (k + 1) (k + 1 + szE e) := hd_SE r1 wf.2.1 (by omega)
    refine ⟨rfl, ⟨hE, fun _ => ⟨v, wf.1, r2⟩, fun h => absurd r1.1 h⟩, ?_⟩
    rw [szS, show k + (1 + szE e) = k + 1 + szE e by omega]
    show Ch A P (A 164 k) _
    rw [r3]
    exact Ch_of hP R _ r4 wf.2.2 (by omega)
  | .branch _ (.branch _ (.leaf e) x) R, k, r, wf, hk => by
    rw [szR] at hk
    obtain ⟨⟨r1, r2, r5⟩, r3, r4⟩ := r
    have hE : SE A P k (k + 1) (k + 1 + szE e) := hd_SE r1 wf.1 (by omega)
    refine ⟨rfl, ⟨hE, fun h => absurd (r1.1.symm.trans h) (by decide), fun _ => ⟨k + 1 + szE e, by omega, r1.2.2.1, fun h => absurd r1.1 h⟩⟩, ?_⟩
    rw [szS, show k + (1 + szE e + 1 + szR x) = k + 1 + szE e + 1 + szR x by omega]
    show Ch A P (A 164 k) _
    rw [r3]
    exact Ch_of hP R _ r4 wf.2.2 (by omega)
  | .branch _ (.branch _ (.branch _ (.leaf e) x) y) R, k, r, wf, hk => by
    rw [szR] at hk
    obtain ⟨⟨r1, r2, r5, r6, r7⟩, r3, r4⟩ := r
    have hE : SE A P k (k + 1) (k + 1 + szE e) := hd_SE r1 wf.1 (by omega)
    refine ⟨rfl, ⟨hE, fun h => absurd (r1.1.symm.trans h) (by decide), fun _ => ⟨k + 1 + szE e, by omega, r1.2.2.1, fun _ => ⟨k + 1 + szE e + 1 + szR x, by omega, r2.2.2⟩⟩⟩, ?_⟩
    rw [szS, show k + (1 + szE e + 1 + szR x + 1 + szR y) = k + 1 + szE e + 1 + szR x + 1 + szR y by omega]
    show Ch A P (A 164 k) _
    rw [r3]
    exact Ch_of hP R _ r4 wf.2.2.2 (by omega)
  | .branch _ (.branch _ (.branch _ (.branch _ _ _) _) _) _, k, r, wf, hk => r.elim
/-- every row in a tree -/
abbrev RW (A : Nat → Nat → Int32) (P j : Nat) : Prop := ∃ r, A 162 j = lnk r (j + 1) ∧ rpR A r (j + 1) ∧ wfR r ∧ j + 1 + szR r ≤ P
theorem RW_of {A : Nat → Nat → Int32} {P : Nat} : ∀ (t : RT) (k : Nat), rpR A t k → wfR t → k + szR t ≤ P → ∀ j, k ≤ j → j < k + szR t → A 159 j = 6 → RW A P j
  | .leaf _, k, r, wf, hk, j, h1, h2, h3 => by rw [szR] at h2; omega
  | .branch v (.leaf e) R, k, r, wf, hk, j, h1, h2, h3 => by
    rw [szR] at hk h2
    obtain ⟨⟨r1, r2⟩, r3, r4⟩ := r
    by_cases c : j = k
    · subst c; exact absurd (r1.1.symm.trans h3) (by decide)
    · by_cases c2 : j < k + 1 + szE e
      · have := (rpE_kd e _ r1.2.2.2.2 wf.2.1 j (by omega) c2).1
        rw [h3] at this
        exact absurd this (by decide)
      · exact RW_of R _ r4 wf.2.2 (by omega) j (by omega) (by omega) h3
  | .branch _ (.branch _ (.leaf e) x) R, k, r, wf, hk, j, h1, h2, h3 => by
    rw [szR] at hk h2
    obtain ⟨⟨r1, r2, r5⟩, r3, r4⟩ := r
    by_cases c : j = k
    · subst c; exact absurd (r1.1.symm.trans h3) (by decide)
    · by_cases c2 : j < k + 1 + szE e
      · have := (rpE_kd e _ r1.2.2.2.2 wf.1 j (by omega) c2).1
        rw [h3] at this
        exact absurd this (by decide)
      · by_cases c3 : j = k + 1 + szE e
        · subst c3; exact ⟨x, r2.2.1, r5, wf.2.1, by omega⟩
        · by_cases c4 : j < k + 1 + szE e + 1 + szR x
          · exact RW_of x _ r5 wf.2.1 (by omega) j (by omega) c4 h3
          · exact RW_of R _ r4 wf.2.2 (by omega) j (by omega) (by omega) h3
  | .branch _ (.branch _ (.branch _ (.leaf e) x) y) R, k, r, wf, hk, j, h1, h2, h3 => by
    rw [szR] at hk h2
    obtain ⟨⟨r1, r2, r5, r6, r7⟩, r3, r4⟩ := r
    by_cases c : j = k
    · subst c; exact absurd (r1.1.symm.trans h3) (by decide)
    · by_cases c2 : j < k + 1 + szE e
      · have := (rpE_kd e _ r1.2.2.2.2 wf.1 j (by omega) c2).1
        rw [h3] at this
        exact absurd this (by decide)
      · by_cases c3 : j = k + 1 + szE e
        · subst c3; exact ⟨x, r2.2.1, r5, wf.2.1, by omega⟩
        · by_cases c4 : j < k + 1 + szE e + 1 + szR x
          · exact RW_of x _ r5 wf.2.1 (by omega) j (by omega) c4 h3
          · by_cases c5 : j = k + 1 + szE e + 1 + szR x
            · subst c5; exact ⟨y, r6.2.1, r7, wf.2.2.1, by omega⟩
            · by_cases c6 : j < k + 1 + szE e + 1 + szR x + 1 + szR y
              · exact RW_of y _ r7 wf.2.2.1 (by omega) j (by omega) c6 h3
              · exact RW_of R _ r4 wf.2.2.2 (by omega) j (by omega) (by omega) h3
  | .branch _ (.branch _ (.branch _ (.branch _ _ _) _) _) _, k, r, wf, hk, j, h1, h2, h3 => r.elim
theorem RW_all {A : Nat → Nat → Int32} {t : RT} (hf : A 162 0 = lnk t 1) (hr : rpR A t 1) (wf : wfR t) : ∀ j, j < 1 + szR t → A 159 j = 6 → RW A (1 + szR t) j := by
  intro j hj hk
  by_cases c : j = 0
  · subst c; exact ⟨t, hf, hr, wf, by omega⟩
  · exact RW_of t 1 hr wf (Nat.le_refl _) j (by omega) hj hk
/-- the list of a row's statements -/
noncomputable def chA (A : Nat → Nat → Int32) (P j : Nat) : List (Nat × Nat × Nat) := by
  classical
  exact if h : RW A P j then chL h.choose (j + 1) else []
theorem Ch_rw {A : Nat → Nat → Int32} {P j : Nat} (hP : P ≤ 160) (r : RT) (h1 : A 162 j = lnk r (j + 1)) (h2 : rpR A r (j + 1)) (h3 : wfR r) (h4 : j + 1 + szR r ≤ P) : Ch A P (A 162 j) (chL r (j + 1)) := by
  rw [h1]
  exact Ch_of hP _ _ h2 h3 h4
theorem RS_of {A : Nat → Nat → Int32} {P : Nat} (hP : P ≤ 160) (h : ∀ j, j < P → A 159 j = 6 → RW A P j) : RS A P (chA A P) := by
  intro j hj hk
  have h1 := h j hj hk
  unfold chA
  rw [dif_pos h1]
  exact Ch_rw hP _ h1.choose_spec.1 h1.choose_spec.2.1 h1.choose_spec.2.2.1 h1.choose_spec.2.2.2
theorem Ch_un {A : Nat → Nat → Int32} {P : Nat} (hP : P ≤ 160) : ∀ (a b : List (Nat × Nat × Nat)) (x : Int32), Ch A P x a → Ch A P x b → a = b
  | [], [], x, h1, h2 => rfl
  | [], q :: r, x, h1, h2 => by
    have := h2.2.1.1.1
    rw [h2.1] at h1
    exact absurd h1 (i32_nlt0 (by omega))
  | q :: r, [], x, h1, h2 => by
    have := h1.2.1.1.1
    rw [h1.1] at h2
    exact absurd h2 (i32_nlt0 (by omega))
  | (m, e, E) :: r, (m', e', E') :: r', x, h1, h2 => by
    have b1 := h1.2.1.1
    have b2 := h2.2.1.1
    obtain ⟨b11, b12, b13, b14, b15, b16, b17⟩ := b1
    obtain ⟨b21, b22, b23, b24, b25, b26, b27⟩ := b2
    have b11 : m < P := b11
    have b13 : e < P := b13
    have b15 : E ≤ P := b15
    have b21 : m' < P := b21
    have b23 : e' < P := b23
    have b25 : E' ≤ P := b25
    have e1 : m = m' := nI_inj (by omega) (by omega) (h1.1.symm.trans h2.1)
    subst e1
    have e2 : e = e' := nI_inj (by omega) (by omega) (b12.symm.trans b22)
    subst e2
    have e3 : E = E' := nI_inj (by omega) (by omega) (b16.symm.trans b26)
    subst e3
    rw [Ch_un hP r r' _ h1.2.2 h2.2.2]
theorem chA_eq {A : Nat → Nat → Int32} {P j : Nat} {r : RT} (hP : P ≤ 160) (h1 : A 162 j = lnk r (j + 1)) (h2 : rpR A r (j + 1)) (h3 : wfR r) (h4 : j + 1 + szR r ≤ P) : chA A P j = chL r (j + 1) := by
  have h : RW A P j := ⟨r, h1, h2, h3, h4⟩
  unfold chA
  rw [dif_pos h]
  exact Ch_un (A := A) hP _ _ (A 162 j) (Ch_rw hP _ h.choose_spec.1 h.choose_spec.2.1 h.choose_spec.2.2.1 h.choose_spec.2.2.2) (Ch_rw hP r h1 h2 h3 h4)
/-! ===== what is read is well formed ===== -/
theorem pN_v {TX : Nat → Int32} {T : Nat} (k p v : Nat) {M : Nat} (hv : v < M) : (pN TX T k p v).1 < M * 10 ^ k := by
  induction k generalizing p v M with
  | zero => rw [pN]; omega
  | succ k ih =>
    rw [pN]
    by_cases z : r_dg (hc TX T p) = true
    · rw [if_pos z]
      obtain ⟨j, j1, j2, hj⟩ := r_dg_i z
      have e1 : 10 * v + ((hc TX T p).toNatClampNeg - 48) < M * 10 := by rw [hj, nI_clamp (by omega)]; omega
      have := ih (p + 1) (10 * v + ((hc TX T p).toNatClampNeg - 48)) e1
      rw [Nat.pow_succ, Nat.mul_comm (10 ^ k) 10, ← Nat.mul_assoc]
      exact this
    · rw [if_neg z]
      show v < M * 10 ^ (k + 1)
      have : 1 ≤ 10 ^ (k + 1) := Nat.le_trans Nat.one_le_two_pow (Nat.pow_le_pow_left (by decide) _)
      exact Nat.lt_of_lt_of_le hv (Nat.le_mul_of_pos_right M this)
theorem pE_wf {TX : Nat → Int32} {T : Nat} : ∀ (F g p : Nat) (x : ET), (pE TX T F g p).1 = some x → wfE x
  | 0, g, p, x, h => by rw [pE] at h; exact absurd h (by simp)
  | F + 1, g, p, x, h => by
    rw [pE] at h
    by_cases c1 : r_dg (hc TX T p) = true
    · rw [if_pos c1] at h
      obtain rfl := Option.some.inj h
      exact Or.inl ⟨rfl, pN_v 3 p 0 (M := 1) (by decide)⟩
    · rw [if_neg c1] at h
      by_cases c2 : r_nm (hc TX T p) = true
      · rw [if_pos c2] at h
        obtain rfl := Option.some.inj h
        obtain ⟨j, j1, j2, hj⟩ := r_nm_i c2
        exact Or.inr ⟨rfl, by show (hc TX T p).toNatClampNeg - 97 < 8; rw [hj, nI_clamp (by omega)]; omega⟩
      · rw [if_neg c2] at h
        by_cases c3 : hc TX T p = 40 ∧ g < 6
        · rw [if_pos c3] at h
          have i1 := pE_wf (TX := TX) (T := T) F (g + 1) (p + 1)
          revert i1 h
          generalize pE TX T F (g + 1) (p + 1) = w1
          obtain ⟨w1, q1⟩ := w1
          intro h i1
          cases w1 with
          | none => exact absurd h (by simp)
          | some x1 =>
            have h : (if r_op (hc TX T q1) = 0 then (none, q1) else match pE TX T F (g + 1) (q1 + 1) with
              | (none, q2) => (none, q2)
              | (some b, q2) => if hc TX T q2 = 41 then (some (.branch (r_op (hc TX T q1)).toNatClampNeg x1 b), q2 + 1) else (none, q2) : Option ET × Nat).1 = some x := h
            by_cases c4 : r_op (hc TX T q1) = 0
            · rw [if_pos c4] at h; exact absurd h (by simp)
            · rw [if_neg c4] at h
              have i2 := pE_wf (TX := TX) (T := T) F (g + 1) (q1 + 1)
              revert i2 h
              generalize pE TX T F (g + 1) (q1 + 1) = w2
              obtain ⟨w2, q2⟩ := w2
              intro h i2
              cases w2 with
              | none => exact absurd h (by simp)
              | some x2 =>
                have h : (if hc TX T q2 = 41 then (some (.branch (r_op (hc TX T q1)).toNatClampNeg x1 x2), q2 + 1) else (none, q2) : Option ET × Nat).1 = some x := h
                by_cases c5 : hc TX T q2 = 41
                · rw [if_pos c5] at h
                  obtain rfl := Option.some.inj h
                  refine ⟨?_, i1 x1 rfl, i2 x2 rfl⟩
                  revert c4
                  generalize hc TX T q1 = c
                  unfold r_op
                  by_cases h1 : c = 43
                  · rw [if_pos h1]; decide
                  · rw [if_neg h1]
                    by_cases h2 : c = 45
                    · rw [if_pos h2]; decide
                    · rw [if_neg h2]
                      by_cases h3 : c = 42
                      · rw [if_pos h3]; decide
                      · rw [if_neg h3]
                        by_cases h4 : c = 60
                        · rw [if_pos h4]; decide
                        · rw [if_neg h4]; decide
                · rw [if_neg c5] at h; exact absurd h (by simp)
        · rw [if_neg c3] at h; exact absurd h (by simp)
theorem pB_wf {TX : Nat → Int32} {T d : Nat} {rd : Nat → Option RT × Nat} (h : ∀ p r, (rd p).1 = some r → wfR r) {p : Nat} {r : RT} (hr : (pB TX T d rd p).1 = some r) : wfR r := by
  unfold pB at hr
  by_cases c : hc TX T p = 123 ∧ d < 6
  · rw [if_pos c] at hr
    have i1 := h (p + 1)
    revert i1 hr
    generalize rd (p + 1) = w
    obtain ⟨w, q⟩ := w
    intro hr i1
    cases w with
    | none => exact absurd hr (by simp)
    | some x =>
      have hr : (if hc TX T q = 125 then (some x, q + 1) else (none, q) : Option RT × Nat).1 = some r := hr
      by_cases c2 : hc TX T q = 125
      · rw [if_pos c2] at hr
        obtain rfl := Option.some.inj hr
        exact i1 x rfl
      · rw [if_neg c2] at hr; exact absurd hr (by simp)
  · rw [if_neg c] at hr; exact absurd hr (by simp)
theorem pR_wf {TX : Nat → Int32} {T : Nat} : ∀ (F g p : Nat) (t : RT), (pR TX T F g p).1 = some t → wfR t
  | 0, g, p, x, h => by rw [pR] at h; exact absurd h (by simp)
  | F + 1, g, p, t, h => by
    have ih := pR_wf (TX := TX) (T := T) F
    rw [pR] at h
    by_cases c1 : r_nm (hc TX T p) = true
    · rw [if_pos c1] at h
      by_cases c2 : hc TX T (p + 1) = 61
      · rw [if_pos c2] at h
        have i1 := pE_wf (TX := TX) (T := T) 100 g (p + 2)
        revert i1 h
        generalize pE TX T 100 g (p + 2) = w
        obtain ⟨w, q⟩ := w
        intro h i1
        cases w with
        | none => exact absurd h (by simp)
        | some e =>
          have h : (if hc TX T q = 59 then (match pR TX T F g (q + 1) with | (none, q2) => (none, q2) | (some R, q2) => (some (rAs ((hc TX T p).toNatClampNeg - 97) e R), q2)) else (none, q) : Option RT × Nat).1 = some t := h
          by_cases c3 : hc TX T q = 59
          · rw [if_pos c3] at h
            have j1 := ih g (q + 1)
            revert j1 h
            generalize pR TX T F g (q + 1) = w2
            obtain ⟨w2, q2⟩ := w2
            intro h j1
            cases w2 with
            | none => exact absurd h (by simp)
            | some R =>
              obtain rfl := Option.some.inj h
              obtain ⟨j, y1, y2, hj⟩ := r_nm_i c1
              exact ⟨by rw [hj, nI_clamp (by omega)]; omega, i1 e rfl, j1 R rfl⟩
          · rw [if_neg c3] at h; exact absurd h (by simp)
      · rw [if_neg c2] at h; exact absurd h (by simp)
    · rw [if_neg c1] at h
      by_cases c4 : hc TX T p = 63
      · rw [if_pos c4] at h
        have i1 := pE_wf (TX := TX) (T := T) 100 g (p + 1)
        revert i1 h
        generalize pE TX T 100 g (p + 1) = w
        obtain ⟨w, q⟩ := w
        intro h i1
        cases w with
        | none => exact absurd h (by simp)
        | some e =>
          have b1 := fun r => pB_wf (TX := TX) (T := T) (d := g) (rd := pR TX T F (g + 1)) (fun p r => ih (g + 1) p r) (p := q) (r := r)
          have h : (match pB TX T g (pR TX T F (g + 1)) q with | (none, q1) => (none, q1) | (some r1, q1) => match pB TX T g (pR TX T F (g + 1)) q1 with | (none, q2) => (none, q2) | (some r2, q2) => match pR TX T F g q2 with | (none, q3) => (none, q3) | (some R, q3) => (some (rCh e r1 r2 R), q3) : Option RT × Nat).1 = some t := h
          revert b1 h
          generalize pB TX T g (pR TX T F (g + 1)) q = w1
          obtain ⟨w1, q1⟩ := w1
          intro b1 h
          cases w1 with
          | none => exact absurd h (by simp)
          | some r1 =>
            have d1 := fun r => pB_wf (TX := TX) (T := T) (d := g) (rd := pR TX T F (g + 1)) (fun p r => ih (g + 1) p r) (p := q1) (r := r)
            have h : (match pB TX T g (pR TX T F (g + 1)) q1 with | (none, q2) => (none, q2) | (some r2, q2) => match pR TX T F g q2 with | (none, q3) => (none, q3) | (some R, q3) => (some (rCh e r1 r2 R), q3) : Option RT × Nat).1 = some t := h
            revert d1 h
            generalize pB TX T g (pR TX T F (g + 1)) q1 = w2
            obtain ⟨w2, q2⟩ := w2
            intro d1 h
            cases w2 with
            | none => exact absurd h (by simp)
            | some r2 =>
              have j1 := ih g q2
              have h : (match pR TX T F g q2 with | (none, q3) => (none, q3) | (some R, q3) => (some (rCh e r1 r2 R), q3) : Option RT × Nat).1 = some t := h
              revert j1 h
              generalize pR TX T F g q2 = w3
              obtain ⟨w3, q3⟩ := w3
              intro j1 h
              cases w3 with
              | none => exact absurd h (by simp)
              | some R =>
                obtain rfl := Option.some.inj h
                exact ⟨i1 e rfl, b1 r1 rfl, d1 r2 rfl, j1 R rfl⟩
      · rw [if_neg c4] at h
        by_cases c5 : hc TX T p = 42
        · rw [if_pos c5] at h
          have i1 := pE_wf (TX := TX) (T := T) 100 g (p + 1)
          revert i1 h
          generalize pE TX T 100 g (p + 1) = w
          obtain ⟨w, q⟩ := w
          intro h i1
          cases w with
          | none => exact absurd h (by simp)
          | some e =>
            have b1 := fun r => pB_wf (TX := TX) (T := T) (d := g) (rd := pR TX T F (g + 1)) (fun p r => ih (g + 1) p r) (p := q) (r := r)
            have h : (match pB TX T g (pR TX T F (g + 1)) q with | (none, q1) => (none, q1) | (some r1, q1) => match pR TX T F g q1 with | (none, q3) => (none, q3) | (some R, q3) => (some (rLp e r1 R), q3) : Option RT × Nat).1 = some t := h
            revert b1 h
            generalize pB TX T g (pR TX T F (g + 1)) q = w1
            obtain ⟨w1, q1⟩ := w1
            intro b1 h
            cases w1 with
            | none => exact absurd h (by simp)
            | some r1 =>
              have j1 := ih g q1
              have h : (match pR TX T F g q1 with | (none, q3) => (none, q3) | (some R, q3) => (some (rLp e r1 R), q3) : Option RT × Nat).1 = some t := h
              revert j1 h
              generalize pR TX T F g q1 = w3
              obtain ⟨w3, q3⟩ := w3
              intro j1 h
              cases w3 with
              | none => exact absurd h (by simp)
              | some R =>
                obtain rfl := Option.some.inj h
                exact ⟨i1 e rfl, b1 r1 rfl, j1 R rfl⟩
        · rw [if_neg c5] at h
          obtain rfl := Option.some.inj h
          exact True.intro
theorem rdR_ok {TX : Nat → Int32} {T q : Nat} {t : RT} (h : rdR TX T = (some t, q)) : wfR t ∧ szR t ≤ T ∧ q = T := by
  unfold rdR at h
  have i1 := pR_wf (TX := TX) (T := T) 100 0 0
  have i2 := pR_le (TX := TX) (T := T) 100 0 0 (Nat.zero_le T)
  revert i1 i2 h
  generalize pR TX T 100 0 0 = w
  obtain ⟨w, q1⟩ := w
  intro h i1 i2
  cases w with
  | none => exact absurd (congrArg Prod.fst h) (by simp)
  | some t1 =>
    have h : (if q1 = T then (some t1, q1) else (none, q1) : Option RT × Nat) = (some t, q) := h
    by_cases c : q1 = T
    · rw [if_pos c] at h
      obtain rfl := Option.some.inj (congrArg Prod.fst h)
      have h2 : q1 = q := congrArg Prod.snd h
      have := (i2.2.2 t1 rfl).1
      exact ⟨i1 t1 rfl, by have i3 : 0 + szR t1 ≤ q1 := this; omega, by omega⟩
    · rw [if_neg c] at h
      exact absurd (congrArg Prod.fst h) (by simp)
