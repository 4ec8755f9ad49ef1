/-! ===== THE CLASS: CodeLabels, pass ===== -/
theorem lft_cg {J : Int32 → Int32 → Int32} {K E : Nat → Int32} {h k : Nat} {R S : Nat → Int32} (hv : K k = 1 ∨ K k = 2 → (E k).toNatClampNeg < 8) (h8 : h ≤ 8) (h1 : K k = 2 → 1 ≤ h) (h2 : (K k = 3 ∨ K k = 4 ∨ K k = 5 ∨ K k = 6) → 2 ≤ h) (he : ∀ a, a < 17 → R a = S a) : ∀ a, a < 17 → lft J K E h k R a = lft J K E h k S a := by
  intro a ha
  have u : ∀ (i : Nat) (x y : Int32), x = y → upd R i x a = upd S i y a := fun i x y hx => by
    subst hx
    by_cases c : a = i
    · subst c; rw [upd_at, upd_at]
    · rw [upd_ne _ _ c, upd_ne _ _ c]; exact he a ha
  unfold lft
  by_cases c0 : K k = 0
  · rw [if_pos c0, if_pos c0]; exact u _ _ _ (he 8 (by omega))
  · rw [if_neg c0, if_neg c0]
    by_cases c1 : K k = 1
    · have := hv (Or.inl c1)
      rw [if_pos c1, if_pos c1]; exact u _ _ _ (by rw [he 8 (by omega), he _ (show (E k).toNatClampNeg < 17 by omega)])
    · rw [if_neg c1, if_neg c1]
      by_cases c2 : K k = 2
      · have := h1 c2
        rw [if_pos c2, if_pos c2]; exact u _ _ _ (by rw [he 8 (by omega), he _ (show 9 + h - 1 < 17 by omega)])
      · rw [if_neg c2, if_neg c2]
        by_cases c3 : K k = 3 ∨ K k = 4 ∨ K k = 5 ∨ K k = 6
        · have := h2 c3
          rw [if_pos c3, if_pos c3]; exact u _ _ _ (by rw [he 8 (by omega), he _ (show 9 + h - 1 < 17 by omega), he _ (show 9 + h - 2 < 17 by omega)])
        · rw [if_neg c3, if_neg c3]; exact he a ha
/-- the numbers of an instruction that is reached -/
def KN (K E W : Nat → Int32) (C k h : Nat) : Prop := (K k = 1 ∨ K k = 2 → ∃ v, v < 8 ∧ E k = nI v) ∧ (K k = 0 ∨ K k = 1 → h < 8) ∧ (K k = 2 → 1 ≤ h) ∧ ((K k = 3 ∨ K k = 4 ∨ K k = 5 ∨ K k = 6) → 2 ≤ h) ∧ (K k = 7 → 1 ≤ h) ∧ ∀ w, w < 2 → ∀ t, t < C → r_nx (VA K E) k (nI w) = nI t → ∃ g, g ≤ 8 ∧ W t = nI g ∧ (g ≤ h ∨ (g = h + 1 ∧ (K k = 0 ∨ K k = 1)))
theorem KN_of {K E W : Nat → Int32} {C k h : Nat} (hC : C ≤ 100) (hp : PL (VA K E) C) (hW : HL (VA K E) C W) (hk : k < C) (h8 : h ≤ 8) (hh : W k = nI h) : KN K E W C k h := by
  have h0 := (m1_not h8 hh).2
  obtain ⟨a1, a2, a3, a4⟩ := hW.1.2 k hk h0
  have a1 : ¬ W k - r_tb (K k) < 0 := a1
  have a2 : ¬ 8 < W k - r_tb (K k) + r_gb (K k) := a2
  have a4 : ∀ w, w < 2 → r_nx (VA K E) k (nI w) < 0 ∨ ∃ t, t < C ∧ r_nx (VA K E) k (nI w) = nI t ∧ W t = W k - r_tb (K k) + r_gb (K k) := a4
  rw [hh] at a1 a2 a4
  have p1 := hp.2 k hk
  have hv : K k = 1 ∨ K k = 2 → ∃ v, v < 8 ∧ E k = nI v := fun c => by
    have := p1.2.2.1 c
    obtain ⟨v, hv, e⟩ := nI_of2 (M := 8) (n := 8) (by decide) (Int32.not_lt.mpr this.1) (Int32.le_of_lt this.2)
    have e : E k = nI v := e
    have e2 : E k < 8 := this.2
    rw [e, nl_8, nI_ltI (by omega) (by omega)] at e2
    exact ⟨v, e2, e⟩
  obtain ⟨q, hq, e⟩ := aft_i h8 (fun z => a1 ((tb_lt h8 _).mp z)) a2
  have T : ∀ (b c : Nat), r_tb (K k) = nI b → r_gb (K k) = nI c → b ≤ 2 → c ≤ 1 → b ≤ h ∧ q + b = h + c := fun b c eb ec hb hc => by
    rw [eb] at a1 e
    rw [ec] at e
    have : b ≤ h := by
      by_cases z : b ≤ h
      · exact z
      · refine absurd ((tb_lt h8 (K k)).mp ?_) (by rw [eb]; exact a1)
        rw [eb, nI_ltI (by omega) (by omega)]; omega
    rw [nI_sub this, nI_add] at e
    have := nI_inj (by omega) (by omega) e
    omega
  have tail : ∀ w, w < 2 → ∀ t, t < C → r_nx (VA K E) k (nI w) = nI t → W t = nI q := fun w hw t ht et => by
    rcases a4 w hw with z | ⟨t', ht', z1, z2⟩
    · rw [et] at z; exact absurd z (i32_nlt0 (by omega))
    · obtain rfl := nI_inj (by omega) (by omega) (et.symm.trans z1)
      rw [z2, e]
  obtain ⟨x, hx9, hx⟩ := nI_of2 (M := 9) (n := 9) (by decide) (Int32.not_lt.mpr p1.1) p1.2.1
  have hx : K k = nI x := hx
  have fin : (K k = 0 ∨ K k = 1 → h < 8) → (K k = 2 → 1 ≤ h) → ((K k = 3 ∨ K k = 4 ∨ K k = 5 ∨ K k = 6) → 2 ≤ h) → (K k = 7 → 1 ≤ h) → (q ≤ h ∨ (q = h + 1 ∧ (K k = 0 ∨ K k = 1))) → KN K E W C k h := fun b1 b2 b3 b4 b5 => ⟨hv, b1, b2, b3, b4, fun w hw t ht et => ⟨q, hq, tail w hw t ht et, b5⟩⟩
  have nk : ∀ y, y ≤ 9 → ¬ y = x → ¬ K k = nI y := fun y hy hne z => hne (nI_inj (by omega) (by omega) (z.symm.trans hx))
  obtain rfl | rfl | rfl | rfl | rfl | rfl | rfl | rfl | rfl | rfl : x = 0 ∨ x = 1 ∨ x = 2 ∨ x = 3 ∨ x = 4 ∨ x = 5 ∨ x = 6 ∨ x = 7 ∨ x = 8 ∨ x = 9 := by omega
  · have tt := T 0 1 (by rw [hx]; decide) (by rw [hx]; decide) (by decide) (by decide)
    refine fin ?_ ?_ ?_ ?_ ?_
    · intro _; omega
    · intro z; exact absurd z (nk 2 (by decide) (by decide))
    · intro z; exact absurd z (fun z => z.elim (nk 3 (by decide) (by decide)) (fun z => z.elim (nk 4 (by decide) (by decide)) (fun z => z.elim (nk 5 (by decide) (by decide)) (nk 6 (by decide) (by decide)))))
    · intro z; exact absurd z (nk 7 (by decide) (by decide))
    · exact Or.inr ⟨by omega, Or.inl hx⟩
  · have tt := T 0 1 (by rw [hx]; decide) (by rw [hx]; decide) (by decide) (by decide)
    refine fin ?_ ?_ ?_ ?_ ?_
    · intro _; omega
    · intro z; exact absurd z (nk 2 (by decide) (by decide))
    · intro z; exact absurd z (fun z => z.elim (nk 3 (by decide) (by decide)) (fun z => z.elim (nk 4 (by decide) (by decide)) (fun z => z.elim (nk 5 (by decide) (by decide)) (nk 6 (by decide) (by decide)))))
    · intro z; exact absurd z (nk 7 (by decide) (by decide))
    · exact Or.inr ⟨by omega, Or.inr hx⟩
  · have tt := T 1 0 (by rw [hx]; decide) (by rw [hx]; decide) (by decide) (by decide)
    refine fin ?_ ?_ ?_ ?_ ?_
    · intro z; exact absurd z (fun z => z.elim (nk 0 (by decide) (by decide)) (nk 1 (by decide) (by decide)))
    · intro _; omega
    · intro z; exact absurd z (fun z => z.elim (nk 3 (by decide) (by decide)) (fun z => z.elim (nk 4 (by decide) (by decide)) (fun z => z.elim (nk 5 (by decide) (by decide)) (nk 6 (by decide) (by decide)))))
    · intro z; exact absurd z (nk 7 (by decide) (by decide))
    · exact Or.inl (by omega)
  · have tt := T 2 1 (by rw [hx]; decide) (by rw [hx]; decide) (by decide) (by decide)
    refine fin ?_ ?_ ?_ ?_ ?_
    · intro z; exact absurd z (fun z => z.elim (nk 0 (by decide) (by decide)) (nk 1 (by decide) (by decide)))
    · intro z; exact absurd z (nk 2 (by decide) (by decide))
    · intro _; omega
    · intro z; exact absurd z (nk 7 (by decide) (by decide))
    · exact Or.inl (by omega)
  · have tt := T 2 1 (by rw [hx]; decide) (by rw [hx]; decide) (by decide) (by decide)
    refine fin ?_ ?_ ?_ ?_ ?_
    · intro z; exact absurd z (fun z => z.elim (nk 0 (by decide) (by decide)) (nk 1 (by decide) (by decide)))
    · intro z; exact absurd z (nk 2 (by decide) (by decide))
    · intro _; omega
    · intro z; exact absurd z (nk 7 (by decide) (by decide))
    · exact Or.inl (by omega)
  · have tt := T 2 1 (by rw [hx]; decide) (by rw [hx]; decide) (by decide) (by decide)
    refine fin ?_ ?_ ?_ ?_ ?_
    · intro z; exact absurd z (fun z => z.elim (nk 0 (by decide) (by decide)) (nk 1 (by decide) (by decide)))
    · intro z; exact absurd z (nk 2 (by decide) (by decide))
    · intro _; omega
    · intro z; exact absurd z (nk 7 (by decide) (by decide))
    · exact Or.inl (by omega)
  · have tt := T 2 1 (by rw [hx]; decide) (by rw [hx]; decide) (by decide) (by decide)
    refine fin ?_ ?_ ?_ ?_ ?_
    · intro z; exact absurd z (fun z => z.elim (nk 0 (by decide) (by decide)) (nk 1 (by decide) (by decide)))
    · intro z; exact absurd z (nk 2 (by decide) (by decide))
    · intro _; omega
    · intro z; exact absurd z (nk 7 (by decide) (by decide))
    · exact Or.inl (by omega)
  · have tt := T 1 0 (by rw [hx]; decide) (by rw [hx]; decide) (by decide) (by decide)
    refine fin ?_ ?_ ?_ ?_ ?_
    · intro z; exact absurd z (fun z => z.elim (nk 0 (by decide) (by decide)) (nk 1 (by decide) (by decide)))
    · intro z; exact absurd z (nk 2 (by decide) (by decide))
    · intro z; exact absurd z (fun z => z.elim (nk 3 (by decide) (by decide)) (fun z => z.elim (nk 4 (by decide) (by decide)) (fun z => z.elim (nk 5 (by decide) (by decide)) (nk 6 (by decide) (by decide)))))
    · intro _; omega
    · exact Or.inl (by omega)
  · have tt := T 0 0 (by rw [hx]; decide) (by rw [hx]; decide) (by decide) (by decide)
    refine fin ?_ ?_ ?_ ?_ ?_
    · intro z; exact absurd z (fun z => z.elim (nk 0 (by decide) (by decide)) (nk 1 (by decide) (by decide)))
    · intro z; exact absurd z (nk 2 (by decide) (by decide))
    · intro z; exact absurd z (fun z => z.elim (nk 3 (by decide) (by decide)) (fun z => z.elim (nk 4 (by decide) (by decide)) (fun z => z.elim (nk 5 (by decide) (by decide)) (nk 6 (by decide) (by decide)))))
    · intro z; exact absurd z (nk 7 (by decide) (by decide))
    · exact Or.inl (by omega)
  · have tt := T 0 0 (by rw [hx]; decide) (by rw [hx]; decide) (by decide) (by decide)
    refine fin ?_ ?_ ?_ ?_ ?_
    · intro z; exact absurd z (fun z => z.elim (nk 0 (by decide) (by decide)) (nk 1 (by decide) (by decide)))
    · intro z; exact absurd z (nk 2 (by decide) (by decide))
    · intro z; exact absurd z (fun z => z.elim (nk 3 (by decide) (by decide)) (fun z => z.elim (nk 4 (by decide) (by decide)) (fun z => z.elim (nk 5 (by decide) (by decide)) (nk 6 (by decide) (by decide)))))
    · intro z; exact absurd z (nk 7 (by decide) (by decide))
    · exact Or.inl (by omega)
theorem RG_w {X : Nat → Nat → Int32} {C : Nat} {W : Nat → Int32} (hC : C ≤ 100) (hW : HL X C W) {B : Nat → Prop} {j m : Nat} (hj : j < C) (j0 : 0 ≤ W j) (h : RG X C B j m) : 0 ≤ W m := by
  refine h (fun x => 0 ≤ W x) (fun w hw t ht e _ => ?_) (fun k hk k0 w hw t ht e _ => ?_)
  · rcases (HL_RC hW j ⟨hj, j0⟩).2 w hw with z | ⟨t', ⟨_, z0⟩, z⟩
    · rw [e] at z; exact absurd z (i32_nlt0 (by omega))
    · obtain rfl := nI_inj (by omega) (by have := (HL_RC hW j ⟨hj, j0⟩).1; omega) (e.symm.trans z)
      exact z0
  · rcases (HL_RC hW k ⟨hk, k0⟩).2 w hw with z | ⟨t', ⟨ht', z0⟩, z⟩
    · rw [e] at z; exact absurd z (i32_nlt0 (by omega))
    · obtain rfl := nI_inj (by omega) (by omega) (e.symm.trans z)
      exact z0
theorem phi_0 {N : Nat} {J : Int32 → Int32 → Int32} {C : Nat} {Y : Nat → Nat → Int32} {V : Nat → Int32} {k : Nat} (hk : k < C) (h : ¬ V k = 0) : phi N J C Y (upd V k 0) + 1 ≤ phi N J C Y V := by
  unfold phi
  have := cnt_add (p := fun i => decide (¬ upd V k 0 i = 0)) (q := fun i => decide (¬ V i = 0)) (t := k) (decide_eq_false (p := ¬ upd V k 0 k = 0) (fun z => z (upd_at _ _ _))) C hk (fun i hi => by
    show decide (¬ V i = 0) = (decide (¬ upd V k 0 i = 0) || decide (i = k))
    by_cases e : i = k
    · subst e
      rw [decide_eq_true (p := ¬ V i = 0) h, decide_eq_true (rfl : i = i), Bool.or_true]
    · rw [upd_ne _ _ e, decide_eq_false e, Bool.or_false])
  omega
theorem hn_n {W : Nat → Int32} {k h : Nat} (h8 : h ≤ 8) (e : W k = nI h) : hn W k = h := by
  unfold hn
  rw [e, nI_clamp (by omega)]
theorem q_comeTo {l : Launch} {D : va_G} {cy : Nat → ClassId} {d n : Nat} {f : sw_F} {s : Nat → Int32} {A : Nat → Nat → Int32} {B : Nat → Nat → Int64} {o : Int64} {pr : Value} (hd : 3 ≤ d) {N : Nat} (hs : s 4 = nI N) (hN : N ≤ 6) (hJ : SL N (J2 A)) {C : Nat} (hC : s 12 = nI C) (hCb : C ≤ 100) {en : Nat → Int32} {Y0 : Nat → Nat → Int32} {V0 L : Nat → Int32} (hY0 : YL N C Y0) (hU : LU N (J2 A) (A 29) (A 30) (A 32) en C Y0) {k h w : Nat} (hk : k < C) (hw : w < 2) (hK : KN (A 29) (A 30) (A 32) C k h) (hL : ∀ b, b < 17 → lv N (L b)) (hz : ∀ Z, LSo N (J2 A) (A 29) (A 30) (A 32) en C Z → ∀ t, t < C → r_nx (VA (A 29) (A 30)) k (nI w) = nI t → ∀ b, b < 9 + hn (A 32) t → ¬ b = 8 → jle (J2 A) (L b) (Z t b)) : sw_Ct l D cy mX1_comeTo d 0 0 [.ref 43, .int (cnx s (A 29) (A 30) (nI k) (nI w))] n (gd f s (laA A Y0 V0 L) B o pr) (fun r' n' f' => r' = none ∧ n' = n ∧ ∃ Y' V', f' = (gd f s (laA A Y' V' L) B o pr) ∧ RR N (J2 A) C (A 32) Y0 V0 Y' V' ∧ LU N (J2 A) (A 29) (A 30) (A 32) en C Y' ∧ ∀ t, t < C → r_nx (VA (A 29) (A 30)) k (nI w) = nI t → ∀ b, b < 9 + hn (A 32) t → ¬ b = 8 → jle (J2 A) (L b) (Y' t b)) := by
  rcases cnx_r (K := A 29) (E := A 30) hC hCb hk hw with ⟨e, hno⟩ | ⟨t, ht, e, et⟩
  · rw [e]
    refine sw_Ct_mono (fun r' n' f' hq => ?_) (c_X1_comeTo0 (A := laA A Y0 V0 L) (by omega))
    obtain ⟨h1, h2, h3⟩ := hq
    exact ⟨h1, h2, Y0, V0, h3, RR_rfl hJ hY0, hU, fun t ht e => absurd e (hno t ht)⟩
  · rw [e]
    obtain ⟨g, g8, eg, _⟩ := hK.2.2.2.2.2 w hw t ht et
    have hg := hn_n g8 eg
    refine sw_Ct_mono (fun r' n' f' hq => ?_) (c_X1_comeTo hd hs hN hJ hC hCb hY0 ht g8 eg hL (fun Z hZ b hb => hz Z hZ t ht et b (by rw [hg]; exact hb)) hU)
    obtain ⟨h1, h2, Y', V', h3, h4, h5, h6⟩ := hq
    refine ⟨h1, h2, Y', V', h3, h4, h5, fun t' ht' et' b hb => ?_⟩
    obtain rfl := nI_inj (by omega) (by omega) (et.symm.trans et')
    rw [hg] at hb
    exact h6 b hb
set_option maxRecDepth 100000 in
theorem c_X1_pass {l : Launch} {D : va_G} {cy : Nat → ClassId} {d n : Nat} {f : sw_F} {s : Nat → Int32} {A : Nat → Nat → Int32} {B : Nat → Nat → Int64} {o : Int64} {pr : Value} (hd : 4 ≤ d) {N : Nat} (hs : s 4 = nI N) (hN : N ≤ 6) (hJ : SL N (J2 A)) {C : Nat} (hC : s 12 = nI C) (hCb : C ≤ 100) (hp : PL (VA (A 29) (A 30)) C) (hW : HL (VA (A 29) (A 30)) C (A 32)) (hRG : ∀ j, j < C → 0 ≤ A 32 j → A 29 j = 7 → ∀ m, m < C → (msk B 39 j m = true ↔ RG (VA (A 29) (A 30)) C (RGB (VA (A 29) (A 30)) C (A 32) j) j m)) {en : Nat → Int32} {Y : Nat → Nat → Int32} {V L : Nat → Int32} (hY : YL N C Y) (hU : LU N (J2 A) (A 29) (A 30) (A 32) en C Y) {k h : Nat} (hk : k < C) (h8 : h ≤ 8) (hh : A 32 k = nI h) : sw_Ct l D cy mX1_pass d 0 0 [.ref 43, .int (nI k)] n (gd f s (laA A Y V L) B o pr) (fun r' n' f' => r' = none ∧ n' = n ∧ ∃ Y' V' L', f' = (gd f s (laA A Y' V' L') B o pr) ∧ RR N (J2 A) C (A 32) Y (upd V k 0) Y' V' ∧ LU N (J2 A) (A 29) (A 30) (A 32) en C Y' ∧ (V' k = 0 → LD (J2 A) (A 29) (A 30) (A 32) C Y' k)) := by
  have k0 : 0 ≤ A 32 k := (m1_not h8 hh).2
  have hhn := hn_n h8 hh
  have hK := KN_of hCb hp hW hk h8 hh
  have hv8 : A 29 k = 1 ∨ A 29 k = 2 → (A 30 k).toNatClampNeg < 8 := fun c => by obtain ⟨v, hv, e⟩ := hK.1 c; rw [e, nI_clamp (by omega)]; exact hv
  have hF : ∀ a, a < 17 → fillF (Y k) L 17 a = Y k a := fun a ha => fill_lt ha
  have lfe : ∀ a, a < 17 → (lft (J2 A) (A 29) (A 30) h k (fillF (Y k) L 17)) a = lft (J2 A) (A 29) (A 30) h k (Y k) a := lft_cg hv8 h8 hK.2.2.1 hK.2.2.2.1 hF
  have hLF : ∀ a, a < 17 → lv N (fillF (Y k) L 17 a) := fun a ha => by rw [hF a ha]; exact hY k a hk ha
  have hL : ∀ a, a < 17 → lv N ((lft (J2 A) (A 29) (A 30) h k (fillF (Y k) L 17)) a) := lft_lv hJ hLF h8 hv8 hK.2.2.1 hK.2.2.2.1
  have hz : ∀ Z, LSo N (J2 A) (A 29) (A 30) (A 32) en C Z → ∀ w, w < 2 → ∀ t, t < C → r_nx (VA (A 29) (A 30)) k (nI w) = nI t → ∀ b, b < 9 + hn (A 32) t → ¬ b = 8 → jle (J2 A) ((lft (J2 A) (A 29) (A 30) h k (fillF (Y k) L 17)) b) (Z t b) := fun Z hZ w hw t ht et b hb hne => by
    obtain ⟨g, g8, eg, hg⟩ := hK.2.2.2.2.2 w hw t ht et
    have hgn := hn_n g8 eg
    rw [hgn] at hb
    have z1 := lft_m (K := A 29) (E := A 30) (k := k) hJ (fun a ha => hY k a hk ha) (fun a ha => hZ.1 k a hk ha) h8 hv8 hK.2.2.1 hK.2.2.2.1 (fun a ha => hU Z hZ k hk k0 a (by rw [hhn]; exact ha)) b (by omega) (by
      rcases hg with y | ⟨y1, y2⟩
      · exact Or.inl (by omega)
      · by_cases u : b < 9 + h
        · exact Or.inl u
        · exact Or.inr ⟨by omega, y2⟩)
    have z2 := (hZ.2.2 k hk k0).1 w hw t ht et b (by rw [hgn]; exact hb) hne
    rw [hhn] at z2
    rw [lfe b (by omega)]
    exact jle_tr hJ (by rw [← lfe b (by omega)]; exact hL b (by omega)) (lft_lv hJ (fun a ha => hZ.1 k a hk ha) h8 hv8 hK.2.2.1 hK.2.2.2.1 b (by omega)) (hZ.1 t b ht (by omega)) z1 z2
  refine sw_of rfl (Nat.le_of_ble_eq_true rfl) ?_
  show SW l D cy mX1_pass d 0 0 0 0 0 [(0, .ref 43), (1, .int (nI k))] [] n (gd f s (laA A Y V L) B o pr) _ _
  refine sw_aload_n dX1_pass_0 rfl (by first | rfl | assumption) ?_
  refine sw_get dX1_pass_1 fr_X1_16 rfl rfl ?_
  refine sw_iload_n dX1_pass_4 rfl ?_
  refine sw_iconst (x := 0) dX1_pass_5 (by decide) ?_
  refine g_zast (k) dX1_pass_6 ⟨by decide, rfl, rfl⟩ rfl (show k < 100 by omega) (show vp_nar .boolean 0 = 0 by decide) ?_
  rw [la_v]
  change SW l D cy mX1_pass d 0 0 0 0 7 _ _ n (gd f s (laA A Y (upd V k 0) L) B o pr) _ _
  refine sw_aload_n dX1_pass_7 rfl (by first | rfl | assumption) ?_
  refine sw_get dX1_pass_8 fr_X1_13 rfl rfl ?_
  refine sw_iload_n dX1_pass_11 rfl ?_
  refine sw_aald dX1_pass_12 rfl (vp_in_nI (show k < 100 by omega) (by decide)) (g_row (show k < 100 by omega)) ?_
  refine sw_iconst (x := 0) dX1_pass_13 (by decide) ?_
  refine sw_aload_n dX1_pass_14 rfl (by first | rfl | assumption) ?_
  refine sw_get dX1_pass_15 fr_X1_20 rfl rfl ?_
  refine sw_iconst (x := 0) dX1_pass_18 (by decide) ?_
  refine sw_bipush (x := 17) dX1_pass_19 (by decide) ?_
  refine g_copy 17 dX1_pass_21 k_X1_73 k_cpy2 k_cpy3 k_cpy4 ⟨by omega, (gq_l k (by omega)).1, (gq_l k (by omega)).2.1⟩ ⟨by decide, rfl, rfl⟩ rfl rfl rfl (by rw [(gq_l k (by omega)).2.2]; decide) (by decide) (by omega) (Nat.le_of_ble_eq_true rfl) ?_
  rw [la_k A Y _ L (show k < 100 by omega), la_l]
  change SW l D cy mX1_pass d 0 0 0 0 24 _ _ n (gd f s (laA A Y (upd V k 0) (fillF (Y k) L 17)) B o pr) _ _
  refine sw_aload_n dX1_pass_24 rfl (by first | rfl | assumption) ?_
  refine sw_aload_n dX1_pass_25 rfl (by first | rfl | assumption) ?_
  refine sw_get dX1_pass_26 fr_X1_24 rfl rfl ?_
  refine sw_iload_n dX1_pass_29 rfl ?_
  refine sw_Vv dX1_pass_30 k_X1_66 mf_X0_kindAt (by have z := c_X0_kindAt (l := l) (D := D) (cy := cy) (d := d - 1) (n := n) (f := f) (s := s) (A := laA A Y (upd V k 0) (fillF (Y k) L 17)) (B := B) (o := o) (pr := pr) (by omega) hC hCb (nI k); rw [show cat s (laA A Y (upd V k 0) (fillF (Y k) L 17) 29) (nI k) = A 29 k from cat_n hC hCb hk] at z; exact z) rfl ⟨_, rfl, rfl⟩ (by omega) (by omega) (by omega) rfl rfl (Nat.le_of_ble_eq_true rfl) ?_
  refine sw_aload_n dX1_pass_33 rfl (by first | rfl | assumption) ?_
  refine sw_get dX1_pass_34 fr_X1_24 rfl rfl ?_
  refine sw_iload_n dX1_pass_37 rfl ?_
  refine sw_Vv dX1_pass_38 k_X1_79 mf_X0_argumentAt (by have z := c_X0_argumentAt (l := l) (D := D) (cy := cy) (d := d - 1) (n := n) (f := f) (s := s) (A := laA A Y (upd V k 0) (fillF (Y k) L 17)) (B := B) (o := o) (pr := pr) (by omega) hC hCb (nI k); rw [show cat s (laA A Y (upd V k 0) (fillF (Y k) L 17) 30) (nI k) = A 30 k from cat_n hC hCb hk] at z; exact z) rfl ⟨_, rfl, rfl⟩ (by omega) (by omega) (by omega) rfl rfl (Nat.le_of_ble_eq_true rfl) ?_
  refine sw_aload_n dX1_pass_41 rfl (by first | rfl | assumption) ?_
  refine sw_get dX1_pass_42 fr_X1_28 rfl rfl ?_
  refine sw_iload_n dX1_pass_45 rfl ?_
  refine sw_Vv dX1_pass_46 k_X1_51 mf_X10_heightAt (by have z := c_X10_heightAt (l := l) (D := D) (cy := cy) (d := d - 1) (n := n) (f := f) (s := s) (A := laA A Y (upd V k 0) (fillF (Y k) L 17)) (B := B) (o := o) (pr := pr) (by omega) hC hCb (nI k); rw [show cat s (laA A Y (upd V k 0) (fillF (Y k) L 17) 32) (nI k) = nI h from (cat_n hC hCb hk).trans hh] at z; exact z) rfl ⟨_, rfl, rfl⟩ (by omega) (by omega) (by omega) rfl rfl (Nat.le_of_ble_eq_true rfl) ?_
  refine sw_Vn dX1_pass_49 k_X1_82 mf_X1_change (c_X1_change (d := d - 1) (by omega) hs hN hJ hLF h8 ⟨(hp.2 k hk).1, (hp.2 k hk).2.1⟩ hK.1 hK.2.1 hK.2.2.1 hK.2.2.2.1) rfl ⟨_, rfl, rfl⟩ (by omega) (by omega) (by omega) rfl rfl (Nat.le_of_ble_eq_true rfl) ?_
  refine sw_aload_n dX1_pass_52 rfl (by first | rfl | assumption) ?_
  refine sw_get dX1_pass_53 fr_X1_24 rfl rfl ?_
  refine sw_iload_n dX1_pass_56 rfl ?_
  refine sw_Vv dX1_pass_57 k_X1_66 mf_X0_kindAt (by have z := c_X0_kindAt (l := l) (D := D) (cy := cy) (d := d - 1) (n := n) (f := f) (s := s) (A := laA A Y (upd V k 0) (lft (J2 A) (A 29) (A 30) h k (fillF (Y k) L 17))) (B := B) (o := o) (pr := pr) (by omega) hC hCb (nI k); rw [show cat s (laA A Y (upd V k 0) (lft (J2 A) (A 29) (A 30) h k (fillF (Y k) L 17)) 29) (nI k) = A 29 k from cat_n hC hCb hk] at z; exact z) rfl ⟨_, rfl, rfl⟩ (by omega) (by omega) (by omega) rfl rfl (Nat.le_of_ble_eq_true rfl) ?_
  refine sw_bipush (x := 7) dX1_pass_60 (by decide) ?_
  refine sw_icmp_ne 70 dX1_pass_62 (by decide) (fun h62 => ?_) (fun h62 => ?_)
  · refine sw_aload_n dX1_pass_70 rfl (by first | rfl | assumption) ?_
    refine sw_aload_n dX1_pass_71 rfl (by first | rfl | assumption) ?_
    refine sw_get dX1_pass_72 fr_X1_24 rfl rfl ?_
    refine sw_iload_n dX1_pass_75 rfl ?_
    refine sw_iconst (x := 0) dX1_pass_76 (by decide) ?_
    refine sw_Vv dX1_pass_77 k_X1_88 mf_X0_nextOf (c_X0_nextOf (d := d - 1) (A := laA A Y (upd V k 0) (lft (J2 A) (A 29) (A 30) h k (fillF (Y k) L 17))) (by omega) hC hCb (nI k) 0) rfl ⟨_, rfl, rfl⟩ (by omega) (by omega) (by omega) rfl rfl (Nat.le_of_ble_eq_true rfl) ?_
    refine sw_callV dX1_pass_80 k_X1_92 mf_X1_comeTo ⟨_, rfl, rfl⟩ rfl (q_comeTo (d := d - 1) (Y0 := Y) (V0 := (upd V k 0)) (L := (lft (J2 A) (A 29) (A 30) h k (fillF (Y k) L 17))) (w := 0) (by omega) hs hN hJ hC hCb hY hU hk (by decide) hK hL (fun Z hZ => hz Z hZ 0 (by decide))) (by omega) ⟨by omega, by omega⟩ rfl rfl (Nat.le_of_ble_eq_true rfl) (fun r' n' f' hq _ => ?_)
    obtain ⟨hr', hn', Y1, V1, hf', R1, U1, D1⟩ := hq
    have hn' := hn'.symm
    subst hn'
    subst hr'
    subst hf'
    show SW l D cy mX1_pass d 0 0 0 0 83 [(0, .ref 43), (1, .int (nI k))] [] n (gd f s (laA A Y1 V1 (lft (J2 A) (A 29) (A 30) h k (fillF (Y k) L 17))) B o pr) _ _
    refine sw_aload_n dX1_pass_83 rfl (by first | rfl | assumption) ?_
    refine sw_aload_n dX1_pass_84 rfl (by first | rfl | assumption) ?_
    refine sw_get dX1_pass_85 fr_X1_24 rfl rfl ?_
    refine sw_iload_n dX1_pass_88 rfl ?_
    refine sw_iconst (x := 1) dX1_pass_89 (by decide) ?_
    refine sw_Vv dX1_pass_90 k_X1_88 mf_X0_nextOf (c_X0_nextOf (d := d - 1) (A := laA A Y1 V1 (lft (J2 A) (A 29) (A 30) h k (fillF (Y k) L 17))) (by omega) hC hCb (nI k) 1) rfl ⟨_, rfl, rfl⟩ (by omega) (by omega) (by omega) rfl rfl (Nat.le_of_ble_eq_true rfl) ?_
    refine sw_callV dX1_pass_93 k_X1_92 mf_X1_comeTo ⟨_, rfl, rfl⟩ rfl (q_comeTo (d := d - 1) (Y0 := Y1) (V0 := V1) (L := (lft (J2 A) (A 29) (A 30) h k (fillF (Y k) L 17))) (w := 1) (by omega) hs hN hJ hC hCb R1.1 U1 hk (by decide) hK hL (fun Z hZ => hz Z hZ 1 (by decide))) (by omega) ⟨by omega, by omega⟩ rfl rfl (Nat.le_of_ble_eq_true rfl) (fun r' n' f' hq _ => ?_)
    obtain ⟨hr', hn', Y2, V2, hf', R2, U2, D2⟩ := hq
    have hn' := hn'.symm
    subst hn'
    subst hr'
    subst hf'
    show SW l D cy mX1_pass d 0 0 0 0 96 [(0, .ref 43), (1, .int (nI k))] [] n (gd f s (laA A Y2 V2 (lft (J2 A) (A 29) (A 30) h k (fillF (Y k) L 17))) B o pr) _ _
    exact sw_vret dX1_pass_96 rfl (by omega) (by omega) ⟨rfl, rfl, Y2, V2, (lft (J2 A) (A 29) (A 30) h k (fillF (Y k) L 17)), rfl, RR_tr hJ hY (RR_rfl hJ hY) (RR_tr hJ hY R1 R2), U2, fun hV => by
      have c2 := R2.2.2.1 k hk hV
      have c1 := R1.2.2.1 k hk c2.1
      have c0 : ∀ a, a < 17 → Y k a = Y k a := fun _ _ => rfl
      have row : ∀ a, a < 17 → Y2 k a = Y k a := fun a ha => by rw [c2.2 a ha, c1.2 a ha, c0 a ha]
      refine ⟨fun w hw t ht et a ha hne => ?_, fun h7 m hm hg => ?_⟩
      · obtain ⟨g, g8, eg, _⟩ := hK.2.2.2.2.2 w hw t ht et
        have ha17 : a < 17 := by have := hn_n g8 eg; omega
        rw [hhn, lft_cg hv8 h8 hK.2.2.1 hK.2.2.2.1 row a ha17, ← lfe a ha17]
        obtain rfl | rfl : w = 0 ∨ w = 1 := by omega
        · exact jle_tr hJ (hL a ha17) (R1.1 t a ht ha17) (R2.1 t a ht ha17) (D1 t ht et a ha hne) (R2.2.1 t a ht ha17)
        · exact D2 t ht et a ha hne
      · exact absurd h7 h62⟩
  · refine sw_aload_n dX1_pass_65 rfl (by first | rfl | assumption) ?_
    refine sw_iload_n dX1_pass_66 rfl ?_
    refine sw_callV dX1_pass_67 k_X1_85 mf_X1_raiseRegion ⟨_, rfl, rfl⟩ rfl (c_X1_raiseRegion (d := d - 1) (Y0 := Y) (V0 := (upd V k 0)) (L := (lft (J2 A) (A 29) (A 30) h k (fillF (Y k) L 17))) (en := en) (by omega) hs hN hJ hC hCb hY hk (fun m hm q => RG_w hCb hW hk k0 ((hRG k hk k0 h62 m hm).mp q)) h8 (hK.2.2.2.2.1 h62) hh (fun Z hZ m hm q => ?_) hU) (by omega) ⟨by omega, by omega⟩ rfl rfl (Nat.le_of_ble_eq_true rfl) (fun r' n' f' hq _ => ?_)
    · have h1 := hK.2.2.2.2.1 h62
      have z1 := hU Z hZ k hk k0 (9 + h - 1) (by rw [hhn]; omega)
      have z2 := (hZ.2.2 k hk k0).2 h62 m hm ((hRG k hk k0 h62 m hm).mp q)
      rw [hhn] at z2
      exact jle_tr hJ (hY k _ hk (by omega)) (hZ.1 k _ hk (by omega)) (hZ.1 m 8 hm (by omega)) z1 z2
    obtain ⟨hr', hn', Yr, Vr, hf', Rr, Ur, Dr⟩ := hq
    have hn' := hn'.symm
    subst hn'
    subst hr'
    subst hf'
    show SW l D cy mX1_pass d 0 0 0 0 70 [(0, .ref 43), (1, .int (nI k))] [] n (gd f s (laA A Yr Vr (lft (J2 A) (A 29) (A 30) h k (fillF (Y k) L 17))) B o pr) _ _
    refine sw_aload_n dX1_pass_70 rfl (by first | rfl | assumption) ?_
    refine sw_aload_n dX1_pass_71 rfl (by first | rfl | assumption) ?_
    refine sw_get dX1_pass_72 fr_X1_24 rfl rfl ?_
    refine sw_iload_n dX1_pass_75 rfl ?_
    refine sw_iconst (x := 0) dX1_pass_76 (by decide) ?_
    refine sw_Vv dX1_pass_77 k_X1_88 mf_X0_nextOf (c_X0_nextOf (d := d - 1) (A := laA A Yr Vr (lft (J2 A) (A 29) (A 30) h k (fillF (Y k) L 17))) (by omega) hC hCb (nI k) 0) rfl ⟨_, rfl, rfl⟩ (by omega) (by omega) (by omega) rfl rfl (Nat.le_of_ble_eq_true rfl) ?_
    refine sw_callV dX1_pass_80 k_X1_92 mf_X1_comeTo ⟨_, rfl, rfl⟩ rfl (q_comeTo (d := d - 1) (Y0 := Yr) (V0 := Vr) (L := (lft (J2 A) (A 29) (A 30) h k (fillF (Y k) L 17))) (w := 0) (by omega) hs hN hJ hC hCb Rr.1 Ur hk (by decide) hK hL (fun Z hZ => hz Z hZ 0 (by decide))) (by omega) ⟨by omega, by omega⟩ rfl rfl (Nat.le_of_ble_eq_true rfl) (fun r' n' f' hq _ => ?_)
    obtain ⟨hr', hn', Y1, V1, hf', R1, U1, D1⟩ := hq
    have hn' := hn'.symm
    subst hn'
    subst hr'
    subst hf'
    show SW l D cy mX1_pass d 0 0 0 0 83 [(0, .ref 43), (1, .int (nI k))] [] n (gd f s (laA A Y1 V1 (lft (J2 A) (A 29) (A 30) h k (fillF (Y k) L 17))) B o pr) _ _
    refine sw_aload_n dX1_pass_83 rfl (by first | rfl | assumption) ?_
    refine sw_aload_n dX1_pass_84 rfl (by first | rfl | assumption) ?_
    refine sw_get dX1_pass_85 fr_X1_24 rfl rfl ?_
    refine sw_iload_n dX1_pass_88 rfl ?_
    refine sw_iconst (x := 1) dX1_pass_89 (by decide) ?_
    refine sw_Vv dX1_pass_90 k_X1_88 mf_X0_nextOf (c_X0_nextOf (d := d - 1) (A := laA A Y1 V1 (lft (J2 A) (A 29) (A 30) h k (fillF (Y k) L 17))) (by omega) hC hCb (nI k) 1) rfl ⟨_, rfl, rfl⟩ (by omega) (by omega) (by omega) rfl rfl (Nat.le_of_ble_eq_true rfl) ?_
    refine sw_callV dX1_pass_93 k_X1_92 mf_X1_comeTo ⟨_, rfl, rfl⟩ rfl (q_comeTo (d := d - 1) (Y0 := Y1) (V0 := V1) (L := (lft (J2 A) (A 29) (A 30) h k (fillF (Y k) L 17))) (w := 1) (by omega) hs hN hJ hC hCb R1.1 U1 hk (by decide) hK hL (fun Z hZ => hz Z hZ 1 (by decide))) (by omega) ⟨by omega, by omega⟩ rfl rfl (Nat.le_of_ble_eq_true rfl) (fun r' n' f' hq _ => ?_)
    obtain ⟨hr', hn', Y2, V2, hf', R2, U2, D2⟩ := hq
    have hn' := hn'.symm
    subst hn'
    subst hr'
    subst hf'
    show SW l D cy mX1_pass d 0 0 0 0 96 [(0, .ref 43), (1, .int (nI k))] [] n (gd f s (laA A Y2 V2 (lft (J2 A) (A 29) (A 30) h k (fillF (Y k) L 17))) B o pr) _ _
    exact sw_vret dX1_pass_96 rfl (by omega) (by omega) ⟨rfl, rfl, Y2, V2, (lft (J2 A) (A 29) (A 30) h k (fillF (Y k) L 17)), rfl, RR_tr hJ hY Rr (RR_tr hJ Rr.1 R1 R2), U2, fun hV => by
      have c2 := R2.2.2.1 k hk hV
      have c1 := R1.2.2.1 k hk c2.1
      have c0 := (Rr.2.2.1 k hk c1.1).2
      have row : ∀ a, a < 17 → Y2 k a = Y k a := fun a ha => by rw [c2.2 a ha, c1.2 a ha, c0 a ha]
      refine ⟨fun w hw t ht et a ha hne => ?_, fun h7 m hm hg => ?_⟩
      · obtain ⟨g, g8, eg, _⟩ := hK.2.2.2.2.2 w hw t ht et
        have ha17 : a < 17 := by have := hn_n g8 eg; omega
        rw [hhn, lft_cg hv8 h8 hK.2.2.1 hK.2.2.2.1 row a ha17, ← lfe a ha17]
        obtain rfl | rfl : w = 0 ∨ w = 1 := by omega
        · exact jle_tr hJ (hL a ha17) (R1.1 t a ht ha17) (R2.1 t a ht ha17) (D1 t ht et a ha hne) (R2.2.1 t a ht ha17)
        · exact D2 t ht et a ha hne
      · have h1 := hK.2.2.2.2.1 h7; rw [hhn, row _ (by omega)]; exact jle_tr hJ (hY k _ hk (by omega)) (Rr.1 m 8 hm (by omega)) (R2.1 m 8 hm (by omega)) (Dr m hm ((hRG k hk k0 h7 m hm).mpr hg)) (jle_tr hJ (Rr.1 m 8 hm (by omega)) (R1.1 m 8 hm (by omega)) (R2.1 m 8 hm (by omega)) (R1.2.1 m 8 hm (by omega)) (R2.2.1 m 8 hm (by omega)))⟩
