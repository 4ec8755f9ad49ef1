/-! ===== THE CLASS: Regions, what all ways come through ===== -/
def cntB (p : Nat → Bool) : Nat → Nat
  | 0 => 0
  | n + 1 => cntB p n + (if p n = true then 1 else 0)
theorem cnt_max (p : Nat → Bool) : ∀ n, cntB p n ≤ n
  | 0 => Nat.le_refl 0
  | n + 1 => by
    have := cnt_max p n
    rw [cntB]
    split <;> omega
theorem cnt_le {p q : Nat → Bool} : ∀ n, (∀ i, i < n → p i = true → q i = true) → cntB p n ≤ cntB q n
  | 0, h => Nat.le_refl 0
  | n + 1, h => by
    have := cnt_le n (fun i hi => h i (by omega))
    rw [cntB, cntB]
    by_cases c : p n = true
    · rw [if_pos c, if_pos (h n (by omega) c)]; omega
    · rw [if_neg c]; split <;> omega
theorem cnt_lt {p q : Nat → Bool} : ∀ n, (∀ i, i < n → p i = true → q i = true) → (∃ i, i < n ∧ q i = true ∧ p i = false) → cntB p n < cntB q n
  | 0, h, ⟨i, hi, _⟩ => absurd hi (by omega)
  | n + 1, h, ⟨i, hi, e1, e2⟩ => by
    rw [cntB, cntB]
    by_cases c : i = n
    · subst c
      have := cnt_le i (fun j hj => h j (by omega))
      rw [if_pos e1, if_neg (by rw [e2]; decide)]; omega
    · have := cnt_lt n (fun j hj => h j (by omega)) ⟨i, by omega, e1, e2⟩
      by_cases c2 : p n = true
      · rw [if_pos c2, if_pos (h n (by omega) c2)]; omega
      · rw [if_neg c2]; split <;> omega
def pot (B : Nat → Nat → Int64) (C : Nat) : Nat := cntB (fun i => msk B 36 (i / 128) (i % 128)) (128 * C)
/-- what is true of the marks all the while -/
def PI (X : Nat → Nat → Int32) (C : Nat) (W : Nat → Int32) (B : Nat → Nat → Int64) : Prop := (∀ j, j < C → 0 ≤ W j → ∀ m, m < C → ¬ CE X C j (nI m) → msk B 36 j m = true) ∧ ∀ j, j < C → X 176 j = 9 → ∀ m, m < 128 → msk B 36 j m = true → m = j
def PS (B B' : Nat → Nat → Int64) : Prop := (∀ q, ¬ q = 37 → ¬ q = 38 → B' q = B q) ∧ ∀ r m, m < 128 → msk B' 36 r m = true → msk B 36 r m = true
def PE (B B' : Nat → Nat → Int64) : Prop := ∀ r m, m < 128 → msk B' 36 r m = msk B 36 r m
/-- row k is narrowed as far as its way w asks -/
def PC (X : Nat → Nat → Int32) (C : Nat) (B : Nat → Nat → Int64) (k w : Nat) : Prop := ∀ t, t < C → r_nx X k (nI w) = nI t → ∀ m, m < 128 → msk B 36 k m = true → msk B 36 t m = true ∨ m = k
def NS (X : Nat → Nat → Int32) (C : Nat) (W : Nat → Int32) (k w : Nat) (B B' : Nat → Nat → Int64) (ch : Bool) : Prop := PS B B' ∧ (PI X C W B → PI X C W B') ∧ (ch = false → PE B B' ∧ PC X C B k w) ∧ (ch = true → ∃ m, m < 128 ∧ msk B 36 k m = true ∧ msk B' 36 k m = false)
theorem CE_nm {X : Nat → Nat → Int32} {C k w t m : Nat} (hk : k < C) (hw : w < 2) (ht : t < C) (e : r_nx X k (nI w) = nI t) (hm : ¬ nI k = nI m) (h : CE X C t (nI m)) : CE X C k (nI m) := ⟨hm, fun T h1 h2 => h.2 T (h2 k hk h1 w hw t ht e h.1) h2⟩
theorem NS_of {X : Nat → Nat → Int32} {C : Nat} {W : Nat → Int32} (hC : C ≤ 100) (hW : HL X C W) {k w t : Nat} (hk : k < C) (h0 : 0 ≤ W k) (hw : w < 2) (ht : t < C) (et : r_nx X k (nI w) = nI t) {B B' : Nat → Nat → Int64} {ch : Bool} (h1 : ∀ q, ¬ q = 37 → ¬ q = 38 → B' q = B q) (h2 : ∀ r1 m1, m1 < 128 → msk B' 36 r1 m1 = (msk B 36 r1 m1 && (decide (¬ r1 = k) || (msk B 36 t m1 || decide (m1 = k))))) (h3 : ch = false → ∀ r1 m1, m1 < 128 → msk B' 36 r1 m1 = msk B 36 r1 m1) (h4 : ch = true → ∃ m1, m1 < 128 ∧ msk B 36 k m1 = true ∧ msk B' 36 k m1 = false) : NS X C W k w B B' ch := by
  have sub : ∀ r m, m < 128 → msk B' 36 r m = true → msk B 36 r m = true := fun r m hm q => by
    rw [h2 r m hm, Bool.and_eq_true] at q; exact q.1
  refine ⟨⟨h1, sub⟩, fun hP => ⟨fun j hj j0 m hm hn => ?_, fun j hj h9 m hm q => hP.2 j hj h9 m hm (sub j m hm q)⟩, fun hc => ⟨h3 hc, fun t' ht' et' m hm q => ?_⟩, h4⟩
  · rw [h2 j m (by omega), hP.1 j hj j0 m hm hn, Bool.true_and]
    by_cases u : j = k
    · subst u
      by_cases v : m = j
      · rw [decide_eq_true v]; simp
      · have t0 : 0 ≤ W t := by
          rcases (HL_RC hW j ⟨hj, j0⟩).2 w hw with z | ⟨t', ⟨_, z0⟩, z⟩
          · rw [et] at z; exact absurd z (i32_nlt0 (by omega))
          · obtain rfl := nI_inj (by omega) (by have := (HL_RC hW j ⟨hj, j0⟩).1; omega) (et.symm.trans z)
            exact z0
        rw [hP.1 t ht t0 m hm (fun q => hn (CE_nm hj hw ht et (fun z => v (nI_inj (by omega) (by omega) z).symm) q))]; simp
    · rw [decide_eq_true (p := ¬ j = k) u]; rfl
  · obtain rfl := nI_inj (by omega) (by omega) (et.symm.trans et')
    have e := h3 hc k m hm
    rw [h2 k m hm, q, decide_eq_false (p := ¬ k = k) (fun z => z rfl)] at e
    by_cases v : m = k
    · exact Or.inr v
    · rw [decide_eq_false v] at e
      simp at e
      exact Or.inl e
theorem NS_no {X : Nat → Nat → Int32} {C : Nat} {W : Nat → Int32} {k w : Nat} (h : ∀ t, t < C → ¬ r_nx X k (nI w) = nI t) (B : Nat → Nat → Int64) : NS X C W k w B B false := ⟨⟨fun _ _ _ => rfl, fun _ _ _ q => q⟩, fun q => q, fun _ => ⟨fun _ _ _ => rfl, fun t ht e => absurd e (h t ht)⟩, fun q => Bool.noConfusion q⟩
theorem bz_or (a b : Bool) : bz a ||| bz b = bz (a || b) := by cases a <;> cases b <;> decide
theorem PS_tr {B B1 B2 : Nat → Nat → Int64} (h1 : PS B B1) (h2 : PS B1 B2) : PS B B2 := ⟨fun q a b => by rw [h2.1 q a b, h1.1 q a b], fun r m hm q => h1.2 r m hm (h2.2 r m hm q)⟩
theorem PC_cg {X : Nat → Nat → Int32} {C : Nat} {B B' : Nat → Nat → Int64} {k w : Nat} (h : PE B B') (hc : PC X C B k w) : PC X C B' k w := fun t ht e m hm q => by
  rw [h k m hm] at q
  rw [h t m hm]
  exact hc t ht e m hm q
theorem q_narrow {l : Launch} {D : va_G} {cy : Nat → ClassId} {d n : Nat} {f : sw_F} {s : Nat → Int32} {A : Nat → Nat → Int32} {B : Nat → Nat → Int64} {o : Int64} {pr : Value} (hd : 1 ≤ d) {C : Nat} (hC : s 12 = nI C) (hCb : C ≤ 100) (hW : HL (VA (A 29) (A 30)) C (A 32)) {k w : Nat} (hk : k < C) (h0 : 0 ≤ A 32 k) (hw : w < 2) : sw_Ct l D cy mX5_narrow d 0 0 [.ref 36, .int (nI k), .int (cnx s (A 29) (A 30) (nI k) (nI w))] n (gd f s A B o pr) (fun r' n' f' => n' = n ∧ ∃ ch B', r' = some (.int (bz ch)) ∧ f' = (gd f s A B' o pr) ∧ NS (VA (A 29) (A 30)) C (A 32) k w B B' ch) := by
  rcases cnx_r (K := A 29) (E := A 30) hC hCb hk hw with ⟨e, hno⟩ | ⟨t, ht, e, et⟩
  · rw [e]
    refine sw_Ct_mono (fun r' n' f' hq => ?_) (c_X5_narrow0 (d := d) hd (show k < 100 by omega))
    obtain ⟨h1, h2, h3⟩ := hq
    exact ⟨h2, false, B, h1, h3, NS_no hno B⟩
  · rw [e]
    refine sw_Ct_mono (fun r' n' f' hq => ?_) (c_X5_narrow (d := d) hd (show k < 100 by omega) (show t < 100 by omega))
    obtain ⟨h1, ch, B', h2, h3, h4, h5, h6, h7⟩ := hq
    exact ⟨h1, ch, B', h2, h3, NS_of hCb hW hk h0 hw ht et h4 h5 h6 h7⟩
theorem pot_le {B B' : Nat → Nat → Int64} {C : Nat} (h : PS B B') : pot B' C ≤ pot B C := cnt_le _ (fun i _ q => h.2 _ _ (Nat.mod_lt _ (by decide)) q)
theorem pot_lt {B B' : Nat → Nat → Int64} {C k : Nat} (h : PS B B') (hk : k < C) (hw : ∃ m, m < 128 ∧ msk B 36 k m = true ∧ msk B' 36 k m = false) : pot B' C < pot B C := by
  obtain ⟨m, hm, e1, e2⟩ := hw
  refine cnt_lt _ (fun i _ q => h.2 _ _ (Nat.mod_lt _ (by decide)) q) ⟨128 * k + m, by omega, ?_, ?_⟩
  · show msk B 36 ((128 * k + m) / 128) ((128 * k + m) % 128) = true
    rw [show (128 * k + m) / 128 = k by omega, show (128 * k + m) % 128 = m by omega]; exact e1
  · show msk B' 36 ((128 * k + m) / 128) ((128 * k + m) % 128) = false
    rw [show (128 * k + m) / 128 = k by omega, show (128 * k + m) % 128 = m by omega]; exact e2
set_option maxRecDepth 100000 in
theorem l_X9_na {l : Launch} {D : va_G} {cy : Nat → ClassId} {d n : Nat} {f : sw_F} {s : Nat → Int32} {A : Nat → Nat → Int32} {B : Nat → Nat → Int64} {o : Int64} {pr : Value} (hd : 2 ≤ d) {C : Nat} (hC : s 12 = nI C) (hCb : C ≤ 100) (hW : HL (VA (A 29) (A 30)) C (A 32)) {QX : sw_QX} : ∀ (k : Nat) (ch : Bool) (B' : Nat → Nat → Int64), k ≤ C → PS B B' → PI (VA (A 29) (A 30)) C (A 32) B' → (ch = false → PE B B' ∧ ∀ j, k ≤ j → j < C → 0 ≤ A 32 j → ∀ w, w < 2 → PC (VA (A 29) (A 30)) C B' j w) → (ch = true → pot B' C < pot B C) → SW l D cy mX9_narrowAll d 0 0 0 0 12 [(0, .ref 35), (1, .int (bz (ch))), (2, .int (nI k - 1))] [] n (gd f s A B' o pr) (fun r' n' f' => n' = n ∧ ∃ ch B', r' = some (.int (bz ch)) ∧ f' = (gd f s A B' o pr) ∧ PS B B' ∧ PI (VA (A 29) (A 30)) C (A 32) B' ∧ (ch = false → PE B B' ∧ ∀ j, j < C → 0 ≤ A 32 j → ∀ w, w < 2 → PC (VA (A 29) (A 30)) C B' j w) ∧ (ch = true → pot B' C < pot B C)) QX := by
  intro k
  induction k with
  | zero =>
    intro ch B' hk hS hI hz hp
    refine sw_iload_n dX9_narrowAll_12 rfl ?_
    refine sw_top (y := -1) (by decide) ?_
    refine sw_if_lt 74 dX9_narrowAll_13 (by decide) (fun h13 => ?_) (fun h13 => ?_)
    · refine sw_iload_n dX9_narrowAll_74 rfl ?_
      exact sw_iret dX9_narrowAll_75 rfl (by first | rfl | exact bz_n _) (by omega) (by omega) ⟨rfl, ch, B', rfl, rfl, hS, hI, fun h => ⟨(hz h).1, fun j hj => (hz h).2 j (Nat.zero_le j) hj⟩, hp⟩
    · exact absurd nlt_m1 h13
  | succ k ih =>
    intro ch B' hk hS hI hz hp
    rw [nI_pred]
    have dc : ∀ (c : Bool) (B2 : Nat → Nat → Int64), PS B B2 → PI (VA (A 29) (A 30)) C (A 32) B2 → (c = false → PE B B2 ∧ ∀ j, k ≤ j → j < C → 0 ≤ A 32 j → ∀ w, w < 2 → PC (VA (A 29) (A 30)) C B2 j w) → (c = true → pot B2 C < pot B C) → SW l D cy mX9_narrowAll d 0 0 0 0 68 [(0, .ref 35), (1, .int (bz (c))), (2, .int (nI k))] [] n (gd f s A B2 o pr) (fun r' n' f' => n' = n ∧ ∃ ch B', r' = some (.int (bz ch)) ∧ f' = (gd f s A B' o pr) ∧ PS B B' ∧ PI (VA (A 29) (A 30)) C (A 32) B' ∧ (ch = false → PE B B' ∧ ∀ j, j < C → 0 ≤ A 32 j → ∀ w, w < 2 → PC (VA (A 29) (A 30)) C B' j w) ∧ (ch = true → pot B' C < pot B C)) QX := fun c B2 h1 h2 h3 h4 => by
      refine sw_dec0 [(0, _), (1, _), (2, .int (nI k - 1))] dX9_narrowAll_68 rfl (by decide) rfl ?_
      refine sw_goto 12 dX9_narrowAll_71 (by decide) ?_
      exact ih c B2 (by omega) h1 h2 h3 h4
    refine sw_iload_n dX9_narrowAll_12 rfl ?_
    refine sw_if_lt 74 dX9_narrowAll_13 (by decide) (fun h13 => ?_) (fun h13 => ?_)
    · exact absurd h13 (i32_nlt0 (by omega))
    · refine sw_aload_n dX9_narrowAll_16 rfl (by first | rfl | assumption) ?_
      refine sw_get dX9_narrowAll_17 fr_X9_33 rfl rfl ?_
      refine sw_iload_n dX9_narrowAll_20 rfl ?_
      refine sw_Vv dX9_narrowAll_21 k_X9_50 mf_X10_heightAt (c_X10_heightAt (d := d - 1) (B := B') (by omega) hC hCb (nI k)) rfl ⟨_, rfl, rfl⟩ (by omega) (by omega) (by omega) rfl rfl (Nat.le_of_ble_eq_true rfl) ?_
      refine sw_top (y := A 32 k) (cat_n hC hCb (by omega)) ?_
      refine sw_iconst (x := (-1)) dX9_narrowAll_24 (by decide) ?_
      refine sw_icmp_eq 68 dX9_narrowAll_25 (by decide) (fun h25 => ?_) (fun h25 => ?_)
      · refine dc ch B' hS hI (fun h => ⟨(hz h).1, fun j h1 h2 h3 w hw => ?_⟩) hp
        by_cases u : j = k
        · subst u; rw [h25] at h3; exact absurd h3 (by decide)
        · exact (hz h).2 j (by omega) h2 h3 w hw
      · have a0 : 0 ≤ A 32 k := by rcases hW.2.1 k (by omega) with z | ⟨q, hq, z⟩; exact absurd z h25; exact (m1_not hq z).2
        refine sw_iload_n dX9_narrowAll_28 rfl ?_
        refine sw_aload_n dX9_narrowAll_29 rfl (by first | rfl | assumption) ?_
        refine sw_get dX9_narrowAll_30 fr_X9_12 rfl rfl ?_
        refine sw_iload_n dX9_narrowAll_33 rfl ?_
        refine sw_aload_n dX9_narrowAll_34 rfl (by first | rfl | assumption) ?_
        refine sw_get dX9_narrowAll_35 fr_X9_29 rfl rfl ?_
        refine sw_iload_n dX9_narrowAll_38 rfl ?_
        refine sw_iconst (x := 0) dX9_narrowAll_39 (by decide) ?_
        refine sw_Vv dX9_narrowAll_40 k_X9_76 mf_X0_nextOf (c_X0_nextOf (d := d - 1) (s := s) (A := A) (B := B') (by omega) hC hCb (nI k) 0) rfl ⟨_, rfl, rfl⟩ (by omega) (by omega) (by omega) rfl rfl (Nat.le_of_ble_eq_true rfl) ?_
        refine sw_callV dX9_narrowAll_43 k_X9_80 mf_X5_narrow ⟨_, rfl, rfl⟩ rfl (q_narrow (d := d - 1) (B := B') (w := 0) (by omega) hC hCb hW (show k < C by omega) a0 (by decide)) (by omega) ⟨by omega, by omega⟩ rfl rfl (Nat.le_of_ble_eq_true rfl) (fun r' n' f' hq _ => ?_)
        obtain ⟨hn, c1, B1, hr', hf', z1⟩ := hq
        have hn := hn.symm
        subst hn
        subst hr'
        subst hf'
        show SW l D cy mX9_narrowAll d 0 0 0 0 46 [(0, .ref 35), (1, .int (bz (ch))), (2, .int (nI k))] [.int (bz c1), .int (bz ch)] n (gd f s A B1 o pr) _ _
        refine sw_ior dX9_narrowAll_46 ?_
        refine sw_top (y := bz (ch || c1)) (bz_or _ _) ?_
        refine sw_istore_n [(0, _), (1, _), (2, _)] dX9_narrowAll_47 (by decide) rfl ?_
        refine sw_iload_n dX9_narrowAll_48 rfl ?_
        refine sw_aload_n dX9_narrowAll_49 rfl (by first | rfl | assumption) ?_
        refine sw_get dX9_narrowAll_50 fr_X9_12 rfl rfl ?_
        refine sw_iload_n dX9_narrowAll_53 rfl ?_
        refine sw_aload_n dX9_narrowAll_54 rfl (by first | rfl | assumption) ?_
        refine sw_get dX9_narrowAll_55 fr_X9_29 rfl rfl ?_
        refine sw_iload_n dX9_narrowAll_58 rfl ?_
        refine sw_iconst (x := 1) dX9_narrowAll_59 (by decide) ?_
        refine sw_Vv dX9_narrowAll_60 k_X9_76 mf_X0_nextOf (c_X0_nextOf (d := d - 1) (s := s) (A := A) (B := B1) (by omega) hC hCb (nI k) 1) rfl ⟨_, rfl, rfl⟩ (by omega) (by omega) (by omega) rfl rfl (Nat.le_of_ble_eq_true rfl) ?_
        refine sw_callV dX9_narrowAll_63 k_X9_80 mf_X5_narrow ⟨_, rfl, rfl⟩ rfl (q_narrow (d := d - 1) (B := B1) (w := 1) (by omega) hC hCb hW (show k < C by omega) a0 (by decide)) (by omega) ⟨by omega, by omega⟩ rfl rfl (Nat.le_of_ble_eq_true rfl) (fun r' n' f' hq _ => ?_)
        obtain ⟨hn, c2, B2, hr', hf', z2⟩ := hq
        have hn := hn.symm
        subst hn
        subst hr'
        subst hf'
        show SW l D cy mX9_narrowAll d 0 0 0 0 66 [(0, .ref 35), (1, .int (bz (ch || c1))), (2, .int (nI k))] [.int (bz c2), .int (bz (ch || c1))] n (gd f s A B2 o pr) _ _
        refine sw_ior dX9_narrowAll_66 ?_
        refine sw_top (y := bz (ch || c1 || c2)) (bz_or _ _) ?_
        refine sw_istore_n [(0, _), (1, _), (2, _)] dX9_narrowAll_67 (by decide) rfl ?_
        refine dc (ch || c1 || c2) B2 (PS_tr (PS_tr hS z1.1) z2.1) (z2.2.1 (z1.2.1 hI)) (fun hc => ?_) (fun hc => ?_)
        · rw [Bool.or_eq_false_iff, Bool.or_eq_false_iff] at hc
          obtain ⟨⟨u1, u2⟩, u3⟩ := hc
          obtain ⟨v1, v2⟩ := hz u1
          obtain ⟨x1, x2⟩ := z1.2.2.1 u2
          obtain ⟨y1, y2⟩ := z2.2.2.1 u3
          have eq12 : PE B' B2 := fun r m hm => (y1 r m hm).trans (x1 r m hm)
          refine ⟨fun r m hm => (eq12 r m hm).trans (v1 r m hm), fun j h1 h2 h3 w hw => ?_⟩
          by_cases u : j = k
          · subst u
            obtain rfl | rfl : w = 0 ∨ w = 1 := by omega
            · exact PC_cg eq12 x2
            · exact PC_cg y1 y2
          · exact PC_cg eq12 (v2 j (by omega) h2 h3 w hw)
        · have p1 := pot_le (C := C) hS
          have p2 := pot_le (C := C) z1.1
          have p3 := pot_le (C := C) z2.1
          by_cases u3 : c2 = true
          · have := pot_lt (C := C) z2.1 (show k < C by omega) (z2.2.2.2 u3)
            omega
          · by_cases u2 : c1 = true
            · have := pot_lt (C := C) z1.1 (show k < C by omega) (z1.2.2.2 u2)
              omega
            · have u1 : ch = true := by
                cases ch with
                | true => rfl
                | false =>
                  rw [Bool.not_eq_true] at u2 u3
                  rw [u2, u3] at hc
                  exact hc
              have := hp u1
              omega
set_option maxRecDepth 100000 in
theorem c_X9_narrowAll {l : Launch} {D : va_G} {cy : Nat → ClassId} {d n : Nat} {f : sw_F} {s : Nat → Int32} {A : Nat → Nat → Int32} {B : Nat → Nat → Int64} {o : Int64} {pr : Value} (hd : 2 ≤ d) {C : Nat} (hC : s 12 = nI C) (hCb : C ≤ 100) (hW : HL (VA (A 29) (A 30)) C (A 32)) (hI : PI (VA (A 29) (A 30)) C (A 32) B) : sw_Ct l D cy mX9_narrowAll d 0 0 [.ref 35] n (gd f s A B o pr) (fun r' n' f' => n' = n ∧ ∃ ch B', r' = some (.int (bz ch)) ∧ f' = (gd f s A B' o pr) ∧ PS B B' ∧ PI (VA (A 29) (A 30)) C (A 32) B' ∧ (ch = false → PE B B' ∧ ∀ j, j < C → 0 ≤ A 32 j → ∀ w, w < 2 → PC (VA (A 29) (A 30)) C B' j w) ∧ (ch = true → pot B' C < pot B C)) := by
  refine sw_of rfl (Nat.le_of_ble_eq_true rfl) ?_
  show SW l D cy mX9_narrowAll d 0 0 0 0 0 [(0, .ref 35)] [] n (gd f s A B o pr) _ _
  refine sw_iconst (x := 0) dX9_narrowAll_0 (by decide) ?_
  refine sw_istore_n [(0, _), (1, _)] dX9_narrowAll_1 (by decide) rfl ?_
  refine sw_aload_n dX9_narrowAll_2 rfl (by first | rfl | assumption) ?_
  refine sw_get dX9_narrowAll_3 fr_X9_29 rfl rfl ?_
  refine sw_Vv dX9_narrowAll_6 k_X9_40 mf_X0_size (c_X0_size (d := d - 1)) rfl ⟨_, rfl, rfl⟩ (by omega) (by omega) (by omega) rfl rfl (Nat.le_of_ble_eq_true rfl) ?_
  refine sw_top (y := nI C) hC ?_
  refine sw_iconst (x := 1) dX9_narrowAll_9 (by decide) ?_
  refine sw_isub dX9_narrowAll_10 ?_
  refine sw_istore_n [(0, _), (1, _), (2, _)] dX9_narrowAll_11 (by decide) rfl ?_
  exact l_X9_na hd hC hCb hW C false B (Nat.le_refl C) ⟨fun _ _ _ => rfl, fun _ _ _ q => q⟩ hI (fun _ => ⟨fun _ _ _ => rfl, fun j h1 h2 => absurd h2 (by omega)⟩) (fun h => Bool.noConfusion h)
