/-! ===== the reference's labels of code: the rounds ===== -/
theorem rk_1 {N : Nat} {J : Int32 → Int32 → Int32} (hJ : SL N J) {x : Int32} (hx : lv N x) : 1 ≤ rk N J x := by
  obtain ⟨i, hi, rfl⟩ := hx
  have z : ∀ n, cntB (fun _ => false) n = 0 := fun n => by
    induction n with
    | zero => rfl
    | succ n ih => rw [cntB, ih]; rfl
  have h := cnt_lt (p := fun _ => false) (q := fun j => decide (J (nI j) (nI i) = nI i)) N (fun _ _ q => absurd q (by decide)) ⟨i, hi, decide_eq_true (hJ.2.1 _ ⟨i, hi, rfl⟩), rfl⟩
  rw [z] at h
  exact h
theorem phC_max {N C : Nat} {J : Int32 → Int32 → Int32} (hJ : SL N J) (hCb : C ≤ 100) {L : CL} (h : COK N C L) : phC N J C L ≤ 8500 := by
  have a := sum_max (g := fun i => 6 - rk N J (L.1 i)) (b := 5) (16 * C) (fun i hi => by have := rk_1 hJ (h.1 i hi); show 6 - rk N J (L.1 i) ≤ 5; omega)
  have b := sum_max (g := fun k => 6 - rk N J (L.2.1 k)) (b := 5) C (fun k hk => by have := rk_1 hJ (h.2 k hk); show 6 - rk N J (L.2.1 k) ≤ 5; omega)
  unfold phC
  omega
theorem hd0 : ∀ h, h < 9 → ∀ q, q < 9 → nI h - 0 = nI q → h = q := by decide
theorem hd1 : ∀ h, h < 9 → ∀ q, q < 9 → nI h - 1 = nI q → h = q + 1 := by decide
theorem hd2 : ∀ h, h < 9 → ∀ q, q < 9 → nI h - 2 = nI q → h = q + 2 := by decide
section LCS
variable {N C : Nat} {A : Nat → Nat → Int32} {x0 : Int32}
abbrev lftA (A : Nat → Nat → Int32) (h k : Nat) (R : Nat → Int32) : Nat → Int32 := lft (jI A) (A 176) (A 177) h k R
/-- what k puts on, or stores -/
theorem lLx_lft (hJ : SL N (jI A)) (hp : PL A C) {k h q : Nat} (hK : KO A C k h q) {L : CL} (hL : COK N C L) : (A 176 k = 2 → lftA A h k (yL L k) (A 177 k).toNatClampNeg = lLx A L k h q) ∧ (r_gb (A 176 k) = 1 → lftA A h k (yL L k) (9 + q) = lLx A L k h q) := by
  obtain ⟨hk, eh, h8, hq, htb, hgb, hv, hnx⟩ := hK
  obtain ⟨p1, p2, p3, p4⟩ := hp.2 k hk
  have cl : lv N (L.2.1 k) := hL.2 k hk
  rcases kd_c (A 176 k) p1 p2 with c | c | c | c | c | c | c
  · have e1 : r_tb (A 176 k) = 0 := by rw [c]; decide
    rw [e1] at htb
    have e := hd0 h (by omega) q (by omega) htb
    subst e
    refine ⟨fun z => absurd z (by rw [c]; decide), fun _ => ?_⟩
    unfold lftA lft lLx lv0
    rw [if_pos c, upd_at, Nat.sub_self, if_neg (by rw [c]; decide)]
    rfl
  · have e1 : r_tb (A 176 k) = 0 := by rw [c]; decide
    rw [e1] at htb
    have e := hd0 h (by omega) q (by omega) htb
    subst e
    obtain ⟨v, v1, v2⟩ := hv c
    refine ⟨fun z => absurd z (by rw [c]; decide), fun _ => ?_⟩
    unfold lftA lft lLx lv0
    rw [if_neg (by rw [c]; decide), if_pos c, upd_at, Nat.sub_self, if_pos c, v2, nI_clamp (by omega), yL_v _ v1]
    rfl
  · have e1 : r_tb (A 176 k) = 1 := by rw [c]; decide
    rw [e1] at htb
    have e := hd1 h (by omega) q (by omega) htb
    subst e
    refine ⟨fun _ => ?_, fun z => absurd z (by rw [c]; decide)⟩
    unfold lftA lft lLx lv0
    rw [if_neg (by rw [c]; decide), if_neg (by rw [c]; decide), if_pos c, upd_at, show q + 1 - q = 1 by omega, if_neg (by rw [c]; decide), show 9 + (q + 1) - 1 = 9 + q by omega, yL_s]
    rfl
  · have e1 : r_tb (A 176 k) = 2 ∧ ¬ A 176 k = 0 ∧ ¬ A 176 k = 1 ∧ ¬ A 176 k = 2 := by rcases c with z | z | z | z <;> rw [z] <;> decide
    rw [e1.1] at htb
    have e := hd2 h (by omega) q (by omega) htb
    subst e
    refine ⟨fun z => absurd z e1.2.2.2, fun _ => ?_⟩
    unfold lftA lft lLx lv0
    rw [if_neg e1.2.1, if_neg e1.2.2.1, if_neg e1.2.2.2, if_pos c, show 9 + (q + 2) - 2 = 9 + q by omega, upd_at, show q + 2 - q = 2 by omega, if_neg e1.2.2.1, show 9 + (q + 2) - 1 = 9 + (q + 1) by omega, yL_s, yL_s]
    show jI A (L.2.1 k) (jI A (L.1 (16 * k + 8 + q)) (L.1 (16 * k + 8 + (q + 1)))) = jI A (jI A (L.2.1 k) (L.1 (16 * k + 8 + q))) (L.1 (16 * k + 8 + (q + 1)))
    rw [hJ.2.2.2 _ _ _ cl (hL.1 _ (by omega)) (hL.1 _ (by omega))]
  · exact ⟨fun z => absurd z (by rw [c]; decide), fun z => absurd z (by rw [c]; decide)⟩
  · exact ⟨fun z => absurd z (by rw [c]; decide), fun z => absurd z (by rw [c]; decide)⟩
  · exact ⟨fun z => absurd z (by rw [c]; decide), fun z => absurd z (by rw [c]; decide)⟩
theorem lft_ne (hp : PL A C) {k h q : Nat} (hK : KO A C k h q) (R : Nat → Int32) {a : Nat} (h1 : A 176 k = 2 → ¬ a = (A 177 k).toNatClampNeg) (h2 : r_gb (A 176 k) = 1 → ¬ a = 9 + q) : lftA A h k R a = R a := by
  obtain ⟨hk, eh, h8, hq, htb, hgb, hv, hnx⟩ := hK
  obtain ⟨p1, p2, p3, p4⟩ := hp.2 k hk
  unfold lftA lft
  rcases kd_c (A 176 k) p1 p2 with c | c | c | c | c | c | c
  · have e1 : r_tb (A 176 k) = 0 := by rw [c]; decide
    rw [e1] at htb
    have e := hd0 h (by omega) q (by omega) htb
    rw [if_pos c, upd_nq _ (by rw [e]; exact h2 (by rw [c]; decide))]
  · have e1 : r_tb (A 176 k) = 0 := by rw [c]; decide
    rw [e1] at htb
    have e := hd0 h (by omega) q (by omega) htb
    rw [if_neg (by rw [c]; decide), if_pos c, upd_nq _ (by rw [e]; exact h2 (by rw [c]; decide))]
  · rw [if_neg (by rw [c]; decide), if_neg (by rw [c]; decide), if_pos c, upd_nq _ (h1 c)]
  · have e1 : r_tb (A 176 k) = 2 ∧ ¬ A 176 k = 0 ∧ ¬ A 176 k = 1 ∧ ¬ A 176 k = 2 ∧ r_gb (A 176 k) = 1 := by rcases c with z | z | z | z <;> rw [z] <;> decide
    rw [e1.1] at htb
    have e := hd2 h (by omega) q (by omega) htb
    rw [if_neg e1.2.1, if_neg e1.2.2.1, if_neg e1.2.2.2.1, if_pos c, upd_nq _ (by rw [e, show 9 + (q + 2) - 2 = 9 + q by omega]; exact h2 e1.2.2.2.2)]
  · rw [if_neg (by rw [c]; decide), if_neg (by rw [c]; decide), if_neg (by rw [c]; decide), if_neg (by rw [c]; decide)]
  · rw [if_neg (by rw [c]; decide), if_neg (by rw [c]; decide), if_neg (by rw [c]; decide), if_neg (by rw [c]; decide)]
  · rw [if_neg (by rw [c]; decide), if_neg (by rw [c]; decide), if_neg (by rw [c]; decide), if_neg (by rw [c]; decide)]
theorem ko_lm (hp : PL A C) {k h q : Nat} (hK : KO A C k h q) : h ≤ 8 ∧ (A 176 k = 1 ∨ A 176 k = 2 → (A 177 k).toNatClampNeg < 8) ∧ (A 176 k = 2 → 1 ≤ h) ∧ ((A 176 k = 3 ∨ A 176 k = 4 ∨ A 176 k = 5 ∨ A 176 k = 6) → 2 ≤ h) := by
  obtain ⟨hk, eh, h8, hq, htb, hgb, hv, hnx⟩ := hK
  refine ⟨h8, fun z => ?_, fun z => ?_, fun z => ?_⟩
  · obtain ⟨a, b⟩ := (hp.2 k hk).2.2.1 z
    obtain ⟨v, v1, v2⟩ := i32_to a (by rw [← nl_8]; exact b) (by decide)
    rw [v2, nI_clamp (by omega)]
    exact v1
  · rw [z, show r_tb 2 = 1 by decide] at htb
    have := hd1 h (by omega) q (by omega) htb
    omega
  · have e1 : r_tb (A 176 k) = 2 := by rcases z with z | z | z | z <;> rw [z] <;> decide
    rw [e1] at htb
    have := hd2 h (by omega) q (by omega) htb
    omega
/-- L is below Z where it counts -/
def UBZ (A : Nat → Nat → Int32) (C : Nat) (L : CL) (Z : Nat → Nat → Int32) : Prop := ∀ k, k < C → 0 ≤ A 178 k → ∀ a, a < 9 + hn (A 178) k → jle (jI A) (yL L k a) (Z k a)
abbrev LSA (N : Nat) (A : Nat → Nat → Int32) (C : Nat) (Z : Nat → Nat → Int32) : Prop := LSo N (jI A) (A 176) (A 177) (A 178) (A 153) C Z
theorem hn_8 (hW : HL A C (A 178)) {k : Nat} (hk : k < C) : hn (A 178) k ≤ 8 := by
  unfold hn
  rcases hW.2.1 k hk with c | ⟨h, h8, e⟩
  · rw [c]; decide
  · rw [e, nI_clamp (by omega)]; exact h8
theorem UB_v (hJ : SL N (jI A)) (hW : HL A C (A 178)) {L : CL} (hL : COK N C L) {Z : Nat → Nat → Int32} (hZ : ∀ k a, k < C → a < 17 → lv N (Z k a)) (hU : UBZ A C L Z) {t v : Nat} (ht : t < C) (hv : v < 8) {y : Int32} (hy : lv N y) (hle : jle (jI A) y (Z t v)) : UBZ A C (lcm A L (16 * t + v) y) Z := fun k hk h0 a ha => by
  have h8 := hn_8 hW hk
  have q := hU k hk h0 a ha
  by_cases c : k = t ∧ a = v
  · rw [c.1, c.2] at q ⊢
    rw [yL_v _ hv] at q ⊢
    show jle (jI A) (upd L.1 (16 * t + v) _ (16 * t + v)) _
    rw [upd_at]
    exact jle_j hJ (hL.1 _ (by omega)) hy (hZ t v ht (by omega)) q hle
  · have e : yL (lcm A L (16 * t + v) y) k a = yL L k a := by
      unfold yL
      split
      · exact upd_nq _ (by omega)
      · split
        · rfl
        · exact upd_nq _ (by omega)
    rw [e]
    exact q
theorem UB_s (hJ : SL N (jI A)) (hW : HL A C (A 178)) {L : CL} (hL : COK N C L) {Z : Nat → Nat → Int32} (hZ : ∀ k a, k < C → a < 17 → lv N (Z k a)) (hU : UBZ A C L Z) {t j : Nat} (ht : t < C) (hj : j < 8) {y : Int32} (hy : lv N y) (hle : jle (jI A) y (Z t (9 + j))) : UBZ A C (lcm A L (16 * t + 8 + j) y) Z := fun k hk h0 a ha => by
  have h8 := hn_8 hW hk
  have q := hU k hk h0 a ha
  by_cases c : k = t ∧ a = 9 + j
  · rw [c.1, c.2] at q ⊢
    rw [yL_s] at q ⊢
    show jle (jI A) (upd L.1 (16 * t + 8 + j) _ (16 * t + 8 + j)) _
    rw [upd_at]
    exact jle_j hJ (hL.1 _ (by omega)) hy (hZ t (9 + j) ht (by omega)) q hle
  · have e : yL (lcm A L (16 * t + 8 + j) y) k a = yL L k a := by
      unfold yL
      split
      · exact upd_nq _ (by omega)
      · split
        · rfl
        · exact upd_nq _ (by omega)
    rw [e]
    exact q
theorem UB_lVs (hN : N ≤ 6) (hJ : SL N (jI A)) (hW : HL A C (A 178)) {k t : Nat} (hk : k < C) (ht : t < C) (h0 : 0 ≤ A 178 k) {x : Int32} (hx : lv N x) {Z : Nat → Nat → Int32} (hZ : ∀ k a, k < C → a < 17 → lv N (Z k a)) (z1 : A 176 k = 2 → ∀ v, v < 8 → A 177 k = nI v → jle (jI A) x (Z t v)) (z2 : ∀ v, v < 8 → ¬ (A 176 k = 2 ∧ A 177 k = nI v) → jle (jI A) (Z k v) (Z t v)) : ∀ (c v : Nat) (L : CL), v + c ≤ 8 → COK N C L → UBZ A C L Z → UBZ A C (lVs A k t x v c L) Z
  | 0, v, L, hv, h, hU => hU
  | c + 1, v, L, hv, h, hU => by
    have hy : lv N (if A 176 k = 2 ∧ A 177 k = nI v then x else L.1 (16 * k + v)) := by
      split
      · exact hx
      · exact h.1 _ (by omega)
    refine UB_lVs hN hJ hW hk ht h0 hx hZ z1 z2 c (v + 1) _ (by omega) (CR_lcm hN hJ h (show 16 * t + v < 16 * C by omega) hy).1 (UB_v hJ hW h hZ hU ht (by omega) hy ?_)
    by_cases e : A 176 k = 2 ∧ A 177 k = nI v
    · rw [if_pos e]; exact z1 e.1 v (by omega) e.2
    · rw [if_neg e]
      have q := hU k hk h0 v (by omega)
      rw [yL_v _ (by omega)] at q
      exact jle_tr hJ (h.1 _ (by omega)) (hZ k v hk (by omega)) (hZ t v ht (by omega)) q (z2 v (by omega) e)
theorem UB_lSs (hN : N ≤ 6) (hJ : SL N (jI A)) (hW : HL A C (A 178)) {k t q : Nat} (hk : k < C) (ht : t < C) (h0 : 0 ≤ A 178 k) (hq : q ≤ hn (A 178) k) {Z : Nat → Nat → Int32} (hZ : ∀ k a, k < C → a < 17 → lv N (Z k a)) (z2 : ∀ j, j < q → jle (jI A) (Z k (9 + j)) (Z t (9 + j))) : ∀ (c j : Nat) (L : CL), j + c ≤ q → COK N C L → UBZ A C L Z → UBZ A C (lSs A k t j c L) Z
  | 0, v, L, hv, h, hU => hU
  | c + 1, j, L, hv, h, hU => by
    have h8 := hn_8 hW hk
    have hy : lv N (L.1 (16 * k + 8 + j)) := h.1 _ (by omega)
    refine UB_lSs hN hJ hW hk ht h0 hq hZ z2 c (j + 1) _ (by omega) (CR_lcm hN hJ h (show 16 * t + 8 + j < 16 * C by omega) hy).1 (UB_s hJ hW h hZ hU ht (by omega) hy ?_)
    have q2 := hU k hk h0 (9 + j) (by omega)
    rw [yL_s] at q2
    exact jle_tr hJ hy (hZ k (9 + j) hk (by omega)) (hZ t (9 + j) ht (by omega)) q2 (z2 j (by omega))
theorem nxA {k : Nat} (w : Int32) : r_nx (VA (A 176) (A 177)) k w = r_nx A k w := rfl
theorem tgt_h (hW : HL A C (A 178)) {k h q w t : Nat} (hK : KO A C k h q) (h0 : 0 ≤ A 178 k) (hw : w < 2) (ht : t < C) (e : r_nx A k (nI w) = nI t) (hCb : C ≤ 100) : hn (A 178) t = q + (if r_gb (A 176 k) = 1 then 1 else 0) ∧ 0 ≤ A 178 t := by
  have h8 := hK.2.2.1
  have hq := hK.2.2.2.1
  rcases (hW.1.2 k hK.1 h0).2.2.2 w hw with c | ⟨t', t1, t2, t3⟩
  · rw [e] at c; exact absurd c (i32_nlt0 (by omega))
  · have et : t = t' := nI_inj (by omega) (by omega) (e.symm.trans t2)
    rw [hK.2.1, hK.2.2.2.2.1] at t3
    have gb : r_gb (A 176 k) = 1 ∨ r_gb (A 176 k) = 0 := by unfold r_gb; split; exact Or.inl rfl; exact Or.inr rfl
    unfold hn
    rw [et, t3]
    rcases gb with g | g
    · rw [g, if_pos rfl, show nI q + 1 = nI (q + 1) from nI_1 q, nI_clamp (by omega)]
      exact ⟨rfl, Int32.not_lt.mp (i32_nlt0 (by omega))⟩
    · rw [g, if_neg (by decide), Int32.add_zero, nI_clamp (by omega)]
      exact ⟨rfl, Int32.not_lt.mp (i32_nlt0 (by omega))⟩
theorem UB_lWy (hCb : C ≤ 100) (hN : N ≤ 6) (hJ : SL N (jI A)) (hW : HL A C (A 178)) (hp : PL A C) {k h q w : Nat} (hK : KO A C k h q) (h0 : 0 ≤ A 178 k) (hw : w < 2) {x : Int32} (hx : lv N x) {Z : Nat → Nat → Int32} (hS : LSA N A C Z) {L0 : CL} (hL0 : COK N C L0) (hU0 : UBZ A C L0 Z) (ex : x = lLx A L0 k h q) {L : CL} (hL : COK N C L) (hU : UBZ A C L Z) : UBZ A C (lWy A k q w x L) Z := by
  have hZ := hS.1
  have hk := hK.1
  have h8 := hK.2.2.1
  have hq := hK.2.2.2.1
  have ehn : hn (A 178) k = h := by unfold hn; rw [hK.2.1, nI_clamp (by omega)]
  unfold lWy
  rcases hK.2.2.2.2.2.2.2 w hw with c | ⟨t, t1, t2⟩
  · rw [if_pos c]; exact hU
  · rw [t2, if_neg (i32_nlt0 (by omega)), nI_clamp (by omega)]
    obtain ⟨ht, ht0⟩ := tgt_h hW hK h0 hw t1 t2 hCb
    have lm := ko_lm hp hK
    have ld : ∀ a, a < 9 + hn (A 178) t → ¬ a = 8 → jle (jI A) (lftA A h k (Z k) a) (Z t a) := fun a ha h8 => by
      have := (hS.2.2 k hk h0).1 w hw t t1 t2 a ha h8
      rw [ehn] at this
      exact this
    have lfl := lft_lv (K := A 176) (E := A 177) hJ (h := h) (k := k) (R := yL L0 k) (fun a ha => by
      unfold yL
      split
      · exact hL0.1 _ (by omega)
      · split
        · exact hL0.2 k hk
        · exact hL0.1 _ (by omega)) lm.1 lm.2.1 lm.2.2.1 lm.2.2.2
    have lfz := lft_lv (K := A 176) (E := A 177) hJ (h := h) (k := k) (R := Z k) (fun a ha => hZ k a hk ha) lm.1 lm.2.1 lm.2.2.1 lm.2.2.2
    have lfm := lft_m (K := A 176) (E := A 177) hJ (h := h) (k := k) (R := yL L0 k) (S := Z k) (fun a ha => by
      unfold yL
      split
      · exact hL0.1 _ (by omega)
      · split
        · exact hL0.2 k hk
        · exact hL0.1 _ (by omega)) (fun a ha => hZ k a hk ha) lm.1 lm.2.1 lm.2.2.1 lm.2.2.2 (fun a ha => hU0 k hk h0 a (by rw [ehn]; exact ha))
    obtain ⟨xs, xg⟩ := lLx_lft hJ hp hK hL0
    unfold lTo
    have u1 := UB_lVs hN hJ hW hk t1 h0 hx hZ (fun c2 v hv ev => by
      have e := xs c2
      rw [ev, nI_clamp (by omega)] at e
      rw [ex, ← e]
      exact jle_tr hJ (lfl v (by omega)) (lfz v (by omega)) (hZ t v t1 (by omega)) (lfm v (by omega) (Or.inl (by omega))) (ld v (by omega) (by omega))) (fun v hv hn2 => by
      have e := lft_ne hp hK (Z k) (a := v) (fun c2 z => hn2 ⟨c2, by
        obtain ⟨a, b⟩ := (hp.2 k hk).2.2.1 (Or.inr c2)
        obtain ⟨v', v1, v2⟩ := i32_to a (by rw [← nl_8]; exact b) (by decide)
        rw [v2, nI_clamp (by omega)] at z
        rw [v2, z]⟩) (fun _ => by omega)
      rw [← e]
      exact ld v (by omega) (by omega)) 8 0 L (by omega) hL hU
    have k1 := (CR_lVs hN hJ hk t1 hx 8 0 L (by omega) hL).1.1
    have u2 := UB_lSs hN hJ hW hk t1 h0 (show q ≤ hn (A 178) k by rw [ehn]; exact hq) hZ (fun j hj => by
      have e := lft_ne hp hK (Z k) (a := 9 + j) (fun c2 z => by have := lm.2.1 (Or.inr c2); omega) (fun _ => by omega)
      rw [← e]
      exact ld (9 + j) (by rw [ht]; omega) (by omega)) q 0 _ (by omega) k1 u1
    have k2 := (CR_lSs hN hJ hk t1 q 0 _ (by omega) k1).1.1
    unfold lGs
    by_cases g : r_gb (A 176 k) = 1
    · rw [if_pos g]
      have q8 := hK.2.2.2.2.2.1 g
      refine UB_s hJ hW k2 hZ u2 t1 q8 hx ?_
      rw [ex, ← xg g]
      have e9 : 9 + q < 9 + hn (A 178) t := by rw [ht, if_pos g]; omega
      refine jle_tr hJ (lfl _ (by omega)) (lfz _ (by omega)) (hZ t _ t1 (by omega)) (lfm _ (by omega) ?_) (ld _ e9 (by omega))
      obtain ⟨p1, p2, _, _⟩ := hp.2 k hk
      have htb := hK.2.2.2.2.1
      rcases kd_c (A 176 k) p1 p2 with c | c | c | c | c | c | c
      · rw [c, show r_tb 0 = 0 by decide] at htb
        exact Or.inr ⟨by rw [hd0 h (by omega) q (by omega) htb], Or.inl c⟩
      · rw [c, show r_tb 1 = 0 by decide] at htb
        exact Or.inr ⟨by rw [hd0 h (by omega) q (by omega) htb], Or.inr c⟩
      · rw [c] at g; exact absurd g (by decide)
      · have e1 : r_tb (A 176 k) = 2 := by rcases c with z | z | z | z <;> rw [z] <;> decide
        rw [e1] at htb
        have := hd2 h (by omega) q (by omega) htb
        exact Or.inl (by omega)
      · rw [c] at g; exact absurd g (by decide)
      · rw [c] at g; exact absurd g (by decide)
      · rw [c] at g; exact absurd g (by decide)
    · rw [if_neg g]; exact u2

/-- what holds through the rounds -/
def CIv (N : Nat) (A : Nat → Nat → Int32) (x0 : Int32) (C : Nat) (L : CL) : Prop := COK N C L ∧ (∀ k, k < C → jle (jI A) (L.2.1 k) (fcx A L.1 k 0 C x0)) ∧ ∀ Z, LSA N A C Z → UBZ A C L Z
theorem CIv_up (hN : N ≤ 6) (hJO : JOK N A) (hJ : SL N (jI A)) (hW : HL A C (A 178)) (hb : lv N x0) {L L' : CL} (hL : COK N C L) (h1 : COK N C L') (hle : ∀ i, i < 16 * C → jle (jI A) (L.1 i) (L'.1 i)) {k : Nat} (hc : jle (jI A) (L'.2.1 k) (fcx A L.1 k 0 C x0)) (hk : k < C) : jle (jI A) (L'.2.1 k) (fcx A L'.1 k 0 C x0) :=
  jle_tr hJ (h1.2 k hk) (fcx_lv hN hJO (HL_HT hW) hL.1 C 0 x0 (by omega) hb) (fcx_lv hN hJO (HL_HT hW) h1.1 C 0 x0 (by omega) hb) hc (fcx_m hJO hN hJ (HL_HT hW) hL.1 h1.1 hle C 0 x0 x0 (by omega) hb hb (jle_rfl hJ hb))
def LCH (N : Nat) (A : Nat → Nat → Int32) (x0 : Int32) (C : Nat) : Prop := C ≤ 100 ∧ N ≤ 6 ∧ JOK N A ∧ SL N (jI A) ∧ lv N x0 ∧ (∀ x, lv N x → jle (jI A) x0 x) ∧ HL A C (A 178) ∧ PL A C ∧ RGO A C C (A 181) ∧ ∀ v, v < 8 → lv N (A 153 v)
theorem lVs_c (k t : Nat) (x : Int32) : ∀ (c v : Nat) (L : CL), (lVs A k t x v c L).2.1 = L.2.1
  | 0, _, _ => rfl
  | c + 1, v, L => by rw [lVs, lVs_c k t x c (v + 1)]; rfl
theorem lSs_c (k t : Nat) : ∀ (c v : Nat) (L : CL), (lSs A k t v c L).2.1 = L.2.1
  | 0, _, _ => rfl
  | c + 1, v, L => by rw [lSs, lSs_c k t c (v + 1)]; rfl
theorem lGs_c (k t q : Nat) (x : Int32) (L : CL) : (lGs A k t q x L).2.1 = L.2.1 := by
  unfold lGs
  split <;> rfl
theorem lWy_c (k q w : Nat) (x : Int32) (L : CL) : (lWy A k q w x L).2.1 = L.2.1 := by
  unfold lWy
  split
  · rfl
  · unfold lTo
    rw [lGs_c, lSs_c, lVs_c]
theorem lLv_c (L : CL) (k h q : Nat) : (lLv A L k h q).2.1 = L.2.1 := by
  unfold lLv
  rw [lWy_c, lWy_c]
section LCT
/-- instruction k is done with -/
def SK (A : Nat → Nat → Int32) (x0 : Int32) (C : Nat) (L : CL) (k : Nat) : Prop := 0 ≤ A 178 k → fcx A L.1 k 0 C x0 = L.2.1 k ∧ ∀ w, w < 2 → ∀ t, t < C → r_nx A k (nI w) = nI t → LTo A L k t (qN A k) (lLx A L k (hN A k) (qN A k))
theorem cSt_sp (H : LCH N A x0 C) {k : Nat} (hk : k < C) {L : CL} (h : CIv N A x0 C L) : CRl N (jI A) C L (cSt A x0 C k L) ∧ CIv N A x0 C (cSt A x0 C k L) ∧ ((cSt A x0 C k L).2.2 = false → SK A x0 C L k) := by
  obtain ⟨hCb, hN6, hJO, hJ, hb, hbo, hW, hp, hR, he⟩ := id H
  unfold cSt
  by_cases c : A 178 k < 0
  · rw [if_pos c]
    exact ⟨CR_rfl hJ h.1, h, fun _ z => absurd c (Int32.not_lt.mpr z)⟩
  · rw [if_neg c]
    have h0 : 0 ≤ A 178 k := Int32.not_lt.mp c
    have hK := KO_of hCb hW hp hk h0
    have hfl := fcx_lv (k := k) hN6 hJO (HL_HT hW) h.1.1 C 0 x0 (by omega) hb
    have r1 := CR_lFC (x0 := x0) hN6 hJ h.1 hk hfl (h.2.1 k hk)
    obtain ⟨r2, s2⟩ := CR_lLv hCb hN6 hJO hJ hK r1.1
    have r3 := CR_tr hJ h.1 r1 r2
    have U1 : ∀ Z, LSA N A C Z → UBZ A C (lFC A x0 C L k) Z := fun Z hS k' hk' h0' a ha => by
      have q := h.2.2 Z hS k' hk' h0' a ha
      by_cases e : k' = k ∧ a = 8
      · rw [e.1, e.2]
        show jle (jI A) (upd L.2.1 k (fcx A L.1 k 0 C x0) k) (Z k 8)
        rw [upd_at]
        refine fcx_ub hN6 hJ (HL_HT hW) h.1.1 (hS.1 k 8 hk (by omega)) (fun j hh hj hh8 hj0 ehh h7 hr => ?_) C 0 x0 (by omega) hb (hbo _ (hS.1 k 8 hk (by omega)))
        have j0 : 0 ≤ A 178 j := Int32.le_of_lt hj0
        obtain ⟨h', h8', eh'⟩ : ∃ h, h ≤ 8 ∧ A 178 j = nI h := by
          rcases hW.2.1 j hj with z | z
          · rw [z] at j0; exact absurd j0 (by decide)
          · exact z
        have e1 : hn (A 178) j = h' := by unfold hn; rw [eh', nI_clamp (by omega)]
        have hpos : 0 < h' := by
          rw [eh', nl_0, nI_ltI (by omega) (by omega)] at hj0
          exact hj0
        have e2 : nI hh = nI h' := ehh.symm.trans eh'
        have q1 := h.2.2 Z hS j hj j0 (9 + h' - 1) (by rw [e1]; omega)
        have e3 : yL L j (9 + h' - 1) = L.1 (16 * j + 7 + h') := by
          rw [show 9 + h' - 1 = 9 + (h' - 1) by omega, yL_s, show 16 * j + 8 + (h' - 1) = 16 * j + 7 + h' by omega]
        rw [e3] at q1
        have q2 := (hS.2.2 j hj j0).2 h7 k hk ((sm_RGR (sm_VA (A := A) (K := A 176) (E := A 177) (fun _ _ => ⟨rfl, rfl⟩)) (fun _ _ => rfl) hj).mpr ((hR j hj j0 h7 k hk).mp hr))
        rw [e1] at q2
        rw [show hh = h' from nI_inj (by omega) (by omega) e2]
        exact jle_tr hJ (h.1.1 _ (by omega)) (hS.1 j _ hj (by omega)) (hS.1 k 8 hk (by omega)) q1 q2
      · have e2 : yL (lFC A x0 C L k) k' a = yL L k' a := by
          unfold yL
          split
          · rfl
          · split
            · rename_i _ e8
              exact upd_nq _ (fun z => e ⟨z, e8⟩)
            · rfl
        rw [e2]
        exact q
    have hx := lLx_lv hN6 hJO hK r1.1
    have w0 := (CR_lWy hCb hN6 hJ hK (show 0 < 2 by omega) hx r1.1).1.1
    refine ⟨r3, ⟨r3.1, fun k' hk' => ?_, fun Z hS => UB_lWy hCb hN6 hJ hW hp hK h0 (by omega) hx hS r1.1 (U1 Z hS) rfl w0 (UB_lWy hCb hN6 hJ hW hp hK h0 (by omega) hx hS r1.1 (U1 Z hS) rfl r1.1 (U1 Z hS))⟩, fun z _ => ?_⟩
    · refine CIv_up hN6 hJO hJ hW hb h.1 r3.1 r3.2.1.1 ?_ hk'
      have ec : (lLv A (lFC A x0 C L k) k (hN A k) (qN A k)).2.1 = (lFC A x0 C L k).2.1 := lLv_c _ _ _ _
      show jle (jI A) ((lLv A (lFC A x0 C L k) k (hN A k) (qN A k)).2.1 k') _
      rw [ec]
      show jle (jI A) (upd L.2.1 k (fcx A L.1 k 0 C x0) k') _
      by_cases e : k' = k
      · rw [e, upd_at]; exact jle_rfl hJ hfl
      · rw [upd_nq _ e]; exact h.2.1 k' hk'
    · have e1 := CR_f r1 r2 z
      have z1 : (lFC A x0 C L k).2.2 = false := e1.1
      have z2 : (L.2.2 || decide (¬ fcx A L.1 k 0 C x0 = L.2.1 k)) = false := z1
      rw [Bool.or_eq_false_iff] at z2
      have s3 := s2 z
      rw [e1.2] at s3
      exact ⟨Decidable.not_not.mp (of_decide_eq_false z2.2), s3⟩
theorem cKs_sp (H : LCH N A x0 C) : ∀ (c k : Nat) (L : CL), k + c ≤ C → CIv N A x0 C L → CRl N (jI A) C L (cKs A x0 C k c L) ∧ CIv N A x0 C (cKs A x0 C k c L) ∧ ((cKs A x0 C k c L).2.2 = false → ∀ k', k ≤ k' → k' < k + c → SK A x0 C L k')
  | 0, k, L, _, h => ⟨CR_rfl H.2.2.2.1 h.1, h, fun _ k' h1 h2 => absurd h2 (by omega)⟩
  | c + 1, k, L, hc, h => by
    obtain ⟨hCb, hN6, hJO, hJ, hb, hbo, hW, hp, hR, he⟩ := id H
    obtain ⟨r1, i1, s1⟩ := cSt_sp H (show k < C by omega) h
    obtain ⟨r2, i2, s2⟩ := cKs_sp H c (k + 1) _ (by omega) i1
    refine ⟨CR_tr hJ h.1 r1 r2, i2, fun z k' h1 h2 => ?_⟩
    have e := CR_f r1 r2 z
    by_cases q : k' = k
    · rw [q]; exact s1 e.1
    · have s3 := s2 z k' (by omega) (by omega)
      rw [e.2] at s3
      exact s3
theorem cEn_sp (H : LCH N A x0 C) (hC1 : 0 < C) : ∀ (c v : Nat) (L : CL), v + c ≤ 8 → CIv N A x0 C L → CRl N (jI A) C L (cEn A v c L) ∧ CIv N A x0 C (cEn A v c L) ∧ ((cEn A v c L).2.2 = false → ∀ v', v ≤ v' → v' < v + c → jle (jI A) (A 153 v') (L.1 v'))
  | 0, k, L, _, h => ⟨CR_rfl H.2.2.2.1 h.1, h, fun _ k' h1 h2 => absurd h2 (by omega)⟩
  | c + 1, v, L, hc, h => by
    obtain ⟨hCb, hN6, hJO, hJ, hb, hbo, hW, hp, hR, he⟩ := id H
    have hy := he v (by omega)
    have r1 := CR_lcm hN6 hJ h.1 (show v < 16 * C by omega) hy
    have i1 : CIv N A x0 C (lcm A L v (A 153 v)) := ⟨r1.1, fun k hk => CIv_up hN6 hJO hJ hW hb h.1 r1.1 r1.2.1.1 (h.2.1 k hk) hk, fun Z hS => by
      have u := UB_v hJ hW h.1 hS.1 (h.2.2 Z hS) (t := 0) (v := v) hC1 (by omega) hy (hS.2.1 v (by omega))
      rw [show 16 * 0 + v = v by omega] at u
      exact u⟩
    obtain ⟨r2, i2, s2⟩ := cEn_sp H hC1 c (v + 1) _ (by omega) i1
    refine ⟨CR_tr hJ h.1 r1 r2, i2, fun z k' h1 h2 => ?_⟩
    have e := CR_f r1 r2 z
    by_cases q : k' = v
    · rw [q]; exact lcm_st hJ h.1 (by omega) hy e.1
    · have s3 := s2 z k' (by omega) (by omega)
      rw [e.2] at s3
      exact s3
def CSt (A : Nat → Nat → Int32) (x0 : Int32) (C : Nat) (L : CL) : Prop := (∀ v, v < 8 → jle (jI A) (A 153 v) (L.1 v)) ∧ ∀ k, k < C → SK A x0 C L k
theorem cLp_sp (H : LCH N A x0 C) (hC1 : 0 < C) : ∀ (r : Nat) (L : CL), CIv N A x0 C L → L.2.2 = true → phC N (jI A) C L < r → CIv N A x0 C (cLp A x0 C r L) ∧ CSt A x0 C (cLp A x0 C r L)
  | 0, L, _, _, h => absurd h (by omega)
  | r + 1, L, h, hm, hph => by
    obtain ⟨hCb, hN6, hJO, hJ, hb, hbo, hW, hp, hR, he⟩ := id H
    rw [cLp, if_pos hm]
    have h' : CIv N A x0 C (cMo L false) := h
    obtain ⟨r1, i1, s1⟩ := cEn_sp H hC1 8 0 (cMo L false) (by omega) h'
    obtain ⟨r2, i2, s2⟩ := cKs_sp H C 0 _ (by omega) i1
    have r3 := CR_tr hJ h'.1 r1 r2
    show CIv N A x0 C (cLp A x0 C r (cRd A x0 C L)) ∧ CSt A x0 C (cLp A x0 C r (cRd A x0 C L))
    cases c : (cRd A x0 C L).2.2 with
    | true =>
      have lt := r3.2.2.2.2.2 rfl c
      have lt : phC N (jI A) C (cRd A x0 C L) < phC N (jI A) C L := lt
      exact cLp_sp H hC1 r _ i2 c (by omega)
    | false =>
      have e : cLp A x0 C r (cRd A x0 C L) = cRd A x0 C L := by
        cases r with
        | zero => rfl
        | succ r => rw [cLp, if_neg (by rw [c]; decide)]
      rw [e]
      have e1 := CR_f r1 r2 c
      have e3 : cRd A x0 C L = cMo L false := r3.2.2.2.1 c
      refine ⟨i2, ?_⟩
      rw [e3]
      refine ⟨fun v hv => s1 e1.1 v (by omega) (by omega), fun k hk => ?_⟩
      have s3 := s2 c k (by omega) (by omega)
      rw [e1.2] at s3
      exact s3
/-- a solution -/
theorem CSt_LSo (H : LCH N A x0 C) (hC1 : 0 < C) {L : CL} (h : CIv N A x0 C L) (hs : CSt A x0 C L) : LSA N A C (yL L) ∧ LU N (jI A) (A 176) (A 177) (A 178) (A 153) C (yL L) := by
  obtain ⟨hCb, hN6, hJO, hJ, hb, hbo, hW, hp, hR, he⟩ := id H
  have hyl : ∀ k a, k < C → a < 17 → lv N (yL L k a) := fun k a hk ha => by
    unfold yL
    split
    · exact h.1.1 _ (by omega)
    · split
      · exact h.1.2 k hk
      · exact h.1.1 _ (by omega)
  refine ⟨⟨hyl, fun v hv => ?_, fun k hk h0 => ?_⟩, fun Z hZ k hk h0 a ha => h.2.2 Z hZ k hk h0 a ha⟩
  · rw [yL_v _ hv, show 16 * 0 + v = v by omega]; exact hs.1 v hv
  · have hK := KO_of hCb hW hp hk h0
    have h8 := hK.2.2.1
    obtain ⟨s1, s2⟩ := hs.2 k hk h0
    obtain ⟨xs, xg⟩ := lLx_lft hJ hp hK h.1
    have lm := ko_lm hp hK
    refine ⟨fun w hw t ht e a ha ha8 => ?_, fun h7 m hm hr => ?_⟩
    · have lt := s2 w hw t ht e
      obtain ⟨et, et0⟩ := tgt_h hW hK h0 hw ht e hCb
      rw [et] at ha
      show jle (jI A) (lftA A (hN A k) k (yL L k) a) (yL L t a)
      have q8 := hK.2.2.2.1
      by_cases c1 : a < 8
      · rw [yL_v _ c1]
        have q := lt.1 a c1
        by_cases c2 : A 176 k = 2 ∧ A 177 k = nI a
        · rw [if_pos c2] at q
          have e2 := xs c2.1
          rw [c2.2, nI_clamp (by omega)] at e2
          rw [e2]
          exact q
        · rw [if_neg c2] at q
          rw [lft_ne hp hK (yL L k) (a := a) (fun z z2 => c2 ⟨z, by
            obtain ⟨a1, b1⟩ := (hp.2 k hk).2.2.1 (Or.inr z)
            obtain ⟨v', v1, v2⟩ := i32_to a1 (by rw [← nl_8]; exact b1) (by decide)
            rw [v2, nI_clamp (by omega)] at z2
            rw [v2, z2]⟩) (fun _ => by omega), yL_v _ c1]
          exact q
      · obtain ⟨j, ej⟩ : ∃ j, a = 9 + j := ⟨a - 9, by omega⟩
        subst ej
        rw [yL_s]
        by_cases c2 : j < qN A k
        · rw [lft_ne hp hK (yL L k) (a := 9 + j) (fun z z2 => by have := lm.2.1 (Or.inr z); omega) (fun _ => by omega), yL_s]
          exact lt.2.1 j c2
        · by_cases g : r_gb (A 176 k) = 1
          · rw [if_pos g] at ha
            have e3 : j = qN A k := by omega
            rw [e3, xg g]
            exact lt.2.2 g
          · rw [if_neg g] at ha
            exact absurd ha (by omega)
    · have hr' := (sm_RGR (sm_VA (A := A) (K := A 176) (E := A 177) (fun _ _ => ⟨rfl, rfl⟩)) (fun _ _ => rfl) hk).mp hr
      have hg := (hR k hk h0 h7 m hm).mpr hr'
      have hpos : 1 ≤ hN A k := by
        have htb := hK.2.2.2.2.1
        rw [h7, show r_tb 7 = 1 by decide] at htb
        have q8 := hK.2.2.2.1
        have := hd1 (hN A k) (by omega) (qN A k) (by omega) htb
        omega
      have q := (fcx_ge hN6 hJ (HL_HT hW) (k := m) h.1.1 C 0 x0 (by omega) hb).2.2 k (hN A k) (by omega) (by omega) h8 (by rw [hK.2.1, nl_0]; exact (nI_ltI (by omega) (by omega)).mpr hpos) hK.2.1 h7 hg
      show jle (jI A) (yL L k (9 + hN A k - 1)) (L.2.1 m)
      rw [show 9 + hN A k - 1 = 9 + (hN A k - 1) by omega, yL_s, show 16 * k + 8 + (hN A k - 1) = 16 * k + 7 + hN A k by omega]
      have m0 : 0 ≤ A 178 m := hr' (fun i => 0 ≤ A 178 i) (fun w hw t ht e _ => (tgt_h hW hK h0 hw ht e hCb).2) (fun i hi hi0 w hw t ht e _ => (tgt_h hW (KO_of hCb hW hp hi hi0) hi0 hw ht e hCb).2)
      rw [← (hs.2 m hm m0).1]
      exact q
end LCT
end LCS
