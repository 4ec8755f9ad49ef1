/-! ===== LEVELS: a join ===== -/
def SL (N : Nat) (J : Int32 → Int32 → Int32) : Prop := (∀ x y, lv N x → lv N y → lv N (J x y)) ∧ (∀ x, lv N x → J x x = x) ∧ (∀ x y, lv N x → lv N y → J x y = J y x) ∧ ∀ x y z, lv N x → lv N y → lv N z → J (J x y) z = J x (J y z)
def jle (J : Int32 → Int32 → Int32) (x y : Int32) : Prop := J x y = y
section SLL
variable {N : Nat} {J : Int32 → Int32 → Int32} {x y z u v : Int32}
theorem jle_rfl (h : SL N J) (hx : lv N x) : jle J x x := h.2.1 x hx
theorem jle_tr (h : SL N J) (hx : lv N x) (hy : lv N y) (hz : lv N z) (h1 : jle J x y) (h2 : jle J y z) : jle J x z := by
  unfold jle at *
  rw [← h2, ← h.2.2.2 x y z hx hy hz, h1]
theorem jle_as (h : SL N J) (hx : lv N x) (hy : lv N y) (h1 : jle J x y) (h2 : jle J y x) : x = y := by
  unfold jle at *
  rw [← h2, h.2.2.1 y x hy hx, h1]
theorem jle_l (h : SL N J) (hx : lv N x) (hy : lv N y) : jle J x (J x y) := by
  unfold jle
  rw [← h.2.2.2 x x y hx hx hy, h.2.1 x hx]
theorem jle_r (h : SL N J) (hx : lv N x) (hy : lv N y) : jle J y (J x y) := by
  rw [h.2.2.1 x y hx hy]; exact jle_l h hy hx
theorem jle_j (h : SL N J) (hx : lv N x) (hy : lv N y) (hz : lv N z) (h1 : jle J x z) (h2 : jle J y z) : jle J (J x y) z := by
  unfold jle at *
  rw [h.2.2.2 x y z hx hy hz, h2, h1]
theorem jle_m (h : SL N J) (hx : lv N x) (hy : lv N y) (hu : lv N u) (hv : lv N v) (h1 : jle J x u) (h2 : jle J y v) : jle J (J x y) (J u v) :=
  jle_j h hx hy (h.1 u v hu hv) (jle_tr h hx hu (h.1 u v hu hv) h1 (jle_l h hu hv)) (jle_tr h hy hv (h.1 u v hu hv) h2 (jle_r h hu hv))
def rk (N : Nat) (J : Int32 → Int32 → Int32) (x : Int32) : Nat := cntB (fun i => decide (J (nI i) x = x)) N
theorem rk_lt (h : SL N J) (hx : lv N x) (hy : lv N y) (h1 : jle J x y) (h2 : ¬ x = y) : rk N J x < rk N J y := by
  refine cnt_lt N (fun i hi q => ?_) ?_
  · exact decide_eq_true (show J (nI i) y = y from jle_tr h ⟨i, hi, rfl⟩ hx hy (show jle J (nI i) x from of_decide_eq_true (p := J (nI i) x = x) q) h1)
  · obtain ⟨i, hi, rfl⟩ := hy
    refine ⟨i, hi, decide_eq_true (show J (nI i) (nI i) = nI i from jle_rfl h ⟨i, hi, rfl⟩), decide_eq_false (show ¬ J (nI i) x = x from fun q => h2 (jle_as h hx ⟨i, hi, rfl⟩ h1 q))⟩
theorem rk_le (x : Int32) : rk N J x ≤ N := cnt_max _ _
end SLL
def sumN (g : Nat → Nat) : Nat → Nat
  | 0 => 0
  | n + 1 => sumN g n + g n
theorem sum_cg {g g' : Nat → Nat} : ∀ n, (∀ i, i < n → g' i = g i) → sumN g' n = sumN g n
  | 0, _ => rfl
  | n + 1, h => by rw [sumN, sumN, sum_cg n (fun i hi => h i (by omega)), h n (by omega)]
theorem sum_dn {g g' : Nat → Nat} {i : Nat} (hlt : g' i < g i) : ∀ n, i < n → (∀ j, j < n → ¬ j = i → g' j = g j) → sumN g' n + 1 ≤ sumN g n
  | 0, h, _ => absurd h (by omega)
  | n + 1, h, hq => by
    rw [sumN, sumN]
    by_cases c : i = n
    · subst c
      rw [sum_cg i (fun j hj => hq j (by omega) (by omega))]; omega
    · have := sum_dn hlt n (by omega) (fun j hj => hq j (by omega))
      rw [hq n (by omega) (by omega)]; omega
theorem sum_max {g : Nat → Nat} {b : Nat} : ∀ n, (∀ i, i < n → g i ≤ b) → sumN g n ≤ n * b
  | 0, _ => Nat.zero_le _
  | n + 1, h => by
    have := sum_max n (fun i hi => h i (by omega))
    have := h n (by omega)
    rw [sumN, Nat.add_mul, Nat.one_mul]; omega
/-! ===== LABELS OF CODE: 17 of them an instruction: 8 variables, the context, the stack ===== -/
/-- what instruction k leaves, of what it finds -/
def lft (J : Int32 → Int32 → Int32) (K E : Nat → Int32) (h : Nat) (k : Nat) (R : Nat → Int32) : Nat → Int32 :=
  if K k = 0 then upd R (9 + h) (R 8)
  else if K k = 1 then upd R (9 + h) (J (R 8) (R (E k).toNatClampNeg))
  else if K k = 2 then upd R (E k).toNatClampNeg (J (R 8) (R (9 + h - 1)))
  else if K k = 3 ∨ K k = 4 ∨ K k = 5 ∨ K k = 6 then upd R (9 + h - 2) (J (R 8) (J (R (9 + h - 2)) (R (9 + h - 1))))
  else R
def hn (W : Nat → Int32) (k : Nat) : Nat := (W k).toNatClampNeg
/-- instruction k asks no more of the labels -/
def LD (J : Int32 → Int32 → Int32) (K E W : Nat → Int32) (C : Nat) (Y : Nat → Nat → Int32) (k : Nat) : Prop :=
  (∀ w, w < 2 → ∀ t, t < C → r_nx (VA K E) k (nI w) = nI t → ∀ a, a < 9 + hn W t → ¬ a = 8 → jle J (lft J K E (hn W k) k (Y k) a) (Y t a)) ∧
  (K k = 7 → ∀ m, m < C → RG (VA K E) C (RGB (VA K E) C W k) k m → jle J (Y k (9 + hn W k - 1)) (Y m 8))
/-- the labels keep to all rules -/
def LSo (N : Nat) (J : Int32 → Int32 → Int32) (K E W en : Nat → Int32) (C : Nat) (Y : Nat → Nat → Int32) : Prop := (∀ k a, k < C → a < 17 → lv N (Y k a)) ∧ (∀ v, v < 8 → jle J (en v) (Y 0 v)) ∧ ∀ k, k < C → 0 ≤ W k → LD J K E W C Y k
/-- below all such labels, where it counts -/
def LU (N : Nat) (J : Int32 → Int32 → Int32) (K E W en : Nat → Int32) (C : Nat) (Y : Nat → Nat → Int32) : Prop := ∀ Z, LSo N J K E W en C Z → ∀ k, k < C → 0 ≤ W k → ∀ a, a < 9 + hn W k → jle J (Y k a) (Z k a)
theorem lft_lv {N : Nat} {J : Int32 → Int32 → Int32} {K E : Nat → Int32} (hJ : SL N J) {h k : Nat} {R : Nat → Int32} (hR : ∀ a, a < 17 → lv N (R a)) (h8 : h ≤ 8) (hv : K k = 1 ∨ K k = 2 → (E k).toNatClampNeg < 8) (h1 : K k = 2 → 1 ≤ h) (h2 : (K k = 3 ∨ K k = 4 ∨ K k = 5 ∨ K k = 6) → 2 ≤ h) : ∀ a, a < 17 → lv N (lft J K E h k R a) := by
  intro a ha
  have u : ∀ (i : Nat) (x : Int32), lv N x → lv N (upd R i x a) := fun i x hx => by
    unfold upd
    split
    · exact hx
    · exact hR a ha
  unfold lft
  by_cases c0 : K k = 0
  · rw [if_pos c0]; exact u _ _ (hR 8 (by omega))
  · rw [if_neg c0]
    by_cases c1 : K k = 1
    · rw [if_pos c1]; exact u _ _ (hJ.1 _ _ (hR 8 (by omega)) (hR _ (by have := hv (Or.inl c1); omega)))
    · rw [if_neg c1]
      by_cases c2 : K k = 2
      · rw [if_pos c2]; exact u _ _ (hJ.1 _ _ (hR 8 (by omega)) (hR _ (by have := h1 c2; omega)))
      · rw [if_neg c2]
        by_cases c3 : K k = 3 ∨ K k = 4 ∨ K k = 5 ∨ K k = 6
        · rw [if_pos c3]
          have := h2 c3
          exact u _ _ (hJ.1 _ _ (hR 8 (by omega)) (hJ.1 _ _ (hR _ (by omega)) (hR _ (by omega))))
        · rw [if_neg c3]; exact hR a ha
/-- what is left grows with what is found, up to the stack's height -/
theorem lft_m {N : Nat} {J : Int32 → Int32 → Int32} {K E : Nat → Int32} (hJ : SL N J) {h k : Nat} {R S : Nat → Int32} (hR : ∀ a, a < 17 → lv N (R a)) (hS : ∀ a, a < 17 → lv N (S a)) (h8 : h ≤ 8) (hv : K k = 1 ∨ K k = 2 → (E k).toNatClampNeg < 8) (h1 : K k = 2 → 1 ≤ h) (h2 : (K k = 3 ∨ K k = 4 ∨ K k = 5 ∨ K k = 6) → 2 ≤ h) (hle : ∀ a, a < 9 + h → jle J (R a) (S a)) : ∀ a, a < 17 → (a < 9 + h ∨ (a = 9 + h ∧ (K k = 0 ∨ K k = 1))) → jle J (lft J K E h k R a) (lft J K E h k S a) := by
  intro a ha hb
  have u : ∀ (i : Nat) (x y : Int32), jle J x y → (¬ a = i → a < 9 + h) → jle J (upd R i x a) (upd S i y a) := fun i x y hx hi => by
    by_cases c : a = i
    · subst c; rw [upd_at, upd_at]; exact hx
    · rw [upd_ne _ _ c, upd_ne _ _ c]; exact hle a (hi c)
  unfold lft
  by_cases c0 : K k = 0
  · rw [if_pos c0, if_pos c0]; exact u _ _ _ (hle 8 (by omega)) (fun c => by omega)
  · rw [if_neg c0, if_neg c0]
    by_cases c1 : K k = 1
    · have := hv (Or.inl c1)
      rw [if_pos c1, if_pos c1]; exact u _ _ _ (jle_m hJ (hR 8 (by omega)) (hR _ (by omega)) (hS 8 (by omega)) (hS _ (by omega)) (hle 8 (by omega)) (hle _ (by omega))) (fun c => by omega)
    · have hb : a < 9 + h := by
        rcases hb with z | ⟨_, z⟩
        · exact z
        · exact absurd z (fun z => z.elim c0 c1)
      rw [if_neg c1, if_neg c1]
      by_cases c2 : K k = 2
      · have := h1 c2
        rw [if_pos c2, if_pos c2]; exact u _ _ _ (jle_m hJ (hR 8 (by omega)) (hR _ (by omega)) (hS 8 (by omega)) (hS _ (by omega)) (hle 8 (by omega)) (hle _ (by omega))) (fun _ => hb)
      · rw [if_neg c2, if_neg c2]
        by_cases c3 : K k = 3 ∨ K k = 4 ∨ K k = 5 ∨ K k = 6
        · have := h2 c3
          rw [if_pos c3, if_pos c3]
          exact u _ _ _ (jle_m hJ (hR 8 (by omega)) (hJ.1 _ _ (hR _ (by omega)) (hR _ (by omega))) (hS 8 (by omega)) (hJ.1 _ _ (hS _ (by omega)) (hS _ (by omega))) (hle 8 (by omega)) (jle_m hJ (hR _ (by omega)) (hR _ (by omega)) (hS _ (by omega)) (hS _ (by omega)) (hle _ (by omega)) (hle _ (by omega)))) (fun _ => hb)
        · rw [if_neg c3, if_neg c3]; exact hle a hb
/-! ===== the class's labels while they are worked out ===== -/
def laA (A Y : Nat → Nat → Int32) (V L : Nat → Int32) : Nat → Nat → Int32 := fun q => if 45 ≤ q ∧ q ≤ 144 then Y (q - 45) else if q = 145 then V else if q = 146 then L else A q
theorem la_k (A Y : Nat → Nat → Int32) (V L : Nat → Int32) {k : Nat} (h : k < 100) : laA A Y V L (45 + k) = Y k := by
  unfold laA
  rw [if_pos (by omega), show 45 + k - 45 = k by omega]
theorem la_y (A Y : Nat → Nat → Int32) (V L : Nat → Int32) {k : Nat} (h : k < 100) (a : Nat) (x : Int32) : va_up (laA A Y V L) (45 + k) (upd (laA A Y V L (45 + k)) a x) = laA A (u2 Y k a x) V L := by
  rw [la_k A Y V L h]
  funext q
  by_cases c : q = 45 + k
  · subst c
    rw [vu_at, la_k A _ V L h]
    funext j
    rw [u2_at]
    unfold upd
    by_cases d : j = a
    · rw [if_pos d, if_pos ⟨rfl, d⟩]
    · rw [if_neg d, if_neg (fun z => d z.2)]
  · rw [vu_ne _ c]
    unfold laA
    by_cases d : 45 ≤ q ∧ q ≤ 144
    · rw [if_pos d, if_pos d, u2_q _ _ (show ¬ q - 45 = k by omega)]
    · rw [if_neg d, if_neg d]
theorem la_v (A Y : Nat → Nat → Int32) (V L g : Nat → Int32) : va_up (laA A Y V L) 145 g = laA A Y g L := by
  funext q
  by_cases c : q = 145
  · subst c; rw [vu_at]; rfl
  · rw [vu_ne _ c]
    unfold laA
    by_cases d : 45 ≤ q ∧ q ≤ 144
    · rw [if_pos d, if_pos d]
    · rw [if_neg d, if_neg d, if_neg c, if_neg c]
theorem la_l (A Y : Nat → Nat → Int32) (V L g : Nat → Int32) : va_up (laA A Y V L) 146 g = laA A Y V g := by
  funext q
  by_cases c : q = 146
  · subst c; rw [vu_at]; rfl
  · rw [vu_ne _ c]
    unfold laA
    by_cases d : 45 ≤ q ∧ q ≤ 144
    · rw [if_pos d, if_pos d]
    · rw [if_neg d, if_neg d]
      by_cases e : q = 145
      · rw [if_pos e, if_pos e]
      · rw [if_neg e, if_neg e, if_neg c, if_neg c]
theorem la_id (A : Nat → Nat → Int32) : laA A (fun k => A (45 + k)) (A 145) (A 146) = A := by
  funext q
  unfold laA
  by_cases d : 45 ≤ q ∧ q ≤ 144
  · rw [if_pos d]
    show A (45 + (q - 45)) = A q
    rw [show 45 + (q - 45) = q by omega]
  · rw [if_neg d]
    by_cases e : q = 145
    · rw [if_pos e, e]
    · rw [if_neg e]
      by_cases c : q = 146
      · rw [if_pos c, c]
      · rw [if_neg c]
theorem gq_l : ∀ k, k < 100 → gq (45 + k) = 0 ∧ gt (45 + k) = 0 ∧ gl (45 + k) = 17 := by decide +kernel
theorem g_lab (f : sw_F) (s : Nat → Int32) (A Y : Nat → Nat → Int32) (V L : Nat → Int32) (B : Nat → Nat → Int64) (o : Int64) (pr : Value) {k : Nat} (h : k < 100) : gd f s (laA A Y V L) B o pr (45 + k) = .inl (0, 17, .inl (Y k)) := by
  rw [gd_0 _ _ _ _ _ _ (by omega) (gq_l k h).1, (gq_l k h).2.1, (gq_l k h).2.2, la_k A Y V L h]
theorem g_row {k : Nat} (h : k < 100) : (fun j => if j < gl 44 then some (44 + 1 + j) else none) (nI k).toNatClampNeg = some (45 + k) := by
  show (if (nI k).toNatClampNeg < gl 44 then some (44 + 1 + (nI k).toNatClampNeg) else none) = _
  rw [nI_clamp (by omega), if_pos (show k < gl 44 from h)]
