/-! ===== TREES: well formed, sizes, code ===== -/
def wfE : ET → Prop
  | .leaf x => (x.1 = 0 ∧ x.2 < 1000) ∨ (x.1 = 1 ∧ x.2 < 8)
  | .branch q a b => (3 ≤ q ∧ q ≤ 6) ∧ wfE a ∧ wfE b
def wfR : RT → Prop
  | .leaf _ => True
  | .branch v (.leaf e) R => v < 8 ∧ wfE e ∧ wfR R
  | .branch _ (.branch _ (.leaf e) r) R => wfE e ∧ wfR r ∧ wfR R
  | .branch _ (.branch _ (.branch _ (.leaf e) r1) r2) R => wfE e ∧ wfR r1 ∧ wfR r2 ∧ wfR R
  | .branch _ (.branch _ (.branch _ (.branch _ _ _) _) _) _ => False
/-- how much code -/
def lnR : RT → Nat
  | .leaf _ => 0
  | .branch _ (.leaf e) R => szE e + 1 + lnR R
  | .branch _ (.branch _ (.leaf e) r) R => szE e + 1 + lnR r + 1 + lnR R
  | .branch _ (.branch _ (.branch _ (.leaf e) r1) r2) R => szE e + 1 + lnR r1 + 1 + lnR r2 + lnR R
  | .branch _ (.branch _ (.branch _ (.branch _ _ _) _) _) _ => 0
theorem lnR_le : ∀ (t : RT), lnR t ≤ szR t
  | .leaf _ => Nat.le_refl 0
  | .branch _ (.leaf e) R => by have := lnR_le R; rw [lnR, szR]; omega
  | .branch _ (.branch _ (.leaf e) r) R => by have := lnR_le R; have := lnR_le r; rw [lnR, szR]; omega
  | .branch _ (.branch _ (.branch _ (.leaf e) r1) r2) R => by have := lnR_le R; have := lnR_le r1; have := lnR_le r2; rw [lnR, szR]; omega
  | .branch _ (.branch _ (.branch _ (.branch _ _ _) _) _) _ => Nat.le_refl 0
/-- the code of an expression at w -/
def cdE (K B : Nat → Int32) : ET → Nat → Prop
  | .leaf x, w => K w = nI x.1 ∧ B w = nI x.2
  | .branch q a b, w => (K (w + szE a + szE b) = nI q ∧ B (w + szE a + szE b) = 0) ∧ cdE K B a w ∧ cdE K B b (w + szE a)
/-- the code of statements at w -/
def cdR (K B : Nat → Int32) : RT → Nat → Prop
  | .leaf _, _ => True
  | .branch v (.leaf e) R, w => (cdE K B e w ∧ K (w + szE e) = 2 ∧ B (w + szE e) = nI v) ∧ cdR K B R (w + szE e + 1)
  | .branch _ (.branch _ (.leaf e) r) R, w => (cdE K B e w ∧ (K (w + szE e) = 7 ∧ B (w + szE e) = nI (w + szE e + 1 + lnR r + 1)) ∧ (K (w + szE e + 1 + lnR r) = 8 ∧ B (w + szE e + 1 + lnR r) = nI w) ∧ cdR K B r (w + szE e + 1)) ∧ cdR K B R (w + szE e + 1 + lnR r + 1)
  | .branch _ (.branch _ (.branch _ (.leaf e) r1) r2) R, w => (cdE K B e w ∧ (K (w + szE e) = 7 ∧ B (w + szE e) = nI (w + szE e + 1 + lnR r1 + 1)) ∧ (K (w + szE e + 1 + lnR r1) = 8 ∧ B (w + szE e + 1 + lnR r1) = nI (w + szE e + 1 + lnR r1 + 1 + lnR r2)) ∧ cdR K B r1 (w + szE e + 1) ∧ cdR K B r2 (w + szE e + 1 + lnR r1 + 1)) ∧ cdR K B R (w + szE e + 1 + lnR r1 + 1 + lnR r2)
  | .branch _ (.branch _ (.branch _ (.branch _ _ _) _) _) _, _ => False
theorem cdE_cg {K B K' B' : Nat → Int32} : ∀ (e : ET) (w : Nat), (∀ j, w ≤ j → j < w + szE e → K' j = K j ∧ B' j = B j) → cdE K B e w → cdE K' B' e w
  | .leaf x, w, h, r => by
    rw [szE] at h
    unfold cdE at r ⊢
    have := h w (by omega) (by omega)
    rw [this.1, this.2]; exact r
  | .branch q a b, w, h, r => by
    rw [szE] at h
    have sa := szE_pos a
    have sb := szE_pos b
    unfold cdE at r ⊢
    have := h (w + szE a + szE b) (by omega) (by omega)
    rw [this.1, this.2]
    exact ⟨r.1, cdE_cg a w (fun j h1 h2 => h j (by omega) (by omega)) r.2.1, cdE_cg b _ (fun j h1 h2 => h j (by omega) (by omega)) r.2.2⟩
theorem cdR_cg {K B K' B' : Nat → Int32} : ∀ (t : RT) (w : Nat), (∀ j, w ≤ j → j < w + lnR t → K' j = K j ∧ B' j = B j) → cdR K B t w → cdR K' B' t w
  | .leaf _, w, h, r => r
  | .branch v (.leaf e) R, w, h, r => by
    rw [lnR] at h
    have sp := szE_pos e
    unfold cdR at r ⊢
    obtain ⟨⟨r1, r2⟩, r3⟩ := r
    have z := h (w + szE e) (by omega) (by omega)
    rw [z.1, z.2]
    exact ⟨⟨cdE_cg e w (fun j h1 h2 => h j (by omega) (by omega)) r1, r2⟩, cdR_cg R _ (fun j h1 h2 => h j (by omega) (by omega)) r3⟩
  | .branch _ (.branch _ (.leaf e) r') R, w, h, r => by
    rw [lnR] at h
    have sp := szE_pos e
    unfold cdR at r ⊢
    obtain ⟨⟨r1, r2, r4, r5⟩, r3⟩ := r
    have z := h (w + szE e) (by omega) (by omega)
    have z2 := h (w + szE e + 1 + lnR r') (by omega) (by omega)
    rw [z.1, z.2, z2.1, z2.2]
    exact ⟨⟨cdE_cg e w (fun j h1 h2 => h j (by omega) (by omega)) r1, r2, r4, cdR_cg r' _ (fun j h1 h2 => h j (by omega) (by omega)) r5⟩, cdR_cg R _ (fun j h1 h2 => h j (by omega) (by omega)) r3⟩
  | .branch _ (.branch _ (.branch _ (.leaf e) x1) x2) R, w, h, r => by
    rw [lnR] at h
    have sp := szE_pos e
    unfold cdR at r ⊢
    obtain ⟨⟨r1, r2, r4, r5, r6⟩, r3⟩ := r
    have z := h (w + szE e) (by omega) (by omega)
    have z2 := h (w + szE e + 1 + lnR x1) (by omega) (by omega)
    rw [z.1, z.2, z2.1, z2.2]
    exact ⟨⟨cdE_cg e w (fun j h1 h2 => h j (by omega) (by omega)) r1, r2, r4, cdR_cg x1 _ (fun j h1 h2 => h j (by omega) (by omega)) r5, cdR_cg x2 _ (fun j h1 h2 => h j (by omega) (by omega)) r6⟩, cdR_cg R _ (fun j h1 h2 => h j (by omega) (by omega)) r3⟩
  | .branch _ (.branch _ (.branch _ (.branch _ _ _) _) _) _, w, h, r => r.elim
/-- two codes of one tree are the same -/
theorem cdE_eq {K B K' B' : Nat → Int32} : ∀ (e : ET) (w : Nat), cdE K B e w → cdE K' B' e w → ∀ j, w ≤ j → j < w + szE e → K j = K' j ∧ B j = B' j
  | .leaf x, w, h, r, j, h1, h2 => by
    rw [szE] at h2
    unfold cdE at h r
    obtain rfl : j = w := by omega
    rw [h.1, h.2, r.1, r.2]; exact ⟨rfl, rfl⟩
  | .branch q a b, w, h, r, j, h1, h2 => by
    rw [szE] at h2
    unfold cdE at h r
    obtain ⟨⟨a1, a2⟩, a3, a4⟩ := h
    obtain ⟨⟨b1, b2⟩, b3, b4⟩ := r
    by_cases c1 : j < w + szE a
    · exact cdE_eq a w a3 b3 j h1 c1
    · by_cases c2 : j < w + szE a + szE b
      · exact cdE_eq b _ a4 b4 j (by omega) c2
      · obtain rfl : j = w + szE a + szE b := by omega
        rw [a1, a2, b1, b2]; exact ⟨rfl, rfl⟩
theorem cdR_eq {K B K' B' : Nat → Int32} : ∀ (t : RT) (w : Nat), cdR K B t w → cdR K' B' t w → ∀ j, w ≤ j → j < w + lnR t → K j = K' j ∧ B j = B' j
  | .leaf _, w, h, r, j, h1, h2 => by rw [lnR] at h2; omega
  | .branch v (.leaf e) R, w, h, r, j, h1, h2 => by
    rw [lnR] at h2
    unfold cdR at h r
    obtain ⟨⟨a1, a2, a3⟩, a4⟩ := h
    obtain ⟨⟨b1, b2, b3⟩, b4⟩ := r
    by_cases c1 : j < w + szE e
    · exact cdE_eq e w a1 b1 j h1 c1
    · by_cases c2 : j = w + szE e
      · subst c2
        rw [a2, a3, b2, b3]; exact ⟨rfl, rfl⟩
      · exact cdR_eq R _ a4 b4 j (by omega) (by omega)
  | .branch _ (.branch _ (.leaf e) x) R, w, h, r, j, h1, h2 => by
    rw [lnR] at h2
    unfold cdR at h r
    obtain ⟨⟨a1, ⟨a2, a3⟩, ⟨a5, a6⟩, a7⟩, a4⟩ := h
    obtain ⟨⟨b1, ⟨b2, b3⟩, ⟨b5, b6⟩, b7⟩, b4⟩ := r
    by_cases c1 : j < w + szE e
    · exact cdE_eq e w a1 b1 j h1 c1
    · by_cases c2 : j = w + szE e
      · subst c2
        rw [a2, a3, b2, b3]; exact ⟨rfl, rfl⟩
      · by_cases c3 : j < w + szE e + 1 + lnR x
        · exact cdR_eq x _ a7 b7 j (by omega) (by omega)
        · by_cases c4 : j = w + szE e + 1 + lnR x
          · subst c4
            rw [a5, a6, b5, b6]; exact ⟨rfl, rfl⟩
          · exact cdR_eq R _ a4 b4 j (by omega) (by omega)
  | .branch _ (.branch _ (.branch _ (.leaf e) x) y) R, w, h, r, j, h1, h2 => by
    rw [lnR] at h2
    unfold cdR at h r
    obtain ⟨⟨a1, ⟨a2, a3⟩, ⟨a5, a6⟩, a7, a8⟩, a4⟩ := h
    obtain ⟨⟨b1, ⟨b2, b3⟩, ⟨b5, b6⟩, b7, b8⟩, b4⟩ := r
    by_cases c1 : j < w + szE e
    · exact cdE_eq e w a1 b1 j h1 c1
    · by_cases c2 : j = w + szE e
      · subst c2
        rw [a2, a3, b2, b3]; exact ⟨rfl, rfl⟩
      · by_cases c3 : j < w + szE e + 1 + lnR x
        · exact cdR_eq x _ a7 b7 j (by omega) (by omega)
        · by_cases c4 : j = w + szE e + 1 + lnR x
          · subst c4
            rw [a5, a6, b5, b6]; exact ⟨rfl, rfl⟩
          · by_cases c5 : j < w + szE e + 1 + lnR x + 1 + lnR y
            · exact cdR_eq y _ a8 b8 j (by omega) (by omega)
            · exact cdR_eq R _ a4 b4 j (by omega) (by omega)
  | .branch _ (.branch _ (.branch _ (.branch _ _ _) _) _) _, w, h, r, j, h1, h2 => h.elim
/-- the sizes that measure finds -/
def mzE (A : Nat → Nat → Int32) : ET → Nat → Prop
  | .leaf _, k => A 167 k = 1
  | .branch _ a b, k => A 167 k = nI (1 + szE a + szE b) ∧ mzE A a (k + 1) ∧ mzE A b (k + 1 + szE a)
theorem mzE_s {A : Nat → Nat → Int32} {e : ET} {k : Nat} (h : mzE A e k) : A 167 k = nI (szE e) := by
  cases e with
  | leaf x => exact h
  | branch q a b => exact h.1
/-- how much code a statement has -/
def lnS : RT → Nat
  | .leaf _ => 0
  | .branch _ (.leaf e) _ => szE e + 1
  | .branch _ (.branch _ (.leaf e) r) _ => szE e + 1 + lnR r + 1
  | .branch _ (.branch _ (.branch _ (.leaf e) r1) r2) _ => szE e + 1 + lnR r1 + 1 + lnR r2
  | .branch _ (.branch _ (.branch _ (.branch _ _ _) _) _) _ => 0
def mzR (A : Nat → Nat → Int32) : RT → Nat → Prop
  | .leaf _, _ => True
  | .branch _ (.leaf e) R, k => (A 167 k = nI (szE e + 1) ∧ mzE A e (k + 1)) ∧ mzR A R (k + 1 + szE e)
  | .branch _ (.branch _ (.leaf e) r) R, k => (A 167 k = nI (szE e + 1 + lnR r + 1) ∧ mzE A e (k + 1) ∧ A 167 (k + 1 + szE e) = nI (lnR r) ∧ mzR A r (k + 1 + szE e + 1)) ∧ mzR A R (k + 1 + szE e + 1 + szR r)
  | .branch _ (.branch _ (.branch _ (.leaf e) r1) r2) R, k => (A 167 k = nI (szE e + 1 + lnR r1 + 1 + lnR r2) ∧ mzE A e (k + 1) ∧ A 167 (k + 1 + szE e) = nI (lnR r1) ∧ mzR A r1 (k + 1 + szE e + 1) ∧ A 167 (k + 1 + szE e + 1 + szR r1) = nI (lnR r2) ∧ mzR A r2 (k + 1 + szE e + 1 + szR r1 + 1)) ∧ mzR A R (k + 1 + szE e + 1 + szR r1 + 1 + szR r2)
  | .branch _ (.branch _ (.branch _ (.branch _ _ _) _) _) _, _ => False
theorem mzE_cg {A A' : Nat → Nat → Int32} : ∀ (e : ET) (k : Nat), (∀ i, k ≤ i → i < k + szE e → A' 167 i = A 167 i) → mzE A e k → mzE A' e k
  | .leaf x, k, h, r => by
    rw [szE] at h
    unfold mzE at r ⊢
    rw [h k (by omega) (by omega)]; exact r
  | .branch q a b, k, h, r => by
    rw [szE] at h
    unfold mzE at r ⊢
    rw [h k (by omega) (by omega)]
    exact ⟨r.1, mzE_cg a _ (fun i h1 h2 => h i (by omega) (by omega)) r.2.1, mzE_cg b _ (fun i h1 h2 => h i (by omega) (by omega)) r.2.2⟩
theorem mzR_cg {A A' : Nat → Nat → Int32} : ∀ (t : RT) (k : Nat), (∀ i, k ≤ i → i < k + szR t → A' 167 i = A 167 i) → mzR A t k → mzR A' t k
  | .leaf _, k, h, r => r
  | .branch v (.leaf e) R, k, h, r => by
    rw [szR] at h
    unfold mzR at r ⊢
    obtain ⟨⟨r1, r2⟩, r3⟩ := r
    rw [h k (by omega) (by omega)]
    exact ⟨⟨r1, mzE_cg e _ (fun i h1 h2 => h i (by omega) (by omega)) r2⟩, mzR_cg R _ (fun i h1 h2 => h i (by omega) (by omega)) r3⟩
  | .branch _ (.branch _ (.leaf e) x) R, k, h, r => by
    rw [szR] at h
    unfold mzR at r ⊢
    obtain ⟨⟨r1, r2, r4, r5⟩, r3⟩ := r
    rw [h k (by omega) (by omega), h (k + 1 + szE e) (by omega) (by omega)]
    exact ⟨⟨r1, mzE_cg e _ (fun i h1 h2 => h i (by omega) (by omega)) r2, r4, mzR_cg x _ (fun i h1 h2 => h i (by omega) (by omega)) r5⟩, mzR_cg R _ (fun i h1 h2 => h i (by omega) (by omega)) r3⟩
  | .branch _ (.branch _ (.branch _ (.leaf e) x) y) R, k, h, r => by
    rw [szR] at h
    unfold mzR at r ⊢
    obtain ⟨⟨r1, r2, r4, r5, r6, r7⟩, r3⟩ := r
    rw [h k (by omega) (by omega), h (k + 1 + szE e) (by omega) (by omega), h (k + 1 + szE e + 1 + szR x) (by omega) (by omega)]
    exact ⟨⟨r1, mzE_cg e _ (fun i h1 h2 => h i (by omega) (by omega)) r2, r4, mzR_cg x _ (fun i h1 h2 => h i (by omega) (by omega)) r5, r6, mzR_cg y _ (fun i h1 h2 => h i (by omega) (by omega)) r7⟩, mzR_cg R _ (fun i h1 h2 => h i (by omega) (by omega)) r3⟩
  | .branch _ (.branch _ (.branch _ (.branch _ _ _) _) _) _, k, h, r => r.elim
