/-! ===== the heights of a tree's code ===== -/
def hgE : ET → Nat → Nat → Nat → Nat
  | .leaf _, _, h, _ => h
  | .branch _ a b, w, h, j => if j < w + szE a then hgE a w h j else if j < w + szE a + szE b then hgE b (w + szE a) (h + 1) j else h + 2
def hgR : RT → Nat → Nat → Nat
  | .leaf _, _, _ => 0
  | .branch _ (.leaf e) R, w, j => if j < w + szE e then hgE e w 0 j else if j < w + szE e + 1 then 1 else hgR R (w + szE e + 1) j
  | .branch _ (.branch _ (.leaf e) r) R, w, j => if j < w + szE e then hgE e w 0 j else if j < w + szE e + 1 then 1 else if j < w + szE e + 1 + lnR r then hgR r (w + szE e + 1) j else if j < w + szE e + 1 + lnR r + 1 then 0 else hgR R (w + szE e + 1 + lnR r + 1) j
  | .branch _ (.branch _ (.branch _ (.leaf e) r1) r2) R, w, j => if j < w + szE e then hgE e w 0 j else if j < w + szE e + 1 then 1 else if j < w + szE e + 1 + lnR r1 then hgR r1 (w + szE e + 1) j else if j < w + szE e + 1 + lnR r1 + 1 then 0 else if j < w + szE e + 1 + lnR r1 + 1 + lnR r2 then hgR r2 (w + szE e + 1 + lnR r1 + 1) j else hgR R (w + szE e + 1 + lnR r1 + 1 + lnR r2) j
  | .branch _ (.branch _ (.branch _ (.branch _ _ _) _) _) _, _, _ => 0
theorem hgE_0 : ∀ (e : ET) (w h : Nat), hgE e w h w = h
  | .leaf _, _, _ => rfl
  | .branch _ a b, w, h => by
    have := szE_pos a
    rw [hgE, if_pos (by omega)]
    exact hgE_0 a w h
section HGT
variable {K B : Nat → Int32} {C : Nat} {G : Nat → Nat}
theorem okE : ∀ (e : ET) (g h w : Nat), wfE e → dkE g e → h ≤ g → cdE K B e w → w + szE e < C → (∀ j, w ≤ j → j < w + szE e → G j = hgE e w h j) → G (w + szE e) = h + 1 → ∀ k, w ≤ k → k < w + szE e → okk K B C (fun _ => True) G k
  | .leaf (q, v), g, h, w, wf, dk, hg, cd, hC, hG, hE, k, k1, k2 => by
    have k2 : k < w + 1 := k2
    have e : k = w := by omega
    subst e
    have dk : g ≤ 6 := dk
    have gk : G k = h := hG k (Nat.le_refl k) (by show k < k + 1; omega)
    have hE : G (k + 1) = h + 1 := hE
    have hC : k + 1 < C := hC
    have c1 : K k = nI q := cd.1
    have c2 : B k = nI v := cd.2
    refine ⟨by omega, ?_⟩
    rcases wf with ⟨w1, w2⟩ | ⟨w1, w2⟩
    · have w1 : q = 0 := w1
      subst w1
      exact Or.inl ⟨c1, by omega, hC, trivial, by omega⟩
    · have w1 : q = 1 := w1
      subst w1
      exact Or.inr (Or.inl ⟨c1, ⟨by omega, v, w2, c2⟩, hC, trivial, by omega⟩)
  | .branch q a b, g, h, w, wf, dk, hg, cd, hC, hG, hE, k, k1, k2 => by
    have pa := szE_pos a
    have pb := szE_pos b
    obtain ⟨wq, wa, wb⟩ := wf
    obtain ⟨dg, da, db⟩ := dk
    obtain ⟨cq, ca, cb⟩ := cd
    have sz : szE (.branch q a b) = 1 + szE a + szE b := rfl
    rw [sz] at hC hE k2
    have hG : ∀ j, w ≤ j → j < w + (1 + szE a + szE b) → G j = if j < w + szE a then hgE a w h j else if j < w + szE a + szE b then hgE b (w + szE a) (h + 1) j else h + 2 := hG
    have G1 : G (w + szE a) = h + 1 := by rw [hG _ (by omega) (by omega), if_neg (by omega), if_pos (by omega), hgE_0]
    have G2 : G (w + szE a + szE b) = h + 2 := by rw [hG _ (by omega) (by omega), if_neg (by omega), if_neg (by omega)]
    by_cases c1 : k < w + szE a
    · exact okE a (g + 1) h w wa da (by omega) ca (by omega) (fun j j1 j2 => by rw [hG j j1 (by omega), if_pos j2]) G1 k k1 c1
    · by_cases c2 : k < w + szE a + szE b
      · exact okE b (g + 1) (h + 1) (w + szE a) wb db (by omega) cb (by omega) (fun j j1 j2 => by rw [hG j (by omega) (by omega), if_neg (by omega), if_pos j2]) G2 k (by omega) c2
      · have e : k = w + szE a + szE b := by omega
        subst e
        refine ⟨by omega, Or.inr (Or.inr (Or.inr (Or.inl ⟨?_, by omega, by omega, trivial, ?_⟩)))⟩
        · rw [cq.1]
          have key : ∀ q, q < 7 → 3 ≤ q → nI q = 3 ∨ nI q = 4 ∨ nI q = 5 ∨ nI q = 6 := by decide
          exact key q (by omega) wq.1
        · rw [show w + szE a + szE b + 1 = w + (1 + szE a + szE b) by omega, hE, G2]
          rfl
theorem st0 : ∀ (t : RT) (w : Nat), wfR t → (∀ j, w ≤ j → j < w + lnR t → G j = hgR t w j) → G (w + lnR t) = 0 → G w = 0
  | .leaf _, w, wf, hG, hE => hE
  | .branch _ (.leaf e) R, w, wf, hG, hE => by
    have := szE_pos e
    rw [hG w (Nat.le_refl w) (by show w < w + (szE e + 1 + lnR R); omega), hgR, if_pos (by omega), hgE_0]
  | .branch _ (.branch _ (.leaf e) r) R, w, wf, hG, hE => by
    have := szE_pos e
    rw [hG w (Nat.le_refl w) (by show w < w + (szE e + 1 + lnR r + 1 + lnR R); omega), hgR, if_pos (by omega), hgE_0]
  | .branch _ (.branch _ (.branch _ (.leaf e) r1) r2) R, w, wf, hG, hE => by
    have := szE_pos e
    rw [hG w (Nat.le_refl w) (by show w < w + (szE e + 1 + lnR r1 + 1 + lnR r2 + lnR R); omega), hgR, if_pos (by omega), hgE_0]
  | .branch _ (.branch _ (.branch _ (.branch _ _ _) _) _) _, w, wf, hG, hE => wf.elim
theorem okR : ∀ (t : RT) (g w : Nat), wfR t → dkR g t → cdR K B t w → w + lnR t < C → (∀ j, w ≤ j → j < w + lnR t → G j = hgR t w j) → G (w + lnR t) = 0 → ∀ k, w ≤ k → k < w + lnR t → okk K B C (fun _ => True) G k
  | .leaf _, g, w, wf, dk, cd, hC, hG, hE, k, k1, k2 => absurd k2 (by show ¬ k < w + 0; omega)
  | .branch v (.leaf e) R, g, w, wf, dk, cd, hC, hG, hE, k, k1, k2 => by
    have pe := szE_pos e
    obtain ⟨wv, we, wR⟩ := wf
    obtain ⟨de, dR⟩ := dk
    obtain ⟨⟨ce, c2, c3⟩, cR⟩ := cd
    have sz : lnR (.branch v (.leaf e) R) = szE e + 1 + lnR R := by rw [lnR]
    rw [sz] at hC hE k2 hG
    have GR : ∀ j, w + szE e + 1 ≤ j → j < w + szE e + 1 + lnR R → G j = hgR R (w + szE e + 1) j := fun j j1 j2 => by rw [hG j (by omega) (by omega), hgR, if_neg (by omega), if_neg (by omega)]
    have ER : G (w + szE e + 1 + lnR R) = 0 := by rw [show w + szE e + 1 + lnR R = w + (szE e + 1 + lnR R) by omega]; exact hE
    have G0 : G (w + szE e + 1) = 0 := st0 R (w + szE e + 1) wR GR ER
    have G1 : G (w + szE e) = 1 := by rw [hG _ (by omega) (by omega), hgR, if_neg (by omega), if_pos (by omega)]
    by_cases k3 : k < w + szE e
    · exact okE e 0 0 w we de (Nat.le_refl 0) ce (by omega) (fun j j1 j2 => by rw [hG j j1 (by omega), hgR, if_pos j2]) G1 k k1 k3
    · by_cases k4 : k = w + szE e
      · subst k4
        exact ⟨by omega, Or.inr (Or.inr (Or.inl ⟨c2, ⟨by omega, v, wv, c3⟩, by omega, trivial, by omega⟩))⟩
      · exact okR R g (w + szE e + 1) wR dR cR (by omega) GR ER k (by omega) (by omega)
  | .branch _ (.branch _ (.leaf e) r) R, g, w, wf, dk, cd, hC, hG, hE, k, k1, k2 => by
    have pe := szE_pos e
    obtain ⟨we, wr, wR⟩ := wf
    obtain ⟨de, dr, dR⟩ := dk
    obtain ⟨⟨ce, c7, c8, cr⟩, cR⟩ := cd
    have sz : ∀ a b, lnR (.branch a (.branch b (.leaf e) r) R) = szE e + 1 + lnR r + 1 + lnR R := fun a b => by rw [lnR]
    rw [sz] at hC hE k2 hG
    have Gr : ∀ j, w + szE e + 1 ≤ j → j < w + szE e + 1 + lnR r → G j = hgR r (w + szE e + 1) j := fun j j1 j2 => by rw [hG j (by omega) (by omega), hgR, if_neg (by omega), if_neg (by omega), if_pos j2]
    have Er : G (w + szE e + 1 + lnR r) = 0 := by rw [hG _ (by omega) (by omega), hgR, if_neg (by omega), if_neg (by omega), if_neg (by omega), if_pos (by omega)]
    have GR : ∀ j, w + szE e + 1 + lnR r + 1 ≤ j → j < w + szE e + 1 + lnR r + 1 + lnR R → G j = hgR R (w + szE e + 1 + lnR r + 1) j := fun j j1 j2 => by rw [hG j (by omega) (by omega), hgR, if_neg (by omega), if_neg (by omega), if_neg (by omega), if_neg (by omega)]
    have ER : G (w + szE e + 1 + lnR r + 1 + lnR R) = 0 := by rw [show w + szE e + 1 + lnR r + 1 + lnR R = w + (szE e + 1 + lnR r + 1 + lnR R) by omega]; exact hE
    have G0 : G (w + szE e + 1 + lnR r + 1) = 0 := st0 R _ wR GR ER
    have G2 : G (w + szE e + 1) = 0 := st0 r _ wr Gr Er
    have G1 : G (w + szE e) = 1 := by rw [hG _ (by omega) (by omega), hgR, if_neg (by omega), if_pos (by omega)]
    have Gw : G w = 0 := by rw [hG _ (by omega) (by omega), hgR, if_pos (by omega), hgE_0]
    by_cases k3 : k < w + szE e
    · exact okE e 0 0 w we de (Nat.le_refl 0) ce (by omega) (fun j j1 j2 => by rw [hG j j1 (by omega), hgR, if_pos j2]) G1 k k1 k3
    · by_cases k4 : k = w + szE e
      · subst k4
        exact ⟨by omega, Or.inr (Or.inr (Or.inr (Or.inr (Or.inl ⟨c7.1, by omega, ⟨by omega, trivial, by omega⟩, _, by omega, trivial, c7.2, by omega⟩))))⟩
      · by_cases k5 : k < w + szE e + 1 + lnR r
        · exact okR r (g + 1) (w + szE e + 1) wr dr cr (by omega) Gr Er k (by omega) k5
        · by_cases k6 : k = w + szE e + 1 + lnR r
          · subst k6
            exact ⟨by omega, Or.inr (Or.inr (Or.inr (Or.inr (Or.inr (Or.inl ⟨c8.1, w, by omega, trivial, c8.2, by omega⟩)))))⟩
          · exact okR R g (w + szE e + 1 + lnR r + 1) wR dR cR (by omega) GR ER k (by omega) (by omega)
  | .branch _ (.branch _ (.branch _ (.leaf e) r1) r2) R, g, w, wf, dk, cd, hC, hG, hE, k, k1, k2 => by
    have pe := szE_pos e
    obtain ⟨we, wr, wr2, wR⟩ := wf
    obtain ⟨de, dr, dr2, dR⟩ := dk
    obtain ⟨⟨ce, c7, c8, cr, cr2⟩, cR⟩ := cd
    have sz : ∀ a b c, lnR (.branch a (.branch b (.branch c (.leaf e) r1) r2) R) = szE e + 1 + lnR r1 + 1 + lnR r2 + lnR R := fun a b c => by rw [lnR]
    rw [sz] at hC hE k2 hG
    have Gr : ∀ j, w + szE e + 1 ≤ j → j < w + szE e + 1 + lnR r1 → G j = hgR r1 (w + szE e + 1) j := fun j j1 j2 => by rw [hG j (by omega) (by omega), hgR, if_neg (by omega), if_neg (by omega), if_pos j2]
    have Er : G (w + szE e + 1 + lnR r1) = 0 := by rw [hG _ (by omega) (by have := lnR r2; have := lnR R; omega), hgR, if_neg (by omega), if_neg (by omega), if_neg (by omega), if_pos (by omega)]
    have Gr2 : ∀ j, w + szE e + 1 + lnR r1 + 1 ≤ j → j < w + szE e + 1 + lnR r1 + 1 + lnR r2 → G j = hgR r2 (w + szE e + 1 + lnR r1 + 1) j := fun j j1 j2 => by rw [hG j (by omega) (by omega), hgR, if_neg (by omega), if_neg (by omega), if_neg (by omega), if_neg (by omega), if_pos j2]
    have GR : ∀ j, w + szE e + 1 + lnR r1 + 1 + lnR r2 ≤ j → j < w + szE e + 1 + lnR r1 + 1 + lnR r2 + lnR R → G j = hgR R (w + szE e + 1 + lnR r1 + 1 + lnR r2) j := fun j j1 j2 => by rw [hG j (by omega) (by omega), hgR, if_neg (by omega), if_neg (by omega), if_neg (by omega), if_neg (by omega), if_neg (by omega)]
    have ER : G (w + szE e + 1 + lnR r1 + 1 + lnR r2 + lnR R) = 0 := by rw [show w + szE e + 1 + lnR r1 + 1 + lnR r2 + lnR R = w + (szE e + 1 + lnR r1 + 1 + lnR r2 + lnR R) by omega]; exact hE
    have G0 : G (w + szE e + 1 + lnR r1 + 1 + lnR r2) = 0 := st0 R _ wR GR ER
    have G3 : G (w + szE e + 1 + lnR r1 + 1) = 0 := st0 r2 _ wr2 Gr2 G0
    have G2 : G (w + szE e + 1) = 0 := st0 r1 _ wr Gr Er
    have G1 : G (w + szE e) = 1 := by rw [hG _ (by omega) (by omega), hgR, if_neg (by omega), if_pos (by omega)]
    by_cases k3 : k < w + szE e
    · exact okE e 0 0 w we de (Nat.le_refl 0) ce (by omega) (fun j j1 j2 => by rw [hG j j1 (by omega), hgR, if_pos j2]) G1 k k1 k3
    · by_cases k4 : k = w + szE e
      · subst k4
        exact ⟨by omega, Or.inr (Or.inr (Or.inr (Or.inr (Or.inl ⟨c7.1, by omega, ⟨by omega, trivial, by omega⟩, _, by omega, trivial, c7.2, by omega⟩))))⟩
      · by_cases k5 : k < w + szE e + 1 + lnR r1
        · exact okR r1 (g + 1) (w + szE e + 1) wr dr cr (by omega) Gr Er k (by omega) k5
        · by_cases k6 : k = w + szE e + 1 + lnR r1
          · subst k6
            exact ⟨by omega, Or.inr (Or.inr (Or.inr (Or.inr (Or.inr (Or.inl ⟨c8.1, _, by omega, trivial, c8.2, by omega⟩)))))⟩
          · by_cases k7 : k < w + szE e + 1 + lnR r1 + 1 + lnR r2
            · exact okR r2 (g + 1) (w + szE e + 1 + lnR r1 + 1) wr2 dr2 cr2 (by omega) Gr2 G0 k (by omega) k7
            · exact okR R g (w + szE e + 1 + lnR r1 + 1 + lnR r2) wR dR cR (by omega) GR ER k (by omega) (by omega)
  | .branch _ (.branch _ (.branch _ (.branch _ _ _) _) _) _, g, w, wf, dk, cd, hC, hG, hE, k, k1, k2 => wf.elim
end HGT
theorem cs_tree {K B : Nat → Int32} {t : RT} (wf : wfR t) (dk : dkR 0 t) (cd : cdR K B t 0) (h9 : K (lnR t) = 9) (hl : lnR t + 1 ≤ 100) : ∃ G, CSf K B (lnR t + 1) (fun _ => True) G := by
  refine ⟨fun j => if j < lnR t then hgR t 0 j else 0, hl, by omega, trivial, ?_, fun k hk _ => ?_⟩
  · refine st0 (G := fun j => if j < lnR t then hgR t 0 j else 0) t 0 wf (fun j _ j2 => if_pos (by omega)) (if_neg (by omega))
  · by_cases c : k < lnR t
    · exact okR (G := fun j => if j < lnR t then hgR t 0 j else 0) t 0 0 wf dk cd (by omega) (fun j _ j2 => if_pos (by omega)) (if_neg (by omega)) k (Nat.zero_le k) (by omega)
    · have e : k = lnR t := by omega
      subst e
      exact ⟨by show (if lnR t < lnR t then _ else _) ≤ 8; rw [if_neg (by omega)]; omega, Or.inr (Or.inr (Or.inr (Or.inr (Or.inr (Or.inr h9)))))⟩
/-! ===== what a tree's code does ===== -/
def Sts (K B : Nat → Int32) (mz : Nat) : Nat → GS → GS → Prop
  | 0, m, m' => m = m'
  | N + 1, m, m' => (¬ K m.1 = 9 ∧ (gstep K B m).2.2.2.2 ≤ mz) ∧ Sts K B mz N (gstep K B m) m'
def Fls (K B : Nat → Int32) (mz : Nat) (m : GS) : Prop := ∀ k md, (grun K B mz k md m).1 = none
section FOL
variable {K B : Nat → Int32} {mz : Nat}
theorem Sts_run : ∀ (N k md : Nat) (m m' : GS), Sts K B mz N m m' → grun K B mz (N + k) md m = grun K B mz k (md + N) m'
  | 0, k, md, m, m', h => by
    have h : m = m' := h
    rw [h, Nat.zero_add, Nat.add_zero]
  | N + 1, k, md, m, m', h => by
    rw [show N + 1 + k = (N + k) + 1 by omega, grun, if_neg h.1.1, if_neg (Nat.not_lt.mpr h.1.2), Sts_run N k (md + 1) _ m' h.2, show md + 1 + N = md + (N + 1) by omega]
theorem Sts_fl : ∀ (N : Nat) (m m' : GS), Sts K B mz N m m' → Fls K B mz m' → Fls K B mz m
  | 0, m, m', h, hf => by
    have h : m = m' := h
    rw [h]; exact hf
  | N + 1, m, m', h, hf => fun k md => by
    cases k with
    | zero => rfl
    | succ k =>
      rw [grun, if_neg h.1.1, if_neg (Nat.not_lt.mpr h.1.2)]
      exact Sts_fl N _ m' h.2 hf k (md + 1)
theorem Sts_tr : ∀ (N N' : Nat) (m m' m'' : GS), Sts K B mz N m m' → Sts K B mz N' m' m'' → Sts K B mz (N + N') m m''
  | 0, N', m, m', m'', h, h2 => by
    have h : m = m' := h
    rw [h, Nat.zero_add]; exact h2
  | N + 1, N', m, m', m'', h, h2 => by
    rw [show N + 1 + N' = (N + N') + 1 by omega]
    exact ⟨h.1, Sts_tr N N' _ m' m'' h.2 h2⟩
theorem Sts_1 {m m' : GS} (h9 : ¬ K m.1 = 9) (he : gstep K B m = m') (hz : m'.2.2.2.2 ≤ mz) : Sts K B mz 1 m m' := ⟨⟨h9, by rw [he]; exact hz⟩, he⟩
theorem stE : ∀ (e : ET) (w h : Nat) (V S : Nat → Int32) (z : Nat), wfE e → cdE K B e w → z ≤ mz → ∃ S', Sts K B mz (szE e) (w, h, V, S, z) (w + szE e, h + 1, V, S', z) ∧ (∀ j, j < h → S' j = S j) ∧ S' h = vlE V e
  | .leaf (q, v), w, h, V, S, z, wf, cd, hz => by
    have c1 : K w = nI q := cd.1
    have c2 : B w = nI v := cd.2
    rcases wf with ⟨w1, w2⟩ | ⟨w1, w2⟩
    · have w1 : q = 0 := w1
      subst w1
      have c1 : K w = 0 := c1
      refine ⟨upd S h (B w), Sts_1 (by show ¬ K w = 9; rw [c1]; decide) ?_ hz, fun j hj => upd_nq _ (by omega), ?_⟩
      · rw [gstep, if_pos (show K (w, h, V, S, z).1 = 0 from c1)]; rfl
      · rw [upd_at, c2]; rfl
    · have w1 : q = 1 := w1
      subst w1
      have c1 : K w = 1 := c1
      have w2 : v < 1000 := by have : v < 8 := w2; omega
      refine ⟨upd S h (V (B w).toNatClampNeg), Sts_1 (by show ¬ K w = 9; rw [c1]; decide) ?_ hz, fun j hj => upd_nq _ (by omega), ?_⟩
      · rw [gstep, if_neg (show ¬ K (w, h, V, S, z).1 = 0 by rw [show K (w, h, V, S, z).1 = 1 from c1]; decide), if_pos (show K (w, h, V, S, z).1 = 1 from c1)]; rfl
      · rw [upd_at, c2, nI_clamp (by omega)]; rfl
  | .branch q a b, w, h, V, S, z, wf, cd, hz => by
    obtain ⟨wq, wa, wb⟩ := wf
    obtain ⟨cq, ca, cb⟩ := cd
    obtain ⟨S1, r1, f1, v1⟩ := stE a w h V S z wa ca hz
    obtain ⟨S2, r2, f2, v2⟩ := stE b (w + szE a) (h + 1) V S1 z wb cb hz
    have key : ∀ q, q < 7 → 3 ≤ q → ¬ nI q = 0 ∧ ¬ nI q = 1 ∧ ¬ nI q = 2 ∧ nI q < 7 ∧ ¬ nI q = 9 := by decide
    have kq := key q (by omega) wq.1
    rw [← cq.1] at kq
    refine ⟨upd S2 h (r_wk (nI q) (vlE V a) (vlE V b)), ?_, fun j hj => by rw [upd_nq _ (by omega), f2 j (by omega), f1 j hj], by rw [upd_at]; rfl⟩
    have st := Sts_1 (K := K) (B := B) (mz := mz) (m := (w + szE a + szE b, h + 1 + 1, V, S2, z)) (m' := (w + szE a + szE b + 1, h + 1, V, upd S2 h (r_wk (nI q) (vlE V a) (vlE V b)), z)) kq.2.2.2.2 (by
      rw [gstep, if_neg (show ¬ K (w + szE a + szE b, h + 1 + 1, V, S2, z).1 = 0 from kq.1), if_neg (show ¬ K (w + szE a + szE b, h + 1 + 1, V, S2, z).1 = 1 from kq.2.1), if_neg (show ¬ K (w + szE a + szE b, h + 1 + 1, V, S2, z).1 = 2 from kq.2.2.1), if_pos (show K (w + szE a + szE b, h + 1 + 1, V, S2, z).1 < 7 from kq.2.2.2.1)]
      show (w + szE a + szE b + 1, h + 1 + 1 - 1, V, upd S2 (h + 1 + 1 - 1 - 1) (r_wk (K (w + szE a + szE b)) (S2 (h + 1 + 1 - 1 - 1)) (S2 (h + 1 + 1 - 1))), z) = _
      rw [show h + 1 + 1 - 1 = h + 1 by omega, show h + 1 - 1 = h by omega, cq.1, f2 h (by omega), v1, v2]) hz
    have := Sts_tr _ _ _ _ _ (Sts_tr _ _ _ _ _ r1 r2) st
    rw [show szE (.branch q a b) = szE a + szE b + 1 by show 1 + szE a + szE b = _; omega, show w + (szE a + szE b + 1) = w + szE a + szE b + 1 by omega]
    exact this
/-- ZERO: one look -/
theorem st7 {p t : Nat} {V S : Nat → Int32} {z : Nat} (c : K p = 7) (ht : B p = nI t) (htb : t < 2147483648) : (z < mz → Sts K B mz 1 (p, 1, V, S, z) (if S 0 = 0 then t else p + 1, 0, V, S, z + 1)) ∧ (¬ z < mz → Fls K B mz (p, 1, V, S, z)) := by
  have e : gstep K B (p, 1, V, S, z) = (if S 0 = 0 then t else p + 1, 0, V, S, z + 1) := by
    have c' : K (p, 1, V, S, z).1 = 7 := c
    rw [gstep, if_neg (by rw [c']; decide), if_neg (by rw [c']; decide), if_neg (by rw [c']; decide), if_neg (by rw [c']; decide), if_pos c']
    show (if S 0 = 0 then (B p).toNatClampNeg else p + 1, 0, V, S, z + 1) = _
    rw [ht, nI_clamp htb]
  have n9 : ¬ K (p, 1, V, S, z).1 = 9 := by show ¬ K p = 9; rw [c]; decide
  refine ⟨fun hz => Sts_1 n9 e hz, fun hz k md => ?_⟩
  cases k with
  | zero => rfl
  | succ k =>
    rw [grun, if_neg n9, if_pos (by rw [e]; show mz < z + 1; omega)]
theorem st8 {p t h : Nat} {V S : Nat → Int32} {z : Nat} (c : K p = 8) (ht : B p = nI t) (htb : t < 2147483648) (hz : z ≤ mz) : Sts K B mz 1 (p, h, V, S, z) (t, h, V, S, z) := by
  have c' : K (p, h, V, S, z).1 = 8 := c
  refine Sts_1 (by rw [c']; decide) ?_ hz
  rw [gstep, if_neg (by rw [c']; decide), if_neg (by rw [c']; decide), if_neg (by rw [c']; decide), if_neg (by rw [c']; decide), if_neg (by rw [c']; decide)]
  show ((B p).toNatClampNeg, h, V, S, z) = _
  rw [ht, nI_clamp htb]
/-- from w on, ln instructions do what wx says -/
def TR (K B : Nat → Int32) (mz w ln : Nat) (wx : (Nat → Int32) → Nat → OX) : Prop := ∀ (V S : Nat → Int32) (z c : Nat), c + z = mz → (∀ V' c', wx V c = some (V', c') → ∃ N S', Sts K B mz N (w, 0, V, S, z) (w + ln, 0, V', S', mz - c') ∧ N ≤ ln * (c - c' + 1) ∧ c' ≤ c) ∧ (wx V c = none → Fls K B mz (w, 0, V, S, z))
theorem TR_lp {e : ET} {w lr : Nat} {wx : (Nat → Int32) → Nat → OX} (wf : wfE e) (ce : cdE K B e w) (c7 : K (w + szE e) = 7 ∧ B (w + szE e) = nI (w + szE e + 1 + lr + 1)) (c8 : K (w + szE e + 1 + lr) = 8 ∧ B (w + szE e + 1 + lr) = nI w) (hw : w + szE e + 1 + lr + 1 < 2147483648) (hr : TR K B mz (w + szE e + 1) lr wx) : ∀ (k : Nat) (V S : Nat → Int32) (z c : Nat), c + z = mz → c < k → (∀ V' c', mkL (fun X => vlE X e) wx k V c = some (V', c') → ∃ N S', Sts K B mz N (w, 0, V, S, z) (w + (szE e + 1 + lr + 1), 0, V', S', mz - c') ∧ N ≤ (szE e + 1 + lr + 1) * (c - c') ∧ c' < c) ∧ (mkL (fun X => vlE X e) wx k V c = none → Fls K B mz (w, 0, V, S, z))
  | 0, V, S, z, c, h1, h2 => absurd h2 (by omega)
  | k + 1, V, S, z, c, h1, h2 => by
    obtain ⟨S1, r1, f1, v1⟩ := stE (mz := mz) e w 0 V S z wf ce (by omega)
    have z7 := st7 (mz := mz) (V := V) (S := S1) (z := z) c7.1 c7.2 hw
    rw [mkL]
    by_cases c0 : c = 0
    · rw [if_pos c0]
      exact ⟨fun V' c' h => absurd h (by simp), fun _ => Sts_fl _ _ _ r1 (z7.2 (by omega))⟩
    · rw [if_neg c0]
      have s7 := z7.1 (by omega)
      rw [v1] at s7
      have s17 := Sts_tr _ _ _ _ _ r1 s7
      by_cases ev : vlE V e = 0
      · rw [if_pos ev]
        rw [if_pos ev] at s17
        refine ⟨fun V' c' h => ?_, fun h => absurd h (by simp)⟩
        have e1 : V = V' := congrArg Prod.fst (Option.some.inj h)
        have e2 : c - 1 = c' := congrArg Prod.snd (Option.some.inj h)
        subst e1
        subst e2
        refine ⟨szE e + 1, S1, ?_, ?_, by omega⟩
        · rw [show w + (szE e + 1 + lr + 1) = w + szE e + 1 + lr + 1 by omega, show mz - (c - 1) = z + 1 by omega]
          exact s17
        · rw [show c - (c - 1) = 1 by omega]; omega
      · rw [if_neg ev]
        rw [if_neg ev] at s17
        obtain ⟨b1, b2⟩ := hr V S1 (z + 1) (c - 1) (by omega)
        cases hx : wx V (c - 1) with
        | none =>
          exact ⟨fun V' c' h => absurd h (by simp [oB]), fun _ => Sts_fl _ _ _ s17 (b2 hx)⟩
        | some q =>
          obtain ⟨V1, c1⟩ := q
          obtain ⟨N1, S2, r2, n2, l2⟩ := b1 V1 c1 hx
          have r3 := st8 (mz := mz) (h := 0) (V := V1) (S := S2) (z := mz - c1) c8.1 c8.2 (by omega) (Nat.sub_le mz c1)
          have s18 := Sts_tr _ _ _ _ _ (Sts_tr _ _ _ _ _ s17 r2) r3
          obtain ⟨i1, i2⟩ := TR_lp wf ce c7 c8 hw hr k V1 S2 (mz - c1) c1 (by omega) (by omega)
          refine ⟨fun V' c' h => ?_, fun h => Sts_fl _ _ _ s18 (i2 h)⟩
          obtain ⟨N3, S3, r4, n4, l4⟩ := i1 V' c' h
          refine ⟨_, S3, Sts_tr _ _ _ _ _ s18 r4, ?_, by omega⟩
          have m1 : N1 ≤ lr * (c - 1 - c1 + 1) := n2
          have e3 : (szE e + 1 + lr + 1) * (c - c') = (szE e + 1 + lr + 1) * (c1 - c') + (szE e + 1 + lr + 1) * (c - c1) := by
            rw [← Nat.mul_add]; congr 1; omega
          have e4 : (szE e + 1 + lr + 1) * (c - c1) = (szE e + 2) * (c - c1) + lr * (c - c1) := by
            rw [← Nat.add_mul]; congr 1; omega
          have e5 : szE e + 2 ≤ (szE e + 2) * (c - c1) := Nat.le_mul_of_pos_right _ (by omega)
          have e6 : c - 1 - c1 + 1 = c - c1 := by omega
          rw [e6] at m1
          omega
theorem TR_R {t0 : Nat} : ∀ (t : RT) (w : Nat), wfR t → cdR K B t w → w + lnR t ≤ 100 → mz ≤ 500 → TR K B mz w (lnR t) (fun X c => mkR t X c)
  | .leaf _, w, wf, cd, hw, hm => fun V S z c hc => ⟨fun V' c' h => by
      have e1 : V = V' := congrArg Prod.fst (Option.some.inj h)
      have e2 : c = c' := congrArg Prod.snd (Option.some.inj h)
      subst e1
      subst e2
      exact ⟨0, S, by show (w, 0, V, S, z) = (w + 0, 0, V, S, mz - c); rw [show mz - c = z by omega]; rfl, Nat.zero_le _, Nat.le_refl c⟩, fun h => absurd h (by simp [mkR])⟩
  | .branch v (.leaf e) R, w, wf, cd, hw, hm => fun V S z c hc => by
    obtain ⟨wv, we, wR⟩ := wf
    obtain ⟨⟨ce, c2, c3⟩, cR⟩ := cd
    have sz : lnR (.branch v (.leaf e) R) = szE e + 1 + lnR R := by rw [lnR]
    rw [sz] at hw ⊢
    obtain ⟨S1, r1, f1, v1⟩ := stE (mz := mz) e w 0 V S z we ce (by omega)
    have c2' : K (w + szE e, 0 + 1, V, S1, z).1 = 2 := c2
    have r2 := Sts_1 (K := K) (B := B) (mz := mz) (m := (w + szE e, 0 + 1, V, S1, z)) (m' := (w + szE e + 1, 0, upd V v (vlE V e), S1, z)) (by rw [c2']; decide) (by
      rw [gstep, if_neg (by rw [c2']; decide), if_neg (by rw [c2']; decide), if_pos c2']
      show (w + szE e + 1, 0, upd V (B (w + szE e)).toNatClampNeg (S1 0), S1, z) = _
      rw [c3, nI_clamp (by omega), v1]) (by show z ≤ mz; omega)
    have r3 := Sts_tr _ _ _ _ _ r1 r2
    obtain ⟨i1, i2⟩ := TR_R (t0 := t0) R (w + szE e + 1) wR cR (by omega) hm (upd V v (vlE V e)) S1 z c hc
    have em : mkR (.branch v (.leaf e) R) V c = mkR R (upd V v (vlE V e)) c := by rw [mkR]
    refine ⟨fun V' c' h => ?_, fun h => Sts_fl _ _ _ r3 (i2 (em.symm.trans h))⟩
    obtain ⟨N, S2, r4, n4, l4⟩ := i1 V' c' (em.symm.trans h)
    refine ⟨szE e + 1 + N, S2, ?_, ?_, l4⟩
    · rw [show w + (szE e + 1 + lnR R) = w + szE e + 1 + lnR R by omega]
      exact Sts_tr _ _ _ _ _ r3 r4
    · have e5 : (szE e + 1 + lnR R) * (c - c' + 1) = (szE e + 1) * (c - c' + 1) + lnR R * (c - c' + 1) := Nat.add_mul _ _ _
      have e6 : szE e + 1 ≤ (szE e + 1) * (c - c' + 1) := Nat.le_mul_of_pos_right _ (by omega)
      omega
  | .branch a (.branch b (.leaf e) r) R, w, wf, cd, hw, hm => fun V S z c hc => by
    obtain ⟨we, wr, wR⟩ := wf
    obtain ⟨⟨ce, c7, c8, cr⟩, cR⟩ := cd
    have sz : lnR (.branch a (.branch b (.leaf e) r) R) = szE e + 1 + lnR r + 1 + lnR R := by rw [lnR]
    rw [sz] at hw ⊢
    have ir := TR_R (t0 := t0) r (w + szE e + 1) wr cr (by omega) hm
    obtain ⟨l1, l2⟩ := TR_lp we ce c7 c8 (by omega) ir 600 V S z c hc (by omega)
    have em : mkR (.branch a (.branch b (.leaf e) r) R) V c = oB (mkL (fun X => vlE X e) (fun X c => mkR r X c) 600 V c) (fun X c => mkR R X c) := by rw [mkR]
    show (∀ V' c', mkR (.branch a (.branch b (.leaf e) r) R) V c = some (V', c') → _) ∧ (mkR (.branch a (.branch b (.leaf e) r) R) V c = none → _)
    rw [em]
    cases hx : mkL (fun X => vlE X e) (fun X c => mkR r X c) 600 V c with
    | none => exact ⟨fun V' c' h => absurd h (by simp [oB]), fun _ => l2 hx⟩
    | some q =>
      obtain ⟨V1, c1⟩ := q
      obtain ⟨N1, S1, r1, n1, q1⟩ := l1 V1 c1 hx
      obtain ⟨i1, i2⟩ := TR_R (t0 := t0) R (w + szE e + 1 + lnR r + 1) wR cR (by omega) hm V1 S1 (mz - c1) c1 (by omega)
      rw [show w + (szE e + 1 + lnR r + 1) = w + szE e + 1 + lnR r + 1 by omega] at r1
      refine ⟨fun V' c' h => ?_, fun h => Sts_fl _ _ _ r1 (i2 h)⟩
      obtain ⟨N, S2, r4, n4, l4⟩ := i1 V' c' h
      refine ⟨N1 + N, S2, ?_, ?_, by omega⟩
      · rw [show w + (szE e + 1 + lnR r + 1 + lnR R) = w + szE e + 1 + lnR r + 1 + lnR R by omega]
        exact Sts_tr _ _ _ _ _ r1 r4
      · have e5 : (szE e + 1 + lnR r + 1 + lnR R) * (c - c' + 1) = (szE e + 1 + lnR r + 1) * (c - c' + 1) + lnR R * (c - c' + 1) := Nat.add_mul _ _ _
        have e6 : (szE e + 1 + lnR r + 1) * (c - c1) ≤ (szE e + 1 + lnR r + 1) * (c - c' + 1) := Nat.mul_le_mul_left _ (by omega)
        have e7 : lnR R * (c1 - c' + 1) ≤ lnR R * (c - c' + 1) := Nat.mul_le_mul_left _ (by omega)
        omega
  | .branch a (.branch b (.branch d (.leaf e) x1) x2) R, w, wf, cd, hw, hm => fun V S z c hc => by
    obtain ⟨we, wr, wr2, wR⟩ := wf
    obtain ⟨⟨ce, c7, c8, cr, cr2⟩, cR⟩ := cd
    have sz : lnR (.branch a (.branch b (.branch d (.leaf e) x1) x2) R) = szE e + 1 + lnR x1 + 1 + lnR x2 + lnR R := by rw [lnR]
    rw [sz] at hw ⊢
    have em : mkR (.branch a (.branch b (.branch d (.leaf e) x1) x2) R) V c = oB (if c = 0 then none else if vlE V e = 0 then mkR x2 V (c - 1) else mkR x1 V (c - 1)) (fun X c => mkR R X c) := by rw [mkR]
    show (∀ V' c', mkR (.branch a (.branch b (.branch d (.leaf e) x1) x2) R) V c = some (V', c') → _) ∧ (mkR (.branch a (.branch b (.branch d (.leaf e) x1) x2) R) V c = none → _)
    rw [em]
    obtain ⟨S1, r1, f1, v1⟩ := stE (mz := mz) e w 0 V S z we ce (by omega)
    have z7 := st7 (mz := mz) (V := V) (S := S1) (z := z) c7.1 c7.2 (by omega)
    by_cases c0 : c = 0
    · rw [if_pos c0]
      exact ⟨fun V' c' h => absurd h (by simp [oB]), fun _ => Sts_fl _ _ _ r1 (z7.2 (by omega))⟩
    · rw [if_neg c0]
      have s7 := z7.1 (by omega)
      rw [v1] at s7
      have s17 := Sts_tr _ _ _ _ _ r1 s7
      have fin : ∀ (V1 S2 : Nat → Int32) (c1 N1 : Nat), c1 ≤ c → Sts K B mz N1 (w, 0, V, S, z) (w + szE e + 1 + lnR x1 + 1 + lnR x2, 0, V1, S2, mz - c1) → N1 ≤ (szE e + 1 + lnR x1 + 1 + lnR x2) * (c - c1) → (∀ V' c', mkR R V1 c1 = some (V', c') → ∃ N S', Sts K B mz N (w, 0, V, S, z) (w + (szE e + 1 + lnR x1 + 1 + lnR x2 + lnR R), 0, V', S', mz - c') ∧ N ≤ (szE e + 1 + lnR x1 + 1 + lnR x2 + lnR R) * (c - c' + 1) ∧ c' ≤ c) ∧ (mkR R V1 c1 = none → Fls K B mz (w, 0, V, S, z)) := fun V1 S2 c1 N1 hc1 s1 n1 => by
        obtain ⟨i1, i2⟩ := TR_R (t0 := t0) R (w + szE e + 1 + lnR x1 + 1 + lnR x2) wR cR (by omega) hm V1 S2 (mz - c1) c1 (by omega)
        refine ⟨fun V' c' h => ?_, fun h => Sts_fl _ _ _ s1 (i2 h)⟩
        obtain ⟨N, S3, r4, n4, l4⟩ := i1 V' c' h
        refine ⟨N1 + N, S3, ?_, ?_, by omega⟩
        · rw [show w + (szE e + 1 + lnR x1 + 1 + lnR x2 + lnR R) = w + szE e + 1 + lnR x1 + 1 + lnR x2 + lnR R by omega]
          exact Sts_tr _ _ _ _ _ s1 r4
        · have e5 : (szE e + 1 + lnR x1 + 1 + lnR x2 + lnR R) * (c - c' + 1) = (szE e + 1 + lnR x1 + 1 + lnR x2) * (c - c' + 1) + lnR R * (c - c' + 1) := Nat.add_mul _ _ _
          have e6 : (szE e + 1 + lnR x1 + 1 + lnR x2) * (c - c1) ≤ (szE e + 1 + lnR x1 + 1 + lnR x2) * (c - c' + 1) := Nat.mul_le_mul_left _ (by omega)
          have e7 : lnR R * (c1 - c' + 1) ≤ lnR R * (c - c' + 1) := Nat.mul_le_mul_left _ (by omega)
          omega
      by_cases ev : vlE V e = 0
      · rw [if_pos ev]
        rw [if_pos ev] at s17
        obtain ⟨b1, b2⟩ := TR_R (t0 := t0) x2 (w + szE e + 1 + lnR x1 + 1) wr2 cr2 (by omega) hm V S1 (z + 1) (c - 1) (by omega)
        cases hx : mkR x2 V (c - 1) with
        | none => exact ⟨fun V' c' h => absurd h (by simp [oB]), fun _ => Sts_fl _ _ _ s17 (b2 hx)⟩
        | some q =>
          obtain ⟨V1, c1⟩ := q
          obtain ⟨N1, S2, r2, n2, l2⟩ := b1 V1 c1 hx
          refine fin V1 S2 c1 _ (by omega) (Sts_tr _ _ _ _ _ s17 r2) ?_
          have n2 : N1 ≤ lnR x2 * (c - 1 - c1 + 1) := n2
          rw [show c - 1 - c1 + 1 = c - c1 by omega] at n2
          have e4 : (szE e + 1 + lnR x1 + 1 + lnR x2) * (c - c1) = (szE e + 1 + lnR x1 + 1) * (c - c1) + lnR x2 * (c - c1) := Nat.add_mul _ _ _
          have e5 : szE e + 1 + lnR x1 + 1 ≤ (szE e + 1 + lnR x1 + 1) * (c - c1) := Nat.le_mul_of_pos_right _ (by omega)
          omega
      · rw [if_neg ev]
        rw [if_neg ev] at s17
        obtain ⟨b1, b2⟩ := TR_R (t0 := t0) x1 (w + szE e + 1) wr cr (by omega) hm V S1 (z + 1) (c - 1) (by omega)
        cases hx : mkR x1 V (c - 1) with
        | none => exact ⟨fun V' c' h => absurd h (by simp [oB]), fun _ => Sts_fl _ _ _ s17 (b2 hx)⟩
        | some q =>
          obtain ⟨V1, c1⟩ := q
          obtain ⟨N1, S2, r2, n2, l2⟩ := b1 V1 c1 hx
          have r3 := st8 (mz := mz) (h := 0) (V := V1) (S := S2) (z := mz - c1) c8.1 c8.2 (by omega) (Nat.sub_le mz c1)
          refine fin V1 S2 c1 _ (by omega) (Sts_tr _ _ _ _ _ (Sts_tr _ _ _ _ _ s17 r2) r3) ?_
          have n2 : N1 ≤ lnR x1 * (c - 1 - c1 + 1) := n2
          rw [show c - 1 - c1 + 1 = c - c1 by omega] at n2
          have e4 : (szE e + 1 + lnR x1 + 1 + lnR x2) * (c - c1) = (szE e + 1 + 1 + lnR x2) * (c - c1) + lnR x1 * (c - c1) := by
            rw [← Nat.add_mul]; congr 1; omega
          have e5 : szE e + 1 + 1 + lnR x2 ≤ (szE e + 1 + 1 + lnR x2) * (c - c1) := Nat.le_mul_of_pos_right _ (by omega)
          omega
  | .branch _ (.branch _ (.branch _ (.branch _ _ _) _) _) _, w, wf, cd, hw, hm => wf.elim
end FOL
/-- the reference's follow is the program as it is meant -/
theorem fol_go {K B : Nat → Int32} {t : RT} (wf : wfR t) (cd : cdR K B t 0) (h9 : K (lnR t) = 9) (hl : lnR t + 1 ≤ 100) {mz : Nat} (hm : mz ≤ 500) (V S : Nat → Int32) : (∀ V' c', mkR t V mz = some (V', c') → ∃ N S', N < 100000 ∧ c' ≤ mz ∧ grun K B mz 100000 1 (0, 0, V, S, 0) = (some N, (lnR t, 0, V', S', mz - c'))) ∧ (mkR t V mz = none → (grun K B mz 100000 1 (0, 0, V, S, 0)).1 = none) := by
  obtain ⟨i1, i2⟩ := TR_R (t0 := 0) t 0 wf cd (by omega) hm V S 0 mz rfl
  refine ⟨fun V' c' h => ?_, fun h => i2 h _ _⟩
  obtain ⟨N, S', r, n, lc⟩ := i1 V' c' h
  rw [Nat.zero_add] at r
  have b1 : lnR t * (mz - c' + 1) ≤ 99 * 501 := Nat.mul_le_mul (by omega) (by omega)
  refine ⟨1 + N, S', by omega, lc, ?_⟩
  rw [show (100000 : Nat) = N + ((99999 - N) + 1) by omega, Sts_run N _ 1 _ _ r, grun, if_pos (show K (lnR t, 0, V', S', mz - c').1 = 9 from h9)]
