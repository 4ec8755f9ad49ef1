/-! ===== THE LAW: verify ===== -/
theorem HL_un {A : Nat → Nat → Int32} {C : Nat} {W W' : Nat → Int32} (h : HL A C W) (h' : HL A C W') : ∀ k, k < C → W' k = W k := fun k hk => by
  rcases h.2.1 k hk with c | ⟨g, _, c⟩
  · rcases h'.2.1 k hk with c' | ⟨g', g8, c'⟩
    · rw [c, c']
    · exact (h'.2.2 W h.1 k hk (by rw [c']; exact Int32.not_lt.mp (i32_nlt0 (by omega)))).symm
  · exact h.2.2 W' h'.1 k hk (by rw [c]; exact Int32.not_lt.mp (i32_nlt0 (by omega)))
theorem unh_cg {S S' : Nat → Int32} : ∀ c, (∀ k, k < c → S' k = S k) → unh S' c = unh S c
  | 0, _ => rfl
  | c + 1, h => by rw [unh, unh, unh_cg c (fun k hk => h k (by omega)), h c (by omega)]
theorem rcd_un (A : Nat → Nat → Int32) : ∀ (c k m : Nat), rcd A k c m + unh (A 178) (k + c) = m + c + unh (A 178) k
  | 0, k, m => by rw [rcd, Nat.add_zero, Nat.add_zero]
  | c + 1, k, m => by
    have q := rcd_un A c (k + 1) (if A 178 k < 0 then m else m + 1)
    rw [rcd, show k + (c + 1) = k + 1 + c by omega]
    rw [unh] at q
    by_cases z : A 178 k < 0
    · rw [if_pos z] at q ⊢; rw [if_pos z] at q; omega
    · rw [if_neg z] at q ⊢; rw [if_neg z] at q; omega
section LJC
variable {N C : Nat} {A : Nat → Nat → Int32} {J J' : Int32 → Int32 → Int32} {x0 : Int32}
theorem lft_jc (hJ : SL N J) (e : ∀ x y, lv N x → lv N y → J' x y = J x y) {K E : Nat → Int32} {h k : Nat} {R : Nat → Int32} (hR : ∀ a, a < 17 → lv N (R a)) (h8 : h ≤ 8) (hv : K k = 1 ∨ K k = 2 → (E k).toNatClampNeg < 8) (h1 : K k = 2 → 1 ≤ h) (h2 : (K k = 3 ∨ K k = 4 ∨ K k = 5 ∨ K k = 6) → 2 ≤ h) : lft J' K E h k R = lft J K E h k R := by
  unfold lft
  by_cases c0 : K k = 0
  · rw [if_pos c0, if_pos c0]
  · rw [if_neg c0, if_neg c0]
    by_cases c1 : K k = 1
    · rw [if_pos c1, if_pos c1, e _ _ (hR 8 (by omega)) (hR _ (by have := hv (Or.inl c1); omega))]
    · rw [if_neg c1, if_neg c1]
      by_cases c2 : K k = 2
      · rw [if_pos c2, if_pos c2, e _ _ (hR 8 (by omega)) (hR _ (by have := h1 c2; omega))]
      · rw [if_neg c2, if_neg c2]
        by_cases c3 : K k = 3 ∨ K k = 4 ∨ K k = 5 ∨ K k = 6
        · have := h2 c3
          have l1 := hR (9 + h - 2) (by omega)
          have l2 := hR (9 + h - 1) (by omega)
          rw [if_pos c3, if_pos c3, e _ _ l1 l2, e _ _ (hR 8 (by omega)) (hJ.1 _ _ l1 l2)]
        · rw [if_neg c3, if_neg c3]
theorem jle_jc (e : ∀ x y, lv N x → lv N y → J' x y = J x y) {x y : Int32} (hx : lv N x) (hy : lv N y) (h : jle J x y) : jle J' x y := (e x y hx hy).trans h
theorem LSo_jc (hCb : C ≤ 100) (hJ : SL N J) (e : ∀ x y, lv N x → lv N y → J' x y = J x y) (hW : HL A C (A 178)) (hp : PL A C) (he : ∀ v, v < 8 → lv N (A 153 v)) {Y : Nat → Nat → Int32} (h : LSo N J (A 176) (A 177) (A 178) (A 153) C Y) : LSo N J' (A 176) (A 177) (A 178) (A 153) C Y := by
  obtain ⟨a1, a2, a3⟩ := h
  have hC0 : 0 < C := hp.1
  refine ⟨a1, fun v hv => jle_jc e (he v hv) (a1 0 v hC0 (by omega)) (a2 v hv), fun k hk h0 => ?_⟩
  have hK := KO_of hCb hW hp hk h0
  obtain ⟨m1, m2, m3, m4⟩ := ko_lm hp hK
  obtain ⟨b1, b2⟩ := a3 k hk h0
  have en : hn (A 178) k = hN A k := rfl
  refine ⟨fun w hw t ht ez a ha h8 => ?_, fun h7 m hm hr => ?_⟩
  · have ht8 := hn_8 hW ht
    have q := b1 w hw t ht ez a ha h8
    rw [en] at q ⊢
    rw [lft_jc hJ e (fun a ha => a1 k a hk ha) m1 m2 m3 m4]
    exact jle_jc e (lft_lv hJ (fun a ha => a1 k a hk ha) m1 m2 m3 m4 a (by omega)) (a1 t a ht (by omega)) q
  · have hk8 := hn_8 hW hk
    exact jle_jc e (a1 k _ hk (by omega)) (a1 m 8 hm (by omega)) (b2 h7 m hm hr)
theorem LU_jc (hCb : C ≤ 100) (hJ : SL N J) (hJ' : SL N J') (e : ∀ x y, lv N x → lv N y → J' x y = J x y) (hW : HL A C (A 178)) (hp : PL A C) (he : ∀ v, v < 8 → lv N (A 153 v)) {Y : Nat → Nat → Int32} (hY : ∀ k a, k < C → a < 17 → lv N (Y k a)) (h : LU N J (A 176) (A 177) (A 178) (A 153) C Y) : LU N J' (A 176) (A 177) (A 178) (A 153) C Y := fun Z hZ k hk h0 a ha => by
  have h8 := hn_8 hW hk
  exact jle_jc e (hY k a hk (by omega)) (hZ.1 k a hk (by omega)) (h Z (LSo_jc hCb hJ' (fun x y hx hy => (e x y hx hy).symm) hW hp he hZ) k hk h0 a ha)
/-- the reference's labels of code -/
theorem cLp_lab (H : LCH N A x0 C) (g1 g2 : Nat → Int32) {L : CL} (hL : L = cLp A x0 C 10000 (fillF (fun _ => x0) g1 (16 * C), fillF (fun _ => x0) g2 C, true)) : LSA N A C (yL L) ∧ LU N (jI A) (A 176) (A 177) (A 178) (A 153) C (yL L) := by
  obtain ⟨hCb, hN6, hJO, hJ, hb, hbo, hW, hp, hR, he⟩ := id H
  have f1 : ∀ i, i < 16 * C → fillF (fun _ => x0) g1 (16 * C) i = x0 := fun i hi => fill_lt hi
  have f2 : ∀ i, i < C → fillF (fun _ => x0) g2 C i = x0 := fun i hi => fill_lt hi
  have ok : COK N C (fillF (fun _ => x0) g1 (16 * C), fillF (fun _ => x0) g2 C, true) := ⟨fun i hi => by show lv N (fillF (fun _ => x0) g1 (16 * C) i); rw [f1 i hi]; exact hb, fun k hk => by show lv N (fillF (fun _ => x0) g2 C k); rw [f2 k hk]; exact hb⟩
  have civ0 : CIv N A x0 C (fillF (fun _ => x0) g1 (16 * C), fillF (fun _ => x0) g2 C, true) := by
    refine ⟨ok, fun k hk => ?_, fun Z hZ k hk h0 a ha => ?_⟩
    · show jle _ (fillF (fun _ => x0) g2 C k) _
      rw [f2 k hk]
      exact hbo _ (fcx_lv hN6 hJO (HL_HT hW) ok.1 C 0 x0 (by omega) hb)
    · have h8 := hn_8 hW hk
      have z := hZ.1 k a hk (by omega)
      unfold yL
      by_cases c1 : a < 8
      · rw [if_pos c1]
        show jle _ (fillF (fun _ => x0) g1 (16 * C) (16 * k + a)) _
        rw [f1 _ (by omega)]; exact hbo _ z
      · rw [if_neg c1]
        by_cases c2 : a = 8
        · rw [if_pos c2]
          show jle _ (fillF (fun _ => x0) g2 C k) _
          rw [f2 k hk]; exact hbo _ z
        · rw [if_neg c2]
          show jle _ (fillF (fun _ => x0) g1 (16 * C) (16 * k + (a - 1))) _
          rw [f1 _ (by omega)]; exact hbo _ z
  have mx := phC_max hJ hCb ok
  obtain ⟨q1, q2⟩ := cLp_sp H hp.1 10000 _ civ0 rfl (by omega)
  rw [← hL] at q1 q2
  exact CSt_LSo H hp.1 q1 q2
end LJC
