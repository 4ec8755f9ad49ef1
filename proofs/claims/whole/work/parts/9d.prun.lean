/-! ===== code that keeps to its heights ===== -/
def okk (K B : Nat → Int32) (C : Nat) (R : Nat → Prop) (G : Nat → Nat) (k : Nat) : Prop := G k ≤ 8 ∧ ((K k = 0 ∧ G k < 8 ∧ (k + 1 < C ∧ R (k + 1) ∧ G (k + 1) = G k + 1)) ∨ (K k = 1 ∧ (G k < 8 ∧ ∃ v, v < 8 ∧ B k = nI v) ∧ (k + 1 < C ∧ R (k + 1) ∧ G (k + 1) = G k + 1)) ∨ (K k = 2 ∧ (1 ≤ G k ∧ ∃ v, v < 8 ∧ B k = nI v) ∧ (k + 1 < C ∧ R (k + 1) ∧ G (k + 1) = G k - 1)) ∨ ((K k = 3 ∨ K k = 4 ∨ K k = 5 ∨ K k = 6) ∧ 2 ≤ G k ∧ (k + 1 < C ∧ R (k + 1) ∧ G (k + 1) = G k - 1)) ∨ (K k = 7 ∧ 1 ≤ G k ∧ (k + 1 < C ∧ R (k + 1) ∧ G (k + 1) = G k - 1) ∧ ∃ t, t < C ∧ R t ∧ B k = nI t ∧ G t = G k - 1) ∨ (K k = 8 ∧ ∃ t, t < C ∧ R t ∧ B k = nI t ∧ G t = G k) ∨ K k = 9)
def CSf (K B : Nat → Int32) (C : Nat) (R : Nat → Prop) (G : Nat → Nat) : Prop := C ≤ 100 ∧ 0 < C ∧ R 0 ∧ G 0 = 0 ∧ ∀ k, k < C → R k → okk K B C R G k
def civ (C : Nat) (R : Nat → Prop) (G : Nat → Nat) (m : GS) : Prop := m.1 < C ∧ R m.1 ∧ m.2.1 = G m.1
section CSF
variable {K B : Nat → Int32} {C : Nat} {R : Nat → Prop} {G : Nat → Nat}
theorem cs_mok (h : CSf K B C R G) {m : GS} (hm : civ C R G m) : mok C K B m := by
  obtain ⟨m1, m2, m3⟩ := hm
  have hC := h.1
  obtain ⟨g8, hk⟩ := h.2.2.2.2 m.1 m1 m2
  rcases hk with ⟨hk, a1, a2⟩ | ⟨hk, ⟨a1, a3⟩, a2⟩ | ⟨hk, ⟨a1, a3⟩, a2⟩ | ⟨hk, a1, a2⟩ | ⟨hk, a1, a2, t, t1, t2, t3, t4⟩ | ⟨hk, t, t1, t2, t3, t4⟩ | hk
  · refine ⟨⟨by omega, by omega, by rw [hk]; decide, by rw [hk]; decide, ?_, ?_, ?_, ?_⟩, m1, by omega, fun _ => by omega, fun _ _ => a2.1, ?_⟩
    all_goals (intro q; rw [hk] at q; exact absurd q (by decide))
  · refine ⟨⟨by omega, by omega, by rw [hk]; decide, by rw [hk]; decide, fun _ => a3, ?_, ?_, ?_⟩, m1, by omega, fun _ => by omega, fun _ _ => a2.1, ?_⟩
    all_goals (intro q; rw [hk] at q; exact absurd q (by decide))
  · refine ⟨⟨by omega, by omega, by rw [hk]; decide, by rw [hk]; decide, fun _ => a3, ?_, fun _ => by omega, ?_⟩, m1, by omega, ?_, fun _ _ => a2.1, ?_⟩
    all_goals (intro q; rw [hk] at q; exact absurd q (by decide))
  · have k0 : 0 ≤ K m.1 ∧ K m.1 ≤ 9 ∧ ¬ (K m.1 = 1 ∨ K m.1 = 2) ∧ ¬ (K m.1 = 7 ∨ K m.1 = 8) ∧ ¬ (K m.1 = 2 ∨ K m.1 = 7) ∧ ¬ (K m.1 = 0 ∨ K m.1 = 1) := by
      rcases hk with q | q | q | q <;> rw [q] <;> decide
    exact ⟨⟨by omega, by omega, k0.1, k0.2.1, fun q => absurd q k0.2.2.1, fun q => absurd q k0.2.2.2.1, fun q => absurd q k0.2.2.2.2.1, fun _ => by omega⟩, m1, by omega, fun q => absurd q k0.2.2.2.2.2, fun _ _ => a2.1, fun q => absurd q k0.2.2.2.1⟩
  · refine ⟨⟨by omega, by omega, by rw [hk]; decide, by rw [hk]; decide, ?_, fun _ => ⟨t, by omega, t3⟩, fun _ => by omega, ?_⟩, m1, by omega, ?_, fun _ _ => a2.1, fun _ => by rw [t3, nI_clamp (by omega)]; exact t1⟩
    all_goals (intro q; rw [hk] at q; exact absurd q (by decide))
  · refine ⟨⟨by omega, by omega, by rw [hk]; decide, by rw [hk]; decide, ?_, fun _ => ⟨t, by omega, t3⟩, ?_, ?_⟩, m1, by omega, ?_, fun q => absurd hk q, fun _ => by rw [t3, nI_clamp (by omega)]; exact t1⟩
    all_goals (intro q; rw [hk] at q; exact absurd q (by decide))
  · refine ⟨⟨by omega, by omega, by rw [hk]; decide, by rw [hk]; decide, ?_, ?_, ?_, ?_⟩, m1, by omega, ?_, fun _ q => absurd hk q, ?_⟩
    all_goals (intro q; rw [hk] at q; exact absurd q (by decide))
theorem cs_step (h : CSf K B C R G) {m : GS} (hm : civ C R G m) (h9 : ¬ K m.1 = 9) : civ C R G (gstep K B m) := by
  obtain ⟨m1, m2, m3⟩ := hm
  have hC := h.1
  obtain ⟨g8, hk⟩ := h.2.2.2.2 m.1 m1 m2
  rcases hk with ⟨hk, a1, a2⟩ | ⟨hk, ⟨a1, a3⟩, a2⟩ | ⟨hk, ⟨a1, a3⟩, a2⟩ | ⟨hk, a1, a2⟩ | ⟨hk, a1, a2, t, t1, t2, t3, t4⟩ | ⟨hk, t, t1, t2, t3, t4⟩ | hk
  · rw [gstep, if_pos hk]
    exact ⟨a2.1, a2.2.1, by show m.2.1 + 1 = _; rw [a2.2.2, m3]⟩
  · rw [gstep, if_neg (by rw [hk]; decide), if_pos hk]
    exact ⟨a2.1, a2.2.1, by show m.2.1 + 1 = _; rw [a2.2.2, m3]⟩
  · rw [gstep, if_neg (by rw [hk]; decide), if_neg (by rw [hk]; decide), if_pos hk]
    exact ⟨a2.1, a2.2.1, by show m.2.1 - 1 = _; rw [a2.2.2, m3]⟩
  · have k0 : ¬ K m.1 = 0 ∧ ¬ K m.1 = 1 ∧ ¬ K m.1 = 2 ∧ K m.1 < 7 := by
      rcases hk with q | q | q | q <;> rw [q] <;> decide
    rw [gstep, if_neg k0.1, if_neg k0.2.1, if_neg k0.2.2.1, if_pos k0.2.2.2]
    exact ⟨a2.1, a2.2.1, by show m.2.1 - 1 = _; rw [a2.2.2, m3]⟩
  · rw [gstep, if_neg (by rw [hk]; decide), if_neg (by rw [hk]; decide), if_neg (by rw [hk]; decide), if_neg (by rw [hk]; decide), if_pos hk]
    by_cases z : m.2.2.2.1 (m.2.1 - 1) = 0
    · rw [if_pos z, t3, nI_clamp (by omega)]
      exact ⟨t1, t2, by show m.2.1 - 1 = _; rw [t4, m3]⟩
    · rw [if_neg z]
      exact ⟨a2.1, a2.2.1, by show m.2.1 - 1 = _; rw [a2.2.2, m3]⟩
  · rw [gstep, if_neg (by rw [hk]; decide), if_neg (by rw [hk]; decide), if_neg (by rw [hk]; decide), if_neg (by rw [hk]; decide), if_neg (by rw [hk]; decide), t3, nI_clamp (by omega)]
    exact ⟨t1, t2, by show m.2.1 = _; rw [t4, m3]⟩
  · exact absurd hk h9
theorem cs_0 (h : CSf K B C R G) (V S : Nat → Int32) (z : Nat) : civ C R G (0, 0, V, S, z) := ⟨h.2.1, h.2.2.1, h.2.2.2.1.symm⟩
theorem cs_GInv (h : CSf K B C R G) {K' B' : Nat → Int32} (e : ∀ j, j < C → K' j = K j ∧ B' j = B j) (V S : Nat → Int32) : GInv K' B' V S := by
  have h' : CSf K' B' C R G := ⟨h.1, h.2.1, h.2.2.1, h.2.2.2.1, fun k hk hr => by
    have q := h.2.2.2.2 k hk hr
    unfold okk at q ⊢
    rw [(e k hk).1, (e k hk).2]
    exact q⟩
  exact ⟨civ C R G, fun m hm => (cs_mok h' hm).1, fun m hm h9 => cs_step h' hm h9, cs_0 h' V S 0⟩
end CSF
/-! ===== two runs that look alike ===== -/
def gRl (m m' : GS) : Prop := m'.1 = m.1 ∧ m'.2.1 = m.2.1 ∧ (∀ v, v < 8 → m'.2.2.1 v = m.2.2.1 v) ∧ (∀ j, j < m.2.1 → m'.2.2.2.1 j = m.2.2.2.1 j) ∧ m'.2.2.2.2 = m.2.2.2.2
theorem gstep_R {K B K' B' : Nat → Int32} {m m' : GS} (h : gRl m m') (hK : K' m.1 = K m.1) (hB : B' m.1 = B m.1) (hok : gok K B m) : gRl (gstep K B m) (gstep K' B' m') := by
  obtain ⟨a, b, V, S, z⟩ := m
  obtain ⟨a', b', V', S', z'⟩ := m'
  obtain ⟨h1, h2, h3, h4, h5⟩ := h
  have h1 : a' = a := h1
  have h2 : b' = b := h2
  have h5 : z' = z := h5
  subst h1
  subst h2
  subst h5
  have h3 : ∀ v, v < 8 → V' v = V v := h3
  have h4 : ∀ j, j < b' → S' j = S j := h4
  have hK : K' a' = K a' := hK
  have hB : B' a' = B a' := hB
  obtain ⟨o1, o2, o3, o4, o5, o6, o7, o8⟩ := hok
  have o3 : 0 ≤ K a' := o3
  have o5 : K a' = 1 ∨ K a' = 2 → ∃ v, v < 8 ∧ B a' = nI v := o5
  have o7 : K a' = 2 ∨ K a' = 7 → 1 ≤ b' := o7
  have o8 : 2 < K a' ∧ K a' < 7 → 2 ≤ b' := o8
  unfold gstep
  show gRl (if K a' = 0 then _ else _) (if K' a' = 0 then _ else _)
  rw [hK]
  by_cases c0 : K a' = 0
  · rw [if_pos c0, if_pos c0]
    refine ⟨rfl, rfl, h3, fun j hj => ?_, rfl⟩
    show upd S' b' (B' a') j = upd S b' (B a') j
    rw [hB]
    by_cases e : j = b'
    · rw [e, upd_at, upd_at]
    · rw [upd_nq _ e, upd_nq _ e]; exact h4 j (by have : j < b' + 1 := hj; omega)
  · rw [if_neg c0, if_neg c0]
    by_cases c1 : K a' = 1
    · rw [if_pos c1, if_pos c1]
      obtain ⟨v, hv, ev⟩ := o5 (Or.inl c1)
      refine ⟨rfl, rfl, h3, fun j hj => ?_, rfl⟩
      show upd S' b' (V' (B' a').toNatClampNeg) j = upd S b' (V (B a').toNatClampNeg) j
      rw [hB, ev, nI_clamp (by omega), h3 v hv]
      by_cases e : j = b'
      · rw [e, upd_at, upd_at]
      · rw [upd_nq _ e, upd_nq _ e]; exact h4 j (by have : j < b' + 1 := hj; omega)
    · rw [if_neg c1, if_neg c1]
      by_cases c2 : K a' = 2
      · rw [if_pos c2, if_pos c2]
        have hb := o7 (Or.inl c2)
        refine ⟨rfl, rfl, fun v hv => ?_, fun j hj => h4 j (by have : j < b' - 1 := hj; omega), rfl⟩
        show upd V' (B' a').toNatClampNeg (S' (b' - 1)) v = upd V (B a').toNatClampNeg (S (b' - 1)) v
        rw [hB, h4 (b' - 1) (by omega)]
        by_cases e : v = (B a').toNatClampNeg
        · rw [e, upd_at, upd_at]
        · rw [upd_nq _ e, upd_nq _ e]; exact h3 v hv
      · rw [if_neg c2, if_neg c2]
        by_cases c3 : K a' < 7
        · rw [if_pos c3, if_pos c3]
          have hb := o8 ⟨by grind, c3⟩
          refine ⟨rfl, rfl, h3, fun j hj => ?_, rfl⟩
          show upd S' (b' - 1 - 1) (r_wk (K a') (S' (b' - 1 - 1)) (S' (b' - 1))) j = upd S (b' - 1 - 1) (r_wk (K a') (S (b' - 1 - 1)) (S (b' - 1))) j
          rw [h4 (b' - 1 - 1) (by omega), h4 (b' - 1) (by omega)]
          by_cases e : j = b' - 1 - 1
          · rw [e, upd_at, upd_at]
          · rw [upd_nq _ e, upd_nq _ e]; exact h4 j (by have : j < b' - 1 := hj; omega)
        · rw [if_neg c3, if_neg c3]
          by_cases c7 : K a' = 7
          · rw [if_pos c7, if_pos c7]
            have hb := o7 (Or.inr c7)
            refine ⟨?_, rfl, h3, fun j hj => h4 j (by have : j < b' - 1 := hj; omega), rfl⟩
            show (if S' (b' - 1) = 0 then (B' a').toNatClampNeg else a' + 1) = if S (b' - 1) = 0 then (B a').toNatClampNeg else a' + 1
            rw [h4 (b' - 1) (by omega), hB]
          · rw [if_neg c7, if_neg c7]
            exact ⟨by show (B' a').toNatClampNeg = (B a').toNatClampNeg; rw [hB], rfl, h3, h4, rfl⟩
theorem crun_R {K B K' B' : Nat → Int32} {C : Nat} {R : Nat → Prop} {G : Nat → Nat} (h : CSf K B C R G) (e : ∀ j, j < C → K' j = K j ∧ B' j = B j) : ∀ (k i : Nat) (m m' : GS), civ C R G m → gRl m m' → (crun K' B' k i m').1 = (crun K B k i m).1 ∧ gRl (crun K B k i m).2 (crun K' B' k i m').2
  | 0, i, m, m', hm, hr => ⟨rfl, hr⟩
  | k + 1, i, m, m', hm, hr => by
    unfold crun
    rw [hr.1, (e m.1 hm.1).1]
    by_cases c : K m.1 = 9
    · rw [if_pos c, if_pos c]; exact ⟨rfl, hr⟩
    · rw [if_neg c, if_neg c]
      exact crun_R h e k (i + 1) _ _ (cs_step h hm c) (gstep_R hr (e m.1 hm.1).1 (e m.1 hm.1).2 (cs_mok h hm).1)
/-! ===== code that has its shape ===== -/
theorem hq0 : ∀ h, h < 9 → ¬ 8 < nI h - 0 + 1 → h < 8 ∧ nI h - 0 + 1 = nI (h + 1) := by decide
theorem hq1 : ∀ h, h < 9 → ¬ nI h - 1 < 0 → 1 ≤ h ∧ nI h - 1 + 0 = nI (h - 1) := by decide
theorem hq2 : ∀ h, h < 9 → ¬ nI h - 2 < 0 → 2 ≤ h ∧ nI h - 2 + 1 = nI (h - 1) := by decide
theorem hq8 : ∀ h, h < 9 → nI h - 0 + 0 = nI h := by decide
theorem kd_c : ∀ x : Int32, 0 ≤ x → x ≤ 9 → x = 0 ∨ x = 1 ∨ x = 2 ∨ (x = 3 ∨ x = 4 ∨ x = 5 ∨ x = 6) ∨ x = 7 ∨ x = 8 ∨ x = 9 := by
  intro x h1 h2
  obtain ⟨k, hk, rfl⟩ := nI_of2 (M := 9) (n := 9) (by decide) (Int32.not_lt.mpr h1) h2
  have key : ∀ k, k < 10 → nI k = 0 ∨ nI k = 1 ∨ nI k = 2 ∨ (nI k = 3 ∨ nI k = 4 ∨ nI k = 5 ∨ nI k = 6) ∨ nI k = 7 ∨ nI k = 8 ∨ nI k = 9 := by decide
  exact key k (by omega)
theorem cs_HL {K E : Nat → Int32} {C : Nat} {W : Nat → Int32} (hC : C ≤ 100) (hW : HL (VA K E) C W) (hp : PL (VA K E) C) : CSf K E C (fun k => 0 ≤ W k) (fun k => (W k).toNatClampNeg) := by
  have nn : ∀ m, m < 200 → ¬ nI m < 0 := fun m hm => i32_nlt0 (by omega)
  refine ⟨hC, hp.1, by show 0 ≤ W 0; rw [hW.1.1]; decide, by show (W 0).toNatClampNeg = 0; rw [hW.1.1]; decide, fun k hk hr => ?_⟩
  have hr : 0 ≤ W k := hr
  obtain ⟨h, h8, eh⟩ : ∃ h, h ≤ 8 ∧ W k = nI h := by
    rcases hW.2.1 k hk with q | q
    · rw [q] at hr; exact absurd hr (by decide)
    · exact q
  obtain ⟨g1, g2, g3, g4⟩ := hW.1.2 k hk hr
  obtain ⟨p1, p2, p3, p4⟩ := hp.2 k hk
  have g1 : ¬ W k - r_tb (K k) < 0 := g1
  have g2 : ¬ 8 < W k - r_tb (K k) + r_gb (K k) := g2
  have g4 : ∀ w, w < 2 → r_nx (VA K E) k (nI w) < 0 ∨ ∃ t, t < C ∧ r_nx (VA K E) k (nI w) = nI t ∧ W t = W k - r_tb (K k) + r_gb (K k) := g4
  have p1 : 0 ≤ K k := p1
  have p2 : K k ≤ 9 := p2
  have p3 : K k = 1 ∨ K k = 2 → 0 ≤ E k ∧ E k < 8 := p3
  have p4 : K k = 7 ∨ K k = 8 → 0 ≤ E k ∧ E k < nI C := p4
  rw [eh] at g1 g2 g4
  have eG : (W k).toNatClampNeg = h := by rw [eh, nI_clamp (by omega)]
  have nx0 : ¬ K k = 9 → ¬ K k = 8 → ∀ q : Nat, q ≤ 8 → nI h - r_tb (K k) + r_gb (K k) = nI q → k + 1 < C ∧ 0 ≤ W (k + 1) ∧ (W (k + 1)).toNatClampNeg = q := fun c9 c8 q hq eq => by
    have e : r_nx (VA K E) k (nI 0) = nI (k + 1) := by
      show (if nI 0 = 0 then (if K k = 9 then -1 else if K k = 8 then E k else nI (k + 1)) else (if K k = 7 then E k else -1)) = nI (k + 1)
      rw [if_pos (show nI 0 = 0 by decide), if_neg c9, if_neg c8]
    rcases g4 0 (by omega) with z | ⟨t, t1, t2, t3⟩
    · rw [e] at z; exact absurd z (nn _ (by omega))
    · rw [e] at t2
      have et : k + 1 = t := nI_inj (by omega) (by omega) t2
      rw [et, t3, eq, nI_clamp (by omega)]
      exact ⟨t1, Int32.not_lt.mp (nn q (by omega)), rfl⟩
  have va : K k = 1 ∨ K k = 2 → ∃ v, v < 8 ∧ E k = nI v := fun q => by
    obtain ⟨z1, z2⟩ := p3 q
    exact i32_to z1 (by rw [← nl_8]; exact z2) (by decide)
  have ja : K k = 7 ∨ K k = 8 → ∃ t, t < C ∧ E k = nI t := fun q => i32_to (p4 q).1 (p4 q).2 (by omega)
  refine ⟨by show (W k).toNatClampNeg ≤ 8; rw [eG]; exact h8, ?_⟩
  show (K k = 0 ∧ (W k).toNatClampNeg < 8 ∧ _) ∨ (K k = 1 ∧ ((W k).toNatClampNeg < 8 ∧ _) ∧ _) ∨ (K k = 2 ∧ (1 ≤ (W k).toNatClampNeg ∧ _) ∧ _) ∨ (_ ∧ 2 ≤ (W k).toNatClampNeg ∧ _) ∨ (K k = 7 ∧ 1 ≤ (W k).toNatClampNeg ∧ _ ∧ _) ∨ (K k = 8 ∧ _) ∨ K k = 9
  simp only [eG]
  rcases kd_c (K k) p1 p2 with c | c | c | c | c | c | c
  · have e1 : r_tb (K k) = 0 := by rw [c]; decide
    have e2 : r_gb (K k) = 1 := by rw [c]; decide
    rw [e1, e2] at g2 nx0
    have a := hq0 h (by omega) g2
    exact Or.inl ⟨c, a.1, nx0 (by rw [c]; decide) (by rw [c]; decide) (h + 1) (by omega) a.2⟩
  · have e1 : r_tb (K k) = 0 := by rw [c]; decide
    have e2 : r_gb (K k) = 1 := by rw [c]; decide
    rw [e1, e2] at g2 nx0
    have a := hq0 h (by omega) g2
    exact Or.inr (Or.inl ⟨c, ⟨a.1, va (Or.inl c)⟩, nx0 (by rw [c]; decide) (by rw [c]; decide) (h + 1) (by omega) a.2⟩)
  · have e1 : r_tb (K k) = 1 := by rw [c]; decide
    have e2 : r_gb (K k) = 0 := by rw [c]; decide
    rw [e1] at g1
    rw [e1, e2] at nx0
    have a := hq1 h (by omega) g1
    exact Or.inr (Or.inr (Or.inl ⟨c, ⟨a.1, va (Or.inr c)⟩, nx0 (by rw [c]; decide) (by rw [c]; decide) (h - 1) (by omega) a.2⟩))
  · have e1 : r_tb (K k) = 2 ∧ r_gb (K k) = 1 ∧ ¬ K k = 9 ∧ ¬ K k = 8 := by rcases c with q | q | q | q <;> rw [q] <;> decide
    rw [e1.1] at g1
    rw [e1.1, e1.2.1] at nx0
    have a := hq2 h (by omega) g1
    exact Or.inr (Or.inr (Or.inr (Or.inl ⟨c, a.1, nx0 e1.2.2.1 e1.2.2.2 (h - 1) (by omega) a.2⟩)))
  · have e1 : r_tb (K k) = 1 := by rw [c]; decide
    have e2 : r_gb (K k) = 0 := by rw [c]; decide
    rw [e1] at g1
    rw [e1, e2] at nx0 g4
    have a := hq1 h (by omega) g1
    obtain ⟨t, t1, t2⟩ := ja (Or.inl c)
    refine Or.inr (Or.inr (Or.inr (Or.inr (Or.inl ⟨c, a.1, nx0 (by rw [c]; decide) (by rw [c]; decide) (h - 1) (by omega) a.2, t, t1, ?_⟩))))
    have e : r_nx (VA K E) k (nI 1) = nI t := by
      show (if nI 1 = 0 then (if K k = 9 then -1 else if K k = 8 then E k else nI (k + 1)) else (if K k = 7 then E k else -1)) = nI t
      rw [if_neg (show ¬ nI 1 = 0 by decide), if_pos c, t2]
    rcases g4 1 (by omega) with z | ⟨t', t1', t2', t3'⟩
    · rw [e] at z; exact absurd z (nn _ (by omega))
    · rw [e] at t2'
      have et : t = t' := nI_inj (by omega) (by omega) t2'
      rw [et, t3', a.2, nI_clamp (by omega), ← et]
      exact ⟨Int32.not_lt.mp (nn _ (by omega)), t2, rfl⟩
  · have e1 : r_tb (K k) = 0 := by rw [c]; decide
    have e2 : r_gb (K k) = 0 := by rw [c]; decide
    rw [e1, e2] at g4
    obtain ⟨t, t1, t2⟩ := ja (Or.inr c)
    refine Or.inr (Or.inr (Or.inr (Or.inr (Or.inr (Or.inl ⟨c, t, t1, ?_⟩)))))
    have e : r_nx (VA K E) k (nI 0) = nI t := by
      show (if nI 0 = 0 then (if K k = 9 then -1 else if K k = 8 then E k else nI (k + 1)) else (if K k = 7 then E k else -1)) = nI t
      rw [if_pos (show nI 0 = 0 by decide), if_neg (by rw [c]; decide), if_pos c, t2]
    rcases g4 0 (by omega) with z | ⟨t', t1', t2', t3'⟩
    · rw [e] at z; exact absurd z (nn _ (by omega))
    · rw [e] at t2'
      have et : t = t' := nI_inj (by omega) (by omega) t2'
      rw [et, t3', hq8 h (by omega), nI_clamp (by omega), ← et]
      exact ⟨Int32.not_lt.mp (nn _ (by omega)), t2, rfl⟩
  · exact Or.inr (Or.inr (Or.inr (Or.inr (Or.inr (Or.inr c)))))
