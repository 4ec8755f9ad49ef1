/-! ===== THE REFERENCE: what heights finds ===== -/
/-- the heights W keep to the rules at instruction k -/
def HGk (A : Nat → Nat → Int32) (C : Nat) (W : Nat → Int32) (k : Nat) : Prop := ¬ W k - r_tb (A 176 k) < 0 ∧ ¬ 8 < W k - r_tb (A 176 k) + r_gb (A 176 k) ∧ ¬ (A 176 k = 9 ∧ 0 < W k - r_tb (A 176 k)) ∧ ∀ w, w < 2 → r_nx A k (nI w) < 0 ∨ ∃ t, t < C ∧ r_nx A k (nI w) = nI t ∧ W t = W k - r_tb (A 176 k) + r_gb (A 176 k)
def HG (A : Nat → Nat → Int32) (C : Nat) (W : Nat → Int32) : Prop := W 0 = 0 ∧ ∀ k, k < C → 0 ≤ W k → HGk A C W k
/-- the heights that keep to the rules, no more places than must be -/
def HL (A : Nat → Nat → Int32) (C : Nat) (W : Nat → Int32) : Prop := HG A C W ∧ (∀ k, k < C → W k = -1 ∨ ∃ h, h ≤ 8 ∧ W k = nI h) ∧ ∀ V, HG A C V → ∀ k, k < C → 0 ≤ W k → V k = W k
def HI (A : Nat → Nat → Int32) (C : Nat) (E : DS) : Prop := HOK C E ∧ (∀ k, k < C → E.1 k = -1 ∨ ∃ h, h ≤ 8 ∧ E.1 k = nI h) ∧ E.1 0 = 0 ∧ (∀ k, k < C → 0 ≤ E.1 k → (∃ i, i < E.2.2 ∧ E.2.1 i = nI k) ∨ HGk A C E.1 k) ∧ ∀ V, HG A C V → ∀ k, k < C → 0 ≤ E.1 k → V k = E.1 k
theorem hbad_no {C : Nat} {E : DS} {t h : Int32} (hC : C ≤ 100) (hb : ¬ hbad C E t h = true) : t < 0 ∨ ∃ m, m < C ∧ t = nI m ∧ (0 ≤ E.1 m → E.1 m = h) := by
  have hb : ¬ (nI C ≤ t ∨ (0 ≤ t ∧ 0 ≤ E.1 t.toNatClampNeg ∧ ¬ E.1 t.toNatClampNeg = h)) := fun z => hb (decide_eq_true z)
  by_cases z : t < 0
  · exact Or.inl z
  · obtain ⟨m, hm, rfl⟩ := i32_lt z (fun q => hb (Or.inl q)) (by omega)
    rw [nI_clamp (by omega)] at hb
    exact Or.inr ⟨m, hm, rfl, fun q => Classical.byContradiction (fun q2 => hb (Or.inr ⟨i32_le0 (by omega), q, q2⟩))⟩
theorem hpsh_sp {E : DS} {t : Int32} {C q : Nat} (hC : C ≤ 100) (hq : q ≤ 8) (ht : t < 0 ∨ ∃ m, m < C ∧ t = nI m ∧ (0 ≤ E.1 m → E.1 m = nI q)) : Ext (fun x => 0 ≤ x) E (hpsh E t (nI q)) ∧ (∀ m, m < C → t = nI m → (hpsh E t (nI q)).1 m = nI q) ∧ ∀ k, (hpsh E t (nI q)).1 k = E.1 k ∨ (t = nI k ∧ k < C ∧ (hpsh E t (nI q)).1 k = nI q) := by
  rcases ht with ht | ⟨m, hm, rfl, hs⟩
  · have e : hpsh E t (nI q) = E := by rw [hpsh, if_neg (fun z => absurd z.1 (Int32.not_le.mpr ht))]
    rw [e]
    exact ⟨Ext_rfl E, fun m hm he => absurd ht (by rw [he]; exact i32_nlt0 (by omega)), fun k => Or.inl rfl⟩
  · by_cases z : E.1 m < 0
    · have e : hpsh E (nI m) (nI q) = (upd E.1 m (nI q), upd E.2.1 E.2.2 (nI m), E.2.2 + 1) := by rw [hpsh, nI_clamp (by omega), if_pos ⟨i32_le0 (by omega), z⟩]
      rw [e]
      refine ⟨Ext_push (mk := fun x => 0 ≤ x) (fun q => absurd z (Int32.not_lt.mpr q)), fun k hk he => ?_, fun k => ?_⟩
      · rw [← nI_inj (by omega) (by omega) he]
        show upd _ _ _ _ = _
        rw [upd_at]
      · by_cases e : k = m
        · exact Or.inr ⟨by rw [e], by omega, by show upd _ _ _ _ = _; rw [e, upd_at]⟩
        · exact Or.inl (by show upd _ _ _ _ = _; rw [upd_ne _ _ e])
    · have e : hpsh E (nI m) (nI q) = E := by rw [hpsh, nI_clamp (by omega), if_neg (fun q => z q.2)]
      rw [e]
      exact ⟨Ext_rfl E, fun k hk he => by rw [← nI_inj (by omega) (by omega) he]; exact hs (Int32.not_lt.mp z), fun k => Or.inl rfl⟩
theorem hst_HI {A : Nat → Nat → Int32} {C : Nat} {E : DS} (hC : C ≤ 100) (hE : HI A C E) (h0 : ¬ E.2.2 = 0) (h1 : ¬ hno A E = true) (h2 : ¬ hbad C (dpop E) (r_nx A (dtop E) (nI 0)) (haft A E) = true) (h3 : ¬ hbad C (hp1 A E) (r_nx A (dtop E) (nI 1)) (haft A E) = true) : HI A C (hpsh (hp1 A E) (r_nx A (dtop E) (nI 1)) (haft A E)) ∧ (hpsh (hp1 A E) (r_nx A (dtop E) (nI 1)) (haft A E)).2.2 + unh (hpsh (hp1 A E) (r_nx A (dtop E) (nI 1)) (haft A E)).1 C + 1 = E.2.2 + unh E.1 C := by
  obtain ⟨i1, i2, i3, i4, i5⟩ := hE
  obtain ⟨t1, t2, hh, t3, t4⟩ := htop_ok hC i1 h0
  have h1 : ¬ (hlow A E < 0 ∨ 8 < haft A E ∨ (A 176 (dtop E) = 9 ∧ 0 < hlow A E)) := fun z => h1 (decide_eq_true z)
  obtain ⟨a, g, e8, e9, e10, e20, e21, e11, e22, e12⟩ := hq_1 (w := A 176 (dtop E)) t3 (by rw [← t4]; exact fun z => h1 (Or.inl z)) (by rw [← t4]; exact fun z => h1 (Or.inr (Or.inl z)))
  have e12 : haft A E = nI (hh - a + g) := by unfold haft hlow; rw [t4]; exact e12
  have tt : 0 ≤ E.1 (dtop E) := by rw [t4]; exact i32_le0 (by omega)
  have b2 := hpsh_ok hC e11 (hpop_ok i1) (by rw [← e12]; exact Bool.eq_false_iff.mpr h2)
  have b3 := hpsh_ok (t := r_nx A (dtop E) (nI 1)) hC e11 b2.1 (by rw [← e12]; exact Bool.eq_false_iff.mpr h3)
  have n2 := hbad_no hC h2
  have n3 := hbad_no hC h3
  unfold hp1 at n3 ⊢
  rw [e12] at n2 n3 ⊢
  obtain ⟨p1, p2, p3⟩ := hpsh_sp hC e11 n2
  obtain ⟨q1, q2, q3⟩ := hpsh_sp hC e11 n3
  have X := Ext_tr p1 q1
  have hm := b3.2
  have hm2 := b2.2
  have hm3 : (dpop E).2.2 + unh (dpop E).1 C + 1 = E.2.2 + unh E.1 C := by show E.2.2 - 1 + unh E.1 C + 1 = _; omega
  refine ⟨?_, by omega⟩
  have nw : ∀ w, w < 2 → r_nx A (dtop E) (nI w) < 0 ∨ ∃ t, t < C ∧ r_nx A (dtop E) (nI w) = nI t ∧ (hpsh (hpsh (dpop E) (r_nx A (dtop E) (nI 0)) (nI (hh - a + g))) (r_nx A (dtop E) (nI 1)) (nI (hh - a + g))).1 t = nI (hh - a + g) := by
    intro w hw
    have : w = 0 ∨ w = 1 := by omega
    rcases this with rfl | rfl
    · rcases n2 with z | ⟨t, ht, he, _⟩
      · exact Or.inl z
      · have z1 := p2 t ht he
        exact Or.inr ⟨t, ht, he, by rw [q1.1 t (by rw [z1]; exact i32_le0 (by omega)), z1]⟩
    · rcases n3 with z | ⟨t, ht, he, _⟩
      · exact Or.inl z
      · exact Or.inr ⟨t, ht, he, q2 t ht he⟩
  have cas : ∀ k, (hpsh (hpsh (dpop E) (r_nx A (dtop E) (nI 0)) (nI (hh - a + g))) (r_nx A (dtop E) (nI 1)) (nI (hh - a + g))).1 k = E.1 k ∨ (k < C ∧ (∃ w, w < 2 ∧ r_nx A (dtop E) (nI w) = nI k) ∧ (hpsh (hpsh (dpop E) (r_nx A (dtop E) (nI 0)) (nI (hh - a + g))) (r_nx A (dtop E) (nI 1)) (nI (hh - a + g))).1 k = nI (hh - a + g)) := by
    intro k
    rcases q3 k with z | ⟨z1, z2, z3⟩
    · rcases p3 k with y | ⟨y1, y2, y3⟩
      · exact Or.inl (z.trans y)
      · exact Or.inr ⟨y2, ⟨0, by omega, y1⟩, z.trans y3⟩
    · exact Or.inr ⟨z2, ⟨1, by omega, z1⟩, z3⟩
  refine ⟨b3.1, fun k hk => ?_, ?_, fun k hk hk0 => ?_, fun V hV k hk hk0 => ?_⟩
  · rcases cas k with z | ⟨_, _, z⟩
    · rw [z]; exact i2 k hk
    · exact Or.inr ⟨_, e11, z⟩
  · rw [X.1 0 (by show 0 ≤ E.1 0; rw [i3]; decide)]
    exact i3
  · rcases X.2.2.2 k hk0 with h | ⟨i, hi, hi2, he⟩
    · have h : 0 ≤ E.1 k := h
      by_cases z : k = dtop E
      · right
        subst z
        have e1 := X.1 _ h
        have e1 : (hpsh (hpsh (dpop E) (r_nx A (dtop E) (nI 0)) (nI (hh - a + g))) (r_nx A (dtop E) (nI 1)) (nI (hh - a + g))).1 (dtop E) = E.1 (dtop E) := e1
        unfold HGk
        rw [e1]
        refine ⟨fun z => h1 (Or.inl z), fun z => h1 (Or.inr (Or.inl z)), fun z => h1 (Or.inr (Or.inr z)), fun w hw => ?_⟩
        rcases nw w hw with y | ⟨t, ht, he, y⟩
        · exact Or.inl y
        · exact Or.inr ⟨t, ht, he, by rw [y, ← e12]; rfl⟩
      · rcases i4 k hk h with ⟨i, hi, he⟩ | y
        · left
          have z2 : ¬ i = E.2.2 - 1 := by
            intro z2
            rw [z2, t2] at he
            exact z (nI_inj (by omega) (by omega) he).symm
          exact ⟨i, Nat.lt_of_lt_of_le (show i < E.2.2 - 1 by omega) X.2.1, by rw [X.2.2.1 i (show i < E.2.2 - 1 by omega)]; exact he⟩
        · right
          obtain ⟨y1, y2, y3, y4⟩ := y
          have e1 := X.1 _ h
          have e1 : (hpsh (hpsh (dpop E) (r_nx A (dtop E) (nI 0)) (nI (hh - a + g))) (r_nx A (dtop E) (nI 1)) (nI (hh - a + g))).1 k = E.1 k := e1
          unfold HGk
          rw [e1]
          refine ⟨y1, y2, y3, fun w hw => ?_⟩
          rcases y4 w hw with y | ⟨t, ht, he, y⟩
          · exact Or.inl y
          · refine Or.inr ⟨t, ht, he, ?_⟩
            have e2 : 0 ≤ E.1 t := by
              rw [y]
              rcases i2 k hk with u | ⟨x, hx, u⟩
              · rw [u] at h; exact absurd h (by decide)
              · rw [u] at y1 y2 ⊢
                obtain ⟨_, _, _, _, _, _, _, _, _, u2⟩ := hq_1 hx y1 y2
                rw [u2]
                exact i32_le0 (by omega)
            rw [X.1 t e2]
            exact y
    · exact Or.inl ⟨i, hi2, he⟩
  · rcases cas k with z | ⟨_, ⟨w, hw, he⟩, z⟩
    · rw [z] at hk0 ⊢
      exact i5 V hV k hk hk0
    · have u := i5 V hV _ t1 tt
      have u2 := (hV.2 _ t1 (by rw [u]; exact tt)).2.2.2 w hw
      rcases u2 with u2 | ⟨t, ht, he2, u3⟩
      · rw [he] at u2; exact absurd u2 (i32_nlt0 (by omega))
      · rw [he] at he2
        rw [nI_inj (by omega) (by omega) he2, u3, u]
        rw [nI_inj (by omega) (by omega) he2] at z
        rw [z, ← e12]
        rfl
theorem hrn_sp {A : Nat → Nat → Int32} {C : Nat} (hC : C ≤ 100) : ∀ (c : Nat) (E : DS), E.2.2 + unh E.1 C < c → HI A C E → ((hrn A C c E).1 = true → HL A C (hrn A C c E).2.1) ∧ ((hrn A C c E).1 = false → ∀ V, ¬ HG A C V)
  | 0, _, h, _ => absurd h (by omega)
  | c + 1, E, hc, hE => by
    rw [hrn]
    by_cases h0 : E.2.2 = 0
    · rw [if_pos h0]
      refine ⟨fun _ => ⟨⟨hE.2.2.1, fun k hk hk0 => ?_⟩, hE.2.1, hE.2.2.2.2⟩, fun z => Bool.noConfusion (show true = false from z)⟩
      rcases hE.2.2.2.1 k hk hk0 with ⟨i, hi, _⟩ | h
      · omega
      · exact h
    · rw [if_neg h0]
      obtain ⟨t1, t2, hh, t3, t4⟩ := htop_ok hC hE.1 h0
      have tt : 0 ≤ E.1 (dtop E) := by rw [t4]; exact i32_le0 (by omega)
      by_cases h1 : hno A E = true
      · rw [if_pos h1]
        refine ⟨fun z => Bool.noConfusion (show false = true from z), fun _ V hV => ?_⟩
        have u := hE.2.2.2.2 V hV _ t1 tt
        obtain ⟨u1, u2, u3, _⟩ := hV.2 _ t1 (by rw [u]; exact tt)
        rw [u] at u1 u2 u3
        rcases of_decide_eq_true h1 with z | z | z
        · exact u1 z
        · exact u2 z
        · exact u3 z
      · rw [if_neg h1]
        by_cases h2 : hbad C (dpop E) (r_nx A (dtop E) (nI 0)) (haft A E) = true
        · rw [if_pos h2]
          refine ⟨fun z => Bool.noConfusion (show false = true from z), fun _ V hV => ?_⟩
          have u := hE.2.2.2.2 V hV _ t1 tt
          have u4 := (hV.2 _ t1 (by rw [u]; exact tt)).2.2.2 0 (by omega)
          rw [u] at u4
          rcases u4 with u4 | ⟨t, ht, he, u5⟩
          · rcases of_decide_eq_true h2 with z | z
            · exact absurd (Int32.lt_of_le_of_lt z u4) (i32_nlt0 (by omega))
            · exact absurd z.1 (Int32.not_le.mpr u4)
          · rw [he] at h2
            have h2 := of_decide_eq_true h2
            rw [nI_clamp (by omega)] at h2
            rcases h2 with z | ⟨_, z2, z3⟩
            · exact absurd ((nI_leI (by omega) (by omega)).mp z) (by omega)
            · exact z3 ((hE.2.2.2.2 V hV t ht z2).symm.trans u5)
        · rw [if_neg h2]
          have h1 : ¬ (hlow A E < 0 ∨ 8 < haft A E ∨ (A 176 (dtop E) = 9 ∧ 0 < hlow A E)) := fun z => h1 (decide_eq_true z)
          by_cases h3 : hbad C (hp1 A E) (r_nx A (dtop E) (nI 1)) (haft A E) = true
          · rw [if_pos h3]
            refine ⟨fun z => Bool.noConfusion (show false = true from z), fun _ V hV => ?_⟩
            obtain ⟨a, g, e8, e9, e10, e20, e21, e11, e22, e12⟩ := hq_1 (w := A 176 (dtop E)) t3 (by rw [← t4]; exact fun z => h1 (Or.inl z)) (by rw [← t4]; exact fun z => h1 (Or.inr (Or.inl z)))
            have e12 : haft A E = nI (hh - a + g) := by unfold haft hlow; rw [t4]; exact e12
            have n2 := hbad_no hC h2
            rw [e12] at n2
            obtain ⟨p1, p2, p3⟩ := hpsh_sp hC e11 n2
            rw [← e12] at p3
            have u := hE.2.2.2.2 V hV _ t1 tt
            have u4 := (hV.2 _ t1 (by rw [u]; exact tt)).2.2.2
            rw [u] at u4
            rcases u4 1 (by omega) with u6 | ⟨t, ht, he, u5⟩
            · rcases of_decide_eq_true h3 with z | z
              · exact absurd (Int32.lt_of_le_of_lt z u6) (i32_nlt0 (by omega))
              · exact absurd z.1 (Int32.not_le.mpr u6)
            · rw [he] at h3
              have h3 := of_decide_eq_true h3
              rw [nI_clamp (by omega)] at h3
              rcases h3 with z | ⟨_, z2, z3⟩
              · exact absurd ((nI_leI (by omega) (by omega)).mp z) (by omega)
              · rcases p3 t with y | ⟨_, _, y⟩
                · have z2 : 0 ≤ (hpsh (dpop E) (r_nx A (dtop E) (nI 0)) (haft A E)).1 t := z2
                  have z3 : ¬ (hpsh (dpop E) (r_nx A (dtop E) (nI 0)) (haft A E)).1 t = haft A E := z3
                  rw [y] at z2 z3
                  exact z3 ((hE.2.2.2.2 V hV t ht z2).symm.trans u5)
                · exact z3 y
          · rw [if_neg h3]
            have s1 := hst_HI hC hE h0 (fun z => h1 (of_decide_eq_true z)) h2 h3
            exact hrn_sp hC c _ (by have := s1.2; omega) s1.1
theorem r_hts_sp {A : Nat → Nat → Int32} {C : Nat} (hC : C ≤ 100) (hC1 : 0 < C) : ((r_hts A C).1 = true → HL A C (r_hts A C).2.1) ∧ ((r_hts A C).1 = false → ∀ V, ¬ HG A C V) := by
  have q3 : unh (fillF (fun _ => -1) (A 178) C) C ≤ C := unh_le _ _
  have q4 := unh_up (S := fillF (fun _ => -1) (A 178) C) (t := 0) (x := 0) (by decide) (by rw [fill_lt hC1]; decide) C hC1
  have at0 : ∀ k, k < C → (h0s A C).1 k = if k = 0 then 0 else -1 := by
    intro k hk
    show upd _ _ _ _ = _
    by_cases e : k = 0
    · rw [if_pos e, e, upd_at]
    · rw [if_neg e, upd_ne _ _ e, fill_lt hk]
  refine hrn_sp hC (C + 1) (h0s A C) (by show 1 + unh (upd (fillF (fun _ => -1) (A 178) C) 0 0) C < C + 1; omega) ⟨⟨by show 1 + unh (upd (fillF (fun _ => -1) (A 178) C) 0 0) C ≤ C; omega, fun i hi => ?_⟩, fun k hk => ?_, ?_, fun k hk hk0 => ?_, fun V hV k hk hk0 => ?_⟩
  · have hi : i < 1 := hi
    exact ⟨0, 0, hC1, by show upd _ _ _ _ = _; rw [show i = 0 by omega, upd_at]; rfl, by omega, rfl⟩
  · rw [at0 k hk]
    by_cases e : k = 0
    · exact Or.inr ⟨0, by omega, by rw [if_pos e]; rfl⟩
    · exact Or.inl (by rw [if_neg e])
  · rfl
  · rw [at0 k hk] at hk0
    by_cases e : k = 0
    · exact Or.inl ⟨0, by show 0 < 1; omega, by rw [e]; rfl⟩
    · rw [if_neg e] at hk0
      exact absurd hk0 (by decide)
  · rw [at0 k hk] at hk0 ⊢
    by_cases e : k = 0
    · rw [if_pos e, e]; exact hV.1
    · rw [if_neg e] at hk0
      exact absurd hk0 (by decide)
theorem HL_RC {A : Nat → Nat → Int32} {C : Nat} {W : Nat → Int32} (h : HL A C W) : RC A C (fun k => k < C ∧ 0 ≤ W k) := fun k hk => ⟨hk.1, fun w hw => by
  rcases (h.1.2 k hk.1 hk.2).2.2.2 w hw with z | ⟨t, ht, he, z⟩
  · exact Or.inl z
  · refine Or.inr ⟨t, ⟨ht, ?_⟩, he⟩
    have y := h.1.2 k hk.1 hk.2
    rw [z]
    rcases h.2.1 k hk.1 with u | ⟨x, hx, u⟩
    · have := hk.2
      rw [u] at this
      exact absurd this (by decide)
    · have y1 := y.1
      have y2 := y.2.1
      rw [u] at y1 y2 ⊢
      obtain ⟨_, _, _, _, _, _, _, _, _, u2⟩ := hq_1 hx y1 y2
      rw [u2]
      exact i32_le0 (by omega)⟩
theorem HL_one {A : Nat → Nat → Int32} {C : Nat} {W V : Nat → Int32} (h1 : HL A C W) (h2 : HL A C V) : ∀ k, k < C → W k = V k := by
  intro k hk
  by_cases z : 0 ≤ W k
  · exact (h1.2.2 V h2.1 k hk z).symm
  · by_cases y : 0 ≤ V k
    · exact h2.2.2 W h1.1 k hk y
    · rcases h1.2.1 k hk with a | ⟨x, hx, a⟩
      · rcases h2.2.1 k hk with b | ⟨x, hx, b⟩
        · rw [a, b]
        · exact absurd (by rw [b]; exact i32_le0 (by omega)) y
      · exact absurd (by rw [a]; exact i32_le0 (by omega)) z
