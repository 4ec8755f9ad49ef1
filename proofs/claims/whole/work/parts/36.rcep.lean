/-! ===== THE REFERENCE: what comesToEnd and heights find ===== -/
def Ext (mk : Int32 → Prop) (E E' : DS) : Prop := (∀ k, mk (E.1 k) → E'.1 k = E.1 k) ∧ E.2.2 ≤ E'.2.2 ∧ (∀ i, i < E.2.2 → E'.2.1 i = E.2.1 i) ∧ ∀ k, mk (E'.1 k) → mk (E.1 k) ∨ ∃ i, E.2.2 ≤ i ∧ i < E'.2.2 ∧ E'.2.1 i = nI k
theorem Ext_rfl {mk : Int32 → Prop} (E : DS) : Ext mk E E := ⟨fun _ _ => rfl, Nat.le_refl _, fun _ _ => rfl, fun _ h => Or.inl h⟩
theorem Ext_tr {mk : Int32 → Prop} {E F G : DS} (h1 : Ext mk E F) (h2 : Ext mk F G) : Ext mk E G := by
  refine ⟨fun k hk => ?_, Nat.le_trans h1.2.1 h2.2.1, fun i hi => ?_, fun k hk => ?_⟩
  · have e := h1.1 k hk
    rw [h2.1 k (by rw [e]; exact hk), e]
  · rw [h2.2.2.1 i (Nat.lt_of_lt_of_le hi h1.2.1), h1.2.2.1 i hi]
  · rcases h2.2.2.2 k hk with h | ⟨i, hi, hi2, he⟩
    · rcases h1.2.2.2 k h with h | ⟨i, hi, hi2, he⟩
      · exact Or.inl h
      · exact Or.inr ⟨i, hi, Nat.lt_of_lt_of_le hi2 h2.2.1, by rw [h2.2.2.1 i hi2, he]⟩
    · exact Or.inr ⟨i, Nat.le_trans h1.2.1 hi, hi2, he⟩
theorem upd_at (S : Nat → Int32) (t : Nat) (x : Int32) : upd S t x t = x := by
  unfold upd
  rw [if_pos rfl]
theorem upd_ne (S : Nat → Int32) {t k : Nat} (x : Int32) (h : ¬ k = t) : upd S t x k = S k := by
  unfold upd
  rw [if_neg h]
theorem Ext_push {mk : Int32 → Prop} {E : DS} {m : Nat} {x : Int32} (h : ¬ mk (E.1 m)) : Ext mk E (upd E.1 m x, upd E.2.1 E.2.2 (nI m), E.2.2 + 1) := by
  refine ⟨fun k hk => ?_, Nat.le_succ _, fun i hi => ?_, fun k hk => ?_⟩
  · exact upd_ne _ _ (fun e => h (e ▸ hk))
  · exact upd_ne _ _ (by omega)
  · by_cases e : k = m
    · exact Or.inr ⟨E.2.2, Nat.le_refl _, Nat.lt_succ_self _, by show upd _ _ _ _ = _; rw [upd_at, e]⟩
    · left
      have hk : mk (upd E.1 m x k) := hk
      rw [upd_ne _ _ e] at hk
      exact hk
/-- from b on, an END is come to without wo -/
def CEc (A : Nat → Nat → Int32) (C : Nat) (B : Nat → Prop) (T : Nat → Prop) : Prop := ∀ k, k < C → T k → ∀ w, w < 2 → ∀ t, t < C → r_nx A k (nI w) = nI t → ¬ B t → T t
def CE (A : Nat → Nat → Int32) (C b : Nat) (wo : Int32) : Prop := ¬ nI b = wo ∧ ∀ T : Nat → Prop, T b → CEc A C (fun t => nI t = wo) T → ∃ e, e < C ∧ T e ∧ A 176 e = 9
def DI (A : Nat → Nat → Int32) (C : Nat) (B N9 : Nat → Prop) (St : (Nat → Prop) → Prop) (R : Nat → Prop) (E : DS) : Prop := DOK R C E ∧ (∀ i, i < E.2.2 → ∃ m, m < C ∧ E.2.1 i = nI m ∧ ¬ E.1 m = 0 ∧ ¬ B m) ∧
  (∀ m, m < C → ¬ E.1 m = 0 → B m ∨ (∃ i, i < E.2.2 ∧ E.2.1 i = nI m) ∨ (N9 m ∧ ∀ w, w < 2 → ∀ t, t < C → r_nx A m (nI w) = nI t → ¬ E.1 t = 0)) ∧
  (∀ T : Nat → Prop, St T → CEc A C B T → ∀ m, m < C → ¬ E.1 m = 0 → B m ∨ T m) ∧ ∀ m, m < C → B m → ¬ E.1 m = 0
theorem nI_inj {a b : Nat} (ha : a < 2147483648) (hb : b < 2147483648) (h : nI a = nI b) : a = b := by
  have h2 : (nI a).toNatClampNeg = (nI b).toNatClampNeg := by rw [h]
  rw [nI_clamp ha, nI_clamp hb] at h2
  exact h2
theorem psh_sp {E : DS} {t : Int32} {C : Nat} (hC : C ≤ 100) (ht : t < 0 ∨ ∃ m, m < C ∧ t = nI m) : Ext (fun x => ¬ x = 0) E (psh E t) ∧ (∀ m, m < C → t = nI m → ¬ (psh E t).1 m = 0) ∧ ∀ k, ¬ (psh E t).1 k = 0 → ¬ E.1 k = 0 ∨ (t = nI k ∧ k < C ∧ E.1 k = 0) := by
  rcases ht with ht | ⟨m, hm, rfl⟩
  · have e : psh E t = E := by rw [psh, if_neg (fun z => absurd z.1 (Int32.not_le.mpr ht))]
    rw [e]
    exact ⟨Ext_rfl E, fun m hm he => absurd ht (by rw [he]; exact i32_nlt0 (by omega)), fun k hk => Or.inl hk⟩
  · by_cases z : E.1 m = 0
    · have e : psh E (nI m) = (upd E.1 m 1, upd E.2.1 E.2.2 (nI m), E.2.2 + 1) := by rw [psh, nI_clamp (by omega), if_pos ⟨i32_le0 (by omega), z⟩]
      rw [e]
      refine ⟨Ext_push (fun q => q z), fun k hk he => ?_, fun k hk => ?_⟩
      · rw [← nI_inj (by omega) (by omega) he]
        show ¬ upd _ _ _ _ = 0
        rw [upd_at]
        decide
      · by_cases e : k = m
        · exact Or.inr ⟨by rw [e], by omega, by rw [e]; exact z⟩
        · have hk : ¬ upd E.1 m 1 k = 0 := hk
          rw [upd_ne _ _ e] at hk
          exact Or.inl hk
    · have e : psh E (nI m) = E := by rw [psh, nI_clamp (by omega), if_neg (fun q => z q.2)]
      rw [e]
      exact ⟨Ext_rfl E, fun k hk he => by rw [← nI_inj (by omega) (by omega) he]; exact z, fun k hk => Or.inl hk⟩
theorem dst_DI {A : Nat → Nat → Int32} {C : Nat} {B N9 : Nat → Prop} {St : (Nat → Prop) → Prop} {R : Nat → Prop} {E : DS} (hC : C ≤ 100) (hR : RC A C R) (hE : DI A C B N9 St R E) (h0 : ¬ E.2.2 = 0) (h9 : N9 (dtop E)) : DI A C B N9 St R (dst A E) := by
  obtain ⟨i1, i2, i3, i4, i6⟩ := hE
  have hR' : ∀ m, R m → m < C := fun m hm => (hR m hm).1
  obtain ⟨t1, t2⟩ := dtop_ok hC hR' i1 h0
  have tC := hR' _ t1
  have nx : ∀ w, w < 2 → r_nx A (dtop E) (nI w) < 0 ∨ ∃ t, t < C ∧ r_nx A (dtop E) (nI w) = nI t := fun w hw => ((hR _ t1).2 w hw).imp id (fun ⟨t, h1, h2⟩ => ⟨t, hR' t h1, h2⟩)
  obtain ⟨p1, p2, p3⟩ := psh_sp (E := dpop E) hC (nx 0 (by omega))
  obtain ⟨q1, q2, q3⟩ := psh_sp (E := psh (dpop E) (r_nx A (dtop E) (nI 0))) hC (nx 1 (by omega))
  have X : Ext (fun x => ¬ x = 0) (dpop E) (dst A E) := Ext_tr p1 q1
  have tm : ¬ E.1 (dtop E) = 0 ∧ ¬ B (dtop E) := by
    obtain ⟨m, hm, he, h1, h2⟩ := i2 (E.2.2 - 1) (by omega)
    rw [t2] at he
    rw [nI_inj (by omega) (by omega) he]
    exact ⟨h1, h2⟩
  have old : ∀ k, ¬ E.1 k = 0 → (dst A E).1 k = E.1 k := fun k hk => X.1 k hk
  have nw : ∀ w, w < 2 → ∀ t, t < C → r_nx A (dtop E) (nI w) = nI t → ¬ (dst A E).1 t = 0 := by
    intro w hw t ht he
    have : w = 0 ∨ w = 1 := by omega
    rcases this with rfl | rfl
    · have h1 := p2 t ht he
      have h2 := q1.1 t h1
      show ¬ (psh (psh (dpop E) (r_nx A (dtop E) (nI 0))) (r_nx A (dtop E) (nI 1))).1 t = 0
      rw [h2]
      exact h1
    · exact q2 t ht he
  have nm : ∀ k, ¬ (dst A E).1 k = 0 → ¬ E.1 k = 0 ∨ (k < C ∧ E.1 k = 0 ∧ ∃ w, w < 2 ∧ r_nx A (dtop E) (nI w) = nI k) := by
    intro k hk
    rcases q3 k hk with h | ⟨h1, h2, h3⟩
    · rcases p3 k h with h | ⟨h1, h2, h3⟩
      · exact Or.inl h
      · exact Or.inr ⟨h2, h3, 0, by omega, h1⟩
    · by_cases z : E.1 k = 0
      · exact Or.inr ⟨h2, z, 1, by omega, h1⟩
      · exact Or.inl z
  refine ⟨(dst_ok hC hR i1 h0).1, fun i hi => ?_, fun m hm hm0 => ?_, fun T hb hT m hm hm0 => ?_, fun m hm he => ?_⟩
  · by_cases z : i < E.2.2 - 1
    · obtain ⟨m, hm, he, h1, h2⟩ := i2 i (by omega)
      exact ⟨m, hm, by rw [X.2.2.1 i z]; exact he, by rw [old m h1]; exact h1, h2⟩
    · obtain ⟨m, hm, he⟩ := (dst_ok hC hR i1 h0).1.2 i hi
      have hmC := hR' m hm
      -- it was pushed
      have hps : ∀ (F : DS) (t : Int32) (i : Nat), F.2.2 ≤ i → i < (psh F t).2.2 → (psh F t).2.1 i = t ∧ 0 ≤ t ∧ F.1 t.toNatClampNeg = 0 ∧ ¬ (psh F t).1 t.toNatClampNeg = 0 := by
        intro F t i a1 a2
        unfold psh at a2 ⊢
        by_cases z : 0 ≤ t ∧ F.1 t.toNatClampNeg = 0
        · rw [if_pos z] at a2 ⊢
          have a2 : i < F.2.2 + 1 := a2
          have : i = F.2.2 := by omega
          subst this
          refine ⟨by show upd _ _ _ _ = _; rw [upd_at], z.1, z.2, ?_⟩
          show ¬ upd _ _ _ _ = 0
          rw [upd_at]
          decide
        · rw [if_neg z] at a2
          omega
      by_cases z2 : i < (psh (dpop E) (r_nx A (dtop E) (nI 0))).2.2
      · obtain ⟨b1, b2, b3, b4⟩ := hps _ _ i (show (dpop E).2.2 ≤ i by show E.2.2 - 1 ≤ i; omega) z2
        have b5 := q1.2.2.1 i z2
        have he : (psh (psh (dpop E) (r_nx A (dtop E) (nI 0))) (r_nx A (dtop E) (nI 1))).2.1 i = nI m := he
        rw [b5, b1] at he
        rw [he, nI_clamp (by omega)] at b3 b4
        refine ⟨m, hmC, by show (psh (psh (dpop E) (r_nx A (dtop E) (nI 0))) (r_nx A (dtop E) (nI 1))).2.1 i = nI m; rw [b5, b1, he], ?_, fun e => i6 m hmC e b3⟩
        have b6 := q1.1 m (by rw [he]; exact b4)
        show ¬ (psh (psh (dpop E) (r_nx A (dtop E) (nI 0))) (r_nx A (dtop E) (nI 1))).1 m = 0
        rw [b6, he]
        exact b4
      · obtain ⟨b1, b2, b3, b4⟩ := hps _ _ i (show (psh (dpop E) (r_nx A (dtop E) (nI 0))).2.2 ≤ i by omega) hi
        have he : (psh (psh (dpop E) (r_nx A (dtop E) (nI 0))) (r_nx A (dtop E) (nI 1))).2.1 i = nI m := he
        rw [b1] at he
        refine ⟨m, hmC, by show (psh (psh (dpop E) (r_nx A (dtop E) (nI 0))) (r_nx A (dtop E) (nI 1))).2.1 i = nI m; rw [b1, he], ?_, fun e => ?_⟩
        · rw [he, nI_clamp (by omega)] at b4
          rw [← he] at b4
          exact b4
        · rw [he, nI_clamp (by omega)] at b3
          exact i6 m hmC e (by
            by_cases z3 : E.1 m = 0
            · exact z3
            · exact absurd b3 (by rw [p1.1 m z3]; exact z3))
  · rcases X.2.2.2 m hm0 with h | ⟨i, hi, hi2, he⟩
    · have h : ¬ E.1 m = 0 := h
      by_cases z : m = dtop E
      · exact Or.inr (Or.inr ⟨by rw [z]; exact h9, fun w hw t ht he => nw w hw t ht (by rw [← z]; exact he)⟩)
      · rcases i3 m hm h with e | ⟨i, hi, he⟩ | ⟨e1, e2⟩
        · exact Or.inl e
        · refine Or.inr (Or.inl ⟨i, ?_, ?_⟩)
          · by_cases z2 : i = E.2.2 - 1
            · rw [z2, t2] at he
              exact absurd (nI_inj (by omega) (by omega) he).symm z
            · exact Nat.lt_of_lt_of_le (show i < E.2.2 - 1 by omega) X.2.1
          · by_cases z2 : i = E.2.2 - 1
            · rw [z2, t2] at he
              exact absurd (nI_inj (by omega) (by omega) he).symm z
            · rw [X.2.2.1 i (show i < E.2.2 - 1 by omega)]
              exact he
        · exact Or.inr (Or.inr ⟨e1, fun w hw t ht he => by rw [old t (e2 w hw t ht he)]; exact e2 w hw t ht he⟩)
    · exact Or.inr (Or.inl ⟨i, hi2, he⟩)
  · rcases nm m hm0 with h | ⟨h1, h2, w, hw, he⟩
    · exact i4 T hb hT m hm h
    · right
      have hk := (i4 T hb hT _ tC tm.1).elim (fun z => absurd z tm.2) id
      exact hT _ tC hk w hw m hm he (fun e => i6 m hm e h2)
  · rw [old m (i6 m hm he)]; exact i6 m hm he
theorem dst_old {A : Nat → Nat → Int32} {C : Nat} {R : Nat → Prop} {E : DS} (hC : C ≤ 100) (hR : RC A C R) (hE : DOK R C E) (h0 : ¬ E.2.2 = 0) {k : Nat} (hk : ¬ E.1 k = 0) : ¬ (dst A E).1 k = 0 := by
  have hR' : ∀ m, R m → m < C := fun m hm => (hR m hm).1
  obtain ⟨t1, t2⟩ := dtop_ok hC hR' hE h0
  have nx : ∀ w, w < 2 → r_nx A (dtop E) (nI w) < 0 ∨ ∃ t, t < C ∧ r_nx A (dtop E) (nI w) = nI t := fun w hw => ((hR _ t1).2 w hw).imp id (fun ⟨t, h1, h2⟩ => ⟨t, hR' t h1, h2⟩)
  have X : Ext (fun x => ¬ x = 0) (dpop E) (dst A E) := Ext_tr (psh_sp (E := dpop E) hC (nx 0 (by omega))).1 (psh_sp hC (nx 1 (by omega))).1
  rw [X.1 k hk]
  exact hk
theorem drn_sp {A : Nat → Nat → Int32} {C b : Nat} {wo : Int32} {R : Nat → Prop} (hC : C ≤ 100) (hR : RC A C R) (hb : b < C) (hbw : ¬ nI b = wo) : ∀ (c : Nat) (E : DS), E.2.2 + unm E.1 C < c → DI A C (fun t => nI t = wo) (fun m => ¬ A 176 m = 9) (fun T => T b) R E → ¬ E.1 b = 0 → ((drn A c E).1 = true ↔ CE A C b wo)
  | 0, _, h, _, _ => absurd h (by omega)
  | c + 1, E, hc, hE, hb0 => by
    have hR' : ∀ m, R m → m < C := fun m hm => (hR m hm).1
    rw [drn]
    by_cases h0 : E.2.2 = 0
    · rw [if_pos h0]
      refine ⟨fun z => Bool.noConfusion (show false = true from z), fun z => ?_⟩
      obtain ⟨e, e1, e2, e3⟩ := z.2 (fun m => m < C ∧ ¬ E.1 m = 0 ∧ ¬ nI m = wo) ⟨hb, hb0, hbw⟩ (fun k hk hk2 w hw t ht he hw2 => by
        rcases hE.2.2.1 k hk hk2.2.1 with h | ⟨i, hi, _⟩ | ⟨_, h⟩
        · exact absurd h hk2.2.2
        · exact absurd hi (by omega)
        · exact ⟨ht, h w hw t ht he, hw2⟩)
      rcases hE.2.2.1 e e1 e2.2.1 with h | ⟨i, hi, _⟩ | ⟨h, _⟩
      · exact absurd h e2.2.2
      · exact absurd hi (by omega)
      · exact absurd e3 h
    · rw [if_neg h0]
      by_cases h9 : A 176 (dtop E) = 9
      · rw [if_pos h9]
        refine ⟨fun _ => ⟨hbw, fun T hT hc => ?_⟩, fun _ => rfl⟩
        obtain ⟨t1, t2⟩ := dtop_ok hC hR' hE.1 h0
        have tC := hR' _ t1
        obtain ⟨m, hm, he, h1, h2⟩ := hE.2.1 (E.2.2 - 1) (by omega)
        rw [t2] at he
        rw [← nI_inj (by omega) (by omega) he] at h1 h2
        exact ⟨dtop E, tC, (hE.2.2.2.1 T hT hc _ tC h1).elim (fun z => absurd z h2) id, h9⟩
      · rw [if_neg h9]
        have := (dst_ok hC hR hE.1 h0).2
        exact drn_sp hC hR hb hbw c (dst A E) (by omega) (dst_DI hC hR hE h0 h9) (dst_old hC hR hE.1 h0 hb0)
theorem ce0_at {A : Nat → Nat → Int32} {C k : Nat} {wo : Int32} (h : k < C) : ¬ ce0 A C wo k = 0 ↔ nI k = wo := by
  unfold ce0
  rw [fill_lt h, bz_0, decide_eq_false_iff_not, Classical.not_not]
theorem r_ce_sp {A : Nat → Nat → Int32} {C b : Nat} {wo : Int32} {R : Nat → Prop} (hC : C ≤ 100) (hR : RC A C R) (hb : R b) : (r_ce A C b wo).1 = true ↔ CE A C b wo := by
  have hbC := (hR b hb).1
  unfold r_ce
  by_cases h : ¬ ce0 A C wo b = 0
  · rw [if_pos h]
    exact ⟨fun z => Bool.noConfusion (show false = true from z), fun z => absurd ((ce0_at hbC).mp h) z.1⟩
  · rw [if_neg h]
    have h := Classical.not_not.mp h
    have hbw : ¬ nI b = wo := fun z => (ce0_at (A := A) hbC).mpr z h
    have e6 := unm_up h C hbC
    have e7 := unm_le (ce0 A C wo) C
    have ups : ∀ m, m < C → (¬ upd (ce0 A C wo) b 1 m = 0 ↔ nI m = wo ∨ m = b) := by
      intro m hm
      by_cases e : m = b
      · subst e
        rw [upd_at]
        exact ⟨fun _ => Or.inr rfl, fun _ => by decide⟩
      · rw [upd_ne _ _ e, ce0_at hm]
        exact ⟨Or.inl, fun z => z.elim id (fun z => absurd z e)⟩
    refine drn_sp hC hR hbC hbw (C + 1) _ (by show 1 + unm (upd (ce0 A C wo) b 1) C < C + 1; omega) ⟨⟨by show 1 + unm (upd (ce0 A C wo) b 1) C ≤ C + 1; omega, fun i hi => ?_⟩, fun i hi => ?_, fun m hm hm0 => ?_, fun T hT _ m hm hm0 => ?_, fun m hm he => ?_⟩ ?_
    · have hi : i < 1 := hi
      exact ⟨b, hb, by show upd _ _ _ _ = _; rw [show i = 0 by omega, upd_at]⟩
    · have hi : i < 1 := hi
      refine ⟨b, hbC, by show upd _ _ _ _ = _; rw [show i = 0 by omega, upd_at], ?_, hbw⟩
      show ¬ upd _ _ _ _ = 0
      rw [upd_at]
      decide
    · rcases (ups m hm).mp hm0 with e | e
      · exact Or.inl e
      · exact Or.inr (Or.inl ⟨0, by show 0 < 1; omega, by show upd (A 180) 0 (nI b) 0 = _; rw [upd_at, e]⟩)
    · rcases (ups m hm).mp hm0 with e | e
      · exact Or.inl e
      · exact Or.inr (by rw [e]; exact hT)
    · exact (ups m hm).mpr (Or.inl he)
    · exact (ups b hbC).mpr (Or.inr rfl)
