/-! ===== THE CLASS: Shape, the ways, pure ===== -/
/-- W is right so far -/
def CJ (X : Nat → Nat → Int32) (C : Nat) (W : CW) : Prop := CWK C W ∧ W.1 0 = 0 ∧ (∀ j, j < W.2.2 → ∃ m h, m < C ∧ W.2.1 j = nI m ∧ h ≤ 8 ∧ W.1 m = nI h) ∧ (∀ k, k < C → 0 ≤ W.1 k → ∃ j, j < W.2.2 ∧ W.2.1 j = nI k) ∧ ∀ V, HG X C V → ∀ k, k < C → 0 ≤ W.1 k → V k = W.1 k
theorem m1_not {x : Int32} {h : Nat} (hh : h ≤ 8) (e : x = nI h) : ¬ x = -1 ∧ 0 ≤ x := by
  subst e
  exact ⟨fun q => absurd (show nI h < 0 by rw [q]; decide) (i32_nlt0 (by omega)), Int32.not_lt.mp (i32_nlt0 (by omega))⟩
theorem ge_h {C : Nat} {W : CW} (h : CWK C W) {k : Nat} (hk : k < C) (h0 : 0 ≤ W.1 k) : ∃ j, j ≤ 8 ∧ W.1 k = nI j := by
  rcases h.2 k hk with z | z
  · rw [z] at h0; exact absurd h0 (by decide)
  · exact z
theorem cps_at {W : CW} {t : Nat} {h : Int32} {k : Nat} (hk : ¬ W.1 k = -1) : (cps W t h).1 k = W.1 k := by
  unfold cps
  by_cases c : W.1 t = -1
  · rw [if_pos c]
    exact upd_ne _ _ (fun q => hk (by rw [q]; exact c))
  · rw [if_neg c]
theorem cps_qu {W : CW} {t : Nat} {h : Int32} {j : Nat} (hj : j < W.2.2) : j < (cps W t h).2.2 ∧ (cps W t h).2.1 j = W.2.1 j := by
  unfold cps
  by_cases c : W.1 t = -1
  · rw [if_pos c]
    exact ⟨Nat.lt_succ_of_lt hj, upd_ne _ _ (by omega)⟩
  · rw [if_neg c]; exact ⟨hj, rfl⟩
theorem cps_CJ {X : Nat → Nat → Int32} {C : Nat} {W : CW} {t q : Nat} (h : CJ X C W) (ht : t < C) (hq : q ≤ 8) (hV : ∀ V, HG X C V → V t = nI q) : CJ X C (cps W t (nI q)) := by
  obtain ⟨h1, h2, h3, h4, h5⟩ := h
  refine ⟨cps_ok h1 ht hq, ?_, fun j hj => ?_, fun k hk h0 => ?_, fun V hv k hk h0 => ?_⟩
  · rw [cps_at (by rw [h2]; decide)]; exact h2
  · by_cases c : W.1 t = -1
    · have e : cps W t (nI q) = (upd W.1 t (nI q), upd W.2.1 W.2.2 (nI t), W.2.2 + 1) := by rw [cps, if_pos c]
      rw [e] at hj ⊢
      have hj : j < W.2.2 + 1 := hj
      by_cases c2 : j = W.2.2
      · subst c2
        exact ⟨t, q, ht, upd_at _ _ _, hq, upd_at _ _ _⟩
      · obtain ⟨m, x, hm, e1, hx, e2⟩ := h3 j (by omega)
        refine ⟨m, x, hm, ?_, hx, ?_⟩
        · show upd W.2.1 W.2.2 (nI t) j = nI m
          rw [upd_ne _ _ (by omega)]; exact e1
        · show upd W.1 t (nI q) m = nI x
          rw [upd_ne _ _ (fun z => (m1_not hx e2).1 (by rw [z]; exact c))]; exact e2
    · rw [cps, if_neg c] at hj ⊢
      exact h3 j hj
  · by_cases c2 : W.1 k = -1
    · by_cases c : W.1 t = -1
      · have e : cps W t (nI q) = (upd W.1 t (nI q), upd W.2.1 W.2.2 (nI t), W.2.2 + 1) := by rw [cps, if_pos c]
        rw [e] at h0 ⊢
        by_cases c3 : k = t
        · subst c3
          exact ⟨W.2.2, Nat.lt_succ_self _, upd_at _ _ _⟩
        · have h0 : 0 ≤ upd W.1 t (nI q) k := h0
          rw [upd_ne _ _ c3, c2] at h0
          exact absurd h0 (by decide)
      · rw [cps, if_neg c, c2] at h0; exact absurd h0 (by decide)
    · rw [cps_at c2] at h0
      obtain ⟨j, hj, e⟩ := h4 k hk h0
      have z := cps_qu (W := W) (t := t) (h := nI q) hj
      exact ⟨j, z.1, by rw [z.2]; exact e⟩
  · by_cases c2 : W.1 k = -1
    · by_cases c : W.1 t = -1
      · have e : (cps W t (nI q)).1 = upd W.1 t (nI q) := by rw [cps, if_pos c]
        rw [e] at h0 ⊢
        by_cases c3 : k = t
        · subst c3
          rw [upd_at]; exact hV V hv
        · rw [upd_ne _ _ c3, c2] at h0
          exact absurd h0 (by decide)
      · rw [cps, if_neg c, c2] at h0; exact absurd h0 (by decide)
    · rw [cps_at c2] at h0 ⊢
      exact h5 V hv k hk h0
theorem tb_lt {j : Nat} (hj : j ≤ 8) (w : Int32) : nI j < r_tb w ↔ nI j - r_tb w < 0 := by
  have h1 : ∀ j, j ≤ 8 → ((nI j < 0 ↔ nI j - 0 < 0) ∧ (nI j < 1 ↔ nI j - 1 < 0) ∧ (nI j < 2 ↔ nI j - 2 < 0)) := by decide +kernel
  rcases tb_3 w with h | h | h
  · rw [h]; exact (h1 j hj).1
  · rw [h]; exact (h1 j hj).2.1
  · rw [h]; exact (h1 j hj).2.2
theorem HGk_x {X : Nat → Nat → Int32} {C k : Nat} {W W' : Nat → Int32} {j : Nat} (hj : j ≤ 8) (ej : W k = nI j) (he : ∀ m, m < C → 0 ≤ W m → W' m = W m) (hk : k < C) (h : HGk X C W k) : HGk X C W' k := by
  have e0 : W' k = W k := he k hk (by rw [ej]; exact Int32.not_lt.mp (i32_nlt0 (by omega)))
  obtain ⟨a1, a2, a3, a4⟩ := h
  unfold HGk
  rw [e0]
  refine ⟨a1, a2, a3, fun w hw => ?_⟩
  rcases a4 w hw with z | ⟨t, ht, z1, z2⟩
  · exact Or.inl z
  · refine Or.inr ⟨t, ht, z1, ?_⟩
    rw [he t ht ?_]; exact z2
    rw [z2]
    rw [ej] at a1 a2 ⊢
    obtain ⟨q, _, e⟩ := aft_i hj (fun z => a1 ((tb_lt hj _).mp z)) a2
    rw [e]
    exact Int32.not_lt.mp (i32_nlt0 (by omega))
theorem nx_0 {K E : Nat → Int32} {k : Nat} : r_nx (VA K E) k (nI 0) = (if K k = 9 then -1 else if K k = 8 then E k else nI (k + 1)) := if_pos rfl
theorem nx_1 {K E : Nat → Int32} {k : Nat} : r_nx (VA K E) k (nI 1) = (if K k = 7 then E k else -1) := if_neg (by decide)
theorem cgw_sp {K E : Nat → Int32} {C : Nat} (hC : C ≤ 100) (hp : PL (VA K E) C) {W : CW} (hJ : CJ (VA K E) C W) {k : Nat} (hk : k < C) {j : Nat} (hj : j ≤ 8) (ej : W.1 k = nI j) : ((cgw C K E W k).1 = true → CJ (VA K E) C (cgw C K E W k).2 ∧ HGk (VA K E) C (cgw C K E W k).2.1 k ∧ (∀ m, m < C → 0 ≤ W.1 m → (cgw C K E W k).2.1 m = W.1 m) ∧ (∀ i, i < W.2.2 → i < (cgw C K E W k).2.2.2 ∧ (cgw C K E W k).2.2.1 i = W.2.1 i)) ∧ ((cgw C K E W k).1 = false → ∀ V, ¬ HG (VA K E) C V) := by
  have hkk : ∀ V, HG (VA K E) C V → V k = W.1 k ∧ HGk (VA K E) C V k := fun V hv => by
    have e := hJ.2.2.2.2 V hv k hk (m1_not hj ej).2
    exact ⟨e, hv.2 k hk (by rw [e]; exact (m1_not hj ej).2)⟩
  unfold cgw
  by_cases c9 : K k = 9
  · rw [if_pos c9]
    have t0 : r_tb (K k) = 0 := by rw [c9]; decide
    have g0 : r_gb (K k) = 0 := by rw [c9]; decide
    refine ⟨fun h => ⟨hJ, ?_, fun m _ _ => rfl, fun i hi => ⟨hi, rfl⟩⟩, fun h V hv => ?_⟩
    · have h : W.1 k = 0 := of_decide_eq_true h
      unfold HGk
      show ¬ W.1 k - r_tb (K k) < 0 ∧ ¬ 8 < W.1 k - r_tb (K k) + r_gb (K k) ∧ ¬ (K k = 9 ∧ 0 < W.1 k - r_tb (K k)) ∧ _
      rw [t0, g0, h]
      refine ⟨by decide, by decide, fun z => absurd z.2 (by decide), fun w hw => Or.inl ?_⟩
      obtain rfl | rfl : w = 0 ∨ w = 1 := by omega
      · rw [nx_0, if_pos c9]; decide
      · rw [nx_1, if_neg (by rw [c9]; decide)]; decide
    · have h : ¬ W.1 k = 0 := of_decide_eq_false h
      obtain ⟨e, _, _, a3, _⟩ := hkk V hv
      have a3 : ¬ (K k = 9 ∧ 0 < V k - r_tb (K k)) := a3
      rw [t0, e, ej] at a3
      rw [ej] at h
      have hz : ∀ j, j ≤ 8 → ¬ nI j = 0 → 0 < nI j - 0 := by decide +kernel
      exact a3 ⟨c9, hz j hj h⟩
  · rw [if_neg c9]
    by_cases cb : W.1 k < r_tb (K k) ∨ 8 < W.1 k - r_tb (K k) + r_gb (K k) ∨ (¬ K k = 8 ∧ C ≤ k + 1)
    · rw [if_pos cb]
      refine ⟨fun h => absurd h (by simp), fun _ V hv => ?_⟩
      obtain ⟨e, a1, a2, a3, a4⟩ := hkk V hv
      have a1 : ¬ V k - r_tb (K k) < 0 := a1
      have a2 : ¬ 8 < V k - r_tb (K k) + r_gb (K k) := a2
      rw [e] at a1 a2
      rcases cb with z | z | ⟨z1, z2⟩
      · rw [ej] at z a1; exact a1 ((tb_lt hj _).mp z)
      · exact a2 z
      · rcases a4 0 (by omega) with y | ⟨t, ht, y, _⟩
        · rw [nx_0, if_neg c9, if_neg z1] at y
          exact absurd y (i32_nlt0 (by omega))
        · rw [nx_0, if_neg c9, if_neg z1] at y
          have := nI_inj (by omega) (by omega) y
          omega
    · rw [if_neg cb]
      have b1 : ¬ W.1 k < r_tb (K k) := fun z => cb (Or.inl z)
      have b2 : ¬ 8 < W.1 k - r_tb (K k) + r_gb (K k) := fun z => cb (Or.inr (Or.inl z))
      have b3 : ¬ K k = 8 → k + 1 < C := fun z => by
        by_cases y : C ≤ k + 1
        · exact absurd (Or.inr (Or.inr ⟨z, y⟩)) cb
        · omega
      obtain ⟨q, hq8, hq⟩ : ∃ q, q ≤ 8 ∧ W.1 k - r_tb (K k) + r_gb (K k) = nI q := by
        rw [ej] at b1 b2 ⊢
        exact aft_i hj b1 b2
      rw [hq]
      obtain ⟨t, ht, et, en⟩ : ∃ t, t < C ∧ (if K k = 8 then (E k).toNatClampNeg else k + 1) = t ∧ r_nx (VA K E) k (nI 0) = nI t := by
        by_cases c8 : K k = 8
        · exact ⟨_, (pl_t hp hC hk (Or.inr c8)).1, if_pos c8, by rw [nx_0, if_neg c9, if_pos c8]; exact (pl_t hp hC hk (Or.inr c8)).2⟩
        · exact ⟨k + 1, b3 c8, if_neg c8, by rw [nx_0, if_neg c9, if_neg c8]⟩
      rw [et]
      have hV1 : ∀ V, HG (VA K E) C V → V t = nI q := fun V hv => by
        obtain ⟨e, a1, a2, a3, a4⟩ := hkk V hv
        rcases a4 0 (by omega) with y | ⟨t', ht', y, z⟩
        · rw [en] at y; exact absurd y (i32_nlt0 (by omega))
        · rw [en] at y
          obtain rfl := nI_inj (by omega) (by omega) y
          have z : V t = V k - r_tb (K k) + r_gb (K k) := z
          rw [z, e, hq]
      have hV2 : K k = 7 → ∀ V, HG (VA K E) C V → V (E k).toNatClampNeg = nI q := fun c7 V hv => by
        have ht7 := pl_t hp hC hk (Or.inl c7)
        obtain ⟨e, a1, a2, a3, a4⟩ := hkk V hv
        rcases a4 1 (by omega) with y | ⟨t', ht', y, z⟩
        · rw [nx_1, if_pos c7, ht7.2] at y; exact absurd y (i32_nlt0 (by omega))
        · rw [nx_1, if_pos c7, ht7.2] at y
          have := nI_inj (by omega) (by omega) y
          rw [this]
          have z : V t' = V k - r_tb (K k) + r_gb (K k) := z
          rw [z, e, hq]
      have J1 := cps_CJ hJ ht hq8 hV1
      have x1 : ∀ m, m < C → 0 ≤ W.1 m → (cps W t (nI q)).1 m = W.1 m := fun m hm h0 => cps_at (fun z => by rw [z] at h0; exact absurd h0 (by decide))
      have hgk : ∀ W' : Nat → Int32, (∀ m, m < C → 0 ≤ W.1 m → W' m = W.1 m) → W' t = nI q → (K k = 7 → W' (E k).toNatClampNeg = nI q) → HGk (VA K E) C W' k := fun W' hx w1 w2 => by
        have e0 : W' k = W.1 k := hx k hk (m1_not hj ej).2
        unfold HGk
        show ¬ W' k - r_tb (K k) < 0 ∧ ¬ 8 < W' k - r_tb (K k) + r_gb (K k) ∧ ¬ (K k = 9 ∧ 0 < W' k - r_tb (K k)) ∧ ∀ w, w < 2 → r_nx (VA K E) k (nI w) < 0 ∨ ∃ t, t < C ∧ r_nx (VA K E) k (nI w) = nI t ∧ W' t = W' k - r_tb (K k) + r_gb (K k)
        rw [e0]
        refine ⟨fun z => b1 (by rw [ej] at z ⊢; exact (tb_lt hj _).mpr z), b2, fun z => c9 z.1, fun w hw => ?_⟩
        obtain rfl | rfl : w = 0 ∨ w = 1 := by omega
        · exact Or.inr ⟨t, ht, en, by rw [w1, hq]⟩
        · by_cases c7 : K k = 7
          · have ht7 := pl_t hp hC hk (Or.inl c7)
            exact Or.inr ⟨_, ht7.1, by rw [nx_1, if_pos c7]; exact ht7.2, by rw [w2 c7, hq]⟩
          · exact Or.inl (by rw [nx_1, if_neg c7]; decide)
      by_cases d1 : (cps W t (nI q)).1 t = nI q
      · rw [if_neg (fun z => z d1)]
        by_cases c7 : K k = 7
        · rw [if_pos c7]
          have ht7 := pl_t hp hC hk (Or.inl c7)
          have J2 := cps_CJ J1 ht7.1 hq8 (hV2 c7)
          have x2 : ∀ m, m < C → 0 ≤ W.1 m → (cps (cps W t (nI q)) (E k).toNatClampNeg (nI q)).1 m = W.1 m := fun m hm h0 => by
            rw [cps_at (by rw [x1 m hm h0]; intro z; rw [z] at h0; exact absurd h0 (by decide)), x1 m hm h0]
          refine ⟨fun h => ⟨J2, hgk _ x2 ?_ (fun _ => of_decide_eq_true h), x2, fun i hi => ?_⟩, fun h V hv => ?_⟩
          · show (cps (cps W t (nI q)) (E k).toNatClampNeg (nI q)).1 t = nI q
            rw [cps_at (m1_not hq8 d1).1]; exact d1
          · have z1 := cps_qu (W := W) (t := t) (h := nI q) hi
            have z2 := cps_qu (W := cps W t (nI q)) (t := (E k).toNatClampNeg) (h := nI q) z1.1
            exact ⟨z2.1, z2.2.trans z1.2⟩
          · have h : ¬ (cps (cps W t (nI q)) (E k).toNatClampNeg (nI q)).1 (E k).toNatClampNeg = nI q := of_decide_eq_false h
            by_cases y : (cps W t (nI q)).1 (E k).toNatClampNeg = -1
            · exact h (by rw [cps, if_pos y]; exact upd_at _ _ _)
            · rw [cps_at y] at h
              have z := J1.2.2.2.2 V hv _ ht7.1 (by rcases J1.1.2 _ ht7.1 with u | ⟨u, hu, eu⟩; exact absurd u y; exact (m1_not hu eu).2)
              exact h (z.symm.trans (hV2 c7 V hv))
        · rw [if_neg c7]
          exact ⟨fun _ => ⟨J1, hgk _ x1 d1 (fun z => absurd z c7), x1, fun i hi => cps_qu hi⟩, fun h => absurd h (by simp)⟩
      · rw [if_pos d1]
        refine ⟨fun h => absurd h (by simp), fun _ V hv => ?_⟩
        by_cases y : W.1 t = -1
        · exact d1 (by rw [cps, if_pos y]; exact upd_at _ _ _)
        · rw [cps_at y] at d1
          have z := hJ.2.2.2.2 V hv _ ht (by rcases hJ.1.2 _ ht with u | ⟨u, hu, eu⟩; exact absurd u y; exact (m1_not hu eu).2)
          exact d1 (z.symm.trans (hV1 V hv))
/-- what waysFit leaves -/
def WQ (n : Nat) (f : sw_F) (s : Nat → Int32) (A : Nat → Nat → Int32) (B : Nat → Nat → Int64) (o : Int64) (pr : Value) (C : Nat) : sw_Q := fun r n' f' => n' = n ∧ ∃ b W, r = some (.int (bz b)) ∧ f' = gd f (hwS s W) (hwA A W) B o pr ∧ (b = true → HL (VA (A 29) (A 30)) C W.1 ∧ W.2.2 + unh W.1 C = C ∧ W.2.2 ≤ 100) ∧ (b = false → ∀ V, ¬ HG (VA (A 29) (A 30)) C V)
set_option maxRecDepth 100000 in
theorem l_X10_wf {l : Launch} {D : va_G} {cy : Nat → ClassId} {d n : Nat} {f : sw_F} {s : Nat → Int32} {A : Nat → Nat → Int32} {B : Nat → Nat → Int64} {o : Int64} {pr : Value} (hd : 3 ≤ d) {C : Nat} (hC : s 12 = nI C) (hCb : C ≤ 100) (hp : PL (VA (A 29) (A 30)) C) {QX : sw_QX} : ∀ (c i : Nat) (W : CW), i + c = 101 → i ≤ W.2.2 → CJ (VA (A 29) (A 30)) C W → (∀ j, j < i → ∀ m, m < C → W.2.1 j = nI m → HGk (VA (A 29) (A 30)) C W.1 m) → SW l D cy mX10_waysFit d 0 0 0 0 42 [(0, .ref 31), (1, .int (nI i))] [] n (gd f (hwS s W) (hwA A W) B o pr) (WQ n f s A B o pr C) QX := by
  intro c
  induction c with
  | zero =>
    intro i W hi hr hJ hd2
    have := hJ.1.1
    have := unh_le W.1 C
    omega
  | succ c ih =>
    intro i W hi hr hJ hd2
    have hr100 : W.2.2 ≤ 100 := by have := hJ.1.1; omega
    have fin : W.2.2 ≤ i → HL (VA (A 29) (A 30)) C W.1 := fun h => by
      have hi2 : i = W.2.2 := by omega
      refine ⟨⟨hJ.2.1, fun k hk h0 => ?_⟩, hJ.1.2, hJ.2.2.2.2⟩
      obtain ⟨j, hj, e⟩ := hJ.2.2.2.1 k hk h0
      exact hd2 j (by omega) k hk e
    refine sw_iload_n dX10_waysFit_42 rfl ?_
    refine sw_bipush (x := 100) dX10_waysFit_43 (by decide) ?_
    refine sw_top nl_100 ?_
    refine sw_icmp_ge 77 dX10_waysFit_45 (by decide) (fun h45 => ?_) (fun h45 => ?_)
    · refine sw_iconst (x := 1) dX10_waysFit_77 (by decide) ?_
      exact sw_iret dX10_waysFit_78 rfl (by first | rfl | exact bz_n _) (by omega) (by omega) ⟨rfl, true, W, rfl, rfl, fun _ => ⟨fin (by have := (nI_leI (by omega) (by omega)).mp h45; omega), hJ.1.1, hr100⟩, fun h => absurd h (by simp)⟩
    · refine sw_iload_n dX10_waysFit_48 rfl ?_
      refine sw_aload_n dX10_waysFit_49 rfl (by first | rfl | assumption) ?_
      refine sw_get dX10_waysFit_50 fr_X10_22 rfl rfl ?_
      refine sw_top (y := nI W.2.2) rfl ?_
      refine sw_icmp_ge 77 dX10_waysFit_53 (by decide) (fun h53 => ?_) (fun h53 => ?_)
      · refine sw_iconst (x := 1) dX10_waysFit_77 (by decide) ?_
        exact sw_iret dX10_waysFit_78 rfl (by first | rfl | exact bz_n _) (by omega) (by omega) ⟨rfl, true, W, rfl, rfl, fun _ => ⟨fin ((nI_leI (by omega) (by omega)).mp h53), hJ.1.1, hr100⟩, fun h => absurd h (by simp)⟩
      · have e1 : i < W.2.2 := (nI_ltI (by omega) (by omega)).mp (i32_nle.mp h53)
        obtain ⟨k, j, hk, ek, hj, ej⟩ := hJ.2.2.1 i e1
        have sp := cgw_sp hCb hp hJ hk hj ej
        refine sw_aload_n dX10_waysFit_56 rfl (by first | rfl | assumption) ?_
        refine sw_aload_n dX10_waysFit_57 rfl (by first | rfl | assumption) ?_
        refine sw_get dX10_waysFit_58 fr_X10_15 rfl rfl ?_
        refine sw_iload_n dX10_waysFit_61 rfl ?_
        refine sw_ialdN (i) dX10_waysFit_62 rfl rfl (show i < 100 by omega) (by decide) ?_
        refine sw_top (y := nI k) ek ?_
        refine sw_Vv dX10_waysFit_63 k_X10_60 mf_X10_goesOnWell (c_X10_goesOnWell (d := d - 1) (by omega) hC hCb hp W hJ.1 hk ⟨j, hj, ej⟩) rfl ⟨_, rfl, rfl⟩ (by omega) (by omega) (by omega) rfl rfl (Nat.le_of_ble_eq_true rfl) ?_
        refine sw_if_ne 71 dX10_waysFit_66 (by decide) (fun h66 => ?_) (fun h66 => ?_)
        · first | refine sw_inc1 [(0, _), (1, _)] dX10_waysFit_71 rfl (by decide) rfl ?_ | refine sw_iinc [(0, _), (1, _)] dX10_waysFit_71 rfl (by decide) rfl ?_
          refine sw_goto 42 dX10_waysFit_74 (by decide) ?_
          obtain ⟨y1, y2, y3, y4⟩ := sp.1 (bz_ne.mp h66)
          refine ih (i + 1) _ (by omega) (by have := (y4 i e1).1; omega) y1 (fun j' hj' m hm em => ?_)
          by_cases u : j' = i
          · subst u
            rw [(y4 j' e1).2, ek] at em
            obtain rfl := nI_inj (by omega) (by omega) em
            exact y2
          · have hl : j' < W.2.2 := by omega
            rw [(y4 j' hl).2] at em
            obtain ⟨m', h', hm', em', hh', eh'⟩ := hJ.2.2.1 j' hl
            rw [em'] at em
            obtain rfl := nI_inj (by omega) (by omega) em
            exact HGk_x hh' eh' y3 hm (hd2 j' (by omega) m' hm em')
        · refine sw_iconst (x := 0) dX10_waysFit_69 (by decide) ?_
          exact sw_iret dX10_waysFit_70 rfl (by first | rfl | exact bz_n _) (by omega) (by omega) ⟨rfl, false, _, rfl, rfl, fun h => absurd h (by simp), fun _ => sp.2 (bz_0.mp h66)⟩
set_option maxRecDepth 100000 in
theorem l_X10_w0 {l : Launch} {D : va_G} {cy : Nat → ClassId} {d n : Nat} {f : sw_F} {s : Nat → Int32} {A : Nat → Nat → Int32} {B : Nat → Nat → Int64} {o : Int64} {pr : Value} {Q : sw_Q} {QX : sw_QX} (K : SW l D cy mX10_waysFit d 0 0 0 0 21 [(0, .ref 31)] [] n (gd f s (va_up A 32 (fillF (fun _ => -1) (A 32) (100))) B o pr) Q QX) : ∀ (c i : Nat), i ≤ 100 → 100 < i + c → SW l D cy mX10_waysFit d 0 0 0 0 2 [(0, .ref 31), (1, .int (nI i))] [] n (gd f s (va_up A 32 (fillF (fun _ => -1) (A 32) (i))) B o pr) Q QX := by
  intro c
  induction c with
  | zero => intro i h1 h2; exact absurd h2 (by omega)
  | succ c ih =>
    intro i hi hc
    refine sw_iload_n dX10_waysFit_2 rfl ?_
    refine sw_bipush (x := 100) dX10_waysFit_3 (by decide) ?_
    refine sw_top nl_100 ?_
    refine sw_icmp_ge 21 dX10_waysFit_5 (by decide) (fun h5 => ?_) (fun h5 => ?_)
    · refine sw_keep [0] rfl ?_
      obtain rfl : i = 100 := by have := (nI_leI (by omega) (by omega)).mp h5; omega
      exact K
    · have e1 : i < 100 := (nI_ltI (by omega) (by omega)).mp (i32_nle.mp h5)
      refine sw_aload_n dX10_waysFit_8 rfl (by first | rfl | assumption) ?_
      refine sw_get dX10_waysFit_9 fr_X10_9 rfl rfl ?_
      refine sw_iload_n dX10_waysFit_12 rfl ?_
      refine sw_iconst (x := (-1)) dX10_waysFit_13 (by decide) ?_
      refine g_iast (i) dX10_waysFit_14 ⟨by decide, rfl, rfl⟩ rfl (show i < 100 by omega) rfl ?_
      first | refine sw_inc1 [(0, _), (1, _)] dX10_waysFit_15 rfl (by decide) rfl ?_ | refine sw_iinc [(0, _), (1, _)] dX10_waysFit_15 rfl (by decide) rfl ?_
      refine sw_goto 2 dX10_waysFit_18 (by decide) ?_
      refine g_eq (A' := va_up A 32 (fillF (fun _ => -1) (A 32) (i + 1))) rfl ?_ rfl (ih (i + 1) (by omega) (by omega))
      rw [vu_up]
      exact congrArg _ (fill_1 (h := fun _ => -1) rfl)
theorem unh_f : ∀ (c : Nat) (S : Nat → Int32), c ≤ 100 → unh (fillF (fun _ => -1) S 100) c = c
  | 0, S, h => rfl
  | c + 1, S, h => by
    rw [unh, unh_f c S (by omega), fill_lt (by omega), if_pos (by decide)]
theorem W0_CJ {X : Nat → Nat → Int32} {C : Nat} (hC0 : 0 < C) (hC : C ≤ 100) (S Qu : Nat → Int32) : CJ X C (upd (fillF (fun _ => -1) S 100) 0 0, upd Qu 0 0, 1) := by
  have at0 : ∀ k, k < C → upd (fillF (fun _ => -1) S 100) 0 0 k = if k = 0 then 0 else -1 := fun k hk => by
    by_cases c : k = 0
    · subst c; rw [upd_at]; rfl
    · rw [upd_ne _ _ c, fill_lt (by omega), if_neg c]
  have h1 := unh_up (S := fillF (fun _ => -1) S 100) (t := 0) (x := 0) (by decide) (by rw [fill_lt (by omega)]; decide) C hC0
  rw [unh_f C S hC] at h1
  refine ⟨⟨by show 1 + unh (upd (fillF (fun _ => -1) S 100) 0 0) C = C; omega, fun k hk => ?_⟩, show upd (fillF (fun _ => -1) S 100) 0 0 0 = 0 from upd_at _ _ _, fun j hj => ?_, fun k hk h0 => ?_, fun V hv k hk h0 => ?_⟩
  · show upd (fillF (fun _ => -1) S 100) 0 0 k = -1 ∨ ∃ h, h ≤ 8 ∧ upd (fillF (fun _ => -1) S 100) 0 0 k = nI h
    rw [at0 k hk]
    by_cases c : k = 0
    · rw [if_pos c]; exact Or.inr ⟨0, by omega, rfl⟩
    · rw [if_neg c]; exact Or.inl rfl
  · have hj : j < 1 := hj
    obtain rfl : j = 0 := by omega
    exact ⟨0, 0, hC0, show upd Qu 0 0 0 = 0 from upd_at _ _ _, by omega, show upd (fillF (fun _ => -1) S 100) 0 0 0 = 0 from upd_at _ _ _⟩
  · have h0 : 0 ≤ upd (fillF (fun _ => -1) S 100) 0 0 k := h0
    rw [at0 k hk] at h0
    by_cases c : k = 0
    · subst c; exact ⟨0, Nat.zero_lt_one, show upd Qu 0 0 0 = 0 from upd_at _ _ _⟩
    · rw [if_neg c] at h0; exact absurd h0 (by decide)
  · have h0 : 0 ≤ upd (fillF (fun _ => -1) S 100) 0 0 k := h0
    rw [at0 k hk] at h0
    by_cases c : k = 0
    · subst c
      show V 0 = upd (fillF (fun _ => -1) S 100) 0 0 0
      rw [upd_at]; exact hv.1
    · rw [if_neg c] at h0; exact absurd h0 (by decide)
set_option maxRecDepth 100000 in
theorem c_X10_waysFit {l : Launch} {D : va_G} {cy : Nat → ClassId} {d n : Nat} {f : sw_F} {s : Nat → Int32} {A : Nat → Nat → Int32} {B : Nat → Nat → Int64} {o : Int64} {pr : Value} (hd : 3 ≤ d) {C : Nat} (hC : s 12 = nI C) (hCb : C ≤ 100) (hp : PL (VA (A 29) (A 30)) C) : sw_Ct l D cy mX10_waysFit d 0 0 [.ref 31] n (gd f s A B o pr) (WQ n f s A B o pr C) := by
  refine sw_of rfl (Nat.le_of_ble_eq_true rfl) ?_
  show SW l D cy mX10_waysFit d 0 0 0 0 0 [(0, .ref 31)] [] n (gd f s A B o pr) _ _
  refine sw_iconst (x := 0) dX10_waysFit_0 (by decide) ?_
  refine sw_istore_n [(0, _), (1, _)] dX10_waysFit_1 (by decide) rfl ?_
  refine g_eq (A' := va_up A 32 (fillF (fun _ => -1) (A 32) 0)) rfl (by rw [fill_0, vu_id]) rfl ?_
  refine l_X10_w0 ?_ 101 0 (by omega) (by omega)
  refine sw_aload_n dX10_waysFit_21 rfl (by first | rfl | assumption) ?_
  refine sw_get dX10_waysFit_22 fr_X10_9 rfl rfl ?_
  refine sw_iconst (x := 0) dX10_waysFit_25 (by decide) ?_
  refine sw_iconst (x := 0) dX10_waysFit_26 (by decide) ?_
  refine g_iast (0) dX10_waysFit_27 ⟨by decide, rfl, rfl⟩ rfl (show 0 < 100 by omega) rfl ?_
  refine sw_aload_n dX10_waysFit_28 rfl (by first | rfl | assumption) ?_
  refine sw_get dX10_waysFit_29 fr_X10_15 rfl rfl ?_
  refine sw_iconst (x := 0) dX10_waysFit_32 (by decide) ?_
  refine sw_iconst (x := 0) dX10_waysFit_33 (by decide) ?_
  refine g_iast (0) dX10_waysFit_34 ⟨by decide, rfl, rfl⟩ rfl (show 0 < 100 by omega) rfl ?_
  refine sw_aload_n dX10_waysFit_35 rfl (by first | rfl | assumption) ?_
  refine sw_iconst (x := 1) dX10_waysFit_36 (by decide) ?_
  refine g_put 13 dX10_waysFit_37 fl_X10_22 rfl ⟨by decide, rfl⟩ rfl (Nat.le_of_ble_eq_true rfl) (sw_fit_i _) rfl ?_
  refine sw_iconst (x := 0) dX10_waysFit_40 (by decide) ?_
  refine sw_istore_n [(0, _), (1, _)] dX10_waysFit_41 (by decide) rfl ?_
  refine g_eq (s' := hwS s ((upd (fillF (fun _ => -1) (A 32) 100) 0 0, upd (A 33) 0 0, 1) : CW)) (A' := hwA A ((upd (fillF (fun _ => -1) (A 32) 100) 0 0, upd (A 33) 0 0, 1) : CW)) rfl (by rw [vu_up]; rfl) rfl ?_
  exact l_X10_wf hd hC hCb hp 101 0 ((upd (fillF (fun _ => -1) (A 32) 100) 0 0, upd (A 33) 0 0, 1) : CW) (by omega) (by omega) (W0_CJ hp.1 hCb _ _) (fun j hj => absurd hj (by omega))
