/-! ===== THE CLASS: Shape, the ends ===== -/
theorem i32_m1 (x : Int32) : x + Int32.ofInt (-1) = x - 1 := by rw [Int32.sub_eq_add_neg]; rfl
theorem sw_dec0 {EE : sw_E} {l : Launch} {D : va_G} {cy : Nat → ClassId} {M : sw_MD} {d mc ms cells slots pc : Nat} {L : sw_L} {st : List Value} {n : Nat} {f : sw_F} {Q : sw_Q} {QX : sw_QX} {i : Nat} {x : Int32} (L' : sw_L) (hd : decode M.2.1 pc = .ok (.iinc i (-1), 3)) (hv : L.lookup i = some (.int x)) (hi : i < M.2.2.1) (he : sw_in i (.int (x - 1)) (L.filter (sw_p1 i)) = L') (k : SWr EE l D cy M d mc ms cells slots (pc + 3) L' st n f Q QX) : SWr EE l D cy M d mc ms cells slots pc L st n f Q QX := by
  refine sw_iinc L' hd hv hi ?_ k
  rw [i32_m1]
  exact he
theorem cnw_r {K E : Nat → Int32} {k w : Nat} (hk : k < 100) (hw : w < 2) : cnw K E (nI k) (nI w) = r_nx (VA K E) k (nI w) := by
  unfold cnw
  rw [nI_clamp (by omega)]
  obtain rfl | rfl : w = 0 ∨ w = 1 := by omega
  · rw [nx_0]
    by_cases c9 : K k = 9
    · rw [if_pos c9, if_neg (fun q => q.2.2 c9), if_neg (fun q => q.elim (fun z => absurd (c9.symm.trans z.2) (by decide)) (fun z => absurd z.1 (by decide)))]
    · rw [if_neg c9]
      by_cases c8 : K k = 8
      · rw [if_pos c8, if_neg (fun q => q.2.1 c8), if_pos (Or.inl ⟨rfl, c8⟩)]
      · rw [if_neg c8, if_pos ⟨rfl, c8, c9⟩, nI_1]
  · rw [nx_1, if_neg (fun q => absurd q.1 (by decide))]
    by_cases c7 : K k = 7
    · rw [if_pos c7, if_pos (Or.inr ⟨rfl, c7⟩)]
    · rw [if_neg c7, if_neg (fun q => q.elim (fun z => absurd z.1 (by decide)) (fun z => c7 z.2))]
/-- the next one, if it is in the code -/
theorem cnx_r {s : Nat → Int32} {K E : Nat → Int32} {C k w : Nat} (hC : s 12 = nI C) (hCb : C ≤ 100) (hk : k < C) (hw : w < 2) : (cnx s K E (nI k) (nI w) = -1 ∧ ∀ t, t < C → ¬ r_nx (VA K E) k (nI w) = nI t) ∨ ∃ t, t < C ∧ cnx s K E (nI k) (nI w) = nI t ∧ r_nx (VA K E) k (nI w) = nI t := by
  unfold cnx
  rw [if_pos (chs_n hC hCb hk), cnw_r (by omega) hw]
  by_cases c : chs s (r_nx (VA K E) k (nI w)) = true
  · rw [if_pos c]
    obtain ⟨t, ht, e⟩ := chs_i hC hCb c
    exact Or.inr ⟨t, ht, e, e⟩
  · rw [if_neg c]
    refine Or.inl ⟨rfl, fun t ht e => c (by rw [e]; exact chs_n hC hCb ht)⟩
def ced (s : Nat → Int32) (S : Nat → Int32) (a : Int32) : Bool := chs s a && decide (¬ S a.toNatClampNeg = 0)
theorem ced_m1 {s S : Nat → Int32} : ced s S (-1) = false := by rw [ced, chs_m1]; rfl
theorem ced_n {s S : Nat → Int32} {C t : Nat} (hC : s 12 = nI C) (hCb : C ≤ 100) (ht : t < C) : ced s S (nI t) = decide (¬ S t = 0) := by
  rw [ced, chs_n hC hCb ht, nI_clamp (by omega)]; rfl
theorem ced_x {s S : Nat → Int32} {K E : Nat → Int32} {C k w : Nat} (hC : s 12 = nI C) (hCb : C ≤ 100) (hk : k < C) (hw : w < 2) : ced s S (cnx s K E (nI k) (nI w)) = true ↔ ∃ t, t < C ∧ r_nx (VA K E) k (nI w) = nI t ∧ ¬ S t = 0 := by
  rcases cnx_r (K := K) (E := E) hC hCb hk hw with ⟨e, h⟩ | ⟨t, ht, e, h⟩
  · rw [e, ced_m1]
    exact ⟨fun q => absurd q (by decide), fun ⟨t, ht, e, _⟩ => absurd e (h t ht)⟩
  · rw [e, ced_n hC hCb ht]
    constructor
    · intro q; exact ⟨t, ht, h, of_decide_eq_true q⟩
    · intro ⟨t', ht', e', q⟩
      obtain rfl := nI_inj (by omega) (by omega) (h.symm.trans e')
      exact decide_eq_true q
set_option maxRecDepth 100000 in
theorem c_X10_isEnding {l : Launch} {D : va_G} {cy : Nat → ClassId} {d n : Nat} {f : sw_F} {s : Nat → Int32} {A : Nat → Nat → Int32} {B : Nat → Nat → Int64} {o : Int64} {pr : Value} (hd : 1 ≤ d) {C : Nat} (hC : s 12 = nI C) (hCb : C ≤ 100) (a : Int32) : sw_Ct l D cy mX10_isEnding d 0 0 [.ref 31, .int a] n (gd f s A B o pr) (sw_D (some (.int (bz (ced s (A 34) a)))) n (gd f s A B o pr)) := by
  refine sw_of rfl (Nat.le_of_ble_eq_true rfl) ?_
  show SW l D cy mX10_isEnding d 0 0 0 0 0 [(0, .ref 31), (1, .int a)] [] n (gd f s A B o pr) _ _
  refine sw_aload_n dX10_isEnding_0 rfl (by first | rfl | assumption) ?_
  refine sw_get dX10_isEnding_1 fr_X10_26 rfl rfl ?_
  refine sw_iload_n dX10_isEnding_4 rfl ?_
  refine sw_Vv dX10_isEnding_5 k_X10_46 mf_X0_has (c_X0_has (d := d - 1) _) rfl ⟨_, rfl, rfl⟩ (by omega) (by omega) (by omega) rfl rfl (Nat.le_of_ble_eq_true rfl) ?_
  refine sw_if_eq 24 dX10_isEnding_8 (by decide) (fun h8 => ?_) (fun h8 => ?_)
  · refine sw_iconst (x := 0) dX10_isEnding_24 (by decide) ?_
    exact sw_iret dX10_isEnding_25 rfl (by first | rfl | exact bz_n _) (by omega) (by omega) ⟨by rw [ced, bz_0.mp h8]; rfl, rfl, rfl⟩
  · obtain ⟨i, hi, rfl⟩ := chs_i hC hCb (bz_ne.mp h8)
    refine sw_aload_n dX10_isEnding_11 rfl (by first | rfl | assumption) ?_
    refine sw_get dX10_isEnding_12 fr_X10_18 rfl rfl ?_
    refine sw_iload_n dX10_isEnding_15 rfl ?_
    refine sw_zaldN (i) dX10_isEnding_16 rfl rfl (show i < 100 by omega) (by decide) ?_
    refine sw_top (y := A 34 i) rfl ?_
    refine sw_if_eq 24 dX10_isEnding_17 (by decide) (fun h17 => ?_) (fun h17 => ?_)
    · refine sw_iconst (x := 0) dX10_isEnding_24 (by decide) ?_
      exact sw_iret dX10_isEnding_25 rfl (by first | rfl | exact bz_n _) (by omega) (by omega) ⟨by rw [ced, bz_ne.mp h8, nI_clamp (by omega), decide_eq_false (fun q => q h17)]; rfl, rfl, rfl⟩
    · refine sw_iconst (x := 1) dX10_isEnding_20 (by decide) ?_
      refine sw_goto 25 dX10_isEnding_21 (by decide) ?_
      exact sw_iret dX10_isEnding_25 rfl (by first | rfl | exact bz_n _) (by omega) (by omega) ⟨by rw [ced, bz_ne.mp h8, nI_clamp (by omega), decide_eq_true h17]; rfl, rfl, rfl⟩
def cce (s : Nat → Int32) (A : Nat → Nat → Int32) (k : Nat) : Bool := decide (A 29 k = 9) || (ced s (A 34) (cnx s (A 29) (A 30) (nI k) 0) || ced s (A 34) (cnx s (A 29) (A 30) (nI k) 1))
set_option maxRecDepth 100000 in
theorem c_X10_canEnd {l : Launch} {D : va_G} {cy : Nat → ClassId} {d n : Nat} {f : sw_F} {s : Nat → Int32} {A : Nat → Nat → Int32} {B : Nat → Nat → Int64} {o : Int64} {pr : Value} (hd : 2 ≤ d) {C : Nat} (hC : s 12 = nI C) (hCb : C ≤ 100) {k : Nat} (hk : k < C) : sw_Ct l D cy mX10_canEnd d 0 0 [.ref 31, .int (nI k)] n (gd f s A B o pr) (sw_D (some (.int (bz (cce s A k)))) n (gd f s A B o pr)) := by
  refine sw_of rfl (Nat.le_of_ble_eq_true rfl) ?_
  show SW l D cy mX10_canEnd d 0 0 0 0 0 [(0, .ref 31), (1, .int (nI k))] [] n (gd f s A B o pr) _ _
  refine sw_aload_n dX10_canEnd_0 rfl (by first | rfl | assumption) ?_
  refine sw_get dX10_canEnd_1 fr_X10_26 rfl rfl ?_
  refine sw_iload_n dX10_canEnd_4 rfl ?_
  refine sw_Vv dX10_canEnd_5 k_X10_50 mf_X0_kindAt (c_X0_kindAt (d := d - 1) (by omega) hC hCb _) rfl ⟨_, rfl, rfl⟩ (by omega) (by omega) (by omega) rfl rfl (Nat.le_of_ble_eq_true rfl) ?_
  refine sw_top (y := A 29 k) (cat_n hC hCb hk) ?_
  refine sw_bipush (x := 9) dX10_canEnd_8 (by decide) ?_
  refine sw_icmp_eq 45 dX10_canEnd_10 (by decide) (fun h10 => ?_) (fun h10 => ?_)
  · refine sw_iconst (x := 1) dX10_canEnd_45 (by decide) ?_
    refine sw_goto 50 dX10_canEnd_46 (by decide) ?_
    exact sw_iret dX10_canEnd_50 rfl (by first | rfl | exact bz_n _) (by omega) (by omega) ⟨by rw [cce, decide_eq_true h10]; rfl, rfl, rfl⟩
  · refine sw_aload_n dX10_canEnd_13 rfl (by first | rfl | assumption) ?_
    refine sw_aload_n dX10_canEnd_14 rfl (by first | rfl | assumption) ?_
    refine sw_get dX10_canEnd_15 fr_X10_26 rfl rfl ?_
    refine sw_iload_n dX10_canEnd_18 rfl ?_
    refine sw_iconst (x := 0) dX10_canEnd_19 (by decide) ?_
    refine sw_Vv dX10_canEnd_20 k_X10_69 mf_X0_nextOf (c_X0_nextOf (d := d - 1) (by omega) hC hCb (nI k) 0) rfl ⟨_, rfl, rfl⟩ (by omega) (by omega) (by omega) rfl rfl (Nat.le_of_ble_eq_true rfl) ?_
    refine sw_Vv dX10_canEnd_23 k_X10_86 mf_X10_isEnding (c_X10_isEnding (d := d - 1) (by omega) hC hCb _) rfl ⟨_, rfl, rfl⟩ (by omega) (by omega) (by omega) rfl rfl (Nat.le_of_ble_eq_true rfl) ?_
    refine sw_if_ne 45 dX10_canEnd_26 (by decide) (fun h26 => ?_) (fun h26 => ?_)
    · refine sw_iconst (x := 1) dX10_canEnd_45 (by decide) ?_
      refine sw_goto 50 dX10_canEnd_46 (by decide) ?_
      exact sw_iret dX10_canEnd_50 rfl (by first | rfl | exact bz_n _) (by omega) (by omega) ⟨by rw [cce, decide_eq_false h10, bz_ne.mp h26]; rfl, rfl, rfl⟩
    · refine sw_aload_n dX10_canEnd_29 rfl (by first | rfl | assumption) ?_
      refine sw_aload_n dX10_canEnd_30 rfl (by first | rfl | assumption) ?_
      refine sw_get dX10_canEnd_31 fr_X10_26 rfl rfl ?_
      refine sw_iload_n dX10_canEnd_34 rfl ?_
      refine sw_iconst (x := 1) dX10_canEnd_35 (by decide) ?_
      refine sw_Vv dX10_canEnd_36 k_X10_69 mf_X0_nextOf (c_X0_nextOf (d := d - 1) (by omega) hC hCb (nI k) 1) rfl ⟨_, rfl, rfl⟩ (by omega) (by omega) (by omega) rfl rfl (Nat.le_of_ble_eq_true rfl) ?_
      refine sw_Vv dX10_canEnd_39 k_X10_86 mf_X10_isEnding (c_X10_isEnding (d := d - 1) (by omega) hC hCb _) rfl ⟨_, rfl, rfl⟩ (by omega) (by omega) (by omega) rfl rfl (Nat.le_of_ble_eq_true rfl) ?_
      refine sw_if_eq 49 dX10_canEnd_42 (by decide) (fun h42 => ?_) (fun h42 => ?_)
      · refine sw_iconst (x := 0) dX10_canEnd_49 (by decide) ?_
        exact sw_iret dX10_canEnd_50 rfl (by first | rfl | exact bz_n _) (by omega) (by omega) ⟨by rw [cce, decide_eq_false h10, bz_0.mp h26, bz_0.mp h42]; rfl, rfl, rfl⟩
      · refine sw_iconst (x := 1) dX10_canEnd_45 (by decide) ?_
        refine sw_goto 50 dX10_canEnd_46 (by decide) ?_
        exact sw_iret dX10_canEnd_50 rfl (by first | rfl | exact bz_n _) (by omega) (by omega) ⟨by rw [cce, decide_eq_false h10, bz_0.mp h26, bz_ne.mp h42]; rfl, rfl, rfl⟩
theorem unm_0 {S : Nat → Int32} {t : Nat} {x : Int32} : ∀ c, c ≤ t → unm (upd S t x) c = unm S c
  | 0, _ => rfl
  | c + 1, h => by rw [unm, unm, unm_0 c (by omega), upd_ne _ _ (by omega)]
theorem unm_1 {S : Nat → Int32} {t : Nat} {x : Int32} (hx : ¬ x = 0) (h0 : S t = 0) : ∀ c, t < c → unm (upd S t x) c + 1 = unm S c
  | 0, h => absurd h (by omega)
  | c + 1, h => by
    rw [unm, unm]
    by_cases e : c = t
    · subst e
      rw [unm_0 c (Nat.le_refl c), upd_at, if_neg hx, if_pos h0]
    · rw [upd_ne _ _ e]
      have := unm_1 hx h0 c (by omega)
      omega
theorem unh_unm {W S : Nat → Int32} : ∀ c, (∀ k, k < c → W k < 0 → S k = 0) → unh W c ≤ unm S c ∧ (unh W c = unm S c → ∀ k, k < c → S k = 0 → W k < 0)
  | 0, h => ⟨Nat.le_refl 0, fun _ k hk => absurd hk (by omega)⟩
  | c + 1, h => by
    obtain ⟨i1, i2⟩ := unh_unm c (fun k hk => h k (by omega))
    rw [unh, unm]
    by_cases a : W c < 0
    · rw [if_pos a, if_pos (h c (by omega) a)]
      refine ⟨by omega, fun e k hk hs => ?_⟩
      by_cases z : k = c
      · subst z; exact a
      · exact i2 (by omega) k (by omega) hs
    · rw [if_neg a]
      by_cases b : S c = 0
      · rw [if_pos b]
        exact ⟨by omega, fun e => absurd e (by omega)⟩
      · rw [if_neg b]
        refine ⟨by omega, fun e k hk hs => ?_⟩
        by_cases z : k = c
        · subst z; exact absurd hs b
        · exact i2 (by omega) k (by omega) hs
/-- what is marked comes to an end -/
def EM (X : Nat → Nat → Int32) (C : Nat) (W S : Nat → Int32) : Prop := ∀ k, k < C → ¬ S k = 0 → 0 ≤ W k ∧ CE X C k (-1)
/-- k could not be marked -/
def EC (X : Nat → Nat → Int32) (C : Nat) (W S : Nat → Int32) (k : Nat) : Prop := 0 ≤ W k → S k = 0 → ¬ X 176 k = 9 ∧ ∀ w, w < 2 → ∀ t, t < C → r_nx X k (nI w) = nI t → S t = 0
theorem CE_9 {X : Nat → Nat → Int32} {C k : Nat} (hk : k < C) (hC : C ≤ 100) (h : X 176 k = 9) : CE X C k (-1) := ⟨fun q => absurd (show nI k < 0 by rw [q]; decide) (i32_nlt0 (by omega)), fun T h1 _ => ⟨k, hk, h1, h⟩⟩
theorem CE_n {X : Nat → Nat → Int32} {C k w t : Nat} (hk : k < C) (hC : C ≤ 100) (hw : w < 2) (ht : t < C) (e : r_nx X k (nI w) = nI t) (h : CE X C t (-1)) : CE X C k (-1) := ⟨fun q => absurd (show nI k < 0 by rw [q]; decide) (i32_nlt0 (by omega)), fun T h1 h2 => h.2 T (h2 k hk h1 w hw t ht e h.1) h2⟩
theorem EC_end {X : Nat → Nat → Int32} {C : Nat} {W S : Nat → Int32} (hW : HL X C W) (hC : C ≤ 100) (h : ∀ k, k < C → EC X C W S k) {k : Nat} (hk : k < C) (h0 : 0 ≤ W k) (hs : S k = 0) : ¬ CE X C k (-1) := by
  intro ce
  obtain ⟨e, he, ⟨e1, e2⟩, e9⟩ := ce.2 (fun m => 0 ≤ W m ∧ S m = 0) ⟨h0, hs⟩ (fun m hm ⟨m0, ms⟩ w hw t ht et _ => by
    refine ⟨?_, (h m hm m0 ms).2 w hw t ht et⟩
    rcases (HL_RC hW m ⟨hm, m0⟩).2 w hw with z | ⟨t', ⟨ht', z0⟩, z⟩
    · rw [et] at z; exact absurd z (i32_nlt0 (by omega))
    · obtain rfl := nI_inj (by omega) (by omega) (et.symm.trans z)
      exact z0)
  exact (h e he e1 e2).1 e9
set_option maxRecDepth 100000 in
theorem l_X10_fe {l : Launch} {D : va_G} {cy : Nat → ClassId} {d n : Nat} {f : sw_F} {s : Nat → Int32} {A : Nat → Nat → Int32} {B : Nat → Nat → Int64} {o : Int64} {pr : Value} (hd : 3 ≤ d) {C : Nat} (hC : s 12 = nI C) (hCb : C ≤ 100) (hW : HL (VA (A 29) (A 30)) C (A 32)) {S : Nat → Int32} {QX : sw_QX} : ∀ (k c : Nat) (S' : Nat → Int32), k ≤ C → c ≤ 100 → EM (VA (A 29) (A 30)) C (A 32) S' → c + unm S' C = unm S C → (c = 0 → ∀ j, k ≤ j → j < C → EC (VA (A 29) (A 30)) C (A 32) S' j) → SW l D cy mX10_findEnding d 0 0 0 0 12 [(0, .ref 31), (1, .int (nI (c))), (2, .int (nI (k) - 1))] [] n (gd f s (va_up A 34 S') B o pr) (fun r n' f' => n' = n ∧ ∃ c S', r = some (.int (nI c)) ∧ f' = (gd f s (va_up A 34 S') B o pr) ∧ EM (VA (A 29) (A 30)) C (A 32) S' ∧ c + unm S' C = unm S C ∧ (c = 0 → ∀ k, k < C → EC (VA (A 29) (A 30)) C (A 32) S' k)) QX := by
  intro k
  induction k with
  | zero =>
    intro c S' hk hc hE hu hz
    refine sw_iload_n dX10_findEnding_12 rfl ?_
    refine sw_top (y := -1) (by decide) ?_
    refine sw_if_lt 59 dX10_findEnding_13 (by decide) (fun h13 => ?_) (fun h13 => ?_)
    · refine sw_iload_n dX10_findEnding_59 rfl ?_
      exact sw_iret dX10_findEnding_60 rfl (by first | rfl | exact bz_n _) (by omega) (by omega) ⟨rfl, c, S', rfl, rfl, hE, hu, fun h j hj => hz h j (Nat.zero_le j) hj⟩
    · exact absurd nlt_m1 h13
  | succ k ih =>
    intro c S' hk hc hE hu hz
    rw [nI_pred]
    have hun := unm_le S C
    have dc : ∀ (c' : Nat) (S'' : Nat → Int32), c' ≤ 100 → EM (VA (A 29) (A 30)) C (A 32) S'' → c' + unm S'' C = unm S C → (c' = 0 → ∀ j, k ≤ j → j < C → EC (VA (A 29) (A 30)) C (A 32) S'' j) → SW l D cy mX10_findEnding d 0 0 0 0 53 [(0, .ref 31), (1, .int (nI c')), (2, .int (nI k))] [] n (gd f s (va_up A 34 S'') B o pr) (fun r n' f' => n' = n ∧ ∃ c S', r = some (.int (nI c)) ∧ f' = (gd f s (va_up A 34 S') B o pr) ∧ EM (VA (A 29) (A 30)) C (A 32) S' ∧ c + unm S' C = unm S C ∧ (c = 0 → ∀ k, k < C → EC (VA (A 29) (A 30)) C (A 32) S' k)) QX := fun c' S'' h1 h2 h3 h4 => by
      refine sw_dec0 [(0, _), (1, _), (2, .int (nI k - 1))] dX10_findEnding_53 rfl (by decide) rfl ?_
      refine sw_goto 12 dX10_findEnding_56 (by decide) ?_
      exact ih c' S'' (by omega) h1 h2 h3 h4
    refine sw_iload_n dX10_findEnding_12 rfl ?_
    refine sw_if_lt 59 dX10_findEnding_13 (by decide) (fun h13 => ?_) (fun h13 => ?_)
    · exact absurd h13 (i32_nlt0 (by omega))
    · refine sw_aload_n dX10_findEnding_16 rfl (by first | rfl | assumption) ?_
      refine sw_get dX10_findEnding_17 fr_X10_9 rfl rfl ?_
      refine sw_iload_n dX10_findEnding_20 rfl ?_
      refine sw_ialdN (k) dX10_findEnding_21 rfl rfl (show k < 100 by omega) (by decide) ?_
      refine sw_top (y := A 32 k) rfl ?_
      refine sw_iconst (x := (-1)) dX10_findEnding_22 (by decide) ?_
      refine sw_icmp_eq 53 dX10_findEnding_23 (by decide) (fun h23 => ?_) (fun h23 => ?_)
      · refine dc c S' hc hE hu (fun h j h1 h2 => ?_)
        by_cases u : j = k
        · subst u
          intro a0 _
          rw [h23] at a0
          exact absurd a0 (by decide)
        · exact hz h j (by omega) h2
      · refine sw_aload_n dX10_findEnding_26 rfl (by first | rfl | assumption) ?_
        refine sw_get dX10_findEnding_27 fr_X10_18 rfl rfl ?_
        refine sw_iload_n dX10_findEnding_30 rfl ?_
        refine sw_zaldN (k) dX10_findEnding_31 rfl rfl (show k < 100 by omega) (by decide) ?_
        refine sw_top (y := S' k) rfl ?_
        refine sw_if_ne 53 dX10_findEnding_32 (by decide) (fun h32 => ?_) (fun h32 => ?_)
        · refine dc c S' hc hE hu (fun h j h1 h2 => ?_)
          by_cases u : j = k
          · subst u
            intro _ a1
            exact absurd a1 h32
          · exact hz h j (by omega) h2
        · refine sw_aload_n dX10_findEnding_35 rfl (by first | rfl | assumption) ?_
          refine sw_iload_n dX10_findEnding_36 rfl ?_
          refine sw_Vv dX10_findEnding_37 k_X10_83 mf_X10_canEnd (c_X10_canEnd (d := d - 1) (A := va_up A 34 S') (by omega) hC hCb (show k < C by omega)) rfl ⟨_, rfl, rfl⟩ (by omega) (by omega) (by omega) rfl rfl (Nat.le_of_ble_eq_true rfl) ?_
          refine sw_if_eq 53 dX10_findEnding_40 (by decide) (fun h40 => ?_) (fun h40 => ?_)
          · refine dc c S' hc hE hu (fun h j h1 h2 => ?_)
            by_cases u : j = k
            · subst u
              intro a0 a1
              have hce := bz_0.mp h40
              unfold cce at hce
              rw [Bool.or_eq_false_iff, Bool.or_eq_false_iff] at hce
              refine ⟨of_decide_eq_false hce.1, fun w hw t ht et => ?_⟩
              have no : ced s S' (cnx s (A 29) (A 30) (nI j) (nI w)) = false := by
                obtain rfl | rfl : w = 0 ∨ w = 1 := by omega
                · exact hce.2.1
                · exact hce.2.2
              by_cases y : S' t = 0
              · exact y
              · exact absurd ((ced_x (K := A 29) (E := A 30) hC hCb (show j < C by omega) hw).mpr ⟨t, ht, et, y⟩) (by rw [no]; decide)
            · exact hz h j (by omega) h2
          · have hce := bz_ne.mp h40
            refine sw_aload_n dX10_findEnding_43 rfl (by first | rfl | assumption) ?_
            refine sw_get dX10_findEnding_44 fr_X10_18 rfl rfl ?_
            refine sw_iload_n dX10_findEnding_47 rfl ?_
            refine sw_iconst (x := 1) dX10_findEnding_48 (by decide) ?_
            refine g_zast (k) dX10_findEnding_49 ⟨by decide, rfl, rfl⟩ rfl (show k < 100 by omega) rfl ?_
            first | refine sw_inc1 [(0, _), (1, _), (2, _)] dX10_findEnding_50 rfl (by decide) rfl ?_ | refine sw_iinc [(0, _), (1, _), (2, _)] dX10_findEnding_50 rfl (by decide) rfl ?_
            have hw : 0 ≤ A 32 k := by
              rcases hW.2.1 k (by omega) with z | ⟨q, hq, z⟩
              · exact absurd z h23
              · exact (m1_not hq z).2
            have h1 := unm_1 (S := S') (t := k) (x := 1) (by decide) h32 C (by omega)
            have hck : CE (VA (A 29) (A 30)) C k (-1) := by
              unfold cce at hce
              rw [Bool.or_eq_true, Bool.or_eq_true] at hce
              rcases hce with z | z | z
              · exact CE_9 (by omega) hCb (of_decide_eq_true z)
              · obtain ⟨t, ht, et, hs⟩ := (ced_x (K := A 29) (E := A 30) hC hCb (show k < C by omega) (show 0 < 2 by decide)).mp z
                exact CE_n (by omega) hCb (by decide) ht et (hE t ht hs).2
              · obtain ⟨t, ht, et, hs⟩ := (ced_x (K := A 29) (E := A 30) hC hCb (show k < C by omega) (show 1 < 2 by decide)).mp z
                exact CE_n (by omega) hCb (by decide) ht et (hE t ht hs).2
            refine g_eq (A' := va_up A 34 (upd S' k 1)) rfl (vu_up _ _ _ _) rfl ?_
            refine dc (c + 1) (upd S' k 1) (by omega) (fun j hj hs => ?_) (by omega) (fun h => absurd h (by omega))
            by_cases u : j = k
            · subst u; exact ⟨hw, hck⟩
            · rw [upd_ne _ _ u] at hs; exact hE j hj hs
set_option maxRecDepth 100000 in
theorem c_X10_findEnding {l : Launch} {D : va_G} {cy : Nat → ClassId} {d n : Nat} {f : sw_F} {s : Nat → Int32} {A : Nat → Nat → Int32} {B : Nat → Nat → Int64} {o : Int64} {pr : Value} (hd : 3 ≤ d) {C : Nat} (hC : s 12 = nI C) (hCb : C ≤ 100) (hC0 : 0 < C) (hW : HL (VA (A 29) (A 30)) C (A 32)) {S : Nat → Int32} (hE : EM (VA (A 29) (A 30)) C (A 32) S) : sw_Ct l D cy mX10_findEnding d 0 0 [.ref 31] n (gd f s (va_up A 34 S) B o pr) (fun r n' f' => n' = n ∧ ∃ c S', r = some (.int (nI c)) ∧ f' = (gd f s (va_up A 34 S') B o pr) ∧ EM (VA (A 29) (A 30)) C (A 32) S' ∧ c + unm S' C = unm S C ∧ (c = 0 → ∀ k, k < C → EC (VA (A 29) (A 30)) C (A 32) S' k)) := by
  refine sw_of rfl (Nat.le_of_ble_eq_true rfl) ?_
  show SW l D cy mX10_findEnding d 0 0 0 0 0 [(0, .ref 31)] [] n (gd f s (va_up A 34 S) B o pr) _ _
  refine sw_iconst (x := 0) dX10_findEnding_0 (by decide) ?_
  refine sw_istore_n [(0, _), (1, _)] dX10_findEnding_1 (by decide) rfl ?_
  refine sw_aload_n dX10_findEnding_2 rfl (by first | rfl | assumption) ?_
  refine sw_get dX10_findEnding_3 fr_X10_26 rfl rfl ?_
  refine sw_Vv dX10_findEnding_6 k_X10_30 mf_X0_size (c_X0_size (d := d - 1)) rfl ⟨_, rfl, rfl⟩ (by omega) (by omega) (by omega) rfl rfl (Nat.le_of_ble_eq_true rfl) ?_
  refine sw_top (y := nI C) hC ?_
  refine sw_iconst (x := 1) dX10_findEnding_9 (by decide) ?_
  refine sw_isub dX10_findEnding_10 ?_
  refine sw_istore_n [(0, _), (1, _), (2, _)] dX10_findEnding_11 (by decide) rfl ?_
  exact l_X10_fe hd hC hCb hW C 0 S (Nat.le_refl C) (by omega) hE (by omega) (fun _ j h1 h2 => absurd h2 (by omega))
set_option maxRecDepth 100000 in
theorem l_X10_a0 {l : Launch} {D : va_G} {cy : Nat → ClassId} {d n : Nat} {f : sw_F} {s : Nat → Int32} {A : Nat → Nat → Int32} {B : Nat → Nat → Int64} {o : Int64} {pr : Value} (hd : 4 ≤ d) {C : Nat} (hC : s 12 = nI C) (hCb : C ≤ 100) (hC0 : 0 < C) (hW : HL (VA (A 29) (A 30)) C (A 32)) {R : Nat} (hR : s 13 = nI R) (hRu : R + unh (A 32) C = C) {QX : sw_QX} (r m : Nat) (S : Nat → Int32) (h3 : r ≤ 100) (hm : m ≤ 100) (hr : 0 < r) (hE : EM (VA (A 29) (A 30)) C (A 32) S) (hu : m + unm S C = C) (hz : ∀ k, k < C → EC (VA (A 29) (A 30)) C (A 32) S k) : SW l D cy mX10_allCanEnd d 0 0 0 0 27 [(0, .ref 31), (1, .int (nI (m))), (2, .int (nI (0))), (3, .int (nI (r)))] [] n (gd f s (va_up A 34 S) B o pr) (fun r n' f' => n' = n ∧ ∃ b S', r = some (.int (bz b)) ∧ f' = (gd f s (va_up A 34 S') B o pr) ∧ (b = true ↔ ∀ k, k < C → 0 ≤ A 32 k → CE (VA (A 29) (A 30)) C k (-1))) QX := by
    have fin : (m = R ↔ ∀ k, k < C → 0 ≤ A 32 k → CE (VA (A 29) (A 30)) C k (-1)) := by
      have hsub : ∀ k, k < C → A 32 k < 0 → S k = 0 := fun k hk h0 => by
        by_cases y : S k = 0
        · exact y
        · exact absurd h0 (Int32.not_lt.mpr (hE k hk y).1)
      obtain ⟨u1, u2⟩ := unh_unm (W := A 32) (S := S) C hsub
      constructor
      · intro e k hk h0
        have e2 := u2 (by omega) k hk
        by_cases y : S k = 0
        · exact absurd (e2 y) (Int32.not_lt.mpr h0)
        · exact (hE k hk y).2
      · intro ha
        have all : ∀ k, k < C → 0 ≤ A 32 k → ¬ S k = 0 := fun k hk h0 y => EC_end hW hCb hz hk h0 y (ha k hk h0)
        have key : ∀ c, c ≤ C → unm S c ≤ unh (A 32) c := fun c hc => by
          induction c with
          | zero => exact Nat.le_refl 0
          | succ c ihc =>
            have := ihc (by omega)
            rw [unm, unh]
            by_cases y : S c = 0
            · have : A 32 c < 0 := by
                by_cases z : A 32 c < 0
                · exact z
                · exact absurd y (all c (by omega) (Int32.not_lt.mp z))
              rw [if_pos y, if_pos this]; omega
            · rw [if_neg y]; split <;> omega
        have := key C (Nat.le_refl C)
        omega
    have lf : ∀ b : Bool, (b = true ↔ nI m = nI R) → (b = true ↔ ∀ k, k < C → 0 ≤ A 32 k → CE (VA (A 29) (A 30)) C k (-1)) := fun b hb => by
      rw [hb, ← fin]
      have : R ≤ 100 := by omega
      exact ⟨fun q => nI_inj (by omega) (by omega) q, fun q => congrArg nI q⟩
    refine sw_iload_n dX10_allCanEnd_27 rfl ?_
    refine sw_bipush (x := 100) dX10_allCanEnd_28 (by decide) ?_
    refine sw_icmp_ge 52 dX10_allCanEnd_30 (by decide) (fun h30 => ?_) (fun h30 => ?_)
    · refine sw_iload_n dX10_allCanEnd_52 rfl ?_
      refine sw_aload_n dX10_allCanEnd_53 rfl (by first | rfl | assumption) ?_
      refine sw_get dX10_allCanEnd_54 fr_X10_22 rfl rfl ?_
      refine sw_top (y := nI R) hR ?_
      refine sw_icmp_ne 64 dX10_allCanEnd_57 (by decide) (fun h57 => ?_) (fun h57 => ?_)
      · refine sw_iconst (x := 0) dX10_allCanEnd_64 (by decide) ?_
        exact sw_iret dX10_allCanEnd_65 rfl (by first | rfl | exact bz_n _) (by omega) (by omega) ⟨rfl, false, S, rfl, rfl, lf _ (⟨fun q => absurd q (by decide), fun q => absurd q h57⟩)⟩
      · refine sw_iconst (x := 1) dX10_allCanEnd_60 (by decide) ?_
        refine sw_goto 65 dX10_allCanEnd_61 (by decide) ?_
        exact sw_iret dX10_allCanEnd_65 rfl (by first | rfl | exact bz_n _) (by omega) (by omega) ⟨rfl, true, S, rfl, rfl, lf _ (⟨fun _ => h57, fun _ => rfl⟩)⟩
    · refine sw_iload_n dX10_allCanEnd_33 rfl ?_
      refine sw_if_le 52 dX10_allCanEnd_34 (by decide) (fun h34 => ?_) (fun h34 => ?_)
      · refine sw_iload_n dX10_allCanEnd_52 rfl ?_
        refine sw_aload_n dX10_allCanEnd_53 rfl (by first | rfl | assumption) ?_
        refine sw_get dX10_allCanEnd_54 fr_X10_22 rfl rfl ?_
        refine sw_top (y := nI R) hR ?_
        refine sw_icmp_ne 64 dX10_allCanEnd_57 (by decide) (fun h57 => ?_) (fun h57 => ?_)
        · refine sw_iconst (x := 0) dX10_allCanEnd_64 (by decide) ?_
          exact sw_iret dX10_allCanEnd_65 rfl (by first | rfl | exact bz_n _) (by omega) (by omega) ⟨rfl, false, S, rfl, rfl, lf _ (⟨fun q => absurd q (by decide), fun q => absurd q h57⟩)⟩
        · refine sw_iconst (x := 1) dX10_allCanEnd_60 (by decide) ?_
          refine sw_goto 65 dX10_allCanEnd_61 (by decide) ?_
          exact sw_iret dX10_allCanEnd_65 rfl (by first | rfl | exact bz_n _) (by omega) (by omega) ⟨rfl, true, S, rfl, rfl, lf _ (⟨fun _ => h57, fun _ => rfl⟩)⟩
      · exact absurd (show nI 0 ≤ (0 : Int32) by decide) h34
set_option maxRecDepth 100000 in
theorem l_X10_ac {l : Launch} {D : va_G} {cy : Nat → ClassId} {d n : Nat} {f : sw_F} {s : Nat → Int32} {A : Nat → Nat → Int32} {B : Nat → Nat → Int64} {o : Int64} {pr : Value} (hd : 4 ≤ d) {C : Nat} (hC : s 12 = nI C) (hCb : C ≤ 100) (hC0 : 0 < C) (hW : HL (VA (A 29) (A 30)) C (A 32)) {R : Nat} (hR : s 13 = nI R) (hRu : R + unh (A 32) C = C) {QX : sw_QX} : ∀ (c m x r : Nat) (S : Nat → Int32), r + c = 101 → r ≤ m → r ≤ 100 → x ≤ 100 → m ≤ 100 → EM (VA (A 29) (A 30)) C (A 32) S → m + unm S C = C → 0 < x → SW l D cy mX10_allCanEnd d 0 0 0 0 27 [(0, .ref 31), (1, .int (nI (m))), (2, .int (nI (x))), (3, .int (nI (r)))] [] n (gd f s (va_up A 34 S) B o pr) (fun r n' f' => n' = n ∧ ∃ b S', r = some (.int (bz b)) ∧ f' = (gd f s (va_up A 34 S') B o pr) ∧ (b = true ↔ ∀ k, k < C → 0 ≤ A 32 k → CE (VA (A 29) (A 30)) C k (-1))) QX := by
  intro c
  induction c with
  | zero => intro m x r S h1 h2 h3; omega
  | succ c ih =>
    intro m x r S h1 h2 h3 hx hm hE hu hx0
    have fin : (r = 100) → (m = R ↔ ∀ k, k < C → 0 ≤ A 32 k → CE (VA (A 29) (A 30)) C k (-1)) := fun hh => by
      have hsub : ∀ k, k < C → A 32 k < 0 → S k = 0 := fun k hk h0 => by
        by_cases y : S k = 0
        · exact y
        · exact absurd h0 (Int32.not_lt.mpr (hE k hk y).1)
      obtain ⟨u1, u2⟩ := unh_unm (W := A 32) (S := S) C hsub
      constructor
      · intro e k hk h0
        have e2 := u2 (by omega) k hk
        by_cases y : S k = 0
        · exact absurd (e2 y) (Int32.not_lt.mpr h0)
        · exact (hE k hk y).2
      · intro ha
        omega
    have lf : r = 100 → ∀ b : Bool, (b = true ↔ nI m = nI R) → (b = true ↔ ∀ k, k < C → 0 ≤ A 32 k → CE (VA (A 29) (A 30)) C k (-1)) := fun hh b hb => by
      rw [hb, ← fin hh]
      have : R ≤ 100 := by omega
      exact ⟨fun q => nI_inj (by omega) (by omega) q, fun q => congrArg nI q⟩
    refine sw_iload_n dX10_allCanEnd_27 rfl ?_
    refine sw_bipush (x := 100) dX10_allCanEnd_28 (by decide) ?_
    refine sw_top nl_100 ?_
    refine sw_icmp_ge 52 dX10_allCanEnd_30 (by decide) (fun h30 => ?_) (fun h30 => ?_)
    · refine sw_iload_n dX10_allCanEnd_52 rfl ?_
      refine sw_aload_n dX10_allCanEnd_53 rfl (by first | rfl | assumption) ?_
      refine sw_get dX10_allCanEnd_54 fr_X10_22 rfl rfl ?_
      refine sw_top (y := nI R) hR ?_
      refine sw_icmp_ne 64 dX10_allCanEnd_57 (by decide) (fun h57 => ?_) (fun h57 => ?_)
      · refine sw_iconst (x := 0) dX10_allCanEnd_64 (by decide) ?_
        exact sw_iret dX10_allCanEnd_65 rfl (by first | rfl | exact bz_n _) (by omega) (by omega) ⟨rfl, false, S, rfl, rfl, lf ((by have := (nI_leI (by omega) (by omega)).mp h30; omega)) _ (⟨fun q => absurd q (by decide), fun q => absurd q h57⟩)⟩
      · refine sw_iconst (x := 1) dX10_allCanEnd_60 (by decide) ?_
        refine sw_goto 65 dX10_allCanEnd_61 (by decide) ?_
        exact sw_iret dX10_allCanEnd_65 rfl (by first | rfl | exact bz_n _) (by omega) (by omega) ⟨rfl, true, S, rfl, rfl, lf ((by have := (nI_leI (by omega) (by omega)).mp h30; omega)) _ (⟨fun _ => h57, fun _ => rfl⟩)⟩
    · refine sw_iload_n dX10_allCanEnd_33 rfl ?_
      refine sw_if_le 52 dX10_allCanEnd_34 (by decide) (fun h34 => ?_) (fun h34 => ?_)
      · refine sw_iload_n dX10_allCanEnd_52 rfl ?_
        refine sw_aload_n dX10_allCanEnd_53 rfl (by first | rfl | assumption) ?_
        refine sw_get dX10_allCanEnd_54 fr_X10_22 rfl rfl ?_
        refine sw_top (y := nI R) hR ?_
        refine sw_icmp_ne 64 dX10_allCanEnd_57 (by decide) (fun h57 => ?_) (fun h57 => ?_)
        · refine sw_iconst (x := 0) dX10_allCanEnd_64 (by decide) ?_
          exact sw_iret dX10_allCanEnd_65 rfl (by first | rfl | exact bz_n _) (by omega) (by omega) ⟨rfl, false, S, rfl, rfl, lf (absurd h34 (by rw [nl_0, nI_leI (by omega) (by omega)]; omega)) _ (⟨fun q => absurd q (by decide), fun q => absurd q h57⟩)⟩
        · refine sw_iconst (x := 1) dX10_allCanEnd_60 (by decide) ?_
          refine sw_goto 65 dX10_allCanEnd_61 (by decide) ?_
          exact sw_iret dX10_allCanEnd_65 rfl (by first | rfl | exact bz_n _) (by omega) (by omega) ⟨rfl, true, S, rfl, rfl, lf (absurd h34 (by rw [nl_0, nI_leI (by omega) (by omega)]; omega)) _ (⟨fun _ => h57, fun _ => rfl⟩)⟩
      · refine sw_aload_n dX10_allCanEnd_37 rfl (by first | rfl | assumption) ?_
        refine sw_callV dX10_allCanEnd_38 k_X10_80 mf_X10_findEnding ⟨_, rfl, rfl⟩ rfl (c_X10_findEnding (d := d - 1) (by omega) hC hCb hC0 hW hE) (by omega) ⟨by omega, by omega⟩ rfl rfl (Nat.le_of_ble_eq_true rfl) (fun r' n' f' hq _ => ?_)
        obtain ⟨hn, c', S', hr', hf', q1, q2, q3⟩ := hq
        have hn := hn.symm
        subst hn
        subst hr'
        subst hf'
        show SW l D cy mX10_allCanEnd d 0 0 0 0 41 [(0, .ref 31), (1, .int (nI (m))), (2, .int (nI (x))), (3, .int (nI (r)))] [.int (nI c')] n (gd f s (va_up A 34 S') B o pr) _ _
        have hr1 : r < 100 := by rw [nI_leI (by omega) (by omega)] at h30; omega
        have hc1 := unm_le S C
        refine sw_istore_n [(0, _), (1, _), (2, _), (3, _)] dX10_allCanEnd_41 (by decide) rfl ?_
        refine sw_iload_n dX10_allCanEnd_42 rfl ?_
        refine sw_iload_n dX10_allCanEnd_43 rfl ?_
        refine sw_iadd dX10_allCanEnd_44 ?_
        refine sw_top (y := nI (m + c')) (nI_add _ _) ?_
        refine sw_istore_n [(0, _), (1, _), (2, _), (3, _)] dX10_allCanEnd_45 (by decide) rfl ?_
        first | refine sw_inc1 [(0, _), (1, _), (2, _), (3, _)] dX10_allCanEnd_46 rfl (by decide) rfl ?_ | refine sw_iinc [(0, _), (1, _), (2, _), (3, _)] dX10_allCanEnd_46 rfl (by decide) rfl ?_
        refine sw_goto 27 dX10_allCanEnd_49 (by decide) ?_
        by_cases y : c' = 0
        · subst y
          have e100 : r + 1 ≤ 100 := by omega
          refine l_X10_a0 hd hC hCb hC0 hW hR hRu (r + 1) (m + 0) S' (by omega) (by omega) (by omega) q1 (by omega) (q3 rfl)
        · exact ih (m + c') c' (r + 1) S' (by omega) (by omega) (by omega) (by omega) (by omega) q1 (by omega) (by omega)
set_option maxRecDepth 100000 in
theorem l_X10_a1 {l : Launch} {D : va_G} {cy : Nat → ClassId} {d n : Nat} {f : sw_F} {s : Nat → Int32} {A : Nat → Nat → Int32} {B : Nat → Nat → Int64} {o : Int64} {pr : Value} {Q : sw_Q} {QX : sw_QX} (K : SW l D cy mX10_allCanEnd d 0 0 0 0 21 [(0, .ref 31)] [] n (gd f s (va_up A 34 (fillF (fun _ => 0) (A 34) 100)) B o pr) Q QX) : ∀ (c i : Nat), i ≤ 100 → 100 < i + c → SW l D cy mX10_allCanEnd d 0 0 0 0 2 [(0, .ref 31), (1, .int (nI i))] [] n (gd f s (va_up A 34 (fillF (fun _ => 0) (A 34) i)) B o pr) Q QX := by
  intro c
  induction c with
  | zero => intro i h1 h2; exact absurd h2 (by omega)
  | succ c ih =>
    intro i hi hc
    refine sw_iload_n dX10_allCanEnd_2 rfl ?_
    refine sw_bipush (x := 100) dX10_allCanEnd_3 (by decide) ?_
    refine sw_top nl_100 ?_
    refine sw_icmp_ge 21 dX10_allCanEnd_5 (by decide) (fun h5 => ?_) (fun h5 => ?_)
    · refine sw_keep [0] rfl ?_
      obtain rfl : i = 100 := by have := (nI_leI (by omega) (by omega)).mp h5; omega
      exact K
    · have e1 : i < 100 := (nI_ltI (by omega) (by omega)).mp (i32_nle.mp h5)
      refine sw_aload_n dX10_allCanEnd_8 rfl (by first | rfl | assumption) ?_
      refine sw_get dX10_allCanEnd_9 fr_X10_18 rfl rfl ?_
      refine sw_iload_n dX10_allCanEnd_12 rfl ?_
      refine sw_iconst (x := 0) dX10_allCanEnd_13 (by decide) ?_
      refine g_zast (i) dX10_allCanEnd_14 ⟨by decide, rfl, rfl⟩ rfl (show i < 100 by omega) (show vp_nar .boolean 0 = 0 by decide) ?_
      first | refine sw_inc1 [(0, _), (1, _)] dX10_allCanEnd_15 rfl (by decide) rfl ?_ | refine sw_iinc [(0, _), (1, _)] dX10_allCanEnd_15 rfl (by decide) rfl ?_
      refine sw_goto 2 dX10_allCanEnd_18 (by decide) ?_
      refine g_eq (A' := va_up A 34 (fillF (fun _ => 0) (A 34) (i + 1))) rfl ?_ rfl (ih (i + 1) (by omega) (by omega))
      rw [vu_up]
      exact congrArg _ (fill_1 (h := fun _ => 0) rfl)
theorem unm_f : ∀ (c : Nat) (S : Nat → Int32), c ≤ 100 → unm (fillF (fun _ => 0) S 100) c = c
  | 0, S, h => rfl
  | c + 1, S, h => by
    rw [unm, unm_f c S (by omega), fill_lt (by omega), if_pos rfl]
set_option maxRecDepth 100000 in
theorem c_X10_allCanEnd {l : Launch} {D : va_G} {cy : Nat → ClassId} {d n : Nat} {f : sw_F} {s : Nat → Int32} {A : Nat → Nat → Int32} {B : Nat → Nat → Int64} {o : Int64} {pr : Value} (hd : 4 ≤ d) {C : Nat} (hC : s 12 = nI C) (hCb : C ≤ 100) (hC0 : 0 < C) (hW : HL (VA (A 29) (A 30)) C (A 32)) {R : Nat} (hR : s 13 = nI R) (hRu : R + unh (A 32) C = C) : sw_Ct l D cy mX10_allCanEnd d 0 0 [.ref 31] n (gd f s A B o pr) (fun r n' f' => n' = n ∧ ∃ b S', r = some (.int (bz b)) ∧ f' = (gd f s (va_up A 34 S') B o pr) ∧ (b = true ↔ ∀ k, k < C → 0 ≤ A 32 k → CE (VA (A 29) (A 30)) C k (-1))) := by
  refine sw_of rfl (Nat.le_of_ble_eq_true rfl) ?_
  show SW l D cy mX10_allCanEnd d 0 0 0 0 0 [(0, .ref 31)] [] n (gd f s A B o pr) _ _
  refine sw_iconst (x := 0) dX10_allCanEnd_0 (by decide) ?_
  refine sw_istore_n [(0, _), (1, _)] dX10_allCanEnd_1 (by decide) rfl ?_
  refine g_eq (A' := va_up A 34 (fillF (fun _ => 0) (A 34) 0)) rfl (by rw [fill_0, vu_id]) rfl ?_
  refine l_X10_a1 ?_ 101 0 (by omega) (by omega)
  refine sw_iconst (x := 0) dX10_allCanEnd_21 (by decide) ?_
  refine sw_istore_n [(0, _), (1, _)] dX10_allCanEnd_22 (by decide) rfl ?_
  refine sw_iconst (x := 1) dX10_allCanEnd_23 (by decide) ?_
  refine sw_istore_n [(0, _), (1, _), (2, _)] dX10_allCanEnd_24 (by decide) rfl ?_
  refine sw_iconst (x := 0) dX10_allCanEnd_25 (by decide) ?_
  refine sw_istore_n [(0, _), (1, _), (2, _), (3, _)] dX10_allCanEnd_26 (by decide) rfl ?_
  exact l_X10_ac hd hC hCb hC0 hW hR hRu 101 0 1 0 _ (by omega) (by omega) (by omega) (by omega) (by omega) (fun k hk hs => absurd (fill_lt (show k < 100 by omega)) hs) (by rw [unm_f C _ hCb]; omega) (by omega)
theorem hw_id (s : Nat → Int32) (A : Nat → Nat → Int32) {R : Nat} (hR : s 13 = nI R) : hwS s (A 32, A 33, R) = s ∧ va_up (hwA A (A 32, A 33, R)) 34 (A 34) = A := by
  refine ⟨?_, ?_⟩
  · show va_up s 13 (nI R) = s
    rw [← hR, vu_id]
  · show va_up (va_up (va_up A 32 (A 32)) 33 (A 33)) 34 (A 34) = A
    rw [vu_id, vu_id, vu_id]
theorem sh_i {K E : Nat → Int32} {C : Nat} (hC0 : 0 < C) : allF (r_pk (VA K E) C) 0 C = true → PL (VA K E) C := fun h => r_pl_iff.mp (by rw [r_pl, h, decide_eq_true hC0]; rfl)
set_option maxRecDepth 100000 in
theorem c_X10_fits {l : Launch} {D : va_G} {cy : Nat → ClassId} {d n : Nat} {f : sw_F} {s : Nat → Int32} {A : Nat → Nat → Int32} {B : Nat → Nat → Int64} {o : Int64} {pr : Value} (hd : 5 ≤ d) {C : Nat} (hC : s 12 = nI C) (hCb : C ≤ 100) {R : Nat} (hR : s 13 = nI R) : sw_Ct l D cy mX10_fits d 0 0 [.ref 31] n (gd f s A B o pr) (fun r n' f' => n' = n ∧ ∃ b W S', r = some (.int (bz b)) ∧ f' = gd f (hwS s W) (va_up (hwA A W) 34 S') B o pr ∧ (b = true ↔ SH (VA (A 29) (A 30)) C) ∧ (b = true → HL (VA (A 29) (A 30)) C W.1 ∧ W.2.2 + unh W.1 C = C)) := by
  refine sw_of rfl (Nat.le_of_ble_eq_true rfl) ?_
  show SW l D cy mX10_fits d 0 0 0 0 0 [(0, .ref 31)] [] n (gd f s A B o pr) _ _
  have id1 := hw_id s A hR
  refine sw_aload_n dX10_fits_0 rfl (by first | rfl | assumption) ?_
  refine sw_get dX10_fits_1 fr_X10_26 rfl rfl ?_
  refine sw_Vv dX10_fits_4 k_X10_30 mf_X0_size (c_X0_size (d := d - 1)) rfl ⟨_, rfl, rfl⟩ (by omega) (by omega) (by omega) rfl rfl (Nat.le_of_ble_eq_true rfl) ?_
  refine sw_top (y := nI C) hC ?_
  refine sw_if_le 35 dX10_fits_7 (by decide) (fun h7 => ?_) (fun h7 => ?_)
  · refine sw_iconst (x := 0) dX10_fits_35 (by decide) ?_
    exact sw_iret dX10_fits_36 rfl (by first | rfl | exact bz_n _) (by omega) (by omega) ⟨rfl, false, (A 32, A 33, R), A 34, rfl, by rw [id1.1, id1.2], ⟨fun q => Bool.noConfusion (show false = true from q), fun q => absurd (r_pl_iff.mp q.1).1 (by rw [nl_0, nI_leI (by omega) (by omega)] at h7; omega)⟩, fun q => Bool.noConfusion (show false = true from q)⟩
  · have hC0 : 0 < C := by rw [nl_0, nI_leI (by omega) (by omega)] at h7; omega
    refine sw_aload_n dX10_fits_10 rfl (by first | rfl | assumption) ?_
    refine sw_Vv dX10_fits_11 k_X10_36 mf_X10_partsFit (c_X10_partsFit (d := d - 1) (by omega) hC hCb) rfl ⟨_, rfl, rfl⟩ (by omega) (by omega) (by omega) rfl rfl (Nat.le_of_ble_eq_true rfl) ?_
    refine sw_if_eq 35 dX10_fits_14 (by decide) (fun h14 => ?_) (fun h14 => ?_)
    · refine sw_iconst (x := 0) dX10_fits_35 (by decide) ?_
      exact sw_iret dX10_fits_36 rfl (by first | rfl | exact bz_n _) (by omega) (by omega) ⟨rfl, false, (A 32, A 33, R), A 34, rfl, by rw [id1.1, id1.2], ⟨fun q => Bool.noConfusion (show false = true from q), fun q => absurd (show allF (r_pk (VA (A 29) (A 30)) C) 0 C = true from ((Bool.and_eq_true _ _).mp q.1).2) (by rw [bz_0.mp h14]; decide)⟩, fun q => Bool.noConfusion (show false = true from q)⟩
    · have hp : PL (VA (A 29) (A 30)) C := sh_i hC0 (bz_ne.mp h14)
      refine sw_aload_n dX10_fits_17 rfl (by first | rfl | assumption) ?_
      refine sw_callV dX10_fits_18 k_X10_40 mf_X10_waysFit ⟨_, rfl, rfl⟩ rfl (c_X10_waysFit (d := d - 1) (by omega) hC hCb hp) (by omega) ⟨by omega, by omega⟩ rfl rfl (Nat.le_of_ble_eq_true rfl) (fun r' n' f' hq _ => ?_)
      obtain ⟨hn, b, W, hr', hf', w1, w2⟩ := hq
      have hn := hn.symm
      subst hn
      subst hr'
      subst hf'
      show SW l D cy mX10_fits d 0 0 0 0 21 [(0, .ref 31)] [.int (bz b)] n (gd f (hwS s W) (hwA A W) B o pr) _ _
      cases b with
      | false =>
        refine sw_if_eq 35 dX10_fits_21 (by decide) (fun h21 => ?_) (fun h21 => ?_)
        · refine sw_iconst (x := 0) dX10_fits_35 (by decide) ?_
          exact sw_iret dX10_fits_36 rfl (by first | rfl | exact bz_n _) (by omega) (by omega) ⟨rfl, false, W, A 34, rfl, by rw [show va_up (hwA A W) 34 (A 34) = hwA A W from vu_id (hwA A W) 34], ⟨fun q => Bool.noConfusion (show false = true from q), fun ⟨_, V, hV, _⟩ => absurd hV.1 (w2 rfl V)⟩, fun q => Bool.noConfusion (show false = true from q)⟩
        · exact absurd rfl h21
      | true =>
        refine sw_if_eq 35 dX10_fits_21 (by decide) (fun h21 => ?_) (fun h21 => ?_)
        · exact absurd h21 (by decide)
        · refine sw_aload_n dX10_fits_24 rfl (by first | rfl | assumption) ?_
          refine sw_callV dX10_fits_25 k_X10_43 mf_X10_allCanEnd ⟨_, rfl, rfl⟩ rfl (c_X10_allCanEnd (d := d - 1) (s := hwS s W) (A := hwA A W) (by omega) hC hCb hC0 (w1 rfl).1 rfl (w1 rfl).2.1) (by omega) ⟨by omega, by omega⟩ rfl rfl (Nat.le_of_ble_eq_true rfl) (fun r' n' f' hq _ => ?_)
          obtain ⟨hn, b, S', hr', hf', q1⟩ := hq
          have hn := hn.symm
          subst hn
          subst hr'
          subst hf'
          have q1 : (b = true ↔ ∀ k, k < C → 0 ≤ W.1 k → CE (VA (A 29) (A 30)) C k (-1)) := q1
          show SW l D cy mX10_fits d 0 0 0 0 28 [(0, .ref 31)] [.int (bz b)] n (gd f (hwS s W) (va_up (hwA A W) 34 S') B o pr) _ _
          refine sw_if_eq 35 dX10_fits_28 (by decide) (fun h28 => ?_) (fun h28 => ?_)
          · refine sw_iconst (x := 0) dX10_fits_35 (by decide) ?_
            exact sw_iret dX10_fits_36 rfl (by first | rfl | exact bz_n _) (by omega) (by omega) ⟨rfl, false, W, S', rfl, rfl, ⟨fun q => Bool.noConfusion (show false = true from q), fun ⟨_, V, hV, hc⟩ => absurd (q1.mpr (fun k hk h0 => hc k hk (by rw [← HL_one (w1 rfl).1 hV k hk]; exact h0))) (by rw [bz_0.mp h28]; decide)⟩, fun q => Bool.noConfusion (show false = true from q)⟩
          · refine sw_iconst (x := 1) dX10_fits_31 (by decide) ?_
            refine sw_goto 36 dX10_fits_32 (by decide) ?_
            exact sw_iret dX10_fits_36 rfl (by first | rfl | exact bz_n _) (by omega) (by omega) ⟨rfl, true, W, S', rfl, rfl, ⟨fun _ => ⟨r_pl_iff.mpr hp, W.1, (w1 rfl).1, q1.mp (bz_ne.mp h28)⟩, fun _ => rfl⟩, fun _ => ⟨(w1 rfl).1, (w1 rfl).2.1⟩⟩
