/-! ===== THE CLASS: Regions, collect ===== -/
abbrev RQ : Type := (Nat → Nat → Int64) × (Nat → Int32) × Nat
def rqS (s : Nat → Int32) (E : RQ) : Nat → Int32 := va_up s 14 (nI E.2.2)
def rqA (A : Nat → Nat → Int32) (E : RQ) : Nat → Nat → Int32 := va_up A 42 E.2.1
theorem cnt_cg {p q : Nat → Bool} : ∀ n, (∀ i, i < n → p i = q i) → cntB p n = cntB q n
  | 0, _ => rfl
  | n + 1, h => by rw [cntB, cntB, cnt_cg n (fun i hi => h i (by omega)), h n (by omega)]
theorem cnt_add {p q : Nat → Bool} {t : Nat} (h0 : p t = false) : ∀ n, t < n → (∀ i, i < n → q i = (p i || decide (i = t))) → cntB q n = cntB p n + 1
  | 0, h, _ => absurd h (by omega)
  | n + 1, h, hq => by
    rw [cntB, cntB]
    by_cases c : t = n
    · subst c
      rw [cnt_cg t (q := p) (fun i hi => by rw [hq i (by omega), decide_eq_false (by omega), Bool.or_false]), hq t (by omega), h0, decide_eq_true rfl]
      rfl
    · have := cnt_add h0 n (by omega) (fun i hi => hq i (by omega))
      rw [hq n (by omega), decide_eq_false (show ¬ n = t by omega), Bool.or_false]
      omega
theorem cnt_not {p : Nat → Bool} {t n : Nat} (h0 : p t = false) (h : t < n) : cntB p n < n := by
  have := cnt_add (q := fun i => p i || decide (i = t)) h0 n h (fun i _ => rfl)
  have := cnt_max (fun i => p i || decide (i = t)) n
  omega
/-- what is true of row j of the members all the while -/
def RJ (X : Nat → Nat → Int32) (C : Nat) (W : Nat → Int32) (j : Nat) (B0 : Nat → Nat → Int64) (E : RQ) : Prop := (∀ q, ¬ q = 40 → ¬ q = 41 → E.1 q = B0 q) ∧ (∀ r m, ¬ r = j → m < 128 → msk E.1 39 r m = msk B0 39 r m) ∧ E.2.2 = cntB (msk E.1 39 j) C ∧ (∀ i, i < E.2.2 → ∃ m, m < C ∧ E.2.1 i = nI m ∧ msk E.1 39 j m = true) ∧ (∀ m, m < C → msk E.1 39 j m = true → ∃ i, i < E.2.2 ∧ E.2.1 i = nI m) ∧ ∀ m, m < C → msk E.1 39 j m = true → 0 ≤ W m ∧ RG X C (RGB X C W j) j m
/-- E' has all of E -/
def RE (C j : Nat) (E E' : RQ) : Prop := (∀ m, m < C → msk E.1 39 j m = true → msk E'.1 39 j m = true) ∧ E.2.2 ≤ E'.2.2 ∧ ∀ i, i < E.2.2 → E'.2.1 i = E.2.1 i
/-- way w of k is visited -/
def RD (X : Nat → Nat → Int32) (C : Nat) (W : Nat → Int32) (j k w : Nat) (E : RQ) : Prop := ∀ t, t < C → r_nx X k (nI w) = nI t → ¬ RGB X C W j t → msk E.1 39 j t = true
theorem RE_rfl {C j : Nat} (E : RQ) : RE C j E E := ⟨fun _ _ q => q, Nat.le_refl _, fun _ _ => rfl⟩
theorem RE_tr {C j : Nat} {E F G : RQ} (h1 : RE C j E F) (h2 : RE C j F G) : RE C j E G := ⟨fun m hm q => h2.1 m hm (h1.1 m hm q), Nat.le_trans h1.2.1 h2.2.1, fun i hi => (h2.2.2 i (Nat.lt_of_lt_of_le hi h1.2.1)).trans (h1.2.2 i hi)⟩
theorem RD_e {X : Nat → Nat → Int32} {C : Nat} {W : Nat → Int32} {j k w : Nat} {E E' : RQ} (h : RE C j E E') (hd : RD X C W j k w E) : RD X C W j k w E' := fun t ht e nb => h.1 t ht (hd t ht e nb)
theorem RJ_add {X : Nat → Nat → Int32} {C : Nat} {W : Nat → Int32} {j : Nat} {B0 : Nat → Nat → Int64} {E : RQ} (hC : C ≤ 100) (h : RJ X C W j B0 E) {t : Nat} (ht : t < C) (h0 : msk E.1 39 j t = false) (w0 : 0 ≤ W t) (hg : RG X C (RGB X C W j) j t) {B' : Nat → Nat → Int64} (b1 : ∀ q, ¬ q = 40 → ¬ q = 41 → B' q = E.1 q) (b2 : ∀ r m, m < 128 → msk B' 39 r m = (msk E.1 39 r m || decide (r = j ∧ m = t))) : RJ X C W j B0 (B', upd E.2.1 E.2.2 (nI t), E.2.2 + 1) ∧ RE C j E (B', upd E.2.1 E.2.2 (nI t), E.2.2 + 1) := by
  obtain ⟨h1, h2, h3, h4, h5, h6⟩ := h
  have mono : ∀ m, m < C → msk E.1 39 j m = true → msk B' 39 j m = true := fun m hm q => by rw [b2 j m (by omega), q]; rfl
  have at_t : msk B' 39 j t = true := by rw [b2 j t (by omega), decide_eq_true (⟨rfl, rfl⟩ : j = j ∧ t = t), Bool.or_true]
  refine ⟨⟨fun q a b => by show B' q = _; rw [b1 q a b, h1 q a b], fun r m hr hm => ?_, ?_, fun i hi => ?_, fun m hm q => ?_, fun m hm q => ?_⟩, ⟨mono, Nat.le_succ _, fun i hi => upd_ne _ _ (by omega)⟩⟩
  · show msk B' 39 r m = _
    rw [b2 r m hm, decide_eq_false (fun z => hr z.1), Bool.or_false, h2 r m hr hm]
  · show E.2.2 + 1 = cntB (msk B' 39 j) C
    rw [cnt_add (p := msk E.1 39 j) h0 C ht (fun i hi => by rw [b2 j i (by omega)]; exact congrArg _ (decide_eq_decide.mpr (by omega))), ← h3]
  · have hi : i < E.2.2 + 1 := hi
    by_cases u : i = E.2.2
    · subst u
      exact ⟨t, ht, upd_at _ _ _, at_t⟩
    · obtain ⟨m, hm, e, q⟩ := h4 i (by omega)
      exact ⟨m, hm, (upd_ne _ _ u).trans e, mono m hm q⟩
  · have q : msk B' 39 j m = true := q
    by_cases u : m = t
    · subst u
      exact ⟨E.2.2, Nat.lt_succ_self _, upd_at _ _ _⟩
    · rw [b2 j m (by omega), decide_eq_false (fun z => u z.2), Bool.or_false] at q
      obtain ⟨i, hi, e⟩ := h5 m hm q
      exact ⟨i, Nat.lt_succ_of_lt hi, (upd_ne _ _ (by omega)).trans e⟩
  · have q : msk B' 39 j m = true := q
    by_cases u : m = t
    · subst u; exact ⟨w0, hg⟩
    · rw [b2 j m (by omega), decide_eq_false (fun z => u z.2), Bool.or_false] at q
      exact h6 m hm q
theorem RJ_end {X : Nat → Nat → Int32} {C : Nat} {W : Nat → Int32} {j : Nat} {B0 : Nat → Nat → Int64} {E : RQ} (hC : C ≤ 100) (h : RJ X C W j B0 E) (h0 : ∀ w, w < 2 → RD X C W j j w E) (h1 : ∀ i, i < E.2.2 → ∀ m, m < C → E.2.1 i = nI m → ∀ w, w < 2 → RD X C W j m w E) : ∀ m, m < C → (msk E.1 39 j m = true ↔ RG X C (RGB X C W j) j m) := by
  intro m hm
  refine ⟨fun q => (h.2.2.2.2.2 m hm q).2, fun q => ?_⟩
  refine q (fun x => msk E.1 39 j x = true) (fun w hw t ht e nb => h0 w hw t ht e nb) (fun k hk qk w hw t ht e nb => ?_)
  obtain ⟨i, hi, ei⟩ := h.2.2.2.2.1 k hk qk
  exact h1 i hi k hk ei w hw t ht e nb
set_option maxRecDepth 100000 in
theorem c_X9_visit {l : Launch} {D : va_G} {cy : Nat → ClassId} {d n : Nat} {f : sw_F} {s : Nat → Int32} {A : Nat → Nat → Int32} {o : Int64} {pr : Value} (hd : 2 ≤ d) {C : Nat} (hC : s 12 = nI C) (hCb : C ≤ 100) {j : Nat} (hj : j < C) {B0 : Nat → Nat → Int64} (hps : ∀ m, m < C → (msk B0 36 j m = true ↔ ¬ CE (VA (A 29) (A 30)) C j (nI m))) {E : RQ} (hJ : RJ (VA (A 29) (A 30)) C (A 32) j B0 E) {k w t : Nat} (hk : k < C) (hw : w < 2) (hkj : k = j ∨ RG (VA (A 29) (A 30)) C (RGB (VA (A 29) (A 30)) C (A 32) j) j k) (ht : t < C) (et : r_nx (VA (A 29) (A 30)) k (nI w) = nI t) (w0 : 0 ≤ A 32 t) : sw_Ct l D cy mX9_visit d 0 0 [.ref 35, .int (nI j), .int (nI t)] n (gd f (rqS s E) (rqA A E) E.1 o pr) (fun r' n' f' => r' = none ∧ n' = n ∧ ∃ E', f' = (gd f (rqS s E') (rqA A E') E'.1 o pr) ∧ RJ (VA (A 29) (A 30)) C (A 32) j B0 E' ∧ RE C j E E' ∧ RD (VA (A 29) (A 30)) C (A 32) j k w E') := by
  have hp2 : msk E.1 36 j t = msk B0 36 j t := by unfold msk; rw [hJ.1 37 (by decide) (by decide), hJ.1 38 (by decide) (by decide)]
  refine sw_of rfl (Nat.le_of_ble_eq_true rfl) ?_
  show SW l D cy mX9_visit d 0 0 0 0 0 [(0, .ref 35), (1, .int (nI j)), (2, .int (nI t))] [] n (gd f (rqS s E) (rqA A E) E.1 o pr) _ _
  refine sw_aload_n dX9_visit_0 rfl (by first | rfl | assumption) ?_
  refine sw_get dX9_visit_1 fr_X9_29 rfl rfl ?_
  refine sw_iload_n dX9_visit_4 rfl ?_
  refine sw_Vv dX9_visit_5 k_X9_89 mf_X0_has (by have z := c_X0_has (l := l) (D := D) (cy := cy) (d := d - 1) (n := n) (f := f) (s := rqS s E) (A := rqA A E) (B := E.1) (o := o) (pr := pr) (nI t); rw [show chs (rqS s E) (nI t) = true from chs_n hC hCb ht] at z; exact z) rfl ⟨_, rfl, rfl⟩ (by omega) (by omega) (by omega) rfl rfl (Nat.le_of_ble_eq_true rfl) ?_
  refine sw_if_eq 40 dX9_visit_8 (by decide) (fun h8 => ?_) (fun h8 => ?_)
  · exact absurd h8 (by decide)
  · refine sw_aload_n dX9_visit_11 rfl (by first | rfl | assumption) ?_
    refine sw_get dX9_visit_12 fr_X9_18 rfl rfl ?_
    refine sw_iload_n dX9_visit_15 rfl ?_
    refine sw_iload_n dX9_visit_16 rfl ?_
    refine sw_Vv dX9_visit_17 k_X9_63 mf_X5_has (c_X5_has39 (d := d - 1) (s := rqS s E) (A := rqA A E) (B := E.1) (by omega) (show j < 100 by omega) (show t < 100 by omega)) rfl ⟨_, rfl, rfl⟩ (by omega) (by omega) (by omega) rfl rfl (Nat.le_of_ble_eq_true rfl) ?_
    refine sw_if_ne 40 dX9_visit_20 (by decide) (fun h20 => ?_) (fun h20 => ?_)
    · exact sw_vret dX9_visit_40 rfl (by omega) (by omega) ⟨rfl, rfl, E, rfl, hJ, RE_rfl E, fun t' ht' e' nb => by obtain rfl := nI_inj (by omega) (by omega) (et.symm.trans e'); exact bz_ne.mp h20⟩
    · refine sw_iload_n dX9_visit_23 rfl ?_
      refine sw_iload_n dX9_visit_24 rfl ?_
      refine sw_icmp_eq 41 dX9_visit_25 (by decide) (fun h25 => ?_) (fun h25 => ?_)
      · refine sw_aload_n dX9_visit_41 rfl (by first | rfl | assumption) ?_
        refine sw_get dX9_visit_42 fr_X9_18 rfl rfl ?_
        refine sw_iload_n dX9_visit_45 rfl ?_
        refine sw_iload_n dX9_visit_46 rfl ?_
        refine sw_callV dX9_visit_47 k_X9_67 mf_X5_add ⟨_, rfl, rfl⟩ rfl (c_X5_add39 (d := d - 1) (s := rqS s E) (A := rqA A E) (B := E.1) (by omega) (show j < 100 by omega) (show t < 100 by omega)) (by omega) ⟨by omega, by omega⟩ rfl rfl (Nat.le_of_ble_eq_true rfl) (fun r' n' f' hq _ => ?_)
        obtain ⟨hr', hn, B', hf', y1, y2⟩ := hq
        have hn := hn.symm
        subst hn
        subst hr'
        subst hf'
        have m0 : msk E.1 39 j t = false := bz_0.mp h20
        have nb : ¬ RGB (VA (A 29) (A 30)) C (A 32) j t := fun z => z.1 (nI_inj (by omega) (by omega) h25)
        have hrg : RG (VA (A 29) (A 30)) C (RGB (VA (A 29) (A 30)) C (A 32) j) j t := by
          rcases hkj with z | z
          · subst z
            exact fun T h1 _ => h1 w hw t ht et nb
          · exact fun T h1 h2 => h2 k hk (z T h1 h2) w hw t ht et nb
        obtain ⟨J2, E2⟩ := RJ_add hCb hJ ht m0 w0 hrg y1 y2
        have r1 : E.2.2 < 100 := by have := cnt_not (p := msk E.1 39 j) m0 ht; have := hJ.2.2.1; omega
        show SW l D cy mX9_visit d 0 0 0 0 50 [(0, .ref 35), (1, .int (nI j)), (2, .int (nI t))] [] n (gd f (rqS s E) (rqA A E) B' o pr) _ _
        refine sw_aload_n dX9_visit_50 rfl (by first | rfl | assumption) ?_
        refine sw_get dX9_visit_51 fr_X9_25 rfl rfl ?_
        refine sw_top (y := nI E.2.2) rfl ?_
        refine sw_bipush (x := 100) dX9_visit_54 (by decide) ?_
        refine sw_icmp_ge 79 dX9_visit_56 (by decide) (fun h56 => ?_) (fun h56 => ?_)
        · exact absurd h56 (by rw [nl_100, nI_leI (by omega) (by omega)]; omega)
        · refine sw_aload_n dX9_visit_59 rfl (by first | rfl | assumption) ?_
          refine sw_get dX9_visit_60 fr_X9_21 rfl rfl ?_
          refine sw_aload_n dX9_visit_63 rfl (by first | rfl | assumption) ?_
          refine sw_get dX9_visit_64 fr_X9_25 rfl rfl ?_
          refine sw_iload_n dX9_visit_67 rfl ?_
          refine g_iast (E.2.2) dX9_visit_68 ⟨by decide, rfl, rfl⟩ rfl (show E.2.2 < 100 by omega) rfl ?_
          refine sw_aload_n dX9_visit_69 rfl (by first | rfl | assumption) ?_
          refine sw_dup dX9_visit_70 rfl ?_
          refine sw_get dX9_visit_71 fr_X9_25 rfl rfl ?_
          refine sw_iconst (x := 1) dX9_visit_74 (by decide) ?_
          refine sw_iadd dX9_visit_75 ?_
          refine sw_top (y := nI (E.2.2 + 1)) (nI_1 _) ?_
          refine g_put 14 dX9_visit_76 fl_X9_25 rfl ⟨by decide, rfl⟩ rfl (Nat.le_of_ble_eq_true rfl) (sw_fit_i _) rfl ?_
          refine g_eq (s' := rqS s (B', upd E.2.1 E.2.2 (nI t), E.2.2 + 1)) (A' := rqA A (B', upd E.2.1 E.2.2 (nI t), E.2.2 + 1)) (vu_up _ _ _ _) (vu_up _ _ _ _) rfl ?_
          exact sw_vret dX9_visit_79 rfl (by omega) (by omega) ⟨rfl, rfl, _, rfl, J2, E2, fun t' ht' e' _ => by obtain rfl := nI_inj (by omega) (by omega) (et.symm.trans e'); show msk B' 39 j t = true; rw [y2 j t (by omega), decide_eq_true (⟨rfl, rfl⟩ : j = j ∧ t = t), Bool.or_true]⟩
      · refine sw_aload_n dX9_visit_28 rfl (by first | rfl | assumption) ?_
        refine sw_get dX9_visit_29 fr_X9_12 rfl rfl ?_
        refine sw_iload_n dX9_visit_32 rfl ?_
        refine sw_iload_n dX9_visit_33 rfl ?_
        refine sw_Vv dX9_visit_34 k_X9_63 mf_X5_has (c_X5_has36 (d := d - 1) (s := rqS s E) (A := rqA A E) (B := E.1) (by omega) (show j < 100 by omega) (show t < 100 by omega)) rfl ⟨_, rfl, rfl⟩ (by omega) (by omega) (by omega) rfl rfl (Nat.le_of_ble_eq_true rfl) ?_
        refine sw_if_eq 41 dX9_visit_37 (by decide) (fun h37 => ?_) (fun h37 => ?_)
        · refine sw_aload_n dX9_visit_41 rfl (by first | rfl | assumption) ?_
          refine sw_get dX9_visit_42 fr_X9_18 rfl rfl ?_
          refine sw_iload_n dX9_visit_45 rfl ?_
          refine sw_iload_n dX9_visit_46 rfl ?_
          refine sw_callV dX9_visit_47 k_X9_67 mf_X5_add ⟨_, rfl, rfl⟩ rfl (c_X5_add39 (d := d - 1) (s := rqS s E) (A := rqA A E) (B := E.1) (by omega) (show j < 100 by omega) (show t < 100 by omega)) (by omega) ⟨by omega, by omega⟩ rfl rfl (Nat.le_of_ble_eq_true rfl) (fun r' n' f' hq _ => ?_)
          obtain ⟨hr', hn, B', hf', y1, y2⟩ := hq
          have hn := hn.symm
          subst hn
          subst hr'
          subst hf'
          have m0 : msk E.1 39 j t = false := bz_0.mp h20
          have nb : ¬ RGB (VA (A 29) (A 30)) C (A 32) j t := fun z => absurd ((hps t ht).mpr z.2.2) (by rw [← hp2, bz_0.mp h37]; decide)
          have hrg : RG (VA (A 29) (A 30)) C (RGB (VA (A 29) (A 30)) C (A 32) j) j t := by
            rcases hkj with z | z
            · subst z
              exact fun T h1 _ => h1 w hw t ht et nb
            · exact fun T h1 h2 => h2 k hk (z T h1 h2) w hw t ht et nb
          obtain ⟨J2, E2⟩ := RJ_add hCb hJ ht m0 w0 hrg y1 y2
          have r1 : E.2.2 < 100 := by have := cnt_not (p := msk E.1 39 j) m0 ht; have := hJ.2.2.1; omega
          show SW l D cy mX9_visit d 0 0 0 0 50 [(0, .ref 35), (1, .int (nI j)), (2, .int (nI t))] [] n (gd f (rqS s E) (rqA A E) B' o pr) _ _
          refine sw_aload_n dX9_visit_50 rfl (by first | rfl | assumption) ?_
          refine sw_get dX9_visit_51 fr_X9_25 rfl rfl ?_
          refine sw_top (y := nI E.2.2) rfl ?_
          refine sw_bipush (x := 100) dX9_visit_54 (by decide) ?_
          refine sw_icmp_ge 79 dX9_visit_56 (by decide) (fun h56 => ?_) (fun h56 => ?_)
          · exact absurd h56 (by rw [nl_100, nI_leI (by omega) (by omega)]; omega)
          · refine sw_aload_n dX9_visit_59 rfl (by first | rfl | assumption) ?_
            refine sw_get dX9_visit_60 fr_X9_21 rfl rfl ?_
            refine sw_aload_n dX9_visit_63 rfl (by first | rfl | assumption) ?_
            refine sw_get dX9_visit_64 fr_X9_25 rfl rfl ?_
            refine sw_iload_n dX9_visit_67 rfl ?_
            refine g_iast (E.2.2) dX9_visit_68 ⟨by decide, rfl, rfl⟩ rfl (show E.2.2 < 100 by omega) rfl ?_
            refine sw_aload_n dX9_visit_69 rfl (by first | rfl | assumption) ?_
            refine sw_dup dX9_visit_70 rfl ?_
            refine sw_get dX9_visit_71 fr_X9_25 rfl rfl ?_
            refine sw_iconst (x := 1) dX9_visit_74 (by decide) ?_
            refine sw_iadd dX9_visit_75 ?_
            refine sw_top (y := nI (E.2.2 + 1)) (nI_1 _) ?_
            refine g_put 14 dX9_visit_76 fl_X9_25 rfl ⟨by decide, rfl⟩ rfl (Nat.le_of_ble_eq_true rfl) (sw_fit_i _) rfl ?_
            refine g_eq (s' := rqS s (B', upd E.2.1 E.2.2 (nI t), E.2.2 + 1)) (A' := rqA A (B', upd E.2.1 E.2.2 (nI t), E.2.2 + 1)) (vu_up _ _ _ _) (vu_up _ _ _ _) rfl ?_
            exact sw_vret dX9_visit_79 rfl (by omega) (by omega) ⟨rfl, rfl, _, rfl, J2, E2, fun t' ht' e' _ => by obtain rfl := nI_inj (by omega) (by omega) (et.symm.trans e'); show msk B' 39 j t = true; rw [y2 j t (by omega), decide_eq_true (⟨rfl, rfl⟩ : j = j ∧ t = t), Bool.or_true]⟩
        · exact sw_vret dX9_visit_40 rfl (by omega) (by omega) ⟨rfl, rfl, E, rfl, hJ, RE_rfl E, fun t' ht' e' nb => by obtain rfl := nI_inj (by omega) (by omega) (et.symm.trans e'); exact absurd ⟨fun z => h25 (by rw [z]), w0, (hps t ht).mp (by rw [← hp2]; exact bz_ne.mp h37)⟩ nb⟩
set_option maxRecDepth 100000 in
theorem c_X9_visit0 {l : Launch} {D : va_G} {cy : Nat → ClassId} {d n : Nat} {f : sw_F} {s : Nat → Int32} {A : Nat → Nat → Int32} {o : Int64} {pr : Value} (hd : 2 ≤ d) {C : Nat} (hC : s 12 = nI C) (hCb : C ≤ 100) {j : Nat} {E : RQ} : sw_Ct l D cy mX9_visit d 0 0 [.ref 35, .int (nI j), .int (-1)] n (gd f (rqS s E) (rqA A E) E.1 o pr) (sw_D none n (gd f (rqS s E) (rqA A E) E.1 o pr)) := by
  refine sw_of rfl (Nat.le_of_ble_eq_true rfl) ?_
  show SW l D cy mX9_visit d 0 0 0 0 0 [(0, .ref 35), (1, .int (nI j)), (2, .int (-1))] [] n (gd f (rqS s E) (rqA A E) E.1 o pr) _ _
  refine sw_aload_n dX9_visit_0 rfl (by first | rfl | assumption) ?_
  refine sw_get dX9_visit_1 fr_X9_29 rfl rfl ?_
  refine sw_iload_n dX9_visit_4 rfl ?_
  refine sw_Vv dX9_visit_5 k_X9_89 mf_X0_has (by have z := c_X0_has (l := l) (D := D) (cy := cy) (d := d - 1) (n := n) (f := f) (s := rqS s E) (A := rqA A E) (B := E.1) (o := o) (pr := pr) (-1); rw [chs_m1] at z; exact z) rfl ⟨_, rfl, rfl⟩ (by omega) (by omega) (by omega) rfl rfl (Nat.le_of_ble_eq_true rfl) ?_
  refine sw_if_eq 40 dX9_visit_8 (by decide) (fun h8 => ?_) (fun h8 => ?_)
  · exact sw_vret dX9_visit_40 rfl (by omega) (by omega) ⟨rfl, rfl, rfl⟩
  · exact absurd rfl h8
theorem q_visit {l : Launch} {D : va_G} {cy : Nat → ClassId} {d n : Nat} {f : sw_F} {s : Nat → Int32} {A : Nat → Nat → Int32} {o : Int64} {pr : Value} (hd : 2 ≤ d) {C : Nat} (hC : s 12 = nI C) (hCb : C ≤ 100) (hW : HL (VA (A 29) (A 30)) C (A 32)) {j : Nat} (hj : j < C) {B0 : Nat → Nat → Int64} (hps : ∀ m, m < C → (msk B0 36 j m = true ↔ ¬ CE (VA (A 29) (A 30)) C j (nI m))) {E : RQ} (hJ : RJ (VA (A 29) (A 30)) C (A 32) j B0 E) {k w : Nat} (hk : k < C) (k0 : 0 ≤ A 32 k) (hw : w < 2) (hkj : k = j ∨ RG (VA (A 29) (A 30)) C (RGB (VA (A 29) (A 30)) C (A 32) j) j k) : sw_Ct l D cy mX9_visit d 0 0 [.ref 35, .int (nI j), .int (cnx s (A 29) (A 30) (nI k) (nI w))] n (gd f (rqS s E) (rqA A E) E.1 o pr) (fun r' n' f' => r' = none ∧ n' = n ∧ ∃ E', f' = (gd f (rqS s E') (rqA A E') E'.1 o pr) ∧ RJ (VA (A 29) (A 30)) C (A 32) j B0 E' ∧ RE C j E E' ∧ RD (VA (A 29) (A 30)) C (A 32) j k w E') := by
  rcases cnx_r (K := A 29) (E := A 30) hC hCb hk hw with ⟨e, hno⟩ | ⟨t, ht, e, et⟩
  · rw [e]
    refine sw_Ct_mono (fun r' n' f' hq => ?_) (c_X9_visit0 hd hC hCb)
    obtain ⟨h1, h2, h3⟩ := hq
    exact ⟨h1, h2, E, h3, hJ, RE_rfl E, fun t ht e => absurd e (hno t ht)⟩
  · rw [e]
    refine c_X9_visit hd hC hCb hj hps hJ hk hw hkj ht et ?_
    rcases (HL_RC hW k ⟨hk, k0⟩).2 w hw with z | ⟨t', ⟨ht', z0⟩, z⟩
    · rw [et] at z; exact absurd z (i32_nlt0 (by omega))
    · obtain rfl := nI_inj (by omega) (by omega) (et.symm.trans z)
      exact z0
set_option maxRecDepth 100000 in
theorem c_X9_visitNext {l : Launch} {D : va_G} {cy : Nat → ClassId} {d n : Nat} {f : sw_F} {s : Nat → Int32} {A : Nat → Nat → Int32} {o : Int64} {pr : Value} (hd : 3 ≤ d) {C : Nat} (hC : s 12 = nI C) (hCb : C ≤ 100) (hW : HL (VA (A 29) (A 30)) C (A 32)) {j : Nat} (hj : j < C) {B0 : Nat → Nat → Int64} (hps : ∀ m, m < C → (msk B0 36 j m = true ↔ ¬ CE (VA (A 29) (A 30)) C j (nI m))) {E : RQ} (hJ : RJ (VA (A 29) (A 30)) C (A 32) j B0 E) {k : Nat} (hk : k < C) (k0 : 0 ≤ A 32 k) (hkj : k = j ∨ RG (VA (A 29) (A 30)) C (RGB (VA (A 29) (A 30)) C (A 32) j) j k) : sw_Ct l D cy mX9_visitNext d 0 0 [.ref 35, .int (nI j), .int (nI k)] n (gd f (rqS s E) (rqA A E) E.1 o pr) (fun r' n' f' => r' = none ∧ n' = n ∧ ∃ E', f' = (gd f (rqS s E') (rqA A E') E'.1 o pr) ∧ RJ (VA (A 29) (A 30)) C (A 32) j B0 E' ∧ RE C j E E' ∧ ∀ w, w < 2 → RD (VA (A 29) (A 30)) C (A 32) j k w E') := by
  refine sw_of rfl (Nat.le_of_ble_eq_true rfl) ?_
  show SW l D cy mX9_visitNext d 0 0 0 0 0 [(0, .ref 35), (1, .int (nI j)), (2, .int (nI k))] [] n (gd f (rqS s E) (rqA A E) E.1 o pr) _ _
  refine sw_aload_n dX9_visitNext_0 rfl (by first | rfl | assumption) ?_
  refine sw_iload_n dX9_visitNext_1 rfl ?_
  refine sw_aload_n dX9_visitNext_2 rfl (by first | rfl | assumption) ?_
  refine sw_get dX9_visitNext_3 fr_X9_29 rfl rfl ?_
  refine sw_iload_n dX9_visitNext_6 rfl ?_
  refine sw_iconst (x := 0) dX9_visitNext_7 (by decide) ?_
  refine sw_Vv dX9_visitNext_8 k_X9_76 mf_X0_nextOf (c_X0_nextOf (d := d - 1) (s := rqS s E) (A := rqA A E) (B := E.1) (by omega) hC hCb (nI k) 0) rfl ⟨_, rfl, rfl⟩ (by omega) (by omega) (by omega) rfl rfl (Nat.le_of_ble_eq_true rfl) ?_
  refine sw_callV dX9_visitNext_11 k_X9_86 mf_X9_visit ⟨_, rfl, rfl⟩ rfl (q_visit (d := d - 1) (E := E) (w := 0) (by omega) hC hCb hW hj hps hJ hk k0 (by decide) hkj) (by omega) ⟨by omega, by omega⟩ rfl rfl (Nat.le_of_ble_eq_true rfl) (fun r' n' f' hq _ => ?_)
  obtain ⟨hr', hn, E1, hf', J1, X1, D1⟩ := hq
  have hn := hn.symm
  subst hn
  subst hr'
  subst hf'
  show SW l D cy mX9_visitNext d 0 0 0 0 14 [(0, .ref 35), (1, .int (nI j)), (2, .int (nI k))] [] n (gd f (rqS s E1) (rqA A E1) E1.1 o pr) _ _
  refine sw_aload_n dX9_visitNext_14 rfl (by first | rfl | assumption) ?_
  refine sw_iload_n dX9_visitNext_15 rfl ?_
  refine sw_aload_n dX9_visitNext_16 rfl (by first | rfl | assumption) ?_
  refine sw_get dX9_visitNext_17 fr_X9_29 rfl rfl ?_
  refine sw_iload_n dX9_visitNext_20 rfl ?_
  refine sw_iconst (x := 1) dX9_visitNext_21 (by decide) ?_
  refine sw_Vv dX9_visitNext_22 k_X9_76 mf_X0_nextOf (c_X0_nextOf (d := d - 1) (s := rqS s E1) (A := rqA A E1) (B := E1.1) (by omega) hC hCb (nI k) 1) rfl ⟨_, rfl, rfl⟩ (by omega) (by omega) (by omega) rfl rfl (Nat.le_of_ble_eq_true rfl) ?_
  refine sw_callV dX9_visitNext_25 k_X9_86 mf_X9_visit ⟨_, rfl, rfl⟩ rfl (q_visit (d := d - 1) (E := E1) (w := 1) (by omega) hC hCb hW hj hps J1 hk k0 (by decide) hkj) (by omega) ⟨by omega, by omega⟩ rfl rfl (Nat.le_of_ble_eq_true rfl) (fun r' n' f' hq _ => ?_)
  obtain ⟨hr', hn, E2, hf', J2, X2, D2⟩ := hq
  have hn := hn.symm
  subst hn
  subst hr'
  subst hf'
  show SW l D cy mX9_visitNext d 0 0 0 0 28 [(0, .ref 35), (1, .int (nI j)), (2, .int (nI k))] [] n (gd f (rqS s E2) (rqA A E2) E2.1 o pr) _ _
  exact sw_vret dX9_visitNext_28 rfl (by omega) (by omega) ⟨rfl, rfl, E2, rfl, J2, RE_tr X1 X2, fun w hw => by
    obtain rfl | rfl : w = 0 ∨ w = 1 := by omega
    · exact RD_e X2 D1
    · exact D2⟩
set_option maxRecDepth 100000 in
theorem l_X9_co {l : Launch} {D : va_G} {cy : Nat → ClassId} {d n : Nat} {f : sw_F} {s : Nat → Int32} {A : Nat → Nat → Int32} {o : Int64} {pr : Value} (hd : 4 ≤ d) {C : Nat} (hC : s 12 = nI C) (hCb : C ≤ 100) (hW : HL (VA (A 29) (A 30)) C (A 32)) {j : Nat} (hj : j < C) {B0 : Nat → Nat → Int64} (j0 : 0 ≤ A 32 j) (hps : ∀ m, m < C → (msk B0 36 j m = true ↔ ¬ CE (VA (A 29) (A 30)) C j (nI m))) {QX : sw_QX} : ∀ (c i : Nat) (E : RQ), i + c = 101 → RJ (VA (A 29) (A 30)) C (A 32) j B0 E → (∀ w, w < 2 → RD (VA (A 29) (A 30)) C (A 32) j j w E) → (∀ i', i' < i → i' < E.2.2 → ∀ m, m < C → E.2.1 i' = nI m → ∀ w, w < 2 → RD (VA (A 29) (A 30)) C (A 32) j m w E) → i ≤ E.2.2 → SW l D cy mX9_collect d 0 0 0 0 13 [(0, .ref 35), (1, .int (nI j)), (2, .int (nI (i)))] [] n (gd f (rqS s E) (rqA A E) E.1 o pr) (fun r' n' f' => r' = none ∧ n' = n ∧ ∃ E', f' = (gd f (rqS s E') (rqA A E') E'.1 o pr) ∧ (∀ q, ¬ q = 40 → ¬ q = 41 → E'.1 q = B0 q) ∧ (∀ r m, ¬ r = j → m < 128 → msk E'.1 39 r m = msk B0 39 r m) ∧ ∀ m, m < C → (msk E'.1 39 j m = true ↔ RG (VA (A 29) (A 30)) C (RGB (VA (A 29) (A 30)) C (A 32) j) j m)) QX := by
  intro c
  induction c with
  | zero =>
    intro i E hi hJ h0 h1 hle
    have := cnt_max (msk E.1 39 j) C
    have := hJ.2.2.1
    omega
  | succ c ih =>
    intro i E hi hJ h0 h1 hle
    have hr : E.2.2 ≤ 100 := by have := cnt_max (msk E.1 39 j) C; have := hJ.2.2.1; omega
    have fin : E.2.2 ≤ i → ∀ m, m < C → (msk E.1 39 j m = true ↔ RG (VA (A 29) (A 30)) C (RGB (VA (A 29) (A 30)) C (A 32) j) j m) := fun h => RJ_end hCb hJ h0 (fun i' hi' => h1 i' (by omega) hi')
    refine sw_iload_n dX9_collect_13 rfl ?_
    refine sw_bipush (x := 100) dX9_collect_14 (by decide) ?_
    refine sw_top nl_100 ?_
    refine sw_icmp_ge 44 dX9_collect_16 (by decide) (fun h16 => ?_) (fun h16 => ?_)
    · exact sw_vret dX9_collect_44 rfl (by omega) (by omega) ⟨rfl, rfl, E, rfl, hJ.1, hJ.2.1, fin (by have := (nI_leI (by omega) (by omega)).mp h16; omega)⟩
    · refine sw_iload_n dX9_collect_19 rfl ?_
      refine sw_aload_n dX9_collect_20 rfl (by first | rfl | assumption) ?_
      refine sw_get dX9_collect_21 fr_X9_25 rfl rfl ?_
      refine sw_top (y := nI E.2.2) rfl ?_
      refine sw_icmp_ge 44 dX9_collect_24 (by decide) (fun h24 => ?_) (fun h24 => ?_)
      · exact sw_vret dX9_collect_44 rfl (by omega) (by omega) ⟨rfl, rfl, E, rfl, hJ.1, hJ.2.1, fin (by exact (nI_leI (by omega) (by omega)).mp h24)⟩
      · have e1 : i < E.2.2 := (nI_ltI (by omega) (by omega)).mp (i32_nle.mp h24)
        obtain ⟨k, hk, ek, mk⟩ := hJ.2.2.2.1 i e1
        have kk := hJ.2.2.2.2.2 k hk mk
        refine sw_aload_n dX9_collect_27 rfl (by first | rfl | assumption) ?_
        refine sw_iload_n dX9_collect_28 rfl ?_
        refine sw_aload_n dX9_collect_29 rfl (by first | rfl | assumption) ?_
        refine sw_get dX9_collect_30 fr_X9_21 rfl rfl ?_
        refine sw_iload_n dX9_collect_33 rfl ?_
        refine sw_ialdN (i) dX9_collect_34 rfl rfl (show i < 100 by omega) (by decide) ?_
        refine sw_top (y := nI k) ek ?_
        refine sw_callV dX9_collect_35 k_X9_83 mf_X9_visitNext ⟨_, rfl, rfl⟩ rfl (c_X9_visitNext (d := d - 1) (by omega) hC hCb hW hj hps hJ hk kk.1 (Or.inr kk.2)) (by omega) ⟨by omega, by omega⟩ rfl rfl (Nat.le_of_ble_eq_true rfl) (fun r' n' f' hq _ => ?_)
        obtain ⟨hr', hn, E1, hf', J1, X1, D1⟩ := hq
        have hn := hn.symm
        subst hn
        subst hr'
        subst hf'
        show SW l D cy mX9_collect d 0 0 0 0 38 [(0, .ref 35), (1, .int (nI j)), (2, .int (nI (i)))] [] n (gd f (rqS s E1) (rqA A E1) E1.1 o pr) _ _
        first | refine sw_inc1 [(0, _), (1, _), (2, _)] dX9_collect_38 rfl (by decide) rfl ?_ | refine sw_iinc [(0, _), (1, _), (2, _)] dX9_collect_38 rfl (by decide) rfl ?_
        refine sw_goto 13 dX9_collect_41 (by decide) ?_
        refine ih (i + 1) E1 (by omega) J1 (fun w hw => RD_e X1 (h0 w hw)) (fun i' hi' hl m hm em w hw => ?_) (by have := X1.2.1; omega)
        by_cases u : i' = i
        · subst u
          rw [X1.2.2 i' e1, ek] at em
          obtain rfl := nI_inj (by omega) (by omega) em
          exact D1 w hw
        · have hl2 : i' < E.2.2 := by omega
          rw [X1.2.2 i' hl2] at em
          exact RD_e X1 (h1 i' (by omega) hl2 m hm em w hw)
set_option maxRecDepth 100000 in
theorem c_X9_collect {l : Launch} {D : va_G} {cy : Nat → ClassId} {d n : Nat} {f : sw_F} {s : Nat → Int32} {A : Nat → Nat → Int32} {o : Int64} {pr : Value} (hd : 4 ≤ d) {C : Nat} (hC : s 12 = nI C) (hCb : C ≤ 100) (hW : HL (VA (A 29) (A 30)) C (A 32)) {j : Nat} (hj : j < C) {B0 : Nat → Nat → Int64} (j0 : 0 ≤ A 32 j) (hps : ∀ m, m < C → (msk B0 36 j m = true ↔ ¬ CE (VA (A 29) (A 30)) C j (nI m))) (hempty : ∀ m, m < 128 → msk B0 39 j m = false) : sw_Ct l D cy mX9_collect d 0 0 [.ref 35, .int (nI j)] n (gd f s A B0 o pr) (fun r' n' f' => r' = none ∧ n' = n ∧ ∃ E', f' = (gd f (rqS s E') (rqA A E') E'.1 o pr) ∧ (∀ q, ¬ q = 40 → ¬ q = 41 → E'.1 q = B0 q) ∧ (∀ r m, ¬ r = j → m < 128 → msk E'.1 39 r m = msk B0 39 r m) ∧ ∀ m, m < C → (msk E'.1 39 j m = true ↔ RG (VA (A 29) (A 30)) C (RGB (VA (A 29) (A 30)) C (A 32) j) j m)) := by
  refine sw_of rfl (Nat.le_of_ble_eq_true rfl) ?_
  show SW l D cy mX9_collect d 0 0 0 0 0 [(0, .ref 35), (1, .int (nI j))] [] n (gd f s A B0 o pr) _ _
  have c0 : cntB (msk B0 39 j) C = 0 := by
    rw [cnt_cg C (q := fun _ => false) (fun i hi => hempty i (by omega))]
    clear hempty hps j0 hj hW hC
    induction C with
    | zero => rfl
    | succ c ih => rw [cntB, ih (by omega)]; rfl
  have hJ : RJ (VA (A 29) (A 30)) C (A 32) j B0 ((B0, A 42, 0) : RQ) := ⟨fun _ _ _ => rfl, fun _ _ _ _ => rfl, c0.symm, fun i hi => absurd hi (by show ¬ i < 0; omega), fun m hm q => absurd q (by show ¬ msk B0 39 j m = true; rw [hempty m (by omega)]; decide), fun m hm q => absurd q (by show ¬ msk B0 39 j m = true; rw [hempty m (by omega)]; decide)⟩
  refine sw_aload_n dX9_collect_0 rfl (by first | rfl | assumption) ?_
  refine sw_iconst (x := 0) dX9_collect_1 (by decide) ?_
  refine g_put 14 dX9_collect_2 fl_X9_25 rfl ⟨by decide, rfl⟩ rfl (Nat.le_of_ble_eq_true rfl) (sw_fit_i _) rfl ?_
  refine sw_aload_n dX9_collect_5 rfl (by first | rfl | assumption) ?_
  refine sw_iload_n dX9_collect_6 rfl ?_
  refine sw_iload_n dX9_collect_7 rfl ?_
  refine g_eq (s' := rqS s ((B0, A 42, 0) : RQ)) (A' := rqA A ((B0, A 42, 0) : RQ)) rfl (vu_id A 42).symm rfl ?_
  refine sw_callV dX9_collect_8 k_X9_83 mf_X9_visitNext ⟨_, rfl, rfl⟩ rfl (c_X9_visitNext (d := d - 1) (E := ((B0, A 42, 0) : RQ)) (by omega) hC hCb hW hj hps hJ hj j0 (Or.inl rfl)) (by omega) ⟨by omega, by omega⟩ rfl rfl (Nat.le_of_ble_eq_true rfl) (fun r' n' f' hq _ => ?_)
  obtain ⟨hr', hn, E1, hf', J1, X1, D1⟩ := hq
  have hn := hn.symm
  subst hn
  subst hr'
  subst hf'
  show SW l D cy mX9_collect d 0 0 0 0 11 [(0, .ref 35), (1, .int (nI j))] [] n (gd f (rqS s E1) (rqA A E1) E1.1 o pr) _ _
  refine sw_iconst (x := 0) dX9_collect_11 (by decide) ?_
  refine sw_istore_n [(0, _), (1, _), (2, _)] dX9_collect_12 (by decide) rfl ?_
  exact l_X9_co hd hC hCb hW hj j0 hps 101 0 E1 (by omega) J1 D1 (fun i' hi' => absurd hi' (by omega)) (by omega)
set_option maxRecDepth 100000 in
theorem c_X9_has {l : Launch} {D : va_G} {cy : Nat → ClassId} {d n : Nat} {f : sw_F} {s : Nat → Int32} {A : Nat → Nat → Int32} {B : Nat → Nat → Int64} {o : Int64} {pr : Value} (hd : 2 ≤ d) {r m : Nat} (hr : r < 100) (hm : m < 100) : sw_Ct l D cy mX9_has d 0 0 [.ref 35, .int (nI r), .int (nI m)] n (gd f s A B o pr) (sw_D (some (.int (bz (msk B 39 r m)))) n (gd f s A B o pr)) := by
  refine sw_of rfl (Nat.le_of_ble_eq_true rfl) ?_
  show SW l D cy mX9_has d 0 0 0 0 0 [(0, .ref 35), (1, .int (nI r)), (2, .int (nI m))] [] n (gd f s A B o pr) _ _
  refine sw_aload_n dX9_has_0 rfl (by first | rfl | assumption) ?_
  refine sw_get dX9_has_1 fr_X9_18 rfl rfl ?_
  refine sw_iload_n dX9_has_4 rfl ?_
  refine sw_iload_n dX9_has_5 rfl ?_
  refine sw_Vv dX9_has_6 k_X9_63 mf_X5_has (c_X5_has39 (d := d - 1) (by omega) hr hm) rfl ⟨_, rfl, rfl⟩ (by omega) (by omega) (by omega) rfl rfl (Nat.le_of_ble_eq_true rfl) ?_
  exact sw_iret dX9_has_9 rfl (by first | rfl | exact bz_n _) (by omega) (by omega) ⟨rfl, rfl, rfl⟩
set_option maxRecDepth 100000 in
theorem l_X9_wo {l : Launch} {D : va_G} {cy : Nat → ClassId} {d n : Nat} {f : sw_F} {s : Nat → Int32} {A : Nat → Nat → Int32} {o : Int64} {pr : Value} (hd : 5 ≤ d) {C : Nat} (hC : s 12 = nI C) (hCb : C ≤ 100) (hW : HL (VA (A 29) (A 30)) C (A 32)) {QX : sw_QX} : ∀ (c k : Nat) (B' : Nat → Nat → Int64) (Qu : Nat → Int32) (r : Int32), k ≤ C → C < k + c → (∀ j, j < C → 0 ≤ A 32 j → ∀ m, m < C → (msk B' 36 j m = true ↔ ¬ CE (VA (A 29) (A 30)) C j (nI m))) → (∀ j, j < k → 0 ≤ A 32 j → A 29 j = 7 → ∀ m, m < C → (msk B' 39 j m = true ↔ RG (VA (A 29) (A 30)) C (RGB (VA (A 29) (A 30)) C (A 32) j) j m)) → SW l D cy mX9_workOut d 0 0 0 0 6 [(0, .ref 35), (1, .int (nI (k)))] [] n (gd f (va_up s 14 r) (va_up A 42 Qu) B' o pr) (fun r' n' f' => r' = none ∧ n' = n ∧ ∃ B' Qu r, f' = (gd f (va_up s 14 r) (va_up A 42 Qu) B' o pr) ∧ (∀ j, j < C → 0 ≤ A 32 j → A 29 j = 7 → ∀ m, m < C → (msk B' 39 j m = true ↔ RG (VA (A 29) (A 30)) C (RGB (VA (A 29) (A 30)) C (A 32) j) j m))) QX := by
  intro c
  induction c with
  | zero => intro k B' Qu r h1 h2; exact absurd h2 (by omega)
  | succ c ih =>
    intro k B' Qu r hk hc hP hR
    refine sw_iload_n dX9_workOut_6 rfl ?_
    refine sw_aload_n dX9_workOut_7 rfl (by first | rfl | assumption) ?_
    refine sw_get dX9_workOut_8 fr_X9_29 rfl rfl ?_
    refine sw_Vv dX9_workOut_11 k_X9_40 mf_X0_size (c_X0_size (d := d - 1) (s := va_up s 14 r) (A := va_up A 42 Qu) (B := B')) rfl ⟨_, rfl, rfl⟩ (by omega) (by omega) (by omega) rfl rfl (Nat.le_of_ble_eq_true rfl) ?_
    refine sw_top (y := nI C) hC ?_
    refine sw_icmp_ge 62 dX9_workOut_14 (by decide) (fun h14 => ?_) (fun h14 => ?_)
    · exact sw_vret dX9_workOut_62 rfl (by omega) (by omega) ⟨rfl, rfl, B', Qu, r, rfl, fun j hj => hR j (by have := (nI_leI (by omega) (by omega)).mp h14; omega)⟩
    · have e1 : k < C := (nI_ltI (by omega) (by omega)).mp (i32_nle.mp h14)
      refine sw_aload_n dX9_workOut_17 rfl (by first | rfl | assumption) ?_
      refine sw_get dX9_workOut_18 fr_X9_18 rfl rfl ?_
      refine sw_iload_n dX9_workOut_21 rfl ?_
      refine sw_iconst (x := 0) dX9_workOut_22 (by decide) ?_
      refine sw_callV dX9_workOut_23 k_X9_46 mf_X5_refill ⟨_, rfl, rfl⟩ rfl (c_X5_refill39 (d := d - 1) (s := va_up s 14 r) (A := va_up A 42 Qu) (B := B') (by omega) (show k < 100 by omega) false) (by omega) ⟨by omega, by omega⟩ rfl rfl (Nat.le_of_ble_eq_true rfl) (fun r' n' f' hq _ => ?_)
      obtain ⟨hr', hn, B1, hf', z1, z2⟩ := hq
      have hn := hn.symm
      subst hn
      subst hr'
      subst hf'
      have hP1 : (∀ j, j < C → 0 ≤ A 32 j → ∀ m, m < C → (msk B1 36 j m = true ↔ ¬ CE (VA (A 29) (A 30)) C j (nI m))) := fun j hj j0 m hm => by
        have e : msk B1 36 j m = msk B' 36 j m := by unfold msk; rw [z1 37 (by decide) (by decide), z1 38 (by decide) (by decide)]
        rw [e]; exact hP j hj j0 m hm
      have skip : ¬ (0 ≤ A 32 k ∧ A 29 k = 7) → (∀ j, j < k + 1 → 0 ≤ A 32 j → A 29 j = 7 → ∀ m, m < C → (msk B1 39 j m = true ↔ RG (VA (A 29) (A 30)) C (RGB (VA (A 29) (A 30)) C (A 32) j) j m)) := fun hs j hj j0 h7 m hm => by
        by_cases u : j = k
        · subst u; exact absurd ⟨j0, h7⟩ hs
        · rw [z2 j m (by omega), if_neg u]
          exact hR j (by omega) j0 h7 m hm
      show SW l D cy mX9_workOut d 0 0 0 0 26 [(0, .ref 35), (1, .int (nI (k)))] [] n (gd f (va_up s 14 r) (va_up A 42 Qu) B1 o pr) _ _
      refine sw_aload_n dX9_workOut_26 rfl (by first | rfl | assumption) ?_
      refine sw_get dX9_workOut_27 fr_X9_33 rfl rfl ?_
      refine sw_iload_n dX9_workOut_30 rfl ?_
      refine sw_Vv dX9_workOut_31 k_X9_50 mf_X10_heightAt (c_X10_heightAt (d := d - 1) (s := va_up s 14 r) (A := va_up A 42 Qu) (B := B1) (by omega) hC hCb (nI k)) rfl ⟨_, rfl, rfl⟩ (by omega) (by omega) (by omega) rfl rfl (Nat.le_of_ble_eq_true rfl) ?_
      refine sw_top (y := A 32 k) (cat_n hC hCb e1) ?_
      refine sw_iconst (x := (-1)) dX9_workOut_34 (by decide) ?_
      refine sw_icmp_eq 56 dX9_workOut_35 (by decide) (fun h35 => ?_) (fun h35 => ?_)
      · first | refine sw_inc1 [(0, _), (1, _)] dX9_workOut_56 rfl (by decide) rfl ?_ | refine sw_iinc [(0, _), (1, _)] dX9_workOut_56 rfl (by decide) rfl ?_
        refine sw_goto 6 dX9_workOut_59 (by decide) ?_
        exact ih (k + 1) B1 Qu r (by omega) (by omega) hP1 (skip (fun z => absurd z.1 (by rw [h35]; decide)))
      · refine sw_aload_n dX9_workOut_38 rfl (by first | rfl | assumption) ?_
        refine sw_get dX9_workOut_39 fr_X9_29 rfl rfl ?_
        refine sw_iload_n dX9_workOut_42 rfl ?_
        refine sw_Vv dX9_workOut_43 k_X9_56 mf_X0_kindAt (c_X0_kindAt (d := d - 1) (s := va_up s 14 r) (A := va_up A 42 Qu) (B := B1) (by omega) hC hCb (nI k)) rfl ⟨_, rfl, rfl⟩ (by omega) (by omega) (by omega) rfl rfl (Nat.le_of_ble_eq_true rfl) ?_
        refine sw_top (y := A 29 k) (cat_n hC hCb e1) ?_
        refine sw_bipush (x := 7) dX9_workOut_46 (by decide) ?_
        refine sw_icmp_ne 56 dX9_workOut_48 (by decide) (fun h48 => ?_) (fun h48 => ?_)
        · first | refine sw_inc1 [(0, _), (1, _)] dX9_workOut_56 rfl (by decide) rfl ?_ | refine sw_iinc [(0, _), (1, _)] dX9_workOut_56 rfl (by decide) rfl ?_
          refine sw_goto 6 dX9_workOut_59 (by decide) ?_
          exact ih (k + 1) B1 Qu r (by omega) (by omega) hP1 (skip (fun z => h48 z.2))
        · have a0 : 0 ≤ A 32 k := by rcases hW.2.1 k (by omega) with z | ⟨q, hq, z⟩; exact absurd z h35; exact (m1_not hq z).2
          refine sw_aload_n dX9_workOut_51 rfl (by first | rfl | assumption) ?_
          refine sw_iload_n dX9_workOut_52 rfl ?_
          refine sw_callV dX9_workOut_53 k_X9_59 mf_X9_collect ⟨_, rfl, rfl⟩ rfl (c_X9_collect (d := d - 1) (s := va_up s 14 r) (A := va_up A 42 Qu) (B0 := B1) (by omega) hC hCb hW e1 a0 (hP1 k e1 a0) (fun m hm => by rw [z2 k m hm, if_pos rfl])) (by omega) ⟨by omega, by omega⟩ rfl rfl (Nat.le_of_ble_eq_true rfl) (fun r' n' f' hq _ => ?_)
          obtain ⟨hr', hn, E, hf', y1, y2, y3⟩ := hq
          have hn := hn.symm
          subst hn
          subst hr'
          subst hf'
          show SW l D cy mX9_workOut d 0 0 0 0 56 [(0, .ref 35), (1, .int (nI (k)))] [] n (gd f (rqS (va_up s 14 r) E) (rqA (va_up A 42 Qu) E) E.1 o pr) _ _
          refine g_eq (s' := va_up s 14 (nI E.2.2)) (A' := va_up A 42 E.2.1) (vu_up _ _ _ _) (vu_up _ _ _ _) rfl ?_
          first | refine sw_inc1 [(0, _), (1, _)] dX9_workOut_56 rfl (by decide) rfl ?_ | refine sw_iinc [(0, _), (1, _)] dX9_workOut_56 rfl (by decide) rfl ?_
          refine sw_goto 6 dX9_workOut_59 (by decide) ?_
          refine ih (k + 1) E.1 E.2.1 (nI E.2.2) (by omega) (by omega) (fun j hj j0 m hm => ?_) (fun j hj j0 h7 m hm => ?_)
          · have e : msk E.1 36 j m = msk B1 36 j m := by unfold msk; rw [y1 37 (by decide) (by decide), y1 38 (by decide) (by decide)]
            rw [e]; exact hP1 j hj j0 m hm
          · by_cases u : j = k
            · subst u; exact y3 m hm
            · rw [y2 j m u (by omega), z2 j m (by omega), if_neg u]
              exact hR j (by omega) j0 h7 m hm
set_option maxRecDepth 100000 in
theorem c_X9_workOut {l : Launch} {D : va_G} {cy : Nat → ClassId} {d n : Nat} {f : sw_F} {s : Nat → Int32} {A : Nat → Nat → Int32} {B : Nat → Nat → Int64} {o : Int64} {pr : Value} (hd : 5 ≤ d) {C : Nat} (hC : s 12 = nI C) (hCb : C ≤ 100) (hW : HL (VA (A 29) (A 30)) C (A 32)) : sw_Ct l D cy mX9_workOut d 0 0 [.ref 35] n (gd f s A B o pr) (fun r' n' f' => r' = none ∧ n' = n ∧ ∃ B' Qu r, f' = (gd f (va_up s 14 r) (va_up A 42 Qu) B' o pr) ∧ (∀ j, j < C → 0 ≤ A 32 j → A 29 j = 7 → ∀ m, m < C → (msk B' 39 j m = true ↔ RG (VA (A 29) (A 30)) C (RGB (VA (A 29) (A 30)) C (A 32) j) j m))) := by
  refine sw_of rfl (Nat.le_of_ble_eq_true rfl) ?_
  show SW l D cy mX9_workOut d 0 0 0 0 0 [(0, .ref 35)] [] n (gd f s A B o pr) _ _
  refine sw_aload_n dX9_workOut_0 rfl (by first | rfl | assumption) ?_
  refine sw_callV dX9_workOut_1 k_X9_37 mf_X9_findPassed ⟨_, rfl, rfl⟩ rfl (c_X9_findPassed (d := d - 1) (by omega) hC hCb hW) (by omega) ⟨by omega, by omega⟩ rfl rfl (Nat.le_of_ble_eq_true rfl) (fun r' n' f' hq _ => ?_)
  obtain ⟨hr', hn, B1, hf', z1, z2⟩ := hq
  have hn := hn.symm
  subst hn
  subst hr'
  subst hf'
  show SW l D cy mX9_workOut d 0 0 0 0 4 [(0, .ref 35)] [] n (gd f s A B1 o pr) _ _
  refine sw_iconst (x := 0) dX9_workOut_4 (by decide) ?_
  refine sw_istore_n [(0, _), (1, _)] dX9_workOut_5 (by decide) rfl ?_
  refine g_eq (s' := va_up s 14 (s 14)) (A' := va_up A 42 (A 42)) (vu_id _ _).symm (vu_id _ _).symm rfl ?_
  exact l_X9_wo hd hC hCb hW (C + 1) 0 B1 (A 42) (s 14) (by omega) (by omega) z2 (fun j hj => absurd hj (by omega))
