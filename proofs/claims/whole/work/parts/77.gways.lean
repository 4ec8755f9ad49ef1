/-! ===== THE CLASS: Shape, the ways ===== -/
def CWK (C : Nat) (W : CW) : Prop := W.2.2 + unh W.1 C = C ∧ ∀ k, k < C → W.1 k = -1 ∨ ∃ h, h ≤ 8 ∧ W.1 k = nI h
theorem unh_1 {S : Nat → Int32} {t c : Nat} (h0 : S t < 0) (ht : t < c) : 0 < unh S c := by
  have := unh_up (S := S) (t := t) (x := 0) (by decide) h0 c ht
  omega
theorem cwk_r {C : Nat} {W : CW} (h : CWK C W) (hC : C ≤ 100) {t : Nat} (ht : t < C) : W.1 t = -1 → W.2.2 < 100 := fun q => by
  have := unh_1 (S := W.1) (t := t) (c := C) (by rw [q]; decide) ht
  have := h.1
  omega
theorem cps_ok {C : Nat} {W : CW} {t q : Nat} (h : CWK C W) (ht : t < C) (hq : q ≤ 8) : CWK C (cps W t (nI q)) := by
  unfold cps
  by_cases c : W.1 t = -1
  · rw [if_pos c]
    have h1 := unh_up (S := W.1) (t := t) (x := nI q) (i32_nlt0 (by omega)) (by rw [c]; decide) C ht
    refine ⟨?_, fun k hk => ?_⟩
    · show W.2.2 + 1 + unh (upd W.1 t (nI q)) C = C
      have := h.1
      omega
    · show upd W.1 t (nI q) k = -1 ∨ _
      by_cases c2 : k = t
      · subst c2
        exact Or.inr ⟨q, hq, upd_at _ _ _⟩
      · have e := upd_ne W.1 (t := t) (k := k) (nI q) c2
        rw [e]
        rcases h.2 k hk with z | ⟨x, hx, z⟩
        · exact Or.inl z
        · exact Or.inr ⟨x, hx, by show upd W.1 t (nI q) k = nI x; rw [e]; exact z⟩
  · rw [if_neg c]; exact h
theorem aft_i {j : Nat} {w : Int32} (hj : j ≤ 8) (h1 : ¬ nI j < r_tb w) (h2 : ¬ 8 < nI j - r_tb w + r_gb w) : ∃ q, q ≤ 8 ∧ nI j - r_tb w + r_gb w = nI q := by
  have e : ∃ i, i ≤ 8 ∧ nI j - r_tb w = nI i := by
    rcases tb_3 w with h | h | h
    · exact ⟨j, hj, by rw [h]; exact Int32.sub_zero _⟩
    · rw [h] at h1 ⊢
      have : 1 ≤ j := by
        rw [nl_1, nI_ltI (by omega) (by omega)] at h1; omega
      exact ⟨j - 1, by omega, sb_1 (by omega)⟩
    · rw [h] at h1 ⊢
      have : 2 ≤ j := by
        rw [nl_2, nI_ltI (by omega) (by omega)] at h1; omega
      exact ⟨j - 2, by omega, by rw [nl_2]; exact nI_sub this⟩
  obtain ⟨i, hi, e⟩ := e
  rw [e] at h2 ⊢
  rcases gb_2 w with h | h
  · rw [h] at h2 ⊢
    exact ⟨i, hi, Int32.add_zero _⟩
  · rw [h] at h2 ⊢
    rw [nI_1] at h2 ⊢
    rw [nl_8, nI_ltI (by omega) (by omega)] at h2
    exact ⟨i + 1, by omega, rfl⟩
theorem pl_t {K E : Nat → Int32} {C k : Nat} (hp : PL (VA K E) C) (hC : C ≤ 100) (hk : k < C) (h : K k = 7 ∨ K k = 8) : (E k).toNatClampNeg < C ∧ E k = nI (E k).toNatClampNeg := by
  have h1 := (hp.2 k hk).2.2.2 h
  obtain ⟨t, ht, e⟩ := nI_of2 (M := nI C) (n := C) (nI_toInt (by omega)) (Int32.not_lt.mpr h1.1) (Int32.le_of_lt h1.2)
  have e : E k = nI t := e
  have h2 : E k < nI C := h1.2
  rw [e, nI_clamp (by omega)]
  rw [e, nI_ltI (by omega) (by omega)] at h2
  exact ⟨h2, rfl⟩
theorem cnx_7n {s : Nat → Int32} {K E : Nat → Int32} {C k : Nat} (hs : s 12 = nI C) (hC : C ≤ 100) (hk : k < C) (h8 : ¬ K k = 8) (h9 : ¬ K k = 9) (h : C ≤ k + 1) : cnx s K E (nI k) 0 = -1 := by
  unfold cnx
  rw [if_pos (chs_n hs hC hk), cnw_1 (by omega) h8 h9, if_neg (by rw [chs_no hs hC (by omega) (by omega)]; decide)]
set_option maxRecDepth 100000 in
theorem c_X10_goesOnWell {l : Launch} {D : va_G} {cy : Nat → ClassId} {d n : Nat} {f : sw_F} {s : Nat → Int32} {A : Nat → Nat → Int32} {B : Nat → Nat → Int64} {o : Int64} {pr : Value} (hd : 2 ≤ d) {C : Nat} (hC : s 12 = nI C) (hCb : C ≤ 100) (hp : PL (VA (A 29) (A 30)) C) (W : CW) (hW : CWK C W) {k : Nat} (hk : k < C) (hj : ∃ j, j ≤ 8 ∧ W.1 k = nI j) : sw_Ct l D cy mX10_goesOnWell d 0 0 [.ref 31, .int (nI k)] n (gd f (hwS s W) (hwA A W) B o pr) (sw_D (some (.int (bz (cgw C (A 29) (A 30) W k).1))) n (gd f (hwS s (cgw C (A 29) (A 30) W k).2) (hwA A (cgw C (A 29) (A 30) W k).2) B o pr)) := by
  refine sw_of rfl (Nat.le_of_ble_eq_true rfl) ?_
  show SW l D cy mX10_goesOnWell d 0 0 0 0 0 [(0, .ref 31), (1, .int (nI k))] [] n (gd f (hwS s W) (hwA A W) B o pr) _ _
  by_cases c9 : A 29 k = 9
  · skip
    refine sw_aload_n dX10_goesOnWell_0 rfl (by first | rfl | assumption) ?_
    refine sw_get dX10_goesOnWell_1 fr_X10_26 rfl rfl ?_
    refine sw_iload_n dX10_goesOnWell_4 rfl ?_
    refine sw_Vv dX10_goesOnWell_5 k_X10_50 mf_X0_kindAt (by have z := c_X0_kindAt (l := l) (D := D) (cy := cy) (d := d - 1) (n := n) (f := f) (s := hwS s W) (A := hwA A W) (B := B) (o := o) (pr := pr) (by omega) hC hCb (nI k); rw [show cat (hwS s W) (hwA A W 29) (nI k) = A 29 k from cat_n hC hCb hk] at z; exact z) rfl ⟨_, rfl, rfl⟩ (by omega) (by omega) (by omega) rfl rfl (Nat.le_of_ble_eq_true rfl) ?_
    refine sw_istore_n [(0, _), (1, _), (2, _)] dX10_goesOnWell_8 (by decide) rfl ?_
    refine sw_iload_n dX10_goesOnWell_9 rfl ?_
    refine sw_bipush (x := 9) dX10_goesOnWell_10 (by decide) ?_
    refine sw_icmp_ne 30 dX10_goesOnWell_12 (by decide) (fun h12 => ?_) (fun h12 => ?_)
    · exact absurd c9 h12
    · refine sw_aload_n dX10_goesOnWell_15 rfl (by first | rfl | assumption) ?_
      refine sw_get dX10_goesOnWell_16 fr_X10_9 rfl rfl ?_
      refine sw_iload_n dX10_goesOnWell_19 rfl ?_
      refine sw_ialdN (k) dX10_goesOnWell_20 rfl rfl (show k < 100 by omega) (by decide) ?_
      refine sw_top (y := W.1 k) rfl ?_
      refine sw_if_ne 28 dX10_goesOnWell_21 (by decide) (fun h21 => ?_) (fun h21 => ?_)
      · refine sw_iconst (x := 0) dX10_goesOnWell_28 (by decide) ?_
        exact sw_iret dX10_goesOnWell_29 rfl (by first | rfl | exact bz_n _) (by omega) (by omega) ⟨by rw [cgw, if_pos c9, decide_eq_false h21]; rfl, rfl, by rw [cgw, if_pos c9]⟩
      · refine sw_iconst (x := 1) dX10_goesOnWell_24 (by decide) ?_
        refine sw_goto 29 dX10_goesOnWell_25 (by decide) ?_
        exact sw_iret dX10_goesOnWell_29 rfl (by first | rfl | exact bz_n _) (by omega) (by omega) ⟨by rw [cgw, if_pos c9, decide_eq_true h21]; rfl, rfl, by rw [cgw, if_pos c9]⟩
  · by_cases c8 : A 29 k = 8
    · have c7 : ¬ A 29 k = 7 := by rw [c8]; decide
      have ht := (pl_t hp hCb hk (Or.inr c8)).1
      refine sw_aload_n dX10_goesOnWell_0 rfl (by first | rfl | assumption) ?_
      refine sw_get dX10_goesOnWell_1 fr_X10_26 rfl rfl ?_
      refine sw_iload_n dX10_goesOnWell_4 rfl ?_
      refine sw_Vv dX10_goesOnWell_5 k_X10_50 mf_X0_kindAt (by have z := c_X0_kindAt (l := l) (D := D) (cy := cy) (d := d - 1) (n := n) (f := f) (s := hwS s W) (A := hwA A W) (B := B) (o := o) (pr := pr) (by omega) hC hCb (nI k); rw [show cat (hwS s W) (hwA A W 29) (nI k) = A 29 k from cat_n hC hCb hk] at z; exact z) rfl ⟨_, rfl, rfl⟩ (by omega) (by omega) (by omega) rfl rfl (Nat.le_of_ble_eq_true rfl) ?_
      refine sw_istore_n [(0, _), (1, _), (2, _)] dX10_goesOnWell_8 (by decide) rfl ?_
      refine sw_iload_n dX10_goesOnWell_9 rfl ?_
      refine sw_bipush (x := 9) dX10_goesOnWell_10 (by decide) ?_
      refine sw_icmp_ne 30 dX10_goesOnWell_12 (by decide) (fun h12 => ?_) (fun h12 => ?_)
      · refine sw_aload_n dX10_goesOnWell_30 rfl (by first | rfl | assumption) ?_
        refine sw_get dX10_goesOnWell_31 fr_X10_9 rfl rfl ?_
        refine sw_iload_n dX10_goesOnWell_34 rfl ?_
        refine sw_ialdN (k) dX10_goesOnWell_35 rfl rfl (show k < 100 by omega) (by decide) ?_
        refine sw_top (y := W.1 k) rfl ?_
        refine sw_iload_n dX10_goesOnWell_36 rfl ?_
        refine sw_Sv dX10_goesOnWell_37 k_X10_63 mf_X10_taken (c_X10_taken (d := d - 1) (by omega) _) (by omega) (by omega) (by omega) rfl rfl (Nat.le_of_ble_eq_true rfl) ?_
        refine sw_isub dX10_goesOnWell_40 ?_
        refine sw_iload_n dX10_goesOnWell_41 rfl ?_
        refine sw_Sv dX10_goesOnWell_42 k_X10_66 mf_X10_given (c_X10_given (d := d - 1) (by omega) (A 29 k) (hp.2 k hk).1) (by omega) (by omega) (by omega) rfl rfl (Nat.le_of_ble_eq_true rfl) ?_
        refine sw_iadd dX10_goesOnWell_45 ?_
        refine sw_istore_n [(0, _), (1, _), (2, _), (3, _)] dX10_goesOnWell_46 (by decide) rfl ?_
        refine sw_aload_n dX10_goesOnWell_47 rfl (by first | rfl | assumption) ?_
        refine sw_get dX10_goesOnWell_48 fr_X10_9 rfl rfl ?_
        refine sw_iload_n dX10_goesOnWell_51 rfl ?_
        refine sw_ialdN (k) dX10_goesOnWell_52 rfl rfl (show k < 100 by omega) (by decide) ?_
        refine sw_top (y := W.1 k) rfl ?_
        refine sw_iload_n dX10_goesOnWell_53 rfl ?_
        refine sw_Sv dX10_goesOnWell_54 k_X10_63 mf_X10_taken (c_X10_taken (d := d - 1) (by omega) _) (by omega) (by omega) (by omega) rfl rfl (Nat.le_of_ble_eq_true rfl) ?_
        refine sw_icmp_lt 79 dX10_goesOnWell_57 (by decide) (fun h57 => ?_) (fun h57 => ?_)
        · refine sw_iconst (x := 0) dX10_goesOnWell_79 (by decide) ?_
          exact sw_iret dX10_goesOnWell_80 rfl (by first | rfl | exact bz_n _) (by omega) (by omega) ⟨by rw [cgw, if_neg c9, if_pos (Or.inl h57)]; rfl, rfl, by rw [cgw, if_neg c9, if_pos (Or.inl h57)]⟩
        · have e1 := h57
          refine sw_iload_n dX10_goesOnWell_60 rfl ?_
          refine sw_bipush (x := 8) dX10_goesOnWell_61 (by decide) ?_
          refine sw_icmp_gt 79 dX10_goesOnWell_63 (by decide) (fun h63 => ?_) (fun h63 => ?_)
          · refine sw_iconst (x := 0) dX10_goesOnWell_79 (by decide) ?_
            exact sw_iret dX10_goesOnWell_80 rfl (by first | rfl | exact bz_n _) (by omega) (by omega) ⟨by rw [cgw, if_neg c9, if_pos (Or.inr (Or.inl h63))]; rfl, rfl, by rw [cgw, if_neg c9, if_pos (Or.inr (Or.inl h63))]⟩
          · refine sw_aload_n dX10_goesOnWell_66 rfl (by first | rfl | assumption) ?_
            refine sw_get dX10_goesOnWell_67 fr_X10_26 rfl rfl ?_
            refine sw_iload_n dX10_goesOnWell_70 rfl ?_
            refine sw_iconst (x := 0) dX10_goesOnWell_71 (by decide) ?_
            refine sw_Vv dX10_goesOnWell_72 k_X10_69 mf_X0_nextOf (by have z := c_X0_nextOf (l := l) (D := D) (cy := cy) (d := d - 1) (n := n) (f := f) (s := (hwS s W)) (A := (hwA A W)) (B := B) (o := o) (pr := pr) (by omega) hC hCb (nI k) 0; rw [show cnx (hwS s W) ((hwA A W) 29) ((hwA A W) 30) (nI k) 0 = nI ((A 30 k).toNatClampNeg) from cnx_i hC hCb hk ht ((cnw_8 (by omega) c8).trans (pl_t hp hCb hk (Or.inr c8)).2)] at z; exact z) rfl ⟨_, rfl, rfl⟩ (by omega) (by omega) (by omega) rfl rfl (Nat.le_of_ble_eq_true rfl) ?_
            refine sw_iconst (x := (-1)) dX10_goesOnWell_75 (by decide) ?_
            refine sw_icmp_ne 81 dX10_goesOnWell_76 (by decide) (fun h76 => ?_) (fun h76 => ?_)
            · obtain ⟨q, hq8, hq⟩ : ∃ q, q ≤ 8 ∧ (W.1 k - r_tb (A 29 k) + r_gb (A 29 k)) = nI q := by obtain ⟨j, hj, ej⟩ := hj; rw [ej] at h57 h63 ⊢; exact aft_i hj h57 h63
              have k1 := cps_ok hW ht hq8
              rw [← hq] at k1
              have nb : ¬ (W.1 k < r_tb (A 29 k) ∨ 8 < (W.1 k - r_tb (A 29 k) + r_gb (A 29 k)) ∨ (¬ A 29 k = 8 ∧ C ≤ k + 1)) := fun z => z.elim h57 (fun z => z.elim h63 (fun z => z.1 c8))
              have gw : (cgw C (A 29) (A 30) W k) = (if ¬ (cps W ((A 30 k).toNatClampNeg) (W.1 k - r_tb (A 29 k) + r_gb (A 29 k))).1 ((A 30 k).toNatClampNeg) = (W.1 k - r_tb (A 29 k) + r_gb (A 29 k)) then (false, (cps W ((A 30 k).toNatClampNeg) (W.1 k - r_tb (A 29 k) + r_gb (A 29 k)))) else if A 29 k = 7 then (decide ((cps (cps W ((A 30 k).toNatClampNeg) (W.1 k - r_tb (A 29 k) + r_gb (A 29 k))) (A 30 k).toNatClampNeg (W.1 k - r_tb (A 29 k) + r_gb (A 29 k))).1 (A 30 k).toNatClampNeg = (W.1 k - r_tb (A 29 k) + r_gb (A 29 k))), cps (cps W ((A 30 k).toNatClampNeg) (W.1 k - r_tb (A 29 k) + r_gb (A 29 k))) (A 30 k).toNatClampNeg (W.1 k - r_tb (A 29 k) + r_gb (A 29 k))) else (true, (cps W ((A 30 k).toNatClampNeg) (W.1 k - r_tb (A 29 k) + r_gb (A 29 k))))) := by unfold cgw; rw [if_neg c9, if_neg nb, show (if A 29 k = 8 then (A 30 k).toNatClampNeg else k + 1) = (A 30 k).toNatClampNeg from if_pos c8]
              refine sw_aload_n dX10_goesOnWell_81 rfl (by first | rfl | assumption) ?_
              refine sw_aload_n dX10_goesOnWell_82 rfl (by first | rfl | assumption) ?_
              refine sw_get dX10_goesOnWell_83 fr_X10_26 rfl rfl ?_
              refine sw_iload_n dX10_goesOnWell_86 rfl ?_
              refine sw_iconst (x := 0) dX10_goesOnWell_87 (by decide) ?_
              refine sw_Vv dX10_goesOnWell_88 k_X10_69 mf_X0_nextOf (by have z := c_X0_nextOf (l := l) (D := D) (cy := cy) (d := d - 1) (n := n) (f := f) (s := (hwS s W)) (A := (hwA A W)) (B := B) (o := o) (pr := pr) (by omega) hC hCb (nI k) 0; rw [show cnx (hwS s W) ((hwA A W) 29) ((hwA A W) 30) (nI k) 0 = nI ((A 30 k).toNatClampNeg) from cnx_i hC hCb hk ht ((cnw_8 (by omega) c8).trans (pl_t hp hCb hk (Or.inr c8)).2)] at z; exact z) rfl ⟨_, rfl, rfl⟩ (by omega) (by omega) (by omega) rfl rfl (Nat.le_of_ble_eq_true rfl) ?_
              refine sw_iload_n dX10_goesOnWell_91 rfl ?_
              refine sw_Vv dX10_goesOnWell_92 k_X10_73 mf_X10_comesTo (c_X10_comesTo (d := d - 1) (by omega) hC hCb W ht (W.1 k - r_tb (A 29 k) + r_gb (A 29 k)) (cwk_r hW hCb ht)) rfl ⟨_, rfl, rfl⟩ (by omega) (by omega) (by omega) rfl rfl (Nat.le_of_ble_eq_true rfl) ?_
              refine sw_if_eq 125 dX10_goesOnWell_95 (by decide) (fun h95 => ?_) (fun h95 => ?_)
              · refine sw_iconst (x := 0) dX10_goesOnWell_125 (by decide) ?_
                exact sw_iret dX10_goesOnWell_126 rfl (by first | rfl | exact bz_n _) (by omega) (by omega) ⟨by rw [gw]; rw [if_pos (of_decide_eq_false (bz_0.mp h95))]; rfl, rfl, by rw [gw, if_pos (of_decide_eq_false (bz_0.mp h95))]⟩
              · refine sw_iload_n dX10_goesOnWell_98 rfl ?_
                refine sw_bipush (x := 7) dX10_goesOnWell_99 (by decide) ?_
                refine sw_icmp_ne 121 dX10_goesOnWell_101 (by decide) (fun h101 => ?_) (fun h101 => ?_)
                · refine sw_iconst (x := 1) dX10_goesOnWell_121 (by decide) ?_
                  refine sw_goto 126 dX10_goesOnWell_122 (by decide) ?_
                  exact sw_iret dX10_goesOnWell_126 rfl (by first | rfl | exact bz_n _) (by omega) (by omega) ⟨by rw [gw, if_neg (fun z => z (of_decide_eq_true (bz_ne.mp h95))), if_neg c7]; rfl, rfl, by rw [gw, if_neg (fun z => z (of_decide_eq_true (bz_ne.mp h95))), if_neg c7]⟩
                · exact absurd h101 c7
            · exact absurd (show nI ((A 30 k).toNatClampNeg) < 0 by rw [h76]; decide) (i32_nlt0 (by omega))
      · exact absurd h12 c9
    · by_cases c1 : C ≤ k + 1
      · skip
        refine sw_aload_n dX10_goesOnWell_0 rfl (by first | rfl | assumption) ?_
        refine sw_get dX10_goesOnWell_1 fr_X10_26 rfl rfl ?_
        refine sw_iload_n dX10_goesOnWell_4 rfl ?_
        refine sw_Vv dX10_goesOnWell_5 k_X10_50 mf_X0_kindAt (by have z := c_X0_kindAt (l := l) (D := D) (cy := cy) (d := d - 1) (n := n) (f := f) (s := hwS s W) (A := hwA A W) (B := B) (o := o) (pr := pr) (by omega) hC hCb (nI k); rw [show cat (hwS s W) (hwA A W 29) (nI k) = A 29 k from cat_n hC hCb hk] at z; exact z) rfl ⟨_, rfl, rfl⟩ (by omega) (by omega) (by omega) rfl rfl (Nat.le_of_ble_eq_true rfl) ?_
        refine sw_istore_n [(0, _), (1, _), (2, _)] dX10_goesOnWell_8 (by decide) rfl ?_
        refine sw_iload_n dX10_goesOnWell_9 rfl ?_
        refine sw_bipush (x := 9) dX10_goesOnWell_10 (by decide) ?_
        refine sw_icmp_ne 30 dX10_goesOnWell_12 (by decide) (fun h12 => ?_) (fun h12 => ?_)
        · refine sw_aload_n dX10_goesOnWell_30 rfl (by first | rfl | assumption) ?_
          refine sw_get dX10_goesOnWell_31 fr_X10_9 rfl rfl ?_
          refine sw_iload_n dX10_goesOnWell_34 rfl ?_
          refine sw_ialdN (k) dX10_goesOnWell_35 rfl rfl (show k < 100 by omega) (by decide) ?_
          refine sw_top (y := W.1 k) rfl ?_
          refine sw_iload_n dX10_goesOnWell_36 rfl ?_
          refine sw_Sv dX10_goesOnWell_37 k_X10_63 mf_X10_taken (c_X10_taken (d := d - 1) (by omega) _) (by omega) (by omega) (by omega) rfl rfl (Nat.le_of_ble_eq_true rfl) ?_
          refine sw_isub dX10_goesOnWell_40 ?_
          refine sw_iload_n dX10_goesOnWell_41 rfl ?_
          refine sw_Sv dX10_goesOnWell_42 k_X10_66 mf_X10_given (c_X10_given (d := d - 1) (by omega) (A 29 k) (hp.2 k hk).1) (by omega) (by omega) (by omega) rfl rfl (Nat.le_of_ble_eq_true rfl) ?_
          refine sw_iadd dX10_goesOnWell_45 ?_
          refine sw_istore_n [(0, _), (1, _), (2, _), (3, _)] dX10_goesOnWell_46 (by decide) rfl ?_
          refine sw_aload_n dX10_goesOnWell_47 rfl (by first | rfl | assumption) ?_
          refine sw_get dX10_goesOnWell_48 fr_X10_9 rfl rfl ?_
          refine sw_iload_n dX10_goesOnWell_51 rfl ?_
          refine sw_ialdN (k) dX10_goesOnWell_52 rfl rfl (show k < 100 by omega) (by decide) ?_
          refine sw_top (y := W.1 k) rfl ?_
          refine sw_iload_n dX10_goesOnWell_53 rfl ?_
          refine sw_Sv dX10_goesOnWell_54 k_X10_63 mf_X10_taken (c_X10_taken (d := d - 1) (by omega) _) (by omega) (by omega) (by omega) rfl rfl (Nat.le_of_ble_eq_true rfl) ?_
          refine sw_icmp_lt 79 dX10_goesOnWell_57 (by decide) (fun h57 => ?_) (fun h57 => ?_)
          · refine sw_iconst (x := 0) dX10_goesOnWell_79 (by decide) ?_
            exact sw_iret dX10_goesOnWell_80 rfl (by first | rfl | exact bz_n _) (by omega) (by omega) ⟨by rw [cgw, if_neg c9, if_pos (Or.inl h57)]; rfl, rfl, by rw [cgw, if_neg c9, if_pos (Or.inl h57)]⟩
          · have e1 := h57
            refine sw_iload_n dX10_goesOnWell_60 rfl ?_
            refine sw_bipush (x := 8) dX10_goesOnWell_61 (by decide) ?_
            refine sw_icmp_gt 79 dX10_goesOnWell_63 (by decide) (fun h63 => ?_) (fun h63 => ?_)
            · refine sw_iconst (x := 0) dX10_goesOnWell_79 (by decide) ?_
              exact sw_iret dX10_goesOnWell_80 rfl (by first | rfl | exact bz_n _) (by omega) (by omega) ⟨by rw [cgw, if_neg c9, if_pos (Or.inr (Or.inl h63))]; rfl, rfl, by rw [cgw, if_neg c9, if_pos (Or.inr (Or.inl h63))]⟩
            · refine sw_aload_n dX10_goesOnWell_66 rfl (by first | rfl | assumption) ?_
              refine sw_get dX10_goesOnWell_67 fr_X10_26 rfl rfl ?_
              refine sw_iload_n dX10_goesOnWell_70 rfl ?_
              refine sw_iconst (x := 0) dX10_goesOnWell_71 (by decide) ?_
              refine sw_Vv dX10_goesOnWell_72 k_X10_69 mf_X0_nextOf (by have z := c_X0_nextOf (l := l) (D := D) (cy := cy) (d := d - 1) (n := n) (f := f) (s := (hwS s W)) (A := (hwA A W)) (B := B) (o := o) (pr := pr) (by omega) hC hCb (nI k) 0; rw [show cnx (hwS s W) ((hwA A W) 29) ((hwA A W) 30) (nI k) 0 = -1 from cnx_7n hC hCb hk c8 c9 c1] at z; exact z) rfl ⟨_, rfl, rfl⟩ (by omega) (by omega) (by omega) rfl rfl (Nat.le_of_ble_eq_true rfl) ?_
              refine sw_iconst (x := (-1)) dX10_goesOnWell_75 (by decide) ?_
              refine sw_icmp_ne 81 dX10_goesOnWell_76 (by decide) (fun h76 => ?_) (fun h76 => ?_)
              · exact absurd rfl h76
              · refine sw_iconst (x := 0) dX10_goesOnWell_79 (by decide) ?_
                exact sw_iret dX10_goesOnWell_80 rfl (by first | rfl | exact bz_n _) (by omega) (by omega) ⟨by rw [cgw, if_neg c9, if_pos (Or.inr (Or.inr ⟨c8, c1⟩))]; rfl, rfl, by rw [cgw, if_neg c9, if_pos (Or.inr (Or.inr ⟨c8, c1⟩))]⟩
        · exact absurd h12 c9
      · have ht : k + 1 < C := by omega
        by_cases c7 : A 29 k = 7
        · skip
          refine sw_aload_n dX10_goesOnWell_0 rfl (by first | rfl | assumption) ?_
          refine sw_get dX10_goesOnWell_1 fr_X10_26 rfl rfl ?_
          refine sw_iload_n dX10_goesOnWell_4 rfl ?_
          refine sw_Vv dX10_goesOnWell_5 k_X10_50 mf_X0_kindAt (by have z := c_X0_kindAt (l := l) (D := D) (cy := cy) (d := d - 1) (n := n) (f := f) (s := hwS s W) (A := hwA A W) (B := B) (o := o) (pr := pr) (by omega) hC hCb (nI k); rw [show cat (hwS s W) (hwA A W 29) (nI k) = A 29 k from cat_n hC hCb hk] at z; exact z) rfl ⟨_, rfl, rfl⟩ (by omega) (by omega) (by omega) rfl rfl (Nat.le_of_ble_eq_true rfl) ?_
          refine sw_istore_n [(0, _), (1, _), (2, _)] dX10_goesOnWell_8 (by decide) rfl ?_
          refine sw_iload_n dX10_goesOnWell_9 rfl ?_
          refine sw_bipush (x := 9) dX10_goesOnWell_10 (by decide) ?_
          refine sw_icmp_ne 30 dX10_goesOnWell_12 (by decide) (fun h12 => ?_) (fun h12 => ?_)
          · refine sw_aload_n dX10_goesOnWell_30 rfl (by first | rfl | assumption) ?_
            refine sw_get dX10_goesOnWell_31 fr_X10_9 rfl rfl ?_
            refine sw_iload_n dX10_goesOnWell_34 rfl ?_
            refine sw_ialdN (k) dX10_goesOnWell_35 rfl rfl (show k < 100 by omega) (by decide) ?_
            refine sw_top (y := W.1 k) rfl ?_
            refine sw_iload_n dX10_goesOnWell_36 rfl ?_
            refine sw_Sv dX10_goesOnWell_37 k_X10_63 mf_X10_taken (c_X10_taken (d := d - 1) (by omega) _) (by omega) (by omega) (by omega) rfl rfl (Nat.le_of_ble_eq_true rfl) ?_
            refine sw_isub dX10_goesOnWell_40 ?_
            refine sw_iload_n dX10_goesOnWell_41 rfl ?_
            refine sw_Sv dX10_goesOnWell_42 k_X10_66 mf_X10_given (c_X10_given (d := d - 1) (by omega) (A 29 k) (hp.2 k hk).1) (by omega) (by omega) (by omega) rfl rfl (Nat.le_of_ble_eq_true rfl) ?_
            refine sw_iadd dX10_goesOnWell_45 ?_
            refine sw_istore_n [(0, _), (1, _), (2, _), (3, _)] dX10_goesOnWell_46 (by decide) rfl ?_
            refine sw_aload_n dX10_goesOnWell_47 rfl (by first | rfl | assumption) ?_
            refine sw_get dX10_goesOnWell_48 fr_X10_9 rfl rfl ?_
            refine sw_iload_n dX10_goesOnWell_51 rfl ?_
            refine sw_ialdN (k) dX10_goesOnWell_52 rfl rfl (show k < 100 by omega) (by decide) ?_
            refine sw_top (y := W.1 k) rfl ?_
            refine sw_iload_n dX10_goesOnWell_53 rfl ?_
            refine sw_Sv dX10_goesOnWell_54 k_X10_63 mf_X10_taken (c_X10_taken (d := d - 1) (by omega) _) (by omega) (by omega) (by omega) rfl rfl (Nat.le_of_ble_eq_true rfl) ?_
            refine sw_icmp_lt 79 dX10_goesOnWell_57 (by decide) (fun h57 => ?_) (fun h57 => ?_)
            · refine sw_iconst (x := 0) dX10_goesOnWell_79 (by decide) ?_
              exact sw_iret dX10_goesOnWell_80 rfl (by first | rfl | exact bz_n _) (by omega) (by omega) ⟨by rw [cgw, if_neg c9, if_pos (Or.inl h57)]; rfl, rfl, by rw [cgw, if_neg c9, if_pos (Or.inl h57)]⟩
            · have e1 := h57
              refine sw_iload_n dX10_goesOnWell_60 rfl ?_
              refine sw_bipush (x := 8) dX10_goesOnWell_61 (by decide) ?_
              refine sw_icmp_gt 79 dX10_goesOnWell_63 (by decide) (fun h63 => ?_) (fun h63 => ?_)
              · refine sw_iconst (x := 0) dX10_goesOnWell_79 (by decide) ?_
                exact sw_iret dX10_goesOnWell_80 rfl (by first | rfl | exact bz_n _) (by omega) (by omega) ⟨by rw [cgw, if_neg c9, if_pos (Or.inr (Or.inl h63))]; rfl, rfl, by rw [cgw, if_neg c9, if_pos (Or.inr (Or.inl h63))]⟩
              · refine sw_aload_n dX10_goesOnWell_66 rfl (by first | rfl | assumption) ?_
                refine sw_get dX10_goesOnWell_67 fr_X10_26 rfl rfl ?_
                refine sw_iload_n dX10_goesOnWell_70 rfl ?_
                refine sw_iconst (x := 0) dX10_goesOnWell_71 (by decide) ?_
                refine sw_Vv dX10_goesOnWell_72 k_X10_69 mf_X0_nextOf (by have z := c_X0_nextOf (l := l) (D := D) (cy := cy) (d := d - 1) (n := n) (f := f) (s := (hwS s W)) (A := (hwA A W)) (B := B) (o := o) (pr := pr) (by omega) hC hCb (nI k) 0; rw [show cnx (hwS s W) ((hwA A W) 29) ((hwA A W) 30) (nI k) 0 = nI (k + 1) from cnx_i hC hCb hk ht (cnw_1 (by omega) c8 c9)] at z; exact z) rfl ⟨_, rfl, rfl⟩ (by omega) (by omega) (by omega) rfl rfl (Nat.le_of_ble_eq_true rfl) ?_
                refine sw_iconst (x := (-1)) dX10_goesOnWell_75 (by decide) ?_
                refine sw_icmp_ne 81 dX10_goesOnWell_76 (by decide) (fun h76 => ?_) (fun h76 => ?_)
                · obtain ⟨q, hq8, hq⟩ : ∃ q, q ≤ 8 ∧ (W.1 k - r_tb (A 29 k) + r_gb (A 29 k)) = nI q := by obtain ⟨j, hj, ej⟩ := hj; rw [ej] at h57 h63 ⊢; exact aft_i hj h57 h63
                  have k1 := cps_ok hW ht hq8
                  rw [← hq] at k1
                  have nb : ¬ (W.1 k < r_tb (A 29 k) ∨ 8 < (W.1 k - r_tb (A 29 k) + r_gb (A 29 k)) ∨ (¬ A 29 k = 8 ∧ C ≤ k + 1)) := fun z => z.elim h57 (fun z => z.elim h63 (fun z => absurd z.2 (by omega)))
                  have gw : (cgw C (A 29) (A 30) W k) = (if ¬ (cps W (k + 1) (W.1 k - r_tb (A 29 k) + r_gb (A 29 k))).1 (k + 1) = (W.1 k - r_tb (A 29 k) + r_gb (A 29 k)) then (false, (cps W (k + 1) (W.1 k - r_tb (A 29 k) + r_gb (A 29 k)))) else if A 29 k = 7 then (decide ((cps (cps W (k + 1) (W.1 k - r_tb (A 29 k) + r_gb (A 29 k))) (A 30 k).toNatClampNeg (W.1 k - r_tb (A 29 k) + r_gb (A 29 k))).1 (A 30 k).toNatClampNeg = (W.1 k - r_tb (A 29 k) + r_gb (A 29 k))), cps (cps W (k + 1) (W.1 k - r_tb (A 29 k) + r_gb (A 29 k))) (A 30 k).toNatClampNeg (W.1 k - r_tb (A 29 k) + r_gb (A 29 k))) else (true, (cps W (k + 1) (W.1 k - r_tb (A 29 k) + r_gb (A 29 k))))) := by unfold cgw; rw [if_neg c9, if_neg nb, show (if A 29 k = 8 then (A 30 k).toNatClampNeg else k + 1) = k + 1 from if_neg c8]
                  refine sw_aload_n dX10_goesOnWell_81 rfl (by first | rfl | assumption) ?_
                  refine sw_aload_n dX10_goesOnWell_82 rfl (by first | rfl | assumption) ?_
                  refine sw_get dX10_goesOnWell_83 fr_X10_26 rfl rfl ?_
                  refine sw_iload_n dX10_goesOnWell_86 rfl ?_
                  refine sw_iconst (x := 0) dX10_goesOnWell_87 (by decide) ?_
                  refine sw_Vv dX10_goesOnWell_88 k_X10_69 mf_X0_nextOf (by have z := c_X0_nextOf (l := l) (D := D) (cy := cy) (d := d - 1) (n := n) (f := f) (s := (hwS s W)) (A := (hwA A W)) (B := B) (o := o) (pr := pr) (by omega) hC hCb (nI k) 0; rw [show cnx (hwS s W) ((hwA A W) 29) ((hwA A W) 30) (nI k) 0 = nI (k + 1) from cnx_i hC hCb hk ht (cnw_1 (by omega) c8 c9)] at z; exact z) rfl ⟨_, rfl, rfl⟩ (by omega) (by omega) (by omega) rfl rfl (Nat.le_of_ble_eq_true rfl) ?_
                  refine sw_iload_n dX10_goesOnWell_91 rfl ?_
                  refine sw_Vv dX10_goesOnWell_92 k_X10_73 mf_X10_comesTo (c_X10_comesTo (d := d - 1) (by omega) hC hCb W ht (W.1 k - r_tb (A 29 k) + r_gb (A 29 k)) (cwk_r hW hCb ht)) rfl ⟨_, rfl, rfl⟩ (by omega) (by omega) (by omega) rfl rfl (Nat.le_of_ble_eq_true rfl) ?_
                  refine sw_if_eq 125 dX10_goesOnWell_95 (by decide) (fun h95 => ?_) (fun h95 => ?_)
                  · refine sw_iconst (x := 0) dX10_goesOnWell_125 (by decide) ?_
                    exact sw_iret dX10_goesOnWell_126 rfl (by first | rfl | exact bz_n _) (by omega) (by omega) ⟨by rw [gw]; rw [if_pos (of_decide_eq_false (bz_0.mp h95))]; rfl, rfl, by rw [gw, if_pos (of_decide_eq_false (bz_0.mp h95))]⟩
                  · refine sw_iload_n dX10_goesOnWell_98 rfl ?_
                    refine sw_bipush (x := 7) dX10_goesOnWell_99 (by decide) ?_
                    refine sw_icmp_ne 121 dX10_goesOnWell_101 (by decide) (fun h101 => ?_) (fun h101 => ?_)
                    · exact absurd c7 h101
                    · refine sw_aload_n dX10_goesOnWell_104 rfl (by first | rfl | assumption) ?_
                      refine sw_aload_n dX10_goesOnWell_105 rfl (by first | rfl | assumption) ?_
                      refine sw_get dX10_goesOnWell_106 fr_X10_26 rfl rfl ?_
                      refine sw_iload_n dX10_goesOnWell_109 rfl ?_
                      refine sw_iconst (x := 1) dX10_goesOnWell_110 (by decide) ?_
                      refine sw_Vv dX10_goesOnWell_111 k_X10_69 mf_X0_nextOf (by have z := c_X0_nextOf (l := l) (D := D) (cy := cy) (d := d - 1) (n := n) (f := f) (s := (hwS s (cps W (k + 1) (W.1 k - r_tb (A 29 k) + r_gb (A 29 k))))) (A := (hwA A (cps W (k + 1) (W.1 k - r_tb (A 29 k) + r_gb (A 29 k))))) (B := B) (o := o) (pr := pr) (by omega) hC hCb (nI k) 1; rw [show cnx (hwS s (cps W (k + 1) (W.1 k - r_tb (A 29 k) + r_gb (A 29 k)))) ((hwA A (cps W (k + 1) (W.1 k - r_tb (A 29 k) + r_gb (A 29 k)))) 29) ((hwA A (cps W (k + 1) (W.1 k - r_tb (A 29 k) + r_gb (A 29 k)))) 30) (nI k) 1 = nI (A 30 k).toNatClampNeg from cnx_i hC hCb hk (pl_t hp hCb hk (Or.inl c7)).1 ((cnw_7 (by omega) c7).trans (pl_t hp hCb hk (Or.inl c7)).2)] at z; exact z) rfl ⟨_, rfl, rfl⟩ (by omega) (by omega) (by omega) rfl rfl (Nat.le_of_ble_eq_true rfl) ?_
                      refine sw_iload_n dX10_goesOnWell_114 rfl ?_
                      refine sw_Vv dX10_goesOnWell_115 k_X10_73 mf_X10_comesTo (c_X10_comesTo (d := d - 1) (by omega) hC hCb (cps W (k + 1) (W.1 k - r_tb (A 29 k) + r_gb (A 29 k))) (pl_t hp hCb hk (Or.inl c7)).1 (W.1 k - r_tb (A 29 k) + r_gb (A 29 k)) (cwk_r k1 hCb (pl_t hp hCb hk (Or.inl c7)).1)) rfl ⟨_, rfl, rfl⟩ (by omega) (by omega) (by omega) rfl rfl (Nat.le_of_ble_eq_true rfl) ?_
                      refine sw_if_eq 125 dX10_goesOnWell_118 (by decide) (fun h118 => ?_) (fun h118 => ?_)
                      · refine sw_iconst (x := 0) dX10_goesOnWell_125 (by decide) ?_
                        exact sw_iret dX10_goesOnWell_126 rfl (by first | rfl | exact bz_n _) (by omega) (by omega) ⟨by rw [gw, if_neg (fun z => z (of_decide_eq_true (bz_ne.mp h95))), if_pos c7]; exact congrArg (fun z => some (Value.int z)) (show _ = bz _ from by rw [bz_0.mp h118]; rfl), rfl, by rw [gw, if_neg (fun z => z (of_decide_eq_true (bz_ne.mp h95))), if_pos c7]⟩
                      · refine sw_iconst (x := 1) dX10_goesOnWell_121 (by decide) ?_
                        refine sw_goto 126 dX10_goesOnWell_122 (by decide) ?_
                        exact sw_iret dX10_goesOnWell_126 rfl (by first | rfl | exact bz_n _) (by omega) (by omega) ⟨by rw [gw, if_neg (fun z => z (of_decide_eq_true (bz_ne.mp h95))), if_pos c7]; exact congrArg (fun z => some (Value.int z)) (show _ = bz _ from by rw [bz_ne.mp h118]; rfl), rfl, by rw [gw, if_neg (fun z => z (of_decide_eq_true (bz_ne.mp h95))), if_pos c7]⟩
                · exact absurd (show nI (k + 1) < 0 by rw [h76]; decide) (i32_nlt0 (by omega))
          · exact absurd h12 c9
        · skip
          refine sw_aload_n dX10_goesOnWell_0 rfl (by first | rfl | assumption) ?_
          refine sw_get dX10_goesOnWell_1 fr_X10_26 rfl rfl ?_
          refine sw_iload_n dX10_goesOnWell_4 rfl ?_
          refine sw_Vv dX10_goesOnWell_5 k_X10_50 mf_X0_kindAt (by have z := c_X0_kindAt (l := l) (D := D) (cy := cy) (d := d - 1) (n := n) (f := f) (s := hwS s W) (A := hwA A W) (B := B) (o := o) (pr := pr) (by omega) hC hCb (nI k); rw [show cat (hwS s W) (hwA A W 29) (nI k) = A 29 k from cat_n hC hCb hk] at z; exact z) rfl ⟨_, rfl, rfl⟩ (by omega) (by omega) (by omega) rfl rfl (Nat.le_of_ble_eq_true rfl) ?_
          refine sw_istore_n [(0, _), (1, _), (2, _)] dX10_goesOnWell_8 (by decide) rfl ?_
          refine sw_iload_n dX10_goesOnWell_9 rfl ?_
          refine sw_bipush (x := 9) dX10_goesOnWell_10 (by decide) ?_
          refine sw_icmp_ne 30 dX10_goesOnWell_12 (by decide) (fun h12 => ?_) (fun h12 => ?_)
          · refine sw_aload_n dX10_goesOnWell_30 rfl (by first | rfl | assumption) ?_
            refine sw_get dX10_goesOnWell_31 fr_X10_9 rfl rfl ?_
            refine sw_iload_n dX10_goesOnWell_34 rfl ?_
            refine sw_ialdN (k) dX10_goesOnWell_35 rfl rfl (show k < 100 by omega) (by decide) ?_
            refine sw_top (y := W.1 k) rfl ?_
            refine sw_iload_n dX10_goesOnWell_36 rfl ?_
            refine sw_Sv dX10_goesOnWell_37 k_X10_63 mf_X10_taken (c_X10_taken (d := d - 1) (by omega) _) (by omega) (by omega) (by omega) rfl rfl (Nat.le_of_ble_eq_true rfl) ?_
            refine sw_isub dX10_goesOnWell_40 ?_
            refine sw_iload_n dX10_goesOnWell_41 rfl ?_
            refine sw_Sv dX10_goesOnWell_42 k_X10_66 mf_X10_given (c_X10_given (d := d - 1) (by omega) (A 29 k) (hp.2 k hk).1) (by omega) (by omega) (by omega) rfl rfl (Nat.le_of_ble_eq_true rfl) ?_
            refine sw_iadd dX10_goesOnWell_45 ?_
            refine sw_istore_n [(0, _), (1, _), (2, _), (3, _)] dX10_goesOnWell_46 (by decide) rfl ?_
            refine sw_aload_n dX10_goesOnWell_47 rfl (by first | rfl | assumption) ?_
            refine sw_get dX10_goesOnWell_48 fr_X10_9 rfl rfl ?_
            refine sw_iload_n dX10_goesOnWell_51 rfl ?_
            refine sw_ialdN (k) dX10_goesOnWell_52 rfl rfl (show k < 100 by omega) (by decide) ?_
            refine sw_top (y := W.1 k) rfl ?_
            refine sw_iload_n dX10_goesOnWell_53 rfl ?_
            refine sw_Sv dX10_goesOnWell_54 k_X10_63 mf_X10_taken (c_X10_taken (d := d - 1) (by omega) _) (by omega) (by omega) (by omega) rfl rfl (Nat.le_of_ble_eq_true rfl) ?_
            refine sw_icmp_lt 79 dX10_goesOnWell_57 (by decide) (fun h57 => ?_) (fun h57 => ?_)
            · refine sw_iconst (x := 0) dX10_goesOnWell_79 (by decide) ?_
              exact sw_iret dX10_goesOnWell_80 rfl (by first | rfl | exact bz_n _) (by omega) (by omega) ⟨by rw [cgw, if_neg c9, if_pos (Or.inl h57)]; rfl, rfl, by rw [cgw, if_neg c9, if_pos (Or.inl h57)]⟩
            · have e1 := h57
              refine sw_iload_n dX10_goesOnWell_60 rfl ?_
              refine sw_bipush (x := 8) dX10_goesOnWell_61 (by decide) ?_
              refine sw_icmp_gt 79 dX10_goesOnWell_63 (by decide) (fun h63 => ?_) (fun h63 => ?_)
              · refine sw_iconst (x := 0) dX10_goesOnWell_79 (by decide) ?_
                exact sw_iret dX10_goesOnWell_80 rfl (by first | rfl | exact bz_n _) (by omega) (by omega) ⟨by rw [cgw, if_neg c9, if_pos (Or.inr (Or.inl h63))]; rfl, rfl, by rw [cgw, if_neg c9, if_pos (Or.inr (Or.inl h63))]⟩
              · refine sw_aload_n dX10_goesOnWell_66 rfl (by first | rfl | assumption) ?_
                refine sw_get dX10_goesOnWell_67 fr_X10_26 rfl rfl ?_
                refine sw_iload_n dX10_goesOnWell_70 rfl ?_
                refine sw_iconst (x := 0) dX10_goesOnWell_71 (by decide) ?_
                refine sw_Vv dX10_goesOnWell_72 k_X10_69 mf_X0_nextOf (by have z := c_X0_nextOf (l := l) (D := D) (cy := cy) (d := d - 1) (n := n) (f := f) (s := (hwS s W)) (A := (hwA A W)) (B := B) (o := o) (pr := pr) (by omega) hC hCb (nI k) 0; rw [show cnx (hwS s W) ((hwA A W) 29) ((hwA A W) 30) (nI k) 0 = nI (k + 1) from cnx_i hC hCb hk ht (cnw_1 (by omega) c8 c9)] at z; exact z) rfl ⟨_, rfl, rfl⟩ (by omega) (by omega) (by omega) rfl rfl (Nat.le_of_ble_eq_true rfl) ?_
                refine sw_iconst (x := (-1)) dX10_goesOnWell_75 (by decide) ?_
                refine sw_icmp_ne 81 dX10_goesOnWell_76 (by decide) (fun h76 => ?_) (fun h76 => ?_)
                · obtain ⟨q, hq8, hq⟩ : ∃ q, q ≤ 8 ∧ (W.1 k - r_tb (A 29 k) + r_gb (A 29 k)) = nI q := by obtain ⟨j, hj, ej⟩ := hj; rw [ej] at h57 h63 ⊢; exact aft_i hj h57 h63
                  have k1 := cps_ok hW ht hq8
                  rw [← hq] at k1
                  have nb : ¬ (W.1 k < r_tb (A 29 k) ∨ 8 < (W.1 k - r_tb (A 29 k) + r_gb (A 29 k)) ∨ (¬ A 29 k = 8 ∧ C ≤ k + 1)) := fun z => z.elim h57 (fun z => z.elim h63 (fun z => absurd z.2 (by omega)))
                  have gw : (cgw C (A 29) (A 30) W k) = (if ¬ (cps W (k + 1) (W.1 k - r_tb (A 29 k) + r_gb (A 29 k))).1 (k + 1) = (W.1 k - r_tb (A 29 k) + r_gb (A 29 k)) then (false, (cps W (k + 1) (W.1 k - r_tb (A 29 k) + r_gb (A 29 k)))) else if A 29 k = 7 then (decide ((cps (cps W (k + 1) (W.1 k - r_tb (A 29 k) + r_gb (A 29 k))) (A 30 k).toNatClampNeg (W.1 k - r_tb (A 29 k) + r_gb (A 29 k))).1 (A 30 k).toNatClampNeg = (W.1 k - r_tb (A 29 k) + r_gb (A 29 k))), cps (cps W (k + 1) (W.1 k - r_tb (A 29 k) + r_gb (A 29 k))) (A 30 k).toNatClampNeg (W.1 k - r_tb (A 29 k) + r_gb (A 29 k))) else (true, (cps W (k + 1) (W.1 k - r_tb (A 29 k) + r_gb (A 29 k))))) := by unfold cgw; rw [if_neg c9, if_neg nb, show (if A 29 k = 8 then (A 30 k).toNatClampNeg else k + 1) = k + 1 from if_neg c8]
                  refine sw_aload_n dX10_goesOnWell_81 rfl (by first | rfl | assumption) ?_
                  refine sw_aload_n dX10_goesOnWell_82 rfl (by first | rfl | assumption) ?_
                  refine sw_get dX10_goesOnWell_83 fr_X10_26 rfl rfl ?_
                  refine sw_iload_n dX10_goesOnWell_86 rfl ?_
                  refine sw_iconst (x := 0) dX10_goesOnWell_87 (by decide) ?_
                  refine sw_Vv dX10_goesOnWell_88 k_X10_69 mf_X0_nextOf (by have z := c_X0_nextOf (l := l) (D := D) (cy := cy) (d := d - 1) (n := n) (f := f) (s := (hwS s W)) (A := (hwA A W)) (B := B) (o := o) (pr := pr) (by omega) hC hCb (nI k) 0; rw [show cnx (hwS s W) ((hwA A W) 29) ((hwA A W) 30) (nI k) 0 = nI (k + 1) from cnx_i hC hCb hk ht (cnw_1 (by omega) c8 c9)] at z; exact z) rfl ⟨_, rfl, rfl⟩ (by omega) (by omega) (by omega) rfl rfl (Nat.le_of_ble_eq_true rfl) ?_
                  refine sw_iload_n dX10_goesOnWell_91 rfl ?_
                  refine sw_Vv dX10_goesOnWell_92 k_X10_73 mf_X10_comesTo (c_X10_comesTo (d := d - 1) (by omega) hC hCb W ht (W.1 k - r_tb (A 29 k) + r_gb (A 29 k)) (cwk_r hW hCb ht)) rfl ⟨_, rfl, rfl⟩ (by omega) (by omega) (by omega) rfl rfl (Nat.le_of_ble_eq_true rfl) ?_
                  refine sw_if_eq 125 dX10_goesOnWell_95 (by decide) (fun h95 => ?_) (fun h95 => ?_)
                  · refine sw_iconst (x := 0) dX10_goesOnWell_125 (by decide) ?_
                    exact sw_iret dX10_goesOnWell_126 rfl (by first | rfl | exact bz_n _) (by omega) (by omega) ⟨by rw [gw]; rw [if_pos (of_decide_eq_false (bz_0.mp h95))]; rfl, rfl, by rw [gw, if_pos (of_decide_eq_false (bz_0.mp h95))]⟩
                  · refine sw_iload_n dX10_goesOnWell_98 rfl ?_
                    refine sw_bipush (x := 7) dX10_goesOnWell_99 (by decide) ?_
                    refine sw_icmp_ne 121 dX10_goesOnWell_101 (by decide) (fun h101 => ?_) (fun h101 => ?_)
                    · refine sw_iconst (x := 1) dX10_goesOnWell_121 (by decide) ?_
                      refine sw_goto 126 dX10_goesOnWell_122 (by decide) ?_
                      exact sw_iret dX10_goesOnWell_126 rfl (by first | rfl | exact bz_n _) (by omega) (by omega) ⟨by rw [gw, if_neg (fun z => z (of_decide_eq_true (bz_ne.mp h95))), if_neg c7]; rfl, rfl, by rw [gw, if_neg (fun z => z (of_decide_eq_true (bz_ne.mp h95))), if_neg c7]⟩
                    · exact absurd h101 c7
                · exact absurd (show nI (k + 1) < 0 by rw [h76]; decide) (i32_nlt0 (by omega))
          · exact absurd h12 c9
