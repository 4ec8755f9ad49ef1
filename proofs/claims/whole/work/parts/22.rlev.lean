/-! ===== THE REFERENCE: levels ===== -/
theorem sw_top {l : Launch} {D : va_G} {cy : Nat → ClassId} {M : sw_MD} {d mc ms cells slots pc : Nat} {L : sw_L} {st : List Value} {n : Nat} {f : sw_F} {Q : sw_Q} {QX : sw_QX} {x y : Int32} (h : x = y) (k : SW l D cy M d mc ms cells slots pc L (.int y :: st) n f Q QX) : SW l D cy M d mc ms cells slots pc L (.int x :: st) n f Q QX := h ▸ k
theorem sw_keep {l : Launch} {D : va_G} {cy : Nat → ClassId} {M : sw_MD} {d mc ms cells slots pc : Nat} {L L' : sw_L} {st : List Value} {n : Nat} {f : sw_F} {Q : sw_Q} {QX : sw_QX} (ks : List Nat) (h : ks.filterMap (fun k => L[k]?) = L') (kk : SW l D cy M d mc ms cells slots pc L' st n f Q QX) : SW l D cy M d mc ms cells slots pc L st n f Q QX := by
  refine sw_sub (fun q hq => ?_) kk
  subst h
  obtain ⟨k, -, hk⟩ := List.mem_filterMap.mp hq
  exact List.mem_of_getElem? hk
def r_ft (nb : Nat → Bool) (i j : Nat) (t : Bool) : Bool := if t = true then nb (6 * j + i) else nb (6 * i + j)
set_option maxRecDepth 100000 in
theorem c_X12_fits {l : Launch} {D : va_G} {cy : Nat → ClassId} {d n : Nat} {f : sw_F} {s : Nat → Int32} {A : Nat → Nat → Int32} {nb : Nat → Bool} (hB : ∀ k, A a_newBelow k = bz (nb k)) {i j : Nat} (hi : i < 6) (hj : j < 6) (t : Bool) : sw_Ct l D cy mX12_fits d 0 0 [.ref 150, .int (nI i), .int (nI j), .int (bz t)] n (md f s A) (sw_D (some (.int (bz (r_ft nb i j t)))) n (md f s A)) := by
  refine sw_of rfl (Nat.le_of_ble_eq_true rfl) ?_
  show SW l D cy mX12_fits d 0 0 0 0 0 [(0, .ref 150), (1, .int (nI i)), (2, .int (nI j)), (3, .int (bz t))] [] n (md f s A) _ _
  refine sw_iload_n dX12_fits_0 rfl ?_
  refine sw_if_eq 18 dX12_fits_1 (by decide) (fun h1 => ?_) (fun h1 => ?_)
  · refine sw_aload_n dX12_fits_18 rfl (by first | rfl | assumption) ?_
    refine sw_get dX12_fits_19 fr_X12_33 rfl rfl ?_
    refine sw_bipush (x := 6) dX12_fits_22 (by decide) ?_
    refine sw_iload_n dX12_fits_24 rfl ?_
    refine sw_imul dX12_fits_25 ?_
    refine sw_iload_n dX12_fits_26 rfl ?_
    refine sw_iadd dX12_fits_27 ?_
    refine sw_zaldN (6 * i + j) dX12_fits_28 rfl (by rw [nl_6, pk_mul, nI_add]) (show 6 * i + j < 36 by omega) (by decide) ?_
    refine sw_top (hB _) ?_
    exact sw_iret dX12_fits_29 rfl (by first | rfl | exact bz_n _) (by omega) (by omega) ⟨by first | (rw [r_ft, if_pos (bz_ne.mp h1)]; done) | rw [r_ft, if_neg (by rw [bz_0.mp h1]; decide)], rfl, rfl⟩
  · refine sw_aload_n dX12_fits_4 rfl (by first | rfl | assumption) ?_
    refine sw_get dX12_fits_5 fr_X12_33 rfl rfl ?_
    refine sw_bipush (x := 6) dX12_fits_8 (by decide) ?_
    refine sw_iload_n dX12_fits_10 rfl ?_
    refine sw_imul dX12_fits_11 ?_
    refine sw_iload_n dX12_fits_12 rfl ?_
    refine sw_iadd dX12_fits_13 ?_
    refine sw_zaldN (6 * j + i) dX12_fits_14 rfl (by rw [nl_6, pk_mul, nI_add]) (show 6 * j + i < 36 by omega) (by decide) ?_
    refine sw_goto 29 dX12_fits_15 (by decide) ?_
    refine sw_top (hB _) ?_
    exact sw_iret dX12_fits_29 rfl (by first | rfl | exact bz_n _) (by omega) (by omega) ⟨by first | (rw [r_ft, if_pos (bz_ne.mp h1)]; done) | rw [r_ft, if_neg (by rw [bz_0.mp h1]; decide)], rfl, rfl⟩
def r_bq (nb : Nat → Bool) (i j : Nat) (t : Bool) (c e : Nat) : Bool := !(r_ft nb i e t && r_ft nb j e t) || r_ft nb c e t
def r_isB (nb : Nat → Bool) (N i j : Nat) (t : Bool) (c : Nat) : Bool := (r_ft nb i c t && r_ft nb j c t) && allF (r_bq nb i j t c) 0 N
def r_bd (nb : Nat → Bool) (N i j : Nat) (t : Bool) : Int32 := match fstF (r_isB nb N i j t) 0 N with
  | some c => nI c
  | none => -1
set_option maxRecDepth 100000 in
theorem l_X12_bound2 {l : Launch} {D : va_G} {cy : Nat → ClassId} {d n : Nat} {f : sw_F} {s : Nat → Int32} {A : Nat → Nat → Int32} {nb : Nat → Bool} (hB : ∀ k, A a_newBelow k = bz (nb k)) {N i j : Nat} (hN : N ≤ 6) (hi : i < 6) (hj : j < 6) (t : Bool) (hd : 1 ≤ d) {Q : sw_Q} {QX : sw_QX} {c : Nat} (hc : c < 6) : ∀ (k e : Nat) (b : Bool), e ≤ N → N < e + k → SW l D cy mX12_bound d 0 0 0 0 104 [(0, .ref 150), (1, .int (nI N)), (2, .int (nI i)), (3, .int (nI j)), (4, .int (bz t)), (5, .int (nI c)), (6, .int (bz (b && allF (r_bq nb i j t c) e (N - e))))] [] n (md f s A) Q QX → SW l D cy mX12_bound d 0 0 0 0 43 [(0, .ref 150), (1, .int (nI N)), (2, .int (nI i)), (3, .int (nI j)), (4, .int (bz t)), (5, .int (nI c)), (6, .int (bz b)), (7, .int (nI e))] [] n (md f s A) Q QX := by
  intro k
  induction k with
  | zero => intro e b h1 h2; exact absurd h2 (by omega)
  | succ k ih =>
    intro e b he hk K
    refine sw_iload dX12_bound_43 rfl ?_
    refine sw_iload_n dX12_bound_45 rfl ?_
    refine sw_icmp_ge 104 dX12_bound_46 (by decide) (fun h46 => ?_) (fun h46 => ?_)
    · refine sw_keep [0, 1, 2, 3, 4, 5, 6] rfl ?_
      exact (by rw [show e = N from Nat.le_antisymm he ((nI_leI (by omega) (by omega)).mp h46), Nat.sub_self, allF, Bool.and_true] at K; exact K)
    · have e1 : e < N := (nI_ltI (by omega) (by omega)).mp (i32_nle.mp h46)
      have J : SW l D cy mX12_bound d 0 0 0 0 96 [(0, .ref 150), (1, .int (nI N)), (2, .int (nI i)), (3, .int (nI j)), (4, .int (bz t)), (5, .int (nI c)), (6, .int (bz b)), (7, .int (nI e))] [.int (bz (b && r_bq nb i j t c e))] n (md f s A) Q QX := by
        refine sw_istore [(0, _), (1, _), (2, _), (3, _), (4, _), (5, _), (6, _), (7, _)] dX12_bound_96 (by decide) rfl ?_
        first | refine sw_inc1 [(0, _), (1, _), (2, _), (3, _), (4, _), (5, _), (6, _), (7, _)] dX12_bound_98 rfl (by decide) rfl ?_ | refine sw_iinc [(0, _), (1, _), (2, _), (3, _), (4, _), (5, _), (6, _), (7, _)] dX12_bound_98 rfl (by decide) rfl ?_
        refine sw_goto 43 dX12_bound_101 (by decide) ?_
        exact ih (e + 1) _ (by omega) (by omega) (by rw [show N - e = (N - (e + 1)) + 1 by omega, allF, ← Bool.and_assoc] at K; exact K)
      refine sw_iload dX12_bound_49 rfl ?_
      refine sw_if_eq 95 dX12_bound_51 (by decide) (fun h51 => ?_) (fun h51 => ?_)
      · refine sw_iconst (x := 0) dX12_bound_95 (by decide) ?_
        exact sw_top (y := bz (b && r_bq nb i j t c e)) (by simp only [r_bq]; grind [bz]) J
      · refine sw_aload_n dX12_bound_54 rfl (by first | rfl | assumption) ?_
        refine sw_iload_n dX12_bound_55 rfl ?_
        refine sw_iload dX12_bound_56 rfl ?_
        refine sw_iload dX12_bound_58 rfl ?_
        refine sw_Vv dX12_bound_60 k_X12_127 mf_X12_fits (c_X12_fits (d := d - 1) hB hi (by omega) t) rfl ⟨_, rfl, rfl⟩ (by omega) (by omega) (by omega) rfl rfl (Nat.le_of_ble_eq_true rfl) ?_
        refine sw_if_eq 91 dX12_bound_63 (by decide) (fun h63 => ?_) (fun h63 => ?_)
        · refine sw_iconst (x := 1) dX12_bound_91 (by decide) ?_
          refine sw_goto 96 dX12_bound_92 (by decide) ?_
          exact sw_top (y := bz (b && r_bq nb i j t c e)) (by simp only [r_bq]; grind [bz]) J
        · refine sw_aload_n dX12_bound_66 rfl (by first | rfl | assumption) ?_
          refine sw_iload_n dX12_bound_67 rfl ?_
          refine sw_iload dX12_bound_68 rfl ?_
          refine sw_iload dX12_bound_70 rfl ?_
          refine sw_Vv dX12_bound_72 k_X12_127 mf_X12_fits (c_X12_fits (d := d - 1) hB hj (by omega) t) rfl ⟨_, rfl, rfl⟩ (by omega) (by omega) (by omega) rfl rfl (Nat.le_of_ble_eq_true rfl) ?_
          refine sw_if_eq 91 dX12_bound_75 (by decide) (fun h75 => ?_) (fun h75 => ?_)
          · refine sw_iconst (x := 1) dX12_bound_91 (by decide) ?_
            refine sw_goto 96 dX12_bound_92 (by decide) ?_
            exact sw_top (y := bz (b && r_bq nb i j t c e)) (by simp only [r_bq]; grind [bz]) J
          · refine sw_aload_n dX12_bound_78 rfl (by first | rfl | assumption) ?_
            refine sw_iload dX12_bound_79 rfl ?_
            refine sw_iload dX12_bound_81 rfl ?_
            refine sw_iload dX12_bound_83 rfl ?_
            refine sw_Vv dX12_bound_85 k_X12_127 mf_X12_fits (c_X12_fits (d := d - 1) hB hc (by omega) t) rfl ⟨_, rfl, rfl⟩ (by omega) (by omega) (by omega) rfl rfl (Nat.le_of_ble_eq_true rfl) ?_
            refine sw_if_eq 95 dX12_bound_88 (by decide) (fun h88 => ?_) (fun h88 => ?_)
            · refine sw_iconst (x := 0) dX12_bound_95 (by decide) ?_
              exact sw_top (y := bz (b && r_bq nb i j t c e)) (by simp only [r_bq]; grind [bz]) J
            · refine sw_iconst (x := 1) dX12_bound_91 (by decide) ?_
              refine sw_goto 96 dX12_bound_92 (by decide) ?_
              exact sw_top (y := bz (b && r_bq nb i j t c e)) (by simp only [r_bq]; grind [bz]) J
set_option maxRecDepth 100000 in
theorem l_X12_bound1 {l : Launch} {D : va_G} {cy : Nat → ClassId} {d n : Nat} {f : sw_F} {s : Nat → Int32} {A : Nat → Nat → Int32} {nb : Nat → Bool} (hB : ∀ k, A a_newBelow k = bz (nb k)) {N i j : Nat} (hN : N ≤ 6) (hi : i < 6) (hj : j < 6) (t : Bool) (hd : 1 ≤ d) {QX : sw_QX} : ∀ (k c : Nat), c ≤ N → N < c + k → SW l D cy mX12_bound d 0 0 0 0 3 [(0, .ref 150), (1, .int (nI N)), (2, .int (nI i)), (3, .int (nI j)), (4, .int (bz t)), (5, .int (nI c))] [] n (md f s A) (sw_D (some (.int (match fstF (r_isB nb N i j t) c (N - c) with | some c => nI c | none => -1))) n (md f s A)) QX := by
  intro k
  induction k with
  | zero => intro c h1 h2; exact absurd h2 (by omega)
  | succ k ih =>
    intro c he hk
    refine sw_iload dX12_bound_3 rfl ?_
    refine sw_iload_n dX12_bound_5 rfl ?_
    refine sw_icmp_ge 118 dX12_bound_6 (by decide) (fun h6 => ?_) (fun h6 => ?_)
    · rw [show c = N from Nat.le_antisymm he ((nI_leI (by omega) (by omega)).mp h6), Nat.sub_self]
      refine sw_iconst (x := (-1)) dX12_bound_118 (by decide) ?_
      exact sw_iret dX12_bound_119 rfl (by first | rfl | exact bz_n _) (by omega) (by omega) ⟨rfl, rfl, rfl⟩
    · have e1 : c < N := (nI_ltI (by omega) (by omega)).mp (i32_nle.mp h6)
      rw [show N - c = (N - (c + 1)) + 1 by omega, fstF]
      have J1 : ∀ b : Bool, b = r_isB nb N i j t c → SW l D cy mX12_bound d 0 0 0 0 104 [(0, .ref 150), (1, .int (nI N)), (2, .int (nI i)), (3, .int (nI j)), (4, .int (bz t)), (5, .int (nI c)), (6, .int (bz b))] [] n (md f s A) (sw_D (some (.int (match (if r_isB nb N i j t c = true then some c else fstF (r_isB nb N i j t) (c + 1) (N - (c + 1))) with | some c => nI c | none => -1))) n (md f s A)) QX := by
        intro b hb
        refine sw_iload dX12_bound_104 rfl ?_
        refine sw_if_eq 112 dX12_bound_106 (by decide) (fun h106 => ?_) (fun h106 => ?_)
        · first | refine sw_inc1 [(0, _), (1, _), (2, _), (3, _), (4, _), (5, _), (6, _)] dX12_bound_112 rfl (by decide) rfl ?_ | refine sw_iinc [(0, _), (1, _), (2, _), (3, _), (4, _), (5, _), (6, _)] dX12_bound_112 rfl (by decide) rfl ?_
          refine sw_goto 3 dX12_bound_115 (by decide) ?_
          refine sw_keep [0, 1, 2, 3, 4, 5] rfl ?_
          rw [if_neg (by rw [← hb, bz_0.mp h106]; decide)]
          exact ih (c + 1) (by omega) (by omega)
        · refine sw_iload dX12_bound_109 rfl ?_
          exact sw_iret dX12_bound_111 rfl (by first | rfl | exact bz_n _) (by omega) (by omega) ⟨by rw [if_pos (by rw [← hb]; exact bz_ne.mp h106)], rfl, rfl⟩
      have J : ∀ b : Bool, b = (r_ft nb i c t && r_ft nb j c t) → SW l D cy mX12_bound d 0 0 0 0 38 [(0, .ref 150), (1, .int (nI N)), (2, .int (nI i)), (3, .int (nI j)), (4, .int (bz t)), (5, .int (nI c))] [.int (bz b)] n (md f s A) (sw_D (some (.int (match (if r_isB nb N i j t c = true then some c else fstF (r_isB nb N i j t) (c + 1) (N - (c + 1))) with | some c => nI c | none => -1))) n (md f s A)) QX := by
        intro b hb
        refine sw_istore [(0, _), (1, _), (2, _), (3, _), (4, _), (5, _), (6, _)] dX12_bound_38 (by decide) rfl ?_
        refine sw_iconst (x := 0) dX12_bound_40 (by decide) ?_
        refine sw_istore [(0, _), (1, _), (2, _), (3, _), (4, _), (5, _), (6, _), (7, _)] dX12_bound_41 (by decide) rfl ?_
        exact l_X12_bound2 hB hN hi hj t hd (by omega) (N + 1) 0 b (by omega) (by omega) (J1 _ (by rw [r_isB, hb]; rfl))
      refine sw_aload_n dX12_bound_9 rfl (by first | rfl | assumption) ?_
      refine sw_iload_n dX12_bound_10 rfl ?_
      refine sw_iload dX12_bound_11 rfl ?_
      refine sw_iload dX12_bound_13 rfl ?_
      refine sw_Vv dX12_bound_15 k_X12_127 mf_X12_fits (c_X12_fits (d := d - 1) hB hi (by omega) t) rfl ⟨_, rfl, rfl⟩ (by omega) (by omega) (by omega) rfl rfl (Nat.le_of_ble_eq_true rfl) ?_
      refine sw_if_eq 37 dX12_bound_18 (by decide) (fun h18 => ?_) (fun h18 => ?_)
      · refine sw_iconst (x := 0) dX12_bound_37 (by decide) ?_
        exact sw_top (y := bz (r_ft nb i c t && r_ft nb j c t)) (by grind [bz]) (J _ rfl)
      · refine sw_aload_n dX12_bound_21 rfl (by first | rfl | assumption) ?_
        refine sw_iload_n dX12_bound_22 rfl ?_
        refine sw_iload dX12_bound_23 rfl ?_
        refine sw_iload dX12_bound_25 rfl ?_
        refine sw_Vv dX12_bound_27 k_X12_127 mf_X12_fits (c_X12_fits (d := d - 1) hB hj (by omega) t) rfl ⟨_, rfl, rfl⟩ (by omega) (by omega) (by omega) rfl rfl (Nat.le_of_ble_eq_true rfl) ?_
        refine sw_if_eq 37 dX12_bound_30 (by decide) (fun h30 => ?_) (fun h30 => ?_)
        · refine sw_iconst (x := 0) dX12_bound_37 (by decide) ?_
          exact sw_top (y := bz (r_ft nb i c t && r_ft nb j c t)) (by grind [bz]) (J _ rfl)
        · refine sw_iconst (x := 1) dX12_bound_33 (by decide) ?_
          refine sw_goto 38 dX12_bound_34 (by decide) ?_
          exact sw_top (y := bz (r_ft nb i c t && r_ft nb j c t)) (by grind [bz]) (J _ rfl)
