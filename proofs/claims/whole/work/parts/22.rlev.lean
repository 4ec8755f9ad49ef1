/-! ===== THE REFERENCE: levels ===== -/
theorem sw_top {EE : sw_E} {l : Launch} {D : va_G} {cy : Nat → ClassId} {M : sw_MD} {d mc ms cells slots pc : Nat} {L : sw_L} {st : List Value} {n : Nat} {f : sw_F} {Q : sw_Q} {QX : sw_QX} {x y : Int32} (h : x = y) (k : SWr EE l D cy M d mc ms cells slots pc L (.int y :: st) n f Q QX) : SWr EE l D cy M d mc ms cells slots pc L (.int x :: st) n f Q QX := h ▸ k
theorem sw_keep {EE : sw_E} {l : Launch} {D : va_G} {cy : Nat → ClassId} {M : sw_MD} {d mc ms cells slots pc : Nat} {L L' : sw_L} {st : List Value} {n : Nat} {f : sw_F} {Q : sw_Q} {QX : sw_QX} (ks : List Nat) (h : ks.filterMap (fun k => L[k]?) = L') (kk : SWr EE l D cy M d mc ms cells slots pc L' st n f Q QX) : SWr EE l D cy M d mc ms cells slots pc L st n f Q QX := by
  refine sw_sub (fun q hq => ?_) kk
  subst h
  obtain ⟨k, -, hk⟩ := List.mem_filterMap.mp hq
  exact List.mem_of_getElem? hk
def r_ft (nb : Nat → Bool) (i j : Nat) (t : Bool) : Bool := if t = true then nb (6 * j + i) else nb (6 * i + j)
set_option maxRecDepth 100000 in
theorem c_X12_fits {l : Launch} {D : va_G} {cy : Nat → ClassId} {d n : Nat} {f : sw_F} {s : Nat → Int32} {A : Nat → Nat → Int32} {nb : Nat → Bool} (hB : ∀ k, k < 36 → A 157 k = bz (nb k)) {i j : Nat} (hi : i < 6) (hj : j < 6) (t : Bool) : sw_Ct l D cy mX12_fits d 0 0 [.ref 150, .int (nI i), .int (nI j), .int (bz t)] n (md f s A) (sw_D (some (.int (bz (r_ft nb i j t)))) n (md f s A)) := by
  refine sw_of rfl (Nat.le_of_ble_eq_true rfl) ?_
  show SW l D cy mX12_fits d 0 0 0 0 0 [(0, .ref 150), (1, .int (nI i)), (2, .int (nI j)), (3, .int (bz t))] [] n (md f s A) _ _
  refine sw_iload_n dX12_fits_0 rfl ?_
  refine sw_if_eq 18 dX12_fits_1 (by decide) (fun h1 => ?_) (fun h1 => ?_)
  · refine sw_aload_n dX12_fits_18 rfl (by first | rfl | assumption) ?_
    refine sw_get dX12_fits_19 fr_X12_33 rfl rfl ?_
    refine sw_bipush (x := 6) dX12_fits_22 (by decide) ?_
    refine sw_iload_n dX12_fits_24 rfl ?_
    refine sw_imul dX12_fits_25 ?_
    refine sw_iload_n dX12_fits_26 rfl ?_
    refine sw_iadd dX12_fits_27 ?_
    refine sw_zaldN (6 * i + j) dX12_fits_28 rfl (by rw [nl_6, pk_mul, nI_add]) (show 6 * i + j < 36 by omega) (by decide) ?_
    refine sw_top (hB _ (by omega)) ?_
    exact sw_iret dX12_fits_29 rfl (by first | rfl | exact bz_n _) (by omega) (by omega) ⟨by first | (rw [r_ft, if_pos (bz_ne.mp h1)]; done) | rw [r_ft, if_neg (by rw [bz_0.mp h1]; decide)], rfl, rfl⟩
  · refine sw_aload_n dX12_fits_4 rfl (by first | rfl | assumption) ?_
    refine sw_get dX12_fits_5 fr_X12_33 rfl rfl ?_
    refine sw_bipush (x := 6) dX12_fits_8 (by decide) ?_
    refine sw_iload_n dX12_fits_10 rfl ?_
    refine sw_imul dX12_fits_11 ?_
    refine sw_iload_n dX12_fits_12 rfl ?_
    refine sw_iadd dX12_fits_13 ?_
    refine sw_zaldN (6 * j + i) dX12_fits_14 rfl (by rw [nl_6, pk_mul, nI_add]) (show 6 * j + i < 36 by omega) (by decide) ?_
    refine sw_goto 29 dX12_fits_15 (by decide) ?_
    refine sw_top (hB _ (by omega)) ?_
    exact sw_iret dX12_fits_29 rfl (by first | rfl | exact bz_n _) (by omega) (by omega) ⟨by first | (rw [r_ft, if_pos (bz_ne.mp h1)]; done) | rw [r_ft, if_neg (by rw [bz_0.mp h1]; decide)], rfl, rfl⟩
def r_bq (nb : Nat → Bool) (i j : Nat) (t : Bool) (c e : Nat) : Bool := !(r_ft nb i e t && r_ft nb j e t) || r_ft nb c e t
def r_isB (nb : Nat → Bool) (N i j : Nat) (t : Bool) (c : Nat) : Bool := (r_ft nb i c t && r_ft nb j c t) && allF (r_bq nb i j t c) 0 N
def r_bd (nb : Nat → Bool) (N i j : Nat) (t : Bool) : Int32 := match fstF (r_isB nb N i j t) 0 N with
  | some c => nI c
  | none => -1
set_option maxRecDepth 100000 in
theorem l_X12_bound2 {l : Launch} {D : va_G} {cy : Nat → ClassId} {d n : Nat} {f : sw_F} {s : Nat → Int32} {A : Nat → Nat → Int32} {nb : Nat → Bool} (hB : ∀ k, k < 36 → A 157 k = bz (nb k)) {N i j : Nat} (hN : N ≤ 6) (hi : i < 6) (hj : j < 6) (t : Bool) (hd : 1 ≤ d) {Q : sw_Q} {QX : sw_QX} {c : Nat} (hc : c < 6) : ∀ (k e : Nat) (b : Bool), e ≤ N → N < e + k → SW l D cy mX12_bound d 0 0 0 0 104 [(0, .ref 150), (1, .int (nI N)), (2, .int (nI i)), (3, .int (nI j)), (4, .int (bz t)), (5, .int (nI c)), (6, .int (bz (b && allF (r_bq nb i j t c) e (N - e))))] [] n (md f s A) Q QX → SW l D cy mX12_bound d 0 0 0 0 43 [(0, .ref 150), (1, .int (nI N)), (2, .int (nI i)), (3, .int (nI j)), (4, .int (bz t)), (5, .int (nI c)), (6, .int (bz b)), (7, .int (nI e))] [] n (md f s A) Q QX := by
  intro k
  induction k with
  | zero => intro e b h1 h2; exact absurd h2 (by omega)
  | succ k ih =>
    intro e b he hk K
    refine sw_iload dX12_bound_43 rfl ?_
    refine sw_iload_n dX12_bound_45 rfl ?_
    refine sw_icmp_ge 104 dX12_bound_46 (by decide) (fun h46 => ?_) (fun h46 => ?_)
    · refine sw_keep [0, 1, 2, 3, 4, 5, 6] rfl ?_
      exact (by rw [show e = N from Nat.le_antisymm he ((nI_leI (by omega) (by omega)).mp h46), Nat.sub_self, allF, Bool.and_true] at K; exact K)
    · have e1 : e < N := (nI_ltI (by omega) (by omega)).mp (i32_nle.mp h46)
      have J : SW l D cy mX12_bound d 0 0 0 0 96 [(0, .ref 150), (1, .int (nI N)), (2, .int (nI i)), (3, .int (nI j)), (4, .int (bz t)), (5, .int (nI c)), (6, .int (bz b)), (7, .int (nI e))] [.int (bz (b && r_bq nb i j t c e))] n (md f s A) Q QX := by
        refine sw_istore [(0, _), (1, _), (2, _), (3, _), (4, _), (5, _), (6, _), (7, _)] dX12_bound_96 (by decide) rfl ?_
        first | refine sw_inc1 [(0, _), (1, _), (2, _), (3, _), (4, _), (5, _), (6, _), (7, _)] dX12_bound_98 rfl (by decide) rfl ?_ | refine sw_iinc [(0, _), (1, _), (2, _), (3, _), (4, _), (5, _), (6, _), (7, _)] dX12_bound_98 rfl (by decide) rfl ?_
        refine sw_goto 43 dX12_bound_101 (by decide) ?_
        exact ih (e + 1) _ (by omega) (by omega) (by rw [show N - e = (N - (e + 1)) + 1 by omega, allF, ← Bool.and_assoc] at K; exact K)
      refine sw_iload dX12_bound_49 rfl ?_
      refine sw_if_eq 95 dX12_bound_51 (by decide) (fun h51 => ?_) (fun h51 => ?_)
      · refine sw_iconst (x := 0) dX12_bound_95 (by decide) ?_
        exact sw_top (y := bz (b && r_bq nb i j t c e)) (by simp only [r_bq]; grind [bz]) J
      · refine sw_aload_n dX12_bound_54 rfl (by first | rfl | assumption) ?_
        refine sw_iload_n dX12_bound_55 rfl ?_
        refine sw_iload dX12_bound_56 rfl ?_
        refine sw_iload dX12_bound_58 rfl ?_
        refine sw_Vv dX12_bound_60 k_X12_127 mf_X12_fits (c_X12_fits (d := d - 1) hB hi (by omega) t) rfl ⟨_, rfl, rfl⟩ (by omega) (by omega) (by omega) rfl rfl (Nat.le_of_ble_eq_true rfl) ?_
        refine sw_if_eq 91 dX12_bound_63 (by decide) (fun h63 => ?_) (fun h63 => ?_)
        · refine sw_iconst (x := 1) dX12_bound_91 (by decide) ?_
          refine sw_goto 96 dX12_bound_92 (by decide) ?_
          exact sw_top (y := bz (b && r_bq nb i j t c e)) (by simp only [r_bq]; grind [bz]) J
        · refine sw_aload_n dX12_bound_66 rfl (by first | rfl | assumption) ?_
          refine sw_iload_n dX12_bound_67 rfl ?_
          refine sw_iload dX12_bound_68 rfl ?_
          refine sw_iload dX12_bound_70 rfl ?_
          refine sw_Vv dX12_bound_72 k_X12_127 mf_X12_fits (c_X12_fits (d := d - 1) hB hj (by omega) t) rfl ⟨_, rfl, rfl⟩ (by omega) (by omega) (by omega) rfl rfl (Nat.le_of_ble_eq_true rfl) ?_
          refine sw_if_eq 91 dX12_bound_75 (by decide) (fun h75 => ?_) (fun h75 => ?_)
          · refine sw_iconst (x := 1) dX12_bound_91 (by decide) ?_
            refine sw_goto 96 dX12_bound_92 (by decide) ?_
            exact sw_top (y := bz (b && r_bq nb i j t c e)) (by simp only [r_bq]; grind [bz]) J
          · refine sw_aload_n dX12_bound_78 rfl (by first | rfl | assumption) ?_
            refine sw_iload dX12_bound_79 rfl ?_
            refine sw_iload dX12_bound_81 rfl ?_
            refine sw_iload dX12_bound_83 rfl ?_
            refine sw_Vv dX12_bound_85 k_X12_127 mf_X12_fits (c_X12_fits (d := d - 1) hB hc (by omega) t) rfl ⟨_, rfl, rfl⟩ (by omega) (by omega) (by omega) rfl rfl (Nat.le_of_ble_eq_true rfl) ?_
            refine sw_if_eq 95 dX12_bound_88 (by decide) (fun h88 => ?_) (fun h88 => ?_)
            · refine sw_iconst (x := 0) dX12_bound_95 (by decide) ?_
              exact sw_top (y := bz (b && r_bq nb i j t c e)) (by simp only [r_bq]; grind [bz]) J
            · refine sw_iconst (x := 1) dX12_bound_91 (by decide) ?_
              refine sw_goto 96 dX12_bound_92 (by decide) ?_
              exact sw_top (y := bz (b && r_bq nb i j t c e)) (by simp only [r_bq]; grind [bz]) J
set_option maxRecDepth 100000 in
theorem l_X12_bound1 {l : Launch} {D : va_G} {cy : Nat → ClassId} {d n : Nat} {f : sw_F} {s : Nat → Int32} {A : Nat → Nat → Int32} {nb : Nat → Bool} (hB : ∀ k, k < 36 → A 157 k = bz (nb k)) {N i j : Nat} (hN : N ≤ 6) (hi : i < 6) (hj : j < 6) (t : Bool) (hd : 1 ≤ d) {QX : sw_QX} : ∀ (k c : Nat), c ≤ N → N < c + k → SW l D cy mX12_bound d 0 0 0 0 3 [(0, .ref 150), (1, .int (nI N)), (2, .int (nI i)), (3, .int (nI j)), (4, .int (bz t)), (5, .int (nI c))] [] n (md f s A) (sw_D (some (.int (match fstF (r_isB nb N i j t) c (N - c) with | some c => nI c | none => -1))) n (md f s A)) QX := by
  intro k
  induction k with
  | zero => intro c h1 h2; exact absurd h2 (by omega)
  | succ k ih =>
    intro c he hk
    refine sw_iload dX12_bound_3 rfl ?_
    refine sw_iload_n dX12_bound_5 rfl ?_
    refine sw_icmp_ge 118 dX12_bound_6 (by decide) (fun h6 => ?_) (fun h6 => ?_)
    · rw [show c = N from Nat.le_antisymm he ((nI_leI (by omega) (by omega)).mp h6), Nat.sub_self]
      refine sw_iconst (x := (-1)) dX12_bound_118 (by decide) ?_
      exact sw_iret dX12_bound_119 rfl (by first | rfl | exact bz_n _) (by omega) (by omega) ⟨rfl, rfl, rfl⟩
    · have e1 : c < N := (nI_ltI (by omega) (by omega)).mp (i32_nle.mp h6)
      rw [show N - c = (N - (c + 1)) + 1 by omega, fstF]
      have J1 : ∀ b : Bool, b = r_isB nb N i j t c → SW l D cy mX12_bound d 0 0 0 0 104 [(0, .ref 150), (1, .int (nI N)), (2, .int (nI i)), (3, .int (nI j)), (4, .int (bz t)), (5, .int (nI c)), (6, .int (bz b))] [] n (md f s A) (sw_D (some (.int (match (if r_isB nb N i j t c = true then some c else fstF (r_isB nb N i j t) (c + 1) (N - (c + 1))) with | some c => nI c | none => -1))) n (md f s A)) QX := by
        intro b hb
        refine sw_iload dX12_bound_104 rfl ?_
        refine sw_if_eq 112 dX12_bound_106 (by decide) (fun h106 => ?_) (fun h106 => ?_)
        · first | refine sw_inc1 [(0, _), (1, _), (2, _), (3, _), (4, _), (5, _), (6, _)] dX12_bound_112 rfl (by decide) rfl ?_ | refine sw_iinc [(0, _), (1, _), (2, _), (3, _), (4, _), (5, _), (6, _)] dX12_bound_112 rfl (by decide) rfl ?_
          refine sw_goto 3 dX12_bound_115 (by decide) ?_
          refine sw_keep [0, 1, 2, 3, 4, 5] rfl ?_
          rw [if_neg (by rw [← hb, bz_0.mp h106]; decide)]
          exact ih (c + 1) (by omega) (by omega)
        · refine sw_iload dX12_bound_109 rfl ?_
          exact sw_iret dX12_bound_111 rfl (by first | rfl | exact bz_n _) (by omega) (by omega) ⟨by rw [if_pos (by rw [← hb]; exact bz_ne.mp h106)], rfl, rfl⟩
      have J : ∀ b : Bool, b = (r_ft nb i c t && r_ft nb j c t) → SW l D cy mX12_bound d 0 0 0 0 38 [(0, .ref 150), (1, .int (nI N)), (2, .int (nI i)), (3, .int (nI j)), (4, .int (bz t)), (5, .int (nI c))] [.int (bz b)] n (md f s A) (sw_D (some (.int (match (if r_isB nb N i j t c = true then some c else fstF (r_isB nb N i j t) (c + 1) (N - (c + 1))) with | some c => nI c | none => -1))) n (md f s A)) QX := by
        intro b hb
        refine sw_istore [(0, _), (1, _), (2, _), (3, _), (4, _), (5, _), (6, _)] dX12_bound_38 (by decide) rfl ?_
        refine sw_iconst (x := 0) dX12_bound_40 (by decide) ?_
        refine sw_istore [(0, _), (1, _), (2, _), (3, _), (4, _), (5, _), (6, _), (7, _)] dX12_bound_41 (by decide) rfl ?_
        exact l_X12_bound2 hB hN hi hj t hd (by omega) (N + 1) 0 b (by omega) (by omega) (J1 _ (by rw [r_isB, hb]; rfl))
      refine sw_aload_n dX12_bound_9 rfl (by first | rfl | assumption) ?_
      refine sw_iload_n dX12_bound_10 rfl ?_
      refine sw_iload dX12_bound_11 rfl ?_
      refine sw_iload dX12_bound_13 rfl ?_
      refine sw_Vv dX12_bound_15 k_X12_127 mf_X12_fits (c_X12_fits (d := d - 1) hB hi (by omega) t) rfl ⟨_, rfl, rfl⟩ (by omega) (by omega) (by omega) rfl rfl (Nat.le_of_ble_eq_true rfl) ?_
      refine sw_if_eq 37 dX12_bound_18 (by decide) (fun h18 => ?_) (fun h18 => ?_)
      · refine sw_iconst (x := 0) dX12_bound_37 (by decide) ?_
        exact sw_top (y := bz (r_ft nb i c t && r_ft nb j c t)) (by grind [bz]) (J _ rfl)
      · refine sw_aload_n dX12_bound_21 rfl (by first | rfl | assumption) ?_
        refine sw_iload_n dX12_bound_22 rfl ?_
        refine sw_iload dX12_bound_23 rfl ?_
        refine sw_iload dX12_bound_25 rfl ?_
        refine sw_Vv dX12_bound_27 k_X12_127 mf_X12_fits (c_X12_fits (d := d - 1) hB hj (by omega) t) rfl ⟨_, rfl, rfl⟩ (by omega) (by omega) (by omega) rfl rfl (Nat.le_of_ble_eq_true rfl) ?_
        refine sw_if_eq 37 dX12_bound_30 (by decide) (fun h30 => ?_) (fun h30 => ?_)
        · refine sw_iconst (x := 0) dX12_bound_37 (by decide) ?_
          exact sw_top (y := bz (r_ft nb i c t && r_ft nb j c t)) (by grind [bz]) (J _ rfl)
        · refine sw_iconst (x := 1) dX12_bound_33 (by decide) ?_
          refine sw_goto 38 dX12_bound_34 (by decide) ?_
          exact sw_top (y := bz (r_ft nb i c t && r_ft nb j c t)) (by grind [bz]) (J _ rfl)
set_option maxRecDepth 100000 in
theorem c_X12_bound {l : Launch} {D : va_G} {cy : Nat → ClassId} {d n : Nat} {f : sw_F} {s : Nat → Int32} {A : Nat → Nat → Int32} {nb : Nat → Bool} (hB : ∀ k, k < 36 → A 157 k = bz (nb k)) {N i j : Nat} (hN : N ≤ 6) (hi : i < 6) (hj : j < 6) (t : Bool) (hd : 1 ≤ d) : sw_Ct l D cy mX12_bound d 0 0 [.ref 150, .int (nI N), .int (nI i), .int (nI j), .int (bz t)] n (md f s A) (sw_D (some (.int (r_bd nb N i j t))) n (md f s A)) := by
  refine sw_of rfl (Nat.le_of_ble_eq_true rfl) ?_
  show SW l D cy mX12_bound d 0 0 0 0 0 [(0, .ref 150), (1, .int (nI N)), (2, .int (nI i)), (3, .int (nI j)), (4, .int (bz t))] [] n (md f s A) _ _
  refine sw_iconst (x := 0) dX12_bound_0 (by decide) ?_
  refine sw_istore [(0, _), (1, _), (2, _), (3, _), (4, _), (5, _)] dX12_bound_1 (by decide) rfl ?_
  exact l_X12_bound1 hB hN hi hj t hd (N + 1) 0 (by omega) (by omega)
def r_oc (nb : Nat → Bool) (a b c : Nat) : Bool := !(nb (6 * a + b) && nb (6 * b + c)) || nb (6 * a + c)
def r_ob (nb : Nat → Bool) (N a b : Nat) : Bool := (decide (a = b) || !(nb (6 * a + b) && nb (6 * b + a))) && allF (r_oc nb a b) 0 N
def r_oa (nb : Nat → Bool) (N a : Nat) : Bool := nb (7 * a) && allF (r_ob nb N a) 0 N
def r_ord (nb : Nat → Bool) (N : Nat) : Bool := allF (r_oa nb N) 0 N
theorem allF_step {p : Nat → Bool} {i N : Nat} (h : i < N) : allF p i (N - i) = (p i && allF p (i + 1) (N - (i + 1))) := by
  rw [show N - i = (N - (i + 1)) + 1 by omega, allF]
theorem allF_end {p : Nat → Bool} {i N : Nat} (h : N ≤ i) : allF p i (N - i) = true := by
  rw [show N - i = 0 by omega, allF]
set_option maxRecDepth 100000 in
theorem l_X12_ord3 {l : Launch} {D : va_G} {cy : Nat → ClassId} {d n : Nat} {f : sw_F} {s : Nat → Int32} {A : Nat → Nat → Int32} {nb : Nat → Bool} (hB : ∀ k, k < 36 → A 157 k = bz (nb k)) {N : Nat} (hN : N ≤ 6) {Q : sw_Q} {QX : sw_QX} {a b : Nat} (ha : a < 6) (hb : b < 6) : ∀ (k c : Nat) (z : Bool), c ≤ N → N < c + k → SW l D cy mX12_isOrder d 0 0 0 0 157 [(0, .ref 150), (1, .int (nI N)), (2, .int (bz (z && allF (r_oc nb a b) c (N - c)))), (3, .int (nI (a))), (4, .int (nI (b)))] [] n (md f s A) Q QX → SW l D cy mX12_isOrder d 0 0 0 0 89 [(0, .ref 150), (1, .int (nI N)), (2, .int (bz (z))), (3, .int (nI (a))), (4, .int (nI (b))), (5, .int (nI (c)))] [] n (md f s A) Q QX := by
  intro k
  induction k with
  | zero => intro i0 z0 h1 h2; exact absurd h2 (by omega)
  | succ k ih =>
    intro c z he hk K
    refine sw_iload dX12_isOrder_89 rfl ?_
    refine sw_iload_n dX12_isOrder_91 rfl ?_
    refine sw_icmp_ge 157 dX12_isOrder_92 (by decide) (fun h92 => ?_) (fun h92 => ?_)
    · refine sw_keep [0, 1, 2, 3, 4] rfl ?_
      rw [allF_end ((nI_leI (by omega) (by omega)).mp h92), Bool.and_true] at K
      exact K
    · have e1 : c < N := (nI_ltI (by omega) (by omega)).mp (i32_nle.mp h92)
      have J : SW l D cy mX12_isOrder d 0 0 0 0 150 [(0, .ref 150), (1, .int (nI N)), (2, .int (bz (z))), (3, .int (nI (a))), (4, .int (nI (b))), (5, .int (nI (c)))] [.int (bz (z && r_oc nb a b c))] n (md f s A) Q QX := by
        refine sw_istore_n [(0, _), (1, _), (2, _), (3, _), (4, _), (5, _)] dX12_isOrder_150 (by decide) rfl ?_
        first | refine sw_inc1 [(0, _), (1, _), (2, _), (3, _), (4, _), (5, _)] dX12_isOrder_151 rfl (by decide) rfl ?_ | refine sw_iinc [(0, _), (1, _), (2, _), (3, _), (4, _), (5, _)] dX12_isOrder_151 rfl (by decide) rfl ?_
        refine sw_goto 89 dX12_isOrder_154 (by decide) ?_
        exact ih (c + 1) _ (by omega) (by omega) (by rw [allF_step e1, ← Bool.and_assoc] at K; exact K)
      refine sw_iload_n dX12_isOrder_95 rfl ?_
      refine sw_if_eq 149 dX12_isOrder_96 (by decide) (fun h96 => ?_) (fun h96 => ?_)
      · refine sw_iconst (x := 0) dX12_isOrder_149 (by decide) ?_
        exact sw_top (y := bz (z && r_oc nb a b c)) (by simp only [r_oc]; grind [bz]) J
      · refine sw_aload_n dX12_isOrder_99 rfl (by first | rfl | assumption) ?_
        refine sw_get dX12_isOrder_100 fr_X12_33 rfl rfl ?_
        refine sw_bipush (x := 6) dX12_isOrder_103 (by decide) ?_
        refine sw_iload_n dX12_isOrder_105 rfl ?_
        refine sw_imul dX12_isOrder_106 ?_
        refine sw_iload dX12_isOrder_107 rfl ?_
        refine sw_iadd dX12_isOrder_109 ?_
        refine sw_zaldN (6 * a + b) dX12_isOrder_110 rfl (by rw [nl_6, pk_mul, nI_add]) (show 6 * a + b < 36 by omega) (by decide) ?_
        refine sw_top (hB _ (by omega)) ?_
        refine sw_if_eq 145 dX12_isOrder_111 (by decide) (fun h111 => ?_) (fun h111 => ?_)
        · refine sw_iconst (x := 1) dX12_isOrder_145 (by decide) ?_
          refine sw_goto 150 dX12_isOrder_146 (by decide) ?_
          exact sw_top (y := bz (z && r_oc nb a b c)) (by simp only [r_oc]; grind [bz]) J
        · refine sw_aload_n dX12_isOrder_114 rfl (by first | rfl | assumption) ?_
          refine sw_get dX12_isOrder_115 fr_X12_33 rfl rfl ?_
          refine sw_bipush (x := 6) dX12_isOrder_118 (by decide) ?_
          refine sw_iload dX12_isOrder_120 rfl ?_
          refine sw_imul dX12_isOrder_122 ?_
          refine sw_iload dX12_isOrder_123 rfl ?_
          refine sw_iadd dX12_isOrder_125 ?_
          refine sw_zaldN (6 * b + c) dX12_isOrder_126 rfl (by rw [nl_6, pk_mul, nI_add]) (show 6 * b + c < 36 by omega) (by decide) ?_
          refine sw_top (hB _ (by omega)) ?_
          refine sw_if_eq 145 dX12_isOrder_127 (by decide) (fun h127 => ?_) (fun h127 => ?_)
          · refine sw_iconst (x := 1) dX12_isOrder_145 (by decide) ?_
            refine sw_goto 150 dX12_isOrder_146 (by decide) ?_
            exact sw_top (y := bz (z && r_oc nb a b c)) (by simp only [r_oc]; grind [bz]) J
          · refine sw_aload_n dX12_isOrder_130 rfl (by first | rfl | assumption) ?_
            refine sw_get dX12_isOrder_131 fr_X12_33 rfl rfl ?_
            refine sw_bipush (x := 6) dX12_isOrder_134 (by decide) ?_
            refine sw_iload_n dX12_isOrder_136 rfl ?_
            refine sw_imul dX12_isOrder_137 ?_
            refine sw_iload dX12_isOrder_138 rfl ?_
            refine sw_iadd dX12_isOrder_140 ?_
            refine sw_zaldN (6 * a + c) dX12_isOrder_141 rfl (by rw [nl_6, pk_mul, nI_add]) (show 6 * a + c < 36 by omega) (by decide) ?_
            refine sw_top (hB _ (by omega)) ?_
            refine sw_if_eq 149 dX12_isOrder_142 (by decide) (fun h142 => ?_) (fun h142 => ?_)
            · refine sw_iconst (x := 0) dX12_isOrder_149 (by decide) ?_
              exact sw_top (y := bz (z && r_oc nb a b c)) (by simp only [r_oc]; grind [bz]) J
            · refine sw_iconst (x := 1) dX12_isOrder_145 (by decide) ?_
              refine sw_goto 150 dX12_isOrder_146 (by decide) ?_
              exact sw_top (y := bz (z && r_oc nb a b c)) (by simp only [r_oc]; grind [bz]) J
set_option maxRecDepth 100000 in
theorem l_X12_ord2 {l : Launch} {D : va_G} {cy : Nat → ClassId} {d n : Nat} {f : sw_F} {s : Nat → Int32} {A : Nat → Nat → Int32} {nb : Nat → Bool} (hB : ∀ k, k < 36 → A 157 k = bz (nb k)) {N : Nat} (hN : N ≤ 6) {Q : sw_Q} {QX : sw_QX} {a : Nat} (ha : a < 6) : ∀ (k b : Nat) (z : Bool), b ≤ N → N < b + k → SW l D cy mX12_isOrder d 0 0 0 0 163 [(0, .ref 150), (1, .int (nI N)), (2, .int (bz (z && allF (r_ob nb N a) b (N - b)))), (3, .int (nI (a)))] [] n (md f s A) Q QX → SW l D cy mX12_isOrder d 0 0 0 0 34 [(0, .ref 150), (1, .int (nI N)), (2, .int (bz (z))), (3, .int (nI (a))), (4, .int (nI (b)))] [] n (md f s A) Q QX := by
  intro k
  induction k with
  | zero => intro i0 z0 h1 h2; exact absurd h2 (by omega)
  | succ k ih =>
    intro b z he hk K
    refine sw_iload dX12_isOrder_34 rfl ?_
    refine sw_iload_n dX12_isOrder_36 rfl ?_
    refine sw_icmp_ge 163 dX12_isOrder_37 (by decide) (fun h37 => ?_) (fun h37 => ?_)
    · refine sw_keep [0, 1, 2, 3] rfl ?_
      rw [allF_end ((nI_leI (by omega) (by omega)).mp h37), Bool.and_true] at K
      exact K
    · have e1 : b < N := (nI_ltI (by omega) (by omega)).mp (i32_nle.mp h37)
      have J : SW l D cy mX12_isOrder d 0 0 0 0 85 [(0, .ref 150), (1, .int (nI N)), (2, .int (bz (z))), (3, .int (nI (a))), (4, .int (nI (b)))] [.int (bz (z && (decide (a = b) || !(nb (6 * a + b) && nb (6 * b + a)))))] n (md f s A) Q QX := by
        refine sw_istore_n [(0, _), (1, _), (2, _), (3, _), (4, _)] dX12_isOrder_85 (by decide) rfl ?_
        refine sw_iconst (x := 0) dX12_isOrder_86 (by decide) ?_
        refine sw_istore [(0, _), (1, _), (2, _), (3, _), (4, _), (5, _)] dX12_isOrder_87 (by decide) rfl ?_
        refine l_X12_ord3 hB hN ha (by omega) (N + 1) 0 _ (by omega) (by omega) ?_
        first | refine sw_inc1 [(0, _), (1, _), (2, _), (3, _), (4, _)] dX12_isOrder_157 rfl (by decide) rfl ?_ | skip
        refine sw_goto 34 dX12_isOrder_160 (by decide) ?_
        exact ih (b + 1) _ (by omega) (by omega) (by rw [allF_step e1, r_ob, ← Bool.and_assoc, ← Bool.and_assoc] at K; exact K)
      refine sw_iload_n dX12_isOrder_40 rfl ?_
      refine sw_if_eq 84 dX12_isOrder_41 (by decide) (fun h41 => ?_) (fun h41 => ?_)
      · refine sw_iconst (x := 0) dX12_isOrder_84 (by decide) ?_
        exact sw_top (y := bz (z && (decide (a = b) || !(nb (6 * a + b) && nb (6 * b + a))))) (by grind [bz, nI_eq]) J
      · refine sw_iload_n dX12_isOrder_44 rfl ?_
        refine sw_iload dX12_isOrder_45 rfl ?_
        refine sw_icmp_eq 80 dX12_isOrder_47 (by decide) (fun h47 => ?_) (fun h47 => ?_)
        · refine sw_iconst (x := 1) dX12_isOrder_80 (by decide) ?_
          refine sw_goto 85 dX12_isOrder_81 (by decide) ?_
          exact sw_top (y := bz (z && (decide (a = b) || !(nb (6 * a + b) && nb (6 * b + a))))) (by grind [bz, nI_eq]) J
        · refine sw_aload_n dX12_isOrder_50 rfl (by first | rfl | assumption) ?_
          refine sw_get dX12_isOrder_51 fr_X12_33 rfl rfl ?_
          refine sw_bipush (x := 6) dX12_isOrder_54 (by decide) ?_
          refine sw_iload_n dX12_isOrder_56 rfl ?_
          refine sw_imul dX12_isOrder_57 ?_
          refine sw_iload dX12_isOrder_58 rfl ?_
          refine sw_iadd dX12_isOrder_60 ?_
          refine sw_zaldN (6 * a + b) dX12_isOrder_61 rfl (by rw [nl_6, pk_mul, nI_add]) (show 6 * a + b < 36 by omega) (by decide) ?_
          refine sw_top (hB _ (by omega)) ?_
          refine sw_if_eq 80 dX12_isOrder_62 (by decide) (fun h62 => ?_) (fun h62 => ?_)
          · refine sw_iconst (x := 1) dX12_isOrder_80 (by decide) ?_
            refine sw_goto 85 dX12_isOrder_81 (by decide) ?_
            exact sw_top (y := bz (z && (decide (a = b) || !(nb (6 * a + b) && nb (6 * b + a))))) (by grind [bz, nI_eq]) J
          · refine sw_aload_n dX12_isOrder_65 rfl (by first | rfl | assumption) ?_
            refine sw_get dX12_isOrder_66 fr_X12_33 rfl rfl ?_
            refine sw_bipush (x := 6) dX12_isOrder_69 (by decide) ?_
            refine sw_iload dX12_isOrder_71 rfl ?_
            refine sw_imul dX12_isOrder_73 ?_
            refine sw_iload_n dX12_isOrder_74 rfl ?_
            refine sw_iadd dX12_isOrder_75 ?_
            refine sw_zaldN (6 * b + a) dX12_isOrder_76 rfl (by rw [nl_6, pk_mul, nI_add]) (show 6 * b + a < 36 by omega) (by decide) ?_
            refine sw_top (hB _ (by omega)) ?_
            refine sw_if_ne 84 dX12_isOrder_77 (by decide) (fun h77 => ?_) (fun h77 => ?_)
            · refine sw_iconst (x := 0) dX12_isOrder_84 (by decide) ?_
              exact sw_top (y := bz (z && (decide (a = b) || !(nb (6 * a + b) && nb (6 * b + a))))) (by grind [bz, nI_eq]) J
            · refine sw_iconst (x := 1) dX12_isOrder_80 (by decide) ?_
              refine sw_goto 85 dX12_isOrder_81 (by decide) ?_
              exact sw_top (y := bz (z && (decide (a = b) || !(nb (6 * a + b) && nb (6 * b + a))))) (by grind [bz, nI_eq]) J
set_option maxRecDepth 100000 in
theorem l_X12_ord1 {l : Launch} {D : va_G} {cy : Nat → ClassId} {d n : Nat} {f : sw_F} {s : Nat → Int32} {A : Nat → Nat → Int32} {nb : Nat → Bool} (hB : ∀ k, k < 36 → A 157 k = bz (nb k)) {N : Nat} (hN : N ≤ 6) {Q : sw_Q} {QX : sw_QX} : ∀ (k a : Nat) (z : Bool), a ≤ N → N < a + k → SW l D cy mX12_isOrder d 0 0 0 0 169 [(0, .ref 150), (1, .int (nI N)), (2, .int (bz (z && allF (r_oa nb N) a (N - a))))] [] n (md f s A) Q QX → SW l D cy mX12_isOrder d 0 0 0 0 4 [(0, .ref 150), (1, .int (nI N)), (2, .int (bz (z))), (3, .int (nI (a)))] [] n (md f s A) Q QX := by
  intro k
  induction k with
  | zero => intro i0 z0 h1 h2; exact absurd h2 (by omega)
  | succ k ih =>
    intro a z he hk K
    refine sw_iload_n dX12_isOrder_4 rfl ?_
    refine sw_iload_n dX12_isOrder_5 rfl ?_
    refine sw_icmp_ge 169 dX12_isOrder_6 (by decide) (fun h6 => ?_) (fun h6 => ?_)
    · refine sw_keep [0, 1, 2] rfl ?_
      rw [allF_end ((nI_leI (by omega) (by omega)).mp h6), Bool.and_true] at K
      exact K
    · have e1 : a < N := (nI_ltI (by omega) (by omega)).mp (i32_nle.mp h6)
      have J : SW l D cy mX12_isOrder d 0 0 0 0 30 [(0, .ref 150), (1, .int (nI N)), (2, .int (bz (z))), (3, .int (nI (a)))] [.int (bz (z && nb (7 * a)))] n (md f s A) Q QX := by
        refine sw_istore_n [(0, _), (1, _), (2, _), (3, _)] dX12_isOrder_30 (by decide) rfl ?_
        refine sw_iconst (x := 0) dX12_isOrder_31 (by decide) ?_
        refine sw_istore [(0, _), (1, _), (2, _), (3, _), (4, _)] dX12_isOrder_32 (by decide) rfl ?_
        refine l_X12_ord2 hB hN (by omega) (N + 1) 0 _ (by omega) (by omega) ?_
        refine sw_inc1 [(0, _), (1, _), (2, _), (3, _)] dX12_isOrder_163 rfl (by decide) rfl ?_
        refine sw_goto 4 dX12_isOrder_166 (by decide) ?_
        exact ih (a + 1) _ (by omega) (by omega) (by rw [allF_step e1, r_oa, ← Bool.and_assoc, ← Bool.and_assoc] at K; exact K)
      refine sw_iload_n dX12_isOrder_9 rfl ?_
      refine sw_if_eq 29 dX12_isOrder_10 (by decide) (fun h10 => ?_) (fun h10 => ?_)
      · refine sw_iconst (x := 0) dX12_isOrder_29 (by decide) ?_
        exact sw_top (y := bz (z && nb (7 * a))) (by grind [bz]) J
      · refine sw_aload_n dX12_isOrder_13 rfl (by first | rfl | assumption) ?_
        refine sw_get dX12_isOrder_14 fr_X12_33 rfl rfl ?_
        refine sw_bipush (x := 7) dX12_isOrder_17 (by decide) ?_
        refine sw_iload_n dX12_isOrder_19 rfl ?_
        refine sw_imul dX12_isOrder_20 ?_
        refine sw_zaldN (7 * a) dX12_isOrder_21 rfl (by rw [nl_7, pk_mul]) (show 7 * a < 36 by omega) (by decide) ?_
        refine sw_top (hB _ (by omega)) ?_
        refine sw_if_eq 29 dX12_isOrder_22 (by decide) (fun h22 => ?_) (fun h22 => ?_)
        · refine sw_iconst (x := 0) dX12_isOrder_29 (by decide) ?_
          exact sw_top (y := bz (z && nb (7 * a))) (by grind [bz]) J
        · refine sw_iconst (x := 1) dX12_isOrder_25 (by decide) ?_
          refine sw_goto 30 dX12_isOrder_26 (by decide) ?_
          exact sw_top (y := bz (z && nb (7 * a))) (by grind [bz]) J
set_option maxRecDepth 100000 in
theorem c_X12_isOrder {l : Launch} {D : va_G} {cy : Nat → ClassId} {d n : Nat} {f : sw_F} {s : Nat → Int32} {A : Nat → Nat → Int32} {nb : Nat → Bool} (hB : ∀ k, k < 36 → A 157 k = bz (nb k)) {N : Nat} (hN : N ≤ 6) : sw_Ct l D cy mX12_isOrder d 0 0 [.ref 150, .int (nI N)] n (md f s A) (sw_D (some (.int (bz (r_ord nb N)))) n (md f s A)) := by
  refine sw_of rfl (Nat.le_of_ble_eq_true rfl) ?_
  show SW l D cy mX12_isOrder d 0 0 0 0 0 [(0, .ref 150), (1, .int (nI N))] [] n (md f s A) _ _
  refine sw_iconst (x := 1) dX12_isOrder_0 (by decide) ?_
  refine sw_istore_n [(0, _), (1, _), (2, _)] dX12_isOrder_1 (by decide) rfl ?_
  refine sw_iconst (x := 0) dX12_isOrder_2 (by decide) ?_
  refine sw_istore_n [(0, _), (1, _), (2, _), (3, _)] dX12_isOrder_3 (by decide) rfl ?_
  refine l_X12_ord1 hB hN (N + 1) 0 true (by omega) (by omega) ?_
  refine sw_iload_n dX12_isOrder_169 rfl ?_
  exact sw_iret dX12_isOrder_170 rfl (by first | rfl | exact bz_n _) (by omega) (by omega) ⟨rfl, rfl, rfl⟩
def r_lb (nb : Nat → Bool) (N a b : Nat) : Bool := (fstF (r_isB nb N a b false) 0 N).isSome && (fstF (r_isB nb N a b true) 0 N).isSome
def r_la (nb : Nat → Bool) (N a : Nat) : Bool := allF (r_lb nb N a) 0 N
def r_lat (nb : Nat → Bool) (N : Nat) : Bool := allF (r_la nb N) 0 N
theorem fstF_lt {p : Nat → Bool} : ∀ {k i c : Nat}, fstF p i k = some c → i ≤ c ∧ c < i + k ∧ p c = true
  | 0, i, c, h => by cases h
  | k + 1, i, c, h => by
    rw [fstF] at h
    split at h
    · cases h
      exact ⟨Nat.le_refl _, by omega, by assumption⟩
    · obtain ⟨h1, h2, h3⟩ := fstF_lt h
      exact ⟨by omega, by omega, h3⟩
theorem r_bd_lt {nb : Nat → Bool} {N i j : Nat} {t : Bool} (hN : N ≤ 6) : r_bd nb N i j t < 0 ↔ (fstF (r_isB nb N i j t) 0 N).isSome = false := by
  unfold r_bd
  cases h : fstF (r_isB nb N i j t) 0 N with
  | none => simp
  | some c =>
    have := (fstF_lt h).2.1
    simp [nI_pos (show c < 2 ^ 31 by omega)]
set_option maxRecDepth 100000 in
theorem l_X12_lat2 {l : Launch} {D : va_G} {cy : Nat → ClassId} {d n : Nat} {f : sw_F} {s : Nat → Int32} {A : Nat → Nat → Int32} {nb : Nat → Bool} (hB : ∀ k, k < 36 → A 157 k = bz (nb k)) {N : Nat} (hN : N ≤ 6) (hd : 2 ≤ d) {Q : sw_Q} {QX : sw_QX} {a : Nat} (ha : a < N) : ∀ (k b : Nat) (z : Bool), b ≤ N → N < b + k → SW l D cy mX12_isLattice d 0 0 0 0 58 [(0, .ref 150), (1, .int (nI N)), (2, .int (bz (z && allF (r_lb nb N a) b (N - b)))), (3, .int (nI (a)))] [] n (md f s A) Q QX → SW l D cy mX12_isLattice d 0 0 0 0 12 [(0, .ref 150), (1, .int (nI N)), (2, .int (bz (z))), (3, .int (nI (a))), (4, .int (nI (b)))] [] n (md f s A) Q QX := by
  intro k
  induction k with
  | zero => intro i0 z0 h1 h2; exact absurd h2 (by omega)
  | succ k ih =>
    intro b z he hk K
    refine sw_iload dX12_isLattice_12 rfl ?_
    refine sw_iload_n dX12_isLattice_14 rfl ?_
    refine sw_icmp_ge 58 dX12_isLattice_15 (by decide) (fun h15 => ?_) (fun h15 => ?_)
    · refine sw_keep [0, 1, 2, 3] rfl ?_
      rw [allF_end ((nI_leI (by omega) (by omega)).mp h15), Bool.and_true] at K
      exact K
    · have e1 : b < N := (nI_ltI (by omega) (by omega)).mp (i32_nle.mp h15)
      have J : SW l D cy mX12_isLattice d 0 0 0 0 51 [(0, .ref 150), (1, .int (nI N)), (2, .int (bz (z))), (3, .int (nI (a))), (4, .int (nI (b)))] [.int (bz (z && r_lb nb N a b))] n (md f s A) Q QX := by
        refine sw_istore_n [(0, _), (1, _), (2, _), (3, _), (4, _)] dX12_isLattice_51 (by decide) rfl ?_
        first | refine sw_inc1 [(0, _), (1, _), (2, _), (3, _), (4, _)] dX12_isLattice_52 rfl (by decide) rfl ?_ | refine sw_iinc [(0, _), (1, _), (2, _), (3, _), (4, _)] dX12_isLattice_52 rfl (by decide) rfl ?_
        refine sw_goto 12 dX12_isLattice_55 (by decide) ?_
        exact ih (b + 1) _ (by omega) (by omega) (by rw [allF_step e1, ← Bool.and_assoc] at K; exact K)
      refine sw_iload_n dX12_isLattice_18 rfl ?_
      refine sw_if_eq 50 dX12_isLattice_19 (by decide) (fun h19 => ?_) (fun h19 => ?_)
      · refine sw_iconst (x := 0) dX12_isLattice_50 (by decide) ?_
        exact sw_top (y := bz (z && r_lb nb N a b)) (by simp only [r_lb]; grind [bz, r_bd_lt]) J
      · refine sw_aload_n dX12_isLattice_22 rfl (by first | rfl | assumption) ?_
        refine sw_iload_n dX12_isLattice_23 rfl ?_
        refine sw_iload_n dX12_isLattice_24 rfl ?_
        refine sw_iload dX12_isLattice_25 rfl ?_
        refine sw_iconst (x := 0) dX12_isLattice_27 (by decide) ?_
        refine sw_Vv dX12_isLattice_28 k_X12_131 mf_X12_bound (c_X12_bound (d := d - 1) hB hN (by omega) (by omega) false (by omega)) rfl ⟨_, rfl, rfl⟩ (by omega) (by omega) (by omega) rfl rfl (Nat.le_of_ble_eq_true rfl) ?_
        refine sw_if_lt 50 dX12_isLattice_31 (by decide) (fun h31 => ?_) (fun h31 => ?_)
        · refine sw_iconst (x := 0) dX12_isLattice_50 (by decide) ?_
          exact sw_top (y := bz (z && r_lb nb N a b)) (by simp only [r_lb]; grind [bz, r_bd_lt]) J
        · refine sw_aload_n dX12_isLattice_34 rfl (by first | rfl | assumption) ?_
          refine sw_iload_n dX12_isLattice_35 rfl ?_
          refine sw_iload_n dX12_isLattice_36 rfl ?_
          refine sw_iload dX12_isLattice_37 rfl ?_
          refine sw_iconst (x := 1) dX12_isLattice_39 (by decide) ?_
          refine sw_Vv dX12_isLattice_40 k_X12_131 mf_X12_bound (c_X12_bound (d := d - 1) hB hN (by omega) (by omega) true (by omega)) rfl ⟨_, rfl, rfl⟩ (by omega) (by omega) (by omega) rfl rfl (Nat.le_of_ble_eq_true rfl) ?_
          refine sw_if_lt 50 dX12_isLattice_43 (by decide) (fun h43 => ?_) (fun h43 => ?_)
          · refine sw_iconst (x := 0) dX12_isLattice_50 (by decide) ?_
            exact sw_top (y := bz (z && r_lb nb N a b)) (by simp only [r_lb]; grind [bz, r_bd_lt]) J
          · refine sw_iconst (x := 1) dX12_isLattice_46 (by decide) ?_
            refine sw_goto 51 dX12_isLattice_47 (by decide) ?_
            exact sw_top (y := bz (z && r_lb nb N a b)) (by simp only [r_lb]; grind [bz, r_bd_lt]) J
set_option maxRecDepth 100000 in
theorem l_X12_lat1 {l : Launch} {D : va_G} {cy : Nat → ClassId} {d n : Nat} {f : sw_F} {s : Nat → Int32} {A : Nat → Nat → Int32} {nb : Nat → Bool} (hB : ∀ k, k < 36 → A 157 k = bz (nb k)) {N : Nat} (hN : N ≤ 6) (hd : 2 ≤ d) {Q : sw_Q} {QX : sw_QX} : ∀ (k a : Nat) (z : Bool), a ≤ N → N < a + k → SW l D cy mX12_isLattice d 0 0 0 0 64 [(0, .ref 150), (1, .int (nI N)), (2, .int (bz (z && allF (r_la nb N) a (N - a))))] [] n (md f s A) Q QX → SW l D cy mX12_isLattice d 0 0 0 0 4 [(0, .ref 150), (1, .int (nI N)), (2, .int (bz (z))), (3, .int (nI (a)))] [] n (md f s A) Q QX := by
  intro k
  induction k with
  | zero => intro i0 z0 h1 h2; exact absurd h2 (by omega)
  | succ k ih =>
    intro a z he hk K
    refine sw_iload_n dX12_isLattice_4 rfl ?_
    refine sw_iload_n dX12_isLattice_5 rfl ?_
    refine sw_icmp_ge 64 dX12_isLattice_6 (by decide) (fun h6 => ?_) (fun h6 => ?_)
    · refine sw_keep [0, 1, 2] rfl ?_
      rw [allF_end ((nI_leI (by omega) (by omega)).mp h6), Bool.and_true] at K
      exact K
    · have e1 : a < N := (nI_ltI (by omega) (by omega)).mp (i32_nle.mp h6)
      refine sw_iconst (x := 0) dX12_isLattice_9 (by decide) ?_
      refine sw_istore [(0, _), (1, _), (2, _), (3, _), (4, _)] dX12_isLattice_10 (by decide) rfl ?_
      refine l_X12_lat2 hB hN hd e1 (N + 1) 0 _ (by omega) (by omega) ?_
      refine sw_inc1 [(0, _), (1, _), (2, _), (3, _)] dX12_isLattice_58 rfl (by decide) rfl ?_
      refine sw_goto 4 dX12_isLattice_61 (by decide) ?_
      exact ih (a + 1) _ (by omega) (by omega) (by rw [allF_step e1, r_la, ← Bool.and_assoc] at K; exact K)
set_option maxRecDepth 100000 in
theorem c_X12_isLattice {l : Launch} {D : va_G} {cy : Nat → ClassId} {d n : Nat} {f : sw_F} {s : Nat → Int32} {A : Nat → Nat → Int32} {nb : Nat → Bool} (hB : ∀ k, k < 36 → A 157 k = bz (nb k)) {N : Nat} (hN : N ≤ 6) (hd : 2 ≤ d) : sw_Ct l D cy mX12_isLattice d 0 0 [.ref 150, .int (nI N)] n (md f s A) (sw_D (some (.int (bz (r_lat nb N)))) n (md f s A)) := by
  refine sw_of rfl (Nat.le_of_ble_eq_true rfl) ?_
  show SW l D cy mX12_isLattice d 0 0 0 0 0 [(0, .ref 150), (1, .int (nI N))] [] n (md f s A) _ _
  refine sw_iconst (x := 1) dX12_isLattice_0 (by decide) ?_
  refine sw_istore_n [(0, _), (1, _), (2, _)] dX12_isLattice_1 (by decide) rfl ?_
  refine sw_iconst (x := 0) dX12_isLattice_2 (by decide) ?_
  refine sw_istore_n [(0, _), (1, _), (2, _), (3, _)] dX12_isLattice_3 (by decide) rfl ?_
  refine l_X12_lat1 hB hN hd (N + 1) 0 true (by omega) (by omega) ?_
  refine sw_iload_n dX12_isLattice_64 rfl ?_
  exact sw_iret dX12_isLattice_65 rfl (by first | rfl | exact bz_n _) (by omega) (by omega) ⟨rfl, rfl, rfl⟩
