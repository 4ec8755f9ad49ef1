/-! ===== THE CLASS: Code, become ===== -/
def gC (f : sw_F) (s : Nat → Int32) (A : Nat → Nat → Int32) (B : Nat → Nat → Int64) (o : Int64) (pr : Value) (K E : Nat → Int32) (C : Nat) : sw_F := gd f (va_up s 12 (nI C)) (va_up (va_up A 29 K) 30 E) B o pr
theorem cd_u1 (A : Nat → Nat → Int32) (K E X Y : Nat → Int32) : va_up (va_up (va_up (va_up A 29 K) 30 E) 29 X) 30 Y = va_up (va_up A 29 X) 30 Y := by
  rw [vu_so _ (show 29 < 30 by decide), vu_up, vu_up]
theorem q_add {l : Launch} {D : va_G} {cy : Nat → ClassId} {d n : Nat} {f : sw_F} {s : Nat → Int32} {A : Nat → Nat → Int32} {B : Nat → Nat → Int64} {o : Int64} {pr : Value} {K E : Nat → Int32} {C : Nat} (hC : C < 100) (k g : Int32) : sw_Ct l D cy mX0_add d 0 0 [.ref 28, .int k, .int g] n (gC f s A B o pr K E (C)) (sw_D (some (.int 1)) n (gC f s A B o pr (upd K C k) (upd E C g) (C + 1))) := by
  have h := c_X0_add (l := l) (D := D) (cy := cy) (d := d) (n := n) (f := f) (s := va_up s 12 (nI C)) (A := va_up (va_up A 29 K) 30 E) (B := B) (o := o) (pr := pr) (C := C) rfl (by omega) k g
  have e1 : va_up s 12 (nI C) 12 < 100 := by rw [vu_at, nl_100]; exact (nI_ltI (by omega) (by omega)).mpr hC
  rw [decide_eq_true e1, cadS, cadA, if_pos e1, if_pos e1, vu_up, vu_at, nI_clamp (by omega), nI_1, show va_up (va_up A 29 K) 30 E 29 = K from rfl, show va_up (va_up A 29 K) 30 E 30 = E from rfl] at h
  rw [cd_u1] at h
  exact h
set_option maxRecDepth 100000 in
theorem c_X0_aimHere {l : Launch} {D : va_G} {cy : Nat → ClassId} {d n : Nat} {f : sw_F} {s : Nat → Int32} {A : Nat → Nat → Int32} {B : Nat → Nat → Int64} {o : Int64} {pr : Value} (hd : 1 ≤ d) {K E : Nat → Int32} {C k : Nat} (hC : C ≤ 100) (hk : k < C) : sw_Ct l D cy mX0_aimHere d 0 0 [.ref 28, .int (nI k)] n (gC f s A B o pr K E (C)) (sw_D none n (gC f s A B o pr K (upd E k (nI C)) (C))) := by
  refine sw_of rfl (Nat.le_of_ble_eq_true rfl) ?_
  show SW l D cy mX0_aimHere d 0 0 0 0 0 [(0, .ref 28), (1, .int (nI k))] [] n (gd f (va_up s 12 (nI (C))) (va_up (va_up A 29 K) 30 E) B o pr) _ _
  refine sw_aload_n dX0_aimHere_0 rfl (by first | rfl | assumption) ?_
  refine sw_iload_n dX0_aimHere_1 rfl ?_
  refine sw_Vv dX0_aimHere_2 k_X0_22 mf_X0_has (c_X0_has (d := d - 1) (nI k)) rfl ⟨_, rfl, rfl⟩ (by omega) (by omega) (by omega) rfl rfl (Nat.le_of_ble_eq_true rfl) ?_
  refine sw_if_eq 18 dX0_aimHere_5 (by decide) (fun h5 => ?_) (fun h5 => ?_)
  · exact absurd (bz_0.mp h5) (by rw [chs_n (C := C) rfl hC hk]; decide)
  · refine sw_aload_n dX0_aimHere_8 rfl (by first | rfl | assumption) ?_
    refine sw_get dX0_aimHere_9 fr_X0_15 rfl rfl ?_
    refine sw_iload_n dX0_aimHere_12 rfl ?_
    refine sw_aload_n dX0_aimHere_13 rfl (by first | rfl | assumption) ?_
    refine sw_get dX0_aimHere_14 fr_X0_18 rfl rfl ?_
    refine sw_top (y := nI C) rfl ?_
    refine g_iast (k) dX0_aimHere_17 ⟨by decide, rfl, rfl⟩ rfl (show k < 100 by omega) rfl ?_
    exact sw_vret dX0_aimHere_18 rfl (by omega) (by omega) ⟨rfl, rfl, by rw [vu_up]; rfl⟩
theorem upd_nq (g : Nat → Int32) {k j : Nat} (h : ¬ j = k) {x : Int32} : upd g k x j = g j := by
  unfold upd
  rw [if_neg h]
set_option maxRecDepth 100000 in
theorem c_X0_addExpression {l : Launch} {D : va_G} {cy : Nat → ClassId} {n : Nat} {f : sw_F} {s : Nat → Int32} {A : Nat → Nat → Int32} {B : Nat → Nat → Int64} {o : Int64} {pr : Value} {m n' : Nat} (hm : 150 ≤ m) : ∀ (e : ET) (j p d : Nat) (K E : Nat → Int32) (C : Nat), 9 - j ≤ d → wfE e → dkE j e → ndE f m n' e p → C + szE e ≤ 100 → sw_Ct l D cy mX0_addExpression d 0 0 [.ref 28, .ref p, .int (nI j)] n (gC f s A B o pr K E (C)) (fun r n' f' => r = none ∧ n' = n ∧ ∃ K' E', f' = (gC f s A B o pr K' E' (C + szE e)) ∧ cdE K' E' e C ∧ (∀ j, j < C → K' j = K j ∧ E' j = E j))
  | .leaf (k, v), j, p, d, K, E, C, hd, wf, dk, nd0, hC => by
    have hp : 150 ≤ p := Nat.le_trans hm nd0.1.1
    have hf : f p = nd (nI k) (nI v) .null .null .null .null := nd0.2
    have dk : j ≤ 6 := dk
    have hC : C + 1 ≤ 100 := hC
    have fin : ∀ r : Option Value, r = none → (fun r n' f' => r = none ∧ n' = n ∧ ∃ K' E', f' = (gC f s A B o pr K' E' (C + szE (.leaf (k, v)))) ∧ cdE K' E' (.leaf (k, v)) C ∧ (∀ j, j < C → K' j = K j ∧ E' j = E j)) r n (gC f s A B o pr (upd K C (nI k)) (upd E C (nI v)) (C + 1)) := fun r hr => ⟨hr, rfl, _, _, rfl, ⟨upd_at _ _ _, upd_at _ _ _⟩, fun j hj => ⟨upd_nq _ (by omega), upd_nq _ (by omega)⟩⟩
    refine sw_of rfl (Nat.le_of_ble_eq_true rfl) ?_
    show SW l D cy mX0_addExpression d 0 0 0 0 0 [(0, .ref 28), (1, .ref p), (2, .int (nI j))] [] n (gd f (va_up s 12 (nI (C))) (va_up (va_up A 29 K) 30 E) B o pr) _ _
    refine sw_aload_n dX0_addExpression_0 rfl rfl ?_
    refine sw_ifnullR dX0_addExpression_1 ?_
    rcases wf with ⟨w1, w2⟩ | ⟨w1, w2⟩
    · have w1 : k = 0 := w1
      subst w1
      refine sw_iload_n dX0_addExpression_4 rfl ?_
      refine sw_bipush (x := 6) dX0_addExpression_5 (by decide) ?_
      refine sw_icmp_le 11 dX0_addExpression_7 (by decide) (fun h7 => ?_) (fun h7 => ?_)
      · refine sw_aload_n dX0_addExpression_11 rfl (by first | rfl | assumption) ?_
        refine sw_get dX0_addExpression_12 fr_X0_46 (gd_n hp hf) rfl ?_
        refine sw_if_ne 31 dX0_addExpression_15 (by decide) (fun h15 => ?_) (fun h15 => ?_)
        · exact absurd (show nI 0 = 0 by decide) h15
        · refine sw_aload_n dX0_addExpression_18 rfl (by first | rfl | assumption) ?_
          refine sw_iconst (x := 0) dX0_addExpression_19 (by decide) ?_
          refine sw_top nl_0 ?_
          refine sw_aload_n dX0_addExpression_20 rfl (by first | rfl | assumption) ?_
          refine sw_get dX0_addExpression_21 fr_X0_56 (gd_n hp hf) rfl ?_
          refine sw_Vv dX0_addExpression_24 k_X0_33 mf_X0_add (q_add (d := d - 1) (K := K) (E := E) (C := C) (by omega) (nI 0) (nI v)) rfl ⟨_, rfl, rfl⟩ (by omega) (by omega) (by omega) rfl rfl (Nat.le_of_ble_eq_true rfl) ?_
          refine sw_pop dX0_addExpression_27 rfl ?_
          refine sw_goto 84 dX0_addExpression_28 (by decide) ?_
          exact sw_vret dX0_addExpression_84 rfl (by omega) (by omega) (fin none rfl)
      · exact absurd (nlt6 dk) h7
    · have w1 : k = 1 := w1
      subst w1
      refine sw_iload_n dX0_addExpression_4 rfl ?_
      refine sw_bipush (x := 6) dX0_addExpression_5 (by decide) ?_
      refine sw_icmp_le 11 dX0_addExpression_7 (by decide) (fun h7 => ?_) (fun h7 => ?_)
      · refine sw_aload_n dX0_addExpression_11 rfl (by first | rfl | assumption) ?_
        refine sw_get dX0_addExpression_12 fr_X0_46 (gd_n hp hf) rfl ?_
        refine sw_if_ne 31 dX0_addExpression_15 (by decide) (fun h15 => ?_) (fun h15 => ?_)
        · refine sw_aload_n dX0_addExpression_31 rfl (by first | rfl | assumption) ?_
          refine sw_get dX0_addExpression_32 fr_X0_46 (gd_n hp hf) rfl ?_
          refine sw_iconst (x := 1) dX0_addExpression_35 (by decide) ?_
          refine sw_icmp_ne 52 dX0_addExpression_36 (by decide) (fun h36 => ?_) (fun h36 => ?_)
          · exact absurd rfl h36
          · refine sw_aload_n dX0_addExpression_39 rfl (by first | rfl | assumption) ?_
            refine sw_iconst (x := 1) dX0_addExpression_40 (by decide) ?_
            refine sw_top nl_1 ?_
            refine sw_aload_n dX0_addExpression_41 rfl (by first | rfl | assumption) ?_
            refine sw_get dX0_addExpression_42 fr_X0_56 (gd_n hp hf) rfl ?_
            refine sw_Vv dX0_addExpression_45 k_X0_33 mf_X0_add (q_add (d := d - 1) (K := K) (E := E) (C := C) (by omega) (nI 1) (nI v)) rfl ⟨_, rfl, rfl⟩ (by omega) (by omega) (by omega) rfl rfl (Nat.le_of_ble_eq_true rfl) ?_
            refine sw_pop dX0_addExpression_48 rfl ?_
            refine sw_goto 84 dX0_addExpression_49 (by decide) ?_
            exact sw_vret dX0_addExpression_84 rfl (by omega) (by omega) (fin none rfl)
        · exact absurd h15 (show ¬ nI 1 = 0 by decide)
      · exact absurd (nlt6 dk) h7
  | .branch q a b, j, p, d, K, E, C, hd, wf, dk, nd0, hC => by
    obtain ⟨n1, pa, pb, hf, na, nb⟩ := nd0
    have hp : 150 ≤ p := Nat.le_trans hm n1.1
    have dk0 := dk.1
    have hC : C + (1 + szE a + szE b) ≤ 100 := hC
    refine sw_of rfl (Nat.le_of_ble_eq_true rfl) ?_
    show SW l D cy mX0_addExpression d 0 0 0 0 0 [(0, .ref 28), (1, .ref p), (2, .int (nI j))] [] n (gd f (va_up s 12 (nI (C))) (va_up (va_up A 29 K) 30 E) B o pr) _ _
    refine sw_aload_n dX0_addExpression_0 rfl rfl ?_
    refine sw_ifnullR dX0_addExpression_1 ?_
    refine sw_iload_n dX0_addExpression_4 rfl ?_
    refine sw_bipush (x := 6) dX0_addExpression_5 (by decide) ?_
    refine sw_icmp_le 11 dX0_addExpression_7 (by decide) (fun h7 => ?_) (fun h7 => ?_)
    · refine sw_aload_n dX0_addExpression_11 rfl (by first | rfl | assumption) ?_
      refine sw_get dX0_addExpression_12 fr_X0_46 (gd_n hp hf) rfl ?_
      refine sw_if_ne 31 dX0_addExpression_15 (by decide) (fun h15 => ?_) (fun h15 => ?_)
      · refine sw_aload_n dX0_addExpression_31 rfl (by first | rfl | assumption) ?_
        refine sw_get dX0_addExpression_32 fr_X0_46 (gd_n hp hf) rfl ?_
        refine sw_iconst (x := 1) dX0_addExpression_35 (by decide) ?_
        refine sw_icmp_ne 52 dX0_addExpression_36 (by decide) (fun h36 => ?_) (fun h36 => ?_)
        · refine sw_aload_n dX0_addExpression_52 rfl (by first | rfl | assumption) ?_
          refine sw_aload_n dX0_addExpression_53 rfl (by first | rfl | assumption) ?_
          refine sw_get dX0_addExpression_54 fr_X0_62 (gd_n hp hf) rfl ?_
          refine sw_iload_n dX0_addExpression_57 rfl ?_
          refine sw_iconst (x := 1) dX0_addExpression_58 (by decide) ?_
          refine sw_iadd dX0_addExpression_59 ?_
          refine sw_top (y := nI (j + 1)) (nI_1 j) ?_
          refine sw_callV dX0_addExpression_60 k_X0_43 mf_X0_addExpression ⟨_, rfl, rfl⟩ rfl (c_X0_addExpression hm a (j + 1) pa (d - 1) K E C (by omega) wf.2.1 dk.2.1 na (by omega)) (by omega) ⟨by omega, by omega⟩ rfl rfl (Nat.le_of_ble_eq_true rfl) (fun r' nn f' hq hle => ?_)
          obtain ⟨hr', hn', K1, E1, hf', cd1, fr1⟩ := hq
          subst hr'
          have hn' := hn'.symm
          subst hn'
          subst hf'
          refine sw_aload_n dX0_addExpression_63 rfl (by first | rfl | assumption) ?_
          refine sw_aload_n dX0_addExpression_64 rfl (by first | rfl | assumption) ?_
          refine sw_get dX0_addExpression_65 fr_X0_69 (gd_n hp hf) rfl ?_
          refine sw_iload_n dX0_addExpression_68 rfl ?_
          refine sw_iconst (x := 1) dX0_addExpression_69 (by decide) ?_
          refine sw_iadd dX0_addExpression_70 ?_
          refine sw_top (y := nI (j + 1)) (nI_1 j) ?_
          refine sw_callV dX0_addExpression_71 k_X0_43 mf_X0_addExpression ⟨_, rfl, rfl⟩ rfl (c_X0_addExpression hm b (j + 1) pb (d - 1) K1 E1 (C + szE a) (by omega) wf.2.2 dk.2.2 nb (by omega)) (by omega) ⟨by omega, by omega⟩ rfl rfl (Nat.le_of_ble_eq_true rfl) (fun r' nn f' hq hle => ?_)
          obtain ⟨hr', hn', K2, E2, hf', cd2, fr2⟩ := hq
          subst hr'
          have hn' := hn'.symm
          subst hn'
          subst hf'
          refine sw_aload_n dX0_addExpression_74 rfl (by first | rfl | assumption) ?_
          refine sw_aload_n dX0_addExpression_75 rfl (by first | rfl | assumption) ?_
          refine sw_get dX0_addExpression_76 fr_X0_56 (gd_n hp hf) rfl ?_
          refine sw_iconst (x := 0) dX0_addExpression_79 (by decide) ?_
          refine sw_Vv dX0_addExpression_80 k_X0_33 mf_X0_add (q_add (d := d - 1) (K := K2) (E := E2) (C := C + szE a + szE b) (by omega) (nI q) 0) rfl ⟨_, rfl, rfl⟩ (by omega) (by omega) (by omega) rfl rfl (Nat.le_of_ble_eq_true rfl) ?_
          refine sw_pop dX0_addExpression_83 rfl ?_
          exact sw_vret dX0_addExpression_84 rfl (by omega) (by omega) ⟨rfl, rfl, _, _, by rw [szE, show C + (1 + szE a + szE b) = C + szE a + szE b + 1 by omega], ⟨⟨upd_at _ _ _, upd_at _ _ _⟩, cdE_cg a C (fun j h1 h2 => by rw [upd_nq _ (show ¬ j = C + szE a + szE b by omega), upd_nq _ (show ¬ j = C + szE a + szE b by omega)]; exact fr2 j (by omega)) cd1, cdE_cg b (C + szE a) (fun j h1 h2 => by rw [upd_nq _ (show ¬ j = C + szE a + szE b by omega), upd_nq _ (show ¬ j = C + szE a + szE b by omega)]; exact ⟨rfl, rfl⟩) cd2⟩, fun j hj => by rw [upd_nq _ (show ¬ j = C + szE a + szE b by omega), upd_nq _ (show ¬ j = C + szE a + szE b by omega), (fr2 j (by omega)).1, (fr2 j (by omega)).2]; exact fr1 j hj⟩
        · exact absurd h36 (by decide)
      · exact absurd h15 (by decide)
    · exact absurd (nlt6 (show j ≤ 6 by omega)) h7
def ARC (l : Launch) (D : va_G) (cy : Nat → ClassId) (n : Nat) (f : sw_F) (s : Nat → Int32) (A : Nat → Nat → Int32) (B : Nat → Nat → Int64) (o : Int64) (pr : Value) (d g : Nat) (t : RT) (pv : Value) : Prop := ∀ (K E : Nat → Int32) (C : Nat), C + lnR t ≤ 99 → sw_Ct l D cy mX0_addRow d 0 0 [.ref 28, pv, .int (nI g)] n (gC f s A B o pr K E (C)) (fun r n' f' => r = none ∧ n' = n ∧ ∃ K' E', f' = (gC f s A B o pr K' E' (C + lnR t)) ∧ cdR K' E' t C ∧ (∀ j, j < C → K' j = K j ∧ E' j = E j))
set_option maxRecDepth 100000 in
theorem c_X0_addLoop {l : Launch} {D : va_G} {cy : Nat → ClassId} {d n : Nat} {f : sw_F} {s : Nat → Int32} {A : Nat → Nat → Int32} {B : Nat → Nat → Int64} {o : Int64} {pr : Value} {p : Nat} (hp : 150 ≤ p) {k0 v0 : Int32} {pe : Value} {y z nx : Value} (hf : f p = nd k0 v0 pe y z nx) (hy : sw_isR y = true) {g w : Nat} {r1 : RT} (hd : 3 ≤ d) (hr : ARC l D cy n f s A B o pr (d - 1) (g + 1) r1 y) {K E : Nat → Int32} {C : Nat} (hC : C + 1 + lnR r1 + 1 ≤ 99) : sw_Ct l D cy mX0_addLoop d 0 0 [.ref 28, .ref p, .int (nI w), .int (nI g)] n (gC f s A B o pr K E (C)) (fun r n' f' => r = none ∧ n' = n ∧ ∃ K' E', f' = (gC f s A B o pr K' E' (C + 1 + lnR r1 + 1)) ∧ ((K' C = 7 ∧ E' C = nI (C + 1 + lnR r1 + 1)) ∧ (K' (C + 1 + lnR r1) = 8 ∧ E' (C + 1 + lnR r1) = nI w) ∧ cdR K' E' r1 (C + 1)) ∧ (∀ j, j < C → K' j = K j ∧ E' j = E j)) := by
  refine sw_of rfl (Nat.le_of_ble_eq_true rfl) ?_
  show SW l D cy mX0_addLoop d 0 0 0 0 0 [(0, .ref 28), (1, .ref p), (2, .int (nI w)), (3, .int (nI g))] [] n (gd f (va_up s 12 (nI (C))) (va_up (va_up A 29 K) 30 E) B o pr) _ _
  refine sw_aload_n dX0_addLoop_0 rfl (by first | rfl | assumption) ?_
  refine sw_get dX0_addLoop_1 fr_X0_18 rfl rfl ?_
  refine sw_top (y := nI C) rfl ?_
  refine sw_istore [(0, _), (1, _), (2, _), (3, _), (4, _)] dX0_addLoop_4 (by decide) rfl ?_
  refine sw_aload_n dX0_addLoop_6 rfl (by first | rfl | assumption) ?_
  refine sw_bipush (x := 7) dX0_addLoop_7 (by decide) ?_
  refine sw_iconst (x := 0) dX0_addLoop_9 (by decide) ?_
  refine sw_Vv dX0_addLoop_10 k_X0_33 mf_X0_add (q_add (d := d - 1) (K := K) (E := E) (C := C) (by omega) 7 0) rfl ⟨_, rfl, rfl⟩ (by omega) (by omega) (by omega) rfl rfl (Nat.le_of_ble_eq_true rfl) ?_
  refine sw_pop dX0_addLoop_13 rfl ?_
  refine sw_aload_n dX0_addLoop_14 rfl (by first | rfl | assumption) ?_
  refine sw_aload_n dX0_addLoop_15 rfl (by first | rfl | assumption) ?_
  refine sw_get dX0_addLoop_16 fr_X0_62 (gd_n hp hf) rfl ?_
  refine sw_iload_n dX0_addLoop_19 rfl ?_
  refine sw_iconst (x := 1) dX0_addLoop_20 (by decide) ?_
  refine sw_iadd dX0_addLoop_21 ?_
  refine sw_top (y := nI (g + 1)) (nI_1 g) ?_
  refine sw_callV dX0_addLoop_22 k_X0_29 mf_X0_addRow ⟨_, rfl, rfl⟩ rfl (hr (upd K C 7) (upd E C 0) (C + 1) (by omega)) (by omega) ⟨by omega, by omega⟩ rfl rfl (Nat.le_of_ble_eq_true rfl) (fun r' nn f' hq hle => ?_)
  obtain ⟨hr', hn', K1, E1, hf', cd1, fr1⟩ := hq
  subst hr'
  have hn' := hn'.symm
  subst hn'
  subst hf'
  refine sw_aload_n dX0_addLoop_25 rfl (by first | rfl | assumption) ?_
  refine sw_bipush (x := 8) dX0_addLoop_26 (by decide) ?_
  refine sw_iload_n dX0_addLoop_28 rfl ?_
  refine sw_Vv dX0_addLoop_29 k_X0_33 mf_X0_add (q_add (d := d - 1) (K := K1) (E := E1) (C := C + 1 + lnR r1) (by omega) 8 (nI w)) rfl ⟨_, rfl, rfl⟩ (by omega) (by omega) (by omega) rfl rfl (Nat.le_of_ble_eq_true rfl) ?_
  refine sw_pop dX0_addLoop_32 rfl ?_
  refine sw_aload_n dX0_addLoop_33 rfl (by first | rfl | assumption) ?_
  refine sw_iload dX0_addLoop_34 rfl ?_
  refine sw_Vn dX0_addLoop_36 k_X0_65 mf_X0_aimHere (c_X0_aimHere (d := d - 1) (by omega) (K := upd K1 (C + 1 + lnR r1) 8) (E := upd E1 (C + 1 + lnR r1) (nI w)) (C := C + 1 + lnR r1 + 1) (k := C) (by omega) (by omega)) rfl ⟨_, rfl, rfl⟩ (by omega) (by omega) (by omega) rfl rfl (Nat.le_of_ble_eq_true rfl) ?_
  exact sw_vret dX0_addLoop_39 rfl (by omega) (by omega) ⟨rfl, rfl, _, _, rfl, ⟨⟨by rw [upd_nq _ (show ¬ C = C + 1 + lnR r1 by omega), (fr1 C (by omega)).1, upd_at], upd_at _ _ _⟩, ⟨upd_at _ _ _, by rw [upd_nq _ (show ¬ C + 1 + lnR r1 = C by omega), upd_at]⟩, cdR_cg r1 (C + 1) (fun j h1 h2 => ⟨upd_nq _ (by omega), by rw [upd_nq _ (show ¬ j = C by omega), upd_nq _ (show ¬ j = C + 1 + lnR r1 by omega)]⟩) cd1⟩, fun j hj => ⟨by rw [upd_nq _ (show ¬ j = C + 1 + lnR r1 by omega), (fr1 j (by omega)).1, upd_nq _ (show ¬ j = C by omega)], by rw [upd_nq _ (show ¬ j = C by omega), upd_nq _ (show ¬ j = C + 1 + lnR r1 by omega), (fr1 j (by omega)).2, upd_nq _ (show ¬ j = C by omega)]⟩⟩
set_option maxRecDepth 100000 in
theorem c_X0_addChoice {l : Launch} {D : va_G} {cy : Nat → ClassId} {d n : Nat} {f : sw_F} {s : Nat → Int32} {A : Nat → Nat → Int32} {B : Nat → Nat → Int64} {o : Int64} {pr : Value} {p : Nat} (hp : 150 ≤ p) {k0 v0 : Int32} {pe : Value} {y z nx : Value} (hf : f p = nd k0 v0 pe y z nx) (hy : sw_isR y = true) (hz : sw_isR z = true) {g : Nat} {r1 r2 : RT} (hd : 3 ≤ d) (hr1 : ARC l D cy n f s A B o pr (d - 1) (g + 1) r1 y) (hr2 : ARC l D cy n f s A B o pr (d - 1) (g + 1) r2 z) {K E : Nat → Int32} {C : Nat} (hC : C + 1 + lnR r1 + 1 + lnR r2 ≤ 99) : sw_Ct l D cy mX0_addChoice d 0 0 [.ref 28, .ref p, .int (nI g)] n (gC f s A B o pr K E (C)) (fun r n' f' => r = none ∧ n' = n ∧ ∃ K' E', f' = (gC f s A B o pr K' E' (C + 1 + lnR r1 + 1 + lnR r2)) ∧ ((K' C = 7 ∧ E' C = nI (C + 1 + lnR r1 + 1)) ∧ (K' (C + 1 + lnR r1) = 8 ∧ E' (C + 1 + lnR r1) = nI (C + 1 + lnR r1 + 1 + lnR r2)) ∧ cdR K' E' r1 (C + 1) ∧ cdR K' E' r2 (C + 1 + lnR r1 + 1)) ∧ (∀ j, j < C → K' j = K j ∧ E' j = E j)) := by
  refine sw_of rfl (Nat.le_of_ble_eq_true rfl) ?_
  show SW l D cy mX0_addChoice d 0 0 0 0 0 [(0, .ref 28), (1, .ref p), (2, .int (nI g))] [] n (gd f (va_up s 12 (nI (C))) (va_up (va_up A 29 K) 30 E) B o pr) _ _
  refine sw_aload_n dX0_addChoice_0 rfl (by first | rfl | assumption) ?_
  refine sw_get dX0_addChoice_1 fr_X0_18 rfl rfl ?_
  refine sw_top (y := nI C) rfl ?_
  refine sw_istore_n [(0, _), (1, _), (2, _), (3, _)] dX0_addChoice_4 (by decide) rfl ?_
  refine sw_aload_n dX0_addChoice_5 rfl (by first | rfl | assumption) ?_
  refine sw_bipush (x := 7) dX0_addChoice_6 (by decide) ?_
  refine sw_iconst (x := 0) dX0_addChoice_8 (by decide) ?_
  refine sw_Vv dX0_addChoice_9 k_X0_33 mf_X0_add (q_add (d := d - 1) (K := K) (E := E) (C := C) (by omega) 7 0) rfl ⟨_, rfl, rfl⟩ (by omega) (by omega) (by omega) rfl rfl (Nat.le_of_ble_eq_true rfl) ?_
  refine sw_pop dX0_addChoice_12 rfl ?_
  refine sw_aload_n dX0_addChoice_13 rfl (by first | rfl | assumption) ?_
  refine sw_aload_n dX0_addChoice_14 rfl (by first | rfl | assumption) ?_
  refine sw_get dX0_addChoice_15 fr_X0_62 (gd_n hp hf) rfl ?_
  refine sw_iload_n dX0_addChoice_18 rfl ?_
  refine sw_iconst (x := 1) dX0_addChoice_19 (by decide) ?_
  refine sw_iadd dX0_addChoice_20 ?_
  refine sw_top (y := nI (g + 1)) (nI_1 g) ?_
  refine sw_callV dX0_addChoice_21 k_X0_29 mf_X0_addRow ⟨_, rfl, rfl⟩ rfl (hr1 (upd K C 7) (upd E C 0) (C + 1) (by omega)) (by omega) ⟨by omega, by omega⟩ rfl rfl (Nat.le_of_ble_eq_true rfl) (fun r' nn f' hq hle => ?_)
  obtain ⟨hr', hn', K1, E1, hf', cd1, fr1⟩ := hq
  subst hr'
  have hn' := hn'.symm
  subst hn'
  subst hf'
  refine sw_aload_n dX0_addChoice_24 rfl (by first | rfl | assumption) ?_
  refine sw_get dX0_addChoice_25 fr_X0_18 rfl rfl ?_
  refine sw_top (y := nI (C + 1 + lnR r1)) rfl ?_
  refine sw_istore [(0, _), (1, _), (2, _), (3, _), (4, _)] dX0_addChoice_28 (by decide) rfl ?_
  refine sw_aload_n dX0_addChoice_30 rfl (by first | rfl | assumption) ?_
  refine sw_bipush (x := 8) dX0_addChoice_31 (by decide) ?_
  refine sw_iconst (x := 0) dX0_addChoice_33 (by decide) ?_
  refine sw_Vv dX0_addChoice_34 k_X0_33 mf_X0_add (q_add (d := d - 1) (K := K1) (E := E1) (C := C + 1 + lnR r1) (by omega) 8 0) rfl ⟨_, rfl, rfl⟩ (by omega) (by omega) (by omega) rfl rfl (Nat.le_of_ble_eq_true rfl) ?_
  refine sw_pop dX0_addChoice_37 rfl ?_
  refine sw_aload_n dX0_addChoice_38 rfl (by first | rfl | assumption) ?_
  refine sw_iload_n dX0_addChoice_39 rfl ?_
  refine sw_Vn dX0_addChoice_40 k_X0_65 mf_X0_aimHere (c_X0_aimHere (d := d - 1) (by omega) (K := (upd K1 (C + 1 + lnR r1) 8)) (E := upd E1 (C + 1 + lnR r1) 0) (C := C + 1 + lnR r1 + 1) (k := C) (by omega) (by omega)) rfl ⟨_, rfl, rfl⟩ (by omega) (by omega) (by omega) rfl rfl (Nat.le_of_ble_eq_true rfl) ?_
  refine sw_aload_n dX0_addChoice_43 rfl (by first | rfl | assumption) ?_
  refine sw_aload_n dX0_addChoice_44 rfl (by first | rfl | assumption) ?_
  refine sw_get dX0_addChoice_45 fr_X0_69 (gd_n hp hf) rfl ?_
  refine sw_iload_n dX0_addChoice_48 rfl ?_
  refine sw_iconst (x := 1) dX0_addChoice_49 (by decide) ?_
  refine sw_iadd dX0_addChoice_50 ?_
  refine sw_top (y := nI (g + 1)) (nI_1 g) ?_
  refine sw_callV dX0_addChoice_51 k_X0_29 mf_X0_addRow ⟨_, rfl, rfl⟩ rfl (hr2 (upd K1 (C + 1 + lnR r1) 8) (upd (upd E1 (C + 1 + lnR r1) 0) C (nI (C + 1 + lnR r1 + 1))) (C + 1 + lnR r1 + 1) (by omega)) (by omega) ⟨by omega, by omega⟩ rfl rfl (Nat.le_of_ble_eq_true rfl) (fun r' nn f' hq hle => ?_)
  obtain ⟨hr', hn', K2, E2, hf', cd2, fr2⟩ := hq
  subst hr'
  have hn' := hn'.symm
  subst hn'
  subst hf'
  have kA : ∀ j, j < C + 1 + lnR r1 + 1 → ¬ j = C + 1 + lnR r1 → K2 j = K1 j := fun j hj hj2 => by rw [(fr2 j (by omega)).1, upd_nq _ (show ¬ j = C + 1 + lnR r1 by omega)]
  have eA : ∀ j, j < C + 1 + lnR r1 + 1 → ¬ j = C + 1 + lnR r1 → ¬ j = C → upd E2 (C + 1 + lnR r1) (nI (C + 1 + lnR r1 + 1 + lnR r2)) j = E1 j := fun j hj hj2 hj3 => by rw [upd_nq _ hj2, (fr2 j (by omega)).2, upd_nq _ hj3, upd_nq _ hj2]
  refine sw_aload_n dX0_addChoice_54 rfl (by first | rfl | assumption) ?_
  refine sw_iload dX0_addChoice_55 rfl ?_
  refine sw_Vn dX0_addChoice_57 k_X0_65 mf_X0_aimHere (c_X0_aimHere (d := d - 1) (by omega) (K := K2) (E := E2) (C := C + 1 + lnR r1 + 1 + lnR r2) (k := C + 1 + lnR r1) (by omega) (by omega)) rfl ⟨_, rfl, rfl⟩ (by omega) (by omega) (by omega) rfl rfl (Nat.le_of_ble_eq_true rfl) ?_
  exact sw_vret dX0_addChoice_60 rfl (by omega) (by omega) ⟨rfl, rfl, _, _, rfl, ⟨⟨by rw [kA C (by omega) (by omega), (fr1 C (by omega)).1, upd_at], by rw [upd_nq _ (show ¬ C = C + 1 + lnR r1 by omega), (fr2 C (by omega)).2, upd_at]⟩, ⟨by rw [(fr2 (C + 1 + lnR r1) (by omega)).1, upd_at], upd_at _ _ _⟩, cdR_cg r1 (C + 1) (fun j h1 h2 => ⟨kA j (by omega) (by omega), eA j (by omega) (by omega) (by omega)⟩) cd1, cdR_cg r2 (C + 1 + lnR r1 + 1) (fun j h1 h2 => ⟨rfl, upd_nq _ (by omega)⟩) cd2⟩, fun j hj => ⟨by rw [kA j (by omega) (by omega), (fr1 j (by omega)).1, upd_nq _ (show ¬ j = C by omega)], by rw [eA j (by omega) (by omega) (by omega), (fr1 j (by omega)).2, upd_nq _ (show ¬ j = C by omega)]⟩⟩
set_option maxRecDepth 100000 in
theorem c_ar_of {l : Launch} {D : va_G} {cy : Nat → ClassId} {d n : Nat} {f : sw_F} {s : Nat → Int32} {A : Nat → Nat → Int32} {B : Nat → Nat → Int64} {o : Int64} {pr : Value} {g : Nat} (hg : g ≤ 6) {pv : Value} (hv : sw_isR pv = true) {Q : sw_Q} (K : ∀ (w0 : Value) (QX : sw_QX), SW l D cy mX0_addRow d 0 0 0 0 9 [(0, .ref 28), (1, w0), (2, .int (nI g)), (3, pv)] [] n (gd f s A B o pr) Q QX) : sw_Ct l D cy mX0_addRow d 0 0 [.ref 28, pv, .int (nI g)] n (gd f s A B o pr) Q := by
  refine sw_of rfl (by cases pv with | null => exact Nat.le_of_ble_eq_true rfl | ref a => exact Nat.le_of_ble_eq_true rfl | _ => cases hv) ?_
  have hla : lv_args 0 [.ref 28, pv, .int (nI g)] = [(0, .ref 28), (1, pv), (2, .int (nI g))] := by cases pv with | null => rfl | ref a => rfl | _ => cases hv
  rw [hla]
  refine sw_iload_n dX0_addRow_0 rfl ?_
  refine sw_bipush (x := 6) dX0_addRow_1 (by decide) ?_
  refine sw_icmp_le 7 dX0_addRow_3 (by decide) (fun h3 => ?_) (fun h3 => ?_)
  · refine sw_aload_n dX0_addRow_7 rfl (by first | rfl | assumption) ?_
    refine sw_astore_n [(0, _), (1, _), (2, _), (3, _)] dX0_addRow_8 (by first | rfl | assumption) (by decide) rfl ?_
    exact K pv _
  · exact absurd (nlt6 hg) h3
set_option maxRecDepth 100000 in
theorem l_X0_ar {l : Launch} {D : va_G} {cy : Nat → ClassId} {n : Nat} {f : sw_F} {s : Nat → Int32} {A : Nat → Nat → Int32} {B : Nat → Nat → Int64} {o : Int64} {pr : Value} {m n' : Nat} (hm : 150 ≤ m) : ∀ (t : RT) (g d : Nat) (K E : Nat → Int32) (C : Nat) (pv w0 : Value) (QX : sw_QX), 30 - 2 * g ≤ d → wfR t → dkR g t → ndR f m n' t pv → C + lnR t ≤ 99 → SW l D cy mX0_addRow d 0 0 0 0 9 [(0, .ref 28), (1, w0), (2, .int (nI g)), (3, pv)] [] n (gC f s A B o pr K E (C)) (fun r n' f' => r = none ∧ n' = n ∧ ∃ K' E', f' = (gC f s A B o pr K' E' (C + lnR t)) ∧ cdR K' E' t C ∧ (∀ j, j < C → K' j = K j ∧ E' j = E j)) QX
  | .leaf _, g, d, K, E, C, pv, w0, QX, hd, wf, dk, nr, hC => by
    have hpv : pv = .null := nr
    subst hpv
    refine sw_aload_n dX0_addRow_9 rfl rfl ?_
    refine sw_ifnullN 82 dX0_addRow_10 (by decide) ?_
    exact sw_vret dX0_addRow_82 rfl (by omega) (by omega) ⟨rfl, rfl, K, E, rfl, True.intro, fun j hj => ⟨rfl, rfl⟩⟩
  | .branch v (.leaf e) R, g, d, K, E, C, pv, w0, QX, hd, wf, dk, nr, hC => by
    obtain ⟨p, pe, nx, hpv, hpm, hf, ne, nR⟩ := nr
    subst hpv
    have hp : 150 ≤ p := Nat.le_trans hm hpm.1
    have hnx := ndR_r _ _ nR
    obtain ⟨wv, wf, wR⟩ := wf
    obtain ⟨dk, dR⟩ := dk
    have hg := dkR_g _ _ dR
    have hC : C + (szE e + 1 + lnR R) ≤ 99 := hC
    show SW l D cy mX0_addRow d 0 0 0 0 9 [(0, .ref 28), (1, w0), (2, .int (nI g)), (3, .ref p)] [] n (gd f (va_up s 12 (nI (C))) (va_up (va_up A 29 K) 30 E) B o pr) _ _
    refine sw_aload_n dX0_addRow_9 rfl rfl ?_
    refine sw_ifnullR dX0_addRow_10 ?_
    refine sw_aload_n dX0_addRow_13 rfl (by first | rfl | assumption) ?_
    refine sw_get dX0_addRow_14 fr_X0_18 rfl rfl ?_
    refine sw_top (y := nI C) rfl ?_
    refine sw_istore [(0, _), (1, _), (2, _), (3, _), (4, _)] dX0_addRow_17 (by decide) rfl ?_
    refine sw_aload_n dX0_addRow_19 rfl (by first | rfl | assumption) ?_
    refine sw_aload_n dX0_addRow_20 rfl (by first | rfl | assumption) ?_
    refine sw_get dX0_addRow_21 fr_X0_37 (gd_n hp hf) rfl ?_
    refine sw_iconst (x := 0) dX0_addRow_24 (by decide) ?_
    refine sw_top nl_0 ?_
    refine sw_callV dX0_addRow_25 k_X0_43 mf_X0_addExpression ⟨_, rfl, rfl⟩ rfl (c_X0_addExpression hm e 0 pe (d - 1) K E C (by omega) wf dk ne (by omega)) (by omega) ⟨by omega, by omega⟩ rfl rfl (Nat.le_of_ble_eq_true rfl) (fun r' nn f' hq hle => ?_)
    obtain ⟨hr', hn', K1, E1, hf', cd1, fr1⟩ := hq
    subst hr'
    have hn' := hn'.symm
    subst hn'
    subst hf'
    refine sw_aload_n dX0_addRow_28 rfl (by first | rfl | assumption) ?_
    refine sw_get dX0_addRow_29 fr_X0_46 (gd_n hp hf) rfl ?_
    refine sw_iconst (x := 4) dX0_addRow_32 (by decide) ?_
    refine sw_icmp_ne 45 dX0_addRow_33 (by decide) (fun h33 => ?_) (fun h33 => ?_)
    · refine sw_aload_n dX0_addRow_45 rfl (by first | rfl | assumption) ?_
      refine sw_get dX0_addRow_46 fr_X0_46 (gd_n hp hf) rfl ?_
      refine sw_iconst (x := 5) dX0_addRow_49 (by decide) ?_
      refine sw_icmp_ne 64 dX0_addRow_50 (by decide) (fun h50 => ?_) (fun h50 => ?_)
      · refine sw_aload_n dX0_addRow_64 rfl (by first | rfl | assumption) ?_
        refine sw_iconst (x := 2) dX0_addRow_65 (by decide) ?_
        refine sw_aload_n dX0_addRow_66 rfl (by first | rfl | assumption) ?_
        refine sw_get dX0_addRow_67 fr_X0_56 (gd_n hp hf) rfl ?_
        refine sw_Vv dX0_addRow_70 k_X0_33 mf_X0_add (q_add (d := d - 1) (K := K1) (E := E1) (C := C + szE e) (by omega) 2 (nI v)) rfl ⟨_, rfl, rfl⟩ (by omega) (by omega) (by omega) rfl rfl (Nat.le_of_ble_eq_true rfl) ?_
        refine sw_pop dX0_addRow_73 rfl ?_
        refine sw_aload_n dX0_addRow_74 rfl rfl ?_
        refine sw_get dX0_addRow_75 fr_X0_59 (gd_n hp hf) rfl ?_
        refine sw_astore_n [(0, _), (1, _), (2, _), (3, _), (4, _)] dX0_addRow_78 hnx (by decide) rfl ?_
        refine sw_goto 9 dX0_addRow_79 (by decide) ?_
        refine sw_keep [0, 1, 2, 3] rfl ?_
        refine sw_mono (Q' := fun r' n' f' => r' = none ∧ n' = n ∧ ∃ K' E', f' = gC f s A B o pr K' E' (C + szE e + 1 + lnR R) ∧ cdR K' E' R (C + szE e + 1) ∧ (∀ j, j < C + szE e + 1 → K' j = (upd K1 (C + szE e) 2) j ∧ E' j = (upd E1 (C + szE e) (nI v)) j)) (fun r' n' f' hq => ?_) (fun _ _ _ z => z) ?_
        · obtain ⟨h1, h2, K9, E9, h3, h4, h5⟩ := hq
          refine ⟨h1, h2, K9, E9, by rw [h3]; congr 1; simp only [lnR]; omega, ?_, fun j hj => ?_⟩
          · exact ⟨⟨cdE_cg e C (fun j h1 h2 => ⟨by rw [(h5 j (by omega)).1, upd_nq _ (show ¬ j = C + szE e by omega)], by rw [(h5 j (by omega)).2, upd_nq _ (show ¬ j = C + szE e by omega)]⟩) cd1, by rw [(h5 (C + szE e) (by omega)).1, upd_at], by rw [(h5 (C + szE e) (by omega)).2, upd_at]⟩, h4⟩
          · rw [(h5 j (by omega)).1, (h5 j (by omega)).2, upd_nq _ (show ¬ j = C + szE e by omega), upd_nq _ (show ¬ j = C + szE e by omega)]
            exact fr1 j hj
        · exact l_X0_ar hm R g d _ _ (C + szE e + 1) nx w0 QX hd wR dR nR (by omega)
      · exact absurd h50 (by decide)
    · exact absurd h33 (by decide)
  | .branch _ (.branch _ (.leaf e) r) R, g, d, K, E, C, pv, w0, QX, hd, wf, dk, nr, hC => by
    obtain ⟨p, pe, y, nx, hpv, hpm, hf, ne, nr1, nR⟩ := nr
    subst hpv
    have hp : 150 ≤ p := Nat.le_trans hm hpm.1
    have hnx := ndR_r _ _ nR
    obtain ⟨wf, wr, wR⟩ := wf
    obtain ⟨dk, dr, dR⟩ := dk
    have hg := dkR_g _ _ dR
    have hg1 := dkR_g _ _ dr
    have hC : C + (szE e + 1 + lnR r + 1 + lnR R) ≤ 99 := hC
    show SW l D cy mX0_addRow d 0 0 0 0 9 [(0, .ref 28), (1, w0), (2, .int (nI g)), (3, .ref p)] [] n (gd f (va_up s 12 (nI (C))) (va_up (va_up A 29 K) 30 E) B o pr) _ _
    refine sw_aload_n dX0_addRow_9 rfl rfl ?_
    refine sw_ifnullR dX0_addRow_10 ?_
    refine sw_aload_n dX0_addRow_13 rfl (by first | rfl | assumption) ?_
    refine sw_get dX0_addRow_14 fr_X0_18 rfl rfl ?_
    refine sw_top (y := nI C) rfl ?_
    refine sw_istore [(0, _), (1, _), (2, _), (3, _), (4, _)] dX0_addRow_17 (by decide) rfl ?_
    refine sw_aload_n dX0_addRow_19 rfl (by first | rfl | assumption) ?_
    refine sw_aload_n dX0_addRow_20 rfl (by first | rfl | assumption) ?_
    refine sw_get dX0_addRow_21 fr_X0_37 (gd_n hp hf) rfl ?_
    refine sw_iconst (x := 0) dX0_addRow_24 (by decide) ?_
    refine sw_top nl_0 ?_
    refine sw_callV dX0_addRow_25 k_X0_43 mf_X0_addExpression ⟨_, rfl, rfl⟩ rfl (c_X0_addExpression hm e 0 pe (d - 1) K E C (by omega) wf dk ne (by omega)) (by omega) ⟨by omega, by omega⟩ rfl rfl (Nat.le_of_ble_eq_true rfl) (fun r' nn f' hq hle => ?_)
    obtain ⟨hr', hn', K1, E1, hf', cd1, fr1⟩ := hq
    subst hr'
    have hn' := hn'.symm
    subst hn'
    subst hf'
    refine sw_aload_n dX0_addRow_28 rfl (by first | rfl | assumption) ?_
    refine sw_get dX0_addRow_29 fr_X0_46 (gd_n hp hf) rfl ?_
    refine sw_iconst (x := 4) dX0_addRow_32 (by decide) ?_
    refine sw_icmp_ne 45 dX0_addRow_33 (by decide) (fun h33 => ?_) (fun h33 => ?_)
    · refine sw_aload_n dX0_addRow_45 rfl (by first | rfl | assumption) ?_
      refine sw_get dX0_addRow_46 fr_X0_46 (gd_n hp hf) rfl ?_
      refine sw_iconst (x := 5) dX0_addRow_49 (by decide) ?_
      refine sw_icmp_ne 64 dX0_addRow_50 (by decide) (fun h50 => ?_) (fun h50 => ?_)
      · exact absurd rfl h50
      · refine sw_aload_n dX0_addRow_53 rfl (by first | rfl | assumption) ?_
        refine sw_aload_n dX0_addRow_54 rfl (by first | rfl | assumption) ?_
        refine sw_iload dX0_addRow_55 rfl ?_
        refine sw_iload_n dX0_addRow_57 rfl ?_
        refine sw_callV dX0_addRow_58 k_X0_52 mf_X0_addLoop ⟨_, rfl, rfl⟩ rfl (c_X0_addLoop (d := d - 1) hp hf (ndR_r _ _ nr1) (r1 := r) (by omega) (fun K E C hC => c_ar_of (dkR_g _ _ dr) (ndR_r _ _ nr1) (fun w0 QX => l_X0_ar hm r (g + 1) (d - 2) K E C _ w0 QX (by omega) wr dr nr1 hC)) (K := K1) (E := E1) (C := C + szE e) (by omega)) (by omega) ⟨by omega, by omega⟩ rfl rfl (Nat.le_of_ble_eq_true rfl) (fun r' nn f' hq hle => ?_)
        obtain ⟨hr', hn', K2, E2, hf', cd2, fr2⟩ := hq
        subst hr'
        have hn' := hn'.symm
        subst hn'
        subst hf'
        refine sw_goto 74 dX0_addRow_61 (by decide) ?_
        refine sw_aload_n dX0_addRow_74 rfl rfl ?_
        refine sw_get dX0_addRow_75 fr_X0_59 (gd_n hp hf) rfl ?_
        refine sw_astore_n [(0, _), (1, _), (2, _), (3, _), (4, _)] dX0_addRow_78 hnx (by decide) rfl ?_
        refine sw_goto 9 dX0_addRow_79 (by decide) ?_
        refine sw_keep [0, 1, 2, 3] rfl ?_
        refine sw_mono (Q' := fun r' n' f' => r' = none ∧ n' = n ∧ ∃ K' E', f' = gC f s A B o pr K' E' (C + szE e + 1 + lnR r + 1 + lnR R) ∧ cdR K' E' R (C + szE e + 1 + lnR r + 1) ∧ (∀ j, j < C + szE e + 1 + lnR r + 1 → K' j = K2 j ∧ E' j = E2 j)) (fun r' n' f' hq => ?_) (fun _ _ _ z => z) ?_
        · obtain ⟨h1, h2, K9, E9, h3, h4, h5⟩ := hq
          refine ⟨h1, h2, K9, E9, by rw [h3]; congr 1; simp only [lnR]; omega, ?_, fun j hj => ?_⟩
          · exact ⟨⟨cdE_cg e C (fun j h1 h2 => ⟨by rw [(h5 j (by omega)).1]; exact (fr2 j (by omega)).1, by rw [(h5 j (by omega)).2]; exact (fr2 j (by omega)).2⟩) cd1, ⟨by rw [(h5 (C + szE e) (by omega)).1]; exact cd2.1.1, by rw [(h5 (C + szE e) (by omega)).2]; exact cd2.1.2⟩, ⟨by rw [(h5 (C + szE e + 1 + lnR r) (by omega)).1]; exact cd2.2.1.1, by rw [(h5 (C + szE e + 1 + lnR r) (by omega)).2]; exact cd2.2.1.2⟩, cdR_cg r (C + szE e + 1) (fun j h1 h2 => h5 j (by omega)) cd2.2.2⟩, h4⟩
          · rw [(h5 j (by omega)).1, (h5 j (by omega)).2, (fr2 j (by omega)).1, (fr2 j (by omega)).2]
            exact fr1 j hj
        · exact l_X0_ar hm R g d K2 E2 (C + szE e + 1 + lnR r + 1) nx w0 QX hd wR dR nR (by omega)
    · exact absurd h33 (by decide)
  | .branch _ (.branch _ (.branch _ (.leaf e) r1) r2) R, g, d, K, E, C, pv, w0, QX, hd, wf, dk, nr, hC => by
    obtain ⟨p, pe, y, z, nx, hpv, hpm, hf, ne, nr1, nr2, nR⟩ := nr
    subst hpv
    have hp : 150 ≤ p := Nat.le_trans hm hpm.1
    have hnx := ndR_r _ _ nR
    obtain ⟨wf, wr1, wr2, wR⟩ := wf
    obtain ⟨dk, dr1, dr2, dR⟩ := dk
    have hg := dkR_g _ _ dR
    have hg1 := dkR_g _ _ dr1
    have hC : C + (szE e + 1 + lnR r1 + 1 + lnR r2 + lnR R) ≤ 99 := hC
    show SW l D cy mX0_addRow d 0 0 0 0 9 [(0, .ref 28), (1, w0), (2, .int (nI g)), (3, .ref p)] [] n (gd f (va_up s 12 (nI (C))) (va_up (va_up A 29 K) 30 E) B o pr) _ _
    refine sw_aload_n dX0_addRow_9 rfl rfl ?_
    refine sw_ifnullR dX0_addRow_10 ?_
    refine sw_aload_n dX0_addRow_13 rfl (by first | rfl | assumption) ?_
    refine sw_get dX0_addRow_14 fr_X0_18 rfl rfl ?_
    refine sw_top (y := nI C) rfl ?_
    refine sw_istore [(0, _), (1, _), (2, _), (3, _), (4, _)] dX0_addRow_17 (by decide) rfl ?_
    refine sw_aload_n dX0_addRow_19 rfl (by first | rfl | assumption) ?_
    refine sw_aload_n dX0_addRow_20 rfl (by first | rfl | assumption) ?_
    refine sw_get dX0_addRow_21 fr_X0_37 (gd_n hp hf) rfl ?_
    refine sw_iconst (x := 0) dX0_addRow_24 (by decide) ?_
    refine sw_top nl_0 ?_
    refine sw_callV dX0_addRow_25 k_X0_43 mf_X0_addExpression ⟨_, rfl, rfl⟩ rfl (c_X0_addExpression hm e 0 pe (d - 1) K E C (by omega) wf dk ne (by omega)) (by omega) ⟨by omega, by omega⟩ rfl rfl (Nat.le_of_ble_eq_true rfl) (fun r' nn f' hq hle => ?_)
    obtain ⟨hr', hn', K1, E1, hf', cd1, fr1⟩ := hq
    subst hr'
    have hn' := hn'.symm
    subst hn'
    subst hf'
    refine sw_aload_n dX0_addRow_28 rfl (by first | rfl | assumption) ?_
    refine sw_get dX0_addRow_29 fr_X0_46 (gd_n hp hf) rfl ?_
    refine sw_iconst (x := 4) dX0_addRow_32 (by decide) ?_
    refine sw_icmp_ne 45 dX0_addRow_33 (by decide) (fun h33 => ?_) (fun h33 => ?_)
    · exact absurd rfl h33
    · refine sw_aload_n dX0_addRow_36 rfl (by first | rfl | assumption) ?_
      refine sw_aload_n dX0_addRow_37 rfl (by first | rfl | assumption) ?_
      refine sw_iload_n dX0_addRow_38 rfl ?_
      refine sw_callV dX0_addRow_39 k_X0_49 mf_X0_addChoice ⟨_, rfl, rfl⟩ rfl (c_X0_addChoice (d := d - 1) hp hf (ndR_r _ _ nr1) (ndR_r _ _ nr2) (r1 := r1) (r2 := r2) (by omega) (fun K E C hC => c_ar_of (dkR_g _ _ dr1) (ndR_r _ _ nr1) (fun w0 QX => l_X0_ar hm r1 (g + 1) (d - 2) K E C _ w0 QX (by omega) wr1 dr1 nr1 hC)) (fun K E C hC => c_ar_of (dkR_g _ _ dr2) (ndR_r _ _ nr2) (fun w0 QX => l_X0_ar hm r2 (g + 1) (d - 2) K E C _ w0 QX (by omega) wr2 dr2 nr2 hC)) (K := K1) (E := E1) (C := C + szE e) (by omega)) (by omega) ⟨by omega, by omega⟩ rfl rfl (Nat.le_of_ble_eq_true rfl) (fun r' nn f' hq hle => ?_)
      obtain ⟨hr', hn', K2, E2, hf', cd2, fr2⟩ := hq
      subst hr'
      have hn' := hn'.symm
      subst hn'
      subst hf'
      refine sw_goto 74 dX0_addRow_42 (by decide) ?_
      refine sw_aload_n dX0_addRow_74 rfl rfl ?_
      refine sw_get dX0_addRow_75 fr_X0_59 (gd_n hp hf) rfl ?_
      refine sw_astore_n [(0, _), (1, _), (2, _), (3, _), (4, _)] dX0_addRow_78 hnx (by decide) rfl ?_
      refine sw_goto 9 dX0_addRow_79 (by decide) ?_
      refine sw_keep [0, 1, 2, 3] rfl ?_
      refine sw_mono (Q' := fun r' n' f' => r' = none ∧ n' = n ∧ ∃ K' E', f' = gC f s A B o pr K' E' (C + szE e + 1 + lnR r1 + 1 + lnR r2 + lnR R) ∧ cdR K' E' R (C + szE e + 1 + lnR r1 + 1 + lnR r2) ∧ (∀ j, j < C + szE e + 1 + lnR r1 + 1 + lnR r2 → K' j = K2 j ∧ E' j = E2 j)) (fun r' n' f' hq => ?_) (fun _ _ _ z => z) ?_
      · obtain ⟨h1, h2, K9, E9, h3, h4, h5⟩ := hq
        refine ⟨h1, h2, K9, E9, by rw [h3]; congr 1; simp only [lnR]; omega, ?_, fun j hj => ?_⟩
        · exact ⟨⟨cdE_cg e C (fun j h1 h2 => ⟨by rw [(h5 j (by omega)).1]; exact (fr2 j (by omega)).1, by rw [(h5 j (by omega)).2]; exact (fr2 j (by omega)).2⟩) cd1, ⟨by rw [(h5 (C + szE e) (by omega)).1]; exact cd2.1.1, by rw [(h5 (C + szE e) (by omega)).2]; exact cd2.1.2⟩, ⟨by rw [(h5 (C + szE e + 1 + lnR r1) (by omega)).1]; exact cd2.2.1.1, by rw [(h5 (C + szE e + 1 + lnR r1) (by omega)).2]; exact cd2.2.1.2⟩, cdR_cg r1 (C + szE e + 1) (fun j h1 h2 => h5 j (by omega)) cd2.2.2.1, cdR_cg r2 (C + szE e + 1 + lnR r1 + 1) (fun j h1 h2 => h5 j (by omega)) cd2.2.2.2⟩, h4⟩
        · rw [(h5 j (by omega)).1, (h5 j (by omega)).2, (fr2 j (by omega)).1, (fr2 j (by omega)).2]
          exact fr1 j hj
      · exact l_X0_ar hm R g d K2 E2 (C + szE e + 1 + lnR r1 + 1 + lnR r2) nx w0 QX hd wR dR nR (by omega)
  | .branch _ (.branch _ (.branch _ (.branch _ _ _) _) _) _, g, d, K, E, C, pv, w0, QX, hd, wf, dk, nr, hC => wf.elim
set_option maxRecDepth 100000 in
theorem c_X0_become {l : Launch} {D : va_G} {cy : Nat → ClassId} {d n : Nat} {f : sw_F} {s : Nat → Int32} {A : Nat → Nat → Int32} {B : Nat → Nat → Int64} {o : Int64} {pr : Value} {m n' : Nat} (hm : 150 ≤ m) {t : RT} (hd : 31 ≤ d) (wf : wfR t) (dk : dkR 0 t) (hl : lnR t ≤ 99) {pv : Value} (nr : ndR f m n' t pv) : sw_Ct l D cy mX0_become d 0 0 [.ref 28, pv] n (gd f s A B o pr) (fun r n' f' => r = none ∧ n' = n ∧ ∃ K' E', f' = (gC f s A B o pr K' E' (lnR t + 1)) ∧ cdR K' E' t 0 ∧ K' (lnR t) = 9 ∧ E' (lnR t) = 0) := by
  have hv := ndR_r _ _ nr
  refine sw_of rfl (by cases pv with | null => exact Nat.le_of_ble_eq_true rfl | ref a => exact Nat.le_of_ble_eq_true rfl | _ => cases hv) ?_
  have hla : lv_args 0 [.ref 28, pv] = [(0, .ref 28), (1, pv)] := by cases pv with | null => rfl | ref a => rfl | _ => cases hv
  rw [hla]
  refine sw_aload_n dX0_become_0 rfl (by first | rfl | assumption) ?_
  refine sw_Vn dX0_become_1 k_X0_26 mf_X0_clear (c_X0_clear (d := d - 1)) rfl ⟨_, rfl, rfl⟩ (by omega) (by omega) (by omega) rfl rfl (Nat.le_of_ble_eq_true rfl) ?_
  refine sw_aload_n dX0_become_4 rfl (by first | rfl | assumption) ?_
  refine sw_aload_n dX0_become_5 rfl (by first | rfl | assumption) ?_
  refine sw_iconst (x := 0) dX0_become_6 (by decide) ?_
  refine sw_top nl_0 ?_
  refine g_eq (s' := va_up s 12 (nI 0)) (A' := va_up (va_up A 29 (A 29)) 30 (A 30)) rfl (by rw [vu_id, vu_id]) rfl ?_
  refine sw_callV dX0_become_7 k_X0_29 mf_X0_addRow ⟨_, rfl, rfl⟩ rfl (c_ar_of (d := d - 1) (Nat.zero_le 6) hv (fun w0 QX => l_X0_ar hm t 0 (d - 1) (A 29) (A 30) 0 pv w0 QX (by omega) wf dk nr (by omega))) (by omega) ⟨by omega, by omega⟩ rfl rfl (Nat.le_of_ble_eq_true rfl) (fun r' nn f' hq hle => ?_)
  obtain ⟨hr', hn', K1, E1, hf', cd1, fr1⟩ := hq
  subst hr'
  have hn' := hn'.symm
  subst hn'
  subst hf'
  refine sw_aload_n dX0_become_10 rfl (by first | rfl | assumption) ?_
  refine sw_bipush (x := 9) dX0_become_11 (by decide) ?_
  refine sw_iconst (x := 0) dX0_become_13 (by decide) ?_
  refine sw_Vv dX0_become_14 k_X0_33 mf_X0_add (q_add (d := d - 1) (K := K1) (E := E1) (C := 0 + lnR t) (by omega) 9 0) rfl ⟨_, rfl, rfl⟩ (by omega) (by omega) (by omega) rfl rfl (Nat.le_of_ble_eq_true rfl) ?_
  refine sw_pop dX0_become_17 rfl ?_
  exact sw_vret dX0_become_18 rfl (by omega) (by omega) ⟨rfl, rfl, _, _, by rw [show 0 + lnR t = lnR t by omega], cdR_cg t 0 (fun j h1 h2 => ⟨upd_nq _ (by omega), upd_nq _ (by omega)⟩) cd1, upd_at _ _ _, upd_at _ _ _⟩
