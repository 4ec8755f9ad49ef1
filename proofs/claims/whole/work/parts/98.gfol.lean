/-! ===== a program as it is meant, over its tree ===== -/
def vlE (X : Nat → Int32) : ET → Int32
  | .leaf x => if x.1 = 1 then X x.2 else nI x.2
  | .branch q a b => r_wk (nI q) (vlE X a) (vlE X b)
abbrev OX : Type := Option ((Nat → Int32) × Nat)
def oB (w : OX) (k : (Nat → Int32) → Nat → OX) : OX := match w with
  | none => none
  | some q => k q.1 q.2
def mkL (ev : (Nat → Int32) → Int32) (bd : (Nat → Int32) → Nat → OX) : Nat → (Nat → Int32) → Nat → OX
  | 0, _, _ => none
  | k + 1, X, c => if c = 0 then none else if ev X = 0 then some (X, c - 1) else oB (bd X (c - 1)) (mkL ev bd k)
def mkR : RT → (Nat → Int32) → Nat → OX
  | .leaf _, X, c => some (X, c)
  | .branch v (.leaf e) R, X, c => mkR R (upd X v (vlE X e)) c
  | .branch _ (.branch _ (.leaf e) r) R, X, c => oB (mkL (fun X => vlE X e) (fun X c => mkR r X c) 600 X c) (fun X c => mkR R X c)
  | .branch _ (.branch _ (.branch _ (.leaf e) r1) r2) R, X, c => oB (if c = 0 then none else if vlE X e = 0 then mkR r2 X (c - 1) else mkR r1 X (c - 1)) (fun X c => mkR R X c)
  | .branch _ (.branch _ (.branch _ (.branch _ _ _) _) _) _, _, _ => none
def ocl (w : OX) (c : Nat) : Prop := ∀ q, w = some q → q.2 ≤ c
theorem oB_cl {w : OX} {k : (Nat → Int32) → Nat → OX} {c : Nat} (h : ocl w c) (hk : ∀ X a, ocl (k X a) a) : ocl (oB w k) c := fun q hq => by
  cases w with
  | none => cases hq
  | some z => exact Nat.le_trans (hk z.1 z.2 q hq) (h z rfl)
theorem mkL_cl {ev : (Nat → Int32) → Int32} {bd : (Nat → Int32) → Nat → OX} (h : ∀ X c, ocl (bd X c) c) : ∀ k X c, ocl (mkL ev bd k X c) c
  | 0, X, c => fun q hq => by cases hq
  | k + 1, X, c => by
    unfold mkL
    split
    · exact fun q hq => by cases hq
    · split
      · intro q hq; rw [← Option.some.inj hq]; exact Nat.sub_le c 1
      · intro q hq
        exact Nat.le_trans (oB_cl (h X (c - 1)) (mkL_cl h k) q hq) (Nat.sub_le c 1)
theorem mkR_cl : ∀ (t : RT) (X : Nat → Int32) (c : Nat), ocl (mkR t X c) c
  | .leaf _, X, c => fun q hq => by rw [← Option.some.inj hq]; exact Nat.le_refl c
  | .branch v (.leaf e) R, X, c => by rw [mkR]; exact mkR_cl R _ c
  | .branch _ (.branch _ (.leaf e) r) R, X, c => by rw [mkR]; exact oB_cl (mkL_cl (fun X c => mkR_cl r X c) 600 X c) (fun X a => mkR_cl R X a)
  | .branch _ (.branch _ (.branch _ (.leaf e) r1) r2) R, X, c => by
    rw [mkR]
    refine oB_cl ?_ (fun X a => mkR_cl R X a)
    split
    · exact fun q hq => by cases hq
    · split
      · exact fun q hq => Nat.le_trans (mkR_cl r2 X (c - 1) q hq) (Nat.sub_le c 1)
      · exact fun q hq => Nat.le_trans (mkR_cl r1 X (c - 1) q hq) (Nat.sub_le c 1)
  | .branch _ (.branch _ (.branch _ (.branch _ _ _) _) _) _, X, c => fun q hq => by rw [mkR] at hq; cases hq
/-! ===== THE CLASS: Follower ===== -/
theorem nq_op {q : Nat} (h : 3 ≤ q ∧ q ≤ 6) : (3 : Int32) ≤ nI q ∧ nI q ≤ 6 := ⟨by rw [nl_3]; exact (nI_leI (by omega) (by omega)).mpr h.1, by rw [nl_6]; exact (nI_leI (by omega) (by omega)).mpr h.2⟩
theorem nlt6 {j : Nat} (h : j ≤ 6) : nI j ≤ 6 := by rw [nl_6]; exact (nI_leI (by omega) (by omega)).mpr h
set_option maxRecDepth 100000 in
theorem c_X2_valueOf {l : Launch} {D : va_G} {cy : Nat → ClassId} {n : Nat} {f : sw_F} {s : Nat → Int32} {A : Nat → Nat → Int32} {B : Nat → Nat → Int64} {o : Int64} {pr : Value} {m n' : Nat} (hm : 150 ≤ m) : ∀ (e : ET) (j p d : Nat), 9 - j ≤ d → wfE e → dkE j e → ndE f m n' e p → sw_Ct l D cy mX2_valueOf d 0 0 [.ref 26, .ref p, .int (nI j)] n (gd f s A B o pr) (sw_D (some (.int (vlE (A 27) e))) n (gd f s A B o pr))
  | .leaf (k, v), j, p, d, hd, wf, dk, nd0 => by
    have hp : 150 ≤ p := Nat.le_trans hm nd0.1.1
    have hf : f p = nd (nI k) (nI v) .null .null .null .null := nd0.2
    have dk : j ≤ 6 := dk
    refine sw_of rfl (Nat.le_of_ble_eq_true rfl) ?_
    show SW l D cy mX2_valueOf d 0 0 0 0 0 [(0, .ref 26), (1, .ref p), (2, .int (nI j))] [] n (gd f s A B o pr) _ _
    refine sw_aload_n dX2_valueOf_0 rfl rfl ?_
    refine sw_ifnullR dX2_valueOf_1 ?_
    rcases wf with ⟨w1, w2⟩ | ⟨w1, w2⟩
    · have w1 : k = 0 := w1
      subst w1
      refine sw_iload_n dX2_valueOf_4 rfl ?_
      refine sw_bipush (x := 6) dX2_valueOf_5 (by decide) ?_
      refine sw_icmp_le 12 dX2_valueOf_7 (by decide) (fun h7 => ?_) (fun h7 => ?_)
      · refine sw_aload_n dX2_valueOf_12 rfl (by first | rfl | assumption) ?_
        refine sw_get dX2_valueOf_13 fr_X2_41 (gd_n hp hf) rfl ?_
        refine sw_iconst (x := 1) dX2_valueOf_16 (by decide) ?_
        refine sw_icmp_ne 44 dX2_valueOf_17 (by decide) (fun h17 => ?_) (fun h17 => ?_)
        · refine sw_aload_n dX2_valueOf_44 rfl (by first | rfl | assumption) ?_
          refine sw_get dX2_valueOf_45 fr_X2_41 (gd_n hp hf) rfl ?_
          refine sw_iconst (x := 2) dX2_valueOf_48 (by decide) ?_
          refine sw_icmp_ne 82 dX2_valueOf_49 (by decide) (fun h49 => ?_) (fun h49 => ?_)
          · refine sw_aload_n dX2_valueOf_82 rfl (by first | rfl | assumption) ?_
            refine sw_get dX2_valueOf_83 fr_X2_50 (gd_n hp hf) rfl ?_
            exact sw_iret dX2_valueOf_86 rfl (by first | rfl | exact bz_n _) (by omega) (by omega) ⟨rfl, rfl, rfl⟩
          · exact absurd h49 (show ¬ nI 0 = 2 by decide)
        · exact absurd h17 (show ¬ nI 0 = 1 by decide)
      · exact absurd (nlt6 dk) h7
    · have w1 : k = 1 := w1
      subst w1
      have w2 : v < 8 := w2
      refine sw_iload_n dX2_valueOf_4 rfl ?_
      refine sw_bipush (x := 6) dX2_valueOf_5 (by decide) ?_
      refine sw_icmp_le 12 dX2_valueOf_7 (by decide) (fun h7 => ?_) (fun h7 => ?_)
      · refine sw_aload_n dX2_valueOf_12 rfl (by first | rfl | assumption) ?_
        refine sw_get dX2_valueOf_13 fr_X2_41 (gd_n hp hf) rfl ?_
        refine sw_iconst (x := 1) dX2_valueOf_16 (by decide) ?_
        refine sw_icmp_ne 44 dX2_valueOf_17 (by decide) (fun h17 => ?_) (fun h17 => ?_)
        · exact absurd rfl h17
        · refine sw_aload_n dX2_valueOf_20 rfl (by first | rfl | assumption) ?_
          refine sw_get dX2_valueOf_21 fr_X2_50 (gd_n hp hf) rfl ?_
          refine sw_SNv dX2_valueOf_24 k_X2_53 mf_X11_isVariable (c_X11_isVariable (d := d - 1) (nI v)) (by omega) (by omega) (by omega) rfl rfl (Nat.le_of_ble_eq_true rfl) ?_
          refine sw_if_eq 42 dX2_valueOf_27 (by decide) (fun h27 => ?_) (fun h27 => ?_)
          · exact absurd (bz_0.mp h27) (by rw [isV_n w2]; decide)
          · refine sw_aload_n dX2_valueOf_30 rfl (by first | rfl | assumption) ?_
            refine sw_get dX2_valueOf_31 fr_X2_9 rfl rfl ?_
            refine sw_aload_n dX2_valueOf_34 rfl (by first | rfl | assumption) ?_
            refine sw_get dX2_valueOf_35 fr_X2_50 (gd_n hp hf) rfl ?_
            refine sw_ialdN (v) dX2_valueOf_38 rfl rfl (show v < 8 by omega) (by decide) ?_
            refine sw_goto 43 dX2_valueOf_39 (by decide) ?_
            exact sw_iret dX2_valueOf_43 rfl (by first | rfl | exact bz_n _) (by omega) (by omega) ⟨rfl, rfl, rfl⟩
      · exact absurd (nlt6 dk) h7
  | .branch q a b, j, p, d, hd, wf, dk, nd0 => by
    obtain ⟨n1, pa, pb, hf, na, nb⟩ := nd0
    have hp : 150 ≤ p := Nat.le_trans hm n1.1
    have dk0 := dk.1
    refine sw_of rfl (Nat.le_of_ble_eq_true rfl) ?_
    show SW l D cy mX2_valueOf d 0 0 0 0 0 [(0, .ref 26), (1, .ref p), (2, .int (nI j))] [] n (gd f s A B o pr) _ _
    refine sw_aload_n dX2_valueOf_0 rfl rfl ?_
    refine sw_ifnullR dX2_valueOf_1 ?_
    refine sw_iload_n dX2_valueOf_4 rfl ?_
    refine sw_bipush (x := 6) dX2_valueOf_5 (by decide) ?_
    refine sw_icmp_le 12 dX2_valueOf_7 (by decide) (fun h7 => ?_) (fun h7 => ?_)
    · refine sw_aload_n dX2_valueOf_12 rfl (by first | rfl | assumption) ?_
      refine sw_get dX2_valueOf_13 fr_X2_41 (gd_n hp hf) rfl ?_
      refine sw_iconst (x := 1) dX2_valueOf_16 (by decide) ?_
      refine sw_icmp_ne 44 dX2_valueOf_17 (by decide) (fun h17 => ?_) (fun h17 => ?_)
      · refine sw_aload_n dX2_valueOf_44 rfl (by first | rfl | assumption) ?_
        refine sw_get dX2_valueOf_45 fr_X2_41 (gd_n hp hf) rfl ?_
        refine sw_iconst (x := 2) dX2_valueOf_48 (by decide) ?_
        refine sw_icmp_ne 82 dX2_valueOf_49 (by decide) (fun h49 => ?_) (fun h49 => ?_)
        · exact absurd rfl h49
        · refine sw_aload_n dX2_valueOf_52 rfl (by first | rfl | assumption) ?_
          refine sw_get dX2_valueOf_53 fr_X2_50 (gd_n hp hf) rfl ?_
          refine sw_aload_n dX2_valueOf_56 rfl (by first | rfl | assumption) ?_
          refine sw_aload_n dX2_valueOf_57 rfl (by first | rfl | assumption) ?_
          refine sw_get dX2_valueOf_58 fr_X2_64 (gd_n hp hf) rfl ?_
          refine sw_iload_n dX2_valueOf_61 rfl ?_
          refine sw_iconst (x := 1) dX2_valueOf_62 (by decide) ?_
          refine sw_iadd dX2_valueOf_63 ?_
          refine sw_top (y := nI (j + 1)) (nI_1 j) ?_
          refine sw_Vv dX2_valueOf_64 k_X2_60 mf_X2_valueOf (c_X2_valueOf hm a (j + 1) pa (d - 1) (by omega) wf.2.1 dk.2.1 na) rfl ⟨_, rfl, rfl⟩ (by omega) (by omega) (by omega) rfl rfl (Nat.le_of_ble_eq_true rfl) ?_
          refine sw_aload_n dX2_valueOf_67 rfl (by first | rfl | assumption) ?_
          refine sw_aload_n dX2_valueOf_68 rfl (by first | rfl | assumption) ?_
          refine sw_get dX2_valueOf_69 fr_X2_67 (gd_n hp hf) rfl ?_
          refine sw_iload_n dX2_valueOf_72 rfl ?_
          refine sw_iconst (x := 1) dX2_valueOf_73 (by decide) ?_
          refine sw_iadd dX2_valueOf_74 ?_
          refine sw_top (y := nI (j + 1)) (nI_1 j) ?_
          refine sw_Vv dX2_valueOf_75 k_X2_60 mf_X2_valueOf (c_X2_valueOf hm b (j + 1) pb (d - 1) (by omega) wf.2.2 dk.2.2 nb) rfl ⟨_, rfl, rfl⟩ (by omega) (by omega) (by omega) rfl rfl (Nat.le_of_ble_eq_true rfl) ?_
          refine sw_SNv dX2_valueOf_78 k_X2_70 mf_X11_operate (c_X11_operate (d := d - 1) (nI q) _ _ (nq_op wf.1)) (by omega) (by omega) (by omega) rfl rfl (Nat.le_of_ble_eq_true rfl) ?_
          exact sw_iret dX2_valueOf_81 rfl (by first | rfl | exact bz_n _) (by omega) (by omega) ⟨rfl, rfl, rfl⟩
      · exact absurd h17 (by decide)
    · exact absurd (nlt6 (show j ≤ 6 by omega)) h7
def gX (f : sw_F) (s : Nat → Int32) (A : Nat → Nat → Int32) (B : Nat → Nat → Int64) (o : Int64) (pr : Value) (x : Int32) (X : Nat → Int32) : sw_F := gd f (va_up s 10 x) (va_up A 27 X) B o pr
def MkQ (n : Nat) (f : sw_F) (s : Nat → Int32) (A : Nat → Nat → Int32) (B : Nat → Nat → Int64) (o : Int64) (pr : Value) (Mx : Nat) (w : OX) : sw_Q := fun r n' f' => n' = n ∧ ((∃ X' c', w = some (X', c') ∧ r = some (.int 1) ∧ f' = gd f (va_up s 10 (nI (Mx - c'))) (va_up A 27 X') B o pr) ∨ (w = none ∧ r = some (.int 0) ∧ ∃ x X', f' = gd f (va_up s 10 x) (va_up A 27 X') B o pr))
def MRC (l : Launch) (D : va_G) (cy : Nat → ClassId) (n : Nat) (f : sw_F) (s : Nat → Int32) (A : Nat → Nat → Int32) (B : Nat → Nat → Int64) (o : Int64) (pr : Value) (Mx d g : Nat) (w : (Nat → Int32) → Nat → OX) (pv : Value) : Prop := ∀ (X : Nat → Int32) (c : Nat), c ≤ Mx → sw_Ct l D cy mX2_makeRow d 0 0 [.ref 26, pv, .int (nI g)] n (gd f (va_up s 10 (nI (Mx - c))) (va_up A 27 X) B o pr) (MkQ n f s A B o pr Mx (w X c))
theorem MkQ_b {n : Nat} {f : sw_F} {s : Nat → Int32} {A : Nat → Nat → Int32} {B : Nat → Nat → Int64} {o : Int64} {pr : Value} {Mx : Nat} {w : OX} {r : Option Value} {n' : Nat} {f' : sw_F} (h : MkQ n f s A B o pr Mx w r n' f') : ∃ b, r = some (.int (bz b)) := by
  rcases h.2 with ⟨_, _, _, h, _⟩ | ⟨_, h, _⟩
  · exact ⟨true, h⟩
  · exact ⟨false, h⟩
set_option maxRecDepth 100000 in
theorem c_X2_makeChoice {l : Launch} {D : va_G} {cy : Nat → ClassId} {d n : Nat} {f : sw_F} {s : Nat → Int32} {A : Nat → Nat → Int32} {B : Nat → Nat → Int64} {o : Int64} {pr : Value} {Mx : Nat} (hMx : Mx ≤ 500) (hs11 : s 11 = nI Mx) {m n' : Nat} (hm : 150 ≤ m) {p pe : Nat} (hp : 150 ≤ p) {e : ET} {w1 w2 : (Nat → Int32) → Nat → OX} {y z nx : Value} (hf : f p = nd 4 0 (.ref pe) y z nx) (hy : sw_isR y = true) (hz : sw_isR z = true) (wf : wfE e) (dk : dkE 0 e) (ne : ndE f m n' e pe) {g : Nat} (hg : g ≤ 6) (hd : 10 ≤ d) (hr1 : MRC l D cy n f s A B o pr Mx (d - 1) (g + 1) w1 y) (hr2 : MRC l D cy n f s A B o pr Mx (d - 1) (g + 1) w2 z) {X : Nat → Int32} {c : Nat} (hc : c ≤ Mx) : sw_Ct l D cy mX2_makeChoice d 0 0 [.ref 26, .ref p, .int (nI g)] n (gd f (va_up s 10 (nI (Mx - c))) (va_up A 27 X) B o pr) (MkQ n f s A B o pr Mx (if c = 0 then none else if vlE X e = 0 then w2 X (c - 1) else w1 X (c - 1))) := by
  refine sw_of rfl (Nat.le_of_ble_eq_true rfl) ?_
  show SW l D cy mX2_makeChoice d 0 0 0 0 0 [(0, .ref 26), (1, .ref p), (2, .int (nI g))] [] n (gd f (va_up s 10 (nI (Mx - c))) (va_up A 27 X) B o pr) _ _
  refine sw_aload_n dX2_makeChoice_0 rfl (by first | rfl | assumption) ?_
  refine sw_get dX2_makeChoice_1 fr_X2_15 rfl rfl ?_
  refine sw_top (y := nI (Mx - c)) rfl ?_
  refine sw_aload_n dX2_makeChoice_4 rfl (by first | rfl | assumption) ?_
  refine sw_get dX2_makeChoice_5 fr_X2_19 rfl rfl ?_
  refine sw_top (y := nI Mx) hs11 ?_
  refine sw_icmp_lt 13 dX2_makeChoice_8 (by decide) (fun h8 => ?_) (fun h8 => ?_)
  · have e1 : ¬ c = 0 := by rw [nI_ltI (by omega) (by omega)] at h8; omega
    rw [if_neg e1]
    refine sw_aload_n dX2_makeChoice_13 rfl (by first | rfl | assumption) ?_
    refine sw_dup dX2_makeChoice_14 rfl ?_
    refine sw_get dX2_makeChoice_15 fr_X2_15 rfl rfl ?_
    refine sw_iconst (x := 1) dX2_makeChoice_18 (by decide) ?_
    refine sw_iadd dX2_makeChoice_19 ?_
    refine sw_top (y := nI (Mx - (c - 1))) (by rw [show va_up s 10 (nI (Mx - c)) 10 = nI (Mx - c) from rfl, nI_1, show Mx - c + 1 = Mx - (c - 1) by omega]) ?_
    refine g_put 10 dX2_makeChoice_20 fl_X2_15 rfl ⟨by decide, rfl⟩ rfl (Nat.le_of_ble_eq_true rfl) (sw_fit_i _) rfl ?_
    rw [vu_up]
    refine sw_aload_n dX2_makeChoice_23 rfl (by first | rfl | assumption) ?_
    refine sw_aload_n dX2_makeChoice_24 rfl (by first | rfl | assumption) ?_
    refine sw_aload_n dX2_makeChoice_25 rfl (by first | rfl | assumption) ?_
    refine sw_get dX2_makeChoice_26 fr_X2_57 (gd_n hp hf) rfl ?_
    refine sw_iconst (x := 0) dX2_makeChoice_29 (by decide) ?_
    refine sw_top nl_0 ?_
    refine sw_Vv dX2_makeChoice_30 k_X2_60 mf_X2_valueOf (c_X2_valueOf (s := (va_up s 10 (nI (Mx - (c - 1))))) (A := va_up A 27 X) hm e 0 pe (d - 1) (by omega) wf dk ne) rfl ⟨_, rfl, rfl⟩ (by omega) (by omega) (by omega) rfl rfl (Nat.le_of_ble_eq_true rfl) ?_
    refine sw_top (y := vlE X e) rfl ?_
    refine sw_if_eq 43 dX2_makeChoice_33 (by decide) (fun h33 => ?_) (fun h33 => ?_)
    · refine sw_aload_n dX2_makeChoice_43 rfl (by first | rfl | assumption) ?_
      refine sw_get dX2_makeChoice_44 fr_X2_67 (gd_n hp hf) rfl ?_
      refine sw_iload_n dX2_makeChoice_47 rfl ?_
      refine sw_iconst (x := 1) dX2_makeChoice_48 (by decide) ?_
      refine sw_iadd dX2_makeChoice_49 ?_
      rw [if_pos h33]
      refine sw_top (y := nI (g + 1)) (nI_1 g) ?_
      refine sw_callV dX2_makeChoice_50 k_X2_28 mf_X2_makeRow ⟨_, rfl, rfl⟩ rfl (hr2 X (c - 1) (by omega)) (by omega) ⟨by omega, by omega⟩ rfl rfl (Nat.le_of_ble_eq_true rfl) (fun r' nn f' hq hle => ?_)
      obtain ⟨b, hb⟩ := MkQ_b hq
      subst hb
      exact sw_iret dX2_makeChoice_53 rfl (bz_n b) (by omega) (by omega) hq
    · refine sw_aload_n dX2_makeChoice_36 rfl (by first | rfl | assumption) ?_
      refine sw_get dX2_makeChoice_37 fr_X2_64 (gd_n hp hf) rfl ?_
      refine sw_goto 47 dX2_makeChoice_40 (by decide) ?_
      refine sw_iload_n dX2_makeChoice_47 rfl ?_
      refine sw_iconst (x := 1) dX2_makeChoice_48 (by decide) ?_
      refine sw_iadd dX2_makeChoice_49 ?_
      rw [if_neg h33]
      refine sw_top (y := nI (g + 1)) (nI_1 g) ?_
      refine sw_callV dX2_makeChoice_50 k_X2_28 mf_X2_makeRow ⟨_, rfl, rfl⟩ rfl (hr1 X (c - 1) (by omega)) (by omega) ⟨by omega, by omega⟩ rfl rfl (Nat.le_of_ble_eq_true rfl) (fun r' nn f' hq hle => ?_)
      obtain ⟨b, hb⟩ := MkQ_b hq
      subst hb
      exact sw_iret dX2_makeChoice_53 rfl (bz_n b) (by omega) (by omega) hq
  · refine sw_iconst (x := 0) dX2_makeChoice_11 (by decide) ?_
    exact sw_iret dX2_makeChoice_12 rfl (by first | rfl | exact bz_n _) (by omega) (by omega) (by rw [if_pos (show c = 0 by rw [nI_ltI (by omega) (by omega)] at h8; omega)]; exact ⟨rfl, Or.inr ⟨rfl, rfl, _, _, rfl⟩⟩)
set_option maxRecDepth 100000 in
theorem l_X2_ml {l : Launch} {D : va_G} {cy : Nat → ClassId} {d n : Nat} {f : sw_F} {s : Nat → Int32} {A : Nat → Nat → Int32} {B : Nat → Nat → Int64} {o : Int64} {pr : Value} {Mx : Nat} (hMx : Mx ≤ 500) (hs11 : s 11 = nI Mx) {m n' : Nat} (hm : 150 ≤ m) {p pe : Nat} (hp : 150 ≤ p) {e : ET} {w1 : (Nat → Int32) → Nat → OX} {y z nx : Value} (hf : f p = nd 5 0 (.ref pe) y z nx) (hy : sw_isR y = true) (wf : wfE e) (dk : dkE 0 e) (ne : ndE f m n' e pe) {g : Nat} (hg : g ≤ 6) (hd : 10 ≤ d) (hcl : ∀ X c, ocl (w1 X c) c) (hr1 : MRC l D cy n f s A B o pr Mx (d - 1) (g + 1) w1 y) {QX : sw_QX} : ∀ (k : Nat) (X : Nat → Int32) (c : Nat), c < k → c ≤ Mx → SW l D cy mX2_makeLoop d 0 0 0 0 0 [(0, .ref 26), (1, .ref p), (2, .int (nI g))] [] n (gd f (va_up s 10 (nI (Mx - c))) (va_up A 27 X) B o pr) (MkQ n f s A B o pr Mx (mkL (fun X => vlE X e) w1 k X c)) QX := by
  intro k
  induction k with
  | zero => intro X c h1; exact absurd h1 (by omega)
  | succ k ih =>
    intro X c hk hc
    rw [mkL]
    refine sw_aload_n dX2_makeLoop_0 rfl (by first | rfl | assumption) ?_
    refine sw_get dX2_makeLoop_1 fr_X2_15 rfl rfl ?_
    refine sw_top (y := nI (Mx - c)) rfl ?_
    refine sw_aload_n dX2_makeLoop_4 rfl (by first | rfl | assumption) ?_
    refine sw_get dX2_makeLoop_5 fr_X2_19 rfl rfl ?_
    refine sw_top (y := nI Mx) hs11 ?_
    refine sw_icmp_ge 51 dX2_makeLoop_8 (by decide) (fun h8 => ?_) (fun h8 => ?_)
    · refine sw_iconst (x := 0) dX2_makeLoop_51 (by decide) ?_
      exact sw_iret dX2_makeLoop_52 rfl (by first | rfl | exact bz_n _) (by omega) (by omega) (by rw [if_pos (show c = 0 by rw [nI_leI (by omega) (by omega)] at h8; omega)]; exact ⟨rfl, Or.inr ⟨rfl, rfl, _, _, rfl⟩⟩)
    · have e1 : ¬ c = 0 := by rw [nI_leI (by omega) (by omega)] at h8; omega
      rw [if_neg e1]
      refine sw_aload_n dX2_makeLoop_11 rfl (by first | rfl | assumption) ?_
      refine sw_dup dX2_makeLoop_12 rfl ?_
      refine sw_get dX2_makeLoop_13 fr_X2_15 rfl rfl ?_
      refine sw_iconst (x := 1) dX2_makeLoop_16 (by decide) ?_
      refine sw_iadd dX2_makeLoop_17 ?_
      refine sw_top (y := nI (Mx - (c - 1))) (by rw [show va_up s 10 (nI (Mx - c)) 10 = nI (Mx - c) from rfl, nI_1, show Mx - c + 1 = Mx - (c - 1) by omega]) ?_
      refine g_put 10 dX2_makeLoop_18 fl_X2_15 rfl ⟨by decide, rfl⟩ rfl (Nat.le_of_ble_eq_true rfl) (sw_fit_i _) rfl ?_
      rw [vu_up]
      refine sw_aload_n dX2_makeLoop_21 rfl (by first | rfl | assumption) ?_
      refine sw_aload_n dX2_makeLoop_22 rfl (by first | rfl | assumption) ?_
      refine sw_get dX2_makeLoop_23 fr_X2_57 (gd_n hp hf) rfl ?_
      refine sw_iconst (x := 0) dX2_makeLoop_26 (by decide) ?_
      refine sw_top nl_0 ?_
      refine sw_Vv dX2_makeLoop_27 k_X2_60 mf_X2_valueOf (c_X2_valueOf (s := (va_up s 10 (nI (Mx - (c - 1))))) (A := va_up A 27 X) hm e 0 pe (d - 1) (by omega) wf dk ne) rfl ⟨_, rfl, rfl⟩ (by omega) (by omega) (by omega) rfl rfl (Nat.le_of_ble_eq_true rfl) ?_
      refine sw_top (y := vlE X e) rfl ?_
      refine sw_if_ne 35 dX2_makeLoop_30 (by decide) (fun h30 => ?_) (fun h30 => ?_)
      · rw [if_neg h30]
        refine sw_aload_n dX2_makeLoop_35 rfl (by first | rfl | assumption) ?_
        refine sw_aload_n dX2_makeLoop_36 rfl (by first | rfl | assumption) ?_
        refine sw_get dX2_makeLoop_37 fr_X2_64 (gd_n hp hf) rfl ?_
        refine sw_iload_n dX2_makeLoop_40 rfl ?_
        refine sw_iconst (x := 1) dX2_makeLoop_41 (by decide) ?_
        refine sw_iadd dX2_makeLoop_42 ?_
        refine sw_top (y := nI (g + 1)) (nI_1 g) ?_
        refine sw_callV dX2_makeLoop_43 k_X2_28 mf_X2_makeRow ⟨_, rfl, rfl⟩ rfl (hr1 X (c - 1) (by omega)) (by omega) ⟨by omega, by omega⟩ rfl rfl (Nat.le_of_ble_eq_true rfl) (fun r' nn f' hq hle => ?_)
        obtain ⟨hn', hq⟩ := hq
        have hn' := hn'.symm
        subst hn'
        rcases hq with ⟨X2, c2, hw, hr', hf'⟩ | ⟨hw, hr', x, X2, hf'⟩
        · subst hr'
          subst hf'
          have hc2 : c2 ≤ c - 1 := hcl X (c - 1) _ hw
          rw [hw]
          refine sw_if_ne 0 dX2_makeLoop_46 (by decide) (fun h46 => ?_) (fun h46 => ?_)
          · exact ih X2 c2 (by omega) (by omega)
          · exact absurd h46 (by decide)
        · subst hr'
          subst hf'
          rw [hw]
          refine sw_if_ne 0 dX2_makeLoop_46 (by decide) (fun h46 => ?_) (fun h46 => ?_)
          · exact absurd rfl h46
          · refine sw_iconst (x := 0) dX2_makeLoop_49 (by decide) ?_
            exact sw_iret dX2_makeLoop_50 rfl (by first | rfl | exact bz_n _) (by omega) (by omega) ⟨rfl, Or.inr ⟨rfl, rfl, _, _, rfl⟩⟩
      · refine sw_iconst (x := 1) dX2_makeLoop_33 (by decide) ?_
        exact sw_iret dX2_makeLoop_34 rfl (by first | rfl | exact bz_n _) (by omega) (by omega) (by rw [if_pos (show vlE X e = 0 from h30)]; exact ⟨rfl, Or.inl ⟨_, _, rfl, rfl, rfl⟩⟩)
set_option maxRecDepth 100000 in
theorem c_X2_makeLoop {l : Launch} {D : va_G} {cy : Nat → ClassId} {d n : Nat} {f : sw_F} {s : Nat → Int32} {A : Nat → Nat → Int32} {B : Nat → Nat → Int64} {o : Int64} {pr : Value} {Mx : Nat} (hMx : Mx ≤ 500) (hs11 : s 11 = nI Mx) {m n' : Nat} (hm : 150 ≤ m) {p pe : Nat} (hp : 150 ≤ p) {e : ET} {w1 : (Nat → Int32) → Nat → OX} {y z nx : Value} (hf : f p = nd 5 0 (.ref pe) y z nx) (hy : sw_isR y = true) (wf : wfE e) (dk : dkE 0 e) (ne : ndE f m n' e pe) {g : Nat} (hg : g ≤ 6) (hd : 10 ≤ d) (hcl : ∀ X c, ocl (w1 X c) c) (hr1 : MRC l D cy n f s A B o pr Mx (d - 1) (g + 1) w1 y) {X : Nat → Int32} {c : Nat} (hc : c ≤ Mx) : sw_Ct l D cy mX2_makeLoop d 0 0 [.ref 26, .ref p, .int (nI g)] n (gd f (va_up s 10 (nI (Mx - c))) (va_up A 27 X) B o pr) (MkQ n f s A B o pr Mx (mkL (fun X => vlE X e) w1 600 X c)) := by
  refine sw_of rfl (Nat.le_of_ble_eq_true rfl) ?_
  exact l_X2_ml hMx hs11 hm hp hf hy wf dk ne hg hd hcl hr1 600 X c (by omega) hc
set_option maxRecDepth 100000 in
theorem c_ms_as {l : Launch} {D : va_G} {cy : Nat → ClassId} {d n : Nat} {f : sw_F} {s : Nat → Int32} {A : Nat → Nat → Int32} {B : Nat → Nat → Int64} {o : Int64} {pr : Value} {Mx : Nat} (hMx : Mx ≤ 500) (hs11 : s 11 = nI Mx) {m n' : Nat} (hm : 150 ≤ m) {p pe : Nat} (hp : 150 ≤ p) {e : ET} {v : Nat} (hv : v < 8) {nx y z : Value} (hf : f p = nd 3 (nI v) (.ref pe) y z nx) (wf : wfE e) (dk : dkE 0 e) (ne : ndE f m n' e pe) {g : Nat} (hd : 10 ≤ d) {X : Nat → Int32} {c : Nat} : sw_Ct l D cy mX2_makeStatement d 0 0 [.ref 26, .ref p, .int (nI g)] n (gd f (va_up s 10 (nI (Mx - c))) (va_up A 27 X) B o pr) (MkQ n f s A B o pr Mx (some (upd X v (vlE X e), c))) := by
  refine sw_of rfl (Nat.le_of_ble_eq_true rfl) ?_
  show SW l D cy mX2_makeStatement d 0 0 0 0 0 [(0, .ref 26), (1, .ref p), (2, .int (nI g))] [] n (gd f (va_up s 10 (nI (Mx - c))) (va_up A 27 X) B o pr) _ _
  refine sw_aload_n dX2_makeStatement_0 rfl (by first | rfl | assumption) ?_
  refine sw_get dX2_makeStatement_1 fr_X2_41 (gd_n hp hf) rfl ?_
  refine sw_iconst (x := 4) dX2_makeStatement_4 (by decide) ?_
  refine sw_icmp_ne 15 dX2_makeStatement_5 (by decide) (fun h5 => ?_) (fun h5 => ?_)
  · refine sw_aload_n dX2_makeStatement_15 rfl (by first | rfl | assumption) ?_
    refine sw_get dX2_makeStatement_16 fr_X2_41 (gd_n hp hf) rfl ?_
    refine sw_iconst (x := 5) dX2_makeStatement_19 (by decide) ?_
    refine sw_icmp_ne 30 dX2_makeStatement_20 (by decide) (fun h20 => ?_) (fun h20 => ?_)
    · refine sw_aload_n dX2_makeStatement_30 rfl (by first | rfl | assumption) ?_
      refine sw_get dX2_makeStatement_31 fr_X2_50 (gd_n hp hf) rfl ?_
      refine sw_SNv dX2_makeStatement_34 k_X2_53 mf_X11_isVariable (c_X11_isVariable (d := d - 1) (nI v)) (by omega) (by omega) (by omega) rfl rfl (Nat.le_of_ble_eq_true rfl) ?_
      refine sw_if_eq 58 dX2_makeStatement_37 (by decide) (fun h37 => ?_) (fun h37 => ?_)
      · exact absurd (bz_0.mp h37) (by rw [isV_n hv]; decide)
      · refine sw_aload_n dX2_makeStatement_40 rfl (by first | rfl | assumption) ?_
        refine sw_get dX2_makeStatement_41 fr_X2_9 rfl rfl ?_
        refine sw_aload_n dX2_makeStatement_44 rfl (by first | rfl | assumption) ?_
        refine sw_get dX2_makeStatement_45 fr_X2_50 (gd_n hp hf) rfl ?_
        refine sw_aload_n dX2_makeStatement_48 rfl (by first | rfl | assumption) ?_
        refine sw_aload_n dX2_makeStatement_49 rfl (by first | rfl | assumption) ?_
        refine sw_get dX2_makeStatement_50 fr_X2_57 (gd_n hp hf) rfl ?_
        refine sw_iconst (x := 0) dX2_makeStatement_53 (by decide) ?_
        refine sw_top nl_0 ?_
        refine sw_Vv dX2_makeStatement_54 k_X2_60 mf_X2_valueOf (c_X2_valueOf (s := va_up s 10 (nI (Mx - c))) (A := va_up A 27 X) hm e 0 pe (d - 1) (by omega) wf dk ne) rfl ⟨_, rfl, rfl⟩ (by omega) (by omega) (by omega) rfl rfl (Nat.le_of_ble_eq_true rfl) ?_
        refine sw_top (y := vlE X e) rfl ?_
        refine g_iast (v) dX2_makeStatement_57 ⟨by decide, rfl, rfl⟩ rfl (show v < 8 by omega) rfl ?_
        refine sw_iconst (x := 1) dX2_makeStatement_58 (by decide) ?_
        exact sw_iret dX2_makeStatement_59 rfl (by first | rfl | exact bz_n _) (by omega) (by omega) ⟨rfl, Or.inl ⟨_, _, rfl, rfl, by rw [vu_up, vu_at]⟩⟩
    · exact absurd h20 (by decide)
  · exact absurd h5 (by decide)
set_option maxRecDepth 100000 in
theorem c_ms_lp {l : Launch} {D : va_G} {cy : Nat → ClassId} {d n : Nat} {f : sw_F} {s : Nat → Int32} {A : Nat → Nat → Int32} {B : Nat → Nat → Int64} {o : Int64} {pr : Value} {Mx : Nat} (hMx : Mx ≤ 500) (hs11 : s 11 = nI Mx) {m n' : Nat} (hm : 150 ≤ m) {p pe : Nat} (hp : 150 ≤ p) {e : ET} {w1 : (Nat → Int32) → Nat → OX} {y z nx : Value} (hf : f p = nd 5 0 (.ref pe) y z nx) (hy : sw_isR y = true) (wf : wfE e) (dk : dkE 0 e) (ne : ndE f m n' e pe) {g : Nat} (hg : g ≤ 6) (hd : 11 ≤ d) (hcl : ∀ X c, ocl (w1 X c) c) (hr1 : MRC l D cy n f s A B o pr Mx (d - 2) (g + 1) w1 y) {X : Nat → Int32} {c : Nat} (hc : c ≤ Mx) : sw_Ct l D cy mX2_makeStatement d 0 0 [.ref 26, .ref p, .int (nI g)] n (gd f (va_up s 10 (nI (Mx - c))) (va_up A 27 X) B o pr) (MkQ n f s A B o pr Mx (mkL (fun X => vlE X e) w1 600 X c)) := by
  refine sw_of rfl (Nat.le_of_ble_eq_true rfl) ?_
  show SW l D cy mX2_makeStatement d 0 0 0 0 0 [(0, .ref 26), (1, .ref p), (2, .int (nI g))] [] n (gd f (va_up s 10 (nI (Mx - c))) (va_up A 27 X) B o pr) _ _
  refine sw_aload_n dX2_makeStatement_0 rfl (by first | rfl | assumption) ?_
  refine sw_get dX2_makeStatement_1 fr_X2_41 (gd_n hp hf) rfl ?_
  refine sw_iconst (x := 4) dX2_makeStatement_4 (by decide) ?_
  refine sw_icmp_ne 15 dX2_makeStatement_5 (by decide) (fun h5 => ?_) (fun h5 => ?_)
  · refine sw_aload_n dX2_makeStatement_15 rfl (by first | rfl | assumption) ?_
    refine sw_get dX2_makeStatement_16 fr_X2_41 (gd_n hp hf) rfl ?_
    refine sw_iconst (x := 5) dX2_makeStatement_19 (by decide) ?_
    refine sw_icmp_ne 30 dX2_makeStatement_20 (by decide) (fun h20 => ?_) (fun h20 => ?_)
    · exact absurd rfl h20
    · refine sw_aload_n dX2_makeStatement_23 rfl (by first | rfl | assumption) ?_
      refine sw_aload_n dX2_makeStatement_24 rfl (by first | rfl | assumption) ?_
      refine sw_iload_n dX2_makeStatement_25 rfl ?_
      refine sw_callV dX2_makeStatement_26 k_X2_47 mf_X2_makeLoop ⟨_, rfl, rfl⟩ rfl (c_X2_makeLoop (d := d - 1) hMx hs11 hm hp hf hy wf dk ne hg (by omega) hcl hr1 hc) (by omega) ⟨by omega, by omega⟩ rfl rfl (Nat.le_of_ble_eq_true rfl) (fun r' nn f' hq hle => ?_)
      obtain ⟨b, hb⟩ := MkQ_b hq
      subst hb
      exact sw_iret dX2_makeStatement_29 rfl (bz_n b) (by omega) (by omega) hq
  · exact absurd h5 (by decide)
set_option maxRecDepth 100000 in
theorem c_ms_ch {l : Launch} {D : va_G} {cy : Nat → ClassId} {d n : Nat} {f : sw_F} {s : Nat → Int32} {A : Nat → Nat → Int32} {B : Nat → Nat → Int64} {o : Int64} {pr : Value} {Mx : Nat} (hMx : Mx ≤ 500) (hs11 : s 11 = nI Mx) {m n' : Nat} (hm : 150 ≤ m) {p pe : Nat} (hp : 150 ≤ p) {e : ET} {w1 w2 : (Nat → Int32) → Nat → OX} {y z nx : Value} (hf : f p = nd 4 0 (.ref pe) y z nx) (hy : sw_isR y = true) (hz : sw_isR z = true) (wf : wfE e) (dk : dkE 0 e) (ne : ndE f m n' e pe) {g : Nat} (hg : g ≤ 6) (hd : 11 ≤ d) (hr1 : MRC l D cy n f s A B o pr Mx (d - 2) (g + 1) w1 y) (hr2 : MRC l D cy n f s A B o pr Mx (d - 2) (g + 1) w2 z) {X : Nat → Int32} {c : Nat} (hc : c ≤ Mx) : sw_Ct l D cy mX2_makeStatement d 0 0 [.ref 26, .ref p, .int (nI g)] n (gd f (va_up s 10 (nI (Mx - c))) (va_up A 27 X) B o pr) (MkQ n f s A B o pr Mx (if c = 0 then none else if vlE X e = 0 then w2 X (c - 1) else w1 X (c - 1))) := by
  refine sw_of rfl (Nat.le_of_ble_eq_true rfl) ?_
  show SW l D cy mX2_makeStatement d 0 0 0 0 0 [(0, .ref 26), (1, .ref p), (2, .int (nI g))] [] n (gd f (va_up s 10 (nI (Mx - c))) (va_up A 27 X) B o pr) _ _
  refine sw_aload_n dX2_makeStatement_0 rfl (by first | rfl | assumption) ?_
  refine sw_get dX2_makeStatement_1 fr_X2_41 (gd_n hp hf) rfl ?_
  refine sw_iconst (x := 4) dX2_makeStatement_4 (by decide) ?_
  refine sw_icmp_ne 15 dX2_makeStatement_5 (by decide) (fun h5 => ?_) (fun h5 => ?_)
  · exact absurd rfl h5
  · refine sw_aload_n dX2_makeStatement_8 rfl (by first | rfl | assumption) ?_
    refine sw_aload_n dX2_makeStatement_9 rfl (by first | rfl | assumption) ?_
    refine sw_iload_n dX2_makeStatement_10 rfl ?_
    refine sw_callV dX2_makeStatement_11 k_X2_44 mf_X2_makeChoice ⟨_, rfl, rfl⟩ rfl (c_X2_makeChoice (d := d - 1) hMx hs11 hm hp hf hy hz wf dk ne hg (by omega) hr1 hr2 hc) (by omega) ⟨by omega, by omega⟩ rfl rfl (Nat.le_of_ble_eq_true rfl) (fun r' nn f' hq hle => ?_)
    obtain ⟨b, hb⟩ := MkQ_b hq
    subst hb
    exact sw_iret dX2_makeStatement_14 rfl (bz_n b) (by omega) (by omega) hq
set_option maxRecDepth 100000 in
theorem c_mr_of {l : Launch} {D : va_G} {cy : Nat → ClassId} {d n : Nat} {f : sw_F} {s : Nat → Int32} {A : Nat → Nat → Int32} {B : Nat → Nat → Int64} {o : Int64} {pr : Value} {Mx : Nat} {s0 : Nat → Int32} {A0 : Nat → Nat → Int32} {g : Nat} (hg : g ≤ 6) {pv : Value} (hv : sw_isR pv = true) {w : OX} (K : ∀ (w0 : Value) (QX : sw_QX), SW l D cy mX2_makeRow d 0 0 0 0 10 [(0, .ref 26), (1, w0), (2, .int (nI g)), (3, pv)] [] n (gd f s A B o pr) (MkQ n f s0 A0 B o pr Mx w) QX) : sw_Ct l D cy mX2_makeRow d 0 0 [.ref 26, pv, .int (nI g)] n (gd f s A B o pr) (MkQ n f s0 A0 B o pr Mx w) := by
  refine sw_of rfl (by cases pv with | null => exact Nat.le_of_ble_eq_true rfl | ref a => exact Nat.le_of_ble_eq_true rfl | _ => cases hv) ?_
  have hla : lv_args 0 [.ref 26, pv, .int (nI g)] = [(0, .ref 26), (1, pv), (2, .int (nI g))] := by cases pv with | null => rfl | ref a => rfl | _ => cases hv
  rw [hla]
  refine sw_iload_n dX2_makeRow_0 rfl ?_
  refine sw_bipush (x := 6) dX2_makeRow_1 (by decide) ?_
  refine sw_icmp_le 8 dX2_makeRow_3 (by decide) (fun h3 => ?_) (fun h3 => ?_)
  · refine sw_aload_n dX2_makeRow_8 rfl (by first | rfl | assumption) ?_
    refine sw_astore_n [(0, _), (1, _), (2, _), (3, _)] dX2_makeRow_9 (by first | rfl | assumption) (by decide) rfl ?_
    exact K pv _
  · exact absurd (nlt6 hg) h3
set_option maxRecDepth 100000 in
theorem l_X2_mr {l : Launch} {D : va_G} {cy : Nat → ClassId} {n : Nat} {f : sw_F} {s : Nat → Int32} {A : Nat → Nat → Int32} {B : Nat → Nat → Int64} {o : Int64} {pr : Value} {Mx : Nat} (hMx : Mx ≤ 500) (hs11 : s 11 = nI Mx) {m n' : Nat} (hm : 150 ≤ m) : ∀ (t : RT) (g d : Nat) (X : Nat → Int32) (c : Nat) (pv w0 : Value) (QX : sw_QX), 33 - 3 * g ≤ d → wfR t → dkR g t → ndR f m n' t pv → c ≤ Mx → SW l D cy mX2_makeRow d 0 0 0 0 10 [(0, .ref 26), (1, w0), (2, .int (nI g)), (3, pv)] [] n (gd f (va_up s 10 (nI (Mx - c))) (va_up A 27 X) B o pr) (MkQ n f s A B o pr Mx (mkR t X c)) QX
  | .leaf _, g, d, X, c, pv, w0, QX, hd, wf, dk, nr, hc => by
    have hpv : pv = .null := nr
    subst hpv
    refine sw_aload_n dX2_makeRow_10 rfl rfl ?_
    refine sw_ifnullN 33 dX2_makeRow_11 (by decide) ?_
    refine sw_iconst (x := 1) dX2_makeRow_33 (by decide) ?_
    exact sw_iret dX2_makeRow_34 rfl rfl (by omega) (by omega) ⟨rfl, Or.inl ⟨_, _, rfl, rfl, rfl⟩⟩
  | .branch v (.leaf e) R, g, d, X, c, pv, w0, QX, hd, wf, dk, nr, hc => by
    obtain ⟨p, pe, nx, hpv, hpm, hf, ne, nR⟩ := nr
    subst hpv
    have hp : 150 ≤ p := Nat.le_trans hm hpm.1
    have hnx := ndR_r _ _ nR
    obtain ⟨wv, wf, wR⟩ := wf
    obtain ⟨dk, dR⟩ := dk
    have hg := dkR_g _ _ dR
    refine sw_aload_n dX2_makeRow_10 rfl rfl ?_
    refine sw_ifnullR dX2_makeRow_11 ?_
    refine sw_aload_n dX2_makeRow_14 rfl rfl ?_
    refine sw_aload_n dX2_makeRow_15 rfl rfl ?_
    refine sw_iload_n dX2_makeRow_16 rfl ?_
    refine sw_callV dX2_makeRow_17 k_X2_32 mf_X2_makeStatement ⟨_, rfl, rfl⟩ rfl (c_ms_as (d := d - 1) hMx hs11 hm hp wv hf wf dk ne (by omega)) (by omega) ⟨by omega, by omega⟩ rfl rfl (Nat.le_of_ble_eq_true rfl) (fun r' nn f' hq hle => ?_)
    obtain ⟨hn', hq⟩ := hq
    have hn' := hn'.symm
    subst hn'
    rcases hq with ⟨X2, c2, hw, hr', hf'⟩ | ⟨hw, hr', x, X2, hf'⟩
    · subst hr'
      subst hf'
      have hc2 : c2 ≤ c := Nat.le_of_eq (show c2 = c from (congrArg Prod.snd (Option.some.inj hw)).symm)
      rw [mkR, show upd X v (vlE X e) = X2 from congrArg Prod.fst (Option.some.inj hw), show c = c2 from congrArg Prod.snd (Option.some.inj hw)]
      show SW l D cy mX2_makeRow d 0 0 0 0 20 [(0, .ref 26), (1, w0), (2, .int (nI g)), (3, .ref p)] [.int 1] n (gd f (va_up s 10 (nI (Mx - c2))) (va_up A 27 X2) B o pr) (MkQ n f s A B o pr Mx (mkR R X2 c2)) QX
      refine sw_if_ne 25 dX2_makeRow_20 (by decide) (fun h20 => ?_) (fun h20 => ?_)
      · refine sw_aload_n dX2_makeRow_25 rfl rfl ?_
        refine sw_get dX2_makeRow_26 fr_X2_35 (gd_n hp hf) rfl ?_
        refine sw_astore_n [(0, _), (1, _), (2, _), (3, _)] dX2_makeRow_29 hnx (by decide) rfl ?_
        refine sw_goto 10 dX2_makeRow_30 (by decide) ?_
        exact l_X2_mr hMx hs11 hm R g d X2 c2 nx w0 QX hd wR dR nR (by omega)
      · exact absurd h20 (by decide)
    · subst hr'
      subst hf'
      exact absurd hw (by simp)
  | .branch _ (.branch _ (.leaf e) r) R, g, d, X, c, pv, w0, QX, hd, wf, dk, nr, hc => by
    obtain ⟨p, pe, y, nx, hpv, hpm, hf, ne, nr1, nR⟩ := nr
    subst hpv
    have hp : 150 ≤ p := Nat.le_trans hm hpm.1
    have hnx := ndR_r _ _ nR
    obtain ⟨wf, wr, wR⟩ := wf
    obtain ⟨dk, dr, dR⟩ := dk
    have hg := dkR_g _ _ dR
    have hg1 := dkR_g _ _ dr
    refine sw_aload_n dX2_makeRow_10 rfl rfl ?_
    refine sw_ifnullR dX2_makeRow_11 ?_
    refine sw_aload_n dX2_makeRow_14 rfl rfl ?_
    refine sw_aload_n dX2_makeRow_15 rfl rfl ?_
    refine sw_iload_n dX2_makeRow_16 rfl ?_
    refine sw_callV dX2_makeRow_17 k_X2_32 mf_X2_makeStatement ⟨_, rfl, rfl⟩ rfl (c_ms_lp (d := d - 1) (w1 := fun X c => mkR r X c) hMx hs11 hm hp hf (ndR_r _ _ nr1) wf dk ne hg (by omega) (fun X c => mkR_cl r X c) (fun X c hc => c_mr_of (dkR_g _ _ dr) (ndR_r _ _ nr1) (fun w0 QX => l_X2_mr hMx hs11 hm r (g + 1) (d - 3) X c _ w0 QX (by omega) wr dr nr1 hc)) hc) (by omega) ⟨by omega, by omega⟩ rfl rfl (Nat.le_of_ble_eq_true rfl) (fun r' nn f' hq hle => ?_)
    obtain ⟨hn', hq⟩ := hq
    have hn' := hn'.symm
    subst hn'
    rcases hq with ⟨X2, c2, hw, hr', hf'⟩ | ⟨hw, hr', x, X2, hf'⟩
    · subst hr'
      subst hf'
      have hc2 : c2 ≤ c := mkL_cl (fun X c => mkR_cl r X c) 600 X c _ hw
      rw [mkR, hw]
      show SW l D cy mX2_makeRow d 0 0 0 0 20 [(0, .ref 26), (1, w0), (2, .int (nI g)), (3, .ref p)] [.int 1] n (gd f (va_up s 10 (nI (Mx - c2))) (va_up A 27 X2) B o pr) (MkQ n f s A B o pr Mx (mkR R X2 c2)) QX
      refine sw_if_ne 25 dX2_makeRow_20 (by decide) (fun h20 => ?_) (fun h20 => ?_)
      · refine sw_aload_n dX2_makeRow_25 rfl rfl ?_
        refine sw_get dX2_makeRow_26 fr_X2_35 (gd_n hp hf) rfl ?_
        refine sw_astore_n [(0, _), (1, _), (2, _), (3, _)] dX2_makeRow_29 hnx (by decide) rfl ?_
        refine sw_goto 10 dX2_makeRow_30 (by decide) ?_
        exact l_X2_mr hMx hs11 hm R g d X2 c2 nx w0 QX hd wR dR nR (by omega)
      · exact absurd h20 (by decide)
    · subst hr'
      subst hf'
      rw [mkR, hw]
      refine sw_if_ne 25 dX2_makeRow_20 (by decide) (fun h20 => ?_) (fun h20 => ?_)
      · exact absurd rfl h20
      · refine sw_iconst (x := 0) dX2_makeRow_23 (by decide) ?_
        exact sw_iret dX2_makeRow_24 rfl (by first | rfl | exact bz_n _) (by omega) (by omega) ⟨rfl, Or.inr ⟨rfl, rfl, _, _, rfl⟩⟩
  | .branch _ (.branch _ (.branch _ (.leaf e) r1) r2) R, g, d, X, c, pv, w0, QX, hd, wf, dk, nr, hc => by
    obtain ⟨p, pe, y, z, nx, hpv, hpm, hf, ne, nr1, nr2, nR⟩ := nr
    subst hpv
    have hp : 150 ≤ p := Nat.le_trans hm hpm.1
    have hnx := ndR_r _ _ nR
    obtain ⟨wf, wr1, wr2, wR⟩ := wf
    obtain ⟨dk, dr1, dr2, dR⟩ := dk
    have hg := dkR_g _ _ dR
    have hg1 := dkR_g _ _ dr1
    have hcl : ocl (if c = 0 then none else if vlE X e = 0 then mkR r2 X (c - 1) else mkR r1 X (c - 1)) c := by
      split
      · exact fun q hq => by cases hq
      · split
        · exact fun q hq => Nat.le_trans (mkR_cl r2 X (c - 1) q hq) (Nat.sub_le c 1)
        · exact fun q hq => Nat.le_trans (mkR_cl r1 X (c - 1) q hq) (Nat.sub_le c 1)
    refine sw_aload_n dX2_makeRow_10 rfl rfl ?_
    refine sw_ifnullR dX2_makeRow_11 ?_
    refine sw_aload_n dX2_makeRow_14 rfl rfl ?_
    refine sw_aload_n dX2_makeRow_15 rfl rfl ?_
    refine sw_iload_n dX2_makeRow_16 rfl ?_
    refine sw_callV dX2_makeRow_17 k_X2_32 mf_X2_makeStatement ⟨_, rfl, rfl⟩ rfl (c_ms_ch (d := d - 1) (w1 := fun X c => mkR r1 X c) (w2 := fun X c => mkR r2 X c) hMx hs11 hm hp hf (ndR_r _ _ nr1) (ndR_r _ _ nr2) wf dk ne hg (by omega) (fun X c hc => c_mr_of (dkR_g _ _ dr1) (ndR_r _ _ nr1) (fun w0 QX => l_X2_mr hMx hs11 hm r1 (g + 1) (d - 3) X c _ w0 QX (by omega) wr1 dr1 nr1 hc)) (fun X c hc => c_mr_of (dkR_g _ _ dr2) (ndR_r _ _ nr2) (fun w0 QX => l_X2_mr hMx hs11 hm r2 (g + 1) (d - 3) X c _ w0 QX (by omega) wr2 dr2 nr2 hc)) hc) (by omega) ⟨by omega, by omega⟩ rfl rfl (Nat.le_of_ble_eq_true rfl) (fun r' nn f' hq hle => ?_)
    obtain ⟨hn', hq⟩ := hq
    have hn' := hn'.symm
    subst hn'
    rcases hq with ⟨X2, c2, hw, hr', hf'⟩ | ⟨hw, hr', x, X2, hf'⟩
    · subst hr'
      subst hf'
      have hc2 : c2 ≤ c := hcl _ hw
      rw [mkR, hw]
      show SW l D cy mX2_makeRow d 0 0 0 0 20 [(0, .ref 26), (1, w0), (2, .int (nI g)), (3, .ref p)] [.int 1] n (gd f (va_up s 10 (nI (Mx - c2))) (va_up A 27 X2) B o pr) (MkQ n f s A B o pr Mx (mkR R X2 c2)) QX
      refine sw_if_ne 25 dX2_makeRow_20 (by decide) (fun h20 => ?_) (fun h20 => ?_)
      · refine sw_aload_n dX2_makeRow_25 rfl rfl ?_
        refine sw_get dX2_makeRow_26 fr_X2_35 (gd_n hp hf) rfl ?_
        refine sw_astore_n [(0, _), (1, _), (2, _), (3, _)] dX2_makeRow_29 hnx (by decide) rfl ?_
        refine sw_goto 10 dX2_makeRow_30 (by decide) ?_
        exact l_X2_mr hMx hs11 hm R g d X2 c2 nx w0 QX hd wR dR nR (by omega)
      · exact absurd h20 (by decide)
    · subst hr'
      subst hf'
      rw [mkR, hw]
      refine sw_if_ne 25 dX2_makeRow_20 (by decide) (fun h20 => ?_) (fun h20 => ?_)
      · exact absurd rfl h20
      · refine sw_iconst (x := 0) dX2_makeRow_23 (by decide) ?_
        exact sw_iret dX2_makeRow_24 rfl (by first | rfl | exact bz_n _) (by omega) (by omega) ⟨rfl, Or.inr ⟨rfl, rfl, _, _, rfl⟩⟩
  | .branch _ (.branch _ (.branch _ (.branch _ _ _) _) _) _, g, d, X, c, pv, w0, QX, hd, wf, dk, nr, hc => wf.elim
def FoQ (n : Nat) (f : sw_F) (s : Nat → Int32) (A : Nat → Nat → Int32) (B : Nat → Nat → Int64) (o : Int64) (pr : Value) (Mx : Nat) (w : OX) : sw_Q := fun r n' f' => n' = n ∧ ((∃ X' c', w = some (X', c') ∧ c' ≤ Mx ∧ r = some (.int (nI (Mx - c'))) ∧ f' = gd f (va_up (va_up s 11 (nI Mx)) 10 (nI (Mx - c'))) (va_up (va_up A 27 X') 5 (fillF X' (A 5) 8)) B o pr) ∨ (w = none ∧ r = some (.int (-1)) ∧ ∃ x X', f' = gd f (va_up (va_up s 11 (nI Mx)) 10 x) (va_up A 27 X') B o pr))
set_option maxRecDepth 100000 in
theorem c_X2_execute {l : Launch} {D : va_G} {cy : Nat → ClassId} {d n : Nat} {f : sw_F} {s : Nat → Int32} {A : Nat → Nat → Int32} {B : Nat → Nat → Int64} {o : Int64} {pr : Value} {Mx : Nat} (hMx : Mx ≤ 500) {m n' : Nat} (hm : 150 ≤ m) {t : RT} (hd : 34 ≤ d) (wf : wfR t) (dk : dkR 0 t) {pv : Value} (nr : ndR f m n' t pv) : sw_Ct l D cy mX2_execute d 0 0 [.ref 26, pv, .ref 5, .int (nI Mx)] n (gd f s A B o pr) (FoQ n f s A B o pr Mx (mkR t (fillF (A 5) (A 27) 8) Mx)) := by
  have hv := ndR_r _ _ nr
  refine sw_of rfl (by cases pv with | null => exact Nat.le_of_ble_eq_true rfl | ref a => exact Nat.le_of_ble_eq_true rfl | _ => cases hv) ?_
  have hla : lv_args 0 [.ref 26, pv, .ref 5, .int (nI Mx)] = [(0, .ref 26), (1, pv), (2, .ref 5), (3, .int (nI Mx))] := by cases pv with | null => rfl | ref a => rfl | _ => cases hv
  rw [hla]
  refine sw_aload_n dX2_execute_0 rfl (by first | rfl | assumption) ?_
  refine sw_iconst (x := 0) dX2_execute_1 (by decide) ?_
  refine sw_aload_n dX2_execute_2 rfl (by first | rfl | assumption) ?_
  refine sw_get dX2_execute_3 fr_X2_9 rfl rfl ?_
  refine sw_iconst (x := 0) dX2_execute_6 (by decide) ?_
  refine sw_bipush (x := 8) dX2_execute_7 (by decide) ?_
  refine g_copy 8 dX2_execute_9 k_X2_22 k_cpy2 k_cpy3 k_cpy4 ⟨by decide, rfl, rfl⟩ ⟨by decide, rfl, rfl⟩ rfl rfl rfl (by decide) (by decide) (by omega) (Nat.le_of_ble_eq_true rfl) ?_
  refine sw_aload_n dX2_execute_12 rfl (by first | rfl | assumption) ?_
  refine sw_iconst (x := 0) dX2_execute_13 (by decide) ?_
  refine g_put 10 dX2_execute_14 fl_X2_15 rfl ⟨by decide, rfl⟩ rfl (Nat.le_of_ble_eq_true rfl) (sw_fit_i _) rfl ?_
  refine sw_aload_n dX2_execute_17 rfl (by first | rfl | assumption) ?_
  refine sw_iload_n dX2_execute_18 rfl ?_
  refine g_put 11 dX2_execute_19 fl_X2_19 rfl ⟨by decide, rfl⟩ rfl (Nat.le_of_ble_eq_true rfl) (sw_fit_i _) rfl ?_
  refine sw_aload_n dX2_execute_22 rfl (by first | rfl | assumption) ?_
  refine sw_aload_n dX2_execute_23 rfl (by first | rfl | assumption) ?_
  refine sw_iconst (x := 0) dX2_execute_24 (by decide) ?_
  refine sw_top nl_0 ?_
  refine g_eq (s' := va_up (va_up s 11 (nI Mx)) 10 (nI (Mx - Mx))) (A' := va_up A 27 (fillF (A 5) (A 27) 8)) (by rw [vu_so _ (show 10 < 11 by decide), Nat.sub_self]; rfl) rfl rfl ?_
  have ct := c_mr_of (l := l) (D := D) (cy := cy) (d := d - 1) (n := n) (f := f) (s := va_up (va_up s 11 (nI Mx)) 10 (nI (Mx - Mx))) (A := va_up A 27 (fillF (A 5) (A 27) 8)) (s0 := va_up s 11 (nI Mx)) (A0 := A) (B := B) (o := o) (pr := pr) (Mx := Mx) (Nat.zero_le 6) hv (fun w0 QX => l_X2_mr (s := va_up s 11 (nI Mx)) (A := A) hMx rfl hm t 0 (d - 1) (fillF (A 5) (A 27) 8) Mx pv w0 QX (by omega) wf dk nr (Nat.le_refl Mx))
  refine sw_callV dX2_execute_25 k_X2_28 mf_X2_makeRow ⟨_, rfl, rfl⟩ rfl ct (by omega) ⟨by omega, by omega⟩ rfl rfl (Nat.le_of_ble_eq_true rfl) (fun r' nn f' hq hle => ?_)
  obtain ⟨hn', hq⟩ := hq
  have hn' := hn'.symm
  subst hn'
  rcases hq with ⟨X2, c2, hw, hr', hf'⟩ | ⟨hw, hr', x, X2, hf'⟩
  · subst hr'
    subst hf'
    have hc2 : c2 ≤ Mx := mkR_cl t _ Mx _ hw
    refine sw_if_ne 33 dX2_execute_28 (by decide) (fun h28 => ?_) (fun h28 => ?_)
    · refine sw_aload_n dX2_execute_33 rfl (by first | rfl | assumption) ?_
      refine sw_get dX2_execute_34 fr_X2_9 rfl rfl ?_
      refine sw_iconst (x := 0) dX2_execute_37 (by decide) ?_
      refine sw_aload_n dX2_execute_38 rfl (by first | rfl | assumption) ?_
      refine sw_iconst (x := 0) dX2_execute_39 (by decide) ?_
      refine sw_bipush (x := 8) dX2_execute_40 (by decide) ?_
      refine g_copy 8 dX2_execute_42 k_X2_22 k_cpy2 k_cpy3 k_cpy4 ⟨by decide, rfl, rfl⟩ ⟨by decide, rfl, rfl⟩ rfl rfl rfl (by decide) (by decide) (by omega) (Nat.le_of_ble_eq_true rfl) ?_
      refine sw_aload_n dX2_execute_45 rfl (by first | rfl | assumption) ?_
      refine sw_get dX2_execute_46 fr_X2_15 rfl rfl ?_
      exact sw_iret dX2_execute_49 rfl (by first | rfl | exact bz_n _) (by omega) (by omega) ⟨rfl, Or.inl ⟨X2, c2, hw, hc2, rfl, rfl⟩⟩
    · exact absurd h28 (by decide)
  · subst hr'
    subst hf'
    refine sw_if_ne 33 dX2_execute_28 (by decide) (fun h28 => ?_) (fun h28 => ?_)
    · exact absurd rfl h28
    · refine sw_iconst (x := (-1)) dX2_execute_31 (by decide) ?_
      exact sw_iret dX2_execute_32 rfl (by first | rfl | exact bz_n _) (by omega) (by omega) ⟨rfl, Or.inr ⟨hw, rfl, _, _, rfl⟩⟩
