/-! ===== THE CLASS: LabelGuard, what throws ===== -/
theorem kx_108 : Cond.classLink "LabelGuard" 108 xIA ∈ sw_lwg := sw_m 522 (by decide +kernel) (by decide +kernel)
theorem kx_124 : Cond.classLink "LabelGuard" 124 xIS ∈ sw_lwg := sw_m 614 (by decide +kernel) (by decide +kernel)
theorem kx_IA : Cond.initialized xIA ∈ sw_lwg := sw_m 105 (by decide +kernel) (by decide +kernel)
theorem kx_IS : Cond.initialized xIS ∈ sw_lwg := sw_m 106 (by decide +kernel) (by decide +kernel)
theorem kx_a1 : ∀ w ∈ (vx_atS "LabelGuard" 112 xIA xNm).filter goodWord, w ∈ sw_lwg := by
  have h : ((vx_atS "LabelGuard" 112 xIA xNm).filter goodWord).all (fun w => decide (w ∈ sw_lwg)) = true := by decide +kernel
  exact fun w hw => of_decide_eq_true (List.all_eq_true.mp h w hw)
theorem kx_a2 : ∀ w ∈ (vx_atS "LabelGuard" 112 xIA xNm).filter (fun w => !goodWord w), w ∈ sw_xw := by
  have h : ((vx_atS "LabelGuard" 112 xIA xNm).filter (fun w => !goodWord w)).all (fun w => decide (w ∈ sw_xw)) = true := by decide +kernel
  exact fun w hw => of_decide_eq_true (List.all_eq_true.mp h w hw)
theorem kx_a3 : ∀ w ∈ Cond.classLink "LabelGuard" 108 xIA :: Cond.initialized xIA :: vx_atS "LabelGuard" 112 xIA xNm, vx_ot w = true := by
  have h : (Cond.classLink "LabelGuard" 108 xIA :: Cond.initialized xIA :: vx_atS "LabelGuard" 112 xIA xNm).all (fun w => vx_ot w) = true := by decide +kernel
  exact fun w hw => List.all_eq_true.mp h w hw
theorem kx_s1 : ∀ w ∈ (vx_atS "LabelGuard" 128 xIS xNm).filter goodWord, w ∈ sw_lwg := by
  have h : ((vx_atS "LabelGuard" 128 xIS xNm).filter goodWord).all (fun w => decide (w ∈ sw_lwg)) = true := by decide +kernel
  exact fun w hw => of_decide_eq_true (List.all_eq_true.mp h w hw)
theorem kx_s2 : ∀ w ∈ (vx_atS "LabelGuard" 128 xIS xNm).filter (fun w => !goodWord w), w ∈ sw_xw := by
  have h : ((vx_atS "LabelGuard" 128 xIS xNm).filter (fun w => !goodWord w)).all (fun w => decide (w ∈ sw_xw)) = true := by decide +kernel
  exact fun w hw => of_decide_eq_true (List.all_eq_true.mp h w hw)
theorem kx_s3 : ∀ w ∈ Cond.classLink "LabelGuard" 124 xIS :: Cond.initialized xIS :: vx_atS "LabelGuard" 128 xIS xNm, vx_ot w = true := by
  have h : (Cond.classLink "LabelGuard" 124 xIS :: Cond.initialized xIS :: vx_atS "LabelGuard" 128 xIS xNm).all (fun w => vx_ot w) = true := by decide +kernel
  exact fun w hw => List.all_eq_true.mp h w hw
section SXT
variable {l : Launch} {D : va_G} {cy : Nat → ClassId} {M : sw_MD} {d mc ms cells slots pc : Nat} {L : sw_L} {st : List Value} {n : Nat} {f : sw_F} {Q : sw_Q} {QX : sw_QX}
theorem sx_IA {is : Nat} {text : String} (hl : l.stackTraces = false) (hM : M.1.cls = "LabelGuard") (hs : (is, text) ∈ sw_str) (d0 : decode M.2.1 pc = .ok (.new 108, 3)) (d3 : decode M.2.1 (pc + 3) = .ok (.dup, 1)) (d4 : decode M.2.1 (pc + 4) = .ok (.ldc is, 2)) (d6 : decode M.2.1 (pc + 6) = .ok (.invokespecial 112, 3)) (d9 : decode M.2.1 (pc + 9) = .ok (.athrow, 1))
    (hd : 6 ≤ d) (hr : (st.map fun v => v.category).sum ≤ 8) (hc : cells + 1 ≤ mc) (hsl : slots + 6 ≤ ms) (hq : QX xIA n f) : SWr eX l D cy M d mc ms cells slots pc L st n f Q QX := sw_throw hl hM (by decide) kx_108 kx_IA hs kx_a1 kx_a2 kx_a3 d0 d3 d4 d6 d9 hd hr hc hsl hq
theorem sx_IS {is : Nat} {text : String} (hl : l.stackTraces = false) (hM : M.1.cls = "LabelGuard") (hs : (is, text) ∈ sw_str) (d0 : decode M.2.1 pc = .ok (.new 124, 3)) (d3 : decode M.2.1 (pc + 3) = .ok (.dup, 1)) (d4 : decode M.2.1 (pc + 4) = .ok (.ldc is, 2)) (d6 : decode M.2.1 (pc + 6) = .ok (.invokespecial 128, 3)) (d9 : decode M.2.1 (pc + 9) = .ok (.athrow, 1))
    (hd : 6 ≤ d) (hr : (st.map fun v => v.category).sum ≤ 8) (hc : cells + 1 ≤ mc) (hsl : slots + 6 ≤ ms) (hq : QX xIS n f) : SWr eX l D cy M d mc ms cells slots pc L st n f Q QX := sw_throw hl hM (by decide) kx_124 kx_IS hs kx_s1 kx_s2 kx_s3 d0 d3 d4 d6 d9 hd hr hc hsl hq
end SXT
def ruT (s : Nat → Int32) (x : Int32) : Int32 := if x < 0 ∨ 2000 < x then 1 else if s 2 = 0 then 2 else 0
def QX2 (n : Nat) (g : sw_F) (t : Int32) : sw_QX := fun E n' f' => n' = n ∧ f' = g ∧ ((E = xIA ∧ t = 1) ∨ (E = xIS ∧ t = 2))
theorem QX2_2 {n : Nat} {g : sw_F} {t : Int32} : ∀ E n' f', QX2 n g t E n' f' → E = xIA ∨ E = xIS := fun E n' f' h => h.2.2.elim (fun z => Or.inl z.1) (fun z => Or.inr z.1)
set_option maxRecDepth 100000 in
theorem c_X11_run {l : Launch} {D : va_G} {cy : Nat → ClassId} {d n : Nat} {f : sw_F} {s : Nat → Int32} {A : Nat → Nat → Int32} {B : Nat → Nat → Int64} {o : Int64} {pr : Value} (hl : l.stackTraces = false) (hd : 6 ≤ d) {C : Nat} (hC : s 12 = nI C) (hCb : C ≤ 100) (hI : ¬ s 2 = 0 → ∃ Inv : GS → Prop, (∀ m, Inv m → mok C (A 29) (A 30) m) ∧ (∀ m, Inv m → ¬ A 29 m.1 = 9 → Inv (gstep (A 29) (A 30) m)) ∧ Inv (exM A)) (x : Int32) : sw_CtX l D cy mX11_run d 1 6 [.ref 0, .int x] n (gd f s A B o pr) (fun r n' f' => ruT s x = 0 ∧ n' = n ∧ r = some (.int (gRet (crun (A 29) (A 30) x.toNatClampNeg 1 (exM A)))) ∧ f' = gd f (mS s (crun (A 29) (A 30) x.toNatClampNeg 1 (exM A)).2) (exA A (crun (A 29) (A 30) x.toNatClampNeg 1 (exM A))) B o pr) (QX2 n (gd f s A B o pr) (ruT s x)) := by
  refine sw_ofX rfl (Nat.le_of_ble_eq_true rfl) ?_
  show SWr eX l D cy mX11_run d 1 6 0 0 0 [(0, .ref 0), (1, .int x)] [] n (gd f s A B o pr) _ _
  refine sw_iload_n dX11_run_0 rfl ?_
  refine sw_if_lt 11 dX11_run_1 (by decide) (fun h1 => ?_) (fun h1 => ?_)
  · exact sx_IA (text := "0 to 2000 instructions can be run") hl rfl (by decide) dX11_run_11 dX11_run_14 dX11_run_15 dX11_run_17 dX11_run_20 (by omega) (Nat.le_of_ble_eq_true rfl) (by omega) (by omega) ⟨rfl, rfl, Or.inl ⟨rfl, if_pos (Or.inl h1)⟩⟩
  · refine sw_iload_n dX11_run_4 rfl ?_
    refine sw_sipush (x := 2000) dX11_run_5 (by decide) ?_
    refine sw_icmp_le 21 dX11_run_8 (by decide) (fun h8 => ?_) (fun h8 => ?_)
    · refine sw_aload_n dX11_run_21 rfl (by first | rfl | assumption) ?_
      refine sw_get dX11_run_22 fr_X11_102 rfl rfl ?_
      refine sw_if_ne 38 dX11_run_25 (by decide) (fun h25 => ?_) (fun h25 => ?_)
      · refine sw_aload_n dX11_run_38 rfl (by first | rfl | assumption) ?_
        refine sw_get dX11_run_39 fr_X11_86 rfl rfl ?_
        refine sw_aload_n dX11_run_42 rfl (by first | rfl | assumption) ?_
        refine sw_get dX11_run_43 fr_X11_23 rfl rfl ?_
        refine sw_iload_n dX11_run_46 rfl ?_
        obtain ⟨Inv, i1, i2, i3⟩ := hI h25
        obtain ⟨k, hk, rfl⟩ := nI_of2 (M := 2000) (n := 2000) (by decide) h1 h8
        refine sw_Vv dX11_run_47 k_X11_225 mf_X4_execute (c_X4_execute (d := d - 1) (by omega) hC hCb i1 i2 i3 hk) rfl ⟨_, rfl, rfl⟩ (by omega) (by omega) (by omega) rfl rfl (Nat.le_of_ble_eq_true rfl) ?_
        rw [nI_clamp (by omega)]
        exact sw_iret dX11_run_50 rfl rfl (by omega) (by omega) ⟨by rw [ruT, if_neg (fun z => z.elim h1 (fun z => absurd z (Int32.not_lt.mpr h8))), if_neg (show ¬ s 2 = 0 from h25)], rfl, rfl, rfl⟩
      · exact sx_IS (text := "the code is not accepted") hl rfl (by decide) dX11_run_28 dX11_run_31 dX11_run_32 dX11_run_34 dX11_run_37 (by omega) (Nat.le_of_ble_eq_true rfl) (by omega) (by omega) ⟨rfl, rfl, Or.inr ⟨rfl, by rw [ruT, if_neg (fun z => z.elim h1 (fun z => absurd z (Int32.not_lt.mpr h8))), if_pos (show s 2 = 0 from h25)]⟩⟩
    · exact sx_IA (text := "0 to 2000 instructions can be run") hl rfl (by decide) dX11_run_11 dX11_run_14 dX11_run_15 dX11_run_17 dX11_run_20 (by omega) (Nat.le_of_ble_eq_true rfl) (by omega) (by omega) ⟨rfl, rfl, Or.inl ⟨rfl, if_pos (Or.inr (Int32.not_le.mp h8))⟩⟩
def clT (w : Int64) (x : Int32) : Int32 := if 1 ≤ x ∧ x ≤ 6 then (if cord w x.toNatClampNeg = true then (if r_lat (cbit w) x.toNatClampNeg = true then 0 else 2) else 1) else 1
def lvA2 (A : Nat → Nat → Int32) (J : Nat → Int32) (lo hi k : Nat) : Nat → Nat → Int32 := va_up (va_up (va_up A 2 J) 3 (fillF (fun _ => nI lo) (A 3) k)) 4 (fillF (fun _ => nI hi) (A 4) k)
set_option maxRecDepth 100000 in
theorem l_X11_lv {l : Launch} {D : va_G} {cy : Nat → ClassId} {d n : Nat} {f : sw_F} {s : Nat → Int32} {A : Nat → Nat → Int32} {B : Nat → Nat → Int64} {pr : Value} (hd : 6 ≤ d) {N : Nat} {w : Int64} {J : Nat → Int32} {Q : sw_Q} {QX : sw_QX} (hq : Q (some (.int 1)) n (gd f (bS s N (cLo w N) (cHi w N)) (lvA2 A J (cLo w N) (cHi w N) (8)) B w pr)) : ∀ (k i : Nat), i ≤ 8 → 8 < i + k → SWr eX l D cy mX11_levels d 1 6 0 0 69 [(0, .ref 0), (1, .int (nI N)), (2, .long w), (4, .int (nI i))] [] n (gd f (bS s N (cLo w N) (cHi w N)) (lvA2 A J (cLo w N) (cHi w N) (i)) B w pr) Q QX := by
  intro k
  induction k with
  | zero => intro i0 h1 h2; exact absurd h2 (by omega)
  | succ k ih =>
    intro i he hk
    refine sw_iload dX11_levels_69 rfl ?_
    refine sw_bipush (x := 8) dX11_levels_71 (by decide) ?_
    refine sw_top nl_8 ?_
    refine sw_icmp_ge 110 dX11_levels_73 (by decide) (fun h73 => ?_) (fun h73 => ?_)
    · refine sw_iconst (x := 1) dX11_levels_110 (by decide) ?_
      exact sw_iret dX11_levels_111 rfl (by first | rfl | exact bz_n _) (by omega) (by omega) (by have e8 : i = 8 := (by have := (nI_leI (by omega) (by omega)).mp h73; omega); rw [e8]; exact hq)
    · have e1 : i < 8 := (nI_ltI (by omega) (by omega)).mp (i32_nle.mp h73)
      refine sw_aload_n dX11_levels_76 rfl (by first | rfl | assumption) ?_
      refine sw_get dX11_levels_77 fr_X11_16 rfl rfl ?_
      refine sw_iload dX11_levels_80 rfl ?_
      refine sw_aload_n dX11_levels_82 rfl (by first | rfl | assumption) ?_
      refine sw_get dX11_levels_83 fr_X11_10 rfl rfl ?_
      refine sw_Vv dX11_levels_86 k_X11_133 mf_X3_bottom (c_X3_bottom (d := d - 1)) rfl ⟨_, rfl, rfl⟩ (by omega) (by omega) (by omega) rfl rfl (Nat.le_of_ble_eq_true rfl) ?_
      refine sw_top (y := nI (cLo w N)) rfl ?_
      refine g_iast (i) dX11_levels_89 ⟨by decide, rfl, rfl⟩ rfl (show i < 8 by omega) rfl ?_
      refine sw_aload_n dX11_levels_90 rfl (by first | rfl | assumption) ?_
      refine sw_get dX11_levels_91 fr_X11_20 rfl rfl ?_
      refine sw_iload dX11_levels_94 rfl ?_
      refine sw_aload_n dX11_levels_96 rfl (by first | rfl | assumption) ?_
      refine sw_get dX11_levels_97 fr_X11_10 rfl rfl ?_
      refine sw_Vv dX11_levels_100 k_X11_137 mf_X3_top (c_X3_top (d := d - 1)) rfl ⟨_, rfl, rfl⟩ (by omega) (by omega) (by omega) rfl rfl (Nat.le_of_ble_eq_true rfl) ?_
      refine sw_top (y := nI (cHi w N)) rfl ?_
      refine g_iast (i) dX11_levels_103 ⟨by decide, rfl, rfl⟩ rfl (show i < 8 by omega) rfl ?_
      first | refine sw_inc1 [(0, _), (1, _), (2, _), (4, _)] dX11_levels_104 rfl (by decide) rfl ?_ | refine sw_iinc [(0, _), (1, _), (2, _), (4, _)] dX11_levels_104 rfl (by decide) rfl ?_
      refine sw_goto 69 dX11_levels_107 (by decide) ?_
      refine g_eq (A' := lvA2 A J (cLo w N) (cHi w N) (i + 1)) rfl ?_ rfl (ih (i + 1) (by omega) (by omega))
      unfold lvA2
      rw [vu_so _ (show 3 < 4 by decide), vu_up, vu_up, ← fill_1 (h := fun _ => nI (cLo w N)) (g := A 3) (k := i) rfl, ← fill_1 (h := fun _ => nI (cHi w N)) (g := A 4) (k := i) rfl]
      rfl
set_option maxRecDepth 100000 in
theorem c_X11_levels {l : Launch} {D : va_G} {cy : Nat → ClassId} {d n : Nat} {f : sw_F} {s : Nat → Int32} {A : Nat → Nat → Int32} {B : Nat → Nat → Int64} {o : Int64} {pr : Value} (hl : l.stackTraces = false) (hd : 6 ≤ d) (x : Int32) (w : Int64) : sw_CtX l D cy mX11_levels d 1 6 [.ref 0, .int x, .long w] n (gd f s A B o pr) (fun r n' f' => clT w x = 0 ∧ r = some (.int 1) ∧ n' = n ∧ ∃ N J, 0 < N ∧ N ≤ 6 ∧ x = nI N ∧ bJ w N N 0 J ∧ f' = gd f (bS s N (cLo w N) (cHi w N)) (lvA2 A J (cLo w N) (cHi w N) 8) B w pr) (QX2 n (gd f s A B o pr) (clT w x)) := by
  refine sw_ofX rfl (Nat.le_of_ble_eq_true rfl) ?_
  show SWr eX l D cy mX11_levels d 1 6 0 0 0 [(0, .ref 0), (1, .int x), (2, .long w)] [] n (gd f s A B o pr) _ _
  refine sw_iload_n dX11_levels_0 rfl ?_
  refine sw_iconst (x := 1) dX11_levels_1 (by decide) ?_
  refine sw_icmp_lt 11 dX11_levels_2 (by decide) (fun h2 => ?_) (fun h2 => ?_)
  · exact sx_IA (text := "there are 1 to 6 levels") hl rfl (by decide) dX11_levels_11 dX11_levels_14 dX11_levels_15 dX11_levels_17 dX11_levels_20 (by omega) (Nat.le_of_ble_eq_true rfl) (by omega) (by omega) ⟨rfl, rfl, Or.inl ⟨rfl, if_neg (fun z => absurd h2 (Int32.not_lt.mpr z.1))⟩⟩
  · refine sw_iload_n dX11_levels_5 rfl ?_
    refine sw_bipush (x := 6) dX11_levels_6 (by decide) ?_
    refine sw_icmp_le 21 dX11_levels_8 (by decide) (fun h8 => ?_) (fun h8 => ?_)
    · obtain ⟨N, hN, rfl⟩ := nI_of2 (M := 6) (n := 6) (by decide) (show ¬ x < 0 from fun z => h2 (Int32.lt_trans z (by decide))) h8
      have hN6 : N ≤ 6 := hN
      have hN0 : 0 < N := by rw [nl_1, nI_ltI (by omega) (by omega)] at h2; omega
      have hT0 : clT w (nI N) = if cord w N = true then (if r_lat (cbit w) N = true then 0 else 2) else 1 := by rw [clT, if_pos ⟨Int32.not_lt.mp h2, h8⟩, nI_clamp (by omega)]
      refine sw_iload_n dX11_levels_21 rfl ?_
      refine sw_lload_n dX11_levels_22 rfl ?_
      refine sw_Sv dX11_levels_23 k_X11_115 mf_X3_isOrder (c_X3_isOrder (d := d - 1) (by omega) hN6 w) (by omega) (by omega) (by omega) rfl rfl (Nat.le_of_ble_eq_true rfl) ?_
      refine sw_if_ne 39 dX11_levels_26 (by decide) (fun h26 => ?_) (fun h26 => ?_)
      · refine sw_iload_n dX11_levels_39 rfl ?_
        refine sw_lload_n dX11_levels_40 rfl ?_
        refine sw_Sv dX11_levels_41 k_X11_121 mf_X3_hasAllBounds (c_X3_hasAllBounds (d := d - 1) (by omega) hN6 w) (by omega) (by omega) (by omega) rfl rfl (Nat.le_of_ble_eq_true rfl) ?_
        refine sw_if_ne 57 dX11_levels_44 (by decide) (fun h44 => ?_) (fun h44 => ?_)
        · refine sw_aload_n dX11_levels_57 rfl (by first | rfl | assumption) ?_
          refine sw_get dX11_levels_58 fr_X11_10 rfl rfl ?_
          refine sw_iload_n dX11_levels_61 rfl ?_
          refine sw_lload_n dX11_levels_62 rfl ?_
          refine sw_callV dX11_levels_63 k_X11_129 mf_X3_become ⟨_, rfl, rfl⟩ rfl (c_X3_become (d := d - 1) (by omega) hN6 w) (by omega) ⟨by omega, by omega⟩ rfl rfl (Nat.le_of_ble_eq_true rfl) (fun r' nn f' hq hle => ?_)
          obtain ⟨hr', hn', J, hJ, hf'⟩ := hq
          subst hr'
          have hn' := hn'.symm
          subst hn'
          subst hf'
          refine g_eq (A' := lvA2 A J (cLo w N) (cHi w N) 0) rfl (by unfold lvA2; rw [fill_0, fill_0]; funext q; by_cases q4 : q = 4; rw [q4, vu_at]; rfl; rw [vu_ne _ q4]; by_cases q3 : q = 3; rw [q3, vu_at]; rfl; rw [vu_ne _ q3]) rfl ?_
          refine sw_iconst (x := 0) dX11_levels_66 (by decide) ?_
          refine sw_istore [(0, _), (1, _), (2, _), (4, _)] dX11_levels_67 (by decide) rfl ?_
          exact l_X11_lv hd ⟨by rw [hT0, if_pos (bz_ne.mp h26), if_pos (bz_ne.mp h44)], rfl, rfl, N, J, hN0, hN6, rfl, hJ, rfl⟩ 9 0 (by omega) (by omega)
        · exact sx_IS (text := "two levels have no join or no meet") hl rfl (by decide) dX11_levels_47 dX11_levels_50 dX11_levels_51 dX11_levels_53 dX11_levels_56 (by omega) (Nat.le_of_ble_eq_true rfl) (by omega) (by omega) ⟨rfl, rfl, Or.inr ⟨rfl, by rw [hT0, if_pos (bz_ne.mp h26), if_neg (by rw [bz_0.mp h44]; decide)]⟩⟩
      · exact sx_IA (text := "this is no order") hl rfl (by decide) dX11_levels_29 dX11_levels_32 dX11_levels_33 dX11_levels_35 dX11_levels_38 (by omega) (Nat.le_of_ble_eq_true rfl) (by omega) (by omega) ⟨rfl, rfl, Or.inl ⟨rfl, by rw [hT0, if_neg (by rw [bz_0.mp h26]; decide)]⟩⟩
    · exact sx_IA (text := "there are 1 to 6 levels") hl rfl (by decide) dX11_levels_11 dX11_levels_14 dX11_levels_15 dX11_levels_17 dX11_levels_20 (by omega) (Nat.le_of_ble_eq_true rfl) (by omega) (by omega) ⟨rfl, rfl, Or.inl ⟨rfl, if_neg (fun z => h8 z.2)⟩⟩
def cmS (s : Nat → Int32) (q : Nat) : Nat → Int32 := va_up (va_up (va_up (rS s q (-1)) 7 0) 1 (-1)) 0 1
def ceS (s : Nat → Int32) (q : Nat) : Nat → Int32 := va_up (va_up (rS s q (nI q)) 7 0) 1 (nI q)
def coS (s : Nat → Int32) (q k : Nat) : Nat → Int32 := va_up (va_up (va_up (cmS s q) 12 (nI k)) 2 1) 3 0
def CMt (n n' : Nat) (f f2 : sw_F) (s : Nat → Int32) (A A' : Nat → Nat → Int32) (w : Option RT × Nat) (t : RT) (v : Value) : Prop := w.1 = some t ∧ (∀ i, i < n → f2 i = f i) ∧ ndR f2 n n' t v ∧ e8 (A' 9) (flR (jT (A 2)) (s 5) t (s 5) (A 3)) ∧ FrP 0 A A'
def QCm (n : Nat) (f : sw_F) (s : Nat → Int32) (A : Nat → Nat → Int32) (B : Nat → Nat → Int64) (o : Int64) (w : Option RT × Nat) : sw_Q := fun r n' f' => n ≤ n' ∧ ∃ t v f2 A' K' E', CMt n n' f f2 s A A' w t v ∧ r = some (.int (nI (lnR t + 1))) ∧ f' = gd f2 (coS s w.2 (lnR t + 1)) (va_up (va_up A' 29 K') 30 E') B o v ∧ allF (kev s o (A' 9) (A 4)) 0 8 = true ∧ cdR K' E' t 0 ∧ K' (lnR t) = 9 ∧ E' (lnR t) = 0
def QCx (n : Nat) (f : sw_F) (s : Nat → Int32) (A : Nat → Nat → Int32) (B : Nat → Nat → Int64) (o : Int64) (pr : Value) (w : Option RT × Nat) : sw_QX := fun E n' f' => n ≤ n' ∧ ((E = xIA ∧ w.1 = none ∧ ∃ f2, f' = gd f2 (ceS s w.2) A B o pr ∧ ∀ i, i < n → f2 i = f i) ∨ (E = xIS ∧ ∃ t v f2 A', CMt n n' f f2 s A A' w t v ∧ f' = gd f2 (cmS s w.2) A' B o v ∧ allF (kev s o (A' 9) (A 4)) 0 8 = false))
theorem QCx_2 {n : Nat} {f : sw_F} {s : Nat → Int32} {A : Nat → Nat → Int32} {B : Nat → Nat → Int64} {o : Int64} {pr : Value} {w : Option RT × Nat} : ∀ E n' f', QCx n f s A B o pr w E n' f' → E = xIA ∨ E = xIS := fun E n' f' h => h.2.elim (fun z => Or.inl z.1) (fun z => Or.inr z.1)
set_option maxRecDepth 100000 in
theorem c_X11_compile {l : Launch} {D : va_G} {cy : Nat → ClassId} {d n : Nat} {f : sw_F} {s : Nat → Int32} {A : Nat → Nat → Int32} {B : Nat → Nat → Int64} {o : Int64} {pr : Value} (hl : l.stackTraces = false) (hd : 34 ≤ d) (hn : 187 ≤ n) {T : Nat} (hT : TC s (A 7) T) {N : Nat} (hs4 : s 4 = nI N) (hN : N ≤ 6) (hJ : SL N (jT (A 2))) (hb : lv N (s 5)) (hV : lv8 N (A 3)) : sw_CtX l D cy mX11_compile d 73 438 [.ref 0] n (gd f s A B o pr) (QCm n f s A B o (rdR (A 7) T)) (QCx n f s A B o pr (rdR (A 7) T)) := by
  refine sw_ofX rfl (Nat.le_of_ble_eq_true rfl) ?_
  show SWr eX l D cy mX11_compile d 73 438 0 0 0 [(0, .ref 0)] [] n (gd f s A B o pr) _ _
  refine sw_aload_n dX11_compile_0 rfl (by first | rfl | assumption) ?_
  refine sw_get dX11_compile_1 fr_X11_29 rfl rfl ?_
  refine sw_callV dX11_compile_4 k_X11_155 mf_X8_takeProgram ⟨_, rfl, rfl⟩ rfl (c_X8_takeProgram (d := d - 1) hT (by omega) hn) (by omega) ⟨by omega, by omega⟩ rfl rfl (Nat.le_of_ble_eq_true rfl) (fun r' n1 f' hq hle => ?_)
  generalize ew : rdR (A 7) T = w at hq
  obtain ⟨w1, q⟩ := w
  obtain ⟨hle1, hq⟩ := hq
  rcases hq with ⟨t, v, f2, e4, hr', hf', fr1, nd1⟩ | ⟨v, f2, e4, hr', hv, hf', fr1⟩
  · subst hr'
    subst hf'
    have e4 : w1 = some t := e4
    subst e4
    obtain ⟨wf, hsz, hqT⟩ := rdR_ok ew
    have dk := rd_dk (show (rdR (A 7) T).1 = some t by rw [ew])
    have hln := lnR_le t
    have hT2 := hT.2.1
    have hv := ndR_r t v nd1
    show SWr eX l D cy mX11_compile d 73 438 72 432 7 [(0, .ref 0)] [v] n1 (gd f2 (va_up (rS s q (-1)) 7 0) A B o pr) _ _
    refine sw_astore_n [(0, _), (1, _)] dX11_compile_7 (by first | rfl | assumption) (by decide) rfl ?_
    refine sw_aload_n dX11_compile_8 rfl (by first | rfl | assumption) ?_
    refine sw_aload_n dX11_compile_9 rfl (by first | rfl | assumption) ?_
    refine sw_get dX11_compile_10 fr_X11_29 rfl rfl ?_
    refine sw_Vv dX11_compile_13 k_X11_159 mf_X8_error (c_X8_error (d := d - 1)) rfl ⟨_, rfl, rfl⟩ (by omega) (by omega) (by omega) rfl rfl (Nat.le_of_ble_eq_true rfl) ?_
    refine g_put 1 dX11_compile_16 fl_X11_98 rfl ⟨by decide, rfl⟩ rfl (Nat.le_of_ble_eq_true rfl) (sw_fit_i _) rfl ?_
    refine sw_aload_n dX11_compile_19 rfl (by first | rfl | assumption) ?_
    refine sw_get dX11_compile_20 fr_X11_98 rfl rfl ?_
    refine sw_iconst (x := (-1)) dX11_compile_23 (by decide) ?_
    refine sw_icmp_eq 37 dX11_compile_24 (by decide) (fun h24 => ?_) (fun h24 => ?_)
    · refine sw_aload_n dX11_compile_37 rfl (by first | rfl | assumption) ?_
      refine sw_aload_n dX11_compile_38 rfl (by first | rfl | assumption) ?_
      refine g_putP dX11_compile_39 fl_X11_90 (sw_fit_or (by first | rfl | assumption)) ?_
      refine sw_aload_n dX11_compile_42 rfl (by first | rfl | assumption) ?_
      refine sw_iconst (x := 1) dX11_compile_43 (by decide) ?_
      refine g_put 0 dX11_compile_44 fl_X11_94 rfl ⟨by decide, rfl⟩ rfl (Nat.le_of_ble_eq_true rfl) (by first | exact sw_fit_z0 | exact sw_fit_z1 | exact sw_fit_z _) rfl ?_
      refine sw_aload_n dX11_compile_47 rfl (by first | rfl | assumption) ?_
      refine sw_get dX11_compile_48 fr_X11_38 rfl rfl ?_
      refine sw_aload_n dX11_compile_51 rfl (by first | rfl | assumption) ?_
      refine sw_aload_n dX11_compile_52 rfl (by first | rfl | assumption) ?_
      refine sw_get dX11_compile_53 fr_X11_16 rfl rfl ?_
      show SWr eX l D cy mX11_compile d 73 438 72 432 56 [(0, .ref 0), (1, v)] [.ref 3, v, .ref 8] n1 (gd f2 (cmS s q) A B o v) _ _
      refine sw_callV dX11_compile_56 k_X11_164 mf_X7_workOut ⟨_, rfl, rfl⟩ rfl (c_X7_workOut (d := d - 1) (s := cmS s q) hs4 hN hJ hb rfl (by omega) (by omega) wf dk nd1 hV) (by omega) ⟨by omega, by omega⟩ rfl rfl (Nat.le_of_ble_eq_true rfl) (fun r' nn f' hq hle => ?_)
      obtain ⟨hr', hn', A', hf', he8, hFr⟩ := hq
      subst hr'
      subst hf'
      have hn' := hn'.symm
      subst hn'
      have e4 : A' 4 = A 4 := hFr 4 (by decide) (by decide) (by decide)
      show SWr eX l D cy mX11_compile d 73 438 72 432 59 [(0, .ref 0), (1, v)] [] n1 (gd f2 (cmS s q) A' B o v) _ _
      refine sw_aload_n dX11_compile_59 rfl (by first | rfl | assumption) ?_
      refine sw_get dX11_compile_60 fr_X11_38 rfl rfl ?_
      refine sw_aload_n dX11_compile_63 rfl (by first | rfl | assumption) ?_
      refine sw_get dX11_compile_64 fr_X11_20 rfl rfl ?_
      refine sw_Vv dX11_compile_67 k_X11_168 mf_X7_keepTo (c_X7_keepTo (d := d - 1) (by omega)) rfl ⟨_, rfl, rfl⟩ (by omega) (by omega) (by omega) rfl rfl (Nat.le_of_ble_eq_true rfl) ?_
      refine sw_if_ne 83 dX11_compile_70 (by decide) (fun h70 => ?_) (fun h70 => ?_)
      · refine sw_aload_n dX11_compile_83 rfl (by first | rfl | assumption) ?_
        refine sw_get dX11_compile_84 fr_X11_52 rfl rfl ?_
        refine sw_aload_n dX11_compile_87 rfl (by first | rfl | assumption) ?_
        refine sw_callV dX11_compile_88 k_X11_174 mf_X0_become ⟨_, rfl, rfl⟩ rfl (c_X0_become (d := d - 1) (s := cmS s q) (by omega) (by omega) wf dk (by omega) nd1) (by omega) ⟨by omega, by omega⟩ rfl rfl (Nat.le_of_ble_eq_true rfl) (fun r' nn f' hq hle => ?_)
        obtain ⟨hr', hn', K', E', hf', hcd, hK9, hE0⟩ := hq
        subst hr'
        subst hf'
        have hn' := hn'.symm
        subst hn'
        show SWr eX l D cy mX11_compile d 73 438 72 432 91 [(0, .ref 0), (1, v)] [] n1 (gd f2 (va_up (cmS s q) 12 (nI (lnR t + 1))) (va_up (va_up A' 29 K') 30 E') B o v) _ _
        refine sw_aload_n dX11_compile_91 rfl (by first | rfl | assumption) ?_
        refine sw_iconst (x := 1) dX11_compile_92 (by decide) ?_
        refine g_put 2 dX11_compile_93 fl_X11_102 rfl ⟨by decide, rfl⟩ rfl (Nat.le_of_ble_eq_true rfl) (by first | exact sw_fit_z0 | exact sw_fit_z1 | exact sw_fit_z _) rfl ?_
        refine sw_aload_n dX11_compile_96 rfl (by first | rfl | assumption) ?_
        refine sw_iconst (x := 0) dX11_compile_97 (by decide) ?_
        refine g_put 3 dX11_compile_98 fl_X11_105 rfl ⟨by decide, rfl⟩ rfl (Nat.le_of_ble_eq_true rfl) (by first | exact sw_fit_z0 | exact sw_fit_z1 | exact sw_fit_z _) rfl ?_
        refine sw_aload_n dX11_compile_101 rfl (by first | rfl | assumption) ?_
        refine sw_get dX11_compile_102 fr_X11_52 rfl rfl ?_
        refine sw_Vv dX11_compile_105 k_X11_177 mf_X0_size (c_X0_size (d := d - 1)) rfl ⟨_, rfl, rfl⟩ (by omega) (by omega) (by omega) rfl rfl (Nat.le_of_ble_eq_true rfl) ?_
        exact sw_iret dX11_compile_108 rfl (by first | rfl | exact bz_n _) (by omega) (by omega) ⟨hle1, t, v, f2, A', K', E', ⟨rfl, fr1, nd1, he8, hFr⟩, rfl, rfl, by have z := bz_ne.mp h70; rw [e4] at z; exact z, hcd, hK9, hE0⟩
      · exact sx_IS (text := "an exit label is above its policy") hl rfl (by decide) dX11_compile_73 dX11_compile_76 dX11_compile_77 dX11_compile_79 dX11_compile_82 (by omega) (Nat.le_of_ble_eq_true rfl) (by omega) (by omega) ⟨hle1, Or.inr ⟨rfl, t, v, f2, A', ⟨rfl, fr1, nd1, he8, hFr⟩, rfl, by have z := bz_0.mp h70; rw [e4] at z; exact z⟩⟩
    · exact absurd rfl h24
  · subst hr'
    subst hf'
    have e4 : w1 = none := e4
    subst e4
    have hT2 := hT.2.1
    have hqT : q ≤ T := by
      have z := (pR_le (TX := A 7) (T := T) 100 0 0 (Nat.zero_le T)).2.1
      unfold rdR at ew
      revert z ew
      generalize pR (A 7) T 100 0 0 = w9
      obtain ⟨w9, q9⟩ := w9
      intro ew z
      have e9 : q9 = q := by
        cases w9 with
        | none => exact congrArg Prod.snd ew
        | some t9 =>
          have ew : (if q9 = T then (some t9, q9) else (none, q9) : Option RT × Nat) = (none, q) := ew
          split at ew <;> exact congrArg Prod.snd ew
      rw [← e9]; exact z
    show SWr eX l D cy mX11_compile d 73 438 72 432 7 [(0, .ref 0)] [v] n1 (gd f2 (va_up (rS s q (nI q)) 7 0) A B o pr) _ _
    refine sw_astore_n [(0, _), (1, _)] dX11_compile_7 (by first | rfl | assumption) (by decide) rfl ?_
    refine sw_aload_n dX11_compile_8 rfl (by first | rfl | assumption) ?_
    refine sw_aload_n dX11_compile_9 rfl (by first | rfl | assumption) ?_
    refine sw_get dX11_compile_10 fr_X11_29 rfl rfl ?_
    refine sw_Vv dX11_compile_13 k_X11_159 mf_X8_error (c_X8_error (d := d - 1)) rfl ⟨_, rfl, rfl⟩ (by omega) (by omega) (by omega) rfl rfl (Nat.le_of_ble_eq_true rfl) ?_
    refine g_put 1 dX11_compile_16 fl_X11_98 rfl ⟨by decide, rfl⟩ rfl (Nat.le_of_ble_eq_true rfl) (sw_fit_i _) rfl ?_
    refine sw_aload_n dX11_compile_19 rfl (by first | rfl | assumption) ?_
    refine sw_get dX11_compile_20 fr_X11_98 rfl rfl ?_
    refine sw_iconst (x := (-1)) dX11_compile_23 (by decide) ?_
    refine sw_icmp_eq 37 dX11_compile_24 (by decide) (fun h24 => ?_) (fun h24 => ?_)
    · exact absurd (show nI q = -1 from h24) (fun z => absurd (show nI q < 0 by rw [z]; decide) (i32_nlt0 (by omega)))
    · exact sx_IA (text := "the text is no program") hl rfl (by decide) dX11_compile_27 dX11_compile_30 dX11_compile_31 dX11_compile_33 dX11_compile_36 (by omega) (Nat.le_of_ble_eq_true rfl) (by omega) (by omega) ⟨hle1, Or.inl ⟨rfl, rfl, f2, rfl, fr1⟩⟩
def vfS (s : Nat → Int32) (W : CW) (r : Int32) : Nat → Int32 := va_up (va_up (hwS (fgS s) W) 3 1) 14 r
def vfA (A : Nat → Nat → Int32) (W : CW) (S' Qu : Nat → Int32) (Y : Nat → Nat → Int32) (V L : Nat → Int32) : Nat → Nat → Int32 := laA (va_up (va_up (hwA A W) 34 S') 42 Qu) Y V L
def vfQ (s : Nat → Int32) (A : Nat → Nat → Int32) (o : Int64) (C N : Nat) (W : CW) (Y : Nat → Nat → Int32) (b : Bool) : Prop := SH (VA (A 29) (A 30)) C ∧ HL (VA (A 29) (A 30)) C W.1 ∧ W.2.2 + unh W.1 C = C ∧ LSo N (J2 A) (A 29) (A 30) W.1 (A 3) C Y ∧ LU N (J2 A) (A 29) (A 30) W.1 (A 3) C Y ∧ allF (kek s o (A 29) W.1 (A 4) Y) 0 C = b
def QVf (n : Nat) (f : sw_F) (s : Nat → Int32) (A : Nat → Nat → Int32) (o : Int64) (pr : Value) (C N : Nat) : sw_Q := fun r n' f' => n' = n ∧ ∃ W S' Qu Y V L r1 B', r = some (.int (nI W.2.2)) ∧ f' = gd f (va_up (vfS s W r1) 2 1) (vfA A W S' Qu Y V L) B' o pr ∧ vfQ s A o C N W Y true
def QVx (n : Nat) (f : sw_F) (s : Nat → Int32) (A : Nat → Nat → Int32) (B : Nat → Nat → Int64) (o : Int64) (pr : Value) (C N : Nat) : sw_QX := fun E n' f' => n' = n ∧ ((E = xIA ∧ ¬ SH (VA (A 29) (A 30)) C ∧ ∃ W S', f' = gd f (hwS (fgS s) W) (va_up (hwA A W) 34 S') B o pr) ∨ (E = xIS ∧ ∃ W S' Qu Y V L r1 B', f' = gd f (vfS s W r1) (vfA A W S' Qu Y V L) B' o pr ∧ vfQ s A o C N W Y false))
theorem QVx_2 {n : Nat} {f : sw_F} {s : Nat → Int32} {A : Nat → Nat → Int32} {B : Nat → Nat → Int64} {o : Int64} {pr : Value} {C N : Nat} : ∀ E n' f', QVx n f s A B o pr C N E n' f' → E = xIA ∨ E = xIS := fun E n' f' h => h.2.elim (fun z => Or.inl z.1) (fun z => Or.inr z.1)
set_option maxRecDepth 100000 in
theorem c_X11_verify {l : Launch} {D : va_G} {cy : Nat → ClassId} {d n : Nat} {f : sw_F} {s : Nat → Int32} {A : Nat → Nat → Int32} {B : Nat → Nat → Int64} {o : Int64} {pr : Value} (hl : l.stackTraces = false) (hd : 6 ≤ d) {N : Nat} (hs4 : s 4 = nI N) (hN : N ≤ 6) (hJ : SL N (J2 A)) {C : Nat} (hC : s 12 = nI C) (hCb : C ≤ 100) {R : Nat} (hR : s 13 = nI R) (hen : ∀ v, v < 8 → lv N (A 3 v)) (hb : lv N (s 5)) (hbo : ∀ x, lv N x → jle (J2 A) (s 5) x) : sw_CtX l D cy mX11_verify d 1 6 [.ref 0] n (gd f s A B o pr) (QVf n f s A o pr C N) (QVx n f s A B o pr C N) := by
  refine sw_ofX rfl (Nat.le_of_ble_eq_true rfl) ?_
  show SWr eX l D cy mX11_verify d 1 6 0 0 0 [(0, .ref 0)] [] n (gd f s A B o pr) _ _
  refine sw_aload_n dX11_verify_0 rfl (by first | rfl | assumption) ?_
  refine sw_Vn dX11_verify_1 k_X11_194 mf_X11_forgetChecks (c_X11_forgetChecks (d := d - 1)) rfl ⟨_, rfl, rfl⟩ (by omega) (by omega) (by omega) rfl rfl (Nat.le_of_ble_eq_true rfl) ?_
  refine sw_aload_n dX11_verify_4 rfl (by first | rfl | assumption) ?_
  refine sw_get dX11_verify_5 fr_X11_61 rfl rfl ?_
  refine sw_callV dX11_verify_8 k_X11_201 mf_X10_fits ⟨_, rfl, rfl⟩ rfl (c_X10_fits (d := d - 1) (s := fgS s) (by omega) hC hCb hR) (by omega) ⟨by omega, by omega⟩ rfl rfl (Nat.le_of_ble_eq_true rfl) (fun r' nn f' hq hle => ?_)
  obtain ⟨hn', b, W, S', hr', hf', hSH, hb2⟩ := hq
  subst hr'
  subst hf'
  have hn' := hn'.symm
  subst hn'
  show SWr eX l D cy mX11_verify d 1 6 0 0 11 [(0, .ref 0)] [.int (bz b)] n (gd f (hwS (fgS s) W) (va_up (hwA A W) 34 S') B o pr) _ _
  refine sw_if_ne 24 dX11_verify_11 (by decide) (fun h11 => ?_) (fun h11 => ?_)
  · have hbt := bz_ne.mp h11
    have hS := hSH.mp hbt
    obtain ⟨hHL, hcnt⟩ := hb2 hbt
    have hPL := r_pl_iff.mp hS.1
    refine sw_aload_n dX11_verify_24 rfl (by first | rfl | assumption) ?_
    refine sw_iconst (x := 1) dX11_verify_25 (by decide) ?_
    refine g_put 3 dX11_verify_26 fl_X11_105 rfl ⟨by decide, rfl⟩ rfl (Nat.le_of_ble_eq_true rfl) (by first | exact sw_fit_z0 | exact sw_fit_z1 | exact sw_fit_z _) rfl ?_
    refine sw_aload_n dX11_verify_29 rfl (by first | rfl | assumption) ?_
    refine sw_get dX11_verify_30 fr_X11_70 rfl rfl ?_
    refine sw_callV dX11_verify_33 k_X11_207 mf_X9_workOut ⟨_, rfl, rfl⟩ rfl (c_X9_workOut (d := d - 1) (s := va_up (hwS (fgS s) W) 3 1) (A := va_up (hwA A W) 34 S') (by omega) hC hCb hHL) (by omega) ⟨by omega, by omega⟩ rfl rfl (Nat.le_of_ble_eq_true rfl) (fun r' nn f' hq hle => ?_)
    obtain ⟨hr', hn', B', Qu, r1, hf', hRG⟩ := hq
    subst hr'
    subst hf'
    have hn' := hn'.symm
    subst hn'
    show SWr eX l D cy mX11_verify d 1 6 0 0 36 [(0, .ref 0)] [] n (gd f (vfS s W r1) (va_up (va_up (hwA A W) 34 S') 42 Qu) B' o pr) _ _
    refine sw_aload_n dX11_verify_36 rfl (by first | rfl | assumption) ?_
    refine sw_get dX11_verify_37 fr_X11_79 rfl rfl ?_
    refine sw_aload_n dX11_verify_40 rfl (by first | rfl | assumption) ?_
    refine sw_get dX11_verify_41 fr_X11_16 rfl rfl ?_
    refine sw_callV dX11_verify_44 k_X11_209 mf_X1_workOut ⟨_, rfl, rfl⟩ rfl (c_X1_workOut (d := d - 1) (s := vfS s W r1) (A := va_up (va_up (hwA A W) 34 S') 42 Qu) (by omega) hs4 hN hJ hC hCb hPL hHL hRG hen hb hbo) (by omega) ⟨by omega, by omega⟩ rfl rfl (Nat.le_of_ble_eq_true rfl) (fun r' nn f' hq hle => ?_)
    obtain ⟨hr', hn', Y, V, L, hf', hLS, hLU⟩ := hq
    subst hr'
    subst hf'
    have hn' := hn'.symm
    subst hn'
    show SWr eX l D cy mX11_verify d 1 6 0 0 47 [(0, .ref 0)] [] n (gd f (vfS s W r1) (vfA A W S' Qu Y V L) B' o pr) _ _
    refine sw_aload_n dX11_verify_47 rfl (by first | rfl | assumption) ?_
    refine sw_get dX11_verify_48 fr_X11_79 rfl rfl ?_
    refine sw_aload_n dX11_verify_51 rfl (by first | rfl | assumption) ?_
    refine sw_get dX11_verify_52 fr_X11_20 rfl rfl ?_
    refine sw_Vv dX11_verify_55 k_X11_212 mf_X1_keepTo (c_X1_keepTo (d := d - 1) (s := vfS s W r1) (A := va_up (va_up (hwA A W) 34 S') 42 Qu) (by omega) hC hCb) rfl ⟨_, rfl, rfl⟩ (by omega) (by omega) (by omega) rfl rfl (Nat.le_of_ble_eq_true rfl) ?_
    refine sw_if_ne 71 dX11_verify_58 (by decide) (fun h58 => ?_) (fun h58 => ?_)
    · refine sw_aload_n dX11_verify_71 rfl (by first | rfl | assumption) ?_
      refine sw_iconst (x := 1) dX11_verify_72 (by decide) ?_
      refine g_put 2 dX11_verify_73 fl_X11_102 rfl ⟨by decide, rfl⟩ rfl (Nat.le_of_ble_eq_true rfl) (by first | exact sw_fit_z0 | exact sw_fit_z1 | exact sw_fit_z _) rfl ?_
      refine sw_aload_n dX11_verify_76 rfl (by first | rfl | assumption) ?_
      refine sw_get dX11_verify_77 fr_X11_61 rfl rfl ?_
      refine sw_Vv dX11_verify_80 k_X11_215 mf_X10_reachedCount (c_X10_reachedCount (d := d - 1)) rfl ⟨_, rfl, rfl⟩ (by omega) (by omega) (by omega) rfl rfl (Nat.le_of_ble_eq_true rfl) ?_
      exact sw_iret dX11_verify_83 rfl (by first | rfl | exact bz_n _) (by omega) (by omega) ⟨rfl, W, S', Qu, Y, V, L, r1, B', rfl, rfl, hS, hHL, hcnt, hLS, hLU, bz_ne.mp h58⟩
    · exact sx_IS (text := "the code is not safe") hl rfl (by decide) dX11_verify_61 dX11_verify_64 dX11_verify_65 dX11_verify_67 dX11_verify_70 (by omega) (Nat.le_of_ble_eq_true rfl) (by omega) (by omega) ⟨rfl, Or.inr ⟨rfl, W, S', Qu, Y, V, L, r1, B', rfl, hS, hHL, hcnt, hLS, hLU, bz_0.mp h58⟩⟩
  · exact sx_IA (text := "the code has not its shape") hl rfl (by decide) dX11_verify_14 dX11_verify_17 dX11_verify_18 dX11_verify_20 dX11_verify_23 (by omega) (Nat.le_of_ble_eq_true rfl) (by omega) (by omega) ⟨rfl, Or.inl ⟨rfl, fun z => absurd (hSH.mpr z) (by rw [bz_0.mp h11]; decide), W, S', rfl⟩⟩
