/-! ===== THE CLASS: CodeLabels, workOut ===== -/
def WI (N : Nat) (J : Int32 → Int32 → Int32) (K E W en : Nat → Int32) (C : Nat) (Y : Nat → Nat → Int32) (V : Nat → Int32) : Prop := YL N C Y ∧ LU N J K E W en C Y ∧ (∀ v, v < 8 → jle J (en v) (Y 0 v)) ∧ (∀ k, k < C → 0 ≤ W k → V k = 0 → LD J K E W C Y k) ∧ ∀ k, k < C → ¬ V k = 0 → 0 ≤ W k
theorem LD_up {N : Nat} {J : Int32 → Int32 → Int32} {K E W : Nat → Int32} {C : Nat} (hJ : SL N J) {Y Y' : Nat → Nat → Int32} (hY : YL N C Y) (hY' : YL N C Y') {k h : Nat} (hk : k < C) (h8 : h ≤ 8) (hh : W k = nI h) (hK : KN K E W C k h) (hrow : ∀ a, a < 17 → Y' k a = Y k a) (hle : ∀ j a, j < C → a < 17 → jle J (Y j a) (Y' j a)) (h : LD J K E W C Y k) : LD J K E W C Y' k := by
  have hhn := hn_n h8 hh
  have hv8 : K k = 1 ∨ K k = 2 → (E k).toNatClampNeg < 8 := fun c => by obtain ⟨v, hv, e⟩ := hK.1 c; rw [e, nI_clamp (by omega)]; exact hv
  refine ⟨fun w hw t ht et a ha hne => ?_, fun h7 m hm hg => ?_⟩
  · obtain ⟨g, g8, eg, _⟩ := hK.2.2.2.2.2 w hw t ht et
    have ha17 : a < 17 := by have := hn_n g8 eg; omega
    have z := h.1 w hw t ht et a ha hne
    rw [hhn] at z ⊢
    rw [lft_cg hv8 h8 hK.2.2.1 hK.2.2.2.1 hrow a ha17]
    exact jle_tr hJ (lft_lv hJ (fun a ha => hY k a hk ha) h8 hv8 hK.2.2.1 hK.2.2.2.1 a ha17) (hY t a ht ha17) (hY' t a ht ha17) z (hle t a ht ha17)
  · have h1 := hK.2.2.2.2.1 h7
    have z := h.2 h7 m hm hg
    rw [hhn] at z ⊢
    rw [hrow _ (by omega)]
    exact jle_tr hJ (hY k _ hk (by omega)) (hY m 8 hm (by omega)) (hY' m 8 hm (by omega)) z (hle m 8 hm (by omega))
theorem WI_pass {N : Nat} {J : Int32 → Int32 → Int32} {K E W en : Nat → Int32} {C : Nat} (hC : C ≤ 100) (hC0 : 0 < C) (hJ : SL N J) (hp : PL (VA K E) C) (hW : HL (VA K E) C W) (hen : ∀ v, v < 8 → lv N (en v)) {Y Y' : Nat → Nat → Int32} {V V' : Nat → Int32} {k : Nat} (hI : WI N J K E W en C Y V) (hR : RR N J C W Y (upd V k 0) Y' V') (hU : LU N J K E W en C Y') (hL : V' k = 0 → LD J K E W C Y' k) : WI N J K E W en C Y' V' := by
  refine ⟨hR.1, hU, fun v hv => jle_tr hJ (hen v hv) (hI.1 0 v hC0 (by omega)) (hR.1 0 v hC0 (by omega)) (hI.2.2.1 v hv) (hR.2.1 0 v hC0 (by omega)), fun j hj j0 hv => ?_, fun j hj hv => ?_⟩
  · by_cases u : j = k
    · subst u; exact hL hv
    · have z := hR.2.2.1 j hj hv
      rw [upd_ne _ _ u] at z
      obtain ⟨h, h8, hh⟩ : ∃ h, h ≤ 8 ∧ W j = nI h := by
        rcases hW.2.1 j hj with y | y
        · rw [y] at j0; exact absurd j0 (by decide)
        · exact y
      exact LD_up hJ hI.1 hR.1 hj h8 hh (KN_of hC hp hW hj h8 hh) z.2 hR.2.1 (hI.2.2.2.1 j hj j0 z.1)
  · rcases hR.2.2.2.2 j hj hv with z | z
    · by_cases u : j = k
      · subst u; rw [upd_at] at z; exact absurd rfl z
      · rw [upd_ne _ _ u] at z; exact hI.2.2.2.2 j hj z
    · exact z
set_option maxRecDepth 100000 in
theorem l_X1_w3 {l : Launch} {D : va_G} {cy : Nat → ClassId} {d n : Nat} {f : sw_F} {s : Nat → Int32} {A : Nat → Nat → Int32} {B : Nat → Nat → Int64} {o : Int64} {pr : Value} (hd : 5 ≤ d) {N : Nat} (hs : s 4 = nI N) (hN : N ≤ 6) (hJ : SL N (J2 A)) {C : Nat} (hC : s 12 = nI C) (hCb : C ≤ 100) (hp : PL (VA (A 29) (A 30)) C) (hW : HL (VA (A 29) (A 30)) C (A 32)) (hRG : ∀ j, j < C → 0 ≤ A 32 j → A 29 j = 7 → ∀ m, m < C → (msk B 39 j m = true ↔ RG (VA (A 29) (A 30)) C (RGB (VA (A 29) (A 30)) C (A 32) j) j m)) (hen : ∀ v, v < 8 → lv N (A 3 v)) {r p0 : Nat} {Q : sw_Q} {QX : sw_QX} (K : ∀ (ag : Bool) (Y : Nat → Nat → Int32) (V L : Nat → Int32), WI N (J2 A) (A 29) (A 30) (A 32) (A 3) C Y V → phi N (J2 A) C Y V ≤ p0 → (ag = true → phi N (J2 A) C Y V < p0) → (ag = false → ∀ j, j < C → V j = 0) → SW l D cy mX1_workOut d 0 0 0 0 149 [(0, .ref 43), (1, .ref 3), (2, .int (bz (ag))), (3, .int (nI (r)))] [] n (gd f s (laA A Y V L) B o pr) Q QX) : ∀ (c k : Nat) (ag : Bool) (Y : Nat → Nat → Int32) (V L : Nat → Int32), k ≤ C → C < k + c → WI N (J2 A) (A 29) (A 30) (A 32) (A 3) C Y V → phi N (J2 A) C Y V ≤ p0 → (ag = true → phi N (J2 A) C Y V < p0) → (ag = false → ∀ j, j < k → V j = 0) → SW l D cy mX1_workOut d 0 0 0 0 113 [(0, .ref 43), (1, .ref 3), (2, .int (bz (ag))), (3, .int (nI (r))), (4, .int (nI (k)))] [] n (gd f s (laA A Y V L) B o pr) Q QX := by
  intro c
  induction c with
  | zero => intro k ag Y V L h1 h2; exact absurd h2 (by omega)
  | succ c ih =>
    intro k ag Y V L hk hc hI hp1 hp2 hz
    refine sw_iload dX1_workOut_113 rfl ?_
    refine sw_aload_n dX1_workOut_115 rfl (by first | rfl | assumption) ?_
    refine sw_get dX1_workOut_116 fr_X1_24 rfl rfl ?_
    refine sw_Vv dX1_workOut_119 k_X1_40 mf_X0_size (c_X0_size (d := d - 1) (A := laA A Y V L)) rfl ⟨_, rfl, rfl⟩ (by omega) (by omega) (by omega) rfl rfl (Nat.le_of_ble_eq_true rfl) ?_
    refine sw_top (y := nI C) hC ?_
    refine sw_icmp_ge 149 dX1_workOut_122 (by decide) (fun h122 => ?_) (fun h122 => ?_)
    · refine sw_keep [0, 1, 2, 3] rfl ?_
      obtain rfl : k = C := by have := (nI_leI (by omega) (by omega)).mp h122; omega
      exact K ag Y V L hI hp1 hp2 hz
    · have e1 : k < C := (nI_ltI (by omega) (by omega)).mp (i32_nle.mp h122)
      refine sw_aload_n dX1_workOut_125 rfl (by first | rfl | assumption) ?_
      refine sw_get dX1_workOut_126 fr_X1_16 rfl rfl ?_
      refine sw_iload dX1_workOut_129 rfl ?_
      refine sw_zaldN (k) dX1_workOut_131 rfl rfl (show k < 100 by omega) (by decide) ?_
      refine sw_top (y := V k) rfl ?_
      refine sw_if_eq 143 dX1_workOut_132 (by decide) (fun h132 => ?_) (fun h132 => ?_)
      · first | refine sw_inc1 [(0, _), (1, _), (2, _), (3, _), (4, _)] dX1_workOut_143 rfl (by decide) rfl ?_ | skip
        refine sw_goto 113 dX1_workOut_146 (by decide) ?_
        refine ih (k + 1) ag Y V L (by omega) (by omega) hI hp1 hp2 (fun h j hj => ?_)
        by_cases u : j = k
        · subst u; exact h132
        · exact hz h j (by omega)
      · refine sw_aload_n dX1_workOut_135 rfl (by first | rfl | assumption) ?_
        refine sw_iload dX1_workOut_136 rfl ?_
        have k0 := hI.2.2.2.2 k e1 h132
        obtain ⟨h, h8, hh⟩ : ∃ h, h ≤ 8 ∧ A 32 k = nI h := by
          rcases hW.2.1 k e1 with y | y
          · rw [y] at k0; exact absurd k0 (by decide)
          · exact y
        refine sw_callV dX1_workOut_138 k_X1_62 mf_X1_pass ⟨_, rfl, rfl⟩ rfl (c_X1_pass (d := d - 1) (by omega) hs hN hJ hC hCb hp hW hRG hI.1 hI.2.1 e1 h8 hh) (by omega) ⟨by omega, by omega⟩ rfl rfl (Nat.le_of_ble_eq_true rfl) (fun r' n' f' hq _ => ?_)
        obtain ⟨hr', hn', Y2, V2, L2, hf', R2, U2, D2⟩ := hq
        have hn' := hn'.symm
        subst hn'
        subst hr'
        subst hf'
        have I2 := WI_pass hCb hp.1 hJ hp hW hen hI R2 U2 D2
        have ph := phi_0 (N := N) (J := (J2 A)) (Y := Y) e1 h132
        have ph2 := R2.2.2.2.1
        show SW l D cy mX1_workOut d 0 0 0 0 141 [(0, .ref 43), (1, .ref 3), (2, .int (bz (ag))), (3, .int (nI (r))), (4, .int (nI (k)))] [] n (gd f s (laA A Y2 V2 L2) B o pr) _ _
        refine sw_iconst (x := 1) dX1_workOut_141 (by decide) ?_
        refine sw_istore_n [(0, _), (1, _), (2, _), (3, _), (4, _)] dX1_workOut_142 (by decide) rfl ?_
        first | refine sw_inc1 [(0, _), (1, _), (2, _), (3, _), (4, _)] dX1_workOut_143 rfl (by decide) rfl ?_ | refine sw_iinc [(0, _), (1, _), (2, _), (3, _), (4, _)] dX1_workOut_143 rfl (by decide) rfl ?_
        refine sw_goto 113 dX1_workOut_146 (by decide) ?_
        exact ih (k + 1) true Y2 V2 L2 (by omega) (by omega) I2 (by omega) (fun _ => by omega) (fun h => Bool.noConfusion h)
set_option maxRecDepth 100000 in
theorem l_X1_w2 {l : Launch} {D : va_G} {cy : Nat → ClassId} {d n : Nat} {f : sw_F} {s : Nat → Int32} {A : Nat → Nat → Int32} {B : Nat → Nat → Int64} {o : Int64} {pr : Value} (hd : 5 ≤ d) {N : Nat} (hs : s 4 = nI N) (hN : N ≤ 6) (hJ : SL N (J2 A)) {C : Nat} (hC : s 12 = nI C) (hCb : C ≤ 100) (hp : PL (VA (A 29) (A 30)) C) (hW : HL (VA (A 29) (A 30)) C (A 32)) (hRG : ∀ j, j < C → 0 ≤ A 32 j → A 29 j = 7 → ∀ m, m < C → (msk B 39 j m = true ↔ RG (VA (A 29) (A 30)) C (RGB (VA (A 29) (A 30)) C (A 32) j) j m)) (hen : ∀ v, v < 8 → lv N (A 3 v)) {QX : sw_QX} : ∀ (c r : Nat) (ag : Bool) (Y : Nat → Nat → Int32) (V L : Nat → Int32), r + c = 1000001 → WI N (J2 A) (A 29) (A 30) (A 32) (A 3) C Y V → (ag = false → (∀ j, j < C → V j = 0) ∧ 0 < c) → (ag = true → phi N (J2 A) C Y V + 1 < c) → SW l D cy mX1_workOut d 0 0 0 0 98 [(0, .ref 43), (1, .ref 3), (2, .int (bz (ag))), (3, .int (nI (r)))] [] n (gd f s (laA A Y V L) B o pr) (fun r' n' f' => r' = none ∧ n' = n ∧ ∃ Y' V' L', f' = (gd f s (laA A Y' V' L') B o pr) ∧ LSo N (J2 A) (A 29) (A 30) (A 32) (A 3) C Y' ∧ LU N (J2 A) (A 29) (A 30) (A 32) (A 3) C Y') QX := by
  intro c
  induction c with
  | zero =>
    intro r ag Y V L hr hI hz hp1
    cases ag with
    | false => exact absurd (hz rfl).2 (by omega)
    | true => exact absurd (hp1 rfl) (by omega)
  | succ c ih =>
    intro r ag Y V L hr hI hz hp1
    cases ag with
    | false =>
      refine sw_iload_n dX1_workOut_98 rfl ?_
      refine sw_ldc dX1_workOut_99 k_c_X1_61 ?_
      refine sw_icmp_ge 155 dX1_workOut_101 (by decide) (fun h101 => ?_) (fun h101 => ?_)
      · exact sw_vret dX1_workOut_155 rfl (by omega) (by omega) ⟨rfl, rfl, Y, V, L, rfl, ⟨hI.1, hI.2.2.1, fun k hk k0 => hI.2.2.2.1 k hk k0 ((hz rfl).1 k hk)⟩, hI.2.1⟩
      · refine sw_iload_n dX1_workOut_104 rfl ?_
        refine sw_if_eq 155 dX1_workOut_105 (by decide) (fun h105 => ?_) (fun h105 => ?_)
        · exact sw_vret dX1_workOut_155 rfl (by omega) (by omega) ⟨rfl, rfl, Y, V, L, rfl, ⟨hI.1, hI.2.2.1, fun k hk k0 => hI.2.2.2.1 k hk k0 ((hz rfl).1 k hk)⟩, hI.2.1⟩
        · exact absurd rfl h105
    | true =>
      have hp2 := hp1 rfl
      refine sw_iload_n dX1_workOut_98 rfl ?_
      refine sw_ldc dX1_workOut_99 k_c_X1_61 ?_
      refine sw_top nl_1000000 ?_
      refine sw_icmp_ge 155 dX1_workOut_101 (by decide) (fun h101 => ?_) (fun h101 => ?_)
      · exact absurd h101 (by rw [nI_leI (by omega) (by omega)]; omega)
      · refine sw_iload_n dX1_workOut_104 rfl ?_
        refine sw_if_eq 155 dX1_workOut_105 (by decide) (fun h105 => ?_) (fun h105 => ?_)
        · exact absurd h105 (by decide)
        · refine sw_iconst (x := 0) dX1_workOut_108 (by decide) ?_
          refine sw_istore_n [(0, _), (1, _), (2, _), (3, _)] dX1_workOut_109 (by decide) rfl ?_
          refine sw_iconst (x := 0) dX1_workOut_110 (by decide) ?_
          refine sw_istore [(0, _), (1, _), (2, _), (3, _), (4, _)] dX1_workOut_111 (by decide) rfl ?_
          refine l_X1_w3 (r := r) (p0 := phi N (J2 A) C Y V) hd hs hN hJ hC hCb hp hW hRG hen (fun ag Y2 V2 L2 I2 q1 q2 q3 => ?_) (C + 1) 0 false Y V L (by omega) (by omega) hI (Nat.le_refl _) (fun h => Bool.noConfusion h) (fun _ j hj => absurd hj (by omega))
          first | refine sw_inc1 [(0, _), (1, _), (2, _), (3, _)] dX1_workOut_149 rfl (by decide) rfl ?_ | refine sw_iinc [(0, _), (1, _), (2, _), (3, _)] dX1_workOut_149 rfl (by decide) rfl ?_
          refine sw_goto 98 dX1_workOut_152 (by decide) ?_
          exact ih (r + 1) ag Y2 V2 L2 (by omega) I2 (fun h => ⟨q3 h, by omega⟩) (fun h => by have := q2 h; omega)
set_option maxRecDepth 100000 in
theorem l_X1_w1 {l : Launch} {D : va_G} {cy : Nat → ClassId} {d n : Nat} {f : sw_F} {s : Nat → Int32} {A : Nat → Nat → Int32} {B : Nat → Nat → Int64} {o : Int64} {pr : Value} (hd : 5 ≤ d) {N : Nat} (hs : s 4 = nI N) (hN : N ≤ 6) (hJ : SL N (J2 A)) {C : Nat} (hC : s 12 = nI C) (hCb : C ≤ 100) (hp : PL (VA (A 29) (A 30)) C) (hW : HL (VA (A 29) (A 30)) C (A 32)) (hRG : ∀ j, j < C → 0 ≤ A 32 j → A 29 j = 7 → ∀ m, m < C → (msk B 39 j m = true ↔ RG (VA (A 29) (A 30)) C (RGB (VA (A 29) (A 30)) C (A 32) j) j m)) (hen : ∀ v, v < 8 → lv N (A 3 v)) {L : Nat → Int32} {QX : sw_QX} : ∀ (c v : Nat) (Y : Nat → Nat → Int32) (V : Nat → Int32), v ≤ 8 → 8 < v + c → YL N C Y → LU N (J2 A) (A 29) (A 30) (A 32) (A 3) C Y → (∀ u, u < v → jle (J2 A) (A 3 u) (Y 0 u)) → (∀ k, k < C → 0 ≤ A 32 k → ¬ V k = 0) → (∀ k, k < C → ¬ V k = 0 → 0 ≤ A 32 k) → SW l D cy mX1_workOut d 0 0 0 0 73 [(0, .ref 43), (1, .ref 3), (2, .int (nI (v)))] [] n (gd f s (laA A Y V L) B o pr) (fun r' n' f' => r' = none ∧ n' = n ∧ ∃ Y' V' L', f' = (gd f s (laA A Y' V' L') B o pr) ∧ LSo N (J2 A) (A 29) (A 30) (A 32) (A 3) C Y' ∧ LU N (J2 A) (A 29) (A 30) (A 32) (A 3) C Y') QX := by
  intro c
  induction c with
  | zero => intro v Y V h1 h2; exact absurd h2 (by omega)
  | succ c ih =>
    intro v Y V hv hc hY hU hD hV1 hV2
    refine sw_iload_n dX1_workOut_73 rfl ?_
    refine sw_bipush (x := 8) dX1_workOut_74 (by decide) ?_
    refine sw_top nl_8 ?_
    refine sw_icmp_ge 94 dX1_workOut_76 (by decide) (fun h76 => ?_) (fun h76 => ?_)
    · refine sw_keep [0, 1] rfl ?_
      obtain rfl : v = 8 := by have := (nI_leI (by omega) (by omega)).mp h76; omega
      refine sw_iconst (x := 1) dX1_workOut_94 (by decide) ?_
      refine sw_istore_n [(0, _), (1, _), (2, _)] dX1_workOut_95 (by decide) rfl ?_
      refine sw_iconst (x := 0) dX1_workOut_96 (by decide) ?_
      refine sw_istore_n [(0, _), (1, _), (2, _), (3, _)] dX1_workOut_97 (by decide) rfl ?_
      have hph : phi N (J2 A) C Y V ≤ 30000 := by
        unfold phi
        have a1 := cnt_max (fun k => decide (¬ V k = 0)) C
        have a2 := sum_max (g := fun i => 6 - rk N (J2 A) (Y (i / 17) (i % 17))) (b := 6) (17 * C) (fun i _ => Nat.sub_le _ _)
        omega
      exact l_X1_w2 hd hs hN hJ hC hCb hp hW hRG hen 1000001 0 true Y V L (by omega) ⟨hY, hU, hD, fun k hk k0 q => absurd q (hV1 k hk k0), hV2⟩ (fun h => Bool.noConfusion h) (fun _ => by omega)
    · have e1 : v < 8 := (nI_ltI (by omega) (by omega)).mp (i32_nle.mp h76)
      have r1 := RR_1 (V := V) (W := A 32) hJ hN hY hp.1 (show v < 17 by omega) (hen v e1) (by rw [hW.1.1]; decide)
      have u1 := LU_1 hJ hY hU hp.1 (show v < 17 by omega) (hen v e1) (fun Z hZ _ _ => hZ.2.1 v e1)
      refine sw_aload_n dX1_workOut_79 rfl (by first | rfl | assumption) ?_
      refine sw_iconst (x := 0) dX1_workOut_80 (by decide) ?_
      refine sw_iload_n dX1_workOut_81 rfl ?_
      refine sw_aload_n dX1_workOut_82 rfl (by first | rfl | assumption) ?_
      refine sw_iload_n dX1_workOut_83 rfl ?_
      refine sw_ialdN (v) dX1_workOut_84 rfl rfl (show v < 8 by omega) (by decide) ?_
      refine sw_top (y := A 3 v) rfl ?_
      refine sw_Vn dX1_workOut_85 k_X1_57 mf_X1_raise (c_X1_raise (d := d - 1) (k := 0) (by omega) hs hN hJ hCb hY hp.1 (show v < 17 by omega) (hen v e1)) rfl ⟨_, rfl, rfl⟩ (by omega) (by omega) (by omega) rfl rfl (Nat.le_of_ble_eq_true rfl) ?_
      first | refine sw_inc1 [(0, _), (1, _), (2, _)] dX1_workOut_88 rfl (by decide) rfl ?_ | refine sw_iinc [(0, _), (1, _), (2, _)] dX1_workOut_88 rfl (by decide) rfl ?_
      refine sw_goto 73 dX1_workOut_91 (by decide) ?_
      refine ih (v + 1) _ _ (by omega) (by omega) r1.1.1 u1 (fun u hu => ?_) (fun k hk k0 => fun q => hV1 k hk k0 (r1.1.2.2.1 k hk q).1) (fun k hk q => ?_)
      · by_cases w : u = v
        · subst w; exact r1.2
        · exact jle_tr hJ (hen u (by omega)) (hY 0 u hp.1 (by omega)) (r1.1.1 0 u hp.1 (by omega)) (hD u (by omega)) (r1.1.2.1 0 u hp.1 (by omega))
      · rcases r1.1.2.2.2.2 k hk q with z | z
        · exact hV2 k hk z
        · exact z
set_option maxRecDepth 100000 in
theorem l_X1_w0a {l : Launch} {D : va_G} {cy : Nat → ClassId} {d n : Nat} {f : sw_F} {s : Nat → Int32} {A : Nat → Nat → Int32} {B : Nat → Nat → Int64} {o : Int64} {pr : Value} (hd : 2 ≤ d) {k : Nat} {Y0 : Nat → Nat → Int32} (hk : k < 100) {V L : Nat → Int32} {Q : sw_Q} {QX : sw_QX} (K : ∀ Y : Nat → Nat → Int32, (∀ j, ¬ j = k → Y j = Y0 j) → (∀ b, b < 17 → Y k b = s 5) → SW l D cy mX1_workOut d 0 0 0 0 42 [(0, .ref 43), (1, .ref 3), (2, .int (nI (k)))] [] n (gd f s (laA A Y V L) B o pr) Q QX) : ∀ (c a : Nat) (Y : Nat → Nat → Int32), a ≤ 17 → 17 < a + c → (∀ j, ¬ j = k → Y j = Y0 j) → (∀ b, b < a → Y k b = s 5) → SW l D cy mX1_workOut d 0 0 0 0 15 [(0, .ref 43), (1, .ref 3), (2, .int (nI (k))), (3, .int (nI (a)))] [] n (gd f s (laA A Y V L) B o pr) Q QX := by
  intro c
  induction c with
  | zero => intro a Y h1 h2; exact absurd h2 (by omega)
  | succ c ih =>
    intro a Y ha hc hF hD
    refine sw_iload_n dX1_workOut_15 rfl ?_
    refine sw_bipush (x := 17) dX1_workOut_16 (by decide) ?_
    refine sw_top nl_17 ?_
    refine sw_icmp_ge 42 dX1_workOut_18 (by decide) (fun h18 => ?_) (fun h18 => ?_)
    · refine sw_keep [0, 1, 2] rfl ?_
      obtain rfl : a = 17 := by have := (nI_leI (by omega) (by omega)).mp h18; omega
      exact K Y hF hD
    · have e1 : a < 17 := (nI_ltI (by omega) (by omega)).mp (i32_nle.mp h18)
      refine sw_aload_n dX1_workOut_21 rfl (by first | rfl | assumption) ?_
      refine sw_get dX1_workOut_22 fr_X1_13 rfl rfl ?_
      refine sw_iload_n dX1_workOut_25 rfl ?_
      refine sw_aald dX1_workOut_26 rfl (vp_in_nI (show k < 100 by omega) (by decide)) (g_row (show k < 100 by omega)) ?_
      refine sw_iload_n dX1_workOut_27 rfl ?_
      refine sw_aload_n dX1_workOut_28 rfl (by first | rfl | assumption) ?_
      refine sw_get dX1_workOut_29 fr_X1_36 rfl rfl ?_
      refine sw_Vv dX1_workOut_32 k_X1_46 mf_X3_bottom (c_X3_bottom (d := d - 1) (A := laA A Y V L)) rfl ⟨_, rfl, rfl⟩ (by omega) (by omega) (by omega) rfl rfl (Nat.le_of_ble_eq_true rfl) ?_
      refine g_iast (a) dX1_workOut_35 ⟨by omega, (gq_l k (by omega)).1, (gq_l k (by omega)).2.1⟩ rfl (show a < gl (45 + k) by rw [(gq_l k (by omega)).2.2]; exact e1) rfl ?_
      rw [la_y A Y V L hk]
      first | refine sw_inc1 [(0, _), (1, _), (2, _), (3, _)] dX1_workOut_36 rfl (by decide) rfl ?_ | refine sw_iinc [(0, _), (1, _), (2, _), (3, _)] dX1_workOut_36 rfl (by decide) rfl ?_
      refine sw_goto 15 dX1_workOut_39 (by decide) ?_
      refine ih (a + 1) _ (by omega) (by omega) (fun j hj => ?_) (fun b hb => ?_)
      · funext b
        rw [u2_at, if_neg (fun z => hj z.1), hF j hj]
      · rw [u2_at]
        by_cases u : b = a
        · rw [if_pos ⟨rfl, u⟩]
        · rw [if_neg (fun z => u z.2)]; exact hD b (by omega)
set_option maxRecDepth 100000 in
theorem l_X1_w0 {l : Launch} {D : va_G} {cy : Nat → ClassId} {d n : Nat} {f : sw_F} {s : Nat → Int32} {A : Nat → Nat → Int32} {B : Nat → Nat → Int64} {o : Int64} {pr : Value} (hd : 5 ≤ d) {N : Nat} (hs : s 4 = nI N) (hN : N ≤ 6) (hJ : SL N (J2 A)) {C : Nat} (hC : s 12 = nI C) (hCb : C ≤ 100) (hp : PL (VA (A 29) (A 30)) C) (hW : HL (VA (A 29) (A 30)) C (A 32)) (hRG : ∀ j, j < C → 0 ≤ A 32 j → A 29 j = 7 → ∀ m, m < C → (msk B 39 j m = true ↔ RG (VA (A 29) (A 30)) C (RGB (VA (A 29) (A 30)) C (A 32) j) j m)) (hen : ∀ v, v < 8 → lv N (A 3 v)) (hb : lv N (s 5)) (hbo : ∀ x, lv N x → jle (J2 A) (s 5) x) {L : Nat → Int32} {QX : sw_QX} : ∀ (c k : Nat) (Y : Nat → Nat → Int32) (V : Nat → Int32), k ≤ C → C < k + c → (∀ j, j < k → (∀ b, b < 17 → Y j b = s 5) ∧ (V j = 0 ↔ A 32 j = -1)) → SW l D cy mX1_workOut d 0 0 0 0 2 [(0, .ref 43), (1, .ref 3), (2, .int (nI (k)))] [] n (gd f s (laA A Y V L) B o pr) (fun r' n' f' => r' = none ∧ n' = n ∧ ∃ Y' V' L', f' = (gd f s (laA A Y' V' L') B o pr) ∧ LSo N (J2 A) (A 29) (A 30) (A 32) (A 3) C Y' ∧ LU N (J2 A) (A 29) (A 30) (A 32) (A 3) C Y') QX := by
  intro c
  induction c with
  | zero => intro k Y V h1 h2; exact absurd h2 (by omega)
  | succ c ih =>
    intro k Y V hk hc hI
    refine sw_iload_n dX1_workOut_2 rfl ?_
    refine sw_aload_n dX1_workOut_3 rfl (by first | rfl | assumption) ?_
    refine sw_get dX1_workOut_4 fr_X1_24 rfl rfl ?_
    refine sw_Vv dX1_workOut_7 k_X1_40 mf_X0_size (c_X0_size (d := d - 1) (A := laA A Y V L)) rfl ⟨_, rfl, rfl⟩ (by omega) (by omega) (by omega) rfl rfl (Nat.le_of_ble_eq_true rfl) ?_
    refine sw_top (y := nI C) hC ?_
    refine sw_icmp_ge 71 dX1_workOut_10 (by decide) (fun h10 => ?_) (fun h10 => ?_)
    · refine sw_keep [0, 1] rfl ?_
      obtain rfl : k = C := by have := (nI_leI (by omega) (by omega)).mp h10; omega
      refine sw_iconst (x := 0) dX1_workOut_71 (by decide) ?_
      refine sw_istore_n [(0, _), (1, _), (2, _)] dX1_workOut_72 (by decide) rfl ?_
      refine l_X1_w1 hd hs hN hJ hC hCb hp hW hRG hen 9 0 Y V (by omega) (by omega) (fun j a hj ha => by rw [(hI j hj).1 a ha]; exact hb) (fun Z hZ j hj j0 a ha => ?_) (fun u hu => absurd hu (by omega)) (fun j hj j0 q => ?_) (fun j hj q => ?_)
      · obtain ⟨h, h8, hh⟩ : ∃ h, h ≤ 8 ∧ A 32 j = nI h := by
          rcases hW.2.1 j hj with y | y
          · rw [y] at j0; exact absurd j0 (by decide)
          · exact y
        have := hn_n h8 hh
        rw [(hI j hj).1 a (by omega)]; exact hbo _ (hZ.1 j a hj (by omega))
      · rw [(hI j hj).2.mp q] at j0; exact absurd j0 (by decide)
      · rcases hW.2.1 j hj with y | ⟨h, h8, hh⟩
        · exact absurd ((hI j hj).2.mpr y) q
        · exact (m1_not h8 hh).2
    · have e1 : k < C := (nI_ltI (by omega) (by omega)).mp (i32_nle.mp h10)
      refine sw_iconst (x := 0) dX1_workOut_13 (by decide) ?_
      refine sw_istore_n [(0, _), (1, _), (2, _), (3, _)] dX1_workOut_14 (by decide) rfl ?_
      refine l_X1_w0a (Y0 := Y) (by omega) (show k < 100 by omega) (fun Y2 hF hD => ?_) 18 0 Y (by omega) (by omega) (fun _ _ => rfl) (fun b hb => absurd hb (by omega))
      have J1 : ∀ y : Int32, (vp_nar .boolean y = y) → (y = 0 ↔ A 32 k = -1) → SW l D cy mX1_workOut d 0 0 0 0 64 [(0, .ref 43), (1, .ref 3), (2, .int (nI (k)))] [.int y, .int (nI k), .ref 145] n (gd f s (laA A Y2 V L) B o pr) (fun r' n' f' => r' = none ∧ n' = n ∧ ∃ Y' V' L', f' = (gd f s (laA A Y' V' L') B o pr) ∧ LSo N (J2 A) (A 29) (A 30) (A 32) (A 3) C Y' ∧ LU N (J2 A) (A 29) (A 30) (A 32) (A 3) C Y') QX := fun y hy1 hy2 => by
        refine g_zast (k) dX1_workOut_64 ⟨by decide, rfl, rfl⟩ rfl (show k < 100 by omega) hy1 ?_
        rw [la_v]
        refine sw_inc1 [(0, _), (1, _), (2, _)] dX1_workOut_65 rfl (by decide) rfl ?_
        refine sw_goto 2 dX1_workOut_68 (by decide) ?_
        refine ih (k + 1) Y2 _ (by omega) (by omega) (fun j hj => ?_)
        by_cases u : j = k
        · subst u
          exact ⟨hD, by show upd V j y j = 0 ↔ _; rw [upd_at]; exact hy2⟩
        · have z := hI j (by omega)
          rw [hF j u]
          exact ⟨z.1, by show upd V k y j = 0 ↔ _; rw [upd_ne _ _ u]; exact z.2⟩
      refine sw_aload_n dX1_workOut_42 rfl (by first | rfl | assumption) ?_
      refine sw_get dX1_workOut_43 fr_X1_16 rfl rfl ?_
      refine sw_iload_n dX1_workOut_46 rfl ?_
      refine sw_aload_n dX1_workOut_47 rfl (by first | rfl | assumption) ?_
      refine sw_get dX1_workOut_48 fr_X1_28 rfl rfl ?_
      refine sw_iload_n dX1_workOut_51 rfl ?_
      refine sw_Vv dX1_workOut_52 k_X1_51 mf_X10_heightAt (c_X10_heightAt (d := d - 1) (A := laA A Y2 V L) (by omega) hC hCb (nI k)) rfl ⟨_, rfl, rfl⟩ (by omega) (by omega) (by omega) rfl rfl (Nat.le_of_ble_eq_true rfl) ?_
      refine sw_top (y := A 32 k) (cat_n hC hCb e1) ?_
      refine sw_iconst (x := (-1)) dX1_workOut_55 (by decide) ?_
      refine sw_icmp_eq 63 dX1_workOut_56 (by decide) (fun h56 => ?_) (fun h56 => ?_)
      · refine sw_iconst (x := 0) dX1_workOut_63 (by decide) ?_
        exact J1 0 (by decide) ⟨fun _ => h56, fun _ => rfl⟩
      · refine sw_iconst (x := 1) dX1_workOut_59 (by decide) ?_
        refine sw_goto 64 dX1_workOut_60 (by decide) ?_
        exact J1 1 (by decide) ⟨fun z => absurd z (by decide), fun z => absurd z h56⟩
set_option maxRecDepth 100000 in
theorem c_X1_workOut {l : Launch} {D : va_G} {cy : Nat → ClassId} {d n : Nat} {f : sw_F} {s : Nat → Int32} {A : Nat → Nat → Int32} {B : Nat → Nat → Int64} {o : Int64} {pr : Value} (hd : 5 ≤ d) {N : Nat} (hs : s 4 = nI N) (hN : N ≤ 6) (hJ : SL N (J2 A)) {C : Nat} (hC : s 12 = nI C) (hCb : C ≤ 100) (hp : PL (VA (A 29) (A 30)) C) (hW : HL (VA (A 29) (A 30)) C (A 32)) (hRG : ∀ j, j < C → 0 ≤ A 32 j → A 29 j = 7 → ∀ m, m < C → (msk B 39 j m = true ↔ RG (VA (A 29) (A 30)) C (RGB (VA (A 29) (A 30)) C (A 32) j) j m)) (hen : ∀ v, v < 8 → lv N (A 3 v)) (hb : lv N (s 5)) (hbo : ∀ x, lv N x → jle (J2 A) (s 5) x) : sw_Ct l D cy mX1_workOut d 0 0 [.ref 43, .ref 3] n (gd f s A B o pr) (fun r' n' f' => r' = none ∧ n' = n ∧ ∃ Y' V' L', f' = (gd f s (laA A Y' V' L') B o pr) ∧ LSo N (J2 A) (A 29) (A 30) (A 32) (A 3) C Y' ∧ LU N (J2 A) (A 29) (A 30) (A 32) (A 3) C Y') := by
  refine sw_of rfl (Nat.le_of_ble_eq_true rfl) ?_
  show SW l D cy mX1_workOut d 0 0 0 0 0 [(0, .ref 43), (1, .ref 3)] [] n (gd f s A B o pr) _ _
  refine sw_iconst (x := 0) dX1_workOut_0 (by decide) ?_
  refine sw_istore_n [(0, _), (1, _), (2, _)] dX1_workOut_1 (by decide) rfl ?_
  refine g_eq (A' := laA A (fun k => A (45 + k)) (A 145) (A 146)) rfl (la_id A).symm rfl ?_
  exact l_X1_w0 hd hs hN hJ hC hCb hp hW hRG hen hb hbo (C + 1) 0 _ _ (by omega) (by omega) (fun j hj => absurd hj (by omega))
