/-! ===== labels of a program: flow over its tree ===== -/
def rj (J : Int32 → Int32 → Int32) (X Y : Nat → Int32) : Nat → Int32 := fun v => J (X v) (Y v)
def flL (stp : (Nat → Int32) → Nat → Int32) : Nat → (Nat → Int32) → Nat → Int32
  | 0, V => V
  | k + 1, V => if allF (fun v => decide (stp V v = V v)) 0 8 = true then stp V else flL stp k (stp V)
def flR (J : Int32 → Int32 → Int32) (bo : Int32) : RT → Int32 → (Nat → Int32) → Nat → Int32
  | .leaf _, _, V => V
  | .branch v (.leaf e) R, u, V => flR J bo R u (upd V v (J u (lbE J bo V e)))
  | .branch _ (.branch _ (.leaf e) r) R, u, V => flR J bo R u (flL (fun W => rj J (flR J bo r (J u (lbE J bo W e)) W) W) 100 V)
  | .branch _ (.branch _ (.branch _ (.leaf e) r1) r2) R, u, V => flR J bo R u (rj J (flR J bo r2 (J u (lbE J bo V e)) V) (flR J bo r1 (J u (lbE J bo V e)) V))
  | .branch _ (.branch _ (.branch _ (.branch _ _ _) _) _) _, _, V => V
def lv8 (N : Nat) (V : Nat → Int32) : Prop := ∀ v, v < 8 → lv N (V v)
def e8 (V W : Nat → Int32) : Prop := ∀ v, v < 8 → V v = W v
theorem e8_t {V W X : Nat → Int32} (h : e8 V W) (h2 : e8 W X) : e8 V X := fun v hv => (h v hv).trans (h2 v hv)
theorem e8_lv {N : Nat} {V W : Nat → Int32} (h : e8 V W) (h2 : lv8 N W) : lv8 N V := fun v hv => by rw [h v hv]; exact h2 v hv
theorem up_lv {N : Nat} {V : Nat → Int32} {v : Nat} {x : Int32} (hV : lv8 N V) (hx : lv N x) : lv8 N (upd V v x) := fun i hi => by
  unfold upd
  split
  · exact hx
  · exact hV i hi
theorem up_e8 {V W : Nat → Int32} {v : Nat} {x : Int32} (h : e8 V W) : e8 (upd V v x) (upd W v x) := fun i hi => by
  unfold upd
  split
  · rfl
  · exact h i hi
theorem rj_lv {N : Nat} {J : Int32 → Int32 → Int32} (hJ : SL N J) {X Y : Nat → Int32} (hX : lv8 N X) (hY : lv8 N Y) : lv8 N (rj J X Y) := fun v hv => hJ.1 _ _ (hX v hv) (hY v hv)
theorem flL_lv {N : Nat} {stp : (Nat → Int32) → Nat → Int32} (hs : ∀ V, lv8 N V → lv8 N (stp V)) : ∀ k V, lv8 N V → lv8 N (flL stp k V)
  | 0, V, h => h
  | k + 1, V, h => by
    unfold flL
    split
    · exact hs V h
    · exact flL_lv hs k _ (hs V h)
theorem flL_cg {stp stp' : (Nat → Int32) → Nat → Int32} (hs : ∀ V W, e8 V W → e8 (stp V) (stp' W)) : ∀ k V W, e8 V W → e8 (flL stp k V) (flL stp' k W)
  | 0, V, W, h => h
  | k + 1, V, W, h => by
    have e : allF (fun v => decide (stp V v = V v)) 0 8 = allF (fun v => decide (stp' W v = W v)) 0 8 := allF_cg 8 0 (fun c _ h2 => by rw [hs V W h c (by omega), h c (by omega)])
    unfold flL
    rw [e]
    split
    · exact hs V W h
    · exact flL_cg hs k _ _ (hs V W h)
theorem flR_lv {N : Nat} {J : Int32 → Int32 → Int32} {bo : Int32} (hJ : SL N J) (hb : lv N bo) : ∀ (t : RT) (u : Int32) (V : Nat → Int32), wfR t → lv N u → lv8 N V → lv8 N (flR J bo t u V)
  | .leaf _, u, V, w, hu, hV => hV
  | .branch v (.leaf e) R, u, V, w, hu, hV => by
    rw [flR]
    exact flR_lv hJ hb R u _ w.2.2 hu (up_lv hV (hJ.1 _ _ hu (lbE_lv hJ hb hV e w.2.1)))
  | .branch _ (.branch _ (.leaf e) r) R, u, V, w, hu, hV => by
    rw [flR]
    exact flR_lv hJ hb R u _ w.2.2 hu (flL_lv (fun W hW => rj_lv hJ (flR_lv hJ hb r _ W w.2.1 (hJ.1 _ _ hu (lbE_lv hJ hb hW e w.1)) hW) hW) 100 V hV)
  | .branch _ (.branch _ (.branch _ (.leaf e) r1) r2) R, u, V, w, hu, hV => by
    rw [flR]
    have hi := hJ.1 _ _ hu (lbE_lv hJ hb hV e w.1)
    exact flR_lv hJ hb R u _ w.2.2.2 hu (rj_lv hJ (flR_lv hJ hb r2 _ V w.2.2.1 hi hV) (flR_lv hJ hb r1 _ V w.2.1 hi hV))
  | .branch _ (.branch _ (.branch _ (.branch _ _ _) _) _) _, u, V, w, hu, hV => w.elim
theorem flR_cg {J : Int32 → Int32 → Int32} {bo : Int32} : ∀ (t : RT) (u : Int32) (V W : Nat → Int32), wfR t → e8 V W → e8 (flR J bo t u V) (flR J bo t u W)
  | .leaf _, u, V, W, w, h => h
  | .branch v (.leaf e) R, u, V, W, w, h => by
    rw [flR, flR, lbE_cg h e w.2.1]
    exact flR_cg R u _ _ w.2.2 (up_e8 h)
  | .branch _ (.branch _ (.leaf e) r) R, u, V, W, w, h => by
    rw [flR, flR]
    exact flR_cg R u _ _ w.2.2 (flL_cg (fun X Y hX => fun v hv => by
      unfold rj
      rw [lbE_cg hX e w.1, flR_cg r _ X Y w.2.1 hX v hv, hX v hv]) 100 V W h)
  | .branch _ (.branch _ (.branch _ (.leaf e) r1) r2) R, u, V, W, w, h => by
    rw [flR, flR, lbE_cg h e w.1]
    exact flR_cg R u _ _ w.2.2.2 (fun v hv => by
      unfold rj
      rw [flR_cg r1 _ V W w.2.1 h v hv, flR_cg r2 _ V W w.2.2.1 h v hv])
  | .branch _ (.branch _ (.branch _ (.branch _ _ _) _) _) _, u, V, W, w, h => w.elim
theorem sum_le {g g' : Nat → Nat} : ∀ n, (∀ i, i < n → g' i ≤ g i) → sumN g' n ≤ sumN g n
  | 0, _ => Nat.le_refl 0
  | n + 1, h => by
    have a := sum_le n (fun i hi => h i (by omega))
    have b := h n (by omega)
    rw [sumN, sumN]
    omega
theorem sum_lt {g g' : Nat → Nat} {j : Nat} : ∀ n, (∀ i, i < n → g' i ≤ g i) → j < n → g' j < g j → sumN g' n < sumN g n
  | 0, _, h, _ => absurd h (by omega)
  | n + 1, h, hj, hl => by
    have b := h n (by omega)
    rw [sumN, sumN]
    by_cases c : j = n
    · subst c
      have a := sum_le j (fun i hi => h i (by omega))
      omega
    · have a := sum_lt n (fun i hi => h i (by omega)) (show j < n by omega) hl
      omega
def ph8 (N : Nat) (J : Int32 → Int32 → Int32) (V : Nat → Int32) : Nat := sumN (fun v => 6 - rk N J (V v)) 8
theorem rk_mono {N : Nat} {J : Int32 → Int32 → Int32} (h : SL N J) {x y : Int32} (hx : lv N x) (hy : lv N y) (h1 : jle J x y) : rk N J x ≤ rk N J y := by
  by_cases c : x = y
  · rw [c]; exact Nat.le_refl _
  · exact Nat.le_of_lt (rk_lt h hx hy h1 c)
theorem ph8_lt {N : Nat} {J : Int32 → Int32 → Int32} (h : SL N J) (hN : N ≤ 6) {V W : Nat → Int32} (hV : lv8 N V) (hW : lv8 N W) (hle : ∀ v, v < 8 → jle J (V v) (W v)) (hne : ¬ e8 W V) : ph8 N J W < ph8 N J V := by
  obtain ⟨v, hv⟩ : ∃ v, v < 8 ∧ ¬ W v = V v := by
    apply Classical.byContradiction
    intro z
    exact hne (fun v hv => Classical.byContradiction (fun y => z ⟨v, hv, y⟩))
  refine sum_lt 8 (fun i hi => ?_) hv.1 ?_
  · have := rk_mono h (hV i hi) (hW i hi) (hle i hi)
    omega
  · have := rk_lt h (hV v hv.1) (hW v hv.1) (hle v hv.1) (fun q => hv.2 q.symm)
    have := rk_le (N := N) (J := J) (W v)
    omega
theorem ph8_max {N : Nat} {J : Int32 → Int32 → Int32} (V : Nat → Int32) : ph8 N J V ≤ 48 := sum_max (g := fun v => 6 - rk N J (V v)) (b := 6) 8 (fun i hi => Nat.sub_le _ _)
theorem al_e8 {V W : Nat → Int32} : allF (fun v => decide (V v = W v)) 0 8 = true ↔ e8 V W := by
  rw [allF_iff]
  exact ⟨fun h v hv => of_decide_eq_true (h v (by omega) (by omega)), fun h v _ hv => decide_eq_true (h v (by omega))⟩
/-! ===== THE CLASS: ProgramLabels, flow ===== -/
def FrP (g : Nat) (A A' : Nat → Nat → Int32) : Prop := ∀ q, ¬ q = 9 → ¬ (11 + g ≤ q ∧ q ≤ 17) → ¬ (19 + g ≤ q ∧ q ≤ 25) → A' q = A q
theorem FrP_t {g : Nat} {A B C : Nat → Nat → Int32} (h1 : FrP g A B) (h2 : FrP g B C) : FrP g A C := fun q a b c => (h2 q a b c).trans (h1 q a b c)
theorem FrP_u {g : Nat} {A B : Nat → Nat → Int32} (h1 : FrP (g + 1) A B) : FrP g A B := fun q a b c => h1 q a (by omega) (by omega)
theorem FrP_9 {g : Nat} {A : Nat → Nat → Int32} (X : Nat → Int32) : FrP g A (va_up A 9 X) := fun q a b c => vu_ne _ a _
theorem FrP_b {g : Nat} {A : Nat → Nat → Int32} (hg : g ≤ 6) (X : Nat → Int32) : FrP g A (va_up A (11 + g) X) := fun q a b c => vu_ne _ (by omega) _
theorem FrP_g {g : Nat} {A : Nat → Nat → Int32} (hg : g ≤ 6) (X : Nat → Int32) : FrP g A (va_up A (19 + g) X) := fun q a b c => vu_ne _ (by omega) _
def PlQ (n : Nat) (f : sw_F) (s : Nat → Int32) (A : Nat → Nat → Int32) (B : Nat → Nat → Int64) (o : Int64) (pr : Value) (g : Nat) (X : Nat → Int32) : sw_Q := fun r n' f' => r = none ∧ n' = n ∧ ∃ A', f' = gd f s A' B o pr ∧ e8 (A' 9) X ∧ FrP g A A'
def FRC (l : Launch) (D : va_G) (cy : Nat → ClassId) (N : Nat) (T2 : Nat → Int32) (n : Nat) (f : sw_F) (s : Nat → Int32) (B : Nat → Nat → Int64) (o : Int64) (pr : Value) (d g : Nat) (t : RT) (pv : Value) : Prop := ∀ (u : Int32) (V : Nat → Int32) (A : Nat → Nat → Int32), lv N u → lv8 N V → e8 (A 9) V → A 2 = T2 → sw_Ct l D cy mX7_flowRow d 0 0 [.ref 8, pv, .int u, .int (nI g)] n (gd f s A B o pr) (PlQ n f s A B o pr g (flR (jT T2) (s 5) t u V))
set_option maxRecDepth 100000 in
theorem l_X7_lp {l : Launch} {D : va_G} {cy : Nat → ClassId} {d n : Nat} {f : sw_F} {s : Nat → Int32} {B : Nat → Nat → Int64} {o : Int64} {pr : Value} {N : Nat} {T2 : Nat → Int32} (hs4 : s 4 = nI N) (hN : N ≤ 6) (hJ : SL N (jT T2)) (hb : lv N (s 5)) {m n' : Nat} (hm : 150 ≤ m) {p pe : Nat} (hp : 150 ≤ p) {e : ET} {r : RT} {y nx : Value} {z : Value} (hf : f p = nd 5 0 (.ref pe) y z nx) (hy : sw_isR y = true) (wf : wfE e) (wr : wfR r) (dk : dkE 0 e) (ne : ndE f m n' e pe) {g : Nat} (hg : g ≤ 6) (hd : 10 ≤ d) {u : Int32} (hu : lv N u) (hr : FRC l D cy N T2 n f s B o pr (d - 1) (g + 1) r y) {A0 : Nat → Nat → Int32} {QX : sw_QX} : ∀ (k i : Nat) (V : Nat → Int32) (A : Nat → Nat → Int32), ph8 N (jT T2) V < k → i + k ≤ 1000 → lv8 N V → e8 (A 9) V → A 2 = T2 → FrP g A0 A → SW l D cy mX7_flowLoop d 0 0 0 0 3 [(0, .ref 8), (1, .ref p), (2, .int u), (3, .int (nI g)), (4, .int (nI (i)))] [] n (gd f s A B o pr) (PlQ n f s A0 B o pr g (flL (fun W => rj (jT T2) (flR (jT T2) (s 5) r (jT T2 u (lbE (jT T2) (s 5) W e)) W) W) k V)) QX := by
  intro k
  induction k with
  | zero => intro i V A h1; exact absurd h1 (by omega)
  | succ k ih =>
    intro i V A hk hi hV hA hA2 fr
    refine sw_iload dX7_flowLoop_3 rfl ?_
    refine sw_ldc dX7_flowLoop_5 k_c_X7_91 ?_
    refine sw_icmp_ge 89 dX7_flowLoop_7 (by decide) (fun h7 => ?_) (fun h7 => ?_)
    · exact absurd h7 (Int32.not_le.mpr (by rw [show (1000000 : Int32) = nI 1000000 by decide]; exact (nI_ltI (by omega) (by omega)).mpr (by omega)))
    · refine sw_aload_n dX7_flowLoop_10 rfl (by first | rfl | assumption) ?_
      refine sw_get dX7_flowLoop_11 fr_X7_23 rfl rfl ?_
      refine sw_iload_n dX7_flowLoop_14 rfl ?_
      refine sw_aload_n dX7_flowLoop_15 rfl (by first | rfl | assumption) ?_
      refine sw_aload_n dX7_flowLoop_16 rfl (by first | rfl | assumption) ?_
      refine sw_get dX7_flowLoop_17 fr_X7_66 (gd_n hp hf) rfl ?_
      refine sw_iconst (x := 0) dX7_flowLoop_20 (by decide) ?_
      refine sw_top nl_0 ?_
      refine sw_Vv dX7_flowLoop_21 k_X7_70 mf_X7_labelOf (c_X7_labelOf (A := A) hs4 hN (show SL N (jT (A 2)) by rw [hA2]; exact hJ) hb (e8_lv hA hV) hm e 0 pe (d - 1) (by omega) wf dk ne) rfl ⟨_, rfl, rfl⟩ (by omega) (by omega) (by omega) rfl rfl (Nat.le_of_ble_eq_true rfl) ?_
      refine sw_Vv dX7_flowLoop_24 k_X7_74 mf_X3_joined (c_X3_joined (d := d - 1) (by omega) hs4 hN _ _) rfl ⟨_, rfl, rfl⟩ (by omega) (by omega) (by omega) rfl rfl (Nat.le_of_ble_eq_true rfl) ?_
      refine sw_top (y := (jT T2 u (lbE (jT T2) (s 5) V e))) (by rw [hA2, lbE_cg hA e wf]; exact (jT_J (A := A) hs4 hN hu (lbE_lv hJ hb hV e wf)).trans (by rw [hA2])) ?_
      refine sw_istore [(0, _), (1, _), (2, _), (3, _), (4, _), (5, _)] dX7_flowLoop_27 (by decide) rfl ?_
      refine sw_aload_n dX7_flowLoop_29 rfl (by first | rfl | assumption) ?_
      refine sw_get dX7_flowLoop_30 fr_X7_9 rfl rfl ?_
      refine sw_iconst (x := 0) dX7_flowLoop_33 (by decide) ?_
      refine sw_aload_n dX7_flowLoop_34 rfl (by first | rfl | assumption) ?_
      refine sw_get dX7_flowLoop_35 fr_X7_17 rfl rfl ?_
      refine sw_iload_n dX7_flowLoop_38 rfl ?_
      refine sw_aald dX7_flowLoop_39 rfl (vp_in_nI (show g < 7 by omega) (by decide)) (g_rw1 g (by omega)) ?_
      refine sw_iconst (x := 0) dX7_flowLoop_40 (by decide) ?_
      refine sw_bipush (x := 8) dX7_flowLoop_41 (by decide) ?_
      refine g_copy 8 dX7_flowLoop_43 k_X7_27 k_cpy2 k_cpy3 k_cpy4 ⟨by decide, rfl, rfl⟩ ⟨(g8_b hg).1, (g8_b hg).2.1, (g8_b hg).2.2.1⟩ rfl rfl rfl (by decide) (by rw [(g8_b hg).2.2.2]; exact Nat.le_refl 8) (by omega) (Nat.le_of_ble_eq_true rfl) ?_
      refine sw_aload_n dX7_flowLoop_46 rfl (by first | rfl | assumption) ?_
      refine sw_aload_n dX7_flowLoop_47 rfl (by first | rfl | assumption) ?_
      refine sw_get dX7_flowLoop_48 fr_X7_81 (gd_n hp hf) rfl ?_
      refine sw_iload dX7_flowLoop_51 rfl ?_
      refine sw_iload_n dX7_flowLoop_53 rfl ?_
      refine sw_iconst (x := 1) dX7_flowLoop_54 (by decide) ?_
      refine sw_iadd dX7_flowLoop_55 ?_
      refine sw_top (y := nI (g + 1)) (nI_1 g) ?_
      have ct := hr (jT T2 u (lbE (jT T2) (s 5) V e)) V (va_up A (11 + g) (fillF (A 9) (A (11 + g)) 8)) (hJ.1 _ _ hu (lbE_lv hJ hb hV e wf)) hV (fun v hv => by rw [vu_ne _ (show ¬ 9 = 11 + g by omega)]; exact hA v hv) (by rw [vu_ne _ (show ¬ 2 = 11 + g by omega)]; exact hA2)
      refine sw_callV dX7_flowLoop_56 k_X7_39 mf_X7_flowRow ⟨_, rfl, rfl⟩ rfl ct (by omega) ⟨by omega, by omega⟩ rfl rfl (Nat.le_of_ble_eq_true rfl) (fun r' nn f' hq hle => ?_)
      obtain ⟨hr', hn', A2, hf', hA2v, fr2⟩ := hq
      subst hr'
      have hn' := hn'.symm
      subst hn'
      subst hf'
      have b1 : A2 (11 + g) = (va_up A (11 + g) (fillF (A 9) (A (11 + g)) 8)) (11 + g) := fr2 _ (by omega) (by omega) (by omega)
      have b2 : e8 (A2 (11 + g)) V := fun v hv => by rw [b1, vu_at, fill_lt hv]; exact hA v hv
      have b3 : A2 2 = T2 := by rw [fr2 2 (by omega) (by omega) (by omega), vu_ne _ (show ¬ 2 = 11 + g by omega)]; exact hA2
      have b4 : e8 ((va_up A2 9 (fillF (fun v => jT (A2 2) (A2 9 v) (A2 (11 + g) v)) (A2 9) 8)) 9) ((fun W => rj (jT T2) (flR (jT T2) (s 5) r (jT T2 u (lbE (jT T2) (s 5) W e)) W) W) V) := fun v hv => by rw [vu_at, fill_lt hv, b3, hA2v v hv, b2 v hv]; rfl
      have b5 : e8 ((va_up A2 9 (fillF (fun v => jT (A2 2) (A2 9 v) (A2 (11 + g) v)) (A2 9) 8)) (11 + g)) V := fun v hv => by rw [vu_ne _ (show ¬ 11 + g = 9 by omega)]; exact b2 v hv
      have b6 : FrP g A0 (va_up A2 9 (fillF (fun v => jT (A2 2) (A2 9 v) (A2 (11 + g) v)) (A2 9) 8)) := FrP_t (FrP_t fr (FrP_t (FrP_b hg _) (FrP_u fr2))) (FrP_9 _)
      have b7 : allF (fun v => decide ((va_up A2 9 (fillF (fun v => jT (A2 2) (A2 9 v) (A2 (11 + g) v)) (A2 9) 8)) 9 v = (va_up A2 9 (fillF (fun v => jT (A2 2) (A2 9 v) (A2 (11 + g) v)) (A2 9) 8)) (11 + g) v)) 0 8 = allF (fun v => decide ((fun W => rj (jT T2) (flR (jT T2) (s 5) r (jT T2 u (lbE (jT T2) (s 5) W e)) W) W) V v = V v)) 0 8 := allF_cg 8 0 (fun c _ h2 => by rw [b4 c (by omega), b5 c (by omega)])
      have b8 : (va_up A2 9 (fillF (fun v => jT (A2 2) (A2 9 v) (A2 (11 + g) v)) (A2 9) 8)) 2 = T2 := by rw [vu_ne _ (show ¬ 2 = 9 by decide)]; exact b3
      have hsv : lv8 N ((fun W => rj (jT T2) (flR (jT T2) (s 5) r (jT T2 u (lbE (jT T2) (s 5) W e)) W) W) V) := rj_lv hJ (flR_lv hJ hb r _ V wr (hJ.1 _ _ hu (lbE_lv hJ hb hV e wf)) hV) hV
      refine sw_aload_n dX7_flowLoop_59 rfl (by first | rfl | assumption) ?_
      refine sw_aload_n dX7_flowLoop_60 rfl (by first | rfl | assumption) ?_
      refine sw_get dX7_flowLoop_61 fr_X7_17 rfl rfl ?_
      refine sw_iload_n dX7_flowLoop_64 rfl ?_
      refine sw_aald dX7_flowLoop_65 rfl (vp_in_nI (show g < 7 by omega) (by decide)) (g_rw1 g (by omega)) ?_
      refine sw_Vn dX7_flowLoop_66 k_X7_87 mf_X7_raiseBy (c_X7_raiseBy (d := d - 1) (A := A2) (p := 11 + g) (by omega) hs4 hN (by rw [b3]; exact hJ) (g8_b hg) (by omega) (e8_lv hA2v (flR_lv hJ hb r _ V wr (hJ.1 _ _ hu (lbE_lv hJ hb hV e wf)) hV)) (e8_lv b2 hV)) rfl ⟨_, rfl, rfl⟩ (by omega) (by omega) (by omega) rfl rfl (Nat.le_of_ble_eq_true rfl) ?_
      refine sw_aload_n dX7_flowLoop_69 rfl (by first | rfl | assumption) ?_
      refine sw_aload_n dX7_flowLoop_70 rfl (by first | rfl | assumption) ?_
      refine sw_get dX7_flowLoop_71 fr_X7_17 rfl rfl ?_
      refine sw_iload_n dX7_flowLoop_74 rfl ?_
      refine sw_aald dX7_flowLoop_75 rfl (vp_in_nI (show g < 7 by omega) (by decide)) (g_rw1 g (by omega)) ?_
      refine sw_Vv dX7_flowLoop_76 k_X7_92 mf_X7_areLabels (c_X7_areLabels (d := d - 1) (A := (va_up A2 9 (fillF (fun v => jT (A2 2) (A2 9 v) (A2 (11 + g) v)) (A2 9) 8))) (p := 11 + g) (g8_b hg)) rfl ⟨_, rfl, rfl⟩ (by omega) (by omega) (by omega) rfl rfl (Nat.le_of_ble_eq_true rfl) ?_
      rw [b7]
      refine sw_if_eq 83 dX7_flowLoop_79 (by decide) (fun h79 => ?_) (fun h79 => ?_)
      · first | refine sw_inc1 [(0, _), (1, _), (2, _), (3, _), (4, _), (5, _)] dX7_flowLoop_83 rfl (by decide) rfl ?_ | refine sw_iinc [(0, _), (1, _), (2, _), (3, _), (4, _), (5, _)] dX7_flowLoop_83 rfl (by decide) rfl ?_
        refine sw_goto 3 dX7_flowLoop_86 (by decide) ?_
        refine sw_keep [0, 1, 2, 3, 4] rfl ?_
        rw [flL, if_neg (by rw [bz_0.mp h79]; decide)]
        have ne : ¬ e8 ((fun W => rj (jT T2) (flR (jT T2) (s 5) r (jT T2 u (lbE (jT T2) (s 5) W e)) W) W) V) V := fun z => by rw [al_e8.mpr z] at h79; exact absurd h79 (by decide)
        have lt := ph8_lt hJ hN hV hsv (fun v hv => jle_r hJ (flR_lv hJ hb r _ V wr (hJ.1 _ _ hu (lbE_lv hJ hb hV e wf)) hV v hv) (hV v hv)) ne
        exact ih (i + 1) _ _ (Nat.lt_of_lt_of_le lt (Nat.le_of_lt_succ hk)) (by omega) hsv b4 b8 b6
      · exact sw_vret dX7_flowLoop_82 rfl (by omega) (by omega) ⟨rfl, rfl, (va_up A2 9 (fillF (fun v => jT (A2 2) (A2 9 v) (A2 (11 + g) v)) (A2 9) 8)), rfl, by rw [flL, if_pos (bz_ne.mp h79)]; exact b4, b6⟩
set_option maxRecDepth 100000 in
theorem c_X7_flowLoop {l : Launch} {D : va_G} {cy : Nat → ClassId} {d n : Nat} {f : sw_F} {s : Nat → Int32} {B : Nat → Nat → Int64} {o : Int64} {pr : Value} {N : Nat} {T2 : Nat → Int32} (hs4 : s 4 = nI N) (hN : N ≤ 6) (hJ : SL N (jT T2)) (hb : lv N (s 5)) {m n' : Nat} (hm : 150 ≤ m) {p pe : Nat} (hp : 150 ≤ p) {e : ET} {r : RT} {y nx : Value} {z : Value} (hf : f p = nd 5 0 (.ref pe) y z nx) (hy : sw_isR y = true) (wf : wfE e) (wr : wfR r) (dk : dkE 0 e) (ne : ndE f m n' e pe) {g : Nat} (hg : g ≤ 6) (hd : 10 ≤ d) {u : Int32} (hu : lv N u) (hr : FRC l D cy N T2 n f s B o pr (d - 1) (g + 1) r y) {V : Nat → Int32} {A : Nat → Nat → Int32} (hV : lv8 N V) (hA : e8 (A 9) V) (hA2 : A 2 = T2) : sw_Ct l D cy mX7_flowLoop d 0 0 [.ref 8, .ref p, .int u, .int (nI g)] n (gd f s A B o pr) (PlQ n f s A B o pr g (flL (fun W => rj (jT T2) (flR (jT T2) (s 5) r (jT T2 u (lbE (jT T2) (s 5) W e)) W) W) 100 V)) := by
  refine sw_of rfl (Nat.le_of_ble_eq_true rfl) ?_
  show SW l D cy mX7_flowLoop d 0 0 0 0 0 [(0, .ref 8), (1, .ref p), (2, .int u), (3, .int (nI g))] [] n (gd f s A B o pr) _ _
  refine sw_iconst (x := 0) dX7_flowLoop_0 (by decide) ?_
  refine sw_istore [(0, _), (1, _), (2, _), (3, _), (4, _)] dX7_flowLoop_1 (by decide) rfl ?_
  exact l_X7_lp hs4 hN hJ hb hm hp hf hy wf wr dk ne hg hd hu hr 100 0 V A (Nat.lt_of_le_of_lt (ph8_max V) (by decide)) (by decide) hV hA hA2 (fun _ _ _ _ => rfl)
set_option maxRecDepth 100000 in
theorem c_X7_flowChoice {l : Launch} {D : va_G} {cy : Nat → ClassId} {d n : Nat} {f : sw_F} {s : Nat → Int32} {B : Nat → Nat → Int64} {o : Int64} {pr : Value} {N : Nat} {T2 : Nat → Int32} (hs4 : s 4 = nI N) (hN : N ≤ 6) (hJ : SL N (jT T2)) (hb : lv N (s 5)) {m n' : Nat} (hm : 150 ≤ m) {p pe : Nat} (hp : 150 ≤ p) {e : ET} {r1 r2 : RT} {y z nx : Value} (hf : f p = nd 4 0 (.ref pe) y z nx) (hy : sw_isR y = true) (hz : sw_isR z = true) (wf : wfE e) (wr1 : wfR r1) (wr2 : wfR r2) (dk : dkE 0 e) (ne : ndE f m n' e pe) {g : Nat} (hg : g ≤ 6) (hd : 10 ≤ d) {u : Int32} (hu : lv N u) (hr1 : FRC l D cy N T2 n f s B o pr (d - 1) (g + 1) r1 y) (hr2 : FRC l D cy N T2 n f s B o pr (d - 1) (g + 1) r2 z) {V : Nat → Int32} {A : Nat → Nat → Int32} (hV : lv8 N V) (hA : e8 (A 9) V) (hA2 : A 2 = T2) : sw_Ct l D cy mX7_flowChoice d 0 0 [.ref 8, .ref p, .int u, .int (nI g)] n (gd f s A B o pr) (PlQ n f s A B o pr g (rj (jT T2) (flR (jT T2) (s 5) r2 (jT T2 u (lbE (jT T2) (s 5) V e)) V) (flR (jT T2) (s 5) r1 (jT T2 u (lbE (jT T2) (s 5) V e)) V))) := by
  have hin : lv N (jT T2 u (lbE (jT T2) (s 5) V e)) := hJ.1 _ _ hu (lbE_lv hJ hb hV e wf)
  refine sw_of rfl (Nat.le_of_ble_eq_true rfl) ?_
  show SW l D cy mX7_flowChoice d 0 0 0 0 0 [(0, .ref 8), (1, .ref p), (2, .int u), (3, .int (nI g))] [] n (gd f s A B o pr) _ _
  refine sw_aload_n dX7_flowChoice_0 rfl (by first | rfl | assumption) ?_
  refine sw_get dX7_flowChoice_1 fr_X7_23 rfl rfl ?_
  refine sw_iload_n dX7_flowChoice_4 rfl ?_
  refine sw_aload_n dX7_flowChoice_5 rfl (by first | rfl | assumption) ?_
  refine sw_aload_n dX7_flowChoice_6 rfl (by first | rfl | assumption) ?_
  refine sw_get dX7_flowChoice_7 fr_X7_66 (gd_n hp hf) rfl ?_
  refine sw_iconst (x := 0) dX7_flowChoice_10 (by decide) ?_
  refine sw_top nl_0 ?_
  refine sw_Vv dX7_flowChoice_11 k_X7_70 mf_X7_labelOf (c_X7_labelOf (A := A) hs4 hN (show SL N (jT (A 2)) by rw [hA2]; exact hJ) hb (e8_lv hA hV) hm e 0 pe (d - 1) (by omega) wf dk ne) rfl ⟨_, rfl, rfl⟩ (by omega) (by omega) (by omega) rfl rfl (Nat.le_of_ble_eq_true rfl) ?_
  refine sw_Vv dX7_flowChoice_14 k_X7_74 mf_X3_joined (c_X3_joined (d := d - 1) (by omega) hs4 hN _ _) rfl ⟨_, rfl, rfl⟩ (by omega) (by omega) (by omega) rfl rfl (Nat.le_of_ble_eq_true rfl) ?_
  refine sw_top (y := (jT T2 u (lbE (jT T2) (s 5) V e))) (by rw [hA2, lbE_cg hA e wf]; exact (jT_J (A := A) hs4 hN hu (lbE_lv hJ hb hV e wf)).trans (by rw [hA2])) ?_
  refine sw_istore [(0, _), (1, _), (2, _), (3, _), (4, _)] dX7_flowChoice_17 (by decide) rfl ?_
  refine sw_aload_n dX7_flowChoice_19 rfl (by first | rfl | assumption) ?_
  refine sw_get dX7_flowChoice_20 fr_X7_9 rfl rfl ?_
  refine sw_iconst (x := 0) dX7_flowChoice_23 (by decide) ?_
  refine sw_aload_n dX7_flowChoice_24 rfl (by first | rfl | assumption) ?_
  refine sw_get dX7_flowChoice_25 fr_X7_17 rfl rfl ?_
  refine sw_iload_n dX7_flowChoice_28 rfl ?_
  refine sw_aald dX7_flowChoice_29 rfl (vp_in_nI (show g < 7 by omega) (by decide)) (g_rw1 g (by omega)) ?_
  refine sw_iconst (x := 0) dX7_flowChoice_30 (by decide) ?_
  refine sw_bipush (x := 8) dX7_flowChoice_31 (by decide) ?_
  refine g_copy 8 dX7_flowChoice_33 k_X7_27 k_cpy2 k_cpy3 k_cpy4 ⟨by decide, rfl, rfl⟩ ⟨(g8_b hg).1, (g8_b hg).2.1, (g8_b hg).2.2.1⟩ rfl rfl rfl (by decide) (by rw [(g8_b hg).2.2.2]; exact Nat.le_refl 8) (by omega) (Nat.le_of_ble_eq_true rfl) ?_
  refine sw_aload_n dX7_flowChoice_36 rfl (by first | rfl | assumption) ?_
  refine sw_aload_n dX7_flowChoice_37 rfl (by first | rfl | assumption) ?_
  refine sw_get dX7_flowChoice_38 fr_X7_81 (gd_n hp hf) rfl ?_
  refine sw_iload dX7_flowChoice_41 rfl ?_
  refine sw_iload_n dX7_flowChoice_43 rfl ?_
  refine sw_iconst (x := 1) dX7_flowChoice_44 (by decide) ?_
  refine sw_iadd dX7_flowChoice_45 ?_
  refine sw_top (y := nI (g + 1)) (nI_1 g) ?_
  have ct := hr1 (jT T2 u (lbE (jT T2) (s 5) V e)) V (va_up A (11 + g) (fillF (A 9) (A (11 + g)) 8)) hin hV (fun v hv => by rw [vu_ne _ (show ¬ 9 = 11 + g by omega)]; exact hA v hv) (by rw [vu_ne _ (show ¬ 2 = 11 + g by omega)]; exact hA2)
  refine sw_callV dX7_flowChoice_46 k_X7_39 mf_X7_flowRow ⟨_, rfl, rfl⟩ rfl ct (by omega) ⟨by omega, by omega⟩ rfl rfl (Nat.le_of_ble_eq_true rfl) (fun r' nn f' hq hle => ?_)
  obtain ⟨hr', hn', A2, hf', hA2v, fr2⟩ := hq
  subst hr'
  have hn' := hn'.symm
  subst hn'
  subst hf'
  have b1 : A2 (11 + g) = (va_up A (11 + g) (fillF (A 9) (A (11 + g)) 8)) (11 + g) := fr2 _ (by omega) (by omega) (by omega)
  have b2 : e8 (A2 (11 + g)) V := fun v hv => by rw [b1, vu_at, fill_lt hv]; exact hA v hv
  have b3 : A2 2 = T2 := by rw [fr2 2 (by omega) (by omega) (by omega), vu_ne _ (show ¬ 2 = 11 + g by omega)]; exact hA2
  have b4 : e8 ((va_up (va_up A2 (19 + g) (fillF (A2 9) (A2 (19 + g)) 8)) 9 (fillF ((va_up A2 (19 + g) (fillF (A2 9) (A2 (19 + g)) 8)) (11 + g)) ((va_up A2 (19 + g) (fillF (A2 9) (A2 (19 + g)) 8)) 9) 8)) 9) V := fun v hv => by rw [vu_at, fill_lt hv, vu_ne _ (show ¬ 11 + g = 19 + g by omega)]; exact b2 v hv
  refine sw_aload_n dX7_flowChoice_49 rfl (by first | rfl | assumption) ?_
  refine sw_get dX7_flowChoice_50 fr_X7_9 rfl rfl ?_
  refine sw_iconst (x := 0) dX7_flowChoice_53 (by decide) ?_
  refine sw_aload_n dX7_flowChoice_54 rfl (by first | rfl | assumption) ?_
  refine sw_get dX7_flowChoice_55 fr_X7_20 rfl rfl ?_
  refine sw_iload_n dX7_flowChoice_58 rfl ?_
  refine sw_aald dX7_flowChoice_59 rfl (vp_in_nI (show g < 7 by omega) (by decide)) (g_rw2 g (by omega)) ?_
  refine sw_iconst (x := 0) dX7_flowChoice_60 (by decide) ?_
  refine sw_bipush (x := 8) dX7_flowChoice_61 (by decide) ?_
  refine g_copy 8 dX7_flowChoice_63 k_X7_27 k_cpy2 k_cpy3 k_cpy4 ⟨by decide, rfl, rfl⟩ ⟨(g8_g hg).1, (g8_g hg).2.1, (g8_g hg).2.2.1⟩ rfl rfl rfl (by decide) (by rw [(g8_g hg).2.2.2]; exact Nat.le_refl 8) (by omega) (Nat.le_of_ble_eq_true rfl) ?_
  refine sw_aload_n dX7_flowChoice_66 rfl (by first | rfl | assumption) ?_
  refine sw_get dX7_flowChoice_67 fr_X7_17 rfl rfl ?_
  refine sw_iload_n dX7_flowChoice_70 rfl ?_
  refine sw_aald dX7_flowChoice_71 rfl (vp_in_nI (show g < 7 by omega) (by decide)) (g_rw1 g (by omega)) ?_
  refine sw_iconst (x := 0) dX7_flowChoice_72 (by decide) ?_
  refine sw_aload_n dX7_flowChoice_73 rfl (by first | rfl | assumption) ?_
  refine sw_get dX7_flowChoice_74 fr_X7_9 rfl rfl ?_
  refine sw_iconst (x := 0) dX7_flowChoice_77 (by decide) ?_
  refine sw_bipush (x := 8) dX7_flowChoice_78 (by decide) ?_
  refine g_copy 8 dX7_flowChoice_80 k_X7_27 k_cpy2 k_cpy3 k_cpy4 ⟨(g8_b hg).1, (g8_b hg).2.1, (g8_b hg).2.2.1⟩ ⟨by decide, rfl, rfl⟩ rfl rfl rfl (by rw [(g8_b hg).2.2.2]; exact Nat.le_refl 8) (by decide) (by omega) (Nat.le_of_ble_eq_true rfl) ?_
  refine sw_aload_n dX7_flowChoice_83 rfl (by first | rfl | assumption) ?_
  refine sw_aload_n dX7_flowChoice_84 rfl (by first | rfl | assumption) ?_
  refine sw_get dX7_flowChoice_85 fr_X7_84 (gd_n hp hf) rfl ?_
  refine sw_iload dX7_flowChoice_88 rfl ?_
  refine sw_iload_n dX7_flowChoice_90 rfl ?_
  refine sw_iconst (x := 1) dX7_flowChoice_91 (by decide) ?_
  refine sw_iadd dX7_flowChoice_92 ?_
  refine sw_top (y := nI (g + 1)) (nI_1 g) ?_
  have ct := hr2 (jT T2 u (lbE (jT T2) (s 5) V e)) V (va_up (va_up A2 (19 + g) (fillF (A2 9) (A2 (19 + g)) 8)) 9 (fillF ((va_up A2 (19 + g) (fillF (A2 9) (A2 (19 + g)) 8)) (11 + g)) ((va_up A2 (19 + g) (fillF (A2 9) (A2 (19 + g)) 8)) 9) 8)) hin hV b4 (by rw [vu_ne _ (show ¬ 2 = 9 by decide), vu_ne _ (show ¬ 2 = 19 + g by omega)]; exact b3)
  refine sw_callV dX7_flowChoice_93 k_X7_39 mf_X7_flowRow ⟨_, rfl, rfl⟩ rfl ct (by omega) ⟨by omega, by omega⟩ rfl rfl (Nat.le_of_ble_eq_true rfl) (fun r' nn f' hq hle => ?_)
  obtain ⟨hr', hn', A5, hf', hA5v, fr5⟩ := hq
  subst hr'
  have hn' := hn'.symm
  subst hn'
  subst hf'
  have d1 : A5 (19 + g) = (va_up (va_up A2 (19 + g) (fillF (A2 9) (A2 (19 + g)) 8)) 9 (fillF ((va_up A2 (19 + g) (fillF (A2 9) (A2 (19 + g)) 8)) (11 + g)) ((va_up A2 (19 + g) (fillF (A2 9) (A2 (19 + g)) 8)) 9) 8)) (19 + g) := fr5 _ (by omega) (by omega) (by omega)
  have d2 : e8 (A5 (19 + g)) (flR (jT T2) (s 5) r1 (jT T2 u (lbE (jT T2) (s 5) V e)) V) := fun v hv => by rw [d1, vu_ne _ (show ¬ 19 + g = 9 by omega), vu_at, fill_lt hv]; exact hA2v v hv
  have d3 : A5 2 = T2 := by rw [fr5 2 (by omega) (by omega) (by omega), vu_ne _ (show ¬ 2 = 9 by decide), vu_ne _ (show ¬ 2 = 19 + g by omega)]; exact b3
  have d4 : FrP g A (va_up A5 9 (fillF (fun v => jT (A5 2) (A5 9 v) (A5 (19 + g) v)) (A5 9) 8)) := FrP_t (FrP_t (FrP_t (FrP_t (FrP_t (FrP_b hg _) (FrP_u fr2)) (FrP_g hg _)) (FrP_9 _)) (FrP_u fr5)) (FrP_9 _)
  refine sw_aload_n dX7_flowChoice_96 rfl (by first | rfl | assumption) ?_
  refine sw_aload_n dX7_flowChoice_97 rfl (by first | rfl | assumption) ?_
  refine sw_get dX7_flowChoice_98 fr_X7_20 rfl rfl ?_
  refine sw_iload_n dX7_flowChoice_101 rfl ?_
  refine sw_aald dX7_flowChoice_102 rfl (vp_in_nI (show g < 7 by omega) (by decide)) (g_rw2 g (by omega)) ?_
  refine sw_Vn dX7_flowChoice_103 k_X7_87 mf_X7_raiseBy (c_X7_raiseBy (d := d - 1) (A := A5) (p := 19 + g) (by omega) hs4 hN (by rw [d3]; exact hJ) (g8_g hg) (by omega) (e8_lv hA5v (flR_lv hJ hb r2 _ V wr2 hin hV)) (e8_lv d2 (flR_lv hJ hb r1 _ V wr1 hin hV))) rfl ⟨_, rfl, rfl⟩ (by omega) (by omega) (by omega) rfl rfl (Nat.le_of_ble_eq_true rfl) ?_
  exact sw_vret dX7_flowChoice_106 rfl (by omega) (by omega) ⟨rfl, rfl, (va_up A5 9 (fillF (fun v => jT (A5 2) (A5 9 v) (A5 (19 + g) v)) (A5 9) 8)), rfl, fun v hv => by rw [vu_at, fill_lt hv, d3, hA5v v hv, d2 v hv]; rfl, d4⟩
set_option maxRecDepth 100000 in
theorem c_fr_of {l : Launch} {D : va_G} {cy : Nat → ClassId} {d n : Nat} {f : sw_F} {s : Nat → Int32} {A : Nat → Nat → Int32} {B : Nat → Nat → Int64} {o : Int64} {pr : Value} {g : Nat} (hg : g ≤ 6) {pv : Value} (hv : sw_isR pv = true) {u : Int32} {X : Nat → Int32} (K : ∀ (A0 : Nat → Nat → Int32) (w1 : Value) (QX : sw_QX), FrP g A0 A → SW l D cy mX7_flowRow d 0 0 0 0 10 [(0, .ref 8), (1, w1), (2, .int u), (3, .int (nI g)), (4, pv)] [] n (gd f s A B o pr) (PlQ n f s A0 B o pr g X) QX) : sw_Ct l D cy mX7_flowRow d 0 0 [.ref 8, pv, .int u, .int (nI g)] n (gd f s A B o pr) (PlQ n f s A B o pr g X) := by
  refine sw_of rfl (by cases pv with | null => exact Nat.le_of_ble_eq_true rfl | ref a => exact Nat.le_of_ble_eq_true rfl | _ => cases hv) ?_
  have hla : lv_args 0 [.ref 8, pv, .int u, .int (nI g)] = [(0, .ref 8), (1, pv), (2, .int u), (3, .int (nI g))] := by cases pv with | null => rfl | ref a => rfl | _ => cases hv
  rw [hla]
  refine sw_iload_n dX7_flowRow_0 rfl ?_
  refine sw_bipush (x := 6) dX7_flowRow_1 (by decide) ?_
  refine sw_icmp_le 7 dX7_flowRow_3 (by decide) (fun h3 => ?_) (fun h3 => ?_)
  · refine sw_aload_n dX7_flowRow_7 rfl (by first | rfl | assumption) ?_
    refine sw_astore [(0, _), (1, _), (2, _), (3, _), (4, _)] dX7_flowRow_8 (by first | rfl | assumption) (by decide) rfl ?_
    exact K A pv _ (fun _ _ _ _ => rfl)
  · exact absurd (by rw [nl_6]; exact (nI_leI (by omega) (by omega)).mpr hg) h3
set_option maxRecDepth 100000 in
theorem l_X7_fr {l : Launch} {D : va_G} {cy : Nat → ClassId} {n : Nat} {f : sw_F} {s : Nat → Int32} {B : Nat → Nat → Int64} {o : Int64} {pr : Value} {N : Nat} {T2 : Nat → Int32} (hs4 : s 4 = nI N) (hN : N ≤ 6) (hJ : SL N (jT T2)) (hb : lv N (s 5)) {m n' : Nat} (hm : 150 ≤ m) : ∀ (t : RT) (g d : Nat) (u : Int32) (V : Nat → Int32) (A A0 : Nat → Nat → Int32) (pv w1 : Value) (QX : sw_QX), 30 - 2 * g ≤ d → wfR t → dkR g t → ndR f m n' t pv → lv N u → lv8 N V → e8 (A 9) V → A 2 = T2 → FrP g A0 A → SW l D cy mX7_flowRow d 0 0 0 0 10 [(0, .ref 8), (1, w1), (2, .int u), (3, .int (nI g)), (4, pv)] [] n (gd f s A B o pr) (PlQ n f s A0 B o pr g (flR (jT T2) (s 5) t u V)) QX
  | .leaf _, g, d, u, V, A, A0, pv, w1, QX, hd, wf, dk, nr, hu, hV, hA, hA2, fr => by
    have hpv : pv = .null := nr
    subst hpv
    refine sw_aload dX7_flowRow_10 rfl rfl ?_
    refine sw_ifnullN 104 dX7_flowRow_12 (by decide) ?_
    exact sw_vret dX7_flowRow_104 rfl (by omega) (by omega) ⟨rfl, rfl, A, rfl, hA, fr⟩
  | .branch v (.leaf e) R, g, d, u, V, A, A0, pv, w1, QX, hd, wf, dk, nr, hu, hV, hA, hA2, fr => by
    obtain ⟨p, pe, nx, hpv, hpm, hf, ne, nR⟩ := nr
    subst hpv
    have hp : 150 ≤ p := Nat.le_trans hm hpm.1
    have hnx := ndR_r _ _ nR
    have hg := dkR_g _ _ dk.2
    obtain ⟨wv, wf, wR⟩ := wf
    obtain ⟨dk, dR⟩ := dk
    refine sw_aload dX7_flowRow_10 rfl rfl ?_
    refine sw_ifnullR dX7_flowRow_12 ?_
    refine sw_aload dX7_flowRow_15 rfl (by first | rfl | assumption) ?_
    refine sw_get dX7_flowRow_17 fr_X7_51 (gd_n hp hf) rfl ?_
    refine sw_iconst (x := 4) dX7_flowRow_20 (by decide) ?_
    refine sw_icmp_ne 35 dX7_flowRow_21 (by decide) (fun h21 => ?_) (fun h21 => ?_)
    · refine sw_aload dX7_flowRow_35 rfl (by first | rfl | assumption) ?_
      refine sw_get dX7_flowRow_37 fr_X7_51 (gd_n hp hf) rfl ?_
      refine sw_iconst (x := 5) dX7_flowRow_40 (by decide) ?_
      refine sw_icmp_ne 55 dX7_flowRow_41 (by decide) (fun h41 => ?_) (fun h41 => ?_)
      · refine sw_aload dX7_flowRow_55 rfl (by first | rfl | assumption) ?_
        refine sw_get dX7_flowRow_57 fr_X7_63 (gd_n hp hf) rfl ?_
        refine sw_SNv dX7_flowRow_60 k_X7_47 mf_X11_isVariable (c_X11_isVariable (d := d - 1) (nI v)) (by omega) (by omega) (by omega) rfl rfl (Nat.le_of_ble_eq_true rfl) ?_
        refine sw_if_eq 94 dX7_flowRow_63 (by decide) (fun h63 => ?_) (fun h63 => ?_)
        · exact absurd (bz_0.mp h63) (by rw [isV_n wv]; decide)
        · refine sw_aload_n dX7_flowRow_66 rfl (by first | rfl | assumption) ?_
          refine sw_get dX7_flowRow_67 fr_X7_9 rfl rfl ?_
          refine sw_aload dX7_flowRow_70 rfl (by first | rfl | assumption) ?_
          refine sw_get dX7_flowRow_72 fr_X7_63 (gd_n hp hf) rfl ?_
          refine sw_aload_n dX7_flowRow_75 rfl (by first | rfl | assumption) ?_
          refine sw_get dX7_flowRow_76 fr_X7_23 rfl rfl ?_
          refine sw_iload_n dX7_flowRow_79 rfl ?_
          refine sw_aload_n dX7_flowRow_80 rfl (by first | rfl | assumption) ?_
          refine sw_aload dX7_flowRow_81 rfl (by first | rfl | assumption) ?_
          refine sw_get dX7_flowRow_83 fr_X7_66 (gd_n hp hf) rfl ?_
          refine sw_iconst (x := 0) dX7_flowRow_86 (by decide) ?_
          refine sw_top nl_0 ?_
          refine sw_Vv dX7_flowRow_87 k_X7_70 mf_X7_labelOf (c_X7_labelOf (A := A) hs4 hN (show SL N (jT (A 2)) by rw [hA2]; exact hJ) hb (e8_lv hA hV) hm e 0 pe (d - 1) (by omega) wf dk ne) rfl ⟨_, rfl, rfl⟩ (by omega) (by omega) (by omega) rfl rfl (Nat.le_of_ble_eq_true rfl) ?_
          refine sw_Vv dX7_flowRow_90 k_X7_74 mf_X3_joined (c_X3_joined (d := d - 1) (by omega) hs4 hN _ _) rfl ⟨_, rfl, rfl⟩ (by omega) (by omega) (by omega) rfl rfl (Nat.le_of_ble_eq_true rfl) ?_
          refine sw_top (y := (jT T2 u (lbE (jT T2) (s 5) V e))) (by rw [hA2, lbE_cg hA e wf]; exact (jT_J (A := A) hs4 hN hu (lbE_lv hJ hb hV e wf)).trans (by rw [hA2])) ?_
          refine g_iast (v) dX7_flowRow_93 ⟨by decide, rfl, rfl⟩ rfl (show v < 8 by omega) rfl ?_
          refine sw_aload dX7_flowRow_94 rfl rfl ?_
          refine sw_get dX7_flowRow_96 fr_X7_78 (gd_n hp hf) rfl ?_
          refine sw_astore [(0, _), (1, _), (2, _), (3, _), (4, _)] dX7_flowRow_99 hnx (by decide) rfl ?_
          refine sw_goto 10 dX7_flowRow_101 (by decide) ?_
          rw [flR]
          exact l_X7_fr hs4 hN hJ hb hm R g d u _ _ A0 nx w1 QX hd wR dR nR hu (up_lv hV (hJ.1 _ _ hu (lbE_lv hJ hb hV e wf))) (by rw [vu_at]; exact up_e8 hA) (by rw [vu_ne _ (show ¬ 2 = 9 by decide)]; exact hA2) (FrP_t fr (FrP_9 _))
      · exact absurd h41 (by decide)
    · exact absurd h21 (by decide)
  | .branch _ (.branch _ (.leaf e) r) R, g, d, u, V, A, A0, pv, w1, QX, hd, wf, dk, nr, hu, hV, hA, hA2, fr => by
    obtain ⟨p, pe, y, nx, hpv, hpm, hf, ne, nr1, nR⟩ := nr
    subst hpv
    have hp : 150 ≤ p := Nat.le_trans hm hpm.1
    have hnx := ndR_r _ _ nR
    obtain ⟨wf, wr, wR⟩ := wf
    obtain ⟨dk, dr, dR⟩ := dk
    have hg := dkR_g _ _ dR
    have hg1 := dkR_g _ _ dr
    refine sw_aload dX7_flowRow_10 rfl rfl ?_
    refine sw_ifnullR dX7_flowRow_12 ?_
    refine sw_aload dX7_flowRow_15 rfl (by first | rfl | assumption) ?_
    refine sw_get dX7_flowRow_17 fr_X7_51 (gd_n hp hf) rfl ?_
    refine sw_iconst (x := 4) dX7_flowRow_20 (by decide) ?_
    refine sw_icmp_ne 35 dX7_flowRow_21 (by decide) (fun h21 => ?_) (fun h21 => ?_)
    · refine sw_aload dX7_flowRow_35 rfl (by first | rfl | assumption) ?_
      refine sw_get dX7_flowRow_37 fr_X7_51 (gd_n hp hf) rfl ?_
      refine sw_iconst (x := 5) dX7_flowRow_40 (by decide) ?_
      refine sw_icmp_ne 55 dX7_flowRow_41 (by decide) (fun h41 => ?_) (fun h41 => ?_)
      · exact absurd rfl h41
      · refine sw_aload_n dX7_flowRow_44 rfl (by first | rfl | assumption) ?_
        refine sw_aload dX7_flowRow_45 rfl (by first | rfl | assumption) ?_
        refine sw_iload_n dX7_flowRow_47 rfl ?_
        refine sw_iload_n dX7_flowRow_48 rfl ?_
        refine sw_callV dX7_flowRow_49 k_X7_60 mf_X7_flowLoop ⟨_, rfl, rfl⟩ rfl (c_X7_flowLoop (d := d - 1) hs4 hN hJ hb hm hp hf (ndR_r _ _ nr1) wf wr dk ne hg (by omega) hu (fun u V A hu hV hA hA2 => c_fr_of (dkR_g _ _ dr) (ndR_r _ _ nr1) (fun A0 w1 QX => l_X7_fr hs4 hN hJ hb hm r (g + 1) (d - 2) u V A A0 _ w1 QX (by omega) wr dr nr1 hu hV hA hA2)) hV hA hA2) (by omega) ⟨by omega, by omega⟩ rfl rfl (Nat.le_of_ble_eq_true rfl) (fun r' nn f' hq hle => ?_)
        obtain ⟨hr', hn', A2, hf', hA2v, fr2⟩ := hq
        subst hr'
        have hn' := hn'.symm
        subst hn'
        subst hf'
        refine sw_goto 94 dX7_flowRow_52 (by decide) ?_
        refine sw_aload dX7_flowRow_94 rfl rfl ?_
        refine sw_get dX7_flowRow_96 fr_X7_78 (gd_n hp hf) rfl ?_
        refine sw_astore [(0, _), (1, _), (2, _), (3, _), (4, _)] dX7_flowRow_99 hnx (by decide) rfl ?_
        refine sw_goto 10 dX7_flowRow_101 (by decide) ?_
        rw [flR]
        exact l_X7_fr hs4 hN hJ hb hm R g d u _ _ A0 nx w1 QX hd wR dR nR hu (flL_lv (fun W hW => rj_lv hJ (flR_lv hJ hb r _ W wr (hJ.1 _ _ hu (lbE_lv hJ hb hW e wf)) hW) hW) 100 V hV) hA2v (by rw [fr2 2 (by omega) (by omega) (by omega)]; exact hA2) (FrP_t fr fr2)
    · exact absurd h21 (by decide)
  | .branch _ (.branch _ (.branch _ (.leaf e) r1) r2) R, g, d, u, V, A, A0, pv, w1, QX, hd, wf, dk, nr, hu, hV, hA, hA2, fr => by
    obtain ⟨p, pe, y, z, nx, hpv, hpm, hf, ne, nr1, nr2, nR⟩ := nr
    subst hpv
    have hp : 150 ≤ p := Nat.le_trans hm hpm.1
    have hnx := ndR_r _ _ nR
    obtain ⟨wf, wr1, wr2, wR⟩ := wf
    obtain ⟨dk, dr1, dr2, dR⟩ := dk
    have hg := dkR_g _ _ dR
    have hg1 := dkR_g _ _ dr1
    refine sw_aload dX7_flowRow_10 rfl rfl ?_
    refine sw_ifnullR dX7_flowRow_12 ?_
    refine sw_aload dX7_flowRow_15 rfl (by first | rfl | assumption) ?_
    refine sw_get dX7_flowRow_17 fr_X7_51 (gd_n hp hf) rfl ?_
    refine sw_iconst (x := 4) dX7_flowRow_20 (by decide) ?_
    refine sw_icmp_ne 35 dX7_flowRow_21 (by decide) (fun h21 => ?_) (fun h21 => ?_)
    · exact absurd rfl h21
    · refine sw_aload_n dX7_flowRow_24 rfl (by first | rfl | assumption) ?_
      refine sw_aload dX7_flowRow_25 rfl (by first | rfl | assumption) ?_
      refine sw_iload_n dX7_flowRow_27 rfl ?_
      refine sw_iload_n dX7_flowRow_28 rfl ?_
      refine sw_callV dX7_flowRow_29 k_X7_57 mf_X7_flowChoice ⟨_, rfl, rfl⟩ rfl (c_X7_flowChoice (d := d - 1) hs4 hN hJ hb hm hp hf (ndR_r _ _ nr1) (ndR_r _ _ nr2) wf wr1 wr2 dk ne hg (by omega) hu (fun u V A hu hV hA hA2 => c_fr_of (dkR_g _ _ dr1) (ndR_r _ _ nr1) (fun A0 w1 QX => l_X7_fr hs4 hN hJ hb hm r1 (g + 1) (d - 2) u V A A0 _ w1 QX (by omega) wr1 dr1 nr1 hu hV hA hA2)) (fun u V A hu hV hA hA2 => c_fr_of (dkR_g _ _ dr2) (ndR_r _ _ nr2) (fun A0 w1 QX => l_X7_fr hs4 hN hJ hb hm r2 (g + 1) (d - 2) u V A A0 _ w1 QX (by omega) wr2 dr2 nr2 hu hV hA hA2)) hV hA hA2) (by omega) ⟨by omega, by omega⟩ rfl rfl (Nat.le_of_ble_eq_true rfl) (fun r' nn f' hq hle => ?_)
      obtain ⟨hr', hn', A2, hf', hA2v, fr2⟩ := hq
      subst hr'
      have hn' := hn'.symm
      subst hn'
      subst hf'
      refine sw_goto 94 dX7_flowRow_32 (by decide) ?_
      refine sw_aload dX7_flowRow_94 rfl rfl ?_
      refine sw_get dX7_flowRow_96 fr_X7_78 (gd_n hp hf) rfl ?_
      refine sw_astore [(0, _), (1, _), (2, _), (3, _), (4, _)] dX7_flowRow_99 hnx (by decide) rfl ?_
      refine sw_goto 10 dX7_flowRow_101 (by decide) ?_
      rw [flR]
      exact l_X7_fr hs4 hN hJ hb hm R g d u _ _ A0 nx w1 QX hd wR dR nR hu (rj_lv hJ (flR_lv hJ hb r2 _ V wr2 (hJ.1 _ _ hu (lbE_lv hJ hb hV e wf)) hV) (flR_lv hJ hb r1 _ V wr1 (hJ.1 _ _ hu (lbE_lv hJ hb hV e wf)) hV)) hA2v (by rw [fr2 2 (by omega) (by omega) (by omega)]; exact hA2) (FrP_t fr fr2)
  | .branch _ (.branch _ (.branch _ (.branch _ _ _) _) _) _, g, d, u, V, A, A0, pv, w1, QX, hd, wf, dk, nr, hu, hV, hA, hA2, fr => wf.elim
set_option maxRecDepth 100000 in
theorem c_X7_workOut {l : Launch} {D : va_G} {cy : Nat → ClassId} {d n : Nat} {f : sw_F} {s : Nat → Int32} {A : Nat → Nat → Int32} {B : Nat → Nat → Int64} {o : Int64} {pr : Value} {N : Nat} {T2 : Nat → Int32} (hs4 : s 4 = nI N) (hN : N ≤ 6) (hJ : SL N (jT T2)) (hb : lv N (s 5)) (hA2 : A 2 = T2) {m n' : Nat} (hm : 150 ≤ m) {t : RT} (hd : 31 ≤ d) (wf : wfR t) (dk : dkR 0 t) {pv : Value} (nr : ndR f m n' t pv) (hV : lv8 N (A 3)) : sw_Ct l D cy mX7_workOut d 0 0 [.ref 8, pv, .ref 3] n (gd f s A B o pr) (PlQ n f s A B o pr 0 (flR (jT T2) (s 5) t (s 5) (A 3))) := by
  have hv := ndR_r _ _ nr
  have frc : FRC l D cy N T2 n f s B o pr (d - 1) 0 t pv := fun u V A hu hV hA hA2 => c_fr_of (Nat.zero_le 6) hv (fun A0 w1 QX => l_X7_fr hs4 hN hJ hb hm t 0 (d - 1) u V A A0 _ w1 QX (by omega) wf dk nr hu hV hA hA2)
  refine sw_of rfl (by cases pv with | null => exact Nat.le_of_ble_eq_true rfl | ref a => exact Nat.le_of_ble_eq_true rfl | _ => cases hv) ?_
  have hla : lv_args 0 [.ref 8, pv, .ref 3] = [(0, .ref 8), (1, pv), (2, .ref 3)] := by cases pv with | null => rfl | ref a => rfl | _ => cases hv
  rw [hla]
  refine sw_aload_n dX7_workOut_0 rfl (by first | rfl | assumption) ?_
  refine sw_iconst (x := 0) dX7_workOut_1 (by decide) ?_
  refine sw_aload_n dX7_workOut_2 rfl (by first | rfl | assumption) ?_
  refine sw_get dX7_workOut_3 fr_X7_9 rfl rfl ?_
  refine sw_iconst (x := 0) dX7_workOut_6 (by decide) ?_
  refine sw_bipush (x := 8) dX7_workOut_7 (by decide) ?_
  refine g_copy 8 dX7_workOut_9 k_X7_27 k_cpy2 k_cpy3 k_cpy4 ⟨by decide, rfl, rfl⟩ ⟨by decide, rfl, rfl⟩ rfl rfl rfl (by decide) (by decide) (by omega) (Nat.le_of_ble_eq_true rfl) ?_
  refine sw_aload_n dX7_workOut_12 rfl (by first | rfl | assumption) ?_
  refine sw_aload_n dX7_workOut_13 rfl (by first | rfl | assumption) ?_
  refine sw_aload_n dX7_workOut_14 rfl (by first | rfl | assumption) ?_
  refine sw_get dX7_workOut_15 fr_X7_23 rfl rfl ?_
  refine sw_Vv dX7_workOut_18 k_X7_33 mf_X3_bottom (c_X3_bottom (d := d - 1)) rfl ⟨_, rfl, rfl⟩ (by omega) (by omega) (by omega) rfl rfl (by rcases isR_c hv with rfl | ⟨_, rfl⟩ <;> exact Nat.le_of_ble_eq_true rfl) ?_
  refine sw_iconst (x := 0) dX7_workOut_21 (by decide) ?_
  refine sw_top nl_0 ?_
  have ct := frc (s 5) (A 3) (va_up A 9 (fillF (A 3) (A 9) 8)) hb hV (fun v hv => by rw [vu_at, fill_lt hv]) (by rw [vu_ne _ (show ¬ 2 = 9 by decide)]; exact hA2)
  refine sw_callV dX7_workOut_22 k_X7_39 mf_X7_flowRow ⟨_, rfl, rfl⟩ rfl ct (by omega) ⟨by omega, by omega⟩ rfl rfl (Nat.le_of_ble_eq_true rfl) (fun r' nn f' hq hle => ?_)
  obtain ⟨hr', hn', A2, hf', hA2v, fr2⟩ := hq
  subst hr'
  have hn' := hn'.symm
  subst hn'
  subst hf'
  exact sw_vret dX7_workOut_25 rfl (by omega) (by omega) ⟨rfl, rfl, A2, rfl, hA2v, FrP_t (FrP_9 _) fr2⟩
