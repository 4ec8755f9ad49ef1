/-! ===== the reference's labels of a program: rounds ===== -/
section PRN
variable {N P : Nat} {A : Nat → Nat → Int32} {x0 : Int32}
theorem lowL (H : PHy N P A x0) {L : LB} (hL : LOK N P L) : ∀ (t : RT) (k : Nat) (V : Nat → Int32) (u : Int32) (O : Nat → Int32), wfR t → k + szR t ≤ P → lv8 N V → lv N u → DRq (jI A) x0 L (fun i => i < P) t k → RLq (jI A) x0 L t k V u O → le8 (jI A) (flR (jI A) x0 t u V) O
  | .leaf _, k, V, u, O, wf, hk, hV, hu, D, R => by
    have R : O = V := R
    subst R
    exact le8_rfl H.2.2.2.1 hV
  | .branch v (.leaf e) R, k, V, u, O, wf, hk, hV, hu, D, T => by
    obtain ⟨hN, hP, hJk, hJ, hb, hbo⟩ := id H
    rw [szR] at hk
    obtain ⟨⟨t1, t2, t3⟩, t4⟩ := T
    rw [flR, ← t3]
    exact lowL H hL R _ _ u O wf.2.2 (by omega) (qO_lv hL (by omega)) hu D t4
  | .branch v9 (.branch v8 (.leaf e) r0) R, k, V, u, O, wf, hk, hV, hu, D, T => by
    obtain ⟨hN, hP, hJk, hJ, hb, hbo⟩ := id H
    rw [szR] at hk
    have sp := szE_pos e
    obtain ⟨⟨t1, t2, t3, t5, t6⟩, t4⟩ := T
    obtain ⟨d1, d2, d3⟩ := D
    have hbP : k + 1 + szE e < P := by omega
    have lo := qO_lv hL (show k < P by omega)
    have lib := qI_lv hL hbP
    have lob := qO_lv hL hbP
    have lub := qU_lv hL hbP
    have q1 := lowL H hL r0 _ _ _ _ wf.2.1 (by omega) lib lub d2 (d1 hbP)
    have lW1 := rj_lv hJ hV lob
    rw [← t3] at t5 t6
    rw [t5] at q1
    have lx := hJ.1 _ _ hu (lbE_lv hJ hb lib e wf.1)
    have lf := flR_lv hJ hb r0 _ _ wf.2.1 lx lib
    have e1 : e8 (rj (jI A) V (qO L (k + 1 + szE e))) (qI L (k + 1 + szE e)) := by rw [t3]; exact e8_s (c8_e _)
    have g1 : le8 (jI A) V (qI L (k + 1 + szE e)) := le8_tr hJ hV lW1 lib (rj_l hJ hV lob) (le8_e hJ lW1 e1)
    have g2 : le8 (jI A) (qO L (k + 1 + szE e)) (qI L (k + 1 + szE e)) := le8_tr hJ lob lW1 lib (rj_r hJ hV lob) (le8_e hJ lW1 e1)
    have ls := stL_lv hJ hb wf.2.1 wf.1 hu
    have cl : le8 (jI A) (stL (jI A) x0 r0 e u (qI L (k + 1 + szE e))) (qI L (k + 1 + szE e)) := rj_j hJ lf lib lib (le8_tr hJ lf lob lib q1 g2) (le8_rfl hJ lib)
    have mo : ∀ X Y, lv8 N X → lv8 N Y → le8 (jI A) X Y → le8 (jI A) (stL (jI A) x0 r0 e u X) (stL (jI A) x0 r0 e u Y) := fun X Y hX hY q2 => by
      have b1 := hJ.1 _ _ hu (lbE_lv hJ hb hX e wf.1)
      have b2 := hJ.1 _ _ hu (lbE_lv hJ hb hY e wf.1)
      exact rj_m hJ (flR_lv hJ hb r0 _ X wf.2.1 b1 hX) hX (flR_lv hJ hb r0 _ Y wf.2.1 b2 hY) hY (flR_mo hJ hN hb r0 _ _ X Y wf.2.1 b1 b2 hX hY (jle_m hJ hu (lbE_lv hJ hb hX e wf.1) hu (lbE_lv hJ hb hY e wf.1) (jle_rfl hJ hu) (lbE_m hJ hb hX hY q2 e wf.1)) q2) q2
    have l1 := flL_lv ls 100 V hV
    have z := flL_le hJ ls mo lib cl 100 V hV g1
    rw [← t6] at z
    rw [flR]
    exact le8_tr hJ (flR_lv hJ hb R u _ wf.2.2 hu l1) (flR_lv hJ hb R u _ wf.2.2 hu lo) (RL_lv R _ _ _ _ wf.2.2 (by omega) lo t4) (flR_mo hJ hN hb R u u _ _ wf.2.2 hu hu l1 lo (jle_rfl hJ hu) z) (lowL H hL R _ _ u O wf.2.2 (by omega) lo hu d3 t4)
  | .branch v9 (.branch v8 (.branch v7 (.leaf e) ra) rb) R, k, V, u, O, wf, hk, hV, hu, D, T => by
    obtain ⟨hN, hP, hJk, hJ, hb, hbo⟩ := id H
    rw [szR] at hk
    have sp := szE_pos e
    obtain ⟨⟨t1, t2, t3, t7, t8, t9, t10⟩, t4⟩ := T
    obtain ⟨d1, d2, d3, d4, d5⟩ := D
    have hbP : k + 1 + szE e < P := by omega
    have hcP : k + 1 + szE e + 1 + szR ra < P := by omega
    have lo := qO_lv hL (show k < P by omega)
    have lob := qO_lv hL hbP
    have loc := qO_lv hL hcP
    have q1 := lowL H hL ra _ _ _ _ wf.2.1 (by omega) (qI_lv hL hbP) (qU_lv hL hbP) d3 (d1 hbP)
    have q2 := lowL H hL rb _ _ _ _ wf.2.2.1 (by omega) (qI_lv hL hcP) (qU_lv hL hcP) d4 (d2 hcP)
    rw [t3, t8] at q1
    rw [t7, t9] at q2
    have lx := hJ.1 _ _ hu (lbE_lv hJ hb hV e wf.1)
    have b1 := flR_lv hJ hb ra _ V wf.2.1 lx hV
    have b2 := flR_lv hJ hb rb _ V wf.2.2.1 lx hV
    have lW1 := rj_lv hJ lob loc
    have l1 := rj_lv hJ b2 b1
    have z : le8 (jI A) (rj (jI A) (flR (jI A) x0 rb (jI A u (lbE (jI A) x0 V e)) V) (flR (jI A) x0 ra (jI A u (lbE (jI A) x0 V e)) V)) (qO L k) := by
      rw [t10]
      exact le8_tr hJ l1 lW1 (c8_lv lW1) (rj_j hJ b2 b1 lW1 (le8_tr hJ b2 loc lW1 q2 (rj_r hJ lob loc)) (le8_tr hJ b1 lob lW1 q1 (rj_l hJ lob loc))) (le8_e hJ lW1 (e8_s (c8_e _)))
    rw [flR]
    exact le8_tr hJ (flR_lv hJ hb R u _ wf.2.2.2 hu l1) (flR_lv hJ hb R u _ wf.2.2.2 hu lo) (RL_lv R _ _ _ _ wf.2.2.2 (by omega) lo t4) (flR_mo hJ hN hb R u u _ _ wf.2.2.2 hu hu l1 lo (jle_rfl hJ hu) z) (lowL H hL R _ _ u O wf.2.2.2 (by omega) lo hu d5 t4)
  | .branch _ (.branch _ (.branch _ (.branch _ _ _) _) _) _, k, V, u, O, wf, hk, hV, hu, D, T => wf.elim
where RL_lv : ∀ (t : RT) (k : Nat) (V : Nat → Int32) (u : Int32) (O : Nat → Int32), wfR t → k + szR t ≤ P → lv8 N V → RLq (jI A) x0 L t k V u O → lv8 N O
  | .leaf _, k, V, u, O, wf, hk, hV, R => by
    have R : O = V := R
    subst R
    exact hV
  | .branch v (.leaf e) R, k, V, u, O, wf, hk, hV, T => by
    rw [szR] at hk
    exact RL_lv R _ _ _ _ wf.2.2 (by omega) (qO_lv hL (by omega)) T.2
  | .branch v9 (.branch v8 (.leaf e) r0) R, k, V, u, O, wf, hk, hV, T => by
    rw [szR] at hk
    exact RL_lv R _ _ _ _ wf.2.2 (by omega) (qO_lv hL (by omega)) T.2
  | .branch v9 (.branch v8 (.branch v7 (.leaf e) ra) rb) R, k, V, u, O, wf, hk, hV, T => by
    rw [szR] at hk
    exact RL_lv R _ _ _ _ wf.2.2.2 (by omega) (qO_lv hL (by omega)) T.2
  | .branch _ (.branch _ (.branch _ (.branch _ _ _) _) _) _, k, V, u, O, wf, hk, hV, T => wf.elim
/-- the tree in the parts -/
def TRA (A : Nat → Nat → Int32) (P : Nat) (t : RT) (ch : Nat → List (Nat × Nat × Nat)) : Prop := A 159 0 = 6 ∧ A 162 0 = lnk t 1 ∧ rpR A t 1 ∧ wfR t ∧ P = 1 + szR t ∧ ∀ (r : RT) (b : Nat), A 162 b = lnk r (b + 1) → rpR A r (b + 1) → wfR r → b + 1 + szR r ≤ P → ch b = chL r (b + 1)
/-- within a round, c rows done -/
def RIv (N P : Nat) (A : Nat → Nat → Int32) (x0 : Int32) (t : RT) (L0 : LB) (c : Nat) (L : LB) : Prop := GW N (jI A) P L0 L ∧ TRq (jI A) x0 L t 1 (c8 (A 153)) x0 (qO L 0) (c8 (A 153)) x0 ∧ qI L 0 = c8 (A 153) ∧ qU L 0 = x0 ∧ (mr L = false → (0 < c → RLq (jI A) x0 L t 1 (c8 (A 153)) x0 (qO L 0)) ∧ DRq (jI A) x0 L (fun i => i < c) t 1)
theorem rndS (H : PHy N P A x0) (hen : lv8 N (A 153)) {t : RT} {ch : Nat → List (Nat × Nat × Nat)} (HT : TRA A P t ch) {L0 : LB} (h0 : LOK N P L0) : ∀ (n c : Nat) (L : LB), c + n = P → RIv N P A x0 t L0 c L → RIv N P A x0 t L0 P (lRs A x0 ch c n L)
  | 0, c, L, hc, I => by
    have : c = P := by omega
    subst this
    exact I
  | n + 1, c, L, hc, I => by
    obtain ⟨hN, hP, hJk, hJ, hb, hbo⟩ := id H
    obtain ⟨k1, k2, k3, k4, k5, k6⟩ := id HT
    obtain ⟨G, T, i1, i2, D⟩ := I
    have hL := G.1
    have hcP : c < P := by omega
    have h0P : 0 < P := by omega
    have le := c8_lv hen
    rw [lRs]
    refine rndS H hen HT h0 n (c + 1) _ (by omega) ?_
    by_cases c6 : A 159 c = 6
    · rw [if_pos c6]
      by_cases cz : c = 0
      · subst cz
        rw [k6 t 0 k2 k3 k4 (by omega)]
        generalize hL' : lRO A x0 L 0 (chL t (0 + 1)) = L'
        obtain ⟨G2, T2, R2, ⟨j1, j2, j3⟩, S2⟩ := rowO H h0P k3 k4 (by omega) hL (by rw [i1, i2]; exact T) hL'.symm
        rw [i1] at T2 R2 j1
        rw [i2] at T2 R2 j2
        exact ⟨GW_tr hJ h0 G G2, T2, j1, j2, fun _ => ⟨fun _ => R2, DR_vac t _ (fun i a b => by omega)⟩⟩
      · generalize hL' : lRO A x0 L c (ch c) = L'
        obtain ⟨G2, T2, D2, S2⟩ := deepL H k6 c6 hL hL'.symm t 1 _ _ _ _ _ k3 k4 (by omega) (by omega) (by omega) le hb (qO_lv hL h0P) le hb (le8_rfl hJ le) (jle_rfl hJ hb) T
        obtain ⟨s1, s2, s3⟩ := S2 0 (Or.inl (by omega))
        refine ⟨GW_tr hJ h0 G G2, by rw [s2]; exact T2, s1.trans i1, s3.trans i2, fun z => ?_⟩
        obtain ⟨z1, z2⟩ := G2.2.2.1 z
        obtain ⟨y1, y2⟩ := D z1
        have fr : SQr 1 (1 + szR t) L L' := fun m a b => z2 m (by omega)
        refine ⟨fun _ => by rw [s2]; exact RL_fr t _ _ _ _ fr (y1 (by omega)), DR_or (A := A) (fun i _ h => ?_) t 1 k3 (DR_fr t _ fr y2) D2⟩
        show i < c ∨ i = c
        omega
    · rw [if_neg c6]
      refine ⟨G, T, i1, i2, fun z => ?_⟩
      obtain ⟨y1, y2⟩ := D z
      have cz : ¬ c = 0 := fun q => c6 (by rw [q]; exact k1)
      refine ⟨fun _ => y1 (by omega), DR_or (A := A) (fun i h6 h => ?_) t 1 k3 y2 y2⟩
      have : ¬ i = c := fun q => c6 (by rw [← q]; exact h6)
      exact Or.inl (by omega)
/-- how much the labels can still rise -/
def phL (N : Nat) (J : Int32 → Int32 → Int32) (P : Nat) (L : LB) : Nat := sumN (fun i => 6 - rk N J (L.1 i)) (8 * P) + sumN (fun i => 6 - rk N J (L.2.1 i)) (8 * P) + sumN (fun m => 6 - rk N J (L.2.2.1 m)) P
theorem phL_max (L : LB) (J : Int32 → Int32 → Int32) : phL N J P L ≤ 102 * P := by
  have a := sum_max (g := fun i => 6 - rk N J (L.1 i)) (b := 6) (8 * P) (fun i hi => Nat.sub_le _ _)
  have b := sum_max (g := fun i => 6 - rk N J (L.2.1 i)) (b := 6) (8 * P) (fun i hi => Nat.sub_le _ _)
  have c := sum_max (g := fun m => 6 - rk N J (L.2.2.1 m)) (b := 6) P (fun i hi => Nat.sub_le _ _)
  unfold phL
  omega
theorem phL_lt {J : Int32 → Int32 → Int32} (hJ : SL N J) (hN : N ≤ 6) {L L' : LB} (h : LOK N P L) (g : GW N J P L L') (m0 : mr L = false) (m1 : mr L' = true) : phL N J P L' < phL N J P L := by
  have ns : ¬ SQ8 P L L' := (g.2.2.2 m1).elim (fun z => absurd z (by rw [m0]; decide)) id
  have a1 : ∀ i, i < 8 * P → jle J (L.1 i) (L'.1 i) := fun i hi => by
    have q := (g.2.1 (i / 8) (by omega)).1 (i % 8) (Nat.mod_lt _ (by decide))
    rw [show qI L (i / 8) (i % 8) = _ from c8_e _ _ (Nat.mod_lt _ (by decide)), show qI L' (i / 8) (i % 8) = _ from c8_e _ _ (Nat.mod_lt _ (by decide)), Nat.div_add_mod] at q
    exact q
  have a2 : ∀ i, i < 8 * P → jle J (L.2.1 i) (L'.2.1 i) := fun i hi => by
    have q := (g.2.1 (i / 8) (by omega)).2.1 (i % 8) (Nat.mod_lt _ (by decide))
    rw [show qO L (i / 8) (i % 8) = _ from c8_e _ _ (Nat.mod_lt _ (by decide)), show qO L' (i / 8) (i % 8) = _ from c8_e _ _ (Nat.mod_lt _ (by decide)), Nat.div_add_mod] at q
    exact q
  have a3 : ∀ m, m < P → jle J (L.2.2.1 m) (L'.2.2.1 m) := fun m hm => (g.2.1 m hm).2.2
  have b1 : ∀ i, i < 8 * P → 6 - rk N J (L'.1 i) ≤ 6 - rk N J (L.1 i) := fun i hi => Nat.sub_le_sub_left (rk_mono hJ (h.1 i hi) (g.1.1 i hi) (a1 i hi)) 6
  have b2 : ∀ i, i < 8 * P → 6 - rk N J (L'.2.1 i) ≤ 6 - rk N J (L.2.1 i) := fun i hi => Nat.sub_le_sub_left (rk_mono hJ (h.2.1 i hi) (g.1.2.1 i hi) (a2 i hi)) 6
  have b3 : ∀ m, m < P → 6 - rk N J (L'.2.2.1 m) ≤ 6 - rk N J (L.2.2.1 m) := fun m hm => Nat.sub_le_sub_left (rk_mono hJ (h.2.2.1 m hm) (g.1.2.2.1 m hm) (a3 m hm)) 6
  have st : ∀ x y : Int32, lv N x → lv N y → jle J x y → ¬ x = y → 6 - rk N J y < 6 - rk N J x := fun x y hx hy q1 q2 => by
    have := rk_lt hJ hx hy q1 q2
    have := rk_le (N := N) (J := J) y
    omega
  have s1 := sum_le (g := fun i => 6 - rk N J (L.1 i)) (g' := fun i => 6 - rk N J (L'.1 i)) (8 * P) b1
  have s2 := sum_le (g := fun i => 6 - rk N J (L.2.1 i)) (g' := fun i => 6 - rk N J (L'.2.1 i)) (8 * P) b2
  have s3 := sum_le (g := fun m => 6 - rk N J (L.2.2.1 m)) (g' := fun m => 6 - rk N J (L'.2.2.1 m)) P b3
  unfold phL
  by_cases c1 : ∃ i, i < 8 * P ∧ ¬ L.1 i = L'.1 i
  · obtain ⟨i, hi, ne⟩ := c1
    have := sum_lt (g := fun i => 6 - rk N J (L.1 i)) (g' := fun i => 6 - rk N J (L'.1 i)) (j := i) (8 * P) b1 hi (st _ _ (h.1 i hi) (g.1.1 i hi) (a1 i hi) ne)
    omega
  · by_cases c2 : ∃ i, i < 8 * P ∧ ¬ L.2.1 i = L'.2.1 i
    · obtain ⟨i, hi, ne⟩ := c2
      have := sum_lt (g := fun i => 6 - rk N J (L.2.1 i)) (g' := fun i => 6 - rk N J (L'.2.1 i)) (j := i) (8 * P) b2 hi (st _ _ (h.2.1 i hi) (g.1.2.1 i hi) (a2 i hi) ne)
      omega
    · by_cases c3 : ∃ m, m < P ∧ ¬ L.2.2.1 m = L'.2.2.1 m
      · obtain ⟨i, hi, ne⟩ := c3
        have := sum_lt (g := fun m => 6 - rk N J (L.2.2.1 m)) (g' := fun m => 6 - rk N J (L'.2.2.1 m)) (j := i) P b3 hi (st _ _ (h.2.2.1 i hi) (g.1.2.2.1 i hi) (a3 i hi) ne)
        omega
      · refine absurd (fun m hm => ⟨c8_x (fun v hv => ?_), c8_x (fun v hv => ?_), ?_⟩) ns
        · exact Decidable.byContradiction (fun z => c1 ⟨8 * m + v, by omega, fun q => z q.symm⟩)
        · exact Decidable.byContradiction (fun z => c2 ⟨8 * m + v, by omega, fun q => z q.symm⟩)
        · exact Decidable.byContradiction (fun z => c3 ⟨m, hm, fun q => z q.symm⟩)
/-- between rounds -/
def RBt (N P : Nat) (A : Nat → Nat → Int32) (x0 : Int32) (t : RT) (L : LB) : Prop := LK3 N P L ∧ TRq (jI A) x0 L t 1 (qI L 0) (qU L 0) (qO L 0) (c8 (A 153)) x0 ∧ le8 (jI A) (qI L 0) (c8 (A 153)) ∧ jle (jI A) (qU L 0) x0
theorem rnd1 (H : PHy N P A x0) (hen : lv8 N (A 153)) {t : RT} {ch : Nat → List (Nat × Nat × Nat)} (HT : TRA A P t ch) {L : LB} (B : RBt N P A x0 t L) : ∃ L0, LOK N P L0 ∧ mr L0 = false ∧ phL N (jI A) P L0 = phL N (jI A) P L ∧ RIv N P A x0 t L0 P (lRd A x0 ch P L) := by
  obtain ⟨hN, hP, hJk, hJ, hb, hbo⟩ := id H
  obtain ⟨k1, k2, k3, k4, k5, k6⟩ := id HT
  obtain ⟨b1, b2, b3, b4⟩ := B
  have h0P : 0 < P := by omega
  have w0 : qW (lEn A (lMo L false) 8) = c8 (A 153) := c8_x (fun v hv => fill_lt (h := A 153) (g := L.2.2.2.1) hv)
  have ok0 : LOK N P (lEn A (lMo L false) 8) := ⟨b1.1, b1.2.1, b1.2.2, fill_lv hen⟩
  refine ⟨lEn A (lMo L false) 8, ok0, rfl, rfl, ?_⟩
  have G := GW_SI hJ ok0 h0P hb (by rw [w0]; exact b3) b4
  have le := c8_lv hen
  refine rndS H hen HT ok0 P 0 _ (by omega) ⟨G, ?_, by rw [qI_SI, w0], qU_SI, fun _ => ⟨fun z => absurd z (by omega), DR_vac t _ (fun i a b => by omega)⟩⟩
  have T1 : TRq (jI A) x0 (lEn A (lMo L false) 8) t 1 (qI L 0) (qU L 0) (qO L 0) (c8 (A 153)) x0 := TR_fr (L := L) t _ _ _ _ _ _ (fun m _ _ => ⟨rfl, rfl, rfl⟩) b2
  have lo := qO_lv ok0 h0P
  exact TR_fr t _ _ _ _ _ _ (fun m a b => ⟨qI_SIn (by omega), rfl, qU_SIn (by omega)⟩) (TR_m hJ ok0 t 1 _ _ _ _ _ _ _ _ k4 (by omega) (qI_lv ok0 h0P) le (qU_lv ok0 h0P) hb lo lo b3 b4 (le8_rfl hJ lo) T1)
theorem lLp_sp (H : PHy N P A x0) (hen : lv8 N (A 153)) {t : RT} {ch : Nat → List (Nat × Nat × Nat)} (HT : TRA A P t ch) : ∀ (n : Nat) (L : LB), RBt N P A x0 t L → mr L = true → phL N (jI A) P L < n → e8 (qO (lLp A x0 ch P n L) 0) (flR (jI A) x0 t x0 (A 153))
  | 0, L, B, m, hn => absurd hn (Nat.not_lt_zero _)
  | n + 1, L, B, m, hn => by
    obtain ⟨hN, hP, hJk, hJ, hb, hbo⟩ := id H
    obtain ⟨k1, k2, k3, k4, k5, k6⟩ := id HT
    obtain ⟨L0, o0, m0, p0, I⟩ := rnd1 H hen HT B
    have h0P : 0 < P := by omega
    have le := c8_lv hen
    rw [lLp, if_pos (show L.2.2.2.2 = true from m)]
    generalize lRd A x0 ch P L = L' at I
    obtain ⟨G, T, i1, i2, D⟩ := I
    have lo := qO_lv G.1 h0P
    cases c : mr L' with
    | true =>
      have := phL_lt hJ hN o0 G m0 c
      exact lLp_sp H hen HT n L' ⟨⟨G.1.1, G.1.2.1, G.1.2.2.1⟩, by rw [i1, i2]; exact T, by rw [i1]; exact le8_rfl hJ le, by rw [i2]; exact jle_rfl hJ hb⟩ c (by omega)
    | false =>
      have e : lLp A x0 ch P n L' = L' := by
        cases n with
        | zero => rfl
        | succ n => rw [lLp, if_neg (show ¬ L'.2.2.2.2 = true from fun z => absurd (show mr L' = true from z) (by rw [c]; decide))]
      rw [e]
      obtain ⟨d1, d2⟩ := D c
      have lf := flR_lv hJ hb t x0 _ k4 hb le
      have q1 := lowL H G.1 t 1 _ _ _ k4 (by omega) le hb d2 (d1 h0P)
      have q2 := TR_up hJ hN hb G.1 t 1 _ _ _ _ _ k4 (by omega) le hb lo le hb (le8_rfl hJ le) (jle_rfl hJ hb) T
      exact e8_t (le8_as hJ lo lf q2 q1) (flR_cg t x0 _ _ k4 (c8_e _))
theorem z0_le (H : PHy N P A x0) (V : Nat → Int32) (hV : lv8 N V) : le8 (jI A) (c8 (fun _ => x0)) V := fun v hv => by
  rw [c8_e _ v hv]; exact H.2.2.2.2.2 _ (hV v hv)
theorem TR_0 (H : PHy N P A x0) {L : LB} (hL : ∀ m, m < P → qI L m = c8 (fun _ => x0) ∧ qO L m = c8 (fun _ => x0) ∧ qU L m = x0) : ∀ (t : RT) (k : Nat) (V : Nat → Int32) (u : Int32) (Vs : Nat → Int32) (us : Int32), wfR t → k + szR t ≤ P → lv8 N V → lv N u → lv8 N Vs → lv N us → TRq (jI A) x0 L t k V u (c8 (fun _ => x0)) Vs us
  | .leaf _, k, V, u, Vs, us, wf, hk, hV, hu, hVs, hus => z0_le H V hV
  | .branch v (.leaf e) R, k, V, u, Vs, us, wf, hk, hV, hu, hVs, hus => by
    obtain ⟨hN, hP, hJk, hJ, hb, hbo⟩ := id H
    rw [szR] at hk
    have l0 : lv8 N (c8 (fun _ => x0)) := c8_lv (fun _ _ => hb)
    obtain ⟨e1, e2, e3⟩ := hL k (by omega)
    rw [TRq, e1, e2, e3]
    exact ⟨⟨z0_le H V hV, hbo u hu, z0_le H _ (up_lv l0 (hJ.1 _ _ hb (lbE_lv hJ hb l0 e wf.2.1)))⟩, TR_0 H hL R _ _ u _ us wf.2.2 (by omega) l0 hu (up_lv hVs (hJ.1 _ _ hus (lbE_lv hJ hb hVs e wf.2.1))) hus⟩
  | .branch _ (.branch _ (.leaf e) r) R, k, V, u, Vs, us, wf, hk, hV, hu, hVs, hus => by
    obtain ⟨hN, hP, hJk, hJ, hb, hbo⟩ := id H
    rw [szR] at hk
    have l0 : lv8 N (c8 (fun _ => x0)) := c8_lv (fun _ _ => hb)
    obtain ⟨e1, e2, e3⟩ := hL k (by omega)
    obtain ⟨e4, e5, e6⟩ := hL (k + 1 + szE e) (by omega)
    have lr := rj_lv hJ l0 l0
    have lw := (lpF hJ hN hb wf.2.1 wf.1 hus hVs).1
    have lx := hJ.1 _ _ hus (lbE_lv hJ hb lw e wf.1)
    rw [TRq, e1, e2, e3, e4, e5, e6]
    exact ⟨⟨z0_le H V hV, hbo u hu, z0_le H _ lr, hbo _ (hJ.1 _ _ hb (lbE_lv hJ hb lr e wf.1)), z0_le H _ lr, z0_le H _ (flR_lv hJ hb r _ _ wf.2.1 lx lw)⟩, TR_0 H hL r _ _ _ _ _ wf.2.1 (by omega) l0 hb lw lx, TR_0 H hL R _ _ u _ us wf.2.2 (by omega) l0 hu lw hus⟩
  | .branch _ (.branch _ (.branch _ (.leaf e) r1) r2) R, k, V, u, Vs, us, wf, hk, hV, hu, hVs, hus => by
    obtain ⟨hN, hP, hJk, hJ, hb, hbo⟩ := id H
    rw [szR] at hk
    have l0 : lv8 N (c8 (fun _ => x0)) := c8_lv (fun _ _ => hb)
    obtain ⟨e1, e2, e3⟩ := hL k (by omega)
    obtain ⟨e4, e5, e6⟩ := hL (k + 1 + szE e) (by omega)
    obtain ⟨e7, e8, e9⟩ := hL (k + 1 + szE e + 1 + szR r1) (by omega)
    have lx := hJ.1 _ _ hus (lbE_lv hJ hb hVs e wf.1)
    have ly := hJ.1 _ _ hb (lbE_lv hJ hb l0 e wf.1)
    rw [TRq, e1, e2, e3, e4, e5, e6, e7, e8, e9]
    exact ⟨⟨z0_le H V hV, hbo u hu, z0_le H _ l0, z0_le H _ l0, hbo _ ly, hbo _ ly, z0_le H _ (rj_lv hJ l0 l0)⟩, TR_0 H hL r1 _ _ _ _ _ wf.2.1 (by omega) l0 hb hVs lx, TR_0 H hL r2 _ _ _ _ _ wf.2.2.1 (by omega) l0 hb hVs lx, TR_0 H hL R _ _ u _ us wf.2.2.2 (by omega) l0 hu (rj_lv hJ (flR_lv hJ hb r2 _ _ wf.2.2.1 lx hVs) (flR_lv hJ hb r1 _ _ wf.2.1 lx hVs)) hus⟩
  | .branch _ (.branch _ (.branch _ (.branch _ _ _) _) _) _, k, V, u, Vs, us, wf, hk, hV, hu, hVs, hus => wf.elim
/-- the reference's exit labels are the flow's -/
theorem lPG_fl (H : PHy N P A x0) (hen : lv8 N (A 153)) {t : RT} {ch : Nat → List (Nat × Nat × Nat)} (HT : TRA A P t ch) (h73 : P ≤ 73) (L0 : LB) : e8 (lPG A x0 ch P L0).2.1 (flR (jI A) x0 t x0 (A 153)) := by
  obtain ⟨hN, hP, hJk, hJ, hb, hbo⟩ := id H
  obtain ⟨k1, k2, k3, k4, k5, k6⟩ := id HT
  have h0P : 0 < P := by omega
  have hf : ∀ (g : Nat → Int32) (n i : Nat), i < n → fillF (fun _ => x0) g n i = x0 := fun g n i hi => fill_lt hi
  have hL : ∀ m, m < P → qI (lMo (lIn2 x0 (lIn1 x0 L0 (8 * P)) P) true) m = c8 (fun _ => x0) ∧ qO (lMo (lIn2 x0 (lIn1 x0 L0 (8 * P)) P) true) m = c8 (fun _ => x0) ∧ qU (lMo (lIn2 x0 (lIn1 x0 L0 (8 * P)) P) true) m = x0 := fun m hm => ⟨c8_x (fun v hv => hf _ _ _ (by omega)), c8_x (fun v hv => hf _ _ _ (by omega)), hf _ _ _ hm⟩
  obtain ⟨e1, e2, e3⟩ := hL 0 h0P
  have l0 : lv8 N (c8 (fun _ => x0)) := c8_lv (fun _ _ => hb)
  have le := c8_lv hen
  have q := lLp_sp H hen HT 10000 (lMo (lIn2 x0 (lIn1 x0 L0 (8 * P)) P) true) ⟨⟨fun j hj => by rw [show (lMo (lIn2 x0 (lIn1 x0 L0 (8 * P)) P) true).1 j = x0 from hf _ _ _ hj]; exact hb, fun j hj => by rw [show (lMo (lIn2 x0 (lIn1 x0 L0 (8 * P)) P) true).2.1 j = x0 from hf _ _ _ hj]; exact hb, fun m hm => by rw [show (lMo (lIn2 x0 (lIn1 x0 L0 (8 * P)) P) true).2.2.1 m = x0 from hf _ _ _ hm]; exact hb⟩, by rw [e1, e2, e3]; exact TR_0 H hL t 1 _ _ _ _ k4 (by omega) l0 hb le hb, by rw [e1]; exact z0_le H _ le, by rw [e3]; exact jle_rfl hJ hb⟩ rfl (by have := phL_max (N := N) (P := P) (lMo (lIn2 x0 (lIn1 x0 L0 (8 * P)) P) true) (jI A); omega)
  intro v hv
  rw [← q v hv]
  show _ = c8 _ v
  rw [c8_e _ v hv, Nat.mul_zero, Nat.zero_add]
  rfl
end PRN
