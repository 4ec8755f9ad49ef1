/-! ===== the reference's labels of a program: a row, and the rows inside ===== -/
section PRX
variable {N P : Nat} {A : Nat → Nat → Int32} {x0 : Int32}
theorem SQo_r {a b c d : Nat} {L L' : LB} (s : SQo a b L L') (h : d ≤ a ∨ b ≤ c) : SQr c d L L' := fun m h1 h2 => s m (by omega)
theorem SQr_t {a b : Nat} {L L1 L2 : LB} (s : SQr a b L L1) (s2 : SQr a b L1 L2) : SQr a b L L2 := fun m h1 h2 => ⟨(s2 m h1 h2).1.trans (s m h1 h2).1, (s2 m h1 h2).2.1.trans (s m h1 h2).2.1, (s2 m h1 h2).2.2.trans (s m h1 h2).2.2⟩
theorem SQo_t {a b : Nat} {L L1 L2 : LB} (s : SQo a b L L1) (s2 : SQo a b L1 L2) : SQo a b L L2 := fun m h => ⟨(s2 m h).1.trans (s m h).1, (s2 m h).2.1.trans (s m h).2.1, (s2 m h).2.2.trans (s m h).2.2⟩
theorem SQo_m {a b a' b' : Nat} {L L' : LB} (s : SQo a b L L') (h1 : a' ≤ a) (h2 : b ≤ b') : SQo a' b' L L' := fun m h => s m (by omega)
theorem rowL (H : PHy N P A x0) {j : Nat} : ∀ (t : RT) (k : Nat) (L : LB) (O Vs : Nat → Int32) (us : Int32), rpR A t k → wfR t → k + szR t ≤ P → j < k → LOK N P L → lv8 N O → TRq (jI A) x0 L t k (qW L) (qU L j) O Vs us →
    GW N (jI A) P L (lRW A x0 j L (chL t k)) ∧ TRq (jI A) x0 (lRW A x0 j L (chL t k)) t k (qW L) (qU L j) (qW (lRW A x0 j L (chL t k))) Vs us ∧ RLq (jI A) x0 (lRW A x0 j L (chL t k)) t k (qW L) (qU L j) (qW (lRW A x0 j L (chL t k))) ∧ le8 (jI A) O (qW (lRW A x0 j L (chL t k))) ∧ SQo k (k + szR t) L (lRW A x0 j L (chL t k))
  | .leaf _, k, L, O, Vs, us, r, wf, hk, hj, hL, hO, T => ⟨GW_id H.2.2.2.1 hL hL rfl rfl rfl rfl, le8_rfl H.2.2.2.1 (qW_lv hL), rfl, T, fun m _ => ⟨rfl, rfl, rfl⟩⟩
  | .branch v (.leaf e) R, k, L, O, Vs, us, r, wf, hk, hj, hL, hO, T => by
    obtain ⟨hN, hP, hJk, hJ, hb, hbo⟩ := id H
    rw [szR] at hk
    obtain ⟨⟨r1, r2⟩, r3, r4⟩ := r
    obtain ⟨⟨t1, t2, t3⟩, t4⟩ := T
    have hkP : k < P := by omega
    have lw := qW_lv hL
    have li := qI_lv hL hkP
    have lo := qO_lv hL hkP
    have lku := qU_lv hL hkP
    have lu := qU_lv hL (show j < P by omega)
    have a1 := lbE_lv hJ hb li e wf.2.1
    have a2 := lbE_lv hJ hb lw e wf.2.1
    have lS : lv8 N (upd (qW L) v (jI A (qU L j) (lbE (jI A) x0 (qW L) e))) := up_lv lw (hJ.1 _ _ lu a2)
    have g3 : le8 (jI A) (qO L k) (upd (qW L) v (jI A (qU L j) (lbE (jI A) x0 (qW L) e))) := le8_tr hJ lo (up_lv li (hJ.1 _ _ lku a1)) lS t3 (up_m8 v t1 (jle_m hJ lku a1 lu a2 t2 (lbE_m hJ hb li lw t1 e wf.2.1)))
    generalize hL1 : lTO (lST A x0 (lSI L k (qU L j)) k (k + 1) (k + 1 + szE e)) k = L1
    obtain ⟨G1, ⟨i1, i2, i3, i4⟩, i5⟩ := st_as H hL r1 r2 wf.1 wf.2.1 hkP lu t1 t2 g3 hL1.symm
    have e9 : lRW A x0 j L (chL (.branch v (.leaf e) R) k) = lRW A x0 j L1 (chL R (k + 1 + szE e)) := by
      rw [← hL1]
      show lRW A x0 j _ (chL R (k + (1 + szE e))) = _
      rw [show k + (1 + szE e) = k + 1 + szE e by omega]
      rfl
    rw [e9]
    have uj : qU L1 j = qU L j := (i5 j (by omega)).2.2
    have T1 : TRq (jI A) x0 L1 R (k + 1 + szE e) (qW L1) (qU L1 j) O (upd Vs v (jI A us (lbE (jI A) x0 Vs e))) us := by
      rw [i4, uj]
      exact TR_fr R _ _ _ _ _ _ (fun m h1 h2 => i5 m (by omega)) (TR_m hJ hL R _ _ _ _ _ O O _ us wf.2.2 (by omega) lo lS lu lu hO hO g3 (jle_rfl hJ lu) (le8_rfl hJ hO) t4)
    obtain ⟨G2, T2, R2, O2, S2⟩ := rowL H R (k + 1 + szE e) L1 O _ us r4 wf.2.2 (by omega) (by omega) G1.1 hO T1
    generalize lRW A x0 j L1 (chL R (k + 1 + szE e)) = L2 at *
    obtain ⟨s1, s2, s3⟩ := S2 k (Or.inl (by omega))
    rw [i1] at s1
    rw [i3] at s2
    rw [i2] at s3
    rw [i4, uj] at T2 R2
    refine ⟨GW_tr hJ hL G1 G2, ?_, ?_, O2, fun m hm => ?_⟩
    · rw [TRq, s1, s2, s3]
      exact ⟨⟨le8_rfl hJ lw, jle_rfl hJ lu, le8_rfl hJ lS⟩, T2⟩
    · rw [RLq, s1, s2, s3]
      exact ⟨⟨rfl, rfl, rfl⟩, R2⟩
    · rw [szR] at hm
      obtain ⟨z1, z2, z3⟩ := S2 m (by omega)
      obtain ⟨y1, y2, y3⟩ := i5 m (by omega)
      exact ⟨z1.trans y1, z2.trans y2, z3.trans y3⟩
  | .branch v9 (.branch v8 (.leaf e) r0) R, k, L, O, Vs, us, r, wf, hk, hj, hL, hO, T => by
    obtain ⟨hN, hP, hJk, hJ, hb, hbo⟩ := id H
    rw [szR] at hk
    have sp := szE_pos e
    obtain ⟨⟨r1, r2, r5⟩, r3, r4⟩ := r
    obtain ⟨⟨t1, t2, t3, t6, t7, t8⟩, t5, t4⟩ := T
    have eb : k + 1 + szE e + 1 = k + 1 + szE e + 1 := rfl
    have hkP : k < P := by omega
    have hbP : k + 1 + szE e < P := by omega
    have lw := qW_lv hL
    have li := qI_lv hL hkP
    have lo := qO_lv hL hkP
    have lku := qU_lv hL hkP
    have lib := qI_lv hL hbP
    have lob := qO_lv hL hbP
    have lub := qU_lv hL hbP
    have lu := qU_lv hL (show j < P by omega)
    have lW0 := rj_lv hJ li lob
    have lW1 := rj_lv hJ lw lob
    have lW : lv8 N (c8 (rj (jI A) (qW L) (qO L (k + 1 + szE e)))) := c8_lv lW1
    have w1 : le8 (jI A) (rj (jI A) (qI L k) (qO L (k + 1 + szE e))) (c8 (rj (jI A) (qW L) (qO L (k + 1 + szE e)))) := le8_tr hJ lW0 lW1 lW (rj_m hJ li lob lw lob t1 (le8_rfl hJ lob)) (le8_e hJ lW1 (e8_s (c8_e _)))
    have a1 := lbE_lv hJ hb lW0 e wf.1
    have a2 := lbE_lv hJ hb lW e wf.1
    have g3 := le8_tr hJ lib lW0 lW t3 w1
    have g4 := jle_tr hJ lub (hJ.1 _ _ lku a1) (hJ.1 _ _ lu a2) t6 (jle_m hJ lku a1 lu a2 t2 (lbE_m hJ hb lW0 lW w1 e wf.1))
    have g5 := le8_tr hJ lo lW0 lW t7 w1
    generalize hL1 : lTO (lST A x0 (lSI L k (qU L j)) k (k + 1) (k + 1 + szE e)) k = L1
    obtain ⟨G1, ⟨i1, i2, i3, i4, i6, i7, i8⟩, i5⟩ := st_lp H hL r1 wf.1 hkP hbP (by omega) lu t1 t2 g3 g4 g5 hL1.symm
    have e9 : lRW A x0 j L (chL (.branch v9 (.branch v8 (.leaf e) r0) R) k) = lRW A x0 j L1 (chL R (k + 1 + szE e + 1 + szR r0)) := by
      rw [← hL1]
      show lRW A x0 j _ (chL R (k + (1 + szE e + 1 + szR r0))) = _
      rw [show k + (1 + szE e + 1 + szR r0) = k + 1 + szE e + 1 + szR r0 by omega]
      rfl
    rw [e9]
    have uj : qU L1 j = qU L j := (i5 j (by omega) (by omega)).2.2
    have T1 : TRq (jI A) x0 L1 R (k + 1 + szE e + 1 + szR r0) (qW L1) (qU L1 j) O (flL (stL (jI A) x0 r0 e us) 100 Vs) us := by
      rw [i4, uj]
      exact TR_fr R _ _ _ _ _ _ (fun m h1 h2 => i5 m (by omega) (by omega)) (TR_m hJ hL R _ _ _ _ _ O O _ us wf.2.2 (by omega) lo lW lu lu hO hO g5 (jle_rfl hJ lu) (le8_rfl hJ hO) t4)
    obtain ⟨G2, T2, R2, O2, S2⟩ := rowL H R (k + 1 + szE e + 1 + szR r0) L1 O _ us r4 wf.2.2 (by omega) (by omega) G1.1 hO T1
    generalize lRW A x0 j L1 (chL R (k + 1 + szE e + 1 + szR r0)) = L2 at *
    obtain ⟨s1, s2, s3⟩ := S2 k (Or.inl (by omega))
    obtain ⟨s4, s5, s6⟩ := S2 (k + 1 + szE e) (Or.inl (by omega))
    rw [i1] at s1
    rw [i3] at s2
    rw [i2] at s3
    rw [i6] at s4
    rw [i8] at s5
    rw [i7] at s6
    rw [i4, uj] at T2 R2
    refine ⟨GW_tr hJ hL G1 G2, ?_, ?_, O2, fun m hm => ?_⟩
    · rw [TRq, s1, s2, s3, s4, s5, s6]
      refine ⟨⟨le8_rfl hJ lw, jle_rfl hJ lu, le8_e hJ lW (c8_e _), ?_, le8_e hJ lW (c8_e _), t8⟩, ?_, T2⟩
      · rw [lbE_cg (c8_e (rj (jI A) (qW L) (qO L (k + 1 + szE e)))) e wf.1]
        exact jle_rfl hJ (hJ.1 _ _ lu (lbE_lv hJ hb lW1 e wf.1))
      · refine TR_fr r0 _ _ _ _ _ _ (SQr_t (fun m h1 h2 => i5 m (by omega) (by omega)) (SQo_r S2 (by omega))) (TR_m hJ hL r0 _ _ _ _ _ _ _ _ _ wf.2.1 (by omega) lib lW lub (hJ.1 _ _ lu a2) lob lob g3 g4 (le8_rfl hJ lob) t5)
    · rw [RLq, s1, s2, s3, s4, s5, s6]
      exact ⟨⟨rfl, rfl, rfl, rfl, rfl⟩, R2⟩
    · rw [szR] at hm
      obtain ⟨z1, z2, z3⟩ := S2 m (by omega)
      obtain ⟨y1, y2, y3⟩ := i5 m (by omega) (by omega)
      exact ⟨z1.trans y1, z2.trans y2, z3.trans y3⟩
  | .branch v9 (.branch v8 (.branch v7 (.leaf e) ra) rb) R, k, L, O, Vs, us, r, wf, hk, hj, hL, hO, T => by
    obtain ⟨hN, hP, hJk, hJ, hb, hbo⟩ := id H
    rw [szR] at hk
    have sp := szE_pos e
    obtain ⟨⟨r1, r2, r5, r6, r7⟩, r3, r4⟩ := r
    obtain ⟨⟨t1, t2, t3, t7, t8, t9, t10⟩, t5, t6, t4⟩ := T
    have hkP : k < P := by omega
    have hbP : k + 1 + szE e < P := by omega
    have hcP : k + 1 + szE e + 1 + szR ra < P := by omega
    have lw := qW_lv hL
    have li := qI_lv hL hkP
    have lo := qO_lv hL hkP
    have lku := qU_lv hL hkP
    have lib := qI_lv hL hbP
    have lob := qO_lv hL hbP
    have lub := qU_lv hL hbP
    have lic := qI_lv hL hcP
    have loc := qO_lv hL hcP
    have luc := qU_lv hL hcP
    have lu := qU_lv hL (show j < P by omega)
    have lW1 := rj_lv hJ lob loc
    have lW : lv8 N (c8 (rj (jI A) (qO L (k + 1 + szE e)) (qO L (k + 1 + szE e + 1 + szR ra)))) := c8_lv lW1
    have a1 := lbE_lv hJ hb li e wf.1
    have a2 := lbE_lv hJ hb lw e wf.1
    have a3 := jle_m hJ lku a1 lu a2 t2 (lbE_m hJ hb li lw t1 e wf.1)
    have lx := hJ.1 _ _ lu a2
    have g3 := le8_tr hJ lib li lw t3 t1
    have g3c := le8_tr hJ lic li lw t7 t1
    have g4 := jle_tr hJ lub (hJ.1 _ _ lku a1) lx t8 a3
    have g4c := jle_tr hJ luc (hJ.1 _ _ lku a1) lx t9 a3
    have g5 := le8_tr hJ lo lW1 lW t10 (le8_e hJ lW1 (e8_s (c8_e _)))
    generalize hL1 : lTO (lST A x0 (lSI L k (qU L j)) k (k + 1) (k + 1 + szE e)) k = L1
    obtain ⟨G1, ⟨i1, i2, i3, i4, ⟨i6, i7, i8⟩, i9, i10, i11⟩, i5⟩ := st_cx H hL r1 r2.2.2 wf.1 hkP hbP hcP (by omega) (by omega) lu t1 t2 g3 g3c g4 g4c g5 hL1.symm
    have e9 : lRW A x0 j L (chL (.branch v9 (.branch v8 (.branch v7 (.leaf e) ra) rb) R) k) = lRW A x0 j L1 (chL R (k + 1 + szE e + 1 + szR ra + 1 + szR rb)) := by
      rw [← hL1]
      show lRW A x0 j _ (chL R (k + (1 + szE e + 1 + szR ra + 1 + szR rb))) = _
      rw [show k + (1 + szE e + 1 + szR ra + 1 + szR rb) = k + 1 + szE e + 1 + szR ra + 1 + szR rb by omega]
      rfl
    rw [e9]
    have uj : qU L1 j = qU L j := (i5 j (by omega) (by omega) (by omega)).2.2
    have T1 : TRq (jI A) x0 L1 R (k + 1 + szE e + 1 + szR ra + 1 + szR rb) (qW L1) (qU L1 j) O (rj (jI A) (flR (jI A) x0 rb (jI A us (lbE (jI A) x0 Vs e)) Vs) (flR (jI A) x0 ra (jI A us (lbE (jI A) x0 Vs e)) Vs)) us := by
      rw [i4, uj]
      exact TR_fr R _ _ _ _ _ _ (fun m h1 h2 => i5 m (by omega) (by omega) (by omega)) (TR_m hJ hL R _ _ _ _ _ O O _ us wf.2.2.2 (by omega) lo lW lu lu hO hO g5 (jle_rfl hJ lu) (le8_rfl hJ hO) t4)
    obtain ⟨G2, T2, R2, O2, S2⟩ := rowL H R (k + 1 + szE e + 1 + szR ra + 1 + szR rb) L1 O _ us r4 wf.2.2.2 (by omega) (by omega) G1.1 hO T1
    generalize lRW A x0 j L1 (chL R (k + 1 + szE e + 1 + szR ra + 1 + szR rb)) = L2 at *
    obtain ⟨s1, s2, s3⟩ := S2 k (Or.inl (by omega))
    obtain ⟨s4, s5, s6⟩ := S2 (k + 1 + szE e) (Or.inl (by omega))
    obtain ⟨s7, s8, s9⟩ := S2 (k + 1 + szE e + 1 + szR ra) (Or.inl (by omega))
    rw [i1] at s1
    rw [i3] at s2
    rw [i2] at s3
    rw [i6] at s4
    rw [i8] at s5
    rw [i7] at s6
    rw [i9] at s7
    rw [i11] at s8
    rw [i10] at s9
    rw [i4, uj] at T2 R2
    refine ⟨GW_tr hJ hL G1 G2, ?_, ?_, O2, fun m hm => ?_⟩
    · rw [TRq, s1, s2, s3, s4, s5, s6, s7, s8, s9]
      refine ⟨⟨le8_rfl hJ lw, jle_rfl hJ lu, le8_rfl hJ lw, le8_rfl hJ lw, jle_rfl hJ lx, jle_rfl hJ lx, le8_e hJ lW (c8_e _)⟩, ?_, ?_, T2⟩
      · exact TR_fr ra _ _ _ _ _ _ (SQr_t (fun m h1 h2 => i5 m (by omega) (by omega) (by omega)) (SQo_r S2 (by omega))) (TR_m hJ hL ra _ _ _ _ _ _ _ _ _ wf.2.1 (by omega) lib lw lub lx lob lob g3 g4 (le8_rfl hJ lob) t5)
      · exact TR_fr rb _ _ _ _ _ _ (SQr_t (fun m h1 h2 => i5 m (by omega) (by omega) (by omega)) (SQo_r S2 (by omega))) (TR_m hJ hL rb _ _ _ _ _ _ _ _ _ wf.2.2.1 (by omega) lic lw luc lx loc loc g3c g4c (le8_rfl hJ loc) t6)
    · rw [RLq, s1, s2, s3, s4, s5, s6, s7, s8, s9]
      exact ⟨⟨rfl, rfl, rfl, rfl, rfl, rfl, rfl⟩, R2⟩
    · rw [szR] at hm
      obtain ⟨z1, z2, z3⟩ := S2 m (by omega)
      obtain ⟨y1, y2, y3⟩ := i5 m (by omega) (by omega) (by omega)
      exact ⟨z1.trans y1, z2.trans y2, z3.trans y3⟩
  | .branch _ (.branch _ (.branch _ (.branch _ _ _) _) _) _, k, L, O, Vs, us, r, wf, hk, hj, hL, hO, T => wf.elim
end PRX
