/-! ===== the reference's labels of a program: the rows inside ===== -/
def DRq (J : Int32 → Int32 → Int32) (bo : Int32) (L : LB) (S : Nat → Prop) : RT → Nat → Prop
  | .leaf _, _ => True
  | .branch _ (.leaf e) R, k => DRq J bo L S R (k + 1 + szE e)
  | .branch _ (.branch _ (.leaf e) r) R, k => (S (k + 1 + szE e) → RLq J bo L r (k + 1 + szE e + 1) (qI L (k + 1 + szE e)) (qU L (k + 1 + szE e)) (qO L (k + 1 + szE e))) ∧ DRq J bo L S r (k + 1 + szE e + 1) ∧ DRq J bo L S R (k + 1 + szE e + 1 + szR r)
  | .branch _ (.branch _ (.branch _ (.leaf e) r1) r2) R, k => (S (k + 1 + szE e) → RLq J bo L r1 (k + 1 + szE e + 1) (qI L (k + 1 + szE e)) (qU L (k + 1 + szE e)) (qO L (k + 1 + szE e))) ∧ (S (k + 1 + szE e + 1 + szR r1) → RLq J bo L r2 (k + 1 + szE e + 1 + szR r1 + 1) (qI L (k + 1 + szE e + 1 + szR r1)) (qU L (k + 1 + szE e + 1 + szR r1)) (qO L (k + 1 + szE e + 1 + szR r1))) ∧ DRq J bo L S r1 (k + 1 + szE e + 1) ∧ DRq J bo L S r2 (k + 1 + szE e + 1 + szR r1 + 1) ∧ DRq J bo L S R (k + 1 + szE e + 1 + szR r1 + 1 + szR r2)
  | .branch _ (.branch _ (.branch _ (.branch _ _ _) _) _) _, _ => True
theorem DR_vac {J : Int32 → Int32 → Int32} {bo : Int32} {L : LB} {S : Nat → Prop} : ∀ (t : RT) (k : Nat), (∀ i, k ≤ i → i < k + szR t → ¬ S i) → DRq J bo L S t k
  | .leaf _, k, h => trivial
  | .branch _ (.leaf e) R, k, h => by
    rw [szR] at h
    exact DR_vac R _ (fun i a b => h i (by omega) (by omega))
  | .branch _ (.branch _ (.leaf e) r) R, k, h => by
    rw [szR] at h
    exact ⟨fun z => absurd z (h _ (by omega) (by omega)), DR_vac r _ (fun i a b => h i (by omega) (by omega)), DR_vac R _ (fun i a b => h i (by omega) (by omega))⟩
  | .branch _ (.branch _ (.branch _ (.leaf e) r1) r2) R, k, h => by
    rw [szR] at h
    exact ⟨fun z => absurd z (h _ (by omega) (by omega)), fun z => absurd z (h _ (by omega) (by omega)), DR_vac r1 _ (fun i a b => h i (by omega) (by omega)), DR_vac r2 _ (fun i a b => h i (by omega) (by omega)), DR_vac R _ (fun i a b => h i (by omega) (by omega))⟩
  | .branch _ (.branch _ (.branch _ (.branch _ _ _) _) _) _, k, h => trivial
theorem DR_fr {J : Int32 → Int32 → Int32} {bo : Int32} {L L' : LB} {S : Nat → Prop} : ∀ (t : RT) (k : Nat), SQr k (k + szR t) L L' → DRq J bo L S t k → DRq J bo L' S t k
  | .leaf _, k, s, T => trivial
  | .branch _ (.leaf e) R, k, s, T => by
    rw [szR] at s
    exact DR_fr R _ (SQr_m s (by omega) (by omega)) T
  | .branch _ (.branch _ (.leaf e) r) R, k, s, T => by
    rw [szR] at s
    obtain ⟨e4, e5, e6⟩ := s (k + 1 + szE e) (by omega) (by omega)
    rw [DRq] at T ⊢
    rw [e4, e5, e6]
    exact ⟨fun z => RL_fr r _ _ _ _ (SQr_m s (by omega) (by omega)) (T.1 z), DR_fr r _ (SQr_m s (by omega) (by omega)) T.2.1, DR_fr R _ (SQr_m s (by omega) (by omega)) T.2.2⟩
  | .branch _ (.branch _ (.branch _ (.leaf e) r1) r2) R, k, s, T => by
    rw [szR] at s
    obtain ⟨e4, e5, e6⟩ := s (k + 1 + szE e) (by omega) (by omega)
    obtain ⟨e7, e8, e9⟩ := s (k + 1 + szE e + 1 + szR r1) (by omega) (by omega)
    rw [DRq] at T ⊢
    rw [e4, e5, e6, e7, e8, e9]
    exact ⟨fun z => RL_fr r1 _ _ _ _ (SQr_m s (by omega) (by omega)) (T.1 z), fun z => RL_fr r2 _ _ _ _ (SQr_m s (by omega) (by omega)) (T.2.1 z), DR_fr r1 _ (SQr_m s (by omega) (by omega)) T.2.2.1, DR_fr r2 _ (SQr_m s (by omega) (by omega)) T.2.2.2.1, DR_fr R _ (SQr_m s (by omega) (by omega)) T.2.2.2.2⟩
  | .branch _ (.branch _ (.branch _ (.branch _ _ _) _) _) _, k, s, T => trivial
theorem DR_or {J : Int32 → Int32 → Int32} {bo : Int32} {A : Nat → Nat → Int32} {L : LB} {S S' S'' : Nat → Prop} (hS : ∀ i, A 159 i = 6 → S'' i → S i ∨ S' i) : ∀ (t : RT) (k : Nat), rpR A t k → DRq J bo L S t k → DRq J bo L S' t k → DRq J bo L S'' t k
  | .leaf _, k, r, T, T' => trivial
  | .branch _ (.leaf e) R, k, r, T, T' => DR_or hS R _ r.2.2 T T'
  | .branch _ (.branch _ (.leaf e) x) R, k, r, T, T' => ⟨fun z => (hS _ r.1.2.1.1 z).elim T.1 T'.1, DR_or hS x _ r.1.2.2 T.2.1 T'.2.1, DR_or hS R _ r.2.2 T.2.2 T'.2.2⟩
  | .branch _ (.branch _ (.branch _ (.leaf e) x) y) R, k, r, T, T' => ⟨fun z => (hS _ r.1.2.1.1 z).elim T.1 T'.1, fun z => (hS _ r.1.2.2.2.1.1 z).elim T.2.1 T'.2.1, DR_or hS x _ r.1.2.2.1 T.2.2.1 T'.2.2.1, DR_or hS y _ r.1.2.2.2.2 T.2.2.2.1 T'.2.2.2.1, DR_or hS R _ r.2.2 T.2.2.2.2 T'.2.2.2.2⟩
  | .branch _ (.branch _ (.branch _ (.branch _ _ _) _) _) _, k, r, T, T' => trivial
section PDP
variable {N P : Nat} {A : Nat → Nat → Int32} {x0 : Int32}
theorem rowO (H : PHy N P A x0) {j : Nat} {r : RT} (hj : j < P) {L : LB} {Vs : Nat → Int32} {us : Int32} (hr : rpR A r (j + 1)) (wf : wfR r) (hk : j + 1 + szR r ≤ P) (hL : LOK N P L) (T : TRq (jI A) x0 L r (j + 1) (qI L j) (qU L j) (qO L j) Vs us) {L' : LB} (hL' : L' = lRO A x0 L j (chL r (j + 1))) :
    GW N (jI A) P L L' ∧ TRq (jI A) x0 L' r (j + 1) (qI L j) (qU L j) (qO L' j) Vs us ∧ RLq (jI A) x0 L' r (j + 1) (qI L j) (qU L j) (qO L' j) ∧ (qI L' j = qI L j ∧ qU L' j = qU L j ∧ le8 (jI A) (qO L j) (qO L' j)) ∧ SQo j (j + 1 + szR r) L L' := by
  have hJ := H.2.2.2.1
  have ok1 : LOK N P (lTI L j) := lTI_ok hL hj
  have T1 : TRq (jI A) x0 (lTI L j) r (j + 1) (qW (lTI L j)) (qU (lTI L j) j) (qO L j) Vs us := by
    rw [qW_TI]
    exact TR_fr (L := L) (L' := lTI L j) r _ _ _ _ _ _ (fun m _ _ => ⟨rfl, rfl, rfl⟩) T
  obtain ⟨G2, T2, R2, O2, S2⟩ := rowL H r (j + 1) (lTI L j) (qO L j) Vs us hr wf hk (Nat.lt_succ_self j) ok1 (qO_lv hL hj) T1
  have el : L' = lSO (lRW A x0 j (lTI L j) (chL r (j + 1))) j := hL'
  clear hL'
  subst el
  rw [qW_TI] at T2 R2
  generalize lRW A x0 j (lTI L j) (chL r (j + 1)) = L2 at *
  obtain ⟨s1, s2, s3⟩ := S2 j (Or.inl (Nat.lt_succ_self j))
  have s1 : qI L2 j = qI L j := s1
  have s2 : qO L2 j = qO L j := s2
  have s3 : qU L2 j = qU L j := s3
  have fr : SQr (j + 1) (j + 1 + szR r) L2 (lSO L2 j) := fun m h1 h2 => ⟨rfl, qO_SOn (by omega), rfl⟩
  refine ⟨GW_tr hJ hL (GW_id hJ hL ok1 rfl rfl rfl rfl) (GW_tr hJ ok1 G2 (GW_SO hJ G2.1 hj (by rw [s2]; exact O2))), ?_, ?_, ⟨s1, s3, ?_⟩, fun m hm => ?_⟩
  · rw [qO_SO]
    exact TR_fr r _ _ _ _ _ _ fr T2
  · rw [qO_SO]
    exact RL_fr r _ _ _ _ fr R2
  · rw [qO_SO]; exact O2
  · obtain ⟨z1, z2, z3⟩ := S2 m (by omega)
    exact ⟨z1, (qO_SOn (by omega)).trans z2, z3⟩
theorem deepL (H : PHy N P A x0) {ch : Nat → List (Nat × Nat × Nat)} (hch : ∀ (r : RT) (b : Nat), A 162 b = lnk r (b + 1) → rpR A r (b + 1) → wfR r → b + 1 + szR r ≤ P → ch b = chL r (b + 1)) {j : Nat} (hj6 : A 159 j = 6) {L : LB} (hL : LOK N P L) {L' : LB} (hL' : L' = lRO A x0 L j (ch j)) : ∀ (t : RT) (k : Nat) (V : Nat → Int32) (u : Int32) (O Vs : Nat → Int32) (us : Int32), rpR A t k → wfR t → k + szR t ≤ P → k ≤ j → j < k + szR t → lv8 N V → lv N u → lv8 N O → lv8 N Vs → lv N us → le8 (jI A) V Vs → jle (jI A) u us → TRq (jI A) x0 L t k V u O Vs us →
    GW N (jI A) P L L' ∧ TRq (jI A) x0 L' t k V u O Vs us ∧ DRq (jI A) x0 L' (fun i => i = j) t k ∧ SQo k (k + szR t) L L'
  | .leaf _, k, V, u, O, Vs, us, r, wf, hk, h1, h2, hV, hu, hO, hVs, hus, q1, q2, T => by rw [szR] at h2; omega
  | .branch v (.leaf e) R, k, V, u, O, Vs, us, r, wf, hk, h1, h2, hV, hu, hO, hVs, hus, q1, q2, T => by
    obtain ⟨hN, hP, hJk, hJ, hb, hbo⟩ := id H
    rw [szR] at hk h2
    obtain ⟨⟨r1, r2⟩, r3, r4⟩ := r
    obtain ⟨⟨t1, t2, t3⟩, t4⟩ := T
    have c1 : k + 1 + szE e ≤ j := by
      apply Nat.le_of_not_lt
      intro c
      by_cases c0 : j = k
      · rw [c0, r1.1] at hj6; exact absurd hj6 (by decide)
      · have := (rpE_kd e _ r1.2.2.2.2 wf.2.1 j (by omega) c).1
        rw [hj6] at this
        exact absurd this (by decide)
    have li := qI_lv hL (show k < P by omega)
    have lo := qO_lv hL (show k < P by omega)
    have lu := qU_lv hL (show k < P by omega)
    have g1 := le8_tr hJ li hV hVs t1 q1
    have a1 := lbE_lv hJ hb li e wf.2.1
    have a2 := lbE_lv hJ hb hVs e wf.2.1
    have a3 := hJ.1 _ _ lu a1
    have a4 := hJ.1 _ _ hus a2
    have g5 := le8_tr hJ lo (up_lv li a3) (up_lv hVs a4) t3 (up_m8 v g1 (jle_m hJ lu a1 hus a2 (jle_tr hJ lu hu hus t2 q2) (lbE_m hJ hb li hVs g1 e wf.2.1)))
    obtain ⟨G, T2, D2, S2⟩ := deepL H hch hj6 hL hL' R _ _ u O _ us r4 wf.2.2 (by omega) c1 (by omega) lo hu hO (up_lv hVs a4) hus g5 q2 t4
    obtain ⟨s1, s2, s3⟩ := S2 k (Or.inl (by omega))
    refine ⟨G, ?_, D2, fun m hm => S2 m (by rw [szR] at hm; omega)⟩
    rw [TRq, s1, s2, s3]
    exact ⟨⟨t1, t2, t3⟩, T2⟩
  | .branch v9 (.branch v8 (.leaf e) r0) R, k, V, u, O, Vs, us, r, wf, hk, h1, h2, hV, hu, hO, hVs, hus, q1, q2, T => by
    obtain ⟨hN, hP, hJk, hJ, hb, hbo⟩ := id H
    rw [szR] at hk h2
    have sp := szE_pos e
    obtain ⟨⟨r1, r2, r5⟩, r3, r4⟩ := r
    obtain ⟨⟨t1, t2, t3, t6, t7, t8⟩, t5, t4⟩ := T
    have c1 : k + 1 + szE e ≤ j := by
      apply Nat.le_of_not_lt
      intro c
      by_cases c0 : j = k
      · rw [c0, r1.1] at hj6; exact absurd hj6 (by decide)
      · have := (rpE_kd e _ r1.2.2.2.2 wf.1 j (by omega) c).1
        rw [hj6] at this
        exact absurd this (by decide)
    have hkP : k < P := by omega
    have hbP : k + 1 + szE e < P := by omega
    have li := qI_lv hL hkP
    have lo := qO_lv hL hkP
    have lku := qU_lv hL hkP
    have lib := qI_lv hL hbP
    have lob := qO_lv hL hbP
    have lub := qU_lv hL hbP
    have lW0 := rj_lv hJ li lob
    have g1 := le8_tr hJ li hV hVs t1 q1
    have gu := jle_tr hJ lku hu hus t2 q2
    have l9 := lp_in hJ hN hb wf.2.1 wf.1 hus hVs li lob g1 t8
    have l1 := (lpF hJ hN hb wf.2.1 wf.1 hus hVs).1
    have a1 := lbE_lv hJ hb lW0 e wf.1
    have a2 := lbE_lv hJ hb l1 e wf.1
    have lx := hJ.1 _ _ hus a2
    have gib := le8_tr hJ lib lW0 l1 t3 l9
    have gub := jle_tr hJ lub (hJ.1 _ _ lku a1) lx t6 (jle_m hJ lku a1 hus a2 gu (lbE_m hJ hb lW0 l1 l9 e wf.1))
    have gok := le8_tr hJ lo lW0 l1 t7 l9
    by_cases c2 : j = k + 1 + szE e
    · subst c2
      rw [hch r0 _ r2.2.1 r5 wf.2.1 (by omega)] at hL'
      obtain ⟨G, T2, R2, ⟨i1, i2, i3⟩, S2⟩ := rowO H hbP r5 wf.2.1 (by omega) hL t5 hL'
      obtain ⟨s1, s2, s3⟩ := S2 k (Or.inl (by omega))
      have lob' := qO_lv G.1 hbP
      have lW1 := rj_lv hJ li lob'
      have m1 := rj_m hJ li lob li lob' (le8_rfl hJ li) i3
      have a3 := lbE_lv hJ hb lW1 e wf.1
      refine ⟨G, ?_, ?_, fun m hm => S2 m (by rw [szR] at hm; omega)⟩
      · rw [TRq, s1, s2, s3, i1, i2]
        exact ⟨⟨t1, t2, le8_tr hJ lib lW0 lW1 t3 m1, jle_tr hJ lub (hJ.1 _ _ lku a1) (hJ.1 _ _ lku a3) t6 (jle_m hJ lku a1 lku a3 (jle_rfl hJ lku) (lbE_m hJ hb lW0 lW1 m1 e wf.1)), le8_tr hJ lo lW0 lW1 t7 m1, TR_up hJ hN hb G.1 r0 _ _ _ _ _ _ wf.2.1 (by omega) lib lub lob' l1 lx gib gub T2⟩, T2, TR_fr R _ _ _ _ _ _ (SQo_r S2 (by omega)) t4⟩
      · rw [DRq, i1, i2]
        exact ⟨fun _ => R2, DR_vac r0 _ (fun i a b => by omega), DR_vac R _ (fun i a b => by omega)⟩
    · by_cases c3 : j < k + 1 + szE e + 1 + szR r0
      · obtain ⟨G, T2, D2, S2⟩ := deepL H hch hj6 hL hL' r0 _ _ _ _ _ _ r5 wf.2.1 (by omega) (by omega) c3 lib lub lob l1 lx gib gub t5
        obtain ⟨s1, s2, s3⟩ := S2 k (Or.inl (by omega))
        obtain ⟨s4, s5, s6⟩ := S2 (k + 1 + szE e) (Or.inl (by omega))
        refine ⟨G, ?_, ?_, fun m hm => S2 m (by rw [szR] at hm; omega)⟩
        · rw [TRq, s1, s2, s3, s4, s5, s6]
          exact ⟨⟨t1, t2, t3, t6, t7, t8⟩, T2, TR_fr R _ _ _ _ _ _ (SQo_r S2 (by omega)) t4⟩
        · exact ⟨fun z => absurd z (by omega), D2, DR_vac R _ (fun i a b => by omega)⟩
      · obtain ⟨G, T2, D2, S2⟩ := deepL H hch hj6 hL hL' R _ _ _ _ _ _ r4 wf.2.2 (by omega) (by omega) (by omega) lo hu hO l1 hus gok q2 t4
        obtain ⟨s1, s2, s3⟩ := S2 k (Or.inl (by omega))
        obtain ⟨s4, s5, s6⟩ := S2 (k + 1 + szE e) (Or.inl (by omega))
        refine ⟨G, ?_, ?_, fun m hm => S2 m (by rw [szR] at hm; omega)⟩
        · rw [TRq, s1, s2, s3, s4, s5, s6]
          exact ⟨⟨t1, t2, t3, t6, t7, t8⟩, TR_fr r0 _ _ _ _ _ _ (SQo_r S2 (by omega)) t5, T2⟩
        · exact ⟨fun z => absurd z (by omega), DR_vac r0 _ (fun i a b => by omega), D2⟩
  | .branch v9 (.branch v8 (.branch v7 (.leaf e) ra) rb) R, k, V, u, O, Vs, us, r, wf, hk, h1, h2, hV, hu, hO, hVs, hus, q1, q2, T => by
    obtain ⟨hN, hP, hJk, hJ, hb, hbo⟩ := id H
    rw [szR] at hk h2
    have sp := szE_pos e
    obtain ⟨⟨r1, r2, r5, r6, r7⟩, r3, r4⟩ := r
    obtain ⟨⟨t1, t2, t3, t7, t8, t9, t10⟩, t5, t6, t4⟩ := T
    have c1 : k + 1 + szE e ≤ j := by
      apply Nat.le_of_not_lt
      intro c
      by_cases c0 : j = k
      · rw [c0, r1.1] at hj6; exact absurd hj6 (by decide)
      · have := (rpE_kd e _ r1.2.2.2.2 wf.1 j (by omega) c).1
        rw [hj6] at this
        exact absurd this (by decide)
    have hkP : k < P := by omega
    have hbP : k + 1 + szE e < P := by omega
    have hcP : k + 1 + szE e + 1 + szR ra < P := by omega
    have li := qI_lv hL hkP
    have lo := qO_lv hL hkP
    have lku := qU_lv hL hkP
    have lib := qI_lv hL hbP
    have lob := qO_lv hL hbP
    have lub := qU_lv hL hbP
    have lic := qI_lv hL hcP
    have loc := qO_lv hL hcP
    have luc := qU_lv hL hcP
    have g1 := le8_tr hJ li hV hVs t1 q1
    have a1 := lbE_lv hJ hb li e wf.1
    have a2 := lbE_lv hJ hb hVs e wf.1
    have a3 := hJ.1 _ _ lku a1
    have lx := hJ.1 _ _ hus a2
    have a5 := jle_m hJ lku a1 hus a2 (jle_tr hJ lku hu hus t2 q2) (lbE_m hJ hb li hVs g1 e wf.1)
    have gib := le8_tr hJ lib li hVs t3 g1
    have gic := le8_tr hJ lic li hVs t7 g1
    have gub := jle_tr hJ lub a3 lx t8 a5
    have guc := jle_tr hJ luc a3 lx t9 a5
    have b1 := flR_lv hJ hb ra _ Vs wf.2.1 lx hVs
    have b2 := flR_lv hJ hb rb _ Vs wf.2.2.1 lx hVs
    have d1 := TR_up hJ hN hb hL ra _ _ _ _ Vs _ wf.2.1 (by omega) lib lub lob hVs lx gib gub t5
    have d2 := TR_up hJ hN hb hL rb _ _ _ _ Vs _ wf.2.2.1 (by omega) lic luc loc hVs lx gic guc t6
    have l1 := rj_lv hJ b2 b1
    have gok := le8_tr hJ lo (rj_lv hJ lob loc) l1 t10 (rj_j hJ lob loc l1 (le8_tr hJ lob b1 l1 d1 (rj_r hJ b2 b1)) (le8_tr hJ loc b2 l1 d2 (rj_l hJ b2 b1)))
    by_cases c2 : j = k + 1 + szE e
    · subst c2
      rw [hch ra _ r2.2.1 r5 wf.2.1 (by omega)] at hL'
      obtain ⟨G, T2, R2, ⟨i1, i2, i3⟩, S2⟩ := rowO H hbP r5 wf.2.1 (by omega) hL t5 hL'
      obtain ⟨s1, s2, s3⟩ := S2 k (Or.inl (by omega))
      obtain ⟨s7, s8, s9⟩ := S2 (k + 1 + szE e + 1 + szR ra) (Or.inr (by omega))
      have lob' := qO_lv G.1 hbP
      refine ⟨G, ?_, ?_, fun m hm => S2 m (by rw [szR] at hm; omega)⟩
      · rw [TRq, s1, s2, s3, s7, s8, s9, i1, i2]
        exact ⟨⟨t1, t2, t3, t7, t8, t9, le8_tr hJ lo (rj_lv hJ lob loc) (rj_lv hJ lob' loc) t10 (rj_m hJ lob loc lob' loc i3 (le8_rfl hJ loc))⟩, T2, TR_fr rb _ _ _ _ _ _ (SQo_r S2 (by omega)) t6, TR_fr R _ _ _ _ _ _ (SQo_r S2 (by omega)) t4⟩
      · rw [DRq, i1, i2]
        exact ⟨fun _ => R2, fun z => absurd z (by omega), DR_vac ra _ (fun i a b => by omega), DR_vac rb _ (fun i a b => by omega), DR_vac R _ (fun i a b => by omega)⟩
    · by_cases c3 : j < k + 1 + szE e + 1 + szR ra
      · obtain ⟨G, T2, D2, S2⟩ := deepL H hch hj6 hL hL' ra _ _ _ _ _ _ r5 wf.2.1 (by omega) (by omega) c3 lib lub lob hVs lx gib gub t5
        obtain ⟨s1, s2, s3⟩ := S2 k (Or.inl (by omega))
        obtain ⟨s4, s5, s6⟩ := S2 (k + 1 + szE e) (Or.inl (by omega))
        obtain ⟨s7, s8, s9⟩ := S2 (k + 1 + szE e + 1 + szR ra) (Or.inr (by omega))
        refine ⟨G, ?_, ?_, fun m hm => S2 m (by rw [szR] at hm; omega)⟩
        · rw [TRq, s1, s2, s3, s4, s5, s6, s7, s8, s9]
          exact ⟨⟨t1, t2, t3, t7, t8, t9, t10⟩, T2, TR_fr rb _ _ _ _ _ _ (SQo_r S2 (by omega)) t6, TR_fr R _ _ _ _ _ _ (SQo_r S2 (by omega)) t4⟩
        · exact ⟨fun z => absurd z (by omega), fun z => absurd z (by omega), D2, DR_vac rb _ (fun i a b => by omega), DR_vac R _ (fun i a b => by omega)⟩
      · by_cases c4 : j = k + 1 + szE e + 1 + szR ra
        · subst c4
          rw [hch rb _ r6.2.1 r7 wf.2.2.1 (by omega)] at hL'
          obtain ⟨G, T2, R2, ⟨i1, i2, i3⟩, S2⟩ := rowO H hcP r7 wf.2.2.1 (by omega) hL t6 hL'
          obtain ⟨s1, s2, s3⟩ := S2 k (Or.inl (by omega))
          obtain ⟨s4, s5, s6⟩ := S2 (k + 1 + szE e) (Or.inl (by omega))
          have loc' := qO_lv G.1 hcP
          refine ⟨G, ?_, ?_, fun m hm => S2 m (by rw [szR] at hm; omega)⟩
          · rw [TRq, s1, s2, s3, s4, s5, s6, i1, i2]
            exact ⟨⟨t1, t2, t3, t7, t8, t9, le8_tr hJ lo (rj_lv hJ lob loc) (rj_lv hJ lob loc') t10 (rj_m hJ lob loc lob loc' (le8_rfl hJ lob) i3)⟩, TR_fr ra _ _ _ _ _ _ (SQo_r S2 (by omega)) t5, T2, TR_fr R _ _ _ _ _ _ (SQo_r S2 (by omega)) t4⟩
          · rw [DRq, i1, i2]
            exact ⟨fun z => absurd z (by omega), fun _ => R2, DR_vac ra _ (fun i a b => by omega), DR_vac rb _ (fun i a b => by omega), DR_vac R _ (fun i a b => by omega)⟩
        · by_cases c5 : j < k + 1 + szE e + 1 + szR ra + 1 + szR rb
          · obtain ⟨G, T2, D2, S2⟩ := deepL H hch hj6 hL hL' rb _ _ _ _ _ _ r7 wf.2.2.1 (by omega) (by omega) c5 lic luc loc hVs lx gic guc t6
            obtain ⟨s1, s2, s3⟩ := S2 k (Or.inl (by omega))
            obtain ⟨s4, s5, s6⟩ := S2 (k + 1 + szE e) (Or.inl (by omega))
            obtain ⟨s7, s8, s9⟩ := S2 (k + 1 + szE e + 1 + szR ra) (Or.inl (by omega))
            refine ⟨G, ?_, ?_, fun m hm => S2 m (by rw [szR] at hm; omega)⟩
            · rw [TRq, s1, s2, s3, s4, s5, s6, s7, s8, s9]
              exact ⟨⟨t1, t2, t3, t7, t8, t9, t10⟩, TR_fr ra _ _ _ _ _ _ (SQo_r S2 (by omega)) t5, T2, TR_fr R _ _ _ _ _ _ (SQo_r S2 (by omega)) t4⟩
            · exact ⟨fun z => absurd z (by omega), fun z => absurd z (by omega), DR_vac ra _ (fun i a b => by omega), D2, DR_vac R _ (fun i a b => by omega)⟩
          · obtain ⟨G, T2, D2, S2⟩ := deepL H hch hj6 hL hL' R _ _ _ _ _ _ r4 wf.2.2.2 (by omega) (by omega) (by omega) lo hu hO l1 hus gok q2 t4
            obtain ⟨s1, s2, s3⟩ := S2 k (Or.inl (by omega))
            obtain ⟨s4, s5, s6⟩ := S2 (k + 1 + szE e) (Or.inl (by omega))
            obtain ⟨s7, s8, s9⟩ := S2 (k + 1 + szE e + 1 + szR ra) (Or.inl (by omega))
            refine ⟨G, ?_, ?_, fun m hm => S2 m (by rw [szR] at hm; omega)⟩
            · rw [TRq, s1, s2, s3, s4, s5, s6, s7, s8, s9]
              exact ⟨⟨t1, t2, t3, t7, t8, t9, t10⟩, TR_fr ra _ _ _ _ _ _ (SQo_r S2 (by omega)) t5, TR_fr rb _ _ _ _ _ _ (SQo_r S2 (by omega)) t6, T2⟩
            · exact ⟨fun z => absurd z (by omega), fun z => absurd z (by omega), DR_vac ra _ (fun i a b => by omega), DR_vac rb _ (fun i a b => by omega), D2⟩
  | .branch _ (.branch _ (.branch _ (.branch _ _ _) _) _) _, k, V, u, O, Vs, us, r, wf, hk, h1, h2, hV, hu, hO, hVs, hus, q1, q2, T => wf.elim
end PDP
