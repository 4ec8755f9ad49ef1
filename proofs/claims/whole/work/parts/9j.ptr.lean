/-! ===== the reference's labels of a program: what holds of them between the steps ===== -/
/-- L, at the statements t from k on: below what its rules say; V, u: what comes in; O: what comes out; Vs, us: what comes in in the end -/
def TRq (J : Int32 → Int32 → Int32) (bo : Int32) (L : LB) : RT → Nat → (Nat → Int32) → Int32 → (Nat → Int32) → (Nat → Int32) → Int32 → Prop
  | .leaf _, _, V, _, O, _, _ => le8 J O V
  | .branch v (.leaf e) R, k, V, u, O, Vs, us => (le8 J (qI L k) V ∧ jle J (qU L k) u ∧ le8 J (qO L k) (upd (qI L k) v (J (qU L k) (lbE J bo (qI L k) e)))) ∧ TRq J bo L R (k + 1 + szE e) (qO L k) u O (upd Vs v (J us (lbE J bo Vs e))) us
  | .branch _ (.branch _ (.leaf e) r) R, k, V, u, O, Vs, us => (le8 J (qI L k) V ∧ jle J (qU L k) u ∧ le8 J (qI L (k + 1 + szE e)) (rj J (qI L k) (qO L (k + 1 + szE e))) ∧ jle J (qU L (k + 1 + szE e)) (J (qU L k) (lbE J bo (rj J (qI L k) (qO L (k + 1 + szE e))) e)) ∧ le8 J (qO L k) (rj J (qI L k) (qO L (k + 1 + szE e))) ∧ le8 J (qO L (k + 1 + szE e)) (flR J bo r (J us (lbE J bo (flL (stL J bo r e us) 100 Vs) e)) (flL (stL J bo r e us) 100 Vs))) ∧ TRq J bo L r (k + 1 + szE e + 1) (qI L (k + 1 + szE e)) (qU L (k + 1 + szE e)) (qO L (k + 1 + szE e)) (flL (stL J bo r e us) 100 Vs) (J us (lbE J bo (flL (stL J bo r e us) 100 Vs) e)) ∧ TRq J bo L R (k + 1 + szE e + 1 + szR r) (qO L k) u O (flL (stL J bo r e us) 100 Vs) us
  | .branch _ (.branch _ (.branch _ (.leaf e) r1) r2) R, k, V, u, O, Vs, us => (le8 J (qI L k) V ∧ jle J (qU L k) u ∧ le8 J (qI L (k + 1 + szE e)) (qI L k) ∧ le8 J (qI L (k + 1 + szE e + 1 + szR r1)) (qI L k) ∧ jle J (qU L (k + 1 + szE e)) (J (qU L k) (lbE J bo (qI L k) e)) ∧ jle J (qU L (k + 1 + szE e + 1 + szR r1)) (J (qU L k) (lbE J bo (qI L k) e)) ∧ le8 J (qO L k) (rj J (qO L (k + 1 + szE e)) (qO L (k + 1 + szE e + 1 + szR r1)))) ∧ TRq J bo L r1 (k + 1 + szE e + 1) (qI L (k + 1 + szE e)) (qU L (k + 1 + szE e)) (qO L (k + 1 + szE e)) Vs (J us (lbE J bo Vs e)) ∧ TRq J bo L r2 (k + 1 + szE e + 1 + szR r1 + 1) (qI L (k + 1 + szE e + 1 + szR r1)) (qU L (k + 1 + szE e + 1 + szR r1)) (qO L (k + 1 + szE e + 1 + szR r1)) Vs (J us (lbE J bo Vs e)) ∧ TRq J bo L R (k + 1 + szE e + 1 + szR r1 + 1 + szR r2) (qO L k) u O (rj J (flR J bo r2 (J us (lbE J bo Vs e)) Vs) (flR J bo r1 (J us (lbE J bo Vs e)) Vs)) us
  | .branch _ (.branch _ (.branch _ (.branch _ _ _) _) _) _, _, _, _, _, _, _ => True
section TRS
variable {N P : Nat} {J : Int32 → Int32 → Int32} {bo : Int32}
theorem TR_m (h : SL N J) {L : LB} (hL : LOK N P L) : ∀ (t : RT) (k : Nat) (V V' : Nat → Int32) (u u' : Int32) (O O' Vs : Nat → Int32) (us : Int32), wfR t → k + szR t ≤ P → lv8 N V → lv8 N V' → lv N u → lv N u' → lv8 N O → lv8 N O' → le8 J V V' → jle J u u' → le8 J O' O → TRq J bo L t k V u O Vs us → TRq J bo L t k V' u' O' Vs us
  | .leaf _, k, V, V', u, u', O, O', Vs, us, wf, hk, hV, hV', hu, hu', hO, hO', q1, q2, q3, T => le8_tr h hO' hV hV' (le8_tr h hO' hO hV q3 T) q1
  | .branch v (.leaf e) R, k, V, V', u, u', O, O', Vs, us, wf, hk, hV, hV', hu, hu', hO, hO', q1, q2, q3, T => by
    rw [szR] at hk
    obtain ⟨⟨t1, t2, t3⟩, t4⟩ := T
    have lo := qO_lv hL (show k < P by omega)
    exact ⟨⟨le8_tr h (qI_lv hL (by omega)) hV hV' t1 q1, jle_tr h (qU_lv hL (by omega)) hu hu' t2 q2, t3⟩, TR_m h hL R _ _ _ u u' O O' _ us wf.2.2 (by omega) lo lo hu hu' hO hO' (le8_rfl h lo) q2 q3 t4⟩
  | .branch _ (.branch _ (.leaf e) r) R, k, V, V', u, u', O, O', Vs, us, wf, hk, hV, hV', hu, hu', hO, hO', q1, q2, q3, T => by
    rw [szR] at hk
    obtain ⟨⟨t1, t2, t3⟩, t5, t4⟩ := T
    have lo := qO_lv hL (show k < P by omega)
    exact ⟨⟨le8_tr h (qI_lv hL (by omega)) hV hV' t1 q1, jle_tr h (qU_lv hL (by omega)) hu hu' t2 q2, t3⟩, t5, TR_m h hL R _ _ _ u u' O O' _ us wf.2.2 (by omega) lo lo hu hu' hO hO' (le8_rfl h lo) q2 q3 t4⟩
  | .branch _ (.branch _ (.branch _ (.leaf e) r1) r2) R, k, V, V', u, u', O, O', Vs, us, wf, hk, hV, hV', hu, hu', hO, hO', q1, q2, q3, T => by
    rw [szR] at hk
    obtain ⟨⟨t1, t2, t3⟩, t5, t6, t4⟩ := T
    have lo := qO_lv hL (show k < P by omega)
    exact ⟨⟨le8_tr h (qI_lv hL (by omega)) hV hV' t1 q1, jle_tr h (qU_lv hL (by omega)) hu hu' t2 q2, t3⟩, t5, t6, TR_m h hL R _ _ _ u u' O O' _ us wf.2.2.2 (by omega) lo lo hu hu' hO hO' (le8_rfl h lo) q2 q3 t4⟩
  | .branch _ (.branch _ (.branch _ (.branch _ _ _) _) _) _, k, V, V', u, u', O, O', Vs, us, wf, hk, hV, hV', hu, hu', hO, hO', q1, q2, q3, T => wf.elim
/-- the same labels from a on, below b -/
def SQr (a b : Nat) (L L' : LB) : Prop := ∀ m, a ≤ m → m < b → qI L' m = qI L m ∧ qO L' m = qO L m ∧ qU L' m = qU L m
theorem SQr_m {a b a' b' : Nat} {L L' : LB} (s : SQr a b L L') (h1 : a ≤ a') (h2 : b' ≤ b) : SQr a' b' L L' := fun m x y => s m (by omega) (by omega)
theorem TR_fr {L L' : LB} : ∀ (t : RT) (k : Nat) (V : Nat → Int32) (u : Int32) (O Vs : Nat → Int32) (us : Int32), SQr k (k + szR t) L L' → TRq J bo L t k V u O Vs us → TRq J bo L' t k V u O Vs us
  | .leaf _, k, V, u, O, Vs, us, s, T => T
  | .branch v (.leaf e) R, k, V, u, O, Vs, us, s, T => by
    rw [szR] at s
    obtain ⟨e1, e2, e3⟩ := s k (by omega) (by omega)
    rw [TRq] at T ⊢
    rw [e1, e2, e3]
    exact ⟨T.1, TR_fr R _ _ _ _ _ _ (SQr_m s (by omega) (by omega)) T.2⟩
  | .branch _ (.branch _ (.leaf e) r) R, k, V, u, O, Vs, us, s, T => by
    rw [szR] at s
    have sp := szE_pos e
    obtain ⟨e1, e2, e3⟩ := s k (by omega) (by omega)
    obtain ⟨e4, e5, e6⟩ := s (k + 1 + szE e) (by omega) (by omega)
    rw [TRq] at T ⊢
    rw [e1, e2, e3, e4, e5, e6]
    exact ⟨T.1, TR_fr r _ _ _ _ _ _ (SQr_m s (by omega) (by omega)) T.2.1, TR_fr R _ _ _ _ _ _ (SQr_m s (by omega) (by omega)) T.2.2⟩
  | .branch _ (.branch _ (.branch _ (.leaf e) r1) r2) R, k, V, u, O, Vs, us, s, T => by
    rw [szR] at s
    have sp := szE_pos e
    obtain ⟨e1, e2, e3⟩ := s k (by omega) (by omega)
    obtain ⟨e4, e5, e6⟩ := s (k + 1 + szE e) (by omega) (by omega)
    obtain ⟨e7, e8, e9⟩ := s (k + 1 + szE e + 1 + szR r1) (by omega) (by omega)
    rw [TRq] at T ⊢
    rw [e1, e2, e3, e4, e5, e6, e7, e8, e9]
    exact ⟨T.1, TR_fr r1 _ _ _ _ _ _ (SQr_m s (by omega) (by omega)) T.2.1, TR_fr r2 _ _ _ _ _ _ (SQr_m s (by omega) (by omega)) T.2.2.1, TR_fr R _ _ _ _ _ _ (SQr_m s (by omega) (by omega)) T.2.2.2⟩
  | .branch _ (.branch _ (.branch _ (.branch _ _ _) _) _) _, k, V, u, O, Vs, us, s, T => trivial
/-- the loop's end bounds what the loop has -/
theorem lp_in (h : SL N J) (hN : N ≤ 6) (hb : lv N bo) {r : RT} {e : ET} {us : Int32} (wr : wfR r) (we : wfE e) (hus : lv N us) {Vs I O : Nat → Int32} (hVs : lv8 N Vs) (hI : lv8 N I) (hO : lv8 N O) (q1 : le8 J I Vs) (q2 : le8 J O (flR J bo r (J us (lbE J bo (flL (stL J bo r e us) 100 Vs) e)) (flL (stL J bo r e us) 100 Vs))) : le8 J (rj J I O) (flL (stL J bo r e us) 100 Vs) := by
  obtain ⟨l1, l2, l3⟩ := lpF h hN hb wr we hus hVs
  have l4 := flR_lv h hb r _ _ wr (h.1 _ _ hus (lbE_lv h hb l1 e we)) l1
  exact rj_j h hI hO l1 (le8_tr h hI hVs l1 q1 l2) (le8_tr h hO l4 l1 q2 (le8_tr h l4 (rj_lv h l4 l1) l1 (rj_l h l4 l1) l3))
theorem TR_up (h : SL N J) (hN : N ≤ 6) (hb : lv N bo) {L : LB} (hL : LOK N P L) : ∀ (t : RT) (k : Nat) (V : Nat → Int32) (u : Int32) (O Vs : Nat → Int32) (us : Int32), wfR t → k + szR t ≤ P → lv8 N V → lv N u → lv8 N O → lv8 N Vs → lv N us → le8 J V Vs → jle J u us → TRq J bo L t k V u O Vs us → le8 J O (flR J bo t us Vs)
  | .leaf _, k, V, u, O, Vs, us, wf, hk, hV, hu, hO, hVs, hus, q1, q2, T => le8_tr h hO hV hVs T q1
  | .branch v (.leaf e) R, k, V, u, O, Vs, us, wf, hk, hV, hu, hO, hVs, hus, q1, q2, T => by
    rw [szR] at hk
    obtain ⟨⟨t1, t2, t3⟩, t4⟩ := T
    have li := qI_lv hL (show k < P by omega)
    have lo := qO_lv hL (show k < P by omega)
    have lu := qU_lv hL (show k < P by omega)
    have g1 := le8_tr h li hV hVs t1 q1
    have a1 := lbE_lv h hb li e wf.2.1
    have a2 := lbE_lv h hb hVs e wf.2.1
    have a3 := h.1 _ _ lu a1
    have a4 := h.1 _ _ hus a2
    rw [flR]
    exact TR_up h hN hb hL R _ _ u O _ us wf.2.2 (by omega) lo hu hO (up_lv hVs a4) hus (le8_tr h lo (up_lv li a3) (up_lv hVs a4) t3 (up_m8 v g1 (jle_m h lu a1 hus a2 (jle_tr h lu hu hus t2 q2) (lbE_m h hb li hVs g1 e wf.2.1)))) q2 t4
  | .branch _ (.branch _ (.leaf e) r) R, k, V, u, O, Vs, us, wf, hk, hV, hu, hO, hVs, hus, q1, q2, T => by
    rw [szR] at hk
    obtain ⟨⟨t1, t2, t3, t6, t7, t8⟩, t5, t4⟩ := T
    have li := qI_lv hL (show k < P by omega)
    have lo := qO_lv hL (show k < P by omega)
    have lob := qO_lv hL (show k + 1 + szE e < P by omega)
    have l9 := lp_in h hN hb wf.2.1 wf.1 hus hVs li lob (le8_tr h li hV hVs t1 q1) t8
    have l1 := (lpF h hN hb wf.2.1 wf.1 hus hVs).1
    rw [flR]
    exact TR_up h hN hb hL R _ _ u O _ us wf.2.2 (by omega) lo hu hO l1 hus (le8_tr h lo (rj_lv h li lob) l1 t7 l9) q2 t4
  | .branch _ (.branch _ (.branch _ (.leaf e) r1) r2) R, k, V, u, O, Vs, us, wf, hk, hV, hu, hO, hVs, hus, q1, q2, T => by
    rw [szR] at hk
    obtain ⟨⟨t1, t2, t3, t7, t8, t9, t10⟩, t5, t6, t4⟩ := T
    have li := qI_lv hL (show k < P by omega)
    have lo := qO_lv hL (show k < P by omega)
    have lu := qU_lv hL (show k < P by omega)
    have i1 := qI_lv hL (show k + 1 + szE e < P by omega)
    have i2 := qI_lv hL (show k + 1 + szE e + 1 + szR r1 < P by omega)
    have o1 := qO_lv hL (show k + 1 + szE e < P by omega)
    have o2 := qO_lv hL (show k + 1 + szE e + 1 + szR r1 < P by omega)
    have u1 := qU_lv hL (show k + 1 + szE e < P by omega)
    have u2 := qU_lv hL (show k + 1 + szE e + 1 + szR r1 < P by omega)
    have g1 := le8_tr h li hV hVs t1 q1
    have a1 := lbE_lv h hb li e wf.1
    have a2 := lbE_lv h hb hVs e wf.1
    have a3 := h.1 _ _ lu a1
    have a4 := h.1 _ _ hus a2
    have a5 := jle_m h lu a1 hus a2 (jle_tr h lu hu hus t2 q2) (lbE_m h hb li hVs g1 e wf.1)
    have b1 := flR_lv h hb r1 _ Vs wf.2.1 a4 hVs
    have b2 := flR_lv h hb r2 _ Vs wf.2.2.1 a4 hVs
    have c1 := TR_up h hN hb hL r1 _ _ _ _ Vs _ wf.2.1 (by omega) i1 u1 o1 hVs a4 (le8_tr h i1 li hVs t3 g1) (jle_tr h u1 a3 a4 t8 a5) t5
    have c2 := TR_up h hN hb hL r2 _ _ _ _ Vs _ wf.2.2.1 (by omega) i2 u2 o2 hVs a4 (le8_tr h i2 li hVs t7 g1) (jle_tr h u2 a3 a4 t9 a5) t6
    have l1 := rj_lv h b2 b1
    rw [flR]
    exact TR_up h hN hb hL R _ _ u O _ us wf.2.2.2 (by omega) lo hu hO l1 hus (le8_tr h lo (rj_lv h o1 o2) l1 t10 (rj_j h o1 o2 l1 (le8_tr h o1 b1 l1 c1 (rj_r h b2 b1)) (le8_tr h o2 b2 l1 c2 (rj_l h b2 b1)))) q2 t4
  | .branch _ (.branch _ (.branch _ (.branch _ _ _) _) _) _, k, V, u, O, Vs, us, wf, hk, hV, hu, hO, hVs, hus, q1, q2, T => wf.elim
end TRS
/-- L keeps to the rules of one row -/
def RLq (J : Int32 → Int32 → Int32) (bo : Int32) (L : LB) : RT → Nat → (Nat → Int32) → Int32 → (Nat → Int32) → Prop
  | .leaf _, _, V, _, O => O = V
  | .branch v (.leaf e) R, k, V, u, O => (qI L k = V ∧ qU L k = u ∧ qO L k = upd V v (J u (lbE J bo V e))) ∧ RLq J bo L R (k + 1 + szE e) (qO L k) u O
  | .branch _ (.branch _ (.leaf e) r) R, k, V, u, O => (qI L k = V ∧ qU L k = u ∧ qI L (k + 1 + szE e) = c8 (rj J V (qO L (k + 1 + szE e))) ∧ qU L (k + 1 + szE e) = J u (lbE J bo (c8 (rj J V (qO L (k + 1 + szE e)))) e) ∧ qO L k = c8 (rj J V (qO L (k + 1 + szE e)))) ∧ RLq J bo L R (k + 1 + szE e + 1 + szR r) (qO L k) u O
  | .branch _ (.branch _ (.branch _ (.leaf e) r1) r2) R, k, V, u, O => (qI L k = V ∧ qU L k = u ∧ qI L (k + 1 + szE e) = V ∧ qI L (k + 1 + szE e + 1 + szR r1) = V ∧ qU L (k + 1 + szE e) = J u (lbE J bo V e) ∧ qU L (k + 1 + szE e + 1 + szR r1) = J u (lbE J bo V e) ∧ qO L k = c8 (rj J (qO L (k + 1 + szE e)) (qO L (k + 1 + szE e + 1 + szR r1)))) ∧ RLq J bo L R (k + 1 + szE e + 1 + szR r1 + 1 + szR r2) (qO L k) u O
  | .branch _ (.branch _ (.branch _ (.branch _ _ _) _) _) _, _, _, _, _ => True
theorem RL_fr {J : Int32 → Int32 → Int32} {bo : Int32} {L L' : LB} : ∀ (t : RT) (k : Nat) (V : Nat → Int32) (u : Int32) (O : Nat → Int32), SQr k (k + szR t) L L' → RLq J bo L t k V u O → RLq J bo L' t k V u O
  | .leaf _, k, V, u, O, s, T => T
  | .branch v (.leaf e) R, k, V, u, O, s, T => by
    rw [szR] at s
    obtain ⟨e1, e2, e3⟩ := s k (by omega) (by omega)
    rw [RLq] at T ⊢
    rw [e1, e2, e3]
    exact ⟨T.1, RL_fr R _ _ _ _ (SQr_m s (by omega) (by omega)) T.2⟩
  | .branch _ (.branch _ (.leaf e) r) R, k, V, u, O, s, T => by
    rw [szR] at s
    have sp := szE_pos e
    obtain ⟨e1, e2, e3⟩ := s k (by omega) (by omega)
    obtain ⟨e4, e5, e6⟩ := s (k + 1 + szE e) (by omega) (by omega)
    rw [RLq] at T ⊢
    rw [e1, e2, e3, e4, e5, e6]
    exact ⟨T.1, RL_fr R _ _ _ _ (SQr_m s (by omega) (by omega)) T.2⟩
  | .branch _ (.branch _ (.branch _ (.leaf e) r1) r2) R, k, V, u, O, s, T => by
    rw [szR] at s
    have sp := szE_pos e
    obtain ⟨e1, e2, e3⟩ := s k (by omega) (by omega)
    obtain ⟨e4, e5, e6⟩ := s (k + 1 + szE e) (by omega) (by omega)
    obtain ⟨e7, e8, e9⟩ := s (k + 1 + szE e + 1 + szR r1) (by omega) (by omega)
    rw [RLq] at T ⊢
    rw [e1, e2, e3, e4, e5, e6, e7, e8, e9]
    exact ⟨T.1, RL_fr R _ _ _ _ (SQr_m s (by omega) (by omega)) T.2⟩
  | .branch _ (.branch _ (.branch _ (.branch _ _ _) _) _) _, k, V, u, O, s, T => trivial
