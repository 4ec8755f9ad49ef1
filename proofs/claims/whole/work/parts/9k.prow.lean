/-! ===== the reference's labels of a program: one row ===== -/
def PHy (N P : Nat) (A : Nat → Nat → Int32) (x0 : Int32) : Prop := N ≤ 6 ∧ P ≤ 160 ∧ JOK N A ∧ SL N (jI A) ∧ lv N x0 ∧ ∀ y, lv N y → jI A x0 y = y
/-- the same labels below a, and from b on -/
def SQo (a b : Nat) (L L' : LB) : Prop := ∀ m, m < a ∨ b ≤ m → qI L' m = qI L m ∧ qO L' m = qO L m ∧ qU L' m = qU L m
section PRW
variable {N P : Nat} {A : Nat → Nat → Int32} {x0 : Int32}
theorem lab_eq (H : PHy N P A x0) {L : LB} (hW : lv8 N L.2.2.2.1) {e : ET} {k : Nat} (hr : rpE A e (k + 1)) (we : wfE e) : loI A L.2.2.2.1 (k + 1) (k + 1 + szE e - (k + 1)) x0 = lbE (jI A) x0 (qW L) e := by
  obtain ⟨hN, hP, hJk, hJ, hb, hbo⟩ := H
  rw [show k + 1 + szE e - (k + 1) = szE e by omega, loI_lb hJ hb hbo hW e (k + 1) x0 hr we hb, hbo _ (lbE_lv hJ hb hW e we)]
  exact lbE_cg (fun v hv => (c8_e _ v hv).symm) e we
theorem st_as (H : PHy N P A x0) {L : LB} (hL : LOK N P L) {k v : Nat} {e : ET} {nx0 : Int32} (r1 : hdE A 3 e k nx0) (hv : A 160 k = nI v) (v8 : v < 8) (we : wfE e) (hk : k < P) {u : Int32} (hu : lv N u) (g1 : le8 (jI A) (qI L k) (qW L)) (g2 : jle (jI A) (qU L k) u) (g3 : le8 (jI A) (qO L k) (upd (qW L) v (jI A u (lbE (jI A) x0 (qW L) e)))) {L' : LB} (hL' : L' = lTO (lST A x0 (lSI L k u) k (k + 1) (k + 1 + szE e)) k) :
    GW N (jI A) P L L' ∧ (qI L' k = qW L ∧ qU L' k = u ∧ qO L' k = upd (qW L) v (jI A u (lbE (jI A) x0 (qW L) e)) ∧ qW L' = upd (qW L) v (jI A u (lbE (jI A) x0 (qW L) e))) ∧ ∀ m, ¬ m = k → qI L' m = qI L m ∧ qO L' m = qO L m ∧ qU L' m = qU L m := by
  obtain ⟨hN, hP, hJk, hJ, hb, hbo⟩ := id H
  have ok1 : LOK N P (lSI L k u) := lSI_ok hL hu
  have ok2 : LOK N P (lTI (lSI L k u) k) := lTI_ok ok1 hk
  have w2 : qW (lTI (lSI L k u) k) = qW L := qW_TI.trans qI_SI
  have ex : jI A ((lSI L k u).2.2.1 k) (loI A (lTI (lSI L k u) k).2.2.2.1 (k + 1) (k + 1 + szE e - (k + 1)) x0) = jI A u (lbE (jI A) x0 (qW L) e) := by
    rw [lab_eq H ok2.2.2.2 r1.2.2.2.2 we, w2, show (lSI L k u).2.2.1 k = u from qU_SI]
  have lx : lv N (jI A u (lbE (jI A) x0 (qW L) e)) := hJ.1 _ _ hu (lbE_lv hJ hb (qW_lv hL) e we)
  have ok3 : LOK N P (lNW (lTI (lSI L k u) k) v (jI A u (lbE (jI A) x0 (qW L) e))) := ⟨ok2.1, ok2.2.1, ok2.2.2.1, up_lv ok2.2.2.2 lx⟩
  have w3 : qW (lNW (lTI (lSI L k u) k) v (jI A u (lbE (jI A) x0 (qW L) e))) = upd (qW L) v (jI A u (lbE (jI A) x0 (qW L) e)) := by rw [qW_NW v8, w2]
  have el : L' = lTO (lSO (lNW (lTI (lSI L k u) k) v (jI A u (lbE (jI A) x0 (qW L) e))) k) k := by
    rw [hL']
    unfold lST
    rw [if_pos r1.1, ex, hv, nI_clamp (by omega)]
  clear hL'
  subst el
  have ok4 := lSO_ok (m := k) ok3
  have g := GW_tr hJ hL (GW_SI hJ hL hk hu g1 g2) (GW_tr hJ ok1 (GW_id hJ ok1 ok3 rfl rfl rfl rfl) (GW_tr hJ ok3 (GW_SO hJ ok3 hk (by rw [w3]; exact g3)) (GW_id hJ ok4 (lTO_ok ok4 hk) rfl rfl rfl rfl)))
  exact ⟨g, ⟨qI_SI (L := L) (m := k) (u := u), qU_SI (L := L) (m := k) (u := u), qO_SO.trans w3, qW_TO.trans (qO_SO.trans w3)⟩, fun m hm => ⟨qI_SIn (L := L) (m := k) (u := u) hm, qO_SOn hm, qU_SIn (L := L) (m := k) (u := u) hm⟩⟩
theorem st_lp (H : PHy N P A x0) {L : LB} (hL : LOK N P L) {k b : Nat} {e : ET} (r1 : hdE A 5 e k (nI b)) (we : wfE e) (hk : k < P) (hb9 : b < P) (hkb : k < b) {u : Int32} (hu : lv N u) (g1 : le8 (jI A) (qI L k) (qW L)) (g2 : jle (jI A) (qU L k) u) (g3 : le8 (jI A) (qI L b) (c8 (rj (jI A) (qW L) (qO L b)))) (g4 : jle (jI A) (qU L b) (jI A u (lbE (jI A) x0 (c8 (rj (jI A) (qW L) (qO L b))) e))) (g5 : le8 (jI A) (qO L k) (c8 (rj (jI A) (qW L) (qO L b)))) {L' : LB} (hL' : L' = lTO (lST A x0 (lSI L k u) k (k + 1) (k + 1 + szE e)) k) :
    GW N (jI A) P L L' ∧ (qI L' k = qW L ∧ qU L' k = u ∧ qO L' k = c8 (rj (jI A) (qW L) (qO L b)) ∧ qW L' = c8 (rj (jI A) (qW L) (qO L b)) ∧ qI L' b = c8 (rj (jI A) (qW L) (qO L b)) ∧ qU L' b = jI A u (lbE (jI A) x0 (c8 (rj (jI A) (qW L) (qO L b))) e) ∧ qO L' b = qO L b) ∧ ∀ m, ¬ m = k → ¬ m = b → qI L' m = qI L m ∧ qO L' m = qO L m ∧ qU L' m = qU L m := by
  obtain ⟨hN, hP, hJk, hJ, hb, hbo⟩ := id H
  have enx : nx A (k + 1) = b := by unfold nx; rw [r1.2.2.1, nI_clamp (by omega)]
  have ok1 : LOK N P (lSI L k u) := lSI_ok hL hu
  have ok2 : LOK N P (lTI (lSI L k u) k) := lTI_ok ok1 hk
  have ok3 : LOK N P (lJO A (lTI (lSI L k u) k) b) := lJO_ok hN hJk ok2 hb9
  have w3 : qW (lJO A (lTI (lSI L k u) k) b) = c8 (rj (jI A) (qW L) (qO L b)) := by
    rw [qW_JO, qW_TI, qI_SI]; rfl
  have ex : jI A ((lSI L k u).2.2.1 k) (loI A (lJO A (lTI (lSI L k u) k) b).2.2.2.1 (k + 1) (k + 1 + szE e - (k + 1)) x0) = jI A u (lbE (jI A) x0 (c8 (rj (jI A) (qW L) (qO L b))) e) := by
    rw [lab_eq H ok3.2.2.2 r1.2.2.2.2 we, w3, show (lSI L k u).2.2.1 k = u from qU_SI]
  have lw : lv8 N (c8 (rj (jI A) (qW L) (qO L b))) := c8_lv (rj_lv hJ (qW_lv hL) (qO_lv hL hb9))
  have lx : lv N (jI A u (lbE (jI A) x0 (c8 (rj (jI A) (qW L) (qO L b))) e)) := hJ.1 _ _ hu (lbE_lv hJ hb lw e we)
  have ok4 : LOK N P (lSI (lJO A (lTI (lSI L k u) k) b) b (jI A u (lbE (jI A) x0 (c8 (rj (jI A) (qW L) (qO L b))) e))) := lSI_ok ok3 lx
  have el : L' = lTO (lSO (lSI (lJO A (lTI (lSI L k u) k) b) b (jI A u (lbE (jI A) x0 (c8 (rj (jI A) (qW L) (qO L b))) e))) k) k := by
    rw [hL']
    unfold lST
    rw [if_neg (by rw [r1.1]; decide), if_pos r1.1, enx, ex]
  clear hL'
  subst el
  have ok5 := lSO_ok (m := k) ok4
  have kb : ¬ k = b := by omega
  have g := GW_tr hJ hL (GW_SI hJ hL hk hu g1 g2) (GW_tr hJ ok1 (GW_id hJ ok1 ok3 rfl rfl rfl rfl) (GW_tr hJ ok3 (GW_SI hJ ok3 hb9 lx (by rw [w3]; show le8 _ (qI (lSI L k u) b) _; rw [qI_SIn (fun z => kb z.symm)]; exact g3) (by show jle _ (qU (lSI L k u) b) _; rw [qU_SIn (fun z => kb z.symm)]; exact g4)) (GW_tr hJ ok4 (GW_SO hJ ok4 hk (by rw [show qW (lSI (lJO A (lTI (lSI L k u) k) b) b (jI A u (lbE (jI A) x0 (c8 (rj (jI A) (qW L) (qO L b))) e))) = _ from w3]; exact g5)) (GW_id hJ ok5 (lTO_ok ok5 hk) rfl rfl rfl rfl))))
  exact ⟨g, ⟨(qI_SIn (L := lJO A (lTI (lSI L k u) k) b) (m := b) (u := jI A u (lbE (jI A) x0 (c8 (rj (jI A) (qW L) (qO L b))) e)) kb).trans (qI_SI (L := L) (m := k) (u := u)), (qU_SIn (L := lJO A (lTI (lSI L k u) k) b) (m := b) (u := jI A u (lbE (jI A) x0 (c8 (rj (jI A) (qW L) (qO L b))) e)) kb).trans (qU_SI (L := L) (m := k) (u := u)), qO_SO.trans w3, qW_TO.trans (qO_SO.trans w3), (qI_SI (L := lJO A (lTI (lSI L k u) k) b) (m := b) (u := jI A u (lbE (jI A) x0 (c8 (rj (jI A) (qW L) (qO L b))) e))).trans w3, qU_SI (L := lJO A (lTI (lSI L k u) k) b) (m := b) (u := jI A u (lbE (jI A) x0 (c8 (rj (jI A) (qW L) (qO L b))) e)), qO_SOn (fun z => kb z.symm)⟩, fun m hm hm2 => ⟨(qI_SIn (L := lJO A (lTI (lSI L k u) k) b) (m := b) (u := jI A u (lbE (jI A) x0 (c8 (rj (jI A) (qW L) (qO L b))) e)) hm2).trans (qI_SIn (L := L) (m := k) (u := u) hm), qO_SOn hm, (qU_SIn (L := lJO A (lTI (lSI L k u) k) b) (m := b) (u := jI A u (lbE (jI A) x0 (c8 (rj (jI A) (qW L) (qO L b))) e)) hm2).trans (qU_SIn (L := L) (m := k) (u := u) hm)⟩⟩
theorem st_cx (H : PHy N P A x0) {L : LB} (hL : LOK N P L) {k b c : Nat} {e : ET} (r1 : hdE A 4 e k (nI b)) (r2 : A 164 b = nI c) (we : wfE e) (hk : k < P) (hb9 : b < P) (hc9 : c < P) (hkb : k < b) (hbc : b < c) {u : Int32} (hu : lv N u) (g1 : le8 (jI A) (qI L k) (qW L)) (g2 : jle (jI A) (qU L k) u) (g3 : le8 (jI A) (qI L b) (qW L)) (g3c : le8 (jI A) (qI L c) (qW L)) (g4 : jle (jI A) (qU L b) (jI A u (lbE (jI A) x0 (qW L) e))) (g4c : jle (jI A) (qU L c) (jI A u (lbE (jI A) x0 (qW L) e))) (g5 : le8 (jI A) (qO L k) (c8 (rj (jI A) (qO L b) (qO L c)))) {L' : LB} (hL' : L' = lTO (lST A x0 (lSI L k u) k (k + 1) (k + 1 + szE e)) k) :
    GW N (jI A) P L L' ∧ (qI L' k = qW L ∧ qU L' k = u ∧ qO L' k = c8 (rj (jI A) (qO L b) (qO L c)) ∧ qW L' = c8 (rj (jI A) (qO L b) (qO L c)) ∧ (qI L' b = qW L ∧ qU L' b = jI A u (lbE (jI A) x0 (qW L) e) ∧ qO L' b = qO L b) ∧ (qI L' c = qW L ∧ qU L' c = jI A u (lbE (jI A) x0 (qW L) e) ∧ qO L' c = qO L c)) ∧ ∀ m, ¬ m = k → ¬ m = b → ¬ m = c → qI L' m = qI L m ∧ qO L' m = qO L m ∧ qU L' m = qU L m := by
  obtain ⟨hN, hP, hJk, hJ, hb, hbo⟩ := id H
  have enx : nx A (k + 1) = b := by unfold nx; rw [r1.2.2.1, nI_clamp (by omega)]
  have enc : nx A b = c := by unfold nx; rw [r2, nI_clamp (by omega)]
  have ok1 : LOK N P (lSI L k u) := lSI_ok hL hu
  have ok2 : LOK N P (lTI (lSI L k u) k) := lTI_ok ok1 hk
  have w2 : qW (lTI (lSI L k u) k) = qW L := qW_TI.trans qI_SI
  have ex : jI A ((lSI L k u).2.2.1 k) (loI A (lTI (lSI L k u) k).2.2.2.1 (k + 1) (k + 1 + szE e - (k + 1)) x0) = jI A u (lbE (jI A) x0 (qW L) e) := by
    rw [lab_eq H ok2.2.2.2 r1.2.2.2.2 we, w2, show (lSI L k u).2.2.1 k = u from qU_SI]
  generalize hx : jI A u (lbE (jI A) x0 (qW L) e) = x at *
  have lx : lv N x := by rw [← hx]; exact hJ.1 _ _ hu (lbE_lv hJ hb (qW_lv hL) e we)
  have ok3 : LOK N P (lSI (lTI (lSI L k u) k) b x) := lSI_ok ok2 lx
  have ok4 : LOK N P (lSI (lSI (lTI (lSI L k u) k) b x) c x) := lSI_ok ok3 lx
  have ok5 : LOK N P (lTO (lSI (lSI (lTI (lSI L k u) k) b x) c x) b) := lTO_ok ok4 hb9
  have ok6 : LOK N P (lJO A (lTO (lSI (lSI (lTI (lSI L k u) k) b x) c x) b) c) := lJO_ok hN hJk ok5 hc9
  have w6 : qW (lJO A (lTO (lSI (lSI (lTI (lSI L k u) k) b x) c x) b) c) = c8 (rj (jI A) (qO L b) (qO L c)) := by
    rw [qW_JO, qW_TO]; rfl
  have el : L' = lTO (lSO (lJO A (lTO (lSI (lSI (lTI (lSI L k u) k) b x) c x) b) c) k) k := by
    rw [hL']
    unfold lST
    rw [if_neg (by rw [r1.1]; decide), if_neg (by rw [r1.1]; decide), enx, enc, ex]
  clear hL'
  subst el
  have ok7 := lSO_ok (m := k) ok6
  have kb : ¬ k = b := by omega
  have kc : ¬ k = c := by omega
  have bc : ¬ b = c := by omega
  have s3 : GW N (jI A) P (lTI (lSI L k u) k) (lSI (lTI (lSI L k u) k) b x) := GW_SI hJ ok2 hb9 lx (by rw [w2]; show le8 _ (qI (lSI L k u) b) _; rw [qI_SIn (fun z => kb z.symm)]; exact g3) (by show jle _ (qU (lSI L k u) b) _; rw [qU_SIn (fun z => kb z.symm)]; exact g4)
  have s4 : GW N (jI A) P (lSI (lTI (lSI L k u) k) b x) (lSI (lSI (lTI (lSI L k u) k) b x) c x) := GW_SI hJ ok3 hc9 lx (by rw [show qW (lSI (lTI (lSI L k u) k) b x) = qW L from w2, qI_SIn (fun z => bc z.symm)]; show le8 _ (qI (lSI L k u) c) _; rw [qI_SIn (fun z => kc z.symm)]; exact g3c) (by rw [qU_SIn (fun z => bc z.symm)]; show jle _ (qU (lSI L k u) c) _; rw [qU_SIn (fun z => kc z.symm)]; exact g4c)
  have g := GW_tr hJ hL (GW_SI hJ hL hk hu g1 g2) (GW_tr hJ ok1 (GW_id hJ ok1 ok2 rfl rfl rfl rfl) (GW_tr hJ ok2 s3 (GW_tr hJ ok3 s4 (GW_tr hJ ok4 (GW_id hJ ok4 ok6 rfl rfl rfl rfl) (GW_tr hJ ok6 (GW_SO hJ ok6 hk (by rw [w6]; exact g5)) (GW_id hJ ok7 (lTO_ok ok7 hk) rfl rfl rfl rfl))))))
  exact ⟨g, ⟨(qI_SIn (L := lSI (lTI (lSI L k u) k) b x) (m := c) (u := x) kc).trans ((qI_SIn (L := lTI (lSI L k u) k) (m := b) (u := x) kb).trans (qI_SI (L := L) (m := k) (u := u))), (qU_SIn (L := lSI (lTI (lSI L k u) k) b x) (m := c) (u := x) kc).trans ((qU_SIn (L := lTI (lSI L k u) k) (m := b) (u := x) kb).trans (qU_SI (L := L) (m := k) (u := u))), qO_SO.trans w6, qW_TO.trans (qO_SO.trans w6), ⟨(qI_SIn (L := lSI (lTI (lSI L k u) k) b x) (m := c) (u := x) bc).trans ((qI_SI (L := lTI (lSI L k u) k) (m := b) (u := x)).trans w2), (qU_SIn (L := lSI (lTI (lSI L k u) k) b x) (m := c) (u := x) bc).trans (qU_SI (L := lTI (lSI L k u) k) (m := b) (u := x)), qO_SOn (fun z => kb z.symm)⟩, ⟨(qI_SI (L := lSI (lTI (lSI L k u) k) b x) (m := c) (u := x)).trans w2, qU_SI (L := lSI (lTI (lSI L k u) k) b x) (m := c) (u := x), qO_SOn (fun z => kc z.symm)⟩⟩, fun m hm hm2 hm3 => ⟨(qI_SIn (L := lSI (lTI (lSI L k u) k) b x) (m := c) (u := x) hm3).trans ((qI_SIn (L := lTI (lSI L k u) k) (m := b) (u := x) hm2).trans (qI_SIn (L := L) (m := k) (u := u) hm)), qO_SOn hm, (qU_SIn (L := lSI (lTI (lSI L k u) k) b x) (m := c) (u := x) hm3).trans ((qU_SIn (L := lTI (lSI L k u) k) (m := b) (u := x) hm2).trans (qU_SIn (L := L) (m := k) (u := u) hm))⟩⟩
end PRW
