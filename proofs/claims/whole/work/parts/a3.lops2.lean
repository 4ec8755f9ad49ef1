/-! ===== THE LAW: levels, run, follow ===== -/
section LAW3
variable {n : Nat} {f : sw_F} {s : Nat → Int32} {A : Nat → Nat → Int32} {o : Int64} {pr : Value} {sm : Nat → Int32} {Am : Nat → Nat → Int32}
theorem iCd_Y {s12 s2 s3 : Int32} {a29 a30 a32 : Nat → Int32} {Y Y' : Nat → Nat → Int32} {m36 m39 m40 : Int32} {b6 b7 b8 b83 b84 : Nat → Int32} (e : ∀ k, k < 100 → Y' k = Y k) (h : iCd s12 s2 s3 a29 a30 a32 Y m36 m39 m40 b6 b7 b8 b83 b84) : iCd s12 s2 s3 a29 a30 a32 Y' m36 m39 m40 b6 b7 b8 b83 b84 := by
  obtain ⟨C, hC, e1, e2, e3, e4, hh, e5, e6, e7⟩ := h
  refine ⟨C, hC, e1, e2, e3, e4, hh, e5, e6, fun z k hk => ⟨(e7 z k hk).1, (e7 z k hk).2.imp id ?_⟩⟩
  rintro ⟨g, g1, g2, g3⟩
  exact ⟨g, g1, g2, fun a ha => by rw [e k (by omega)]; exact g3 a ha⟩
theorem li_lT (w : Int64) (x : Int32) : clT w x = r_lvT w x := by
  unfold clT r_lvT r_lvO
  by_cases c : 1 ≤ x ∧ x ≤ 6
  · obtain ⟨N, hN, rfl⟩ := nI_of2 (M := 6) (n := 6) (by decide) (fun z => absurd (Int32.lt_of_lt_of_le z (show (0 : Int32) ≤ 1 by decide)) (Int32.not_lt.mpr c.1)) c.2
    rw [if_pos c, decide_eq_true c, Bool.true_and, nI_clamp (by omega), cord_r hN, lat_r hN]
  · rw [if_neg c, decide_eq_false c, Bool.false_and, if_neg (by decide)]
theorem li_levX (h : LI n f s A o pr sm Am) (w : Int64) (x : Int32) (c : ¬ r_lvT w x = 0) : LI n f s A o pr (r_lvS sm w x) (r_lvA Am w x) := by
  unfold r_lvS r_lvA
  rw [if_neg c, if_neg c]
  exact h
theorem li_lev0 (h : LI n f s A o pr sm Am) (w : Int64) {N : Nat} (h0 : 0 < N) (hN : N ≤ 6) (c : r_lvT w (nI N) = 0) {J : Nat → Int32} (hJ : bJ w N N 0 J) : LI n f (bS s N (cLo w N) (cHi w N)) (lvA2 A J (cLo w N) (cHi w N) 8) w pr (r_lvS sm w (nI N)) (r_lvA Am w (nI N)) := by
  obtain ⟨h1, h2, h3, h4, h5, h6, h7, h8⟩ := id h
  have hV : LVs (r_nb w) N := by
    unfold r_lvT r_lvO at c
    rw [nI_clamp (by omega)] at c
    by_cases c1 : (decide (1 ≤ nI N ∧ nI N ≤ 6) && r_ord (r_nb w) N) = true
    · rw [if_pos c1] at c
      rw [Bool.and_eq_true] at c1
      by_cases c2 : r_lat (r_nb w) N = true
      · exact ⟨h0, hN, r_ord_iff.mp c1.2, c2⟩
      · rw [if_neg c2] at c; exact absurd c (by decide)
    · rw [if_neg c1] at c; exact absurd c (by decide)
  unfold r_lvS r_lvA lvA2
  rw [if_pos c, if_pos c, nI_clamp (by omega), cLo_r hV, cHi_r hV]
  have fl : ∀ (x : Int32) (g : Nat → Int32) v, v < 8 → fillF (fun _ => x) g 8 v = x := fun x g v hv => fill_lt hv
  refine ⟨⟨r_nb w, N, hV, ⟨rfl, rfl⟩, ⟨rfl, rfl⟩, bJ_JT hV hJ, jnF_JT hV, fun i j hi hj => ⟨by rw [hb_c, cb_r hN hi hj], ?_⟩, fun v hv => ⟨⟨?_, ?_⟩, ?_, ?_⟩⟩, h2, h3, h4, h5, ?_, h7, h8⟩
  · show fillF (r_nbF w) (Am 151) 36 (6 * i + j) = bz (r_nb w (6 * i + j))
    rw [fill_lt (by omega)]
    rfl
  · show lv N (fillF (fun _ => nI (r_bot (r_nb w) N N)) (A 3) 8 v)
    rw [fl _ _ v hv]
    exact ⟨_, (bot_lo hV N (Nat.le_refl N)).1, rfl⟩
  · show fillF (fun _ => nI (r_bot (r_nb w) N N)) (Am 153) 8 v = fillF (fun _ => nI (r_bot (r_nb w) N N)) (A 3) 8 v
    rw [fl _ _ v hv, fl _ _ v hv]
  · show lv N (fillF (fun _ => nI (r_top (r_nb w) N N)) (A 4) 8 v)
    rw [fl _ _ v hv]
    exact ⟨_, (top_hi hV N (Nat.le_refl N)).1, rfl⟩
  · show fillF (fun _ => nI (r_top (r_nb w) N N)) (Am 154) 8 v = fillF (fun _ => nI (r_top (r_nb w) N N)) (A 4) 8 v
    rw [fl _ _ v hv, fl _ _ v hv]
  · exact iCd_Y (fun k hk => by rw [vu_ne _ (by omega), vu_ne _ (by omega), vu_ne _ (by omega)]) h6
theorem li_rT (h : LI n f s A o pr sm Am) (x : Int32) : ruT s x = r_runT sm x := by
  obtain ⟨C, hC, e1, e2, e3, ⟨a, e4, e5, e6⟩, _⟩ := h.2.2.2.2.2.1
  unfold ruT r_runT
  rw [e4, e5]
theorem li_run (h : LI n f s A o pr sm Am) (x : Int32) (c : ruT s x = 0) : gRet (crun (A 29) (A 30) x.toNatClampNeg 1 (exM A)) = r_runR sm Am x ∧ LI n f (mS s (crun (A 29) (A 30) x.toNatClampNeg 1 (exM A)).2) (exA A (crun (A 29) (A 30) x.toNatClampNeg 1 (exM A))) o pr (r_runS sm Am x) (r_runA sm Am x) := by
  have cm : r_runT sm x = 0 := by rw [← li_rT h]; exact c
  obtain ⟨x1, x2, x3⟩ := r_runT_0 cm
  obtain ⟨k, hk, rfl⟩ := nI_of2 (M := 2000) (n := 2000) (by decide) (Int32.not_lt.mpr x1) x2
  obtain ⟨h1, h2, h3, h4, h5, h6, h7, h8⟩ := id h
  obtain ⟨C, hC, e1, e2, e3, ⟨a, e4, e5, e6⟩, _⟩ := id h6
  have ha : a = true := by
    cases a with
    | true => rfl
    | false => exact absurd e5 x3
  obtain ⟨R, G, cs⟩ := e6 ha
  unfold r_runR r_runS r_runA
  rw [if_pos cm, if_pos cm, if_pos cm, nI_clamp (by omega)]
  have eg : r_go Am 176 177 5000 k = crun (Am 176) (Am 177) k 1 (0, 0, Am 155, Am 185, 0) := grun_c _ _ _ _ _ _ (by show 0 + k ≤ 5000; omega)
  have q := crun_R cs (K' := Am 176) (B' := Am 177) e3 k 1 (exM A) (0, 0, Am 155, Am 185, 0) (cs_0 cs _ _ _) ⟨rfl, rfl, fun v hv => by show Am 155 v = fillF (A 5) (A 148) 8 v; rw [fill_lt hv]; exact h2 v hv, fun j hj => absurd hj (Nat.not_lt_zero _), rfl⟩
  rw [eg]
  generalize crun (Am 176) (Am 177) k 1 (0, 0, Am 155, Am 185, 0) = rm at q
  generalize crun (A 29) (A 30) k 1 (exM A) = rc at q
  obtain ⟨o1, m1⟩ := rm
  obtain ⟨o2, m2⟩ := rc
  obtain ⟨q1, q2⟩ := q
  have q1 : o1 = o2 := q1
  subst q1
  refine ⟨rfl, ?_⟩
  cases o1 with
  | none =>
    refine ⟨h1, fun v hv => ?_, h3, h4, h5, iCd_Y (fun k hk => ?_) h6, h7, h8⟩
    · show fillF (gB Am) m1.2.2.1 8 v = A 5 v
      rw [fill_lt hv]
      show fillF (Am 155) (Am 156) 8 v = A 5 v
      rw [fill_lt hv]
      exact h2 v hv
    · show va_up (va_up A 148 _) 149 _ (45 + k) = A (45 + k)
      rw [vu_ne _ (by omega), vu_ne _ (by omega)]
  | some w =>
    refine ⟨h1, fun v hv => ?_, h3, h4, h5, iCd_Y (fun k hk => ?_) h6, h7, h8⟩
    · show m1.2.2.1 v = fillF m2.2.2.1 (A 5) 8 v
      rw [fill_lt hv]
      exact q2.2.2.1 v hv
    · show va_up (va_up (va_up A 148 _) 149 _) 5 _ (45 + k) = A (45 + k)
      rw [vu_ne _ (by omega), vu_ne _ (by omega), vu_ne _ (by omega)]
/-- two runs of the follower, alike on the variables -/
def OE (w w' : OX) : Prop := match w, w' with
  | none, none => True
  | some a, some b => e8 a.1 b.1 ∧ a.2 = b.2
  | _, _ => False
theorem OE_B {w w' : OX} {k k' : (Nat → Int32) → Nat → OX} (h : OE w w') (hk : ∀ X X' c, e8 X X' → OE (k X c) (k' X' c)) : OE (oB w k) (oB w' k') := by
  cases w with
  | none => cases w' with
    | none => trivial
    | some b => exact h.elim
  | some a => cases w' with
    | none => exact h.elim
    | some b =>
      obtain ⟨h1, h2⟩ := h
      show OE (k a.1 a.2) (k' b.1 b.2)
      rw [h2]
      exact hk _ _ _ h1
theorem vlE_e8 {X X' : Nat → Int32} (h : e8 X X') : ∀ (e : ET), wfE e → vlE X e = vlE X' e
  | .leaf q, w => by
    unfold vlE
    rcases w with w | w
    · simp [w.1]
    · simp [w.1, h _ w.2]
  | .branch q a b, w => by
    unfold vlE
    rw [vlE_e8 h a w.2.1, vlE_e8 h b w.2.2]
theorem mkL_e8 {e : ET} (we : wfE e) {bd : (Nat → Int32) → Nat → OX} (hb : ∀ X X' c, e8 X X' → OE (bd X c) (bd X' c)) : ∀ k X X' c, e8 X X' → OE (mkL (fun X => vlE X e) bd k X c) (mkL (fun X => vlE X e) bd k X' c)
  | 0, X, X', c, h => trivial
  | k + 1, X, X', c, h => by
    rw [mkL, mkL]
    by_cases c0 : c = 0
    · rw [if_pos c0, if_pos c0]; trivial
    · rw [if_neg c0, if_neg c0]
      show OE (if vlE X e = 0 then _ else _) (if vlE X' e = 0 then _ else _)
      rw [vlE_e8 h e we]
      by_cases c1 : vlE X' e = 0
      · rw [if_pos c1, if_pos c1]; exact ⟨h, rfl⟩
      · rw [if_neg c1, if_neg c1]; exact OE_B (hb X X' (c - 1) h) (fun Y Y' c' q => mkL_e8 we hb k Y Y' c' q)
theorem mkR_e8 : ∀ (t : RT) (X X' : Nat → Int32) (c : Nat), wfR t → e8 X X' → OE (mkR t X c) (mkR t X' c)
  | .leaf _, X, X', c, wf, h => ⟨h, rfl⟩
  | .branch v (.leaf e) R, X, X', c, wf, h => by
    rw [mkR, mkR, vlE_e8 h e wf.2.1]
    exact mkR_e8 R _ _ c wf.2.2 (up_e8 h)
  | .branch _ (.branch _ (.leaf e) r) R, X, X', c, wf, h => by
    rw [mkR, mkR]
    exact OE_B (mkL_e8 wf.1 (fun Y Y' c q => mkR_e8 r Y Y' c wf.2.1 q) 600 X X' c h) (fun Y Y' c q => mkR_e8 R Y Y' c wf.2.2 q)
  | .branch _ (.branch _ (.branch _ (.leaf e) r1) r2) R, X, X', c, wf, h => by
    rw [mkR, mkR, vlE_e8 h e wf.1]
    refine OE_B ?_ (fun Y Y' c q => mkR_e8 R Y Y' c wf.2.2.2 q)
    by_cases c0 : c = 0
    · rw [if_pos c0, if_pos c0]; trivial
    · rw [if_neg c0, if_neg c0]
      by_cases c1 : vlE X' e = 0
      · rw [if_pos c1, if_pos c1]; exact mkR_e8 r2 X X' _ wf.2.2.1 h
      · rw [if_neg c1, if_neg c1]; exact mkR_e8 r1 X X' _ wf.2.1 h
  | .branch _ (.branch _ (.branch _ (.branch _ _ _) _) _) _, X, X', c, wf, h => wf.elim
end LAW3
