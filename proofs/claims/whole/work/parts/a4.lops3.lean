/-! ===== THE LAW: follow ===== -/
section LAW4
variable {n : Nat} {f : sw_F} {s : Nat → Int32} {A : Nat → Nat → Int32} {o : Int64} {pr : Value} {sm : Nat → Int32} {Am : Nat → Nat → Int32}
theorem li_GR (h : LI n f s A o pr sm Am) (c : ¬ sm 39 = 0) : GInv (Am 176) (Am 177) (Am 155) (Am 185) := by
  obtain ⟨C, hC, e1, e2, e3, ⟨a, e4, e5, e6⟩, _⟩ := h.2.2.2.2.2.1
  have ha : a = true := by
    cases a with
    | true => rfl
    | false => exact absurd e5 c
  obtain ⟨R, G, cs⟩ := e6 ha
  exact cs_GInv cs e3 _ _
theorem li_GF (h : LI n f s A o pr sm Am) (c : ¬ sm 31 = 0) : GInv (Am 173) (Am 174) (Am 155) (Am 185) := by
  obtain ⟨b, e1, e2, e3⟩ := h.2.2.2.2.1
  have hb : b = true := by
    cases b with
    | true => rfl
    | false => exact absurd e2 c
  obtain ⟨t, m, n1, k1, k2, k3, k4, k5, k6, k7, k8, k9⟩ := e3 hb
  obtain ⟨G, cs⟩ := cs_tree k3 k4 k7 k8 (by omega)
  exact cs_GInv cs (fun j hj => ⟨rfl, rfl⟩) _ _
theorem li_mok (h : LI n f s A o pr sm Am) {C : Nat} (hC : s 12 = nI C) (hCb : C ≤ 100) (c : ¬ s 2 = 0) : ∃ Inv : GS → Prop, (∀ m, Inv m → mok C (A 29) (A 30) m) ∧ (∀ m, Inv m → ¬ A 29 m.1 = 9 → Inv (gstep (A 29) (A 30) m)) ∧ Inv (exM A) := by
  obtain ⟨C', hC', e1, e2, e3, ⟨a, e4, e5, e6⟩, _⟩ := h.2.2.2.2.2.1
  have ec : C' = C := nI_inj (by omega) (by omega) (e1.symm.trans hC)
  subst ec
  have ha : a = true := by
    cases a with
    | true => rfl
    | false => exact absurd e4 c
  obtain ⟨R, G, cs⟩ := e6 ha
  exact ⟨civ C' R G, fun m hm => cs_mok cs hm, fun m hm h9 => cs_step cs hm h9, cs_0 cs _ _ _⟩
theorem li_fO (h : LI n f s A o pr sm Am) (x : Int32) : r_foO sm x = true ↔ fwO s x := by
  obtain ⟨b, e1, e2, e3⟩ := h.2.2.2.2.1
  unfold r_foO fwO
  rw [e1, e2, decide_eq_true_iff]
  exact ⟨fun z => ⟨z.1, Int32.not_lt.mpr z.2.1, z.2.2⟩, fun z => ⟨z.1, Int32.not_lt.mp z.2.1, z.2.2⟩⟩
theorem li_fol0 (h : LI n f s A o pr sm Am) (x : Int32) (c : ¬ fwO s x) : r_foR sm Am x = -1 ∧ LI n f s A o pr (r_foS sm Am x) (r_foA sm Am x) := by
  have c2 : ¬ r_foO sm x = true := fun z => c ((li_fO h x).mp z)
  unfold r_foR r_foS r_foA
  rw [if_neg c2, if_neg c2, if_neg c2]
  exact ⟨rfl, h⟩
theorem li_fol1 (h : LI n f s A o pr sm Am) {Mx : Nat} (hMx : Mx ≤ 500) (h0 : ¬ s 0 = 0) : ∃ (t : RT) (m n1 : Nat), 150 ≤ m ∧ wfR t ∧ dkR 0 t ∧ ndR f m n1 t pr ∧ ∀ (n9 : Nat) (f2 : sw_F) (B : Nat → Nat → Int64) (r : Option Value) (n' : Nat) (f' : sw_F), FoQ n9 f2 s A B o pr Mx (mkR t (fillF (A 5) (A 27) 8) Mx) r n' f' → ∃ (y : Int32) (s' : Nat → Int32) (A' : Nat → Nat → Int32), r = some (.int y) ∧ n' = n9 ∧ f' = gd f2 s' A' B o pr ∧ y = r_foR sm Am (nI Mx) ∧ LI n f s' A' o pr (r_foS sm Am (nI Mx)) (r_foA sm Am (nI Mx)) := by
  obtain ⟨h1, h2, h3, h4, h5, h6, h7, h8⟩ := id h
  obtain ⟨b, e1, e2, e3⟩ := id h5
  have hb : b = true := by
    cases b with
    | true => rfl
    | false => exact absurd e1 h0
  obtain ⟨t, m, n1, k1, k2, k3, k4, k5, k6, k7, k8, k9⟩ := e3 hb
  refine ⟨t, m, n1, by omega, k3, k4, k6, ?_⟩
  intro n9 f2 B r n' f' hq
  have fo : r_foO sm (nI Mx) = true := (li_fO h _).mpr ⟨h0, i32_nlt0 (by omega), by rw [nl_500]; exact (nI_leI (by omega) (by omega)).mpr hMx⟩
  have ev : e8 (fillF (A 5) (A 27) 8) (Am 155) := fun v hv => by rw [fill_lt hv]; exact (h2 v hv).symm
  have oe := mkR_e8 t _ _ Mx k3 ev
  obtain ⟨g1, g2⟩ := fol_go k3 k7 k8 (by omega) hMx (Am 155) (Am 185)
  have eg : r_foG Am (nI Mx) = grun (Am 173) (Am 174) Mx 100000 1 (0, 0, Am 155, Am 185, 0) := by
    unfold r_foG r_go
    rw [nI_clamp (by omega)]
  unfold r_foR r_foS r_foA
  rw [if_pos fo, if_pos fo, if_pos fo, eg]
  obtain ⟨hn, hq⟩ := hq
  rcases hq with ⟨X', c', q1, q2, q3, q4⟩ | ⟨q1, q3, x, X', q4⟩
  · rw [q1] at oe
    cases hm : mkR t (Am 155) Mx with
    | none => rw [hm] at oe; exact oe.elim
    | some Yc =>
      obtain ⟨Y, c2⟩ := Yc
      rw [hm] at oe
      obtain ⟨oe1, oe2⟩ := oe
      have oe2 : c' = c2 := oe2
      subst oe2
      obtain ⟨N, S', z1, z2, z3⟩ := g1 Y c' hm
      rw [z3]
      refine ⟨nI (Mx - c'), _, _, q3, hn, q4, ?_, h1, fun v hv => ?_, h3, h4, h5, iCd_Y (fun k hk => ?_) h6, h7, h8⟩
      · show nI (Mx - c') = if 0 ≤ nI N then nI (Mx - c') else -1
        rw [if_pos (Int32.not_lt.mp (i32_nlt0 (by omega)))]
      · show Y v = fillF X' (A 5) 8 v
        rw [fill_lt hv]
        exact (oe1 v hv).symm
      · show va_up (va_up A 27 _) 5 _ (45 + k) = A (45 + k)
        rw [vu_ne _ (by omega), vu_ne _ (by omega)]
  · rw [q1] at oe
    cases hm : mkR t (Am 155) Mx with
    | some Yc => rw [hm] at oe; exact oe.elim
    | none =>
      have z := g2 hm
      generalize grun (Am 173) (Am 174) Mx 100000 1 (0, 0, Am 155, Am 185, 0) = rm at z
      obtain ⟨o1, m1⟩ := rm
      have z : o1 = none := z
      subst z
      refine ⟨-1, _, _, q3, hn, q4, ?_, h1, fun v hv => ?_, h3, h4, h5, iCd_Y (fun k hk => ?_) h6, h7, h8⟩
      · show (-1 : Int32) = if 0 ≤ (-1 : Int32) then _ else -1
        rw [if_neg (by decide)]
      · show fillF (gB Am) m1.2.2.1 8 v = A 5 v
        rw [fill_lt hv]
        show fillF (Am 155) (Am 156) 8 v = A 5 v
        rw [fill_lt hv]
        exact h2 v hv
      · show va_up A 27 _ (45 + k) = A (45 + k)
        rw [vu_ne _ (by omega)]
end LAW4
/-! ===== THE LAW: the same joins, the same flow; a tree has one code ===== -/
theorem lbE_jc {N : Nat} {J J' : Int32 → Int32 → Int32} {bo : Int32} (hJ : SL N J) (hb : lv N bo) (e : ∀ x y, lv N x → lv N y → J' x y = J x y) {V : Nat → Int32} (hV : lv8 N V) : ∀ (t : ET), wfE t → lbE J' bo V t = lbE J bo V t
  | .leaf _, w => rfl
  | .branch _ a b, w => by
    rw [lbE, lbE, lbE_jc hJ hb e hV a w.2.1, lbE_jc hJ hb e hV b w.2.2, e _ _ (lbE_lv hJ hb hV a w.2.1) (lbE_lv hJ hb hV b w.2.2)]
theorem flL_jc {N : Nat} {stp stp' : (Nat → Int32) → Nat → Int32} (hs : ∀ V, lv8 N V → lv8 N (stp V)) (hc : ∀ V W, e8 V W → e8 (stp V) (stp W)) (e : ∀ V, lv8 N V → e8 (stp' V) (stp V)) : ∀ k V W, lv8 N V → e8 W V → (∀ X Y, e8 X Y → e8 (stp' X) (stp' Y)) → e8 (flL stp' k W) (flL stp k V)
  | 0, V, W, hV, h, h' => h
  | k + 1, V, W, hV, h, h' => by
    have q : e8 (stp' W) (stp V) := e8_t (h' W V h) (e V hV)
    have ea : allF (fun v => decide (stp' W v = W v)) 0 8 = allF (fun v => decide (stp V v = V v)) 0 8 := allF_cg 8 0 (fun c _ h2 => by rw [q c (by omega), h c (by omega)])
    unfold flL
    rw [ea]
    split
    · exact q
    · exact flL_jc hs hc e k _ _ (hs V hV) q h'
theorem flR_jc {N : Nat} {J J' : Int32 → Int32 → Int32} {bo : Int32} (hJ : SL N J) (hb : lv N bo) (e : ∀ x y, lv N x → lv N y → J' x y = J x y) : ∀ (t : RT) (u : Int32) (V : Nat → Int32), wfR t → lv N u → lv8 N V → e8 (flR J' bo t u V) (flR J bo t u V)
  | .leaf _, u, V, w, hu, hV => fun _ _ => rfl
  | .branch v (.leaf x) R, u, V, w, hu, hV => by
    rw [flR, flR, lbE_jc hJ hb e hV x w.2.1, e _ _ hu (lbE_lv hJ hb hV x w.2.1)]
    exact flR_jc hJ hb e R u _ w.2.2 hu (up_lv hV (hJ.1 _ _ hu (lbE_lv hJ hb hV x w.2.1)))
  | .branch _ (.branch _ (.leaf x) r) R, u, V, w, hu, hV => by
    rw [flR, flR]
    show e8 (flR J' bo R u (flL (stL J' bo r x u) 100 V)) (flR J bo R u (flL (stL J bo r x u) 100 V))
    have ls := stL_lv hJ hb w.2.1 w.1 hu
    have l1 := flL_lv ls 100 V hV
    have q : e8 (flL (stL J' bo r x u) 100 V) (flL (stL J bo r x u) 100 V) := flL_jc ls (stL_c w.2.1 w.1) (fun W hW v hv => by
      have lx := lbE_lv hJ hb hW x w.1
      show J' (flR J' bo r (J' u (lbE J' bo W x)) W v) (W v) = J (flR J bo r (J u (lbE J bo W x)) W v) (W v)
      rw [lbE_jc hJ hb e hW x w.1, e _ _ hu lx, flR_jc hJ hb e r _ W w.2.1 (hJ.1 _ _ hu lx) hW v hv, e _ _ (flR_lv hJ hb r _ W w.2.1 (hJ.1 _ _ hu lx) hW v hv) (hW v hv)]) 100 V V hV (fun _ _ => rfl) (stL_c w.2.1 w.1)
    exact e8_t (flR_cg R u _ _ w.2.2 q) (flR_jc hJ hb e R u _ w.2.2 hu l1)
  | .branch _ (.branch _ (.branch _ (.leaf x) r1) r2) R, u, V, w, hu, hV => by
    have lx := lbE_lv hJ hb hV x w.1
    have a1 := hJ.1 _ _ hu lx
    have b1 := flR_lv hJ hb r1 _ V w.2.1 a1 hV
    have b2 := flR_lv hJ hb r2 _ V w.2.2.1 a1 hV
    rw [flR, flR, lbE_jc hJ hb e hV x w.1, e _ _ hu lx]
    have q : e8 (rj J' (flR J' bo r2 (J u (lbE J bo V x)) V) (flR J' bo r1 (J u (lbE J bo V x)) V)) (rj J (flR J bo r2 (J u (lbE J bo V x)) V) (flR J bo r1 (J u (lbE J bo V x)) V)) := fun v hv => by
      show J' _ _ = J _ _
      rw [flR_jc hJ hb e r2 _ V w.2.2.1 a1 hV v hv, flR_jc hJ hb e r1 _ V w.2.1 a1 hV v hv, e _ _ (b2 v hv) (b1 v hv)]
    exact e8_t (flR_cg R u _ _ w.2.2.2 q) (flR_jc hJ hb e R u _ w.2.2.2 hu (rj_lv hJ b2 b1))
  | .branch _ (.branch _ (.branch _ (.branch _ _ _) _) _) _, u, V, w, hu, hV => w.elim
theorem cdE_un {K B K' B' : Nat → Int32} : ∀ (e : ET) (w : Nat), cdE K B e w → cdE K' B' e w → ∀ j, w ≤ j → j < w + szE e → K' j = K j ∧ B' j = B j
  | .leaf x, w, h, h', j, h1, h2 => by
    rw [szE] at h2
    have : j = w := by omega
    subst this
    exact ⟨h'.1.trans h.1.symm, h'.2.trans h.2.symm⟩
  | .branch q a b, w, h, h', j, h1, h2 => by
    rw [szE] at h2
    by_cases c1 : j < w + szE a
    · exact cdE_un a w h.2.1 h'.2.1 j h1 c1
    · by_cases c2 : j < w + szE a + szE b
      · exact cdE_un b _ h.2.2 h'.2.2 j (by omega) c2
      · have : j = w + szE a + szE b := by omega
        subst this
        exact ⟨h'.1.1.trans h.1.1.symm, h'.1.2.trans h.1.2.symm⟩
theorem cdR_un {K B K' B' : Nat → Int32} : ∀ (t : RT) (w : Nat), cdR K B t w → cdR K' B' t w → ∀ j, w ≤ j → j < w + lnR t → K' j = K j ∧ B' j = B j
  | .leaf _, w, h, h', j, h1, h2 => by rw [lnR] at h2; omega
  | .branch v (.leaf e) R, w, h, h', j, h1, h2 => by
    rw [lnR] at h2
    obtain ⟨⟨a1, a2, a3⟩, a4⟩ := h
    obtain ⟨⟨b1, b2, b3⟩, b4⟩ := h'
    by_cases c1 : j < w + szE e
    · exact cdE_un e w a1 b1 j h1 c1
    · by_cases c2 : j = w + szE e
      · subst c2; exact ⟨b2.trans a2.symm, b3.trans a3.symm⟩
      · exact cdR_un R _ a4 b4 j (by omega) (by omega)
  | .branch _ (.branch _ (.leaf e) r) R, w, h, h', j, h1, h2 => by
    rw [lnR] at h2
    obtain ⟨⟨a1, a2, a3, a5⟩, a4⟩ := h
    obtain ⟨⟨b1, b2, b3, b5⟩, b4⟩ := h'
    by_cases c1 : j < w + szE e
    · exact cdE_un e w a1 b1 j h1 c1
    · by_cases c2 : j = w + szE e
      · subst c2; exact ⟨b2.1.trans a2.1.symm, b2.2.trans a2.2.symm⟩
      · by_cases c3 : j < w + szE e + 1 + lnR r
        · exact cdR_un r _ a5 b5 j (by omega) c3
        · by_cases c4 : j = w + szE e + 1 + lnR r
          · subst c4; exact ⟨b3.1.trans a3.1.symm, b3.2.trans a3.2.symm⟩
          · exact cdR_un R _ a4 b4 j (by omega) (by omega)
  | .branch _ (.branch _ (.branch _ (.leaf e) r1) r2) R, w, h, h', j, h1, h2 => by
    rw [lnR] at h2
    obtain ⟨⟨a1, a2, a3, a5, a6⟩, a4⟩ := h
    obtain ⟨⟨b1, b2, b3, b5, b6⟩, b4⟩ := h'
    by_cases c1 : j < w + szE e
    · exact cdE_un e w a1 b1 j h1 c1
    · by_cases c2 : j = w + szE e
      · subst c2; exact ⟨b2.1.trans a2.1.symm, b2.2.trans a2.2.symm⟩
      · by_cases c3 : j < w + szE e + 1 + lnR r1
        · exact cdR_un r1 _ a5 b5 j (by omega) c3
        · by_cases c4 : j = w + szE e + 1 + lnR r1
          · subst c4; exact ⟨b3.1.trans a3.1.symm, b3.2.trans a3.2.symm⟩
          · by_cases c5 : j < w + szE e + 1 + lnR r1 + 1 + lnR r2
            · exact cdR_un r2 _ a6 b6 j (by omega) c5
            · exact cdR_un R _ a4 b4 j (by omega) (by omega)
  | .branch _ (.branch _ (.branch _ (.branch _ _ _) _) _) _, w, h, h', j, h1, h2 => h.elim
