/-! ===== THE LAW: verify, both sides ===== -/
section LAW7
variable {n : Nat} {f : sw_F} {s : Nat → Int32} {A : Nat → Nat → Int32} {o : Int64} {pr : Value} {sm : Nat → Int32} {Am : Nat → Nat → Int32}
/-- what both verifies ask for -/
theorem li_vpre (h : LI n f s A o pr sm Am) : ∃ C N R, (s 4 = nI N ∧ N ≤ 6 ∧ SL N (J2 A) ∧ s 12 = nI C ∧ C ≤ 100 ∧ s 13 = nI R ∧ (∀ v, v < 8 → lv N (A 3 v)) ∧ lv N (s 5) ∧ ∀ x, lv N x → jle (J2 A) (s 5) x) ∧ sm 36 = nI C ∧ JOK N Am ∧ lv N (sm 4) ∧ (∀ v, v < 8 → lv N (Am 153 v)) ∧ ∀ v, v < 8 → lv N (Am 154 v) := by
  obtain ⟨⟨nb, N, hV, ⟨e1, e2⟩, ⟨g1, g1m⟩, g2, g3, g4, g5⟩, h2, h3, h4, h5, ⟨C, c1, c2, c3, c4⟩, ⟨R, hR⟩, h8⟩ := h
  have lb : lv N (nI (r_bot nb N N)) := ⟨_, (bot_lo hV N (Nat.le_refl N)).1, rfl⟩
  refine ⟨C, N, R, ⟨e1, hV.2.1, SL_of hV g2, c2, c1, hR, fun v hv => (g5 v hv).1.1, by rw [g1]; exact lb, fun x hx => by rw [g1]; exact bo_j hV g2 hx⟩, c3, fun i j hi hj => ?_, by rw [g1m]; exact lb, fun v hv => by rw [(g5 v hv).1.2]; exact (g5 v hv).1.1, fun v hv => by rw [(g5 v hv).2.2]; exact (g5 v hv).2.1⟩
  rw [g3 i j hi hj]
  exact ⟨_, jn_lt hV hi hj, rfl⟩
theorem li_same (h : LI n f s A o pr sm Am) {C : Nat} (hC : s 12 = nI C) (hCb : C ≤ 100) : sameC C (VA (A 29) (A 30)) Am := by
  obtain ⟨C', c1, c2, c3, c4, _⟩ := h.2.2.2.2.2.1
  have ec : C' = C := nI_inj (by omega) (by omega) (c2.symm.trans hC)
  subst ec
  exact sm_VA c4
theorem li_SH (h : LI n f s A o pr sm Am) {C : Nat} (hC : s 12 = nI C) (hCb : C ≤ 100) : SH (VA (A 29) (A 30)) C ↔ SH Am C := ⟨sm_SH (li_same h hC hCb), sm_SH (sm_sy (li_same h hC hCb))⟩
theorem li_vX (h : LI n f s A o pr sm Am) (W : CW) (S' : Nat → Int32) (Wm Sm Pm : Nat → Int32) : LI n f (hwS (fgS s) W) (va_up (hwA A W) 34 S') o pr (va_up (va_up (va_up sm 40 0) 39 0) 0 1) (sA Am Wm Sm Pm) := by
  obtain ⟨h1, h2, h3, h4, h5, ⟨C, c1, c2, c3, c4, _⟩, h7, h8⟩ := h
  exact ⟨h1, h2, h3, h4, h5, ⟨C, c1, c2, c3, c4, ⟨false, rfl, rfl, fun z => absurd z (by decide)⟩, false, rfl, rfl, fun z => absurd z (by decide)⟩, ⟨W.2.2, rfl⟩, h8⟩
theorem li_vS (h : LI n f s A o pr sm Am) {C N : Nat} (hC : s 12 = nI C) (hCb : C ≤ 100) (hN4 : s 4 = nI N) (hN6 : N ≤ 6) {W : CW} {Y : Nat → Nat → Int32} {b : Bool} (Q : vfQ s A o C N W Y b) {Wm Sm Pm G Th : Nat → Int32} {L : CL} {y : Bool} (m1 : HL Am C Wm) (m2 : RGO (va_up Am 178 Wm) C C G) (m3 : L = cLp (vA Am Wm Sm Pm G Th) (sm 4) C 10000 (cI0 (sm 4) Am C)) (m4 : y = allF (vsa (clA (vA Am Wm Sm Pm G Th) L)) 0 C) (S' Qu V1 L1 : Nat → Int32) (r1 : Int32) : y = b ∧ rcd (clA (vA Am Wm Sm Pm G Th) L) 0 C 0 = W.2.2 ∧ LI n f (if b = true then va_up (vfS s W r1) 2 1 else vfS s W r1) (vfA A W S' Qu Y V1 L1) o pr (vS sm L y) (clA (vA Am Wm Sm Pm G Th) L) := by
  have same := li_same h hC hCb
  obtain ⟨⟨nb, N', hV, ⟨e1, e2⟩, ⟨g1, g1m⟩, g2, g3, g4, g5⟩, h2, h3, h4, h5, ⟨C', c1, c2, c3, c4, _⟩, h7, h8⟩ := id h
  have ec : C' = C := nI_inj (by omega) (by omega) (c2.symm.trans hC)
  subst ec
  have eN : N' = N := nI_inj (by have := hV.2.1; omega) (by omega) (e1.symm.trans hN4)
  subst eN
  obtain ⟨q1, q2, q3, q4, q5, q6⟩ := Q
  have lb : lv N' (nI (r_bot nb N' N')) := ⟨_, (bot_lo hV N' (Nat.le_refl N')).1, rfl⟩
  have hPL : PL (VA (A 29) (A 30)) C' := r_pl_iff.mp q1.1
  have eW : ∀ k, k < C' → Wm k = W.1 k := HL_un (sm_HL same q2) m1
  generalize hA4 : vA Am Wm Sm Pm G Th = A4 at *
  have a176 : A4 176 = Am 176 := by rw [← hA4]; rfl
  have a177 : A4 177 = Am 177 := by rw [← hA4]; rfl
  have a178 : A4 178 = Wm := by rw [← hA4]; rfl
  have a181 : A4 181 = G := by rw [← hA4]; rfl
  have a151 : A4 151 = Am 151 := by rw [← hA4]; rfl
  have a152 : A4 152 = Am 152 := by rw [← hA4]; rfl
  have a153 : A4 153 = Am 153 := by rw [← hA4]; rfl
  have a154 : A4 154 = Am 154 := by rw [← hA4]; rfl
  have s4 : sameC C' Am A4 := fun k hk => ⟨by rw [a176], by rw [a177]⟩
  have jt : JT nb N' (A4 152) := by rw [a152]; exact g3
  have sl4 : SL N' (jI A4) := SL_of hV jt
  have sl : SL N' (J2 A) := SL_of hV g2
  have je : ∀ x y, lv N' x → lv N' y → J2 A x y = jI A4 x y := by
    rintro x y ⟨i, hi, rfl⟩ ⟨j, hj, rfl⟩
    exact (jT_n g2 hN6 hi hj).trans (jT_n jt hN6 hi hj).symm
  have hW4 : HL A4 C' (A4 178) := by rw [a178]; exact sm_HL s4 m1
  have hp4 : PL A4 C' := sm_PL s4 (sm_PL same hPL)
  have he4 : ∀ v, v < 8 → lv N' (A4 153 v) := fun v hv => by rw [a153, (g5 v hv).1.2]; exact (g5 v hv).1.1
  have hR4 : RGO A4 C' C' (A4 181) := by
    intro j hj h0 h7 i hi
    rw [a181]
    have sv : sameC C' (va_up Am 178 Wm) A4 := fun k hk => ⟨by rw [a176]; rfl, by rw [a177]; rfl⟩
    exact (m2 j hj (by rw [a178] at h0; exact h0) (by rw [a176] at h7; exact h7) i hi).trans (sm_RGR sv (fun k hk => by rw [a178]; rfl) hj)
  have H : LCH N' A4 (sm 4) C' := ⟨hCb, hN6, fun i j hi hj => by rw [jt i j hi hj]; exact ⟨_, jn_lt hV hi hj, rfl⟩, sl4, by rw [g1m]; exact lb, fun x hx => by rw [g1m]; exact bo_j hV jt hx, hW4, hp4, hR4, he4⟩
  obtain ⟨l1, l2⟩ := cLp_lab H (Am 183) (Am 184) m3
  have k1 := LSo_jc hCb sl4 je hW4 hp4 he4 l1
  have k2 := LU_jc hCb sl4 sl je hW4 hp4 he4 l1.1 l2
  have cv : ∀ k, k < C' → A 29 k = A4 176 k ∧ A 30 k = A4 177 k ∧ W.1 k = A4 178 k := fun k hk => ⟨by rw [a176, (c4 k hk).1], by rw [a177, (c4 k hk).2], by rw [a178, eW k hk]⟩
  have ce : ∀ v, v < 8 → A 3 v = A4 153 v := fun v hv => by rw [a153, (g5 v hv).1.2]
  have k3 := sm_LSo cv ce k1
  have k4 := sm_LU cv ce k2
  have hn8 : ∀ k, k < C' → 0 ≤ W.1 k → hn W.1 k ≤ 8 := fun k hk _ => by
    have := hn_8 hW4 hk
    unfold hn at this ⊢
    rw [(cv k hk).2.2]; exact this
  have one := LS_one sl hn8 q4 q5 k3 k4
  have ey : y = b := by
    rw [m4, ← q6]
    refine allF_cg C' 0 (fun k _ hk => ?_)
    have hk : k < C' := by omega
    have b178 : clA A4 L 178 k = W.1 k := by show A4 178 k = _; rw [a178, eW k hk]
    have b176 : clA A4 L 176 k = A 29 k := by show A4 176 k = _; rw [a176, (c4 k hk).1]
    unfold vsa kek
    rcases q2.2.1 k hk with c | ⟨g, g8, c⟩
    · rw [c, decide_eq_true rfl, Bool.true_or, Bool.true_or, allF_iff]
      intro v _ _
      unfold vsf
      rw [b178, c]
      exact decide_eq_true (Or.inl (by decide))
    · have h0 : 0 ≤ W.1 k := by rw [c]; exact Int32.not_lt.mp (i32_nlt0 (by omega))
      have cn : ¬ W.1 k = -1 := fun z => absurd h0 (by rw [z]; decide)
      rw [decide_eq_false cn, Bool.false_or]
      by_cases c9 : A 29 k = 9
      · rw [decide_eq_true c9, Bool.not_true, Bool.false_or]
        refine allF_cg 8 0 (fun v _ hv => ?_)
        have hv : v < 8 := by omega
        have yv := one k hk h0 v (by omega)
        rw [yL_v _ hv] at yv
        obtain ⟨i, hi, ei⟩ := q4.1 k v hk (by omega)
        obtain ⟨j, hj, ej⟩ := (g5 v hv).2.1
        unfold vsf kev lall
        rw [b178, b176, show clA A4 L 183 (16 * k + v) = L.1 (16 * k + v) from rfl, ← yv, show clA A4 L 151 = Am 151 from a151, show clA A4 L 154 = Am 154 from a154, (g5 v hv).2.2, ei, ej, lhas_n e1 hN6 hi, lhas_n e1 hN6 hj, nI_clamp (by omega), nI_clamp (by omega), (g4 i j hi hj).1, (g4 i j hi hj).2]
        cases nb (6 * i + j) with
        | true => exact decide_eq_true (Or.inr (Or.inr (by decide)))
        | false => exact decide_eq_false (fun z => z.elim (fun z => absurd z (Int32.not_lt.mpr h0)) (fun z => z.elim (fun z => z c9) (fun z => z (by decide))))
      · rw [decide_eq_false c9, Bool.not_false, Bool.true_or, allF_iff]
        intro v _ _
        unfold vsf
        rw [b176]
        exact decide_eq_true (Or.inr (Or.inl c9))
  have er : rcd (clA A4 L) 0 C' 0 = W.2.2 := by
    have z := rcd_un (clA A4 L) C' 0 0
    rw [Nat.zero_add, unh_cg (S := W.1) C' (fun k hk => by show A4 178 k = _; rw [a178, eW k hk]), show unh (clA A4 L 178) 0 = 0 from rfl] at z
    omega
  refine ⟨ey, er, ?_⟩
  subst ey
  have r45' : ∀ k, k < 100 → vfA A W S' Qu Y V1 L1 (45 + k) = Y k := fun k hk => la_k _ _ _ _ hk
  have cd : iCd (s 12) (bz y) 1 (A 29) (A 30) W.1 (fun k => vfA A W S' Qu Y V1 L1 (45 + k)) (sm 36) (bz y) 1 (A4 176) (A4 177) (A4 178) L.1 L.2.1 := by
    refine ⟨C', c1, c2, c3, fun k hk => by rw [a176, a177]; exact c4 k hk, ⟨y, rfl, rfl, fun _ => ⟨_, _, cs_HL c1 q2 hPL⟩⟩, true, rfl, rfl, fun _ k hk => ⟨by rw [a178, eW k hk], (q2.2.1 k hk).imp id ?_⟩⟩
    rintro ⟨g, g8, c⟩
    refine ⟨g, g8, c, fun a ha => ?_⟩
    have h0 : 0 ≤ W.1 k := by rw [c]; exact Int32.not_lt.mp (i32_nlt0 (by omega))
    have hg : hn W.1 k = g := by unfold hn; rw [c, nI_clamp (by omega)]
    show vfA A W S' Qu Y V1 L1 (45 + k) a = yLA L.1 L.2.1 k a
    rw [r45' k (by omega)]
    exact one k hk h0 a (by omega)
  have lv1 : iLv (s 4) (s 5) (A 2) (A 3) (A 4) o (sm 1) (sm 4) (A4 151) (A4 152) (A4 153) (A4 154) := by rw [a151, a152, a153, a154]; exact h.1
  cases y with
  | true => exact ⟨lv1, by rw [← hA4]; exact h2, by rw [← hA4]; exact h3, h4, by rw [← hA4]; exact h5, cd, ⟨W.2.2, rfl⟩, L.2.2, rfl⟩
  | false => exact ⟨lv1, by rw [← hA4]; exact h2, by rw [← hA4]; exact h3, h4, by rw [← hA4]; exact h5, cd, ⟨W.2.2, rfl⟩, L.2.2, rfl⟩
end LAW7
