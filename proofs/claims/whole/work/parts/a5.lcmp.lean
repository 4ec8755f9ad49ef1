/-! ===== THE LAW: compile ===== -/
section LAW5
variable {n : Nat} {f : sw_F} {s : Nat → Int32} {A : Nat → Nat → Int32} {o : Int64} {pr : Value} {sm : Nat → Int32} {Am : Nat → Nat → Int32}
theorem iPg_x {n n' : Nat} {f f' : sw_F} {s0 : Int32} {a9 : Nat → Int32} {pr : Value} {m31 : Int32} {b3 b4 b5 : Nat → Int32} (hn : n ≤ n') (hf : ∀ i, 187 ≤ i → i < n → f' i = f i) (h : iPg n f s0 a9 pr m31 b3 b4 b5) : iPg n' f' s0 a9 pr m31 b3 b4 b5 := by
  obtain ⟨b, e1, e2, e3⟩ := h
  refine ⟨b, e1, e2, fun z => ?_⟩
  obtain ⟨t, m, n1, k1, k2, k3, k4, k5, k6, k7⟩ := e3 z
  exact ⟨t, m, n1, k1, by omega, k3, k4, k5, ndR_x (Nat.le_refl m) (Nat.le_refl n1) (fun i h1 h2 => hf i (by omega) (by omega)) t pr k6, k7⟩
theorem li_x {n' : Nat} {f' : sw_F} (hn : n ≤ n') (hf : ∀ i, 187 ≤ i → i < n → f' i = f i) (h : LI n f s A o pr sm Am) : LI n' f' s A o pr sm Am := by
  obtain ⟨h1, h2, h3, h4, h5, h6, h7, h8⟩ := h
  exact ⟨h1, h2, h3, h4, iPg_x hn hf h5, h6, h7, h8⟩
/-- what both compiles ask for -/
theorem li_cpre (h : LI n f s A o pr sm Am) : ∃ T N, (TC s (A 7) T ∧ s 4 = nI N ∧ N ≤ 6 ∧ SL N (jT (A 2)) ∧ lv N (s 5) ∧ lv8 N (A 3)) ∧ (TO sm Am T ∧ JOK N Am ∧ lv N (sm 4) ∧ (∀ v, v < 8 → lv N (Am 153 v)) ∧ ∀ v, v < 8 → lv N (Am 154 v)) ∧ (∃ b : Bool, sm 30 = bz b) ∧ Am 158 = A 7 := by
  obtain ⟨⟨nb, N, hV, ⟨e1, e2⟩, ⟨g1, g1m⟩, g2, g3, g4, g5⟩, h2, ⟨T, t1, t2, t3, t4, t5, t6⟩, h4, h5, h6, h7, h8⟩ := h
  have lb : lv N (nI (r_bot nb N N)) := ⟨_, (bot_lo hV N (Nat.le_refl N)).1, rfl⟩
  refine ⟨T, N, ⟨⟨t2, t1, t5⟩, e1, hV.2.1, SL_of hV g2, by rw [g1]; exact lb, fun v hv => (g5 v hv).1.1⟩, ⟨⟨t3, t1, t6⟩, fun i j hi hj => ?_, by rw [g1m]; exact lb, fun v hv => by rw [(g5 v hv).1.2]; exact (g5 v hv).1.1, fun v hv => by rw [(g5 v hv).2.2]; exact (g5 v hv).2.1⟩, h8, t4⟩
  rw [g3 i j hi hj]
  exact ⟨_, jn_lt hV hi hj, rfl⟩
/-- the same exit labels, the same check of them -/
theorem li_cx (h : LI n f s A o pr sm Am) {T : Nat} {t : RT} {q : Nat} (hT : T ≤ 72) (hr : rdR (A 7) T = (some t, q)) {A' : Nat → Nat → Int32} (h8 : e8 (A' 9) (flR (jT (A 2)) (s 5) t (s 5) (A 3))) {A3 : Nat → Nat → Int32} (hX : CPX Am A3 t) (L0 : LB) {L : LB} (hL : L = lPG A3 (sm 4) (chA A3 (1 + szR t)) (1 + szR t) L0) : e8 L.2.1 (A' 9) ∧ allF (kev s o (A' 9) (A 4)) 0 8 = allF (cpf Am L.2.1) 0 8 := by
  obtain ⟨⟨nb, N, hV, ⟨e1, e2⟩, ⟨g1, g1m⟩, g2, g3, g4, g5⟩, _⟩ := h
  obtain ⟨x1, x2, x3, x4, x5, x6⟩ := hX
  obtain ⟨wf, hsz, _⟩ := rdR_ok hr
  have hN := hV.2.1
  have lb : lv N (nI (r_bot nb N N)) := ⟨_, (bot_lo hV N (Nat.le_refl N)).1, rfl⟩
  have a152 : A3 152 = Am 152 := x1 152 (by decide)
  have a153 : A3 153 = Am 153 := x1 153 (by decide)
  have jt3 : JT nb N (A3 152) := by rw [a152]; exact g3
  have sl3 : SL N (jI A3) := SL_of hV jt3
  have sl : SL N (jT (A 2)) := SL_of hV g2
  have je : ∀ x y, lv N x → lv N y → jI A3 x y = jT (A 2) x y := by
    rintro x y ⟨i, hi, rfl⟩ ⟨j, hj, rfl⟩
    rw [jT_n g2 hN hi hj]
    exact jT_n jt3 hN hi hj
  have l3 : lv8 N (A 3) := fun v hv => (g5 v hv).1.1
  have en : lv8 N (A3 153) := fun v hv => by rw [a153, (g5 v hv).1.2]; exact l3 v hv
  have H : PHy N (1 + szR t) A3 (nI (r_bot nb N N)) := ⟨hN, by omega, fun i j hi hj => by rw [jt3 i j hi hj]; exact ⟨_, jn_lt hV hi hj, rfl⟩, sl3, lb, fun y hy => bo_j hV jt3 hy⟩
  have HT : TRA A3 (1 + szR t) t (chA A3 (1 + szR t)) := ⟨x2, x3, x4, wf, rfl, fun r b p1 p2 p3 p4 => chA_eq (by omega) p1 p2 p3 p4⟩
  have fl := lPG_fl H en HT (by omega) L0
  rw [← g1m, ← hL] at fl
  have ex : e8 L.2.1 (A' 9) := by
    refine e8_t fl (e8_t ?_ (e8_s h8))
    rw [g1m, g1]
    exact e8_t (flR_cg t _ _ _ wf (fun v hv => by rw [a153]; exact (g5 v hv).1.2)) (flR_jc sl lb je t _ _ wf lb l3)
  refine ⟨ex, allF_cg 8 0 (fun v _ hv => ?_)⟩
  have lf := flR_lv sl (bo := s 5) (by rw [g1]; exact lb) t (s 5) (A 3) wf (by rw [g1]; exact lb) l3
  have l9 : lv N (A' 9 v) := by rw [h8 v (by omega)]; exact lf v (by omega)
  obtain ⟨i, hi, ei⟩ := l9
  obtain ⟨j, hj, ej⟩ := (g5 v (by omega)).2.1
  unfold kev lall cpf
  rw [ex v (by omega), (g5 v (by omega)).2.2, ei, ej, lhas_n e1 hN hi, lhas_n e1 hN hj, nI_clamp (by omega), nI_clamp (by omega), (g4 i j hi hj).1, (g4 i j hi hj).2]
  cases nb (6 * i + j) <;> rfl
theorem li_cE (h : LI n f s A o pr sm Am) (q : Nat) {g' P' : Nat} {A' : Nat → Nat → Int32} (hA : ∀ z, z < 159 ∨ 166 < z → A' z = Am z) : LI n f (ceS s q) A o pr (va_up (va_up (va_up (pS sm q g' P') 10 0) 14 (nI q)) 0 1) A' := by
  obtain ⟨h1, h2, ⟨T, t1, t2, t3, t4, t5, t6⟩, h4, h5, h6, h7, h8⟩ := h
  unfold LI
  rw [hA 151 (by decide), hA 152 (by decide), hA 153 (by decide), hA 154 (by decide), hA 155 (by decide), hA 158 (by decide), hA 173 (by decide), hA 174 (by decide), hA 175 (by decide), hA 176 (by decide), hA 177 (by decide), hA 178 (by decide), hA 183 (by decide), hA 184 (by decide)]
  exact ⟨h1, h2, ⟨0, by decide, rfl, rfl, t4, fun j hj => absurd hj (by omega), t6⟩, rfl, h5, h6, h7, h8⟩
theorem li_cP {n' : Nat} {f2 : sw_F} (hn : 187 ≤ n) (hnn : n ≤ n') (h : LI n f s A o pr sm Am) {T : Nat} {t : RT} {q : Nat} (hT : T ≤ 72) (hr : rdR (A 7) T = (some t, q)) {A' : Nat → Nat → Int32} {v : Value} (hM : CMt n n' f f2 s A A' (rdR (A 7) T) t v) {A3 : Nat → Nat → Int32} (hX : CPX Am A3 t) {L : LB} (ex : e8 L.2.1 (A' 9)) : LI n' f2 (cmS s q) A' o v (va_up (cpS sm T (1 + szR t) (lnR t + 1) L) 0 2) (cpB A3 L) := by
  obtain ⟨h1, h2, ⟨T0, t1, t2, t3, t4, t5, t6⟩, h4, h5, h6, h7, h8⟩ := h
  obtain ⟨m1, m2, m3, m4, m5⟩ := hM
  obtain ⟨x1, x2, x3, x4, x5, x6⟩ := hX
  obtain ⟨wf, hsz, _⟩ := rdR_ok hr
  have dk := rd_dk (show (rdR (A 7) T).1 = some t by rw [hr])
  have hl := lnR_le t
  have fr : ∀ z, ¬ z = 9 → ¬ (11 ≤ z ∧ z ≤ 17) → ¬ (19 ≤ z ∧ z ≤ 25) → A' z = A z := fun z a b c => m5 z a (by omega) (by omega)
  unfold LI
  rw [fr 2 (by decide) (by decide) (by decide), fr 3 (by decide) (by decide) (by decide), fr 4 (by decide) (by decide) (by decide), fr 5 (by decide) (by decide) (by decide), fr 7 (by decide) (by decide) (by decide), fr 29 (by decide) (by decide) (by decide), fr 30 (by decide) (by decide) (by decide), fr 32 (by decide) (by decide) (by decide)]
  rw [show cpB A3 L 151 = Am 151 from x1 151 (by decide), show cpB A3 L 152 = Am 152 from x1 152 (by decide), show cpB A3 L 153 = Am 153 from x1 153 (by decide), show cpB A3 L 154 = Am 154 from x1 154 (by decide), show cpB A3 L 155 = Am 155 from x1 155 (by decide), show cpB A3 L 158 = Am 158 from x1 158 (by decide), show cpB A3 L 176 = Am 176 from x1 176 (by decide), show cpB A3 L 177 = Am 177 from x1 177 (by decide), show cpB A3 L 178 = Am 178 from x1 178 (by decide), show cpB A3 L 183 = Am 183 from x1 183 (by decide), show cpB A3 L 184 = Am 184 from x1 184 (by decide)]
  refine ⟨h1, h2, ⟨0, by decide, rfl, rfl, t4, fun j hj => absurd hj (by omega), t6⟩, rfl, ⟨true, rfl, rfl, fun _ => ⟨t, n, n', hn, Nat.le_refl n', wf, dk, by omega, m3, x5, x6.1, fun w hw => ?_⟩⟩, iCd_Y (fun k hk => ?_) h6, h7, L.2.2.2.2, rfl⟩
  · show fillF L.2.1 (A3 175) 8 w = A' 9 w
    rw [fill_lt hw]
    exact ex w hw
  · exact fr (45 + k) (by omega) (by omega) (by omega)
theorem li_cS {n' : Nat} {f2 : sw_F} (hn : 187 ≤ n) (hnn : n ≤ n') (h : LI n f s A o pr sm Am) {T : Nat} {t : RT} {q : Nat} (hT : T ≤ 72) (hr : rdR (A 7) T = (some t, q)) {A' : Nat → Nat → Int32} {v : Value} (hM : CMt n n' f f2 s A A' (rdR (A 7) T) t v) {A3 : Nat → Nat → Int32} (hX : CPX Am A3 t) {L : LB} (ex : e8 L.2.1 (A' 9)) {K' E' : Nat → Int32} (cd : cdR K' E' t 0) (c9 : K' (lnR t) = 9) (c0 : E' (lnR t) = 0) : LI n' f2 (coS s q (lnR t + 1)) (va_up (va_up A' 29 K') 30 E') o v (va_up (va_up (va_up (va_up (cpS sm T (1 + szR t) (lnR t + 1) L) 0 0) 36 (nI (lnR t + 1))) 39 1) 40 0) (cpA A3 L (lnR t + 1)) := by
  obtain ⟨h1, h2, h3, h4, h5, h6, h7, h8⟩ := li_cP hn hnn h hT hr hM hX ex
  obtain ⟨x1, x2, x3, x4, x5, x6⟩ := hX
  obtain ⟨wf, hsz, _⟩ := rdR_ok hr
  have dk := rd_dk (show (rdR (A 7) T).1 = some t by rw [hr])
  have hl := lnR_le t
  refine ⟨h1, h2, h3, h4, h5, ⟨lnR t + 1, by omega, rfl, rfl, fun k hk => ?_, ⟨true, rfl, rfl, fun _ => ?_⟩, false, rfl, rfl, fun z => absurd z (by decide)⟩, h7, h8⟩
  · show fillF (A3 173) (cpB A3 L 176) (lnR t + 1) k = K' k ∧ fillF (A3 174) (cpB A3 L 177) (lnR t + 1) k = E' k
    rw [fill_lt hk, fill_lt hk]
    by_cases c : k = lnR t
    · rw [c, x6.1, x6.2, c9, c0]; exact ⟨rfl, rfl⟩
    · exact cdR_un t 0 cd x5 k (Nat.zero_le k) (by omega)
  · obtain ⟨G, cs⟩ := cs_tree wf dk cd c9 (by omega)
    exact ⟨_, G, cs⟩
end LAW5
