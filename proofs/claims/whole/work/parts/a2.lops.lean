/-! ===== THE LAW: calls that throw nothing ===== -/
section LAW2
variable {n : Nat} {f : sw_F} {s : Nat → Int32} {A : Nat → Nat → Int32} {o : Int64} {pr : Value} {sm : Nat → Int32} {Am : Nat → Nat → Int32}
theorem ch_nar : ∀ j, j < 127 → narrow .char (.int (nI j)) = .int (nI j) := by decide +kernel
theorem li_write (h : LI n f s A o pr sm Am) {T : Nat} (hT : s 7 = nI T) (hTb : T ≤ 72) (w : Int64) : wOk T w = r_wrOk sm w ∧ LI n f (wS s T w) (wA A T w) o pr (r_wrS sm w) (r_wrA sm Am w) := by
  obtain ⟨h1, h2, h3, h4, h5, h6, h7, h8⟩ := id h
  obtain ⟨T0, t1, t2, t3, t6, t4, t5⟩ := id h3
  have e : T0 = T := nI_inj (by omega) (by omega) (t2.symm.trans hT)
  subst e
  have eT : (sm 10).toNatClampNeg = T0 := by rw [t3, nI_clamp (by omega)]
  have ok : wOk T0 w = r_wrOk sm w := by
    unfold wOk r_wrOk
    rw [eT]
  refine ⟨ok, ?_⟩
  unfold wS wA r_wrS r_wrA
  rw [ok, eT]
  by_cases c : r_wrOk sm w = true
  · rw [if_pos c, if_pos c, if_pos c, if_pos c]
    have c2 := c
    rw [r_wrOk, eT, Bool.and_eq_true, decide_eq_true_iff] at c2
    have hg : ∀ i, i < 8 → ¬ wby w i = 0 → 32 ≤ wby w i ∧ wby w i ≤ 126 := fun i hi hne => by
      have z := (allF_iff (p := fun j => wgood (wby w j)) (k := 8) (i := 0)).mp c2.1 i (Nat.zero_le i) (by omega)
      exact (of_decide_eq_true z).elim (fun z => absurd z hne) id
    have hn : ∀ i, i < 8 → ¬ wby w i = 0 → narrow .char (.int (wby w i)) = .int (wby w i) := fun i hi hne => by
      obtain ⟨g1, g2⟩ := hg i hi hne
      obtain ⟨k, hk, e⟩ := nI_of2 (M := 126) (n := 126) (by decide) (fun z => absurd (Int32.lt_of_lt_of_le z (show (0 : Int32) ≤ 32 by decide)) (Int32.not_lt.mpr g1)) g2
      rw [e]
      exact ch_nar k (by omega)
    refine ⟨h1, h2, ⟨T0 + wcn w 8, c2.2, rfl, rfl, congrArg (fun g => wtx w g T0 8) t6, fun j hj => wtx_P w (P := fun x => 32 ≤ x ∧ x ≤ 126) hg t4 8 (Nat.le_refl 8) j hj, fun j => wtx_A w (P := fun x => narrow .char (.int x) = .int x) hn t5 8 (Nat.le_refl 8) j⟩, h4, h5, ?_, h7, h8⟩
    rw [r45 A _ (show 7 < 45 by decide)]
    exact h6
  · rw [if_neg c, if_neg c, if_neg c, if_neg c]
    exact h
theorem li_exit (h : LI n f s A o pr sm Am) (v : Int32) : (if s 0 = 0 then -1 else exf A v) = r_exit sm Am v := by
  obtain ⟨b, e1, e2, e3⟩ := h.2.2.2.2.1
  unfold r_exit exf
  rw [e1, e2]
  cases b with
  | false => rw [if_pos (by decide), if_neg (fun z => z.1 (by decide))]
  | true =>
    obtain ⟨t, m, n1, _, _, _, _, _, _, _, _, q⟩ := e3 rfl
    rw [if_neg (by decide)]
    by_cases c : isV v = true
    · obtain ⟨w, hw, rfl⟩ := isV_i c
      have c2 := of_decide_eq_true c
      rw [if_pos c, if_pos ⟨by decide, c2.1, c2.2⟩, nI_clamp (by omega), q w hw]
    · rw [if_neg c, if_neg (fun z => c (decide_eq_true z.2))]
theorem w01 {w : Int32} : (0 ≤ w ∧ w ≤ 1) ↔ (w = 0 ∨ w = 1) := by
  constructor
  · rintro ⟨a, b⟩
    obtain ⟨k, hk, rfl⟩ := nI_of2 (M := 1) (n := 1) (by decide) (Int32.not_lt.mpr a) b
    rcases (show k = 0 ∨ k = 1 by omega) with rfl | rfl
    · exact Or.inl rfl
    · exact Or.inr rfl
  · rintro (rfl | rfl) <;> decide
theorem li_code (h : LI n f s A o pr sm Am) (k w : Int32) : cdX s A k w = r_code sm Am k w := by
  obtain ⟨C, hC, e1, e2, e3, _⟩ := h.2.2.2.2.2.1
  unfold cdX r_code
  rw [e2]
  by_cases c0 : k = -1
  · rw [if_pos c0, if_pos c0, e1]
  · rw [if_neg c0, if_neg c0]
    by_cases c : chs s k = true
    · have c2 := of_decide_eq_true c
      rw [e1] at c2
      obtain ⟨i, hi, rfl⟩ := nI_of2 (M := nI C) (n := C) (nI_toInt (by omega)) (Int32.not_lt.mpr c2.1) (Int32.le_of_lt c2.2)
      have hiC := (nI_ltI (by omega) (by omega)).mp c2.2
      rw [if_pos c, cat_n e1 hC hiC, cat_n e1 hC hiC]
      by_cases cw : 0 ≤ w ∧ w ≤ 1
      · rw [if_pos (show 0 ≤ nI i ∧ nI i < nI C ∧ 0 ≤ w ∧ w ≤ 1 from ⟨c2.1, c2.2, cw.1, cw.2⟩), nI_clamp (by omega)]
        rcases w01.mp cw with rfl | rfl
        · rw [if_pos rfl, if_pos rfl, (e3 i hiC).1]
        · rw [if_neg (by decide), if_pos rfl, if_neg (by decide), (e3 i hiC).2]
      · rw [if_neg (show ¬ (0 ≤ nI i ∧ nI i < nI C ∧ 0 ≤ w ∧ w ≤ 1) from fun z => cw ⟨z.2.2.1, z.2.2.2⟩), if_neg (show ¬ w = 0 from fun z => cw (w01.mpr (Or.inl z))), if_neg (show ¬ w = 1 from fun z => cw (w01.mpr (Or.inr z)))]
    · rw [if_neg c, if_neg (fun z => c (decide_eq_true (by rw [e1]; exact ⟨z.1, z.2.1⟩)))]
theorem li_empty (h : LI n f s A o pr sm Am) : LI n f (fgS (va_up s 12 0)) A o pr (va_up (va_up (va_up (va_up sm 0 0) 36 0) 39 0) 40 0) Am := by
  obtain ⟨h1, h2, h3, h4, h5, h6, h7, h8⟩ := id h
  exact ⟨h1, h2, h3, h4, h5, ⟨0, by decide, rfl, rfl, fun k hk => absurd hk (by omega), ⟨false, rfl, rfl, fun z => absurd z (by decide)⟩, false, rfl, rfl, fun z => absurd z (by decide)⟩, h7, h8⟩
theorem li_put (h : LI n f s A o pr sm Am) (k g : Int32) : decide (s 12 < 100) = decide (¬ sm 36 = 100) ∧ LI n f (puS s) (cadA s A k g) o pr (r_putS sm) (r_putA sm Am k g) := by
  obtain ⟨h1, h2, h3, h4, h5, h6, h7, h8⟩ := id h
  obtain ⟨C, hC, e1, e2, e3, _⟩ := id h6
  have q : s 12 < 100 ↔ C < 100 := by rw [e1, nl_100, nI_ltI (by omega) (by omega)]
  have q2 : ¬ sm 36 = 100 ↔ C < 100 := by
    rw [e2]
    constructor
    · intro z
      apply Nat.lt_of_le_of_ne hC
      intro e
      exact z (by rw [e]; decide)
    · intro z z2
      have := nI_inj (by omega) (by omega) (z2.trans nl_100)
      omega
  refine ⟨decide_eq_decide.mpr (q.trans q2.symm), ?_⟩
  unfold puS cadA cadS r_putS r_putA
  by_cases c : C < 100
  · rw [if_pos (q.mpr c), if_pos (q.mpr c), if_neg (q2.mpr c), if_neg (q2.mpr c), if_pos (q.mpr c), e1, e2, nI_clamp (by omega)]
    refine ⟨h1, h2, h3, h4, h5, ⟨C + 1, by omega, nI_1 C, nI_1 C, fun j hj => ?_, ⟨false, rfl, rfl, fun z => absurd z (by decide)⟩, false, rfl, rfl, fun z => absurd z (by decide)⟩, h7, h8⟩
    show upd (Am 176) C k j = upd (A 29) C k j ∧ upd (Am 177) C g j = upd (A 30) C g j
    by_cases ej : j = C
    · rw [ej, upd_at, upd_at, upd_at, upd_at]; exact ⟨rfl, rfl⟩
    · rw [upd_ne _ _ ej, upd_ne _ _ ej, upd_ne _ _ ej, upd_ne _ _ ej]; exact e3 j (by omega)
  · rw [if_neg (fun z => c (q.mp z)), if_neg (fun z => c (q.mp z)), if_pos (Decidable.not_not.mp (fun z => c (q2.mp z))), if_pos (Decidable.not_not.mp (fun z => c (q2.mp z)))]
    exact h
theorem li_set (h : LI n f s A o pr sm Am) (v x : Int32) : isV v = decide (0 ≤ v ∧ v ≤ 7) ∧ LI n f s (seA A v x) o pr (va_up sm 0 0) (r_setA Am v x) := by
  obtain ⟨h1, h2, h3, h4, h5, h6, h7, h8⟩ := id h
  have e : isV v = decide (0 ≤ v ∧ v ≤ 7) := decide_eq_decide.mpr ⟨fun z => ⟨z.1, v87.mp z.2⟩, fun z => ⟨z.1, v87.mpr z.2⟩⟩
  refine ⟨e, ?_⟩
  unfold seA r_setA
  by_cases c : 0 ≤ v ∧ v ≤ 7
  · rw [if_pos (by rw [e]; exact decide_eq_true c), if_pos c]
    refine ⟨h1, fun w hw => ?_, h3, h4, h5, ?_, h7, h8⟩
    · show upd (Am 155) v.toNatClampNeg x w = upd (A 5) v.toNatClampNeg x w
      by_cases cw : w = v.toNatClampNeg
      · rw [cw, upd_at, upd_at]
      · rw [upd_ne _ _ cw, upd_ne _ _ cw]; exact h2 w hw
    · rw [r45 A _ (show 5 < 45 by decide)]
      exact h6
  · rw [if_neg (by rw [e]; exact fun z => c (of_decide_eq_true z)), if_neg c]
    exact h
theorem li_get (h : LI n f s A o pr sm Am) (v : Int32) : (if isV v = true then A 5 v.toNatClampNeg else 0) = r_get Am v := by
  unfold r_get
  by_cases c : isV v = true
  · obtain ⟨w, hw, rfl⟩ := isV_i c
    have c2 := of_decide_eq_true c
    rw [if_pos c, if_pos c2, nI_clamp (by omega), h.2.1 w hw]
  · rw [if_neg c, if_neg (fun z => c (decide_eq_true z))]
theorem w17 : ∀ g, g ≤ 8 → (9 : Int32) + nI g = nI (9 + g) ∧ (8 : Int32) + nI g = nI (8 + g) := by decide
theorem li_found (h : LI n f s A o pr sm Am) (k w : Int32) : (if s 3 = 0 then -1 else lat s (A 32) (fun k => A (45 + k)) k w) = r_found sm Am k w := by
  obtain ⟨C, hC, e1, e2, e3, _, hh, e4, e5, e6⟩ := h.2.2.2.2.2.1
  unfold r_found lat
  rw [e4, e5, e2]
  cases hh with
  | false => rw [if_pos (by decide), if_neg (fun z => z.1 (by decide))]
  | true =>
    rw [if_neg (by decide)]
    by_cases c : chs s k = true
    · have c2 := of_decide_eq_true c
      rw [e1] at c2
      obtain ⟨i, hi, rfl⟩ := nI_of2 (M := nI C) (n := C) (nI_toInt (by omega)) (Int32.not_lt.mpr c2.1) (Int32.le_of_lt c2.2)
      have hiC := (nI_ltI (by omega) (by omega)).mp c2.2
      rw [cat_n e1 hC hiC, nI_clamp (by omega)]
      obtain ⟨q1, q2⟩ := e6 rfl i hiC
      rw [q1]
      rcases q2 with q2 | ⟨g, hg, q2, q3⟩
      · rw [q2, if_neg (fun z => z.1 rfl), if_neg (fun z => absurd z.2.2.2.1 (by decide))]
      · obtain ⟨w9, w8⟩ := w17 g hg
        rw [q2, w9, w8]
        by_cases cw : 0 ≤ w ∧ w ≤ nI (8 + g)
        · obtain ⟨a, ha, rfl⟩ := nI_of2 (M := nI (8 + g)) (n := 8 + g) (nI_toInt (by omega)) (Int32.not_lt.mpr cw.1) cw.2
          rw [if_pos ⟨fun z => absurd (show nI g < 0 by rw [z]; decide) (i32_nlt0 (by omega)), cw.1, (nI_ltI (by omega) (by omega)).mpr (by omega), by rw [nl_17]; exact (nI_ltI (by omega) (by omega)).mpr (by omega)⟩, if_pos ⟨by decide, c2.1, c2.2, Int32.not_lt.mp (i32_nlt0 (by omega)), cw.1, cw.2⟩, nI_clamp (by omega), q3 a (by omega)]
          unfold yLA
          have l8 : nI a < 8 ↔ a < 8 := by rw [nl_8, nI_ltI (by omega) (by omega)]
          have l9 : nI a = 8 ↔ a = 8 := ⟨fun z => nI_inj (by omega) (by omega) (z.trans nl_8), fun z => by rw [z]; exact nl_8.symm⟩
          by_cases d1 : a < 8
          · rw [if_pos d1, if_pos (l8.mpr d1)]
          · rw [if_neg d1, if_neg (fun z => d1 (l8.mp z))]
            by_cases d2 : a = 8
            · rw [if_pos d2, if_pos (l9.mpr d2)]
            · rw [if_neg d2, if_neg (fun z => d2 (l9.mp z)), show 16 * i + (a - 1) = 16 * i + a - 1 by omega]
        · rw [if_neg, if_neg (fun z => cw ⟨z.2.2.2.2.1, z.2.2.2.2.2⟩)]
          rintro ⟨_, z1, z2, z3⟩
          refine cw ⟨z1, ?_⟩
          obtain ⟨a, ha, rfl⟩ := nI_of2 (M := nI (9 + g)) (n := 9 + g) (nI_toInt (by omega)) (Int32.not_lt.mpr z1) (Int32.le_of_lt z2)
          have := (nI_ltI (by omega) (by omega)).mp z2
          exact (nI_leI (by omega) (by omega)).mpr (by omega)
    · rw [if_neg, if_neg (fun z => c (decide_eq_true (by rw [e1]; exact ⟨z.2.1, z.2.2.1⟩)))]
      rintro ⟨z, _⟩
      exact z (if_neg c)
end LAW2
