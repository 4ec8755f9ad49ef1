/-! ===== the reference's labels of a program: what a step writes ===== -/
def c8 (X : Nat → Int32) : Nat → Int32 := fun v => if v < 8 then X v else 0
theorem c8_e (X : Nat → Int32) : e8 (c8 X) X := fun v hv => if_pos hv
theorem c8_x {X Y : Nat → Int32} (h : e8 X Y) : c8 X = c8 Y := by
  funext v
  unfold c8
  by_cases c : v < 8
  · rw [if_pos c, if_pos c]; exact h v c
  · rw [if_neg c, if_neg c]
theorem c8_c (X : Nat → Int32) : c8 (c8 X) = c8 X := c8_x (c8_e X)
theorem c8_lv {N : Nat} {X : Nat → Int32} (h : lv8 N X) : lv8 N (c8 X) := e8_lv (c8_e X) h
theorem c8_u {X : Nat → Int32} {v : Nat} (x : Int32) (hv : v < 8) : c8 (upd X v x) = upd (c8 X) v x := by
  funext i
  unfold c8 upd
  by_cases c : i = v
  · rw [if_pos (by omega), if_pos c, if_pos c]
  · rw [if_neg c, if_neg c]
def qI (L : LB) (m : Nat) : Nat → Int32 := c8 (fun v => L.1 (8 * m + v))
def qO (L : LB) (m : Nat) : Nat → Int32 := c8 (fun v => L.2.1 (8 * m + v))
def qU (L : LB) (m : Nat) : Int32 := L.2.2.1 m
def qW (L : LB) : Nat → Int32 := c8 L.2.2.2.1
def mr (L : LB) : Bool := L.2.2.2.2
theorem fs_c8 (m : Nat) (h g : Nat → Int32) : c8 (fun v => fillS (8 * m) h g 8 (8 * m + v)) = c8 h := c8_x (fun v hv => by
  show fillS (8 * m) h g 8 (8 * m + v) = h v
  unfold fillS
  rw [if_pos (by omega), show 8 * m + v - 8 * m = v by omega])
theorem fs_c8n {m n : Nat} (h g : Nat → Int32) (c : ¬ n = m) : c8 (fun v => fillS (8 * m) h g 8 (8 * n + v)) = c8 (fun v => g (8 * n + v)) := c8_x (fun v hv => fs_ge (by omega))
section LOP
variable {L : LB} {m n : Nat} {u : Int32} {A : Nat → Nat → Int32}
theorem qI_SI : qI (lSI L m u) m = qW L := fs_c8 m _ _
theorem qI_SIn (c : ¬ n = m) : qI (lSI L m u) n = qI L n := fs_c8n _ _ c
theorem qU_SI : qU (lSI L m u) m = u := upd_at _ _ _
theorem qU_SIn (c : ¬ n = m) : qU (lSI L m u) n = qU L n := upd_ne _ _ c
theorem qO_SO : qO (lSO L m) m = qW L := fs_c8 m _ _
theorem qO_SOn (c : ¬ n = m) : qO (lSO L m) n = qO L n := fs_c8n _ _ c
theorem qW_TI : qW (lTI L m) = qI L m := c8_x (fun v hv => fill_lt (h := fun v => L.1 (8 * m + v)) (g := L.2.2.2.1) hv)
theorem qW_TO : qW (lTO L m) = qO L m := c8_x (fun v hv => fill_lt (h := fun v => L.2.1 (8 * m + v)) (g := L.2.2.2.1) hv)
theorem qW_JO : qW (lJO A L m) = c8 (rj (jI A) (qW L) (qO L m)) := c8_x (fun v hv => by
  rw [show (lJO A L m).2.2.2.1 v = fillF (fun v => jI A (L.2.2.2.1 v) (L.2.1 (8 * m + v))) L.2.2.2.1 8 v from rfl, fill_lt hv]
  show _ = jI A (c8 _ v) (c8 _ v)
  rw [c8_e _ v hv, c8_e _ v hv])
theorem qW_NW {v : Nat} {x : Int32} (hv : v < 8) : qW (lNW L v x) = upd (qW L) v x := c8_u x hv
theorem anyF_f {X Y : Nat → Int32} : anyF (fun v => decide (¬ X v = Y v)) 0 8 = false ↔ e8 X Y := by
  constructor
  · intro h v hv
    by_cases c : X v = Y v
    · exact c
    · have := anyF_iff (p := fun v => decide (¬ X v = Y v)) (k := 8) (i := 0) |>.mpr ⟨v, Nat.zero_le v, by omega, decide_eq_true c⟩
      rw [h] at this
      exact absurd this (by decide)
  · intro h
    cases c : anyF (fun v => decide (¬ X v = Y v)) 0 8 with
    | false => rfl
    | true =>
      obtain ⟨v, _, h2, h3⟩ := anyF_iff.mp c
      exact absurd (h v (by omega)) (of_decide_eq_true h3)
theorem mr_SI : mr (lSI L m u) = false ↔ mr L = false ∧ qU L m = u ∧ qI L m = qW L := by
  show ((L.2.2.2.2 || decide (¬ L.2.2.1 m = u)) || anyF (fun v => decide (¬ L.1 (8 * m + v) = L.2.2.2.1 v)) 0 8) = false ↔ _
  rw [Bool.or_eq_false_iff, Bool.or_eq_false_iff, anyF_f (X := fun v => L.1 (8 * m + v)) (Y := L.2.2.2.1)]
  constructor
  · rintro ⟨⟨a, b⟩, c⟩
    exact ⟨a, Decidable.not_not.mp (of_decide_eq_false b), c8_x c⟩
  · rintro ⟨a, b, c⟩
    exact ⟨⟨a, decide_eq_false (fun z => z b)⟩, fun v hv => (c8_e _ v hv).symm.trans ((congrFun c v).trans (c8_e _ v hv))⟩
theorem mr_SO : mr (lSO L m) = false ↔ mr L = false ∧ qO L m = qW L := by
  show (L.2.2.2.2 || anyF (fun v => decide (¬ L.2.1 (8 * m + v) = L.2.2.2.1 v)) 0 8) = false ↔ _
  rw [Bool.or_eq_false_iff, anyF_f (X := fun v => L.2.1 (8 * m + v)) (Y := L.2.2.2.1)]
  constructor
  · rintro ⟨a, c⟩
    exact ⟨a, c8_x c⟩
  · rintro ⟨a, c⟩
    exact ⟨a, fun v hv => (c8_e _ v hv).symm.trans ((congrFun c v).trans (c8_e _ v hv))⟩
end LOP
/-- the same labels -/
def SQ8 (P : Nat) (L L' : LB) : Prop := ∀ m, m < P → qI L' m = qI L m ∧ qO L' m = qO L m ∧ qU L' m = qU L m
/-- L' is above L; 'more' tells whether it is another -/
def GW (N : Nat) (J : Int32 → Int32 → Int32) (P : Nat) (L L' : LB) : Prop := LOK N P L' ∧ (∀ m, m < P → le8 J (qI L m) (qI L' m) ∧ le8 J (qO L m) (qO L' m) ∧ jle J (qU L m) (qU L' m)) ∧ (mr L' = false → mr L = false ∧ SQ8 P L L') ∧ (mr L' = true → mr L = true ∨ ¬ SQ8 P L L')
section LGW
variable {N P : Nat} {J : Int32 → Int32 → Int32} {L : LB}
theorem qI_lv (h : LOK N P L) {m : Nat} (hm : m < P) : lv8 N (qI L m) := c8_lv (fun v hv => h.1 _ (by omega))
theorem qO_lv (h : LOK N P L) {m : Nat} (hm : m < P) : lv8 N (qO L m) := c8_lv (fun v hv => h.2.1 _ (by omega))
theorem qU_lv (h : LOK N P L) {m : Nat} (hm : m < P) : lv N (qU L m) := h.2.2.1 m hm
theorem qW_lv (h : LOK N P L) : lv8 N (qW L) := c8_lv h.2.2.2
theorem c8_as (hJ : SL N J) {X Y : Nat → Int32} (hX : lv8 N (c8 X)) (hY : lv8 N (c8 Y)) (h1 : le8 J (c8 X) (c8 Y)) (h2 : le8 J (c8 Y) (c8 X)) : c8 X = c8 Y := by
  rw [← c8_c X, ← c8_c Y]; exact c8_x (le8_as hJ hX hY h1 h2)
theorem GW_id (hJ : SL N J) (h : LOK N P L) {L' : LB} (h' : LOK N P L') (e1 : L'.1 = L.1) (e2 : L'.2.1 = L.2.1) (e3 : L'.2.2.1 = L.2.2.1) (e4 : mr L' = mr L) : GW N J P L L' := by
  have s : SQ8 P L L' := fun m _ => ⟨by unfold qI; rw [e1], by unfold qO; rw [e2], by unfold qU; rw [e3]⟩
  refine ⟨h', fun m hm => ?_, fun z => ⟨e4 ▸ z, s⟩, fun z => Or.inl (e4 ▸ z)⟩
  rw [(s m hm).1, (s m hm).2.1, (s m hm).2.2]
  exact ⟨le8_rfl hJ (qI_lv h hm), le8_rfl hJ (qO_lv h hm), jle_rfl hJ (qU_lv h hm)⟩
theorem GW_tr (hJ : SL N J) (h : LOK N P L) {L1 L2 : LB} (h1 : GW N J P L L1) (h2 : GW N J P L1 L2) : GW N J P L L2 := by
  refine ⟨h2.1, fun m hm => ?_, fun z => ?_, fun z => ?_⟩
  · have a := h1.2.1 m hm
    have b := h2.2.1 m hm
    exact ⟨le8_tr hJ (qI_lv h hm) (qI_lv h1.1 hm) (qI_lv h2.1 hm) a.1 b.1, le8_tr hJ (qO_lv h hm) (qO_lv h1.1 hm) (qO_lv h2.1 hm) a.2.1 b.2.1, jle_tr hJ (qU_lv h hm) (qU_lv h1.1 hm) (qU_lv h2.1 hm) a.2.2 b.2.2⟩
  · obtain ⟨z1, s1⟩ := h2.2.2.1 z
    obtain ⟨z2, s2⟩ := h1.2.2.1 z1
    exact ⟨z2, fun m hm => ⟨(s1 m hm).1.trans (s2 m hm).1, (s1 m hm).2.1.trans (s2 m hm).2.1, (s1 m hm).2.2.trans (s2 m hm).2.2⟩⟩
  · have key : SQ8 P L L2 → SQ8 P L L1 ∧ SQ8 P L1 L2 := fun s => by
      have s1 : SQ8 P L L1 := fun m hm => by
        have a := h1.2.1 m hm
        have b := h2.2.1 m hm
        obtain ⟨c1, c2, c3⟩ := s m hm
        rw [c1, c2, c3] at b
        exact ⟨c8_as hJ (qI_lv h1.1 hm) (qI_lv h hm) b.1 a.1, c8_as hJ (qO_lv h1.1 hm) (qO_lv h hm) b.2.1 a.2.1, jle_as hJ (qU_lv h1.1 hm) (qU_lv h hm) b.2.2 a.2.2⟩
      exact ⟨s1, fun m hm => ⟨(s m hm).1.trans (s1 m hm).1.symm, (s m hm).2.1.trans (s1 m hm).2.1.symm, (s m hm).2.2.trans (s1 m hm).2.2.symm⟩⟩
    rcases h2.2.2.2 z with z1 | z1
    · rcases h1.2.2.2 z1 with z2 | z2
      · exact Or.inl z2
      · exact Or.inr (fun s => z2 (key s).1)
    · exact Or.inr (fun s => z1 (key s).2)
theorem GW_SI (hJ : SL N J) (h : LOK N P L) {m : Nat} (hm : m < P) {u : Int32} (hu : lv N u) (g1 : le8 J (qI L m) (qW L)) (g2 : jle J (qU L m) u) : GW N J P L (lSI L m u) := by
  have ok : LOK N P (lSI L m u) := lSI_ok h hu
  refine ⟨ok, fun n hn => ?_, fun z => ?_, fun z => ?_⟩
  · by_cases c : n = m
    · subst c
      rw [qI_SI, qU_SI]
      exact ⟨g1, le8_rfl hJ (qO_lv h hn), g2⟩
    · rw [qI_SIn c, qU_SIn c]
      exact ⟨le8_rfl hJ (qI_lv h hn), le8_rfl hJ (qO_lv h hn), jle_rfl hJ (qU_lv h hn)⟩
  · obtain ⟨z1, z2, z3⟩ := mr_SI.mp z
    refine ⟨z1, fun n hn => ?_⟩
    by_cases c : n = m
    · subst c
      exact ⟨by rw [qI_SI, z3], rfl, by rw [qU_SI, z2]⟩
    · exact ⟨qI_SIn c, rfl, qU_SIn c⟩
  · cases c : mr L with
    | true => exact Or.inl rfl
    | false =>
      refine Or.inr (fun s => ?_)
      have := mr_SI (L := L) (m := m) (u := u) |>.mpr ⟨c, by rw [← (s m hm).2.2, qU_SI], by rw [← (s m hm).1, qI_SI]⟩
      rw [z] at this
      exact absurd this (by decide)
theorem GW_SO (hJ : SL N J) (h : LOK N P L) {m : Nat} (hm : m < P) (g1 : le8 J (qO L m) (qW L)) : GW N J P L (lSO L m) := by
  have ok : LOK N P (lSO L m) := lSO_ok h
  refine ⟨ok, fun n hn => ?_, fun z => ?_, fun z => ?_⟩
  · by_cases c : n = m
    · subst c
      rw [qO_SO]
      exact ⟨le8_rfl hJ (qI_lv h hn), g1, jle_rfl hJ (qU_lv h hn)⟩
    · rw [qO_SOn c]
      exact ⟨le8_rfl hJ (qI_lv h hn), le8_rfl hJ (qO_lv h hn), jle_rfl hJ (qU_lv h hn)⟩
  · obtain ⟨z1, z3⟩ := mr_SO.mp z
    refine ⟨z1, fun n hn => ?_⟩
    by_cases c : n = m
    · subst c
      exact ⟨rfl, by rw [qO_SO, z3], rfl⟩
    · exact ⟨rfl, qO_SOn c, rfl⟩
  · cases c : mr L with
    | true => exact Or.inl rfl
    | false =>
      refine Or.inr (fun s => ?_)
      have := mr_SO (L := L) (m := m) |>.mpr ⟨c, by rw [← (s m hm).2.1, qO_SO]⟩
      rw [z] at this
      exact absurd this (by decide)
end LGW
/-- the label of an expression -/
theorem loI_add (A : Nat → Nat → Int32) (W : Nat → Int32) : ∀ (c1 c2 k : Nat) (x : Int32), loI A W k (c1 + c2) x = loI A W (k + c1) c2 (loI A W k c1 x)
  | 0, c2, k, x => by rw [Nat.zero_add]; rfl
  | c1 + 1, c2, k, x => by
    rw [show c1 + 1 + c2 = (c1 + c2) + 1 by omega, loI, loI, loI_add A W c1 c2 (k + 1), show k + 1 + c1 = k + (c1 + 1) by omega]
theorem loI_lb {N : Nat} {A : Nat → Nat → Int32} {W : Nat → Int32} {x0 : Int32} (hJ : SL N (jI A)) (hb : lv N x0) (hbo : ∀ y, lv N y → jI A x0 y = y) (hW : lv8 N W) : ∀ (e : ET) (k : Nat) (x : Int32), rpE A e k → wfE e → lv N x → loI A W k (szE e) x = jI A x (lbE (jI A) x0 W e)
  | .leaf q, k, x, r, w, hx => by
    rw [szE]
    show (if A 159 k = 1 then jI A x (W (A 160 k).toNatClampNeg) else x) = jI A x (if q.1 = 1 then W q.2 else x0)
    rcases w with w | w
    · rw [if_neg (by rw [r.1, w.1]; decide), if_neg (by rw [w.1]; decide), hJ.2.2.1 x x0 hx hb, hbo x hx]
    · rw [if_pos (by rw [r.1, w.1]; decide), if_pos w.1, r.2.1, nI_clamp (by omega)]
  | .branch q a b, k, x, r, w, hx => by
    obtain ⟨r1, r2, r3, r4, r5, r6, r7⟩ := r
    rw [szE, show 1 + szE a + szE b = (szE a + szE b) + 1 by omega, loI, if_neg (by rw [r1]; decide), loI_add, loI_lb hJ hb hbo hW a _ x r6 w.2.1 hx, loI_lb hJ hb hbo hW b _ _ r7 w.2.2 (hJ.1 _ _ hx (lbE_lv hJ hb hW a w.2.1)), lbE, hJ.2.2.2 x _ _ hx (lbE_lv hJ hb hW a w.2.1) (lbE_lv hJ hb hW b w.2.2)]
