/-! ===== the reference's labels of code: the least ones ===== -/
def yL (L : CL) : Nat → Nat → Int32 := fun k a => if a < 8 then L.1 (16 * k + a) else if a = 8 then L.2.1 k else L.1 (16 * k + (a - 1))
theorem yL_v (L : CL) {k v : Nat} (h : v < 8) : yL L k v = L.1 (16 * k + v) := if_pos h
theorem yL_c (L : CL) (k : Nat) : yL L k 8 = L.2.1 k := rfl
theorem yL_s (L : CL) (k j : Nat) : yL L k (9 + j) = L.1 (16 * k + 8 + j) := by
  unfold yL
  rw [if_neg (by omega), if_neg (by omega), show 16 * k + (9 + j - 1) = 16 * k + 8 + j by omega]
def phC (N : Nat) (J : Int32 → Int32 → Int32) (C : Nat) (L : CL) : Nat := sumN (fun i => 6 - rk N J (L.1 i)) (16 * C) + sumN (fun k => 6 - rk N J (L.2.1 k)) C
def CRl (N : Nat) (J : Int32 → Int32 → Int32) (C : Nat) (L L' : CL) : Prop := COK N C L' ∧ ((∀ i, i < 16 * C → jle J (L.1 i) (L'.1 i)) ∧ ∀ k, k < C → jle J (L.2.1 k) (L'.2.1 k)) ∧ (L.2.2 = true → L'.2.2 = true) ∧ (L'.2.2 = false → L' = L) ∧ phC N J C L' ≤ phC N J C L ∧ (L.2.2 = false → L'.2.2 = true → phC N J C L' < phC N J C L)
section LCR
variable {N C : Nat} {A : Nat → Nat → Int32} {x0 : Int32}
theorem CR_rfl (hJ : SL N (jI A)) {L : CL} (h : COK N C L) : CRl N (jI A) C L L := ⟨h, ⟨fun i hi => jle_rfl hJ (h.1 i hi), fun k hk => jle_rfl hJ (h.2 k hk)⟩, fun z => z, fun _ => rfl, Nat.le_refl _, fun z1 z2 => absurd z2 (by rw [z1]; decide)⟩
theorem CR_tr (hJ : SL N (jI A)) {L L1 L2 : CL} (h : COK N C L) (h1 : CRl N (jI A) C L L1) (h2 : CRl N (jI A) C L1 L2) : CRl N (jI A) C L L2 := by
  refine ⟨h2.1, ⟨fun i hi => jle_tr hJ (h.1 i hi) (h1.1.1 i hi) (h2.1.1 i hi) (h1.2.1.1 i hi) (h2.2.1.1 i hi), fun k hk => jle_tr hJ (h.2 k hk) (h1.1.2 k hk) (h2.1.2 k hk) (h1.2.1.2 k hk) (h2.2.1.2 k hk)⟩, fun z => h2.2.2.1 (h1.2.2.1 z), fun z => ?_, Nat.le_trans h2.2.2.2.2.1 h1.2.2.2.2.1, fun z1 z2 => ?_⟩
  · have e := h2.2.2.2.1 z
    rw [e] at z ⊢
    exact h1.2.2.2.1 z
  · cases c : L1.2.2 with
    | true => exact Nat.lt_of_le_of_lt h2.2.2.2.2.1 (h1.2.2.2.2.2 z1 c)
    | false =>
      have e := h1.2.2.2.1 c
      have q := h2.2.2.2.2.2 c z2
      rw [e] at q
      exact q
theorem CR_f {L L1 L2 : CL} {J : Int32 → Int32 → Int32} (h1 : CRl N J C L L1) (h2 : CRl N J C L1 L2) (z : L2.2.2 = false) : L1.2.2 = false ∧ L1 = L := by
  have e : L1.2.2 = false := by
    cases c : L1.2.2 with
    | false => rfl
    | true => have := h2.2.2.1 c; rw [z] at this; exact absurd this (by decide)
  exact ⟨e, h1.2.2.2.1 e⟩
theorem upd_id {g : Nat → Int32} {i : Nat} {x : Int32} (h : x = g i) : upd g i x = g := by
  funext j
  unfold upd
  split
  · rename_i e; rw [e, h]
  · rfl
theorem CR_lcm (hN : N ≤ 6) (hJ : SL N (jI A)) {L : CL} (h : COK N C L) {i : Nat} (hi : i < 16 * C) {x : Int32} (hx : lv N x) : CRl N (jI A) C L (lcm A L i x) := by
  have hl := h.1 i hi
  have hj := hJ.1 _ _ hl hx
  have up : jle (jI A) (L.1 i) (jI A (L.1 i) x) := jle_l hJ hl hx
  have ok : COK N C (lcm A L i x) := ⟨fun j hj2 => by
    show lv N (upd L.1 i _ j)
    unfold upd
    split
    · exact hj
    · exact h.1 j hj2, h.2⟩
  have ge : ∀ j, j < 16 * C → jle (jI A) (L.1 j) ((lcm A L i x).1 j) := fun j hj2 => by
    show jle (jI A) (L.1 j) (upd L.1 i _ j)
    by_cases e : j = i
    · rw [e, upd_at]; exact up
    · rw [upd_nq _ e]; exact jle_rfl hJ (h.1 j hj2)
  by_cases c : jI A (L.1 i) x = L.1 i
  · have e : lcm A L i x = L := by
      unfold lcm
      rw [upd_id c, decide_eq_false (fun z => z c), Bool.or_false]
    rw [e]
    exact CR_rfl hJ h
  · have m : (lcm A L i x).2.2 = true := by
      show (L.2.2 || decide _) = true
      rw [decide_eq_true c, Bool.or_true]
    have lt : rk N (jI A) (L.1 i) < rk N (jI A) (jI A (L.1 i) x) := rk_lt hJ hl hj up (fun z => c z.symm)
    have le6 := rk_le (N := N) (J := jI A) (jI A (L.1 i) x)
    have ph : phC N (jI A) C (lcm A L i x) + 1 ≤ phC N (jI A) C L := by
      have q := sum_dn (g := fun j => 6 - rk N (jI A) (L.1 j)) (g' := fun j => 6 - rk N (jI A) ((lcm A L i x).1 j)) (i := i) (by
        show 6 - rk N (jI A) (upd L.1 i _ i) < 6 - rk N (jI A) (L.1 i)
        rw [upd_at]
        omega) (16 * C) hi (fun j hj2 hne => by
        show 6 - rk N (jI A) (upd L.1 i _ j) = 6 - rk N (jI A) (L.1 j)
        rw [upd_nq _ hne])
      unfold phC
      show _ + sumN (fun k => 6 - rk N (jI A) (L.2.1 k)) C + 1 ≤ _
      omega
    exact ⟨ok, ⟨ge, fun k hk => jle_rfl hJ (h.2 k hk)⟩, fun _ => m, fun z => absurd m (by rw [z]; decide), by omega, fun _ _ => by omega⟩
theorem CR_lFC (hN : N ≤ 6) (hJ : SL N (jI A)) {L : CL} (h : COK N C L) {k : Nat} (hk : k < C) (hx : lv N (fcx A L.1 k 0 C x0)) (hle : jle (jI A) (L.2.1 k) (fcx A L.1 k 0 C x0)) : CRl N (jI A) C L (lFC A x0 C L k) := by
  have hl := h.2 k hk
  have ok : COK N C (lFC A x0 C L k) := ⟨h.1, fun j hj2 => by
    show lv N (upd L.2.1 k _ j)
    unfold upd
    split
    · exact hx
    · exact h.2 j hj2⟩
  have ge : ∀ j, j < C → jle (jI A) (L.2.1 j) ((lFC A x0 C L k).2.1 j) := fun j hj2 => by
    show jle (jI A) (L.2.1 j) (upd L.2.1 k _ j)
    by_cases e : j = k
    · rw [e, upd_at]; exact hle
    · rw [upd_nq _ e]; exact jle_rfl hJ (h.2 j hj2)
  by_cases c : fcx A L.1 k 0 C x0 = L.2.1 k
  · have e : lFC A x0 C L k = L := by
      unfold lFC
      rw [upd_id c, decide_eq_false (fun z => z c), Bool.or_false]
    rw [e]
    exact CR_rfl hJ h
  · have m : (lFC A x0 C L k).2.2 = true := by
      show (L.2.2 || decide _) = true
      rw [decide_eq_true c, Bool.or_true]
    have lt := rk_lt hJ hl hx hle (fun z => c z.symm)
    have le6 := rk_le (N := N) (J := jI A) (fcx A L.1 k 0 C x0)
    have ph : phC N (jI A) C (lFC A x0 C L k) + 1 ≤ phC N (jI A) C L := by
      have q := sum_dn (g := fun j => 6 - rk N (jI A) (L.2.1 j)) (g' := fun j => 6 - rk N (jI A) ((lFC A x0 C L k).2.1 j)) (i := k) (by
        show 6 - rk N (jI A) (upd L.2.1 k _ k) < 6 - rk N (jI A) (L.2.1 k)
        rw [upd_at]
        omega) C hk (fun j hj2 hne => by
        show 6 - rk N (jI A) (upd L.2.1 k _ j) = 6 - rk N (jI A) (L.2.1 j)
        rw [upd_nq _ hne])
      unfold phC
      show sumN (fun i => 6 - rk N (jI A) (L.1 i)) (16 * C) + _ + 1 ≤ _
      omega
    exact ⟨ok, ⟨fun i hi => jle_rfl hJ (h.1 i hi), ge⟩, fun _ => m, fun z => absurd m (by rw [z]; decide), by omega, fun _ _ => by omega⟩
theorem lcm_st (hJ : SL N (jI A)) {L : CL} (h : COK N C L) {i : Nat} (hi : i < 16 * C) {x : Int32} (hx : lv N x) (z : (lcm A L i x).2.2 = false) : jle (jI A) x (L.1 i) := by
  have z : (L.2.2 || decide (¬ jI A (L.1 i) x = L.1 i)) = false := z
  rw [Bool.or_eq_false_iff] at z
  have e : jI A (L.1 i) x = L.1 i := Decidable.not_not.mp (of_decide_eq_false z.2)
  unfold jle
  rw [hJ.2.2.1 _ _ hx (h.1 i hi)]
  exact e
/-! leave, part by part -/
theorem CR_lVs (hN : N ≤ 6) (hJ : SL N (jI A)) {k t : Nat} (hk : k < C) (ht : t < C) {x : Int32} (hx : lv N x) : ∀ (c v : Nat) (L : CL), v + c ≤ 8 → COK N C L → CRl N (jI A) C L (lVs A k t x v c L) ∧ ((lVs A k t x v c L).2.2 = false → ∀ v', v ≤ v' → v' < v + c → jle (jI A) (if A 176 k = 2 ∧ A 177 k = nI v' then x else L.1 (16 * k + v')) (L.1 (16 * t + v')))
  | 0, v, L, hv, h => ⟨CR_rfl hJ h, fun _ v' h1 h2 => absurd h2 (by omega)⟩
  | c + 1, v, L, hv, h => by
    have hy : lv N (if A 176 k = 2 ∧ A 177 k = nI v then x else L.1 (16 * k + v)) := by
      split
      · exact hx
      · exact h.1 _ (by omega)
    have r1 := CR_lcm hN hJ h (show 16 * t + v < 16 * C by omega) hy
    obtain ⟨r2, s2⟩ := CR_lVs hN hJ hk ht hx c (v + 1) _ (by omega) r1.1
    refine ⟨CR_tr hJ h r1 r2, fun z v' h1 h2 => ?_⟩
    have e := CR_f r1 r2 z
    by_cases c : v' = v
    · rw [c]; exact lcm_st hJ h (by omega) hy e.1
    · have q := s2 z v' (by omega) (by omega)
      rw [e.2] at q
      exact q
theorem CR_lSs (hN : N ≤ 6) (hJ : SL N (jI A)) {k t : Nat} (hk : k < C) (ht : t < C) : ∀ (c j : Nat) (L : CL), j + c ≤ 8 → COK N C L → CRl N (jI A) C L (lSs A k t j c L) ∧ ((lSs A k t j c L).2.2 = false → ∀ j', j ≤ j' → j' < j + c → jle (jI A) (L.1 (16 * k + 8 + j')) (L.1 (16 * t + 8 + j')))
  | 0, v, L, hv, h => ⟨CR_rfl hJ h, fun _ v' h1 h2 => absurd h2 (by omega)⟩
  | c + 1, v, L, hv, h => by
    have hy : lv N (L.1 (16 * k + 8 + v)) := h.1 _ (by omega)
    have r1 := CR_lcm hN hJ h (show 16 * t + 8 + v < 16 * C by omega) hy
    obtain ⟨r2, s2⟩ := CR_lSs hN hJ hk ht c (v + 1) _ (by omega) r1.1
    refine ⟨CR_tr hJ h r1 r2, fun z v' h1 h2 => ?_⟩
    have e := CR_f r1 r2 z
    by_cases c : v' = v
    · rw [c]; exact lcm_st hJ h (by omega) hy e.1
    · have q := s2 z v' (by omega) (by omega)
      rw [e.2] at q
      exact q
theorem CR_lGs (hN : N ≤ 6) (hJ : SL N (jI A)) {k t q : Nat} (ht : t < C) (hq : r_gb (A 176 k) = 1 → q < 8) {x : Int32} (hx : lv N x) {L : CL} (h : COK N C L) : CRl N (jI A) C L (lGs A k t q x L) ∧ ((lGs A k t q x L).2.2 = false → r_gb (A 176 k) = 1 → jle (jI A) x (L.1 (16 * t + 8 + q))) := by
  unfold lGs
  by_cases c : r_gb (A 176 k) = 1
  · rw [if_pos c]
    have := hq c
    exact ⟨CR_lcm hN hJ h (by omega) hx, fun z _ => lcm_st hJ h (by omega) hx z⟩
  · rw [if_neg c]
    exact ⟨CR_rfl hJ h, fun _ z => absurd z c⟩
/-- what k leaves is at t -/
def LTo (A : Nat → Nat → Int32) (L : CL) (k t q : Nat) (x : Int32) : Prop := (∀ v, v < 8 → jle (jI A) (if A 176 k = 2 ∧ A 177 k = nI v then x else L.1 (16 * k + v)) (L.1 (16 * t + v))) ∧ (∀ j, j < q → jle (jI A) (L.1 (16 * k + 8 + j)) (L.1 (16 * t + 8 + j))) ∧ (r_gb (A 176 k) = 1 → jle (jI A) x (L.1 (16 * t + 8 + q)))
theorem CR_lTo (hN : N ≤ 6) (hJ : SL N (jI A)) {k t h q : Nat} (hK : KO A C k h q) (ht : t < C) {x : Int32} (hx : lv N x) {L : CL} (hL : COK N C L) : CRl N (jI A) C L (lTo A k t q x L) ∧ ((lTo A k t q x L).2.2 = false → LTo A L k t q x) := by
  have hk := hK.1
  have h8 := hK.2.2.1
  have hq := hK.2.2.2.1
  obtain ⟨r1, s1⟩ := CR_lVs hN hJ hk ht hx 8 0 L (by omega) hL
  obtain ⟨r2, s2⟩ := CR_lSs hN hJ hk ht q 0 _ (by omega) r1.1
  obtain ⟨r3, s3⟩ := CR_lGs hN hJ (k := k) ht hK.2.2.2.2.2.1 hx r2.1
  refine ⟨CR_tr hJ hL r1 (CR_tr hJ r1.1 r2 r3), fun z => ?_⟩
  have e2 := CR_f r2 r3 z
  have e1 := CR_f r1 r2 e2.1
  rw [e1.2] at e2 s2
  rw [e1.2, e2.2] at s3
  refine ⟨fun v hv => s1 e1.1 v (by omega) (by omega), fun j hj => s2 e2.1 j (by omega) (by omega), s3 ?_⟩
  have z' : (lGs A k t q x (lSs A k t 0 q (lVs A k t x 0 8 L))).2.2 = false := z
  rw [e1.2, e2.2] at z'
  exact z'
theorem CR_lWy (hCb : C ≤ 100) (hN : N ≤ 6) (hJ : SL N (jI A)) {k h q w : Nat} (hK : KO A C k h q) (hw : w < 2) {x : Int32} (hx : lv N x) {L : CL} (hL : COK N C L) : CRl N (jI A) C L (lWy A k q w x L) ∧ ((lWy A k q w x L).2.2 = false → ∀ t, t < C → r_nx A k (nI w) = nI t → LTo A L k t q x) := by
  unfold lWy
  rcases hK.2.2.2.2.2.2.2 w hw with c | ⟨t, t1, t2⟩
  · rw [if_pos c]
    exact ⟨CR_rfl hJ hL, fun _ t ht e => by rw [e] at c; exact absurd c (i32_nlt0 (by omega))⟩
  · rw [t2, if_neg (i32_nlt0 (by omega)), nI_clamp (by omega)]
    obtain ⟨r, s⟩ := CR_lTo hN hJ hK t1 hx hL
    exact ⟨r, fun z t' ht' e => by rw [← nI_inj (by omega) (by omega) e]; exact s z⟩
theorem CR_lLv (hCb : C ≤ 100) (hN : N ≤ 6) (hJO : JOK N A) (hJ : SL N (jI A)) {k h q : Nat} (hK : KO A C k h q) {L : CL} (hL : COK N C L) : CRl N (jI A) C L (lLv A L k h q) ∧ ((lLv A L k h q).2.2 = false → ∀ w, w < 2 → ∀ t, t < C → r_nx A k (nI w) = nI t → LTo A L k t q (lLx A L k h q)) := by
  have hx := lLx_lv hN hJO hK hL
  obtain ⟨r1, s1⟩ := CR_lWy hCb hN hJ hK (show 0 < 2 by omega) hx hL
  obtain ⟨r2, s2⟩ := CR_lWy hCb hN hJ hK (show 1 < 2 by omega) hx r1.1
  refine ⟨CR_tr hJ hL r1 r2, fun z w hw t ht e => ?_⟩
  have e1 := CR_f r1 r2 z
  rcases (show w = 0 ∨ w = 1 by omega) with c | c
  · rw [c] at e; exact s1 e1.1 t ht e
  · rw [c] at e
    rw [e1.2] at s2
    refine s2 ?_ t ht e
    have z' : (lWy A k q 1 (lLx A L k h q) (lWy A k q 0 (lLx A L k h q) L)).2.2 = false := z
    rw [e1.2] at z'
    exact z'
/-! contexts -/
theorem fcx_m (hJO : JOK N A) (hN : N ≤ 6) (hJ : SL N (jI A)) (hT : HT A C) {lab lab' : Nat → Int32} {k : Nat} (h1 : ∀ i, i < 16 * C → lv N (lab i)) (h2 : ∀ i, i < 16 * C → lv N (lab' i)) (hle : ∀ i, i < 16 * C → jle (jI A) (lab i) (lab' i)) : ∀ (c j : Nat) (x x' : Int32), j + c ≤ C → lv N x → lv N x' → jle (jI A) x x' → jle (jI A) (fcx A lab k j c x) (fcx A lab' k j c x')
  | 0, _, _, _, _, _, _, h => h
  | c + 1, j, x, x', hc, hx, hx', h => by
    unfold fcx
    by_cases z : 0 < A 178 j ∧ A 176 j = 7 ∧ ¬ A 181 (100 * j + k) = 0
    · rw [if_pos z, if_pos z]
      obtain ⟨hh, h8, eh⟩ : ∃ h, h ≤ 8 ∧ A 178 j = nI h := by
        rcases hT j (by omega) with q | q
        · exact absurd z.1 (Int32.not_lt.mpr (Int32.le_of_lt q))
        · exact q
      rw [eh, nI_clamp (by omega)]
      have a1 := h1 (16 * j + 7 + hh) (by omega)
      have a2 := h2 (16 * j + 7 + hh) (by omega)
      exact fcx_m hJO hN hJ hT h1 h2 hle c (j + 1) _ _ (by omega) (hJ.1 _ _ hx a1) (hJ.1 _ _ hx' a2) (jle_m hJ hx a1 hx' a2 h (hle _ (by omega)))
    · rw [if_neg z, if_neg z]
      exact fcx_m hJO hN hJ hT h1 h2 hle c (j + 1) _ _ (by omega) hx hx' h
theorem fcx_ub (hN : N ≤ 6) (hJ : SL N (jI A)) (hT : HT A C) {lab : Nat → Int32} {k : Nat} (h1 : ∀ i, i < 16 * C → lv N (lab i)) {y : Int32} (hy : lv N y) (hle : ∀ j h, j < C → h ≤ 8 → 0 < A 178 j → A 178 j = nI h → A 176 j = 7 → ¬ A 181 (100 * j + k) = 0 → jle (jI A) (lab (16 * j + 7 + h)) y) : ∀ (c j : Nat) (x : Int32), j + c ≤ C → lv N x → jle (jI A) x y → jle (jI A) (fcx A lab k j c x) y
  | 0, _, _, _, _, h => h
  | c + 1, j, x, hc, hx, h => by
    unfold fcx
    by_cases z : 0 < A 178 j ∧ A 176 j = 7 ∧ ¬ A 181 (100 * j + k) = 0
    · rw [if_pos z]
      obtain ⟨hh, h8, eh⟩ : ∃ h, h ≤ 8 ∧ A 178 j = nI h := by
        rcases hT j (by omega) with q | q
        · exact absurd z.1 (Int32.not_lt.mpr (Int32.le_of_lt q))
        · exact q
      have e : (A 178 j).toNatClampNeg = hh := by rw [eh, nI_clamp (by omega)]
      rw [e]
      have a1 := h1 (16 * j + 7 + hh) (by omega)
      exact fcx_ub hN hJ hT h1 hy hle c (j + 1) _ (by omega) (hJ.1 _ _ hx a1) (jle_j hJ hx a1 hy h (hle j hh (by omega) h8 z.1 eh z.2.1 z.2.2))
    · rw [if_neg z]
      exact fcx_ub hN hJ hT h1 hy hle c (j + 1) _ (by omega) hx h
theorem fcx_ge (hN : N ≤ 6) (hJ : SL N (jI A)) (hT : HT A C) {lab : Nat → Int32} {k : Nat} (h1 : ∀ i, i < 16 * C → lv N (lab i)) : ∀ (c j : Nat) (x : Int32), j + c ≤ C → lv N x → lv N (fcx A lab k j c x) ∧ jle (jI A) x (fcx A lab k j c x) ∧ ∀ i h, j ≤ i → i < j + c → h ≤ 8 → 0 < A 178 i → A 178 i = nI h → A 176 i = 7 → ¬ A 181 (100 * i + k) = 0 → jle (jI A) (lab (16 * i + 7 + h)) (fcx A lab k j c x)
  | 0, j, x, _, hx => ⟨hx, jle_rfl hJ hx, fun i h a b _ => absurd b (by omega)⟩
  | c + 1, j, x, hc, hx => by
    unfold fcx
    by_cases z : 0 < A 178 j ∧ A 176 j = 7 ∧ ¬ A 181 (100 * j + k) = 0
    · rw [if_pos z]
      obtain ⟨hh, h8, eh⟩ : ∃ h, h ≤ 8 ∧ A 178 j = nI h := by
        rcases hT j (by omega) with q | q
        · exact absurd z.1 (Int32.not_lt.mpr (Int32.le_of_lt q))
        · exact q
      have e : (A 178 j).toNatClampNeg = hh := by rw [eh, nI_clamp (by omega)]
      rw [e]
      have a1 := h1 (16 * j + 7 + hh) (by omega)
      obtain ⟨i1, i2, i3⟩ := fcx_ge hN hJ hT (k := k) h1 c (j + 1) _ (by omega) (hJ.1 _ _ hx a1)
      refine ⟨i1, jle_tr hJ hx (hJ.1 _ _ hx a1) i1 (jle_l hJ hx a1) i2, fun i h b1 b2 b0 b3 b4 b5 b6 => ?_⟩
      by_cases ei : i = j
      · subst ei
        have hb : h = hh := by rw [eh] at b4; exact (nI_inj (by omega) (by omega) b4).symm
        rw [hb]
        exact jle_tr hJ a1 (hJ.1 _ _ hx a1) i1 (jle_r hJ hx a1) i2
      · exact i3 i h (by omega) (by omega) b0 b3 b4 b5 b6
    · rw [if_neg z]
      obtain ⟨i1, i2, i3⟩ := fcx_ge hN hJ hT (k := k) h1 c (j + 1) _ (by omega) hx
      refine ⟨i1, i2, fun i h b1 b2 b0 b3 b4 b5 b6 => ?_⟩
      by_cases ei : i = j
      · rw [ei] at b3 b5 b6; exact absurd ⟨b3, b5, b6⟩ z
      · exact i3 i h (by omega) (by omega) b0 b3 b4 b5 b6
end LCR
