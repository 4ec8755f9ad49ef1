/-! ===== THE REFERENCE: findRegion ===== -/
def fA (A : Nat → Nat → Int32) (S P G Th : Nat → Int32) : Nat → Nat → Int32 := va_up (va_up (va_up (va_up A 179 S) 180 P) 181 G) 182 Th
theorem fA_0 (A : Nat → Nat → Int32) : A = fA A (A 179) (A 180) (A 181) (A 182) := by
  unfold fA
  rw [vu_id, vu_id, vu_id, vu_id]
theorem fA_d (A : Nat → Nat → Int32) (S P G Th S' P' : Nat → Int32) : dA (fA A S P G Th) S' P' = fA A S' P' G Th := by
  unfold fA dA
  rw [vu_so _ (show 179 < 182 by decide), vu_so _ (show 179 < 181 by decide), vu_so _ (show 179 < 180 by decide), vu_up, vu_so _ (show 180 < 182 by decide), vu_so _ (show 180 < 181 by decide), vu_up]
theorem fA_t (A : Nat → Nat → Int32) (S P G Th Th' : Nat → Int32) : va_up (fA A S P G Th) 182 Th' = fA A S P G Th' := vu_up _ _ _ _
theorem fA_g (A : Nat → Nat → Int32) (S P G Th G' : Nat → Int32) : va_up (fA A S P G Th) 181 G' = fA A S P G' Th := by
  unfold fA
  rw [vu_so _ (show 181 < 182 by decide), vu_up]
theorem fA_p (A : Nat → Nat → Int32) (S P G Th P' : Nat → Int32) : va_up (fA A S P G Th) 180 P' = fA A S P' G Th := by
  unfold fA
  rw [vu_so _ (show 180 < 182 by decide), vu_so _ (show 180 < 181 by decide), vu_up]
def gV (Th G : Nat → Int32) (j : Nat) : Nat → Int32 := fun t => if Th t = 0 then G (100 * j + t) else 1
theorem gV_up {Th G : Nat → Int32} {j t : Nat} (h : Th t = 0) : gV Th (upd G (100 * j + t) 1) j = upd (gV Th G j) t 1 := by
  funext i
  unfold gV upd
  by_cases e : i = t
  · subst e
    rw [if_pos h, if_pos rfl, if_pos rfl]
  · rw [if_neg e, if_neg (show ¬ 100 * j + i = 100 * j + t by omega)]
def grn (A : Nat → Nat → Int32) : Nat → DS → DS
  | 0, E => E
  | c + 1, E => if E.2.2 = 0 then E else grn A c (dst A E)
/-- where G may differ from G0: row j, where nothing bars -/
def gDf (Th : Nat → Int32) (C j : Nat) (G0 G : Nat → Int32) : Prop := ∀ i, (∀ t, t < C → Th t = 0 → ¬ i = 100 * j + t) → G i = G0 i
/-- the least set that holds what comes behind j and behind its own, but for B -/
def RGs (A : Nat → Nat → Int32) (C : Nat) (B : Nat → Prop) (j : Nat) (T : Nat → Prop) : Prop := ∀ w, w < 2 → ∀ t, t < C → r_nx A j (nI w) = nI t → ¬ B t → T t
def RG (A : Nat → Nat → Int32) (C : Nat) (B : Nat → Prop) (j k : Nat) : Prop := ∀ T : Nat → Prop, RGs A C B j T → CEc A C B T → T k
def RGB (A : Nat → Nat → Int32) (C : Nat) (W : Nat → Int32) (j i : Nat) : Prop := ¬ i = j ∧ 0 ≤ W i ∧ ¬ CE A C j (nI i)
theorem RG_nb {A : Nat → Nat → Int32} {C : Nat} {B : Nat → Prop} {j k : Nat} (h : RG A C B j k) : ¬ B k := (h (fun m => RG A C B j m ∧ ¬ B m) (fun w hw t ht he hb => ⟨fun T h1 h2 => h1 w hw t ht he hb, hb⟩) (fun a ha ha2 w hw t ht he hb => ⟨fun T h1 h2 => h2 a ha (ha2.1 T h1 h2) w hw t ht he hb, hb⟩)).2
theorem grn_sp {A : Nat → Nat → Int32} {C j : Nat} {B R : Nat → Prop} (hC : C ≤ 100) (hR : RC A C R) : ∀ (c : Nat) (E : DS), E.2.2 + unm E.1 C < c → DI A C B (fun _ => True) (RGs A C B j) R E → (∀ w, w < 2 → ∀ t, t < C → r_nx A j (nI w) = nI t → ¬ E.1 t = 0) → ∀ k, k < C → (¬ (grn A c E).1 k = 0 ↔ B k ∨ RG A C B j k)
  | 0, _, h, _, _ => absurd h (by omega)
  | c + 1, E, hc, hE, hJ => by
    rw [grn]
    by_cases h0 : E.2.2 = 0
    · rw [if_pos h0]
      intro k hk
      constructor
      · intro hk0
        by_cases z : B k
        · exact Or.inl z
        · exact Or.inr (fun T h1 h2 => (hE.2.2.2.1 T h1 h2 k hk hk0).elim (fun q => absurd q z) id)
      · intro q
        rcases q with q | q
        · exact hE.2.2.2.2 k hk q
        · exact (q (fun m => m < C ∧ ¬ E.1 m = 0 ∧ ¬ B m) (fun w hw t ht he hb => ⟨ht, hJ w hw t ht he, hb⟩) (fun a ha ha2 w hw t ht he hb => ⟨ht, by
            rcases hE.2.2.1 a ha ha2.2.1 with y | ⟨i, hi, _⟩ | y
            · exact absurd y ha2.2.2
            · omega
            · exact y.2 w hw t ht he, hb⟩)).2.1
    · rw [if_neg h0]
      have h1 := dst_ok hC hR hE.1 h0
      exact grn_sp hC hR c (dst A E) (by have := h1.2; omega) (dst_DI hC hR hE h0 trivial) (fun w hw t ht he => dst_old hC hR hE.1 h0 (hJ w hw t ht he))
theorem gst_DI {A : Nat → Nat → Int32} {C j : Nat} {B R : Nat → Prop} {V P : Nat → Int32} (hC : C ≤ 100) (hR : RC A C R) (hj : R j) (hV : ∀ m, m < C → (¬ V m = 0 ↔ B m)) : DOK R C (V, upd P 0 (nI j), 1) ∧ DI A C B (fun _ => True) (RGs A C B j) R (dst A (V, upd P 0 (nI j), 1)) ∧ ∀ w, w < 2 → ∀ t, t < C → r_nx A j (nI w) = nI t → ¬ (dst A (V, upd P 0 (nI j), 1)).1 t = 0 := by
  have hjC := (hR j hj).1
  have hR' : ∀ m, R m → m < C := fun m hm => (hR m hm).1
  have u2 := unm_le V C
  have k0 : DOK R C (V, upd P 0 (nI j), 1) := by
    refine ⟨?_, fun i hi => ?_⟩
    · show 1 + unm V C ≤ C + 1
      omega
    · have hi : i < 1 := hi
      exact ⟨j, hj, by show upd _ _ _ _ = _; rw [show i = 0 by omega, upd_at]⟩
  have tj : dtop (V, upd P 0 (nI j), 1) = j := by
    show (upd P 0 (nI j) 0).toNatClampNeg = j
    rw [upd_at, nI_clamp (by omega)]
  have nx : ∀ w, w < 2 → r_nx A j (nI w) < 0 ∨ ∃ t, t < C ∧ r_nx A j (nI w) = nI t := fun w hw => ((hR _ hj).2 w hw).imp id (fun ⟨t, h1, h2⟩ => ⟨t, hR' t h1, h2⟩)
  have d0 : DI A C B (fun _ => True) (RGs A C B j) R (V, upd P 0 (nI j), 0) := ⟨⟨by show 0 + unm V C ≤ C + 1; omega, fun i hi => absurd hi (by show ¬ i < 0; omega)⟩, fun i hi => absurd hi (by show ¬ i < 0; omega), fun m hm h => Or.inl ((hV m hm).mp h), fun T _ _ m hm h => Or.inl ((hV m hm).mp h), fun m hm h => (hV m hm).mpr h⟩
  have st : ∀ (E : DS) (w : Nat), w < 2 → DI A C B (fun _ => True) (RGs A C B j) R E → DI A C B (fun _ => True) (RGs A C B j) R (psh E (r_nx A j (nI w))) := by
    intro E w hw hE
    obtain ⟨i1, i2, i3, i4, i6⟩ := hE
    have ok := psh_ok hC hR' i1 ((hR _ hj).2 w hw)
    obtain ⟨X, p2, p3⟩ := psh_sp (E := E) hC (nx w hw)
    refine ⟨ok.1, fun i hi => ?_, fun m hm hm0 => ?_, fun T hs hT m hm hm0 => ?_, fun m hm hb => ?_⟩
    · by_cases z : i < E.2.2
      · obtain ⟨m, hm, he, h1, h2⟩ := i2 i z
        exact ⟨m, hm, by rw [X.2.2.1 i z]; exact he, by rw [X.1 m h1]; exact h1, h2⟩
      · rcases nx w hw with y | ⟨t, ht, he⟩
        · have e : psh E (r_nx A j (nI w)) = E := by rw [psh, if_neg (fun q => absurd q.1 (Int32.not_le.mpr y))]
          rw [e] at hi
          exact absurd hi z
        · rw [he] at hi ⊢
          by_cases y : E.1 t = 0
          · have e : psh E (nI t) = (upd E.1 t 1, upd E.2.1 E.2.2 (nI t), E.2.2 + 1) := by rw [psh, nI_clamp (by omega), if_pos ⟨i32_le0 (by omega), y⟩]
            rw [e] at hi ⊢
            have hi : i < E.2.2 + 1 := hi
            refine ⟨t, ht, by show upd _ _ _ _ = _; rw [show i = E.2.2 by omega, upd_at], ?_, fun q => i6 t ht q y⟩
            show ¬ upd E.1 t 1 t = 0
            rw [upd_at]
            decide
          · have e : psh E (nI t) = E := by rw [psh, nI_clamp (by omega), if_neg (fun q => y q.2)]
            rw [e] at hi
            exact absurd hi z
    · rcases X.2.2.2 m hm0 with h | ⟨i, hi, hi2, he⟩
      · have h : ¬ E.1 m = 0 := h
        rcases i3 m hm h with y | ⟨i, hi, he⟩ | ⟨_, y⟩
        · exact Or.inl y
        · exact Or.inr (Or.inl ⟨i, Nat.lt_of_lt_of_le hi X.2.1, by rw [X.2.2.1 i hi]; exact he⟩)
        · exact Or.inr (Or.inr ⟨trivial, fun w hw t ht he => by rw [X.1 t (y w hw t ht he)]; exact y w hw t ht he⟩)
      · exact Or.inr (Or.inl ⟨i, hi2, he⟩)
    · rcases p3 m hm0 with h | ⟨h1, h2, h3⟩
      · exact i4 T hs hT m hm h
      · exact Or.inr (hs w hw m hm h1 (fun q => i6 m hm q h3))
    · rw [X.1 m (i6 m hm hb)]
      exact i6 m hm hb
  have e1 : dst A (V, upd P 0 (nI j), 1) = psh (psh (V, upd P 0 (nI j), 0) (r_nx A j (nI 0))) (r_nx A j (nI 1)) := by
    unfold dst
    rw [tj]
    rfl
  have s0 := st _ 0 (by omega) d0
  refine ⟨k0, by rw [e1]; exact st _ 1 (by omega) s0, fun w hw t ht he => ?_⟩
  rw [e1]
  obtain ⟨X, q2, q3⟩ := psh_sp (E := psh (V, upd P 0 (nI j), 0) (r_nx A j (nI 0))) hC (nx 1 (by omega))
  have : w = 0 ∨ w = 1 := by omega
  rcases this with rfl | rfl
  · have h1 := (psh_sp (E := (V, upd P 0 (nI j), 0)) hC (nx 0 (by omega))).2.1 t ht he
    rw [X.1 t h1]
    exact h1
  · exact q2 t ht he
set_option maxRecDepth 100000 in
theorem l_X12_fr1 {l : Launch} {D : va_G} {cy : Nat → ClassId} {d n : Nat} {f : sw_F} {s : Nat → Int32} {A : Nat → Nat → Int32} (hd : 2 ≤ d) {C : Nat} (hC : s 36 = nI C) (hCb : C ≤ 100) (hW : HL A C (A 178)) {j : Nat} (hj : j < C) (hj0 : 0 ≤ A 178 j) {Q : sw_Q} {QX : sw_QX} (K : ∀ S P G Th : Nat → Int32, (∀ i, i < C → (¬ Th i = 0 ↔ RGB A C (A 178) j i)) → (∀ i, G i = if 100 * j ≤ i ∧ i < 100 * j + C then 0 else A 181 i) → SW l D cy mX12_findRegion d 0 0 0 0 62 [(0, .ref 150), (1, .int (nI j))] [] n (md f s (fA A S P G Th)) Q QX) : ∀ (c k : Nat) (S P G Th : Nat → Int32), k ≤ C → C < k + c → (∀ i, i < k → (¬ Th i = 0 ↔ RGB A C (A 178) j i)) → (∀ i, G i = if 100 * j ≤ i ∧ i < 100 * j + k then 0 else A 181 i) → SW l D cy mX12_findRegion d 0 0 0 0 2 [(0, .ref 150), (1, .int (nI j)), (2, .int (nI k))] [] n (md f s (fA A S P G Th)) Q QX := by
  intro c
  induction c with
  | zero => intro k0 S0 P0 G0 Th0 h1 h2; exact absurd h2 (by omega)
  | succ c ih =>
    intro k S P G Th hk hc h1 h2
    refine sw_iload_n dX12_findRegion_2 rfl ?_
    refine sw_aload_n dX12_findRegion_3 rfl (by first | rfl | assumption) ?_
    refine sw_get dX12_findRegion_4 fr_X12_251 rfl rfl ?_
    refine sw_top hC ?_
    refine sw_icmp_ge 62 dX12_findRegion_7 (by decide) (fun h7 => ?_) (fun h7 => ?_)
    · refine sw_keep [0, 1] rfl ?_
      have e9 : k = C := Nat.le_antisymm hk ((nI_leI (by omega) (by omega)).mp h7)
      subst e9
      exact K S P G Th h1 h2
    · have e1 : k < C := (nI_ltI (by omega) (by omega)).mp (i32_nle.mp h7)
      have J : ∀ (S P : Nat → Int32) (y : Bool), (y = true ↔ RGB A C (A 178) j k) → SW l D cy mX12_findRegion d 0 0 0 0 43 [(0, .ref 150), (1, .int (nI j)), (2, .int (nI k))] [.int (bz y), .int (nI k), .ref 182] n (md f s (fA A S P G Th)) Q QX := by
        intro S P y hy
        refine m_zast (k) dX12_findRegion_43 ⟨by decide, by decide, rfl⟩ rfl (show k < 100 by omega) (bz_vp _) ?_
        refine m_eq rfl (fA_t _ _ _ _ _ _) ?_
        refine sw_aload_n dX12_findRegion_44 rfl (by first | rfl | assumption) ?_
        refine sw_get dX12_findRegion_45 fr_X12_109 rfl rfl ?_
        refine sw_bipush (x := 100) dX12_findRegion_48 (by decide) ?_
        refine sw_iload_n dX12_findRegion_50 rfl ?_
        refine sw_imul dX12_findRegion_51 ?_
        refine sw_iload_n dX12_findRegion_52 rfl ?_
        refine sw_iadd dX12_findRegion_53 ?_
        refine sw_top (y := nI (100 * j + k)) (by rw [nl_100, pk_mul, nI_add]) ?_
        refine sw_iconst (x := 0) dX12_findRegion_54 (by decide) ?_
        refine m_zast (100 * j + k) dX12_findRegion_55 ⟨by decide, by decide, rfl⟩ rfl (show 100 * j + k < 10000 by omega) rfl ?_
        refine m_eq rfl (fA_g _ _ _ _ _ _) ?_
        first | refine sw_inc1 [(0, _), (1, _), (2, _)] dX12_findRegion_56 rfl (by decide) rfl ?_ | refine sw_iinc [(0, _), (1, _), (2, _)] dX12_findRegion_56 rfl (by decide) rfl ?_
        refine sw_goto 2 dX12_findRegion_59 (by decide) ?_
        refine ih (k + 1) S P _ _ (by omega) (by omega) (fun i hi => ?_) (fun i => ?_)
        · by_cases e : i = k
          · subst e
            show ¬ upd Th i (bz y) i = 0 ↔ _
            rw [upd_at, bz_ne, hy]
          · show ¬ upd Th k (bz y) i = 0 ↔ _
            rw [upd_ne _ _ e]
            exact h1 i (by omega)
        · show upd G (100 * j + k) 0 i = _
          by_cases e : i = 100 * j + k
          · rw [e, upd_at, if_pos (by omega)]
          · rw [upd_ne _ _ e, h2]
            by_cases e2 : 100 * j ≤ i ∧ i < 100 * j + k
            · rw [if_pos e2, if_pos (by omega)]
            · rw [if_neg e2, if_neg (by omega)]
      refine sw_aload_n dX12_findRegion_10 rfl (by first | rfl | assumption) ?_
      refine sw_get dX12_findRegion_11 fr_X12_112 rfl rfl ?_
      refine sw_iload_n dX12_findRegion_14 rfl ?_
      refine sw_iload_n dX12_findRegion_15 rfl ?_
      refine sw_iload_n dX12_findRegion_16 rfl ?_
      refine sw_icmp_eq 42 dX12_findRegion_17 (by decide) (fun h17 => ?_) (fun h17 => ?_)
      · refine sw_iconst (x := 0) dX12_findRegion_42 (by decide) ?_
        exact J S P false ⟨fun q => Bool.noConfusion q, fun q => absurd (nI_inj (by omega) (by omega) h17) q.1⟩
      · refine sw_aload_n dX12_findRegion_20 rfl (by first | rfl | assumption) ?_
        refine sw_get dX12_findRegion_21 fr_X12_100 rfl rfl ?_
        refine sw_iload_n dX12_findRegion_24 rfl ?_
        refine sw_ialdN (k) dX12_findRegion_25 rfl rfl (show k < 100 by omega) (by decide) ?_
        refine sw_top (y := A 178 k) rfl ?_
        refine sw_if_lt 42 dX12_findRegion_26 (by decide) (fun h26 => ?_) (fun h26 => ?_)
        · refine sw_iconst (x := 0) dX12_findRegion_42 (by decide) ?_
          exact J S P false ⟨fun q => Bool.noConfusion q, fun q => absurd q.2.1 (Int32.not_le.mpr h26)⟩
        · have e2 : RC (fA A S P G Th) C (fun k => k < C ∧ 0 ≤ A 178 k) := HL_RC hW
          have e3 : (r_ce (fA A S P G Th) C j (nI k)).1 = true ↔ CE A C j (nI k) := r_ce_sp hCb e2 ⟨hj, hj0⟩
          refine sw_aload_n dX12_findRegion_29 rfl (by first | rfl | assumption) ?_
          refine sw_iload_n dX12_findRegion_30 rfl ?_
          refine sw_iload_n dX12_findRegion_31 rfl ?_
          refine sw_Vv dX12_findRegion_32 k_X12_275 mf_X12_comesToEnd (c_X12_comesToEnd (d := d - 1) (by omega) hC hCb e2 ⟨hj, hj0⟩ (nI k)) rfl ⟨_, rfl, rfl⟩ (by omega) (by omega) (by omega) rfl rfl (Nat.le_of_ble_eq_true rfl) ?_
          refine sw_if_ne 42 dX12_findRegion_35 (by decide) (fun h35 => ?_) (fun h35 => ?_)
          · refine sw_iconst (x := 0) dX12_findRegion_42 (by decide) ?_
            exact m_eq rfl (fA_d _ _ _ _ _ _ _) (J _ _ false ⟨fun q => Bool.noConfusion q, fun q => absurd (e3.mp (bz_ne.mp h35)) q.2.2⟩)
          · refine sw_iconst (x := 1) dX12_findRegion_38 (by decide) ?_
            refine sw_goto 43 dX12_findRegion_39 (by decide) ?_
            exact m_eq rfl (fA_d _ _ _ _ _ _ _) (J _ _ true ⟨fun _ => ⟨fun q => h17 (by rw [q]), Int32.not_lt.mp h26, fun q => absurd (e3.mpr q) (by rw [bz_0.mp h35]; decide)⟩, fun _ => rfl⟩)
set_option maxRecDepth 100000 in
theorem l_X12_fr2 {l : Launch} {D : va_G} {cy : Nat → ClassId} {d n : Nat} {f : sw_F} {s : Nat → Int32} {A : Nat → Nat → Int32} (hd : 1 ≤ d) {C : Nat} (hCb : C ≤ 100) {S P G Th : Nat → Int32} {j k w m : Nat} (hj : j < 100) (hk : k < 100) (hm : m ≤ 101) (ht : r_nx A k (nI w) < 0 ∨ ∃ t, t < C ∧ r_nx A k (nI w) = nI t) {Q : sw_Q} {QX : sw_QX} (K : ∀ G' : Nat → Int32, gV Th G' j = (psh (gV Th G j, P, m) (r_nx A k (nI w))).1 → gDf Th C j G G' → SW l D cy mX12_findRegion d 0 0 0 0 88 [(0, .ref 150), (1, .int (nI j)), (2, .int (nI (psh (gV Th G j, P, m) (r_nx A k (nI w))).2.2)), (3, .int (nI k)), (4, .int (nI (w + 1)))] [] n (md f s (fA A S (psh (gV Th G j, P, m) (r_nx A k (nI w))).2.1 G' Th)) Q QX) : SW l D cy mX12_findRegion d 0 0 0 0 94 [(0, .ref 150), (1, .int (nI j)), (2, .int (nI m)), (3, .int (nI k)), (4, .int (nI w))] [] n (md f s (fA A S P G Th)) Q QX := by
  refine sw_aload_n dX12_findRegion_94 rfl (by first | rfl | assumption) ?_
  refine sw_iload_n dX12_findRegion_95 rfl ?_
  refine sw_iload dX12_findRegion_96 rfl ?_
  refine sw_Vv dX12_findRegion_98 k_X12_266 mf_X12_nextOf (c_X12_nextOf (d := d - 1) hk (nI w)) rfl ⟨_, rfl, rfl⟩ (by omega) (by omega) (by omega) rfl rfl (Nat.le_of_ble_eq_true rfl) ?_
  refine sw_top (y := r_nx A k (nI w)) rfl ?_
  refine sw_istore [(0, _), (1, _), (2, _), (3, _), (4, _), (5, _)] dX12_findRegion_101 (by decide) rfl ?_
  refine sw_iload dX12_findRegion_103 rfl ?_
  refine sw_if_lt 157 dX12_findRegion_105 (by decide) (fun h105 => ?_) (fun h105 => ?_)
  · first | refine sw_inc1 [(0, _), (1, _), (2, _), (3, _), (4, _), (5, _)] dX12_findRegion_157 rfl (by decide) rfl ?_ | refine sw_iinc [(0, _), (1, _), (2, _), (3, _), (4, _), (5, _)] dX12_findRegion_157 rfl (by decide) rfl ?_
    refine sw_goto 88 dX12_findRegion_160 (by decide) ?_
    refine sw_keep [0, 1, 2, 3, 4] rfl ?_
    have e8 : psh (gV Th G j, P, m) (r_nx A k (nI w)) = (gV Th G j, P, m) := by rw [psh, if_neg (fun z => absurd z.1 (Int32.not_le.mpr h105))]
    rw [e8] at K
    exact K G rfl (fun _ _ => rfl)
  · rcases ht with e1 | ⟨t, ht, he⟩
    · exact absurd e1 h105
    rw [he]
    refine sw_aload_n dX12_findRegion_108 rfl (by first | rfl | assumption) ?_
    refine sw_get dX12_findRegion_109 fr_X12_112 rfl rfl ?_
    refine sw_iload dX12_findRegion_112 rfl ?_
    refine sw_zaldN (t) dX12_findRegion_114 rfl rfl (show t < 100 by omega) (by decide) ?_
    refine sw_top (y := Th t) rfl ?_
    refine sw_if_ne 157 dX12_findRegion_115 (by decide) (fun h115 => ?_) (fun h115 => ?_)
    · first | refine sw_inc1 [(0, _), (1, _), (2, _), (3, _), (4, _), (5, _)] dX12_findRegion_157 rfl (by decide) rfl ?_ | refine sw_iinc [(0, _), (1, _), (2, _), (3, _), (4, _), (5, _)] dX12_findRegion_157 rfl (by decide) rfl ?_
      refine sw_goto 88 dX12_findRegion_160 (by decide) ?_
      refine sw_keep [0, 1, 2, 3, 4] rfl ?_
      have e8 : psh (gV Th G j, P, m) (r_nx A k (nI w)) = (gV Th G j, P, m) := by
        rw [he, psh, if_neg]
        intro z
        have z := z.2
        rw [nI_clamp (by omega)] at z
        have z : gV Th G j t = 0 := z
        rw [gV, if_neg h115] at z
        exact absurd z (by decide)
      rw [e8] at K
      exact K G rfl (fun _ _ => rfl)
    · refine sw_aload_n dX12_findRegion_118 rfl (by first | rfl | assumption) ?_
      refine sw_get dX12_findRegion_119 fr_X12_109 rfl rfl ?_
      refine sw_bipush (x := 100) dX12_findRegion_122 (by decide) ?_
      refine sw_iload_n dX12_findRegion_124 rfl ?_
      refine sw_imul dX12_findRegion_125 ?_
      refine sw_iload dX12_findRegion_126 rfl ?_
      refine sw_iadd dX12_findRegion_128 ?_
      refine sw_zaldN (100 * j + t) dX12_findRegion_129 rfl (by rw [nl_100, pk_mul, nI_add]) (show 100 * j + t < 10000 by omega) (by decide) ?_
      refine sw_top (y := G (100 * j + t)) rfl ?_
      refine sw_if_ne 157 dX12_findRegion_130 (by decide) (fun h130 => ?_) (fun h130 => ?_)
      · first | refine sw_inc1 [(0, _), (1, _), (2, _), (3, _), (4, _), (5, _)] dX12_findRegion_157 rfl (by decide) rfl ?_ | refine sw_iinc [(0, _), (1, _), (2, _), (3, _), (4, _), (5, _)] dX12_findRegion_157 rfl (by decide) rfl ?_
        refine sw_goto 88 dX12_findRegion_160 (by decide) ?_
        refine sw_keep [0, 1, 2, 3, 4] rfl ?_
        have e8 : psh (gV Th G j, P, m) (r_nx A k (nI w)) = (gV Th G j, P, m) := by
          rw [he, psh, if_neg]
          intro z
          have z := z.2
          rw [nI_clamp (by omega)] at z
          have z : gV Th G j t = 0 := z
          rw [gV, if_pos h115] at z
          exact h130 z
        rw [e8] at K
        exact K G rfl (fun _ _ => rfl)
      · refine sw_aload_n dX12_findRegion_133 rfl (by first | rfl | assumption) ?_
        refine sw_get dX12_findRegion_134 fr_X12_109 rfl rfl ?_
        refine sw_bipush (x := 100) dX12_findRegion_137 (by decide) ?_
        refine sw_iload_n dX12_findRegion_139 rfl ?_
        refine sw_imul dX12_findRegion_140 ?_
        refine sw_iload dX12_findRegion_141 rfl ?_
        refine sw_iadd dX12_findRegion_143 ?_
        refine sw_top (y := nI (100 * j + t)) (by rw [nl_100, pk_mul, nI_add]) ?_
        refine sw_iconst (x := 1) dX12_findRegion_144 (by decide) ?_
        refine m_zast (100 * j + t) dX12_findRegion_145 ⟨by decide, by decide, rfl⟩ rfl (show 100 * j + t < 10000 by omega) rfl ?_
        refine m_eq rfl (fA_g _ _ _ _ _ _) ?_
        refine sw_aload_n dX12_findRegion_146 rfl (by first | rfl | assumption) ?_
        refine sw_get dX12_findRegion_147 fr_X12_106 rfl rfl ?_
        refine sw_iload_n dX12_findRegion_150 rfl ?_
        refine sw_iload dX12_findRegion_151 rfl ?_
        refine m_iast (m) dX12_findRegion_153 ⟨by decide, by decide, rfl⟩ rfl (show m < 220 by omega) rfl ?_
        refine m_eq rfl (fA_p _ _ _ _ _ _) ?_
        first | refine sw_inc1 [(0, _), (1, _), (2, _), (3, _), (4, _), (5, _)] dX12_findRegion_154 rfl (by decide) rfl ?_ | refine sw_iinc [(0, _), (1, _), (2, _), (3, _), (4, _), (5, _)] dX12_findRegion_154 rfl (by decide) rfl ?_
        first | refine sw_inc1 [(0, _), (1, _), (2, _), (3, _), (4, _), (5, _)] dX12_findRegion_157 rfl (by decide) rfl ?_ | refine sw_iinc [(0, _), (1, _), (2, _), (3, _), (4, _), (5, _)] dX12_findRegion_157 rfl (by decide) rfl ?_
        refine sw_goto 88 dX12_findRegion_160 (by decide) ?_
        refine sw_keep [0, 1, 2, 3, 4] rfl ?_
        have e8 : psh (gV Th G j, P, m) (r_nx A k (nI w)) = (upd (gV Th G j) t 1, upd P m (nI t), m + 1) := by
          rw [he, psh, nI_clamp (by omega), if_pos]
          refine ⟨i32_le0 (by omega), ?_⟩
          show gV Th G j t = 0
          rw [gV, if_pos h115]
          exact h130
        rw [e8] at K
        exact K (upd G (100 * j + t) 1) (gV_up h115) (fun i hi => upd_ne _ _ (hi t ht h115))
set_option maxRecDepth 100000 in
theorem l_X12_fr3 {l : Launch} {D : va_G} {cy : Nat → ClassId} {d n : Nat} {f : sw_F} {s : Nat → Int32} {A : Nat → Nat → Int32} (hd : 1 ≤ d) {C : Nat} (hCb : C ≤ 100) {R : Nat → Prop} (hR : RC A C R) {S Th : Nat → Int32} {j : Nat} (hj : j < 100) {Q : sw_Q} {QX : sw_QX} : ∀ (c : Nat) (G P : Nat → Int32) (m : Nat), m + unm (gV Th G j) C < c → DOK R C (gV Th G j, P, m) → (∀ G' P' : Nat → Int32, gV Th G' j = (grn A c (gV Th G j, P, m)).1 → gDf Th C j G G' → SW l D cy mX12_findRegion d 0 0 0 0 166 [(0, .ref 150), (1, .int (nI j))] [] n (md f s (fA A S P' G' Th)) Q QX) → SW l D cy mX12_findRegion d 0 0 0 0 71 [(0, .ref 150), (1, .int (nI j)), (2, .int (nI m))] [] n (md f s (fA A S P G Th)) Q QX := by
  intro c
  induction c with
  | zero => intro G P m h1 h2; exact absurd h1 (by omega)
  | succ c ih =>
    intro G P m hc hE K
    have hR' : ∀ m, R m → m < C := fun m hm => (hR m hm).1
    have e0 : m + unm (gV Th G j) C ≤ C + 1 := hE.1
    refine sw_iload_n dX12_findRegion_71 rfl ?_
    refine sw_if_le 166 dX12_findRegion_72 (by decide) (fun h72 => ?_) (fun h72 => ?_)
    · refine sw_keep [0, 1] rfl ?_
      have e1 : m = 0 := by rw [show (0 : Int32) = nI 0 from nl_0, nI_leI (by omega) (by omega)] at h72; omega
      exact K G P (by rw [grn, if_pos (show (gV Th G j, P, m).2.2 = 0 from e1)]) (fun _ _ => rfl)
    · have e1 : ¬ m = 0 := fun q => h72 (by rw [q]; decide)
      obtain ⟨e2, e3⟩ := dtop_ok hCb hR' hE e1
      have e4 := hR _ e2
      have e7 := e4.1
      refine sw_dec1 [(0, _), (1, _), (2, _)] dX12_findRegion_75 rfl (by omega) (by decide) rfl ?_
      refine sw_aload_n dX12_findRegion_78 rfl (by first | rfl | assumption) ?_
      refine sw_get dX12_findRegion_79 fr_X12_106 rfl rfl ?_
      refine sw_iload_n dX12_findRegion_82 rfl ?_
      refine sw_ialdN (m - 1) dX12_findRegion_83 rfl rfl (show m - 1 < 220 by omega) (by decide) ?_
      refine sw_top (y := nI (dtop (gV Th G j, P, m))) e3 ?_
      refine sw_istore_n [(0, _), (1, _), (2, _), (3, _)] dX12_findRegion_84 (by decide) rfl ?_
      have e5 := psh_ok hCb hR' (dpop_ok hE) (e4.2 0 (by omega))
      have e6 := dst_ok hCb hR hE e1
      have e8 : (dst A (gV Th G j, P, m)).2.2 + unm (dst A (gV Th G j, P, m)).1 C + 1 = m + unm (gV Th G j) C := e6.2
      rw [grn, if_neg (show ¬ (gV Th G j, P, m).2.2 = 0 from e1)] at K
      refine sw_iconst (x := 0) dX12_findRegion_85 (by decide) ?_
      refine sw_istore [(0, _), (1, _), (2, _), (3, _), (4, _)] dX12_findRegion_86 (by decide) rfl ?_
      refine sw_iload dX12_findRegion_88 rfl ?_
      refine sw_iconst (x := 2) dX12_findRegion_90 (by decide) ?_
      refine sw_icmp_ge 163 dX12_findRegion_91 (by decide) (fun h91 => ?_) (fun h91 => ?_)
      · exact absurd h91 (by decide)
      · refine l_X12_fr2 (k := dtop (gV Th G j, P, m)) hd hCb (w := 0) hj (by omega) (by omega) ((e4.2 0 (by omega)).imp id (fun ⟨t, h1, h2⟩ => ⟨t, (hR t h1).1, h2⟩)) (fun G1 g1 g2 => ?_)
        refine sw_iload dX12_findRegion_88 rfl ?_
        refine sw_iconst (x := 2) dX12_findRegion_90 (by decide) ?_
        refine sw_icmp_ge 163 dX12_findRegion_91 (by decide) (fun h91 => ?_) (fun h91 => ?_)
        · exact absurd h91 (by decide)
        · have g5 : (gV Th G1 j, (psh (gV Th G j, P, m - 1) (r_nx A (dtop (gV Th G j, P, m)) (nI 0))).2.1, (psh (gV Th G j, P, m - 1) (r_nx A (dtop (gV Th G j, P, m)) (nI 0))).2.2) = psh (gV Th G j, P, m - 1) (r_nx A (dtop (gV Th G j, P, m)) (nI 0)) := by rw [g1]
          refine l_X12_fr2 (k := dtop (gV Th G j, P, m)) hd hCb (w := 1) hj (by omega) (by have : (psh (gV Th G j, P, m - 1) (r_nx A (dtop (gV Th G j, P, m)) (nI 0))).2.2 + _ ≤ C + 1 := e5.1.1; omega) ((e4.2 1 (by omega)).imp id (fun ⟨t, h1, h2⟩ => ⟨t, (hR t h1).1, h2⟩)) (fun G2 g3 g4 => ?_)
          rw [g5] at g3 ⊢
          refine sw_iload dX12_findRegion_88 rfl ?_
          refine sw_iconst (x := 2) dX12_findRegion_90 (by decide) ?_
          refine sw_icmp_ge 163 dX12_findRegion_91 (by decide) (fun h91 => ?_) (fun h91 => ?_)
          · refine sw_goto 71 dX12_findRegion_163 (by decide) ?_
            refine sw_keep [0, 1, 2] rfl ?_
            refine ih G2 _ _ ?_ ?_ (fun G' P' z1 z2 => K G' P' ?_ (fun i hi => ?_))
            · rw [g3]
              show (dst A (gV Th G j, P, m)).2.2 + unm (dst A (gV Th G j, P, m)).1 C < c
              omega
            · rw [g3]
              exact e6.1
            · rw [z1, g3]
              rfl
            · rw [z2 i hi, g4 i hi, g2 i hi]
          · exact absurd h91 (by decide)
def FQ (n : Nat) (f : sw_F) (s : Nat → Int32) (A : Nat → Nat → Int32) (C j : Nat) : sw_Q := fun r n' f' => ∃ S P G Th, n' = n ∧ r = none ∧ f' = md f s (fA A S P G Th) ∧ (∀ k, k < C → (¬ G (100 * j + k) = 0 ↔ RG A C (RGB A C (A 178) j) j k)) ∧ ∀ i, (∀ k, k < C → ¬ i = 100 * j + k) → G i = A 181 i
set_option maxRecDepth 100000 in
theorem c_X12_findRegion {l : Launch} {D : va_G} {cy : Nat → ClassId} {d n : Nat} {f : sw_F} {s : Nat → Int32} {A : Nat → Nat → Int32} (hd : 2 ≤ d) {C : Nat} (hC : s 36 = nI C) (hCb : C ≤ 100) (hW : HL A C (A 178)) {j : Nat} (hj : j < C) (hj0 : 0 ≤ A 178 j) : sw_Ct l D cy mX12_findRegion d 0 0 [.ref 150, .int (nI j)] n (md f s A) (FQ n f s A C j) := by
  refine sw_of rfl (Nat.le_of_ble_eq_true rfl) ?_
  show SW l D cy mX12_findRegion d 0 0 0 0 0 [(0, .ref 150), (1, .int (nI j))] [] n (md f s A) _ _
  rw [show md f s A = md f s (fA A (A 179) (A 180) (A 181) (A 182)) from congrArg (md f s) (fA_0 A)]
  have hR := HL_RC hW
  refine sw_iconst (x := 0) dX12_findRegion_0 (by decide) ?_
  refine sw_istore_n [(0, _), (1, _), (2, _)] dX12_findRegion_1 (by decide) rfl ?_
  refine l_X12_fr1 hd hC hCb hW hj hj0 (fun S P G Th t1 t2 => ?_) (C + 1) 0 _ _ _ _ (by omega) (by omega) (fun i hi => absurd hi (by omega)) (fun i => by rw [if_neg (by omega)])
  refine sw_aload_n dX12_findRegion_62 rfl (by first | rfl | assumption) ?_
  refine sw_get dX12_findRegion_63 fr_X12_106 rfl rfl ?_
  refine sw_iconst (x := 0) dX12_findRegion_66 (by decide) ?_
  refine sw_iload_n dX12_findRegion_67 rfl ?_
  refine m_iast (0) dX12_findRegion_68 ⟨by decide, by decide, rfl⟩ nl_0 (show 0 < 220 by omega) rfl ?_
  refine m_eq rfl (fA_p _ _ _ _ _ _) ?_
  refine sw_iconst (x := 1) dX12_findRegion_69 (by decide) ?_
  refine sw_istore_n [(0, _), (1, _), (2, _)] dX12_findRegion_70 (by decide) rfl ?_
  have v1 : ∀ m, m < C → (¬ gV Th G j m = 0 ↔ RGB A C (A 178) j m) := by
    intro m hm
    rw [gV, ← t1 m hm]
    by_cases e : Th m = 0
    · rw [if_pos e, t2, if_pos (by omega)]
      exact ⟨fun q => absurd rfl q, fun q => absurd e q⟩
    · rw [if_neg e]
      exact ⟨fun _ => e, fun _ => by decide⟩
  obtain ⟨v2, v3, v4⟩ := gst_DI (P := P) hCb hR ⟨hj, hj0⟩ v1
  have v5 := unm_le (gV Th G j) C
  refine l_X12_fr3 (by omega) hCb hR (by omega) (C + 2) G _ 1 (by omega) v2 (fun G' P' z1 z2 => ?_)
  refine sw_vret dX12_findRegion_166 rfl (by omega) (by omega) ⟨S, P', G', Th, rfl, rfl, rfl, fun k hk => ?_, fun i hi => ?_⟩
  · have v6 := dst_ok hCb hR v2 (by show ¬ 1 = 0; omega)
    have v7 := grn_sp hCb hR (C + 1) _ (by have := v6.2; have : (dst A (gV Th G j, upd P 0 (nI j), 1)).2.2 + unm (dst A (gV Th G j, upd P 0 (nI j), 1)).1 C + 1 = 1 + unm (gV Th G j) C := v6.2; omega) v3 v4 k hk
    have v8 : (grn A (C + 2) (gV Th G j, upd P 0 (nI j), 1)) = grn A (C + 1) (dst A (gV Th G j, upd P 0 (nI j), 1)) := rfl
    rw [← v8] at v7
    have z3 : ¬ gV Th G' j k = 0 ↔ RGB A C (A 178) j k ∨ RG A C (RGB A C (A 178) j) j k := by rw [z1]; exact v7
    rw [gV] at z3
    by_cases e : Th k = 0
    · rw [if_pos e] at z3
      rw [z3]
      exact ⟨fun q => q.elim (fun q => absurd e ((t1 k hk).mpr q)) id, Or.inr⟩
    · have b := (t1 k hk).mp e
      rw [z2 (100 * j + k) (fun t ht h0 q => e (by rw [show k = t by omega]; exact h0)), t2, if_pos (by omega)]
      exact ⟨fun q => absurd rfl q, fun q => absurd b (RG_nb q)⟩
  · rw [z2 i (fun t ht _ => hi t ht), t2, if_neg (fun q => hi (i - 100 * j) (by omega) (by omega))]
