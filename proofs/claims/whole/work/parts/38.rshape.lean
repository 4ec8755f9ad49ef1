/-! ===== THE REFERENCE: shape ===== -/
def sA (A : Nat → Nat → Int32) (W S P : Nat → Int32) : Nat → Nat → Int32 := va_up (va_up (va_up A 178 W) 179 S) 180 P
theorem sA_d (A : Nat → Nat → Int32) (W S P S' P' : Nat → Int32) : dA (sA A W S P) S' P' = sA A W S' P' := by
  unfold sA dA
  rw [vu_so _ (show 179 < 180 by decide), vu_up, vu_up]
theorem sA_0 (A : Nat → Nat → Int32) : A = sA A (A 178) (A 179) (A 180) := by
  unfold sA
  rw [vu_id, vu_id, vu_id]
theorem sA_h (A : Nat → Nat → Int32) (W P : Nat → Int32) : hA A W P = sA A W (A 179) P := by
  unfold sA hA
  rw [show va_up (va_up A 178 W) 179 (A 179) = va_up A 178 W from vu_id (va_up A 178 W) 179]
def SH (A : Nat → Nat → Int32) (C : Nat) : Prop := r_pl A C = true ∧ ∃ W, HL A C W ∧ ∀ j, j < C → 0 ≤ W j → CE A C j (-1)
def SQ (n : Nat) (f : sw_F) (s : Nat → Int32) (A : Nat → Nat → Int32) (C : Nat) : sw_Q := fun r n' f' => ∃ b W S P, n' = n ∧ r = some (.int (bz b)) ∧ f' = md f s (sA A W S P) ∧ (b = true ↔ SH A C) ∧ (b = true → HL A C W)
set_option maxRecDepth 100000 in
theorem l_X12_shape {l : Launch} {D : va_G} {cy : Nat → ClassId} {d n : Nat} {f : sw_F} {s : Nat → Int32} {A : Nat → Nat → Int32} (hd : 2 ≤ d) {C : Nat} (hC : s 36 = nI C) (hCb : C ≤ 100) (hpl : r_pl A C = true) {W : Nat → Int32} (hW : HL A C W) : ∀ (c k : Nat) (S P : Nat → Int32) (z : Bool), k ≤ C → C < k + c → (z = true ↔ ∀ j, j < k → 0 ≤ W j → CE A C j (-1)) → SW l D cy mX12_shape d 0 0 0 0 20 [(0, .ref 150), (1, .int (bz z)), (2, .int (nI k))] [] n (md f s (sA A W S P)) (SQ n f s A C) (fun _ _ _ => False) := by
  intro c
  induction c with
  | zero => intro k0 S0 P0 z0 h1 h2; exact absurd h2 (by omega)
  | succ c ih =>
    intro k S P z hk hc hz
    refine sw_iload_n dX12_shape_20 rfl ?_
    refine sw_aload_n dX12_shape_21 rfl (by first | rfl | assumption) ?_
    refine sw_get dX12_shape_22 fr_X12_251 rfl rfl ?_
    refine sw_top hC ?_
    refine sw_icmp_ge 62 dX12_shape_25 (by decide) (fun h25 => ?_) (fun h25 => ?_)
    · have e9 : k = C := Nat.le_antisymm hk ((nI_leI (by omega) (by omega)).mp h25)
      subst e9
      refine sw_iload_n dX12_shape_62 rfl ?_
      exact sw_iret dX12_shape_63 rfl (by first | rfl | exact bz_n _) (by omega) (by omega) ⟨z, W, S, P, rfl, rfl, rfl, ⟨fun q => ⟨hpl, W, hW, fun j hj => hz.mp q j hj⟩, fun q => hz.mpr (fun j hj h0 => by obtain ⟨_, V, hV, q2⟩ := q; exact q2 j hj (by rw [← HL_one hW hV j hj]; exact h0))⟩, fun _ => hW⟩
    · have e1 : k < C := (nI_ltI (by omega) (by omega)).mp (i32_nle.mp h25)
      have J : ∀ (y : Bool) (S P : Nat → Int32), (y = true ↔ ∀ j, j < k + 1 → 0 ≤ W j → CE A C j (-1)) → SW l D cy mX12_shape d 0 0 0 0 55 [(0, .ref 150), (1, .int (bz z)), (2, .int (nI k))] [.int (bz y)] n (md f s (sA A W S P)) (SQ n f s A C) (fun _ _ _ => False) := by
        intro y S P hy
        refine sw_istore_n [(0, _), (1, _), (2, _)] dX12_shape_55 (by decide) rfl ?_
        first | refine sw_inc1 [(0, _), (1, _), (2, _)] dX12_shape_56 rfl (by decide) rfl ?_ | refine sw_iinc [(0, _), (1, _), (2, _)] dX12_shape_56 rfl (by decide) rfl ?_
        refine sw_goto 20 dX12_shape_59 (by decide) ?_
        exact ih (k + 1) S P y (by omega) (by omega) hy
      refine sw_iload_n dX12_shape_28 rfl ?_
      refine sw_if_eq 54 dX12_shape_29 (by decide) (fun h29 => ?_) (fun h29 => ?_)
      · refine sw_iconst (x := 0) dX12_shape_54 (by decide) ?_
        exact J false S P ⟨fun q => Bool.noConfusion q, fun q => by have := hz.mpr (fun j hj => q j (by omega)); rw [bz_0.mp h29] at this; exact this⟩
      · refine sw_aload_n dX12_shape_32 rfl (by first | rfl | assumption) ?_
        refine sw_get dX12_shape_33 fr_X12_100 rfl rfl ?_
        refine sw_iload_n dX12_shape_36 rfl ?_
        refine sw_ialdN (k) dX12_shape_37 rfl rfl (show k < 100 by omega) (by decide) ?_
        refine sw_top (y := W k) rfl ?_
        refine sw_if_lt 50 dX12_shape_38 (by decide) (fun h38 => ?_) (fun h38 => ?_)
        · refine sw_iconst (x := 1) dX12_shape_50 (by decide) ?_
          refine sw_goto 55 dX12_shape_51 (by decide) ?_
          exact J true S P ⟨fun _ j hj h0 => by
            by_cases e : j = k
            · rw [e] at h0; exact absurd h0 (Int32.not_le.mpr h38)
            · exact hz.mp (bz_ne.mp h29) j (by omega) h0, fun _ => rfl⟩
        · have e2 : RC (sA A W S P) C (fun k => k < C ∧ 0 ≤ W k) := HL_RC hW
          have e3 : (r_ce (sA A W S P) C k (-1)).1 = true ↔ CE A C k (-1) := r_ce_sp hCb e2 ⟨e1, Int32.not_lt.mp h38⟩
          refine sw_aload_n dX12_shape_41 rfl (by first | rfl | assumption) ?_
          refine sw_iload_n dX12_shape_42 rfl ?_
          refine sw_iconst (x := (-1)) dX12_shape_43 (by decide) ?_
          refine sw_Vv dX12_shape_44 k_X12_275 mf_X12_comesToEnd (c_X12_comesToEnd (d := d - 1) (by omega) hC hCb e2 ⟨e1, Int32.not_lt.mp h38⟩ (-1)) rfl ⟨_, rfl, rfl⟩ (by omega) (by omega) (by omega) rfl rfl (Nat.le_of_ble_eq_true rfl) ?_
          refine sw_if_eq 54 dX12_shape_47 (by decide) (fun h47 => ?_) (fun h47 => ?_)
          · refine sw_iconst (x := 0) dX12_shape_54 (by decide) ?_
            exact m_eq rfl (sA_d _ _ _ _ _ _) (J false _ _ ⟨fun q => Bool.noConfusion q, fun q => by have := e3.mpr (q k (by omega) (Int32.not_lt.mp h38)); rw [bz_0.mp h47] at this; exact this⟩)
          · refine sw_iconst (x := 1) dX12_shape_50 (by decide) ?_
            refine sw_goto 55 dX12_shape_51 (by decide) ?_
            exact m_eq rfl (sA_d _ _ _ _ _ _) (J true _ _ ⟨fun _ j hj h0 => by
              by_cases e : j = k
              · rw [e]; exact e3.mp (bz_ne.mp h47)
              · exact hz.mp (bz_ne.mp h29) j (by omega) h0, fun _ => rfl⟩)
set_option maxRecDepth 100000 in
theorem c_X12_shape {l : Launch} {D : va_G} {cy : Nat → ClassId} {d n : Nat} {f : sw_F} {s : Nat → Int32} {A : Nat → Nat → Int32} (hd : 2 ≤ d) {C : Nat} (hC : s 36 = nI C) (hCb : C ≤ 100) : sw_Ct l D cy mX12_shape d 0 0 [.ref 150] n (md f s A) (SQ n f s A C) := by
  refine sw_of rfl (Nat.le_of_ble_eq_true rfl) ?_
  show SW l D cy mX12_shape d 0 0 0 0 0 [(0, .ref 150)] [] n (md f s A) _ _
  refine sw_aload_n dX12_shape_0 rfl (by first | rfl | assumption) ?_
  refine sw_Vv dX12_shape_1 k_X12_269 mf_X12_plain (c_X12_plain (d := d - 1) hC hCb) rfl ⟨_, rfl, rfl⟩ (by omega) (by omega) (by omega) rfl rfl (Nat.le_of_ble_eq_true rfl) ?_
  refine sw_if_eq 14 dX12_shape_4 (by decide) (fun h4 => ?_) (fun h4 => ?_)
  · refine sw_iconst (x := 0) dX12_shape_14 (by decide) ?_
    exact sw_iret dX12_shape_15 rfl (by first | rfl | exact bz_n _) (by omega) (by omega) ⟨false, A 178, A 179, A 180, rfl, rfl, by rw [← sA_0], ⟨fun q => Bool.noConfusion q, fun q => by have := q.1; rw [bz_0.mp h4] at this; exact this⟩, fun q => Bool.noConfusion q⟩
  · have e1 := bz_ne.mp h4
    have e2 : 0 < C := by unfold r_pl at e1; exact of_decide_eq_true (Bool.and_eq_true_iff.mp e1).1
    have e3 := r_hts_sp (A := A) hCb e2
    refine sw_aload_n dX12_shape_7 rfl (by first | rfl | assumption) ?_
    refine sw_Vv dX12_shape_8 k_X12_272 mf_X12_heights (c_X12_heights (d := d - 1) (by omega) hC hCb e2) rfl ⟨_, rfl, rfl⟩ (by omega) (by omega) (by omega) rfl rfl (Nat.le_of_ble_eq_true rfl) ?_
    refine sw_if_ne 16 dX12_shape_11 (by decide) (fun h11 => ?_) (fun h11 => ?_)
    · refine sw_iconst (x := 1) dX12_shape_16 (by decide) ?_
      refine sw_istore_n [(0, _), (1, _)] dX12_shape_17 (by decide) rfl ?_
      refine sw_iconst (x := 0) dX12_shape_18 (by decide) ?_
      refine sw_istore_n [(0, _), (1, _), (2, _)] dX12_shape_19 (by decide) rfl ?_
      rw [sA_h]
      exact l_X12_shape hd hC hCb e1 (e3.1 (bz_ne.mp h11)) (C + 1) 0 _ _ true (by omega) (by omega) ⟨fun _ j hj => absurd hj (by omega), fun _ => rfl⟩
    · refine sw_iconst (x := 0) dX12_shape_14 (by decide) ?_
      exact sw_iret dX12_shape_15 rfl (by first | rfl | exact bz_n _) (by omega) (by omega) ⟨false, _, _, _, rfl, rfl, by rw [← sA_h], ⟨fun q => Bool.noConfusion q, fun q => by obtain ⟨_, V, hV, _⟩ := q; exact absurd hV.1 (e3.2 (bz_0.mp h11) V)⟩, fun q => Bool.noConfusion q⟩
