/-! ===== THE REFERENCE: labels of a program ===== -/
/-- the join of l and of x k at all k of c from k on where nm holds -/
def lof (jn : Nat → Nat → Nat) (nm : Nat → Bool) (x : Nat → Nat) : Nat → Nat → Nat → Nat
  | _, 0, l => l
  | k, c + 1, l => lof jn nm x (k + 1) c (if nm k = true then jn l (x k) else l)
def r_nm1 (A : Nat → Nat → Int32) (k : Nat) : Bool := decide (A 159 k = 1)
def r_vx (A : Nat → Nat → Int32) (nw : Nat → Nat) (k : Nat) : Nat := nw (A 160 k).toNatClampNeg
set_option maxRecDepth 100000 in
theorem l_X12_labelOf {l : Launch} {D : va_G} {cy : Nat → ClassId} {d n : Nat} {f : sw_F} {s : Nat → Int32} {A : Nat → Nat → Int32} {N : Nat} {jn : Nat → Nat → Nat} (hN : N ≤ 6) (hJ : ∀ i j, i < N → j < N → A 152 (6 * i + j) = nI (jn i j) ∧ jn i j < N) {nw : Nat → Nat} (hnw : ∀ v, v < 8 → A 172 v = nI (nw v) ∧ nw v < N) (hd : 1 ≤ d) {m e E : Nat} (he0 : A 162 m = nI e) (hm : m < 160) (heE : e ≤ E) (hE : E ≤ 160) (he : e < 160) (hu : A 166 e = nI E) (hv : ∀ k, e ≤ k → k < E → A 159 k = 1 → ∃ v, v < 8 ∧ A 160 k = nI v) {QX : sw_QX} : ∀ (c k lx : Nat), e ≤ k → k ≤ E → E < k + c → lx < N → SW l D cy mX12_labelOf d 0 0 0 0 15 [(0, .ref 150), (1, .int (nI m)), (2, .int (nI e)), (3, .int (nI (lx))), (4, .int (nI k))] [] n (md f s A) (sw_D (some (.int (nI (lof jn (r_nm1 A) (r_vx A nw) k (E - k) lx)))) n (md f s A)) QX := by
  intro c
  induction c with
  | zero => intro k lx h1 h2 h3; exact absurd h3 (by omega)
  | succ c ih =>
    intro k lx hk1 hk2 hc hlx
    refine sw_iload dX12_labelOf_15 rfl ?_
    refine sw_aload_n dX12_labelOf_17 rfl (by first | rfl | assumption) ?_
    refine sw_get dX12_labelOf_18 fr_X12_64 rfl rfl ?_
    refine sw_iload_n dX12_labelOf_21 rfl ?_
    refine sw_ialdN (e) dX12_labelOf_22 rfl rfl (show e < 160 by omega) (by decide) ?_
    refine sw_top hu ?_
    refine sw_icmp_ge 65 dX12_labelOf_23 (by decide) (fun h23 => ?_) (fun h23 => ?_)
    · rw [show E - k = 0 by have := (nI_leI (by omega) (by omega)).mp h23; omega, lof]
      refine sw_iload_n dX12_labelOf_65 rfl ?_
      exact sw_iret dX12_labelOf_66 rfl (by first | rfl | exact bz_n _) (by omega) (by omega) ⟨rfl, rfl, rfl⟩
    · have e1 : k < E := (nI_ltI (by omega) (by omega)).mp (i32_nle.mp h23)
      refine sw_aload_n dX12_labelOf_26 rfl (by first | rfl | assumption) ?_
      refine sw_get dX12_labelOf_27 fr_X12_43 rfl rfl ?_
      refine sw_iload dX12_labelOf_30 rfl ?_
      refine sw_ialdN (k) dX12_labelOf_32 rfl rfl (show k < 160 by omega) (by decide) ?_
      refine sw_iconst (x := 1) dX12_labelOf_33 (by decide) ?_
      refine sw_icmp_ne 57 dX12_labelOf_34 (by decide) (fun h34 => ?_) (fun h34 => ?_)
      · have e2 : ¬ r_nm1 A k = true := fun q => h34 (of_decide_eq_true q)
        have J : SW l D cy mX12_labelOf d 0 0 0 0 58 [(0, .ref 150), (1, .int (nI m)), (2, .int (nI e)), (3, .int (nI (lx))), (4, .int (nI k))] [.int (nI (if r_nm1 A k = true then jn lx (r_vx A nw k) else lx))] n (md f s A) (sw_D (some (.int (nI (lof jn (r_nm1 A) (r_vx A nw) k (E - k) lx)))) n (md f s A)) QX := by
          refine sw_istore_n [(0, _), (1, _), (2, _), (3, _), (4, _)] dX12_labelOf_58 (by decide) rfl ?_
          first | refine sw_inc1 [(0, _), (1, _), (2, _), (3, _), (4, _)] dX12_labelOf_59 rfl (by decide) rfl ?_ | refine sw_iinc [(0, _), (1, _), (2, _), (3, _), (4, _)] dX12_labelOf_59 rfl (by decide) rfl ?_
          refine sw_goto 15 dX12_labelOf_62 (by decide) ?_
          rw [show E - k = (E - (k + 1)) + 1 by omega, lof]
          exact ih (k + 1) _ (by omega) (by omega) (by omega) (by first | (rw [if_pos e2]; exact e5.2; done) | (rw [if_neg e2]; exact hlx))
        refine sw_iload_n dX12_labelOf_57 rfl ?_
        first | exact sw_top (by rw [if_pos e2]) J | exact sw_top (by rw [if_neg e2]) J
      · have e2 : r_nm1 A k = true := decide_eq_true h34
        obtain ⟨v, hv8, hve⟩ := hv k hk1 e1 h34
        have e3 := hnw v hv8
        have e4 : r_vx A nw k = nw v := by rw [r_vx, hve, nI_clamp (by omega)]
        have e5 := hJ _ _ hlx (show r_vx A nw k < N by rw [e4]; exact e3.2)
        have J : SW l D cy mX12_labelOf d 0 0 0 0 58 [(0, .ref 150), (1, .int (nI m)), (2, .int (nI e)), (3, .int (nI (lx))), (4, .int (nI k))] [.int (nI (if r_nm1 A k = true then jn lx (r_vx A nw k) else lx))] n (md f s A) (sw_D (some (.int (nI (lof jn (r_nm1 A) (r_vx A nw) k (E - k) lx)))) n (md f s A)) QX := by
          refine sw_istore_n [(0, _), (1, _), (2, _), (3, _), (4, _)] dX12_labelOf_58 (by decide) rfl ?_
          first | refine sw_inc1 [(0, _), (1, _), (2, _), (3, _), (4, _)] dX12_labelOf_59 rfl (by decide) rfl ?_ | refine sw_iinc [(0, _), (1, _), (2, _), (3, _), (4, _)] dX12_labelOf_59 rfl (by decide) rfl ?_
          refine sw_goto 15 dX12_labelOf_62 (by decide) ?_
          rw [show E - k = (E - (k + 1)) + 1 by omega, lof]
          exact ih (k + 1) _ (by omega) (by omega) (by omega) (by first | (rw [if_pos e2]; exact e5.2; done) | (rw [if_neg e2]; exact hlx))
        refine sw_aload_n dX12_labelOf_37 rfl (by first | rfl | assumption) ?_
        refine sw_iload_n dX12_labelOf_38 rfl ?_
        refine sw_aload_n dX12_labelOf_39 rfl (by first | rfl | assumption) ?_
        refine sw_get dX12_labelOf_40 fr_X12_82 rfl rfl ?_
        refine sw_aload_n dX12_labelOf_43 rfl (by first | rfl | assumption) ?_
        refine sw_get dX12_labelOf_44 fr_X12_46 rfl rfl ?_
        refine sw_iload dX12_labelOf_47 rfl ?_
        refine sw_ialdN (k) dX12_labelOf_49 rfl rfl (show k < 160 by omega) (by decide) ?_
        refine sw_top hve ?_
        refine sw_ialdN (v) dX12_labelOf_50 rfl rfl (show v < 8 by omega) (by decide) ?_
        refine sw_top (y := nI (r_vx A nw k)) (by rw [e4]; exact e3.1) ?_
        refine sw_Vv dX12_labelOf_51 k_X12_148 mf_X12_joined (c_X12_joined (d := d - 1) (show lx < 6 by omega) (show r_vx A nw k < 6 by rw [e4]; omega)) rfl ⟨_, rfl, rfl⟩ (by omega) (by omega) (by omega) rfl rfl (Nat.le_of_ble_eq_true rfl) ?_
        refine sw_top e5.1 ?_
        refine sw_goto 58 dX12_labelOf_54 (by decide) ?_
        first | exact sw_top (by rw [if_pos e2]) J | exact sw_top (by rw [if_neg e2]) J
set_option maxRecDepth 100000 in
theorem c_X12_labelOf {l : Launch} {D : va_G} {cy : Nat → ClassId} {d n : Nat} {f : sw_F} {s : Nat → Int32} {A : Nat → Nat → Int32} {N : Nat} {jn : Nat → Nat → Nat} (hN : N ≤ 6) (hJ : ∀ i j, i < N → j < N → A 152 (6 * i + j) = nI (jn i j) ∧ jn i j < N) {nw : Nat → Nat} (hnw : ∀ v, v < 8 → A 172 v = nI (nw v) ∧ nw v < N) (hd : 1 ≤ d) {m e E : Nat} (he0 : A 162 m = nI e) (hm : m < 160) (heE : e ≤ E) (hE : E ≤ 160) (he : e < 160) (hu : A 166 e = nI E) (hv : ∀ k, e ≤ k → k < E → A 159 k = 1 → ∃ v, v < 8 ∧ A 160 k = nI v) {bo : Nat} (hbo : s 4 = nI bo) (hbN : bo < N) : sw_Ct l D cy mX12_labelOf d 0 0 [.ref 150, .int (nI m)] n (md f s A) (sw_D (some (.int (nI (lof jn (r_nm1 A) (r_vx A nw) e (E - e) bo)))) n (md f s A)) := by
  refine sw_of rfl (Nat.le_of_ble_eq_true rfl) ?_
  show SW l D cy mX12_labelOf d 0 0 0 0 0 [(0, .ref 150), (1, .int (nI m))] [] n (md f s A) _ _
  refine sw_aload_n dX12_labelOf_0 rfl (by first | rfl | assumption) ?_
  refine sw_get dX12_labelOf_1 fr_X12_52 rfl rfl ?_
  refine sw_iload_n dX12_labelOf_4 rfl ?_
  refine sw_ialdN (m) dX12_labelOf_5 rfl rfl (show m < 160 by omega) (by decide) ?_
  refine sw_top he0 ?_
  refine sw_istore_n [(0, _), (1, _), (2, _)] dX12_labelOf_6 (by decide) rfl ?_
  refine sw_aload_n dX12_labelOf_7 rfl (by first | rfl | assumption) ?_
  refine sw_get dX12_labelOf_8 fr_X12_142 rfl rfl ?_
  refine sw_top hbo ?_
  refine sw_istore_n [(0, _), (1, _), (2, _), (3, _)] dX12_labelOf_11 (by decide) rfl ?_
  refine sw_iload_n dX12_labelOf_12 rfl ?_
  refine sw_istore [(0, _), (1, _), (2, _), (3, _), (4, _)] dX12_labelOf_13 (by decide) rfl ?_
  exact l_X12_labelOf hN hJ hnw hd he0 hm heE hE he hu hv (E + 1) e bo (Nat.le_refl e) heE (by omega) hbN
