/-! ===== THE LAW: from its start ===== -/
def nb0 : Nat → Bool := fun k => decide (k = 0)
theorem LI_0 (f : sw_F) : LI 187 f s0Z (fun _ _ => 0) 1 .null s0M A0M := by
  have hV : LVs nb0 1 := ⟨by decide, by decide, r_ord_iff.mp (by decide), by decide⟩
  have z : ∀ i, i < 1 → i = 0 := fun i hi => by omega
  refine ⟨⟨nb0, 1, hV, ⟨by decide, by decide⟩, ⟨by decide, by decide⟩, fun i j hi hj => ?_, fun i j hi hj => ?_, fun i j hi hj => ?_, fun v hv => ⟨⟨⟨0, by decide, rfl⟩, rfl⟩, ⟨0, by decide, rfl⟩, rfl⟩⟩, fun v hv => rfl, ⟨0, by decide, by decide, by decide, rfl, fun j hj => absurd hj (by omega), fun j => rfl⟩, by decide, ⟨false, by decide, by decide, fun z => absurd z (by decide)⟩, ⟨0, by decide, by decide, by decide, fun k hk => absurd hk (by omega), ⟨false, by decide, by decide, fun z => absurd z (by decide)⟩, false, by decide, by decide, fun z => absurd z (by decide)⟩, ⟨0, by decide⟩, false, by decide⟩
  · rw [z i hi, z j hj]; decide
  · rw [z i hi, z j hj]; decide
  · rw [z i hi, z j hj]; exact ⟨by decide, by decide⟩
set_option maxRecDepth 100000 in
theorem law_0 {l : Launch} {D : va_G} {cy : Nat → ClassId} {b N : Nat} {xs : Nat → Int32} {d mc ms : Nat} {f : sw_F} {QX : sw_QX} (hl : l.stackTraces = false) (hN : N ≤ 192) (hd : 41 ≤ d) (hc : 4000 ≤ mc) (hs : 60000 ≤ ms) : SWr (eL b N xs) l D cy mL_law d mc ms 0 0 0 [(0, .retAddr b)] [] 0 f (fun r _ _ => r = some (.int 1)) QX := by
  refine sw_new dL_law_0 nf_L_8 (by omega) (by omega) ?_
  refine sw_dup dL_law_3 rfl ?_
  refine sw_callI dL_law_4 k_L_28 mf_X11_init (c_X11_init (d := d - 1) (by omega) rfl) (by omega) ⟨by omega, by omega⟩ rfl rfl (Nat.le_of_ble_eq_true rfl) (fun r' n1 f1 hq hle => ?_)
  obtain ⟨q1, q2, q3⟩ := hq
  subst q1
  subst q2
  show SWr (eL b N xs) l D cy mL_law d mc ms 150 3269 7 [(0, .retAddr b)] [.ref 0] 150 f1 _ QX
  refine sw_astore_n [(0, _), (1, _)] dL_law_7 rfl (by decide) rfl ?_
  refine sw_new dL_law_8 nf_L_29 (by omega) (by omega) ?_
  refine sw_dup dL_law_11 rfl ?_
  refine sw_callI dL_law_12 k_L_31 mf_X12_init (c_X12_init (d := d - 1) (by omega) (vu_at _ _ _)) (by omega) ⟨by omega, by omega⟩ rfl rfl (Nat.le_of_ble_eq_true rfl) (fun r' n2 f2 hq hle2 => ?_)
  obtain ⟨p1, p2, p3, p4⟩ := hq
  subst p1
  subst p2
  show SWr (eL b N xs) l D cy mL_law d mc ms 186 20499 15 [(0, .retAddr b), (1, .ref 0)] [.ref 150] 186 f2 _ QX
  refine sw_astore_n [(0, _), (1, _), (2, _)] dL_law_15 rfl (by decide) rfl ?_
  refine sw_iconst (x := 1) dL_law_16 (by decide) ?_
  refine sw_newJ 1 dL_law_17 k_arr_long (by decide) (by decide) (by decide) (by omega) (by omega) ?_
  refine sw_astore_n [(0, _), (1, _), (2, _), (3, _)] dL_law_19 rfl (by decide) rfl ?_
  refine sw_iconst (x := 0) dL_law_20 (by decide) ?_
  refine sw_istore [(0, _), (1, _), (2, _), (3, _), (4, _)] dL_law_21 (by decide) rfl ?_
  have hg : va_up f2 186 (.inl (1, 1, .inr (.inl (fun _ => 0)))) = gd (va_up f2 186 (.inl (1, 1, .inr (.inl (fun _ => 0))))) s0Z (fun _ _ => 0) (fun _ _ => 0) 1 .null := by
    funext i
    by_cases c : 150 ≤ i
    · rw [gd_f _ _ _ _ _ _ c]
    · rw [gd_lo _ f1 (by omega), ← q3, vu_ne _ (by omega), p3 i (by omega), vu_ne _ (by omega)]
  refine sw_hp hg ?_
  exact law_lp hl hN (by omega) 49 0 187 20500 187 _ _ _ _ _ _ _ _ (by decide) (by omega) (by omega) (by omega) (md_u6 p4 _) ⟨_, vu_at _ _ _⟩ (by decide) (LI_0 _)
