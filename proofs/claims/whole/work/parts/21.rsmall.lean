/-! ===== THE REFERENCE: small methods ===== -/
set_option maxRecDepth 100000 in
theorem c_X12_thrown {l : Launch} {D : va_G} {cy : Nat → ClassId} {d n : Nat} {f : sw_F} {s : Nat → Int32} {A : Nat → Nat → Int32}  : sw_Ct l D cy mX12_thrown d 0 0 [.ref 150] n (md f s A) (sw_D (some (.int (s 0))) n (md f s A)) := by
  refine sw_of rfl (Nat.le_of_ble_eq_true rfl) ?_
  show SW l D cy mX12_thrown d 0 0 0 0 0 [(0, .ref 150)] [] n (md f s A) _ _
  refine sw_aload_n dX12_thrown_0 rfl (by first | rfl | assumption) ?_
  refine sw_get dX12_thrown_1 fr_X12_124 rfl rfl ?_
  exact sw_iret dX12_thrown_4 rfl (by first | rfl | exact bz_n _) (by omega) (by omega) ⟨rfl, rfl, rfl⟩
def r_lev (s : Nat → Int32) (a : Int32) : Bool := decide (0 ≤ a ∧ a < s 1)
set_option maxRecDepth 100000 in
theorem c_X12_isLevel {l : Launch} {D : va_G} {cy : Nat → ClassId} {d n : Nat} {f : sw_F} {s : Nat → Int32} {A : Nat → Nat → Int32} (a : Int32) : sw_Ct l D cy mX12_isLevel d 0 0 [.ref 150, .int a] n (md f s A) (sw_D (some (.int (bz (r_lev s a)))) n (md f s A)) := by
  refine sw_of rfl (Nat.le_of_ble_eq_true rfl) ?_
  show SW l D cy mX12_isLevel d 0 0 0 0 0 [(0, .ref 150), (1, .int a)] [] n (md f s A) _ _
  refine sw_iload_n dX12_isLevel_0 rfl ?_
  refine sw_if_lt 16 dX12_isLevel_1 (by decide) (fun h1 => ?_) (fun h1 => ?_)
  · refine sw_iconst (x := 0) dX12_isLevel_16 (by decide) ?_
    exact sw_iret dX12_isLevel_17 rfl (by first | rfl | exact bz_n _) (by omega) (by omega) ⟨by simp only [r_lev, bz]; grind, rfl, rfl⟩
  · refine sw_iload_n dX12_isLevel_4 rfl ?_
    refine sw_aload_n dX12_isLevel_5 rfl (by first | rfl | assumption) ?_
    refine sw_get dX12_isLevel_6 fr_X12_7 rfl rfl ?_
    refine sw_icmp_ge 16 dX12_isLevel_9 (by decide) (fun h9 => ?_) (fun h9 => ?_)
    · refine sw_iconst (x := 0) dX12_isLevel_16 (by decide) ?_
      exact sw_iret dX12_isLevel_17 rfl (by first | rfl | exact bz_n _) (by omega) (by omega) ⟨by simp only [r_lev, bz]; grind, rfl, rfl⟩
    · refine sw_iconst (x := 1) dX12_isLevel_12 (by decide) ?_
      refine sw_goto 17 dX12_isLevel_13 (by decide) ?_
      exact sw_iret dX12_isLevel_17 rfl (by first | rfl | exact bz_n _) (by omega) (by omega) ⟨by simp only [r_lev, bz]; grind, rfl, rfl⟩
