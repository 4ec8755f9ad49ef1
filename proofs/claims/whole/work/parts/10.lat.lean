/-! ===== Lattice ===== -/
/-- bit 6 a + b of w -/
def hb (w : Int64) (a b : Int32) : Bool := decide ((w.toUInt64 >>> ((6 * a + b).toInt64.toUInt64 &&& Int64.toUInt64 63)).toInt64 &&& 1 = 1)
theorem hb_cmp {w : Int64} {a b : Int32} : lg_cmp ((w.toUInt64 >>> ((6 * a + b).toInt64.toUInt64 &&& Int64.toUInt64 63)).toInt64 &&& 1) 1 = 0 ↔ hb w a b = true := by
  unfold hb lg_cmp
  rw [decide_eq_true_iff]
  generalize (w.toUInt64 >>> ((6 * a + b).toInt64.toUInt64 &&& Int64.toUInt64 63)).toInt64 &&& 1 = x
  by_cases h1 : (1 : Int64) < x
  · have h2 : ¬ x = 1 := fun h => by rw [h] at h1; exact absurd h1 (by decide)
    simp [h1, h2]
  · by_cases h2 : x = 1
    · simp [h2]
    · simp [h1, h2]
set_option maxRecDepth 100000 in
theorem c_X3_holds {l : Launch} {D : va_G} {cy : Nat → ClassId} {d n : Nat} {f : sw_F} (w : Int64) (a b : Int32) : sw_Ct l D cy mX3_holds d 0 0 [.long w, .int a, .int b] n f (sw_D (some (.int (bz (hb w a b)))) n f) := by
  refine sw_of rfl (Nat.le_of_ble_eq_true rfl) ?_
  show SW l D cy mX3_holds d 0 0 0 0 0 [(0, .long w), (2, .int a), (3, .int b)] [] n f _ _
  refine sw_lload_n dX3_holds_0 rfl ?_
  refine sw_bipush (x := 6) dX3_holds_1 (by decide) ?_
  refine sw_iload_n dX3_holds_3 rfl ?_
  refine sw_imul dX3_holds_4 ?_
  refine sw_iload_n dX3_holds_5 rfl ?_
  refine sw_iadd dX3_holds_6 ?_
  refine sw_lushr dX3_holds_7 ?_
  refine sw_lconst (x := 1) dX3_holds_8 (by decide) ?_
  refine sw_land dX3_holds_9 ?_
  refine sw_lconst (x := 1) dX3_holds_10 (by decide) ?_
  refine sw_lcmp dX3_holds_11 ?_
  refine sw_if_ne 19 dX3_holds_12 (by decide) (fun h12 => ?_) (fun h12 => ?_)
  · refine sw_iconst (x := 0) dX3_holds_19 (by decide) ?_
    exact sw_iret dX3_holds_20 rfl (by first | rfl | exact bz_n _) (by omega) (by omega) ⟨by have := (hb_cmp (w := w) (a := a) (b := b)); simp_all [bz], rfl, rfl⟩
  · refine sw_iconst (x := 1) dX3_holds_15 (by decide) ?_
    refine sw_goto 20 dX3_holds_16 (by decide) ?_
    exact sw_iret dX3_holds_20 rfl (by first | rfl | exact bz_n _) (by omega) (by omega) ⟨by have := (hb_cmp (w := w) (a := a) (b := b)); simp_all [bz], rfl, rfl⟩
