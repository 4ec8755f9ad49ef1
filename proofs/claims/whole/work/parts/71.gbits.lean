/-! ===== THE CLASS: bits of a long ===== -/
def bL (w : Int64) (k : Nat) : Bool := w.toBitVec.getLsbD k
def cbit (w : Int64) (k : Nat) : Bool := decide ((w.toUInt64 >>> ((nI k).toInt64.toUInt64 &&& Int64.toUInt64 63)).toInt64 &&& 1 = 1)
theorem hb_c (w : Int64) (i j : Nat) : hb w (nI i) (nI j) = cbit w (6 * i + j) := by
  unfold hb cbit
  rw [nl_6, pk_mul, nI_add]
theorem bL_1 (x : BitVec 64) : decide (x &&& 1#64 = 1#64) = x.getLsbD 0 := by
  by_cases h : x.getLsbD 0 = true
  · rw [h, decide_eq_true_iff]
    refine BitVec.eq_of_getLsbD_eq fun i hi => ?_
    rw [BitVec.getLsbD_and]
    by_cases c : i = 0
    · subst c; simp [h]
    · simp [BitVec.getLsbD_one, c]
  · rw [Bool.not_eq_true] at h
    rw [h, decide_eq_false_iff_not]
    intro q
    have t : (x &&& 1#64).getLsbD 0 = (1#64).getLsbD 0 := congrArg (fun y : BitVec 64 => y.getLsbD 0) q
    rw [BitVec.getLsbD_and, h, Bool.false_and] at t
    exact absurd t (by decide)
theorem i64_eq (x y : Int64) : decide (x = y) = decide (x.toBitVec = y.toBitVec) := by
  by_cases h : x = y
  · rw [decide_eq_true h, decide_eq_true (congrArg Int64.toBitVec h)]
  · rw [decide_eq_false h, decide_eq_false (fun q => h (Int64.toBitVec_inj.mp q))]
theorem sh_63 : ∀ k, k < 64 → ((nI k).toInt64.toUInt64 &&& Int64.toUInt64 63).toNat = k ∧ (((nI k).toInt64 &&& 63).toBitVec.smod 64).toNat = k := by decide +kernel
theorem cbit_b {w : Int64} {k : Nat} (h : k < 64) : cbit w k = bL w k := by
  unfold cbit
  rw [i64_eq]
  show decide ((w.toUInt64 >>> ((nI k).toInt64.toUInt64 &&& Int64.toUInt64 63)).toBitVec &&& 1#64 = 1#64) = _
  rw [bL_1, UInt64.toBitVec_shiftRight]
  have e := (sh_63 k h).1
  have e2 : (((nI k).toInt64.toUInt64 &&& Int64.toUInt64 63).toBitVec % 64).toNat = k := by
    rw [BitVec.toNat_umod]
    show ((nI k).toInt64.toUInt64 &&& Int64.toUInt64 63).toNat % 64 = k
    rw [e]; omega
  rw [BitVec.ushiftRight_eq', e2, BitVec.getLsbD_ushiftRight]
  rfl
theorem rnb_b {w : Int64} {k : Nat} (h : k < 64) : r_nb w k = bL w k := by
  unfold r_nb
  rw [i64_eq]
  show decide ((w >>> ((nI k).toInt64 &&& 63)).toBitVec &&& 1#64 = 1#64) = _
  rw [bL_1, Int64.toBitVec_shiftRight, BitVec.sshiftRight_eq', (sh_63 k h).2, BitVec.getLsbD_sshiftRight]
  simp [h, bL]
theorem bL_or (x y : Int64) (j : Nat) : bL (x ||| y) j = (bL x j || bL y j) := by
  unfold bL
  rw [Int64.toBitVec_or, BitVec.getLsbD_or]
theorem bL_and (x y : Int64) (j : Nat) : bL (x &&& y) j = (bL x j && bL y j) := by
  unfold bL
  rw [Int64.toBitVec_and, BitVec.getLsbD_and]
theorem bL_shl {k : Nat} (h : k < 64) {j : Nat} (hj : j < 64) : bL ((1 : Int64) <<< ((nI k).toInt64 &&& 63)) j = decide (j = k) := by
  unfold bL
  rw [Int64.toBitVec_shiftLeft, BitVec.shiftLeft_eq', (sh_63 k h).2, BitVec.getLsbD_shiftLeft]
  show (decide (j < 64) && !decide (j < k) && (1#64).getLsbD (j - k)) = _
  rw [BitVec.getLsbD_one]
  by_cases c : j = k
  · subst c; simp [hj]
  · by_cases c2 : j < k
    · simp [c, c2]
    · simp [c, show ¬ j - k = 0 by omega]
theorem bL_ext {x y : Int64} (h : ∀ j, j < 64 → bL x j = bL y j) : x = y := Int64.toBitVec_inj.mp (BitVec.eq_of_getLsbD_eq fun i hi => h i hi)
theorem bL_0 (j : Nat) : bL 0 j = false := by
  unfold bL
  show (0#64).getLsbD j = false
  simp
theorem bL_m1 : ∀ {j : Nat}, j < 64 → bL (-1) j = true := by decide +kernel
