/-! ===== THE REFERENCE: write(w) ===== -/
def wk (i : Nat) : Int32 := 56 - nI (8 * i)
theorem wk_1 : ∀ i, i < 9 → wk i - 8 = wk (i + 1) := by decide
theorem wk_0 : ∀ i, i < 9 → (wk i < 0 ↔ i = 8) := by decide
/-- byte i of w, from the highest on -/
def wby (w : Int64) (i : Nat) : Int32 := ((w.toUInt64 >>> ((wk i).toInt64.toUInt64 &&& Int64.toUInt64 63)).toInt64 &&& 255).toInt32
def wgood (c : Int32) : Bool := decide (c = 0 ∨ (32 ≤ c ∧ c ≤ 126))
/-- how many of the first i bytes are not 0 -/
def wcn (w : Int64) : Nat → Nat
  | 0 => 0
  | i + 1 => if wby w i = 0 then wcn w i else wcn w i + 1
theorem wcn_le (w : Int64) : ∀ i, wcn w i ≤ i
  | 0 => Nat.le_refl 0
  | i + 1 => by
    have := wcn_le w i
    unfold wcn
    split <;> omega
def wok (w : Int64) (i k : Nat) : Bool := allF (fun j => wgood (wby w j)) i k
/-- a text of T characters g, behind i bytes -/
def wtx (w : Int64) (g : Nat → Int32) (T : Nat) : Nat → Nat → Int32
  | 0 => g
  | i + 1 => if wby w i = 0 then wtx w g T i else upd (wtx w g T i) (T + wcn w i) (wby w i)
theorem wchar {c : Int32} (h : wgood c = true) : vp_nar .char (c.toUInt32 % 65536).toInt32 = c := by
  have key : ∀ j, j < 127 → vp_nar .char ((nI j).toUInt32 % 65536).toInt32 = nI j := by decide +kernel
  unfold wgood at h
  rw [decide_eq_true_iff] at h
  rcases h with h | h
  · rw [h]; exact key 0 (by omega)
  · obtain ⟨j, hj, rfl⟩ := nI_of2 (M := 126) (n := 126) (by decide) (show ¬ c < 0 by grind) h.2
    exact key j (by omega)
set_option maxRecDepth 100000 in
theorem l_X12_wr1 {l : Launch} {D : va_G} {cy : Nat → ClassId} {d n : Nat} {f : sw_F} {s : Nat → Int32} {A : Nat → Nat → Int32} (w : Int64) {r : Int32} {s' : Nat → Int32} {A' : Nat → Nat → Int32} {QX : sw_QX} (hbad : wok w 0 8 = false → r = 0 ∧ s' = s ∧ A' = A) (K : wok w 0 8 = true → SW l D cy mX12_write d 0 0 0 0 71 [(0, .ref 150), (1, .long w), (3, .int (nI (wcn w 8)))] [] n (md f s A) (sw_D (some (.int r)) n (md f s' A')) QX) : ∀ (k i : Nat), i ≤ 8 → 8 < i + k → (∀ j, j < i → wgood (wby w j) = true) → SW l D cy mX12_write d 0 0 0 0 11 [(0, .ref 150), (1, .long w), (3, .int (nI (wcn w i))), (4, .int (wk i))] [] n (md f s A) (sw_D (some (.int r)) n (md f s' A')) QX := by
  intro k
  induction k with
  | zero => intro i0 h1 h2; exact absurd h2 (by omega)
  | succ k ih =>
    intro i he hk hg
    refine sw_iload dX12_write_11 rfl ?_
    refine sw_if_lt 71 dX12_write_13 (by decide) (fun h13 => ?_) (fun h13 => ?_)
    · refine sw_keep [0, 1, 2] rfl ?_
      rw [(wk_0 i (by omega)).mp h13]
      exact K (allF_iff.mpr (fun j h1 h2 => hg j (by rw [(wk_0 i (by omega)).mp h13]; omega)))
    · have e1 : i < 8 := Nat.lt_of_le_of_ne he (fun q => h13 ((wk_0 i (by omega)).mpr q))
      refine sw_lload_n dX12_write_16 rfl ?_
      refine sw_iload dX12_write_17 rfl ?_
      refine sw_lushr dX12_write_19 ?_
      refine sw_ldc2 dX12_write_20 k_c_X12_152 ?_
      refine sw_land dX12_write_23 ?_
      refine sw_l2i dX12_write_24 ?_
      refine sw_top (y := wby w i) rfl ?_
      refine sw_istore [(0, _), (1, _), (3, _), (4, _), (5, _)] dX12_write_25 (by decide) rfl ?_
      refine sw_iload dX12_write_27 rfl ?_
      refine sw_if_eq 48 dX12_write_29 (by decide) (fun h29 => ?_) (fun h29 => ?_)
      · have e3 : wgood (wby w i) = true := by unfold wgood; grind
        have J : SW l D cy mX12_write d 0 0 0 0 60 [(0, .ref 150), (1, .long w), (3, .int (nI (wcn w i))), (4, .int (wk i)), (5, .int (wby w i))] [.int (nI (wcn w (i + 1)))] n (md f s A) (sw_D (some (.int r)) n (md f s' A')) QX := by
          refine sw_istore_n [(0, _), (1, _), (3, _), (4, _), (5, _)] dX12_write_60 (by decide) rfl ?_
          refine sw_iload dX12_write_61 rfl ?_
          refine sw_bipush (x := 8) dX12_write_63 (by decide) ?_
          refine sw_isub dX12_write_65 ?_
          refine sw_top (wk_1 i (by omega)) ?_
          refine sw_istore [(0, _), (1, _), (3, _), (4, _), (5, _)] dX12_write_66 (by decide) rfl ?_
          refine sw_goto 11 dX12_write_68 (by decide) ?_
          refine sw_keep [0, 1, 2, 3] rfl ?_
          exact ih (i + 1) (by omega) (by omega) (fun j hj => (Nat.lt_succ_iff_lt_or_eq.mp hj).elim (hg j) (fun q => by rw [q]; exact e3))
        refine sw_iload dX12_write_48 rfl ?_
        refine sw_if_eq 59 dX12_write_50 (by decide) (fun h50 => ?_) (fun h50 => ?_)
        · refine sw_iload_n dX12_write_59 rfl ?_
          exact sw_top (y := nI (wcn w (i + 1))) (by first | (rw [wcn, if_pos h50]; done) | (rw [wcn, if_neg h50]; exact nI_1 _)) J
        · refine sw_iload_n dX12_write_53 rfl ?_
          refine sw_iconst (x := 1) dX12_write_54 (by decide) ?_
          refine sw_iadd dX12_write_55 ?_
          refine sw_goto 60 dX12_write_56 (by decide) ?_
          exact sw_top (y := nI (wcn w (i + 1))) (by first | (rw [wcn, if_pos h50]; done) | (rw [wcn, if_neg h50]; exact nI_1 _)) J
      · refine sw_iload dX12_write_32 rfl ?_
        refine sw_bipush (x := 32) dX12_write_34 (by decide) ?_
        refine sw_icmp_lt 46 dX12_write_36 (by decide) (fun h36 => ?_) (fun h36 => ?_)
        · have e2 : wok w 0 8 = false := by
            cases hc : wok w 0 8 with
            | false => rfl
            | true => exact absurd (allF_iff.mp hc i (by omega) (by omega)) (by unfold wgood; grind)
          obtain ⟨rfl, rfl, rfl⟩ := hbad e2
          refine sw_iconst (x := 0) dX12_write_46 (by decide) ?_
          exact sw_iret dX12_write_47 rfl (by first | rfl | exact bz_n _) (by omega) (by omega) ⟨rfl, rfl, rfl⟩
        · refine sw_iload dX12_write_39 rfl ?_
          refine sw_bipush (x := 126) dX12_write_41 (by decide) ?_
          refine sw_icmp_le 48 dX12_write_43 (by decide) (fun h43 => ?_) (fun h43 => ?_)
          · have e3 : wgood (wby w i) = true := by unfold wgood; grind
            have J : SW l D cy mX12_write d 0 0 0 0 60 [(0, .ref 150), (1, .long w), (3, .int (nI (wcn w i))), (4, .int (wk i)), (5, .int (wby w i))] [.int (nI (wcn w (i + 1)))] n (md f s A) (sw_D (some (.int r)) n (md f s' A')) QX := by
              refine sw_istore_n [(0, _), (1, _), (3, _), (4, _), (5, _)] dX12_write_60 (by decide) rfl ?_
              refine sw_iload dX12_write_61 rfl ?_
              refine sw_bipush (x := 8) dX12_write_63 (by decide) ?_
              refine sw_isub dX12_write_65 ?_
              refine sw_top (wk_1 i (by omega)) ?_
              refine sw_istore [(0, _), (1, _), (3, _), (4, _), (5, _)] dX12_write_66 (by decide) rfl ?_
              refine sw_goto 11 dX12_write_68 (by decide) ?_
              refine sw_keep [0, 1, 2, 3] rfl ?_
              exact ih (i + 1) (by omega) (by omega) (fun j hj => (Nat.lt_succ_iff_lt_or_eq.mp hj).elim (hg j) (fun q => by rw [q]; exact e3))
            refine sw_iload dX12_write_48 rfl ?_
            refine sw_if_eq 59 dX12_write_50 (by decide) (fun h50 => ?_) (fun h50 => ?_)
            · refine sw_iload_n dX12_write_59 rfl ?_
              exact sw_top (y := nI (wcn w (i + 1))) (by first | (rw [wcn, if_pos h50]; done) | (rw [wcn, if_neg h50]; exact nI_1 _)) J
            · refine sw_iload_n dX12_write_53 rfl ?_
              refine sw_iconst (x := 1) dX12_write_54 (by decide) ?_
              refine sw_iadd dX12_write_55 ?_
              refine sw_goto 60 dX12_write_56 (by decide) ?_
              exact sw_top (y := nI (wcn w (i + 1))) (by first | (rw [wcn, if_pos h50]; done) | (rw [wcn, if_neg h50]; exact nI_1 _)) J
          · have e2 : wok w 0 8 = false := by
              cases hc : wok w 0 8 with
              | false => rfl
              | true => exact absurd (allF_iff.mp hc i (by omega) (by omega)) (by unfold wgood; grind)
            obtain ⟨rfl, rfl, rfl⟩ := hbad e2
            refine sw_iconst (x := 0) dX12_write_46 (by decide) ?_
            exact sw_iret dX12_write_47 rfl (by first | rfl | exact bz_n _) (by omega) (by omega) ⟨rfl, rfl, rfl⟩
theorem wcn_mono (w : Int64) {i : Nat} (h : i < 8) : wcn w i ≤ wcn w 8 ∧ (¬ wby w i = 0 → wcn w i < wcn w 8) := by
  have key : ∀ a b, a ≤ b → wcn w a ≤ wcn w b := by
    intro a b hab
    induction b with
    | zero => rw [show a = 0 by omega]; exact Nat.le_refl _
    | succ b ih =>
      by_cases hq : a = b + 1
      · rw [hq]; exact Nat.le_refl _
      · have := ih (by omega)
        rw [wcn.eq_2]
        split <;> omega
  refine ⟨key i 8 (by omega), fun hn => ?_⟩
  have := key (i + 1) 8 (by omega)
  rw [wcn.eq_2, if_neg hn] at this
  omega
set_option maxRecDepth 100000 in
theorem l_X12_wr2 {l : Launch} {D : va_G} {cy : Nat → ClassId} {d n : Nat} {f : sw_F} {s : Nat → Int32} {A : Nat → Nat → Int32} (w : Int64) {T : Nat} (hT : T + wcn w 8 ≤ 72) (hok : wok w 0 8 = true) {QX : sw_QX} : ∀ (k i : Nat), i ≤ 8 → 8 < i + k → SW l D cy mX12_write d 0 0 0 0 88 [(0, .ref 150), (1, .long w), (4, .int (wk i))] [] n (md f (va_up s 10 (nI (T + wcn w (i)))) (va_up A 158 (wtx w (A 158) T (i)))) (sw_D (some (.int 1)) n (md f (va_up s 10 (nI (T + wcn w (8)))) (va_up A 158 (wtx w (A 158) T (8))))) QX := by
  intro k
  induction k with
  | zero => intro i0 h1 h2; exact absurd h2 (by omega)
  | succ k ih =>
    intro i he hk
    refine sw_iload dX12_write_88 rfl ?_
    refine sw_if_lt 141 dX12_write_90 (by decide) (fun h90 => ?_) (fun h90 => ?_)
    · rw [(wk_0 i (by omega)).mp h90]
      refine sw_iconst (x := 1) dX12_write_141 (by decide) ?_
      exact sw_iret dX12_write_142 rfl (by first | rfl | exact bz_n _) (by omega) (by omega) ⟨rfl, rfl, rfl⟩
    · have e1 : i < 8 := Nat.lt_of_le_of_ne he (fun q => h90 ((wk_0 i (by omega)).mpr q))
      have e3 : wgood (wby w i) = true := allF_iff.mp hok i (by omega) (by omega)
      have e4 : wcn w i ≤ wcn w 8 ∧ (¬ wby w i = 0 → wcn w i < wcn w 8) := wcn_mono w e1
      refine sw_lload_n dX12_write_93 rfl ?_
      refine sw_iload dX12_write_94 rfl ?_
      refine sw_lushr dX12_write_96 ?_
      refine sw_ldc2 dX12_write_97 k_c_X12_152 ?_
      refine sw_land dX12_write_100 ?_
      refine sw_l2i dX12_write_101 ?_
      refine sw_top (y := wby w i) rfl ?_
      refine sw_istore [(0, _), (1, _), (4, _), (5, _)] dX12_write_102 (by decide) rfl ?_
      refine sw_iload dX12_write_104 rfl ?_
      refine sw_if_eq 131 dX12_write_106 (by decide) (fun h106 => ?_) (fun h106 => ?_)
      · refine sw_iload dX12_write_131 rfl ?_
        refine sw_bipush (x := 8) dX12_write_133 (by decide) ?_
        refine sw_isub dX12_write_135 ?_
        refine sw_top (wk_1 i (by omega)) ?_
        refine sw_istore [(0, _), (1, _), (4, _), (5, _)] dX12_write_136 (by decide) rfl ?_
        refine sw_goto 88 dX12_write_138 (by decide) ?_
        refine sw_keep [0, 1, 2] rfl ?_
        exact m_eq (by first | (rw [wcn, if_pos h106]; done) | (rw [vu_up, wcn, if_neg h106, ← Nat.add_assoc, ← nI_1]; rfl)) (by first | (rw [wtx, if_pos h106]; done) | rw [vu_up, wtx, if_neg h106, vu_at]) (ih (i + 1) (by omega) (by omega))
      · have e7 := e4.2 h106
        refine sw_aload_n dX12_write_109 rfl (by first | rfl | assumption) ?_
        refine sw_get dX12_write_110 fr_X12_36 rfl rfl ?_
        refine sw_aload_n dX12_write_113 rfl (by first | rfl | assumption) ?_
        refine sw_get dX12_write_114 fr_X12_154 rfl rfl ?_
        refine sw_iload dX12_write_117 rfl ?_
        refine sw_i2c dX12_write_119 ?_
        refine m_cast (T + wcn w i) dX12_write_120 ⟨by decide, by decide, rfl⟩ rfl (show T + wcn w i < 72 by omega) (wchar e3) ?_
        refine sw_aload_n dX12_write_121 rfl (by first | rfl | assumption) ?_
        refine sw_dup dX12_write_122 rfl ?_
        refine sw_get dX12_write_123 fr_X12_154 rfl rfl ?_
        refine sw_iconst (x := 1) dX12_write_126 (by decide) ?_
        refine sw_iadd dX12_write_127 ?_
        refine m_put dX12_write_128 fl_X12_154 (by decide) (sw_fit_i _) rfl ?_
        refine sw_iload dX12_write_131 rfl ?_
        refine sw_bipush (x := 8) dX12_write_133 (by decide) ?_
        refine sw_isub dX12_write_135 ?_
        refine sw_top (wk_1 i (by omega)) ?_
        refine sw_istore [(0, _), (1, _), (4, _), (5, _)] dX12_write_136 (by decide) rfl ?_
        refine sw_goto 88 dX12_write_138 (by decide) ?_
        refine sw_keep [0, 1, 2] rfl ?_
        exact m_eq (by first | (rw [wcn, if_pos h106]; done) | (rw [vu_up, wcn, if_neg h106, ← Nat.add_assoc, ← nI_1]; rfl)) (by first | (rw [wtx, if_pos h106]; done) | rw [vu_up, wtx, if_neg h106, vu_at]) (ih (i + 1) (by omega) (by omega))
def r_wrOk (s : Nat → Int32) (w : Int64) : Bool := wok w 0 8 && decide ((s 10).toNatClampNeg + wcn w 8 ≤ 72)
def r_wrS (s : Nat → Int32) (w : Int64) : Nat → Int32 := if r_wrOk s w = true then va_up (va_up s 0 0) 10 (nI ((s 10).toNatClampNeg + wcn w 8)) else va_up s 0 0
def r_wrA (s : Nat → Int32) (A : Nat → Nat → Int32) (w : Int64) : Nat → Nat → Int32 := if r_wrOk s w = true then va_up A 158 (wtx w (A 158) (s 10).toNatClampNeg 8) else A
set_option maxRecDepth 100000 in
theorem c_X12_write {l : Launch} {D : va_G} {cy : Nat → ClassId} {d n : Nat} {f : sw_F} {s : Nat → Int32} {A : Nat → Nat → Int32} {T : Nat} (hT : s 10 = nI T) (hTb : T ≤ 72) (w : Int64) : sw_Ct l D cy mX12_write d 0 0 [.ref 150, .long w] n (md f s A) (sw_D (some (.int (bz (r_wrOk s w)))) n (md f (r_wrS s w) (r_wrA s A w))) := by
  refine sw_of rfl (Nat.le_of_ble_eq_true rfl) ?_
  show SW l D cy mX12_write d 0 0 0 0 0 [(0, .ref 150), (1, .long w)] [] n (md f s A) _ _
  have eT : (s 10).toNatClampNeg = T := by rw [hT, nI_clamp (by omega)]
  have eC := wcn_le w 8
  refine sw_aload_n dX12_write_0 rfl (by first | rfl | assumption) ?_
  refine sw_iconst (x := 0) dX12_write_1 (by decide) ?_
  refine m_put dX12_write_2 fl_X12_124 (by decide) (sw_fit_i _) rfl ?_
  refine sw_iconst (x := 0) dX12_write_5 (by decide) ?_
  refine sw_istore_n [(0, _), (1, _), (3, _)] dX12_write_6 (by decide) rfl ?_
  refine sw_bipush (x := 56) dX12_write_7 (by decide) ?_
  refine sw_istore [(0, _), (1, _), (3, _), (4, _)] dX12_write_9 (by decide) rfl ?_
  refine l_X12_wr1 w (fun hb => ?_) (fun hb => ?_) 9 0 (by omega) (by omega) (fun j hj => absurd hj (by omega))
  · rw [r_wrS, r_wrA, show r_wrOk s w = false from (by rw [r_wrOk, hb]; rfl), if_neg (by decide), if_neg (by decide)]; exact ⟨rfl, rfl, rfl⟩
  · refine sw_aload_n dX12_write_71 rfl (by first | rfl | assumption) ?_
    refine sw_get dX12_write_72 fr_X12_154 rfl rfl ?_
    refine sw_iload_n dX12_write_75 rfl ?_
    refine sw_iadd dX12_write_76 ?_
    refine sw_top (y := nI (T + wcn w 8)) (by rw [show va_up s 0 0 10 = nI T from hT, nI_add]) ?_
    refine sw_bipush (x := 72) dX12_write_77 (by decide) ?_
    refine sw_icmp_le 84 dX12_write_79 (by decide) (fun h79 => ?_) (fun h79 => ?_)
    · refine sw_bipush (x := 56) dX12_write_84 (by decide) ?_
      refine sw_istore [(0, _), (1, _), (3, _), (4, _)] dX12_write_86 (by decide) rfl ?_
      refine sw_keep [0, 1, 3] rfl ?_
      have e5 : T + wcn w 8 ≤ 72 := (nI_leI (by omega) (by omega)).mp (by rw [← nl_72]; exact h79)
      have e6 : r_wrOk s w = true := by rw [r_wrOk, hb, eT, decide_eq_true e5]; rfl
      rw [r_wrS, r_wrA, e6, if_pos rfl, if_pos rfl, eT]
      refine m_eq (s' := va_up (va_up s 0 0) 10 (nI (T + wcn w 0))) (A' := va_up A 158 (wtx w (A 158) T 0)) (by rw [show nI (T + wcn w 0) = va_up s 0 0 10 from hT.symm, vu_id]) (by rw [wtx, vu_id]) ?_
      exact l_X12_wr2 w e5 hb 9 0 (by omega) (by omega)
    · refine sw_iconst (x := 0) dX12_write_82 (by decide) ?_
      exact sw_iret dX12_write_83 rfl (by first | rfl | exact bz_n _) (by omega) (by omega) ⟨by rw [show r_wrOk s w = false from (by rw [r_wrOk, eT, decide_eq_false (fun q => h79 (by rw [nl_72]; exact (nI_leI (by omega) (by omega)).mpr q)), Bool.and_false])]; rfl, rfl, by rw [r_wrS, r_wrA, show r_wrOk s w = false from (by rw [r_wrOk, eT, decide_eq_false (fun q => h79 (by rw [nl_72]; exact (nI_leI (by omega) (by omega)).mpr q)), Bool.and_false]), if_neg (by decide), if_neg (by decide)]⟩
