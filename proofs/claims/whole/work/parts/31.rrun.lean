/-! ===== THE REFERENCE: run, follow, plain ===== -/
def GInv (kd ar V K : Nat → Int32) : Prop := ∃ Inv : GS → Prop, (∀ m, Inv m → gok kd ar m) ∧ (∀ m, Inv m → ¬ kd m.1 = 9 → Inv (gstep kd ar m)) ∧ Inv (0, 0, V, K, 0)
def gB (A : Nat → Nat → Int32) : Nat → Int32 := fillF (A 155) (A 156) 8
def r_go (A : Nat → Nat → Int32) (pk pa mz Mo : Nat) : Option Nat × GS := grun (A pk) (A pa) mz Mo 1 (0, 0, A 155, A 185, 0)
def r_runT (s : Nat → Int32) (x : Int32) : Int32 := if x < 0 ∨ 2000 < x then 1 else if s 39 = 0 then 2 else 0
def r_runR (s : Nat → Int32) (A : Nat → Nat → Int32) (x : Int32) : Int32 := if r_runT s x = 0 then gRet (r_go A 176 177 5000 x.toNatClampNeg) else 0
def r_runS (s : Nat → Int32) (A : Nat → Nat → Int32) (x : Int32) : Nat → Int32 := if r_runT s x = 0 then gS (va_up s 0 0) (gEnd (gB A) (r_go A 176 177 5000 x.toNatClampNeg)) else va_up s 0 (r_runT s x)
def r_runA (s : Nat → Int32) (A : Nat → Nat → Int32) (x : Int32) : Nat → Nat → Int32 := if r_runT s x = 0 then gA A (gB A) (gEnd (gB A) (r_go A 176 177 5000 x.toNatClampNeg)) else A
theorem r_runT_0 {s : Nat → Int32} {x : Int32} (h : r_runT s x = 0) : 0 ≤ x ∧ x ≤ 2000 ∧ ¬ s 39 = 0 := by
  unfold r_runT at h
  by_cases h1 : x < 0 ∨ 2000 < x
  · rw [if_pos h1] at h; exact absurd h (by decide)
  · rw [if_neg h1] at h
    by_cases h2 : s 39 = 0
    · rw [if_pos h2] at h; exact absurd h (by decide)
    · exact ⟨by grind, by grind, h2⟩
set_option maxRecDepth 100000 in
theorem c_X12_run {l : Launch} {D : va_G} {cy : Nat → ClassId} {d n : Nat} {f : sw_F} {s : Nat → Int32} {A : Nat → Nat → Int32} (hd : 2 ≤ d) (hG : ¬ s 39 = 0 → GInv (A 176) (A 177) (A 155) (A 185)) (x : Int32) : sw_Ct l D cy mX12_run d 0 0 [.ref 150, .int x] n (md f s A) (sw_D (some (.int (r_runR s A x))) n (md f (r_runS s A x) (r_runA s A x))) := by
  refine sw_of rfl (Nat.le_of_ble_eq_true rfl) ?_
  show SW l D cy mX12_run d 0 0 0 0 0 [(0, .ref 150), (1, .int x)] [] n (md f s A) _ _
  have J : ∀ t : Int32, t = r_runT s x → 0 ≤ t → SW l D cy mX12_run d 0 0 0 0 28 [(0, .ref 150), (1, .int x)] [.int t, .ref 150] n (md f s A) (sw_D (some (.int (r_runR s A x))) n (md f (r_runS s A x) (r_runA s A x))) (fun _ _ _ => False) := by
    intro t ht htp
    refine m_put dX12_run_28 fl_X12_124 (by decide) (sw_fit_i _) rfl ?_
    refine sw_aload_n dX12_run_31 rfl (by first | rfl | assumption) ?_
    refine sw_get dX12_run_32 fr_X12_124 rfl rfl ?_
    refine sw_if_le 42 dX12_run_35 (by decide) (fun h35 => ?_) (fun h35 => ?_)
    · have e1 : r_runT s x = 0 := by have : t ≤ 0 := h35; rw [← ht]; grind
      obtain ⟨e2, e3, e4⟩ := r_runT_0 e1
      obtain ⟨j, hj, rfl⟩ := nI_of2 (M := 2000) (n := 2000) (by decide) (show ¬ x < 0 by grind) e3
      obtain ⟨Inv, i1, i2, i3⟩ := hG e4
      have e0 : t = 0 := ht.trans e1
      subst e0
      refine sw_aload_n dX12_run_42 rfl (by first | rfl | assumption) ?_
      refine sw_aload_n dX12_run_43 rfl (by first | rfl | assumption) ?_
      refine sw_get dX12_run_44 fr_X12_94 rfl rfl ?_
      refine sw_aload_n dX12_run_47 rfl (by first | rfl | assumption) ?_
      refine sw_get dX12_run_48 fr_X12_97 rfl rfl ?_
      refine sw_iload_n dX12_run_51 rfl ?_
      refine sw_sipush (x := 5000) dX12_run_52 (by decide) ?_
      refine sw_Vv dX12_run_55 k_X12_304 mf_X12_goOver (c_X12_goOver_c (d := d - 1) (Mo := j) (mz := 5000) (by omega) (by omega) (by omega) i1 i2 i3) rfl ⟨_, rfl, rfl⟩ (by omega) (by omega) (by omega) rfl rfl (Nat.le_of_ble_eq_true rfl) ?_
      first | exact sw_iret dX12_run_58 rfl rfl (by omega) (by omega) ⟨by rw [r_runR, if_neg e1], rfl, by rw [r_runS, r_runA, if_neg e1, if_neg e1, ht]⟩ | exact sw_iret dX12_run_58 rfl rfl (by omega) (by omega) ⟨by rw [r_runR, if_pos e1, nI_clamp (by omega)]; rfl, rfl, by rw [r_runS, r_runA, if_pos e1, if_pos e1, nI_clamp (by omega)]; rfl⟩
    · have e1 : ¬ r_runT s x = 0 := fun q => h35 (by show t ≤ 0; rw [ht, q]; decide)
      refine sw_iconst (x := 0) dX12_run_38 (by decide) ?_
      refine sw_goto 58 dX12_run_39 (by decide) ?_
      first | exact sw_iret dX12_run_58 rfl rfl (by omega) (by omega) ⟨by rw [r_runR, if_neg e1], rfl, by rw [r_runS, r_runA, if_neg e1, if_neg e1, ht]⟩ | exact sw_iret dX12_run_58 rfl rfl (by omega) (by omega) ⟨by rw [r_runR, if_pos e1, nI_clamp (by omega)]; rfl, rfl, by rw [r_runS, r_runA, if_pos e1, if_pos e1, nI_clamp (by omega)]; rfl⟩
  refine sw_aload_n dX12_run_0 rfl (by first | rfl | assumption) ?_
  refine sw_iload_n dX12_run_1 rfl ?_
  refine sw_if_lt 12 dX12_run_2 (by decide) (fun h2 => ?_) (fun h2 => ?_)
  · refine sw_iconst (x := 1) dX12_run_12 (by decide) ?_
    refine sw_goto 28 dX12_run_13 (by decide) ?_
    exact J 1 (by rw [r_runT, if_pos (Or.inl h2)]) (by decide)
  · refine sw_iload_n dX12_run_5 rfl ?_
    refine sw_sipush (x := 2000) dX12_run_6 (by decide) ?_
    refine sw_icmp_le 16 dX12_run_9 (by decide) (fun h9 => ?_) (fun h9 => ?_)
    · refine sw_aload_n dX12_run_16 rfl (by first | rfl | assumption) ?_
      refine sw_get dX12_run_17 fr_X12_254 rfl rfl ?_
      refine sw_if_ne 27 dX12_run_20 (by decide) (fun h20 => ?_) (fun h20 => ?_)
      · refine sw_iconst (x := 0) dX12_run_27 (by decide) ?_
        exact J 0 (by rw [r_runT, if_neg (by grind), if_neg h20]) (by decide)
      · refine sw_iconst (x := 2) dX12_run_23 (by decide) ?_
        refine sw_goto 28 dX12_run_24 (by decide) ?_
        exact J 2 (by rw [r_runT, if_neg (by grind), if_pos h20]) (by decide)
    · refine sw_iconst (x := 1) dX12_run_12 (by decide) ?_
      refine sw_goto 28 dX12_run_13 (by decide) ?_
      exact J 1 (by rw [r_runT, if_pos (Or.inr (by grind))]) (by decide)
def r_foO (s : Nat → Int32) (x : Int32) : Bool := decide (¬ s 31 = 0 ∧ 0 ≤ x ∧ x ≤ 500)
def r_foG (A : Nat → Nat → Int32) (x : Int32) : Option Nat × GS := r_go A 173 174 x.toNatClampNeg 100000
def r_foR (s : Nat → Int32) (A : Nat → Nat → Int32) (x : Int32) : Int32 := if r_foO s x = true then (if 0 ≤ gRet (r_foG A x) then nI (gEnd (gB A) (r_foG A x)).2.2.2.2 else -1) else -1
def r_foS (s : Nat → Int32) (A : Nat → Nat → Int32) (x : Int32) : Nat → Int32 := if r_foO s x = true then gS (va_up s 0 0) (gEnd (gB A) (r_foG A x)) else va_up s 0 0
def r_foA (s : Nat → Int32) (A : Nat → Nat → Int32) (x : Int32) : Nat → Nat → Int32 := if r_foO s x = true then gA A (gB A) (gEnd (gB A) (r_foG A x)) else A
set_option maxRecDepth 100000 in
theorem c_X12_follow {l : Launch} {D : va_G} {cy : Nat → ClassId} {d n : Nat} {f : sw_F} {s : Nat → Int32} {A : Nat → Nat → Int32} (hd : 2 ≤ d) (hG : ¬ s 31 = 0 → GInv (A 173) (A 174) (A 155) (A 185)) (x : Int32) : sw_Ct l D cy mX12_follow d 0 0 [.ref 150, .int x] n (md f s A) (sw_D (some (.int (r_foR s A x))) n (md f (r_foS s A x) (r_foA s A x))) := by
  refine sw_of rfl (Nat.le_of_ble_eq_true rfl) ?_
  show SW l D cy mX12_follow d 0 0 0 0 0 [(0, .ref 150), (1, .int x)] [] n (md f s A) _ _
  refine sw_aload_n dX12_follow_0 rfl (by first | rfl | assumption) ?_
  refine sw_iconst (x := 0) dX12_follow_1 (by decide) ?_
  refine m_put dX12_follow_2 fl_X12_124 (by decide) (sw_fit_i _) rfl ?_
  refine sw_aload_n dX12_follow_5 rfl (by first | rfl | assumption) ?_
  refine sw_get dX12_follow_6 fr_X12_248 rfl rfl ?_
  refine sw_top (y := s 31) rfl ?_
  refine sw_if_eq 23 dX12_follow_9 (by decide) (fun h9 => ?_) (fun h9 => ?_)
  · have e1 : r_foO s x = false := by unfold r_foO; grind
    refine sw_iconst (x := (-1)) dX12_follow_23 (by decide) ?_
    exact sw_iret dX12_follow_24 rfl (by first | rfl | exact bz_n _) (by omega) (by omega) ⟨by rw [r_foR, e1, if_neg (by decide)], rfl, by rw [r_foS, r_foA, e1, if_neg (by decide), if_neg (by decide)]⟩
  · refine sw_iload_n dX12_follow_12 rfl ?_
    refine sw_if_lt 23 dX12_follow_13 (by decide) (fun h13 => ?_) (fun h13 => ?_)
    · have e1 : r_foO s x = false := by unfold r_foO; grind
      refine sw_iconst (x := (-1)) dX12_follow_23 (by decide) ?_
      exact sw_iret dX12_follow_24 rfl (by first | rfl | exact bz_n _) (by omega) (by omega) ⟨by rw [r_foR, e1, if_neg (by decide)], rfl, by rw [r_foS, r_foA, e1, if_neg (by decide), if_neg (by decide)]⟩
    · refine sw_iload_n dX12_follow_16 rfl ?_
      refine sw_sipush (x := 500) dX12_follow_17 (by decide) ?_
      refine sw_icmp_le 25 dX12_follow_20 (by decide) (fun h20 => ?_) (fun h20 => ?_)
      · have e1 : r_foO s x = true := by unfold r_foO; grind
        obtain ⟨j, hj, rfl⟩ := nI_of2 (M := 500) (n := 500) (by decide) h13 h20
        obtain ⟨Inv, i1, i2, i3⟩ := hG h9
        have e2 : r_foG A (nI j) = r_go A 173 174 j 100000 := by rw [r_foG, nI_clamp (by omega)]
        refine sw_aload_n dX12_follow_25 rfl (by first | rfl | assumption) ?_
        refine sw_aload_n dX12_follow_26 rfl (by first | rfl | assumption) ?_
        refine sw_get dX12_follow_27 fr_X12_85 rfl rfl ?_
        refine sw_aload_n dX12_follow_30 rfl (by first | rfl | assumption) ?_
        refine sw_get dX12_follow_31 fr_X12_88 rfl rfl ?_
        refine sw_ldcw dX12_follow_34 k_c_X12_308 ?_
        refine sw_top nl_100000 ?_
        refine sw_iload_n dX12_follow_37 rfl ?_
        refine sw_Vv dX12_follow_38 k_X12_304 mf_X12_goOver (c_X12_goOver_p (d := d - 1) (Mo := 100000) (mz := j) (by omega) (by omega) (by omega) i1 i2 i3) rfl ⟨_, rfl, rfl⟩ (by omega) (by omega) (by omega) rfl rfl (Nat.le_of_ble_eq_true rfl) ?_
        refine sw_istore_n [(0, _), (1, _), (2, _)] dX12_follow_41 (by decide) rfl ?_
        refine sw_iload_n dX12_follow_42 rfl ?_
        refine sw_if_ge 50 dX12_follow_43 (by decide) (fun h43 => ?_) (fun h43 => ?_)
        · refine sw_aload_n dX12_follow_50 rfl (by first | rfl | assumption) ?_
          refine sw_get dX12_follow_51 fr_X12_297 rfl rfl ?_
          exact sw_iret dX12_follow_54 rfl (by first | rfl | exact bz_n _) (by omega) (by omega) ⟨by first | (rw [r_foR, if_pos e1, e2, if_pos (show 0 ≤ gRet (r_go A 173 174 j 100000) from h43)]; rfl; done) | (rw [r_foR, if_pos e1, e2, if_neg (show ¬ 0 ≤ gRet (r_go A 173 174 j 100000) from h43)]), rfl, by rw [r_foS, r_foA, if_pos e1, if_pos e1, e2]; rfl⟩
        · refine sw_iconst (x := (-1)) dX12_follow_46 (by decide) ?_
          refine sw_goto 54 dX12_follow_47 (by decide) ?_
          exact sw_iret dX12_follow_54 rfl (by first | rfl | exact bz_n _) (by omega) (by omega) ⟨by first | (rw [r_foR, if_pos e1, e2, if_pos (show 0 ≤ gRet (r_go A 173 174 j 100000) from h43)]; rfl; done) | (rw [r_foR, if_pos e1, e2, if_neg (show ¬ 0 ≤ gRet (r_go A 173 174 j 100000) from h43)]), rfl, by rw [r_foS, r_foA, if_pos e1, if_pos e1, e2]; rfl⟩
      · have e1 : r_foO s x = false := by unfold r_foO; grind
        refine sw_iconst (x := (-1)) dX12_follow_23 (by decide) ?_
        exact sw_iret dX12_follow_24 rfl (by first | rfl | exact bz_n _) (by omega) (by omega) ⟨by rw [r_foR, e1, if_neg (by decide)], rfl, by rw [r_foS, r_foA, e1, if_neg (by decide), if_neg (by decide)]⟩
def r_pk (A : Nat → Nat → Int32) (C k : Nat) : Bool := decide (0 ≤ A 176 k ∧ A 176 k ≤ 9) && decide (A 176 k = 1 ∨ A 176 k = 2 → 0 ≤ A 177 k ∧ A 177 k < 8) && decide (A 176 k = 7 ∨ A 176 k = 8 → 0 ≤ A 177 k ∧ A 177 k < nI C)
def r_pl (A : Nat → Nat → Int32) (C : Nat) : Bool := decide (0 < C) && allF (r_pk A C) 0 C
theorem r_pkD {w a c : Int32} {z : Bool} : (z && (decide (0 ≤ w ∧ w ≤ 9) && decide (w = 1 ∨ w = 2 → 0 ≤ a ∧ a < 8) && decide (w = 7 ∨ w = 8 → 0 ≤ a ∧ a < c))) = true ↔ z = true ∧ 0 ≤ w ∧ w ≤ 9 ∧ (w = 1 ∨ w = 2 → 0 ≤ a ∧ a < 8) ∧ (w = 7 ∨ w = 8 → 0 ≤ a ∧ a < c) := by
  simp only [Bool.and_eq_true, decide_eq_true_iff, and_assoc]
set_option maxRecDepth 100000 in
theorem l_X12_plain {l : Launch} {D : va_G} {cy : Nat → ClassId} {d n : Nat} {f : sw_F} {s : Nat → Int32} {A : Nat → Nat → Int32} {C : Nat} (hC : s 36 = nI C) (hCb : C ≤ 100) {Q : sw_Q} {QX : sw_QX} : ∀ (k i : Nat) (z : Bool), i ≤ C → C < i + k → SW l D cy mX12_plain d 0 0 0 0 112 [(0, .ref 150), (1, .int (bz (z && allF (r_pk A C) i (C - i))))] [] n (md f s A) Q QX → SW l D cy mX12_plain d 0 0 0 0 15 [(0, .ref 150), (1, .int (bz (z))), (2, .int (nI (i)))] [] n (md f s A) Q QX := by
  intro k
  induction k with
  | zero => intro i0 z0 h1 h2; exact absurd h2 (by omega)
  | succ k ih =>
    intro i z hi hk K
    refine sw_iload_n dX12_plain_15 rfl ?_
    refine sw_aload_n dX12_plain_16 rfl (by first | rfl | assumption) ?_
    refine sw_get dX12_plain_17 fr_X12_251 rfl rfl ?_
    refine sw_top hC ?_
    refine sw_icmp_ge 112 dX12_plain_20 (by decide) (fun h20 => ?_) (fun h20 => ?_)
    · refine sw_keep [0, 1] rfl ?_
      rw [allF_end ((nI_leI (by omega) (by omega)).mp h20), Bool.and_true] at K
      exact K
    · have e1 : i < C := (nI_ltI (by omega) (by omega)).mp (i32_nle.mp h20)
      have J : ∀ y : Bool, y = (z && r_pk A C i) → SW l D cy mX12_plain d 0 0 0 0 105 [(0, .ref 150), (1, .int (bz z)), (2, .int (nI i)), (3, .int (A 176 i)), (4, .int (A 177 i))] [.int (bz y)] n (md f s A) Q QX := by
        intro y hy
        refine sw_istore_n [(0, _), (1, _), (2, _), (3, _), (4, _)] dX12_plain_105 (by decide) rfl ?_
        first | refine sw_inc1 [(0, _), (1, _), (2, _), (3, _), (4, _)] dX12_plain_106 rfl (by decide) rfl ?_ | refine sw_iinc [(0, _), (1, _), (2, _), (3, _), (4, _)] dX12_plain_106 rfl (by decide) rfl ?_
        refine sw_goto 15 dX12_plain_109 (by decide) ?_
        refine sw_keep [0, 1, 2] rfl ?_
        exact ih (i + 1) _ (by omega) (by omega) (by rw [allF_step e1, ← Bool.and_assoc, ← hy] at K; exact K)
      refine sw_aload_n dX12_plain_23 rfl (by first | rfl | assumption) ?_
      refine sw_get dX12_plain_24 fr_X12_94 rfl rfl ?_
      refine sw_iload_n dX12_plain_27 rfl ?_
      refine sw_ialdN (i) dX12_plain_28 rfl rfl (show i < 100 by omega) (by decide) ?_
      refine sw_istore_n [(0, _), (1, _), (2, _), (3, _)] dX12_plain_29 (by decide) rfl ?_
      refine sw_aload_n dX12_plain_30 rfl (by first | rfl | assumption) ?_
      refine sw_get dX12_plain_31 fr_X12_97 rfl rfl ?_
      refine sw_iload_n dX12_plain_34 rfl ?_
      refine sw_ialdN (i) dX12_plain_35 rfl rfl (show i < 100 by omega) (by decide) ?_
      refine sw_istore [(0, _), (1, _), (2, _), (3, _), (4, _)] dX12_plain_36 (by decide) rfl ?_
      refine sw_iload_n dX12_plain_38 rfl ?_
      refine sw_if_eq 104 dX12_plain_39 (by decide) (fun h39 => ?_) (fun h39 => ?_)
      · refine sw_iconst (x := 0) dX12_plain_104 (by decide) ?_
        first | exact J true (by symm; rw [r_pk, r_pkD]; refine ⟨bz_ne.mp h39, ?_⟩; grind) | exact J false (by symm; rw [Bool.eq_false_iff, Ne, r_pk, r_pkD]; intro q; have q1 := q.1; grind [bz])
      · refine sw_iload_n dX12_plain_42 rfl ?_
        refine sw_if_lt 104 dX12_plain_43 (by decide) (fun h43 => ?_) (fun h43 => ?_)
        · refine sw_iconst (x := 0) dX12_plain_104 (by decide) ?_
          first | exact J true (by symm; rw [r_pk, r_pkD]; refine ⟨bz_ne.mp h39, ?_⟩; grind) | exact J false (by symm; rw [Bool.eq_false_iff, Ne, r_pk, r_pkD]; intro q; have q1 := q.1; grind [bz])
        · refine sw_iload_n dX12_plain_46 rfl ?_
          refine sw_bipush (x := 9) dX12_plain_47 (by decide) ?_
          refine sw_icmp_gt 104 dX12_plain_49 (by decide) (fun h49 => ?_) (fun h49 => ?_)
          · refine sw_iconst (x := 0) dX12_plain_104 (by decide) ?_
            first | exact J true (by symm; rw [r_pk, r_pkD]; refine ⟨bz_ne.mp h39, ?_⟩; grind) | exact J false (by symm; rw [Bool.eq_false_iff, Ne, r_pk, r_pkD]; intro q; have q1 := q.1; grind [bz])
          · refine sw_iload_n dX12_plain_52 rfl ?_
            refine sw_iconst (x := 1) dX12_plain_53 (by decide) ?_
            refine sw_icmp_eq 62 dX12_plain_54 (by decide) (fun h54 => ?_) (fun h54 => ?_)
            · refine sw_iload dX12_plain_62 rfl ?_
              refine sw_if_lt 104 dX12_plain_64 (by decide) (fun h64 => ?_) (fun h64 => ?_)
              · refine sw_iconst (x := 0) dX12_plain_104 (by decide) ?_
                first | exact J true (by symm; rw [r_pk, r_pkD]; refine ⟨bz_ne.mp h39, ?_⟩; grind) | exact J false (by symm; rw [Bool.eq_false_iff, Ne, r_pk, r_pkD]; intro q; have q1 := q.1; grind [bz])
              · refine sw_iload dX12_plain_67 rfl ?_
                refine sw_bipush (x := 8) dX12_plain_69 (by decide) ?_
                refine sw_icmp_ge 104 dX12_plain_71 (by decide) (fun h71 => ?_) (fun h71 => ?_)
                · refine sw_iconst (x := 0) dX12_plain_104 (by decide) ?_
                  first | exact J true (by symm; rw [r_pk, r_pkD]; refine ⟨bz_ne.mp h39, ?_⟩; grind) | exact J false (by symm; rw [Bool.eq_false_iff, Ne, r_pk, r_pkD]; intro q; have q1 := q.1; grind [bz])
                · refine sw_iload_n dX12_plain_74 rfl ?_
                  refine sw_bipush (x := 7) dX12_plain_75 (by decide) ?_
                  refine sw_icmp_eq 86 dX12_plain_77 (by decide) (fun h77 => ?_) (fun h77 => ?_)
                  · refine sw_iload dX12_plain_86 rfl ?_
                    refine sw_if_lt 104 dX12_plain_88 (by decide) (fun h88 => ?_) (fun h88 => ?_)
                    · refine sw_iconst (x := 0) dX12_plain_104 (by decide) ?_
                      first | exact J true (by symm; rw [r_pk, r_pkD]; refine ⟨bz_ne.mp h39, ?_⟩; grind) | exact J false (by symm; rw [Bool.eq_false_iff, Ne, r_pk, r_pkD]; intro q; have q1 := q.1; grind [bz])
                    · refine sw_iload dX12_plain_91 rfl ?_
                      refine sw_aload_n dX12_plain_93 rfl (by first | rfl | assumption) ?_
                      refine sw_get dX12_plain_94 fr_X12_251 rfl rfl ?_
                      refine sw_top hC ?_
                      refine sw_icmp_ge 104 dX12_plain_97 (by decide) (fun h97 => ?_) (fun h97 => ?_)
                      · refine sw_iconst (x := 0) dX12_plain_104 (by decide) ?_
                        first | exact J true (by symm; rw [r_pk, r_pkD]; refine ⟨bz_ne.mp h39, ?_⟩; grind) | exact J false (by symm; rw [Bool.eq_false_iff, Ne, r_pk, r_pkD]; intro q; have q1 := q.1; grind [bz])
                      · refine sw_iconst (x := 1) dX12_plain_100 (by decide) ?_
                        refine sw_goto 105 dX12_plain_101 (by decide) ?_
                        first | exact J true (by symm; rw [r_pk, r_pkD]; refine ⟨bz_ne.mp h39, ?_⟩; grind) | exact J false (by symm; rw [Bool.eq_false_iff, Ne, r_pk, r_pkD]; intro q; have q1 := q.1; grind [bz])
                  · refine sw_iload_n dX12_plain_80 rfl ?_
                    refine sw_bipush (x := 8) dX12_plain_81 (by decide) ?_
                    refine sw_icmp_ne 100 dX12_plain_83 (by decide) (fun h83 => ?_) (fun h83 => ?_)
                    · refine sw_iconst (x := 1) dX12_plain_100 (by decide) ?_
                      refine sw_goto 105 dX12_plain_101 (by decide) ?_
                      first | exact J true (by symm; rw [r_pk, r_pkD]; refine ⟨bz_ne.mp h39, ?_⟩; grind) | exact J false (by symm; rw [Bool.eq_false_iff, Ne, r_pk, r_pkD]; intro q; have q1 := q.1; grind [bz])
                    · refine sw_iload dX12_plain_86 rfl ?_
                      refine sw_if_lt 104 dX12_plain_88 (by decide) (fun h88 => ?_) (fun h88 => ?_)
                      · refine sw_iconst (x := 0) dX12_plain_104 (by decide) ?_
                        first | exact J true (by symm; rw [r_pk, r_pkD]; refine ⟨bz_ne.mp h39, ?_⟩; grind) | exact J false (by symm; rw [Bool.eq_false_iff, Ne, r_pk, r_pkD]; intro q; have q1 := q.1; grind [bz])
                      · refine sw_iload dX12_plain_91 rfl ?_
                        refine sw_aload_n dX12_plain_93 rfl (by first | rfl | assumption) ?_
                        refine sw_get dX12_plain_94 fr_X12_251 rfl rfl ?_
                        refine sw_top hC ?_
                        refine sw_icmp_ge 104 dX12_plain_97 (by decide) (fun h97 => ?_) (fun h97 => ?_)
                        · refine sw_iconst (x := 0) dX12_plain_104 (by decide) ?_
                          first | exact J true (by symm; rw [r_pk, r_pkD]; refine ⟨bz_ne.mp h39, ?_⟩; grind) | exact J false (by symm; rw [Bool.eq_false_iff, Ne, r_pk, r_pkD]; intro q; have q1 := q.1; grind [bz])
                        · refine sw_iconst (x := 1) dX12_plain_100 (by decide) ?_
                          refine sw_goto 105 dX12_plain_101 (by decide) ?_
                          first | exact J true (by symm; rw [r_pk, r_pkD]; refine ⟨bz_ne.mp h39, ?_⟩; grind) | exact J false (by symm; rw [Bool.eq_false_iff, Ne, r_pk, r_pkD]; intro q; have q1 := q.1; grind [bz])
            · refine sw_iload_n dX12_plain_57 rfl ?_
              refine sw_iconst (x := 2) dX12_plain_58 (by decide) ?_
              refine sw_icmp_ne 74 dX12_plain_59 (by decide) (fun h59 => ?_) (fun h59 => ?_)
              · refine sw_iload_n dX12_plain_74 rfl ?_
                refine sw_bipush (x := 7) dX12_plain_75 (by decide) ?_
                refine sw_icmp_eq 86 dX12_plain_77 (by decide) (fun h77 => ?_) (fun h77 => ?_)
                · refine sw_iload dX12_plain_86 rfl ?_
                  refine sw_if_lt 104 dX12_plain_88 (by decide) (fun h88 => ?_) (fun h88 => ?_)
                  · refine sw_iconst (x := 0) dX12_plain_104 (by decide) ?_
                    first | exact J true (by symm; rw [r_pk, r_pkD]; refine ⟨bz_ne.mp h39, ?_⟩; grind) | exact J false (by symm; rw [Bool.eq_false_iff, Ne, r_pk, r_pkD]; intro q; have q1 := q.1; grind [bz])
                  · refine sw_iload dX12_plain_91 rfl ?_
                    refine sw_aload_n dX12_plain_93 rfl (by first | rfl | assumption) ?_
                    refine sw_get dX12_plain_94 fr_X12_251 rfl rfl ?_
                    refine sw_top hC ?_
                    refine sw_icmp_ge 104 dX12_plain_97 (by decide) (fun h97 => ?_) (fun h97 => ?_)
                    · refine sw_iconst (x := 0) dX12_plain_104 (by decide) ?_
                      first | exact J true (by symm; rw [r_pk, r_pkD]; refine ⟨bz_ne.mp h39, ?_⟩; grind) | exact J false (by symm; rw [Bool.eq_false_iff, Ne, r_pk, r_pkD]; intro q; have q1 := q.1; grind [bz])
                    · refine sw_iconst (x := 1) dX12_plain_100 (by decide) ?_
                      refine sw_goto 105 dX12_plain_101 (by decide) ?_
                      first | exact J true (by symm; rw [r_pk, r_pkD]; refine ⟨bz_ne.mp h39, ?_⟩; grind) | exact J false (by symm; rw [Bool.eq_false_iff, Ne, r_pk, r_pkD]; intro q; have q1 := q.1; grind [bz])
                · refine sw_iload_n dX12_plain_80 rfl ?_
                  refine sw_bipush (x := 8) dX12_plain_81 (by decide) ?_
                  refine sw_icmp_ne 100 dX12_plain_83 (by decide) (fun h83 => ?_) (fun h83 => ?_)
                  · refine sw_iconst (x := 1) dX12_plain_100 (by decide) ?_
                    refine sw_goto 105 dX12_plain_101 (by decide) ?_
                    first | exact J true (by symm; rw [r_pk, r_pkD]; refine ⟨bz_ne.mp h39, ?_⟩; grind) | exact J false (by symm; rw [Bool.eq_false_iff, Ne, r_pk, r_pkD]; intro q; have q1 := q.1; grind [bz])
                  · refine sw_iload dX12_plain_86 rfl ?_
                    refine sw_if_lt 104 dX12_plain_88 (by decide) (fun h88 => ?_) (fun h88 => ?_)
                    · refine sw_iconst (x := 0) dX12_plain_104 (by decide) ?_
                      first | exact J true (by symm; rw [r_pk, r_pkD]; refine ⟨bz_ne.mp h39, ?_⟩; grind) | exact J false (by symm; rw [Bool.eq_false_iff, Ne, r_pk, r_pkD]; intro q; have q1 := q.1; grind [bz])
                    · refine sw_iload dX12_plain_91 rfl ?_
                      refine sw_aload_n dX12_plain_93 rfl (by first | rfl | assumption) ?_
                      refine sw_get dX12_plain_94 fr_X12_251 rfl rfl ?_
                      refine sw_top hC ?_
                      refine sw_icmp_ge 104 dX12_plain_97 (by decide) (fun h97 => ?_) (fun h97 => ?_)
                      · refine sw_iconst (x := 0) dX12_plain_104 (by decide) ?_
                        first | exact J true (by symm; rw [r_pk, r_pkD]; refine ⟨bz_ne.mp h39, ?_⟩; grind) | exact J false (by symm; rw [Bool.eq_false_iff, Ne, r_pk, r_pkD]; intro q; have q1 := q.1; grind [bz])
                      · refine sw_iconst (x := 1) dX12_plain_100 (by decide) ?_
                        refine sw_goto 105 dX12_plain_101 (by decide) ?_
                        first | exact J true (by symm; rw [r_pk, r_pkD]; refine ⟨bz_ne.mp h39, ?_⟩; grind) | exact J false (by symm; rw [Bool.eq_false_iff, Ne, r_pk, r_pkD]; intro q; have q1 := q.1; grind [bz])
              · refine sw_iload dX12_plain_62 rfl ?_
                refine sw_if_lt 104 dX12_plain_64 (by decide) (fun h64 => ?_) (fun h64 => ?_)
                · refine sw_iconst (x := 0) dX12_plain_104 (by decide) ?_
                  first | exact J true (by symm; rw [r_pk, r_pkD]; refine ⟨bz_ne.mp h39, ?_⟩; grind) | exact J false (by symm; rw [Bool.eq_false_iff, Ne, r_pk, r_pkD]; intro q; have q1 := q.1; grind [bz])
                · refine sw_iload dX12_plain_67 rfl ?_
                  refine sw_bipush (x := 8) dX12_plain_69 (by decide) ?_
                  refine sw_icmp_ge 104 dX12_plain_71 (by decide) (fun h71 => ?_) (fun h71 => ?_)
                  · refine sw_iconst (x := 0) dX12_plain_104 (by decide) ?_
                    first | exact J true (by symm; rw [r_pk, r_pkD]; refine ⟨bz_ne.mp h39, ?_⟩; grind) | exact J false (by symm; rw [Bool.eq_false_iff, Ne, r_pk, r_pkD]; intro q; have q1 := q.1; grind [bz])
                  · refine sw_iload_n dX12_plain_74 rfl ?_
                    refine sw_bipush (x := 7) dX12_plain_75 (by decide) ?_
                    refine sw_icmp_eq 86 dX12_plain_77 (by decide) (fun h77 => ?_) (fun h77 => ?_)
                    · refine sw_iload dX12_plain_86 rfl ?_
                      refine sw_if_lt 104 dX12_plain_88 (by decide) (fun h88 => ?_) (fun h88 => ?_)
                      · refine sw_iconst (x := 0) dX12_plain_104 (by decide) ?_
                        first | exact J true (by symm; rw [r_pk, r_pkD]; refine ⟨bz_ne.mp h39, ?_⟩; grind) | exact J false (by symm; rw [Bool.eq_false_iff, Ne, r_pk, r_pkD]; intro q; have q1 := q.1; grind [bz])
                      · refine sw_iload dX12_plain_91 rfl ?_
                        refine sw_aload_n dX12_plain_93 rfl (by first | rfl | assumption) ?_
                        refine sw_get dX12_plain_94 fr_X12_251 rfl rfl ?_
                        refine sw_top hC ?_
                        refine sw_icmp_ge 104 dX12_plain_97 (by decide) (fun h97 => ?_) (fun h97 => ?_)
                        · refine sw_iconst (x := 0) dX12_plain_104 (by decide) ?_
                          first | exact J true (by symm; rw [r_pk, r_pkD]; refine ⟨bz_ne.mp h39, ?_⟩; grind) | exact J false (by symm; rw [Bool.eq_false_iff, Ne, r_pk, r_pkD]; intro q; have q1 := q.1; grind [bz])
                        · refine sw_iconst (x := 1) dX12_plain_100 (by decide) ?_
                          refine sw_goto 105 dX12_plain_101 (by decide) ?_
                          first | exact J true (by symm; rw [r_pk, r_pkD]; refine ⟨bz_ne.mp h39, ?_⟩; grind) | exact J false (by symm; rw [Bool.eq_false_iff, Ne, r_pk, r_pkD]; intro q; have q1 := q.1; grind [bz])
                    · refine sw_iload_n dX12_plain_80 rfl ?_
                      refine sw_bipush (x := 8) dX12_plain_81 (by decide) ?_
                      refine sw_icmp_ne 100 dX12_plain_83 (by decide) (fun h83 => ?_) (fun h83 => ?_)
                      · refine sw_iconst (x := 1) dX12_plain_100 (by decide) ?_
                        refine sw_goto 105 dX12_plain_101 (by decide) ?_
                        first | exact J true (by symm; rw [r_pk, r_pkD]; refine ⟨bz_ne.mp h39, ?_⟩; grind) | exact J false (by symm; rw [Bool.eq_false_iff, Ne, r_pk, r_pkD]; intro q; have q1 := q.1; grind [bz])
                      · refine sw_iload dX12_plain_86 rfl ?_
                        refine sw_if_lt 104 dX12_plain_88 (by decide) (fun h88 => ?_) (fun h88 => ?_)
                        · refine sw_iconst (x := 0) dX12_plain_104 (by decide) ?_
                          first | exact J true (by symm; rw [r_pk, r_pkD]; refine ⟨bz_ne.mp h39, ?_⟩; grind) | exact J false (by symm; rw [Bool.eq_false_iff, Ne, r_pk, r_pkD]; intro q; have q1 := q.1; grind [bz])
                        · refine sw_iload dX12_plain_91 rfl ?_
                          refine sw_aload_n dX12_plain_93 rfl (by first | rfl | assumption) ?_
                          refine sw_get dX12_plain_94 fr_X12_251 rfl rfl ?_
                          refine sw_top hC ?_
                          refine sw_icmp_ge 104 dX12_plain_97 (by decide) (fun h97 => ?_) (fun h97 => ?_)
                          · refine sw_iconst (x := 0) dX12_plain_104 (by decide) ?_
                            first | exact J true (by symm; rw [r_pk, r_pkD]; refine ⟨bz_ne.mp h39, ?_⟩; grind) | exact J false (by symm; rw [Bool.eq_false_iff, Ne, r_pk, r_pkD]; intro q; have q1 := q.1; grind [bz])
                          · refine sw_iconst (x := 1) dX12_plain_100 (by decide) ?_
                            refine sw_goto 105 dX12_plain_101 (by decide) ?_
                            first | exact J true (by symm; rw [r_pk, r_pkD]; refine ⟨bz_ne.mp h39, ?_⟩; grind) | exact J false (by symm; rw [Bool.eq_false_iff, Ne, r_pk, r_pkD]; intro q; have q1 := q.1; grind [bz])
set_option maxRecDepth 100000 in
theorem c_X12_plain {l : Launch} {D : va_G} {cy : Nat → ClassId} {d n : Nat} {f : sw_F} {s : Nat → Int32} {A : Nat → Nat → Int32} {C : Nat} (hC : s 36 = nI C) (hCb : C ≤ 100) : sw_Ct l D cy mX12_plain d 0 0 [.ref 150] n (md f s A) (sw_D (some (.int (bz (r_pl A C)))) n (md f s A)) := by
  refine sw_of rfl (Nat.le_of_ble_eq_true rfl) ?_
  show SW l D cy mX12_plain d 0 0 0 0 0 [(0, .ref 150)] [] n (md f s A) _ _
  have J : ∀ z : Bool, z = decide (0 < C) → SW l D cy mX12_plain d 0 0 0 0 12 [(0, .ref 150)] [.int (bz z)] n (md f s A) (sw_D (some (.int (bz (r_pl A C)))) n (md f s A)) (fun _ _ _ => False) := by
    intro z hz
    refine sw_istore_n [(0, _), (1, _)] dX12_plain_12 (by decide) rfl ?_
    refine sw_iconst (x := 0) dX12_plain_13 (by decide) ?_
    refine sw_istore_n [(0, _), (1, _), (2, _)] dX12_plain_14 (by decide) rfl ?_
    refine l_X12_plain hC hCb (C + 1) 0 z (by omega) (by omega) ?_
    refine sw_iload_n dX12_plain_112 rfl ?_
    exact sw_iret dX12_plain_113 rfl (by first | rfl | exact bz_n _) (by omega) (by omega) ⟨by rw [r_pl, hz]; rfl, rfl, rfl⟩
  refine sw_aload_n dX12_plain_0 rfl (by first | rfl | assumption) ?_
  refine sw_get dX12_plain_1 fr_X12_251 rfl rfl ?_
  refine sw_top hC ?_
  refine sw_if_le 11 dX12_plain_4 (by decide) (fun h4 => ?_) (fun h4 => ?_)
  · refine sw_iconst (x := 0) dX12_plain_11 (by decide) ?_
    exact J false (by rw [decide_eq_false]; intro q; exact absurd h4 (nI_nle q (by omega)))
  · refine sw_iconst (x := 1) dX12_plain_7 (by decide) ?_
    refine sw_goto 12 dX12_plain_8 (by decide) ?_
    exact J true (by rw [decide_eq_true]; exact (nI_ltI (by omega) (by omega)).mp (by rw [nI_0]; grind))
