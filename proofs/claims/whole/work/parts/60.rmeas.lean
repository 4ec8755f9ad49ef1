/-! ===== THE REFERENCE: measure ===== -/
theorem rpE_f {A A' : Nat → Nat → Int32} (h : ∀ q, 159 ≤ q → q ≤ 166 → A' q = A q) : ∀ (x : ET) (k : Nat), rpE A x k → rpE A' x k
  | .leaf x, k, r => by
    unfold rpE at r ⊢
    rw [h 159 (by omega) (by omega), h 160 (by omega) (by omega), h 162 (by omega) (by omega)]; exact r
  | .branch z a b, k, r => by
    unfold rpE at r ⊢
    rw [h 159 (by omega) (by omega), h 160 (by omega) (by omega), h 162 (by omega) (by omega), h 164 (by omega) (by omega)]
    obtain ⟨r1, r2, r3, r4, r5, r6, r7⟩ := r
    exact ⟨r1, r2, r3, r4, r5, rpE_f h a _ r6, rpE_f h b _ r7⟩
theorem hdE_f {A A' : Nat → Nat → Int32} (h : ∀ q, 159 ≤ q → q ≤ 166 → A' q = A q) {w : Int32} {e : ET} {k : Nat} {nx : Int32} (r : hdE A w e k nx) : hdE A' w e k nx := by
  unfold hdE at r ⊢
  rw [h 159 (by omega) (by omega), h 162 (by omega) (by omega), h 164 (by omega) (by omega), h 166 (by omega) (by omega)]
  exact ⟨r.1, r.2.1, r.2.2.1, r.2.2.2.1, rpE_f h e _ r.2.2.2.2⟩
theorem hdR_f {A A' : Nat → Nat → Int32} (h : ∀ q, 159 ≤ q → q ≤ 166 → A' q = A q) {b : Nat} {x nx : Int32} (r : hdR A b x nx) : hdR A' b x nx := by
  unfold hdR at r ⊢
  rw [h 159 (by omega) (by omega), h 162 (by omega) (by omega), h 164 (by omega) (by omega)]
  exact r
theorem rpR_f {A A' : Nat → Nat → Int32} (h : ∀ q, 159 ≤ q → q ≤ 166 → A' q = A q) : ∀ (t : RT) (k : Nat), rpR A t k → rpR A' t k
  | .leaf _, k, r => r
  | .branch v (.leaf e) R, k, r => by
    unfold rpR at r ⊢
    rw [h 160 (by omega) (by omega), h 164 (by omega) (by omega)]
    exact ⟨⟨hdE_f h r.1.1, r.1.2⟩, r.2.1, rpR_f h R _ r.2.2⟩
  | .branch _ (.branch _ (.leaf e) x) R, k, r => by
    unfold rpR at r ⊢
    rw [h 164 (by omega) (by omega)]
    exact ⟨⟨hdE_f h r.1.1, hdR_f h r.1.2.1, rpR_f h x _ r.1.2.2⟩, r.2.1, rpR_f h R _ r.2.2⟩
  | .branch _ (.branch _ (.branch _ (.leaf e) x) y) R, k, r => by
    unfold rpR at r ⊢
    rw [h 164 (by omega) (by omega)]
    exact ⟨⟨hdE_f h r.1.1, hdR_f h r.1.2.1, rpR_f h x _ r.1.2.2.1, hdR_f h r.1.2.2.2.1, rpR_f h y _ r.1.2.2.2.2⟩, r.2.1, rpR_f h R _ r.2.2⟩
  | .branch _ (.branch _ (.branch _ (.branch _ _ _) _) _) _, k, r => r.elim
/-- how many parts a statement has -/
def szS : RT → Nat
  | .leaf _ => 0
  | .branch _ (.leaf e) _ => 1 + szE e
  | .branch _ (.branch _ (.leaf e) r) _ => 1 + szE e + 1 + szR r
  | .branch _ (.branch _ (.branch _ (.leaf e) r1) r2) _ => 1 + szE e + 1 + szR r1 + 1 + szR r2
  | .branch _ (.branch _ (.branch _ (.branch _ _ _) _) _) _ => 0
theorem st_1 {A : Nat → Nat → Int32} {v k : Nat} {x R : RT} (h : rpR A (.branch v x R) k) (m : mzR A (.branch v x R) k) : A 167 k = nI (lnS (.branch v x R)) ∧ A 164 k = lnk R (k + szS (.branch v x R)) ∧ rpR A R (k + szS (.branch v x R)) ∧ mzR A R (k + szS (.branch v x R)) ∧ lnR (.branch v x R) = lnS (.branch v x R) + lnR R ∧ szR (.branch v x R) = szS (.branch v x R) + szR R ∧ 0 < szS (.branch v x R) := by
  match x, h, m with
  | .leaf e, h, m =>
    rw [lnR, szR, lnS, szS, show k + (1 + szE e) = k + 1 + szE e by omega]
    exact ⟨m.1.1, h.2.1, h.2.2, m.2, by omega, by omega, by omega⟩
  | .branch _ (.leaf e) r, h, m =>
    rw [lnR, szR, lnS, szS, show k + (1 + szE e + 1 + szR r) = k + 1 + szE e + 1 + szR r by omega]
    exact ⟨m.1.1, h.2.1, h.2.2, m.2, by omega, by omega, by omega⟩
  | .branch _ (.branch _ (.leaf e) r1) r2, h, m =>
    rw [lnR, szR, lnS, szS, show k + (1 + szE e + 1 + szR r1 + 1 + szR r2) = k + 1 + szE e + 1 + szR r1 + 1 + szR r2 by omega]
    exact ⟨m.1.1, h.2.1, h.2.2, m.2, by omega, by omega, by omega⟩
  | .branch _ (.branch _ (.branch _ _ _) _) _, h, m => exact h.elim
theorem nlt_m1 : (-1 : Int32) < 0 := by decide
set_option maxRecDepth 100000 in
theorem l_mC {l : Launch} {D : va_G} {cy : Nat → ClassId} {d n : Nat} {f : sw_F} {s : Nat → Int32} {A : Nat → Nat → Int32} {b : Nat} {Q : sw_Q} {QX : sw_QX} : ∀ (t : RT) (k x : Nat), rpR A t k → mzR A t k → k + szR t ≤ 160 → (SW l D cy mX12_measure d 0 0 0 0 92 [(0, .ref 150), (1, .int (nI (b))), (2, .int (nI (x + lnR t))), (3, .int (-1))] [] n (md f s A) Q QX) → SW l D cy mX12_measure d 0 0 0 0 69 [(0, .ref 150), (1, .int (nI (b))), (2, .int (nI (x))), (3, .int (lnk t k))] [] n (md f s A) Q QX
  | .leaf _, k, x, r, m, hk, K => by
    unfold lnk
    refine sw_iload_n dX12_measure_69 rfl ?_
    refine sw_if_lt 92 dX12_measure_70 (by decide) (fun h70 => ?_) (fun h70 => ?_)
    · exact K
    · exact absurd nlt_m1 h70
  | .branch v y R, k, x, r, m, hk, K => by
    obtain ⟨s1, s2, s3, s4, s5, s6, s7⟩ := st_1 r m
    rw [lnk]
    rw [s5] at K
    rw [s6] at hk
    refine sw_iload_n dX12_measure_69 rfl ?_
    refine sw_if_lt 92 dX12_measure_70 (by decide) (fun h70 => ?_) (fun h70 => ?_)
    · exact absurd h70 (i32_nlt0 (by omega))
    · refine sw_iload_n dX12_measure_73 rfl ?_
      refine sw_aload_n dX12_measure_74 rfl (by first | rfl | assumption) ?_
      refine sw_get dX12_measure_75 fr_X12_67 rfl rfl ?_
      refine sw_iload_n dX12_measure_78 rfl ?_
      refine sw_ialdN (k) dX12_measure_79 rfl rfl (show k < 160 by omega) (by decide) ?_
      refine sw_top (y := nI (lnS (.branch v y R))) s1 ?_
      refine sw_iadd dX12_measure_80 ?_
      refine sw_top (y := nI (x + lnS (.branch v y R))) (nI_add _ _) ?_
      refine sw_istore_n [(0, _), (1, _), (2, _), (3, _)] dX12_measure_81 (by decide) rfl ?_
      refine sw_aload_n dX12_measure_82 rfl (by first | rfl | assumption) ?_
      refine sw_get dX12_measure_83 fr_X12_58 rfl rfl ?_
      refine sw_iload_n dX12_measure_86 rfl ?_
      refine sw_ialdN (k) dX12_measure_87 rfl rfl (show k < 160 by omega) (by decide) ?_
      refine sw_top (y := lnk R (k + szS (.branch v y R))) s2 ?_
      refine sw_istore_n [(0, _), (1, _), (2, _), (3, _)] dX12_measure_88 (by decide) rfl ?_
      refine sw_goto 69 dX12_measure_89 (by decide) ?_
      exact l_mC R _ _ s3 s4 (by omega) (by rw [Nat.add_assoc]; exact K)
set_option maxRecDepth 100000 in
theorem l_mE {l : Launch} {D : va_G} {cy : Nat → ClassId} {d n : Nat} {f : sw_F} {s : Nat → Int32} {Q : sw_Q} {QX : sw_QX} : ∀ (e : ET) (k : Nat) (A : Nat → Nat → Int32), rpE A e k → wfE e → 0 < k → k + szE e ≤ 160 → (∀ A', (∀ q, ¬ q = 167 → A' q = A q) → (∀ i, i < k ∨ k + szE e ≤ i → A' 167 i = A 167 i) → mzE A' e k → SW l D cy mX12_measure d 0 0 0 0 7 [(0, .ref 150), (1, .int (nI (k - 1)))] [] n (md f s A') Q QX) → SW l D cy mX12_measure d 0 0 0 0 7 [(0, .ref 150), (1, .int (nI (k + szE e - 1)))] [] n (md f s A) Q QX
  | .leaf (w, v), k, A, r, wf, hk0, hs, K => by
    obtain ⟨r1, r2, r3⟩ := r
    rw [szE] at hs K
    show SW l D cy mX12_measure d 0 0 0 0 7 [(0, .ref 150), (1, .int (nI (k)))] [] n (md f s A) Q QX
    have kk := K (u2 A 167 k (nI 1)) (fun q hq => u2_q _ _ hq) (fun i hi => by rw [u2_at, if_neg (by omega)]) (by show u2 A 167 k (nI 1) 167 k = 1; rw [u2_at, if_pos ⟨rfl, rfl⟩]; rfl)
    rcases wf with ⟨wf, _⟩ | ⟨wf, _⟩
    · have hk : A 159 k = 0 := by rw [r1, wf]; rfl
      refine sw_iload_n dX12_measure_7 rfl ?_
      refine sw_if_lt 105 dX12_measure_8 (by decide) (fun h8 => ?_) (fun h8 => ?_)
      · exact absurd h8 (i32_nlt0 (by omega))
      · refine sw_aload_n dX12_measure_11 rfl (by first | rfl | assumption) ?_
        refine sw_get dX12_measure_12 fr_X12_43 rfl rfl ?_
        refine sw_iload_n dX12_measure_15 rfl ?_
        refine sw_ialdN (k) dX12_measure_16 rfl rfl (show k < 160 by omega) (by decide) ?_
        refine sw_top (y := 0) hk ?_
        refine sw_iconst (x := 2) dX12_measure_17 (by decide) ?_
        refine sw_icmp_lt 41 dX12_measure_18 (by decide) (fun h18 => ?_) (fun h18 => ?_)
        · refine sw_iconst (x := 1) dX12_measure_41 (by decide) ?_
          refine sw_goto 61 dX12_measure_42 (by decide) ?_
          refine sw_top (y := nI 1) rfl ?_
          refine sw_istore_n [(0, _), (1, _), (2, _)] dX12_measure_61 (by decide) rfl ?_
          refine sw_aload_n dX12_measure_62 rfl (by first | rfl | assumption) ?_
          refine sw_get dX12_measure_63 fr_X12_52 rfl rfl ?_
          refine sw_iload_n dX12_measure_66 rfl ?_
          refine sw_ialdN (k) dX12_measure_67 rfl rfl (show k < 160 by omega) (by decide) ?_
          refine sw_top (y := -1) r3 ?_
          refine sw_istore_n [(0, _), (1, _), (2, _), (3, _)] dX12_measure_68 (by decide) rfl ?_
          refine sw_iload_n dX12_measure_69 rfl ?_
          refine sw_if_lt 92 dX12_measure_70 (by decide) (fun h70 => ?_) (fun h70 => ?_)
          · refine sw_aload_n dX12_measure_92 rfl (by first | rfl | assumption) ?_
            refine sw_get dX12_measure_93 fr_X12_67 rfl rfl ?_
            refine sw_iload_n dX12_measure_96 rfl ?_
            refine sw_iload_n dX12_measure_97 rfl ?_
            refine m_iast (k) dX12_measure_98 ⟨by decide, by decide, rfl⟩ rfl (show k < 160 by omega) rfl ?_
            change SW l D cy mX12_measure d 0 0 0 0 99 _ _ n (md f s (u2 A 167 (k) (nI (1)))) _ _
            refine sw_dec1 [(0, _), (1, _), (2, _), (3, _)] dX12_measure_99 rfl (by omega) (by decide) rfl ?_
            refine sw_goto 7 dX12_measure_102 (by decide) ?_
            refine sw_keep [0, 1] rfl ?_
            exact kk
          · exact absurd nlt_m1 h70
        · exact absurd (by decide) h18
    · have hk : A 159 k = 1 := by rw [r1, wf]; rfl
      refine sw_iload_n dX12_measure_7 rfl ?_
      refine sw_if_lt 105 dX12_measure_8 (by decide) (fun h8 => ?_) (fun h8 => ?_)
      · exact absurd h8 (i32_nlt0 (by omega))
      · refine sw_aload_n dX12_measure_11 rfl (by first | rfl | assumption) ?_
        refine sw_get dX12_measure_12 fr_X12_43 rfl rfl ?_
        refine sw_iload_n dX12_measure_15 rfl ?_
        refine sw_ialdN (k) dX12_measure_16 rfl rfl (show k < 160 by omega) (by decide) ?_
        refine sw_top (y := 1) hk ?_
        refine sw_iconst (x := 2) dX12_measure_17 (by decide) ?_
        refine sw_icmp_lt 41 dX12_measure_18 (by decide) (fun h18 => ?_) (fun h18 => ?_)
        · refine sw_iconst (x := 1) dX12_measure_41 (by decide) ?_
          refine sw_goto 61 dX12_measure_42 (by decide) ?_
          refine sw_top (y := nI 1) rfl ?_
          refine sw_istore_n [(0, _), (1, _), (2, _)] dX12_measure_61 (by decide) rfl ?_
          refine sw_aload_n dX12_measure_62 rfl (by first | rfl | assumption) ?_
          refine sw_get dX12_measure_63 fr_X12_52 rfl rfl ?_
          refine sw_iload_n dX12_measure_66 rfl ?_
          refine sw_ialdN (k) dX12_measure_67 rfl rfl (show k < 160 by omega) (by decide) ?_
          refine sw_top (y := -1) r3 ?_
          refine sw_istore_n [(0, _), (1, _), (2, _), (3, _)] dX12_measure_68 (by decide) rfl ?_
          refine sw_iload_n dX12_measure_69 rfl ?_
          refine sw_if_lt 92 dX12_measure_70 (by decide) (fun h70 => ?_) (fun h70 => ?_)
          · refine sw_aload_n dX12_measure_92 rfl (by first | rfl | assumption) ?_
            refine sw_get dX12_measure_93 fr_X12_67 rfl rfl ?_
            refine sw_iload_n dX12_measure_96 rfl ?_
            refine sw_iload_n dX12_measure_97 rfl ?_
            refine m_iast (k) dX12_measure_98 ⟨by decide, by decide, rfl⟩ rfl (show k < 160 by omega) rfl ?_
            change SW l D cy mX12_measure d 0 0 0 0 99 _ _ n (md f s (u2 A 167 (k) (nI (1)))) _ _
            refine sw_dec1 [(0, _), (1, _), (2, _), (3, _)] dX12_measure_99 rfl (by omega) (by decide) rfl ?_
            refine sw_goto 7 dX12_measure_102 (by decide) ?_
            refine sw_keep [0, 1] rfl ?_
            exact kk
          · exact absurd nlt_m1 h70
        · exact absurd (by decide) h18
  | .branch q a b, k, A, r, wf, hk0, hs, K => by
    obtain ⟨r1, r2, r3, r4, r5, r6, r7⟩ := r
    rw [szE] at hs K ⊢
    have sa := szE_pos a
    have sb := szE_pos b
    rw [show k + (1 + szE a + szE b) - 1 = k + 1 + szE a + szE b - 1 by omega]
    refine l_mE b (k + 1 + szE a) A r7 wf.2.2 (by omega) (by omega) (fun A1 f1 g1 m1 => ?_)
    refine l_mE a (k + 1) A1 (rpE_f (fun q h1 h2 => f1 q (by omega)) a _ r6) wf.2.1 (by omega) (by omega) (fun A2 f2 g2 m2 => ?_)
    show SW l D cy mX12_measure d 0 0 0 0 7 [(0, .ref 150), (1, .int (nI (k)))] [] n (md f s A2) Q QX
    have hk : A2 159 k = 2 := by rw [f2 _ (by decide), f1 _ (by decide)]; exact r1
    have hf : A2 162 k = nI (k + 1) := by rw [f2 _ (by decide), f1 _ (by decide)]; exact r3
    have h1 : A2 164 (k + 1) = nI (k + 1 + szE a) := by rw [f2 _ (by decide), f1 _ (by decide)]; exact r4
    have h2 : A2 164 (k + 1 + szE a) = -1 := by rw [f2 _ (by decide), f1 _ (by decide)]; exact r5
    have z1 : A2 167 (k + 1) = nI (szE a) := mzE_s m2
    have z2 : A2 167 (k + 1 + szE a) = nI (szE b) := by rw [g2 _ (by omega)]; exact mzE_s m1
    have kk := K (u2 A2 167 k (nI (1 + szE a + szE b))) (fun q hq => by rw [u2_q _ _ hq, f2 q hq, f1 q hq]) (fun i hi => by rw [u2_at, if_neg (by omega), g2 i (by omega), g1 i (by omega)])
      ⟨by rw [u2_at, if_pos ⟨rfl, rfl⟩], mzE_cg a _ (fun i y1 y2 => by rw [u2_at, if_neg (by omega)]) m2, mzE_cg b _ (fun i y1 y2 => by rw [u2_at, if_neg (by omega), g2 i (by omega)]) m1⟩
    refine sw_iload_n dX12_measure_7 rfl ?_
    refine sw_if_lt 105 dX12_measure_8 (by decide) (fun h8 => ?_) (fun h8 => ?_)
    · exact absurd h8 (i32_nlt0 (by omega))
    · refine sw_aload_n dX12_measure_11 rfl (by first | rfl | assumption) ?_
      refine sw_get dX12_measure_12 fr_X12_43 rfl rfl ?_
      refine sw_iload_n dX12_measure_15 rfl ?_
      refine sw_ialdN (k) dX12_measure_16 rfl rfl (show k < 160 by omega) (by decide) ?_
      refine sw_top (y := 2) hk ?_
      refine sw_iconst (x := 2) dX12_measure_17 (by decide) ?_
      refine sw_icmp_lt 41 dX12_measure_18 (by decide) (fun h18 => ?_) (fun h18 => ?_)
      · exact absurd h18 (by decide)
      · refine sw_aload_n dX12_measure_21 rfl (by first | rfl | assumption) ?_
        refine sw_get dX12_measure_22 fr_X12_43 rfl rfl ?_
        refine sw_iload_n dX12_measure_25 rfl ?_
        refine sw_ialdN (k) dX12_measure_26 rfl rfl (show k < 160 by omega) (by decide) ?_
        refine sw_top (y := 2) hk ?_
        refine sw_iconst (x := 2) dX12_measure_27 (by decide) ?_
        refine sw_icmp_eq 41 dX12_measure_28 (by decide) (fun h28 => ?_) (fun h28 => ?_)
        · refine sw_iconst (x := 1) dX12_measure_41 (by decide) ?_
          refine sw_goto 61 dX12_measure_42 (by decide) ?_
          refine sw_top (y := nI 1) rfl ?_
          refine sw_istore_n [(0, _), (1, _), (2, _)] dX12_measure_61 (by decide) rfl ?_
          refine sw_aload_n dX12_measure_62 rfl (by first | rfl | assumption) ?_
          refine sw_get dX12_measure_63 fr_X12_52 rfl rfl ?_
          refine sw_iload_n dX12_measure_66 rfl ?_
          refine sw_ialdN (k) dX12_measure_67 rfl rfl (show k < 160 by omega) (by decide) ?_
          refine sw_top (y := nI (k + 1)) hf ?_
          refine sw_istore_n [(0, _), (1, _), (2, _), (3, _)] dX12_measure_68 (by decide) rfl ?_
          refine sw_iload_n dX12_measure_69 rfl ?_
          refine sw_if_lt 92 dX12_measure_70 (by decide) (fun h70 => ?_) (fun h70 => ?_)
          · exact absurd h70 (i32_nlt0 (by omega))
          · refine sw_iload_n dX12_measure_73 rfl ?_
            refine sw_aload_n dX12_measure_74 rfl (by first | rfl | assumption) ?_
            refine sw_get dX12_measure_75 fr_X12_67 rfl rfl ?_
            refine sw_iload_n dX12_measure_78 rfl ?_
            refine sw_ialdN (k + 1) dX12_measure_79 rfl rfl (show k + 1 < 160 by omega) (by decide) ?_
            refine sw_top (y := nI (szE a)) z1 ?_
            refine sw_iadd dX12_measure_80 ?_
            refine sw_top (y := nI (1 + szE a)) (nI_add _ _) ?_
            refine sw_istore_n [(0, _), (1, _), (2, _), (3, _)] dX12_measure_81 (by decide) rfl ?_
            refine sw_aload_n dX12_measure_82 rfl (by first | rfl | assumption) ?_
            refine sw_get dX12_measure_83 fr_X12_58 rfl rfl ?_
            refine sw_iload_n dX12_measure_86 rfl ?_
            refine sw_ialdN (k + 1) dX12_measure_87 rfl rfl (show k + 1 < 160 by omega) (by decide) ?_
            refine sw_top (y := nI (k + 1 + szE a)) h1 ?_
            refine sw_istore_n [(0, _), (1, _), (2, _), (3, _)] dX12_measure_88 (by decide) rfl ?_
            refine sw_goto 69 dX12_measure_89 (by decide) ?_
            refine sw_iload_n dX12_measure_69 rfl ?_
            refine sw_if_lt 92 dX12_measure_70 (by decide) (fun h70 => ?_) (fun h70 => ?_)
            · exact absurd h70 (i32_nlt0 (by omega))
            · refine sw_iload_n dX12_measure_73 rfl ?_
              refine sw_aload_n dX12_measure_74 rfl (by first | rfl | assumption) ?_
              refine sw_get dX12_measure_75 fr_X12_67 rfl rfl ?_
              refine sw_iload_n dX12_measure_78 rfl ?_
              refine sw_ialdN (k + 1 + szE a) dX12_measure_79 rfl rfl (show k + 1 + szE a < 160 by omega) (by decide) ?_
              refine sw_top (y := nI (szE b)) z2 ?_
              refine sw_iadd dX12_measure_80 ?_
              refine sw_top (y := nI (1 + szE a + szE b)) (nI_add _ _) ?_
              refine sw_istore_n [(0, _), (1, _), (2, _), (3, _)] dX12_measure_81 (by decide) rfl ?_
              refine sw_aload_n dX12_measure_82 rfl (by first | rfl | assumption) ?_
              refine sw_get dX12_measure_83 fr_X12_58 rfl rfl ?_
              refine sw_iload_n dX12_measure_86 rfl ?_
              refine sw_ialdN (k + 1 + szE a) dX12_measure_87 rfl rfl (show k + 1 + szE a < 160 by omega) (by decide) ?_
              refine sw_top (y := -1) h2 ?_
              refine sw_istore_n [(0, _), (1, _), (2, _), (3, _)] dX12_measure_88 (by decide) rfl ?_
              refine sw_goto 69 dX12_measure_89 (by decide) ?_
              refine sw_iload_n dX12_measure_69 rfl ?_
              refine sw_if_lt 92 dX12_measure_70 (by decide) (fun h70 => ?_) (fun h70 => ?_)
              · refine sw_aload_n dX12_measure_92 rfl (by first | rfl | assumption) ?_
                refine sw_get dX12_measure_93 fr_X12_67 rfl rfl ?_
                refine sw_iload_n dX12_measure_96 rfl ?_
                refine sw_iload_n dX12_measure_97 rfl ?_
                refine m_iast (k) dX12_measure_98 ⟨by decide, by decide, rfl⟩ rfl (show k < 160 by omega) rfl ?_
                change SW l D cy mX12_measure d 0 0 0 0 99 _ _ n (md f s (u2 A2 167 (k) (nI (1 + szE a + szE b)))) _ _
                refine sw_dec1 [(0, _), (1, _), (2, _), (3, _)] dX12_measure_99 rfl (by omega) (by decide) rfl ?_
                refine sw_goto 7 dX12_measure_102 (by decide) ?_
                refine sw_keep [0, 1] rfl ?_
                exact kk
              · exact absurd nlt_m1 h70
        · exact absurd rfl h28
set_option maxRecDepth 100000 in
theorem l_mB {l : Launch} {D : va_G} {cy : Nat → ClassId} {d n : Nat} {f : sw_F} {s : Nat → Int32} {Q : sw_Q} {QX : sw_QX} {r : RT} {b : Nat} {A : Nat → Nat → Int32} (hk : A 159 b = 6) (hf : A 162 b = lnk r (b + 1)) (hr : rpR A r (b + 1)) (hm : mzR A r (b + 1)) (hs : b + 1 + szR r ≤ 160) (K : ∀ y : Int32, SW l D cy mX12_measure d 0 0 0 0 99 [(0, .ref 150), (1, .int (nI (b))), (2, .int y), (3, .int (-1))] [] n (md f s (u2 A 167 b (nI (lnR r)))) Q QX) : SW l D cy mX12_measure d 0 0 0 0 7 [(0, .ref 150), (1, .int (nI (b)))] [] n (md f s A) Q QX := by
  refine sw_iload_n dX12_measure_7 rfl ?_
  refine sw_if_lt 105 dX12_measure_8 (by decide) (fun h8 => ?_) (fun h8 => ?_)
  · exact absurd h8 (i32_nlt0 (by omega))
  · refine sw_aload_n dX12_measure_11 rfl (by first | rfl | assumption) ?_
    refine sw_get dX12_measure_12 fr_X12_43 rfl rfl ?_
    refine sw_iload_n dX12_measure_15 rfl ?_
    refine sw_ialdN (b) dX12_measure_16 rfl rfl (show b < 160 by omega) (by decide) ?_
    refine sw_top (y := 6) hk ?_
    refine sw_iconst (x := 2) dX12_measure_17 (by decide) ?_
    refine sw_icmp_lt 41 dX12_measure_18 (by decide) (fun h18 => ?_) (fun h18 => ?_)
    · exact absurd h18 (by decide)
    · refine sw_aload_n dX12_measure_21 rfl (by first | rfl | assumption) ?_
      refine sw_get dX12_measure_22 fr_X12_43 rfl rfl ?_
      refine sw_iload_n dX12_measure_25 rfl ?_
      refine sw_ialdN (b) dX12_measure_26 rfl rfl (show b < 160 by omega) (by decide) ?_
      refine sw_top (y := 6) hk ?_
      refine sw_iconst (x := 2) dX12_measure_27 (by decide) ?_
      refine sw_icmp_eq 41 dX12_measure_28 (by decide) (fun h28 => ?_) (fun h28 => ?_)
      · exact absurd h28 (by decide)
      · refine sw_aload_n dX12_measure_31 rfl (by first | rfl | assumption) ?_
        refine sw_get dX12_measure_32 fr_X12_43 rfl rfl ?_
        refine sw_iload_n dX12_measure_35 rfl ?_
        refine sw_ialdN (b) dX12_measure_36 rfl rfl (show b < 160 by omega) (by decide) ?_
        refine sw_top (y := 6) hk ?_
        refine sw_iconst (x := 3) dX12_measure_37 (by decide) ?_
        refine sw_icmp_ne 45 dX12_measure_38 (by decide) (fun h38 => ?_) (fun h38 => ?_)
        · refine sw_aload_n dX12_measure_45 rfl (by first | rfl | assumption) ?_
          refine sw_get dX12_measure_46 fr_X12_43 rfl rfl ?_
          refine sw_iload_n dX12_measure_49 rfl ?_
          refine sw_ialdN (b) dX12_measure_50 rfl rfl (show b < 160 by omega) (by decide) ?_
          refine sw_top (y := 6) hk ?_
          refine sw_bipush (x := 6) dX12_measure_51 (by decide) ?_
          refine sw_icmp_ne 60 dX12_measure_53 (by decide) (fun h53 => ?_) (fun h53 => ?_)
          · exact absurd rfl h53
          · refine sw_iconst (x := 0) dX12_measure_56 (by decide) ?_
            refine sw_goto 61 dX12_measure_57 (by decide) ?_
            refine sw_top (y := nI 0) rfl ?_
            refine sw_istore_n [(0, _), (1, _), (2, _)] dX12_measure_61 (by decide) rfl ?_
            refine sw_aload_n dX12_measure_62 rfl (by first | rfl | assumption) ?_
            refine sw_get dX12_measure_63 fr_X12_52 rfl rfl ?_
            refine sw_iload_n dX12_measure_66 rfl ?_
            refine sw_ialdN (b) dX12_measure_67 rfl rfl (show b < 160 by omega) (by decide) ?_
            refine sw_top (y := lnk r (b + 1)) hf ?_
            refine sw_istore_n [(0, _), (1, _), (2, _), (3, _)] dX12_measure_68 (by decide) rfl ?_
            refine l_mC r (b + 1) 0 hr hm hs ?_
            refine sw_aload_n dX12_measure_92 rfl (by first | rfl | assumption) ?_
            refine sw_get dX12_measure_93 fr_X12_67 rfl rfl ?_
            refine sw_iload_n dX12_measure_96 rfl ?_
            refine sw_iload_n dX12_measure_97 rfl ?_
            refine m_iast (b) dX12_measure_98 ⟨by decide, by decide, rfl⟩ rfl (show b < 160 by omega) rfl ?_
            rw [Nat.zero_add]
            exact K _
        · exact absurd h38 (by decide)
set_option maxRecDepth 100000 in
theorem l_mR {l : Launch} {D : va_G} {cy : Nat → ClassId} {d n : Nat} {f : sw_F} {s : Nat → Int32} {Q : sw_Q} {QX : sw_QX} : ∀ (t : RT) (k : Nat) (A : Nat → Nat → Int32), rpR A t k → wfR t → 0 < k → k + szR t ≤ 160 → (∀ A', (∀ q, ¬ q = 167 → A' q = A q) → (∀ i, i < k ∨ k + szR t ≤ i → A' 167 i = A 167 i) → mzR A' t k → SW l D cy mX12_measure d 0 0 0 0 7 [(0, .ref 150), (1, .int (nI (k - 1)))] [] n (md f s A') Q QX) → SW l D cy mX12_measure d 0 0 0 0 7 [(0, .ref 150), (1, .int (nI (k + szR t - 1)))] [] n (md f s A) Q QX
  | .leaf _, k, A, r, wf, hk0, hs, K => K A (fun _ _ => rfl) (fun _ _ => rfl) True.intro
  | .branch v (.leaf e) R, k, A, r, wf, hk0, hs, K => by
    obtain ⟨⟨⟨r1, r2, r3, r4, r5⟩, r6⟩, r7, r8⟩ := r
    rw [szR] at hs K ⊢
    have se := szE_pos e
    rw [show k + (1 + szE e + szR R) - 1 = k + 1 + szE e + szR R - 1 by omega]
    refine l_mR R (k + 1 + szE e) A r8 wf.2.2 (by omega) (by omega) (fun A1 f1 g1 m1 => ?_)
    refine l_mE e (k + 1) A1 (rpE_f (fun q h1 h2 => f1 q (by omega)) e _ r5) wf.2.1 (by omega) (by omega) (fun A2 f2 g2 m2 => ?_)
    show SW l D cy mX12_measure d 0 0 0 0 7 [(0, .ref 150), (1, .int (nI (k)))] [] n (md f s A2) Q QX
    have hk : A2 159 k = 3 := by rw [f2 _ (by decide), f1 _ (by decide)]; exact r1
    have hf : A2 162 k = nI (k + 1) := by rw [f2 _ (by decide), f1 _ (by decide)]; exact r2
    have h1 : A2 164 (k + 1) = -1 := by rw [f2 _ (by decide), f1 _ (by decide)]; exact r3
    have z1 : A2 167 (k + 1) = nI (szE e) := mzE_s m2
    have kk := K (u2 A2 167 k (nI (1 + szE e))) (fun q hq => by rw [u2_q _ _ hq, f2 q hq, f1 q hq]) (fun i hi => by rw [u2_at, if_neg (by omega), g2 i (by omega), g1 i (by omega)])
      ⟨⟨by rw [u2_at, if_pos ⟨rfl, rfl⟩, Nat.add_comm], mzE_cg e _ (fun i y1 y2 => by rw [u2_at, if_neg (by omega)]) m2⟩, mzR_cg R _ (fun i y1 y2 => by rw [u2_at, if_neg (by omega), g2 i (by omega)]) m1⟩
    refine sw_iload_n dX12_measure_7 rfl ?_
    refine sw_if_lt 105 dX12_measure_8 (by decide) (fun h8 => ?_) (fun h8 => ?_)
    · exact absurd h8 (i32_nlt0 (by omega))
    · refine sw_aload_n dX12_measure_11 rfl (by first | rfl | assumption) ?_
      refine sw_get dX12_measure_12 fr_X12_43 rfl rfl ?_
      refine sw_iload_n dX12_measure_15 rfl ?_
      refine sw_ialdN (k) dX12_measure_16 rfl rfl (show k < 160 by omega) (by decide) ?_
      refine sw_top (y := 3) hk ?_
      refine sw_iconst (x := 2) dX12_measure_17 (by decide) ?_
      refine sw_icmp_lt 41 dX12_measure_18 (by decide) (fun h18 => ?_) (fun h18 => ?_)
      · exact absurd h18 (by decide)
      · refine sw_aload_n dX12_measure_21 rfl (by first | rfl | assumption) ?_
        refine sw_get dX12_measure_22 fr_X12_43 rfl rfl ?_
        refine sw_iload_n dX12_measure_25 rfl ?_
        refine sw_ialdN (k) dX12_measure_26 rfl rfl (show k < 160 by omega) (by decide) ?_
        refine sw_top (y := 3) hk ?_
        refine sw_iconst (x := 2) dX12_measure_27 (by decide) ?_
        refine sw_icmp_eq 41 dX12_measure_28 (by decide) (fun h28 => ?_) (fun h28 => ?_)
        · exact absurd h28 (by decide)
        · refine sw_aload_n dX12_measure_31 rfl (by first | rfl | assumption) ?_
          refine sw_get dX12_measure_32 fr_X12_43 rfl rfl ?_
          refine sw_iload_n dX12_measure_35 rfl ?_
          refine sw_ialdN (k) dX12_measure_36 rfl rfl (show k < 160 by omega) (by decide) ?_
          refine sw_top (y := 3) hk ?_
          refine sw_iconst (x := 3) dX12_measure_37 (by decide) ?_
          refine sw_icmp_ne 45 dX12_measure_38 (by decide) (fun h38 => ?_) (fun h38 => ?_)
          · exact absurd rfl h38
          · refine sw_iconst (x := 1) dX12_measure_41 (by decide) ?_
            refine sw_goto 61 dX12_measure_42 (by decide) ?_
            refine sw_top (y := nI 1) rfl ?_
            refine sw_istore_n [(0, _), (1, _), (2, _)] dX12_measure_61 (by decide) rfl ?_
            refine sw_aload_n dX12_measure_62 rfl (by first | rfl | assumption) ?_
            refine sw_get dX12_measure_63 fr_X12_52 rfl rfl ?_
            refine sw_iload_n dX12_measure_66 rfl ?_
            refine sw_ialdN (k) dX12_measure_67 rfl rfl (show k < 160 by omega) (by decide) ?_
            refine sw_top (y := nI (k + 1)) hf ?_
            refine sw_istore_n [(0, _), (1, _), (2, _), (3, _)] dX12_measure_68 (by decide) rfl ?_
            refine sw_iload_n dX12_measure_69 rfl ?_
            refine sw_if_lt 92 dX12_measure_70 (by decide) (fun h70 => ?_) (fun h70 => ?_)
            · exact absurd h70 (i32_nlt0 (by omega))
            · refine sw_iload_n dX12_measure_73 rfl ?_
              refine sw_aload_n dX12_measure_74 rfl (by first | rfl | assumption) ?_
              refine sw_get dX12_measure_75 fr_X12_67 rfl rfl ?_
              refine sw_iload_n dX12_measure_78 rfl ?_
              refine sw_ialdN (k + 1) dX12_measure_79 rfl rfl (show k + 1 < 160 by omega) (by decide) ?_
              refine sw_top (y := nI (szE e)) z1 ?_
              refine sw_iadd dX12_measure_80 ?_
              refine sw_top (y := nI (1 + szE e)) (nI_add _ _) ?_
              refine sw_istore_n [(0, _), (1, _), (2, _), (3, _)] dX12_measure_81 (by decide) rfl ?_
              refine sw_aload_n dX12_measure_82 rfl (by first | rfl | assumption) ?_
              refine sw_get dX12_measure_83 fr_X12_58 rfl rfl ?_
              refine sw_iload_n dX12_measure_86 rfl ?_
              refine sw_ialdN (k + 1) dX12_measure_87 rfl rfl (show k + 1 < 160 by omega) (by decide) ?_
              refine sw_top (y := -1) h1 ?_
              refine sw_istore_n [(0, _), (1, _), (2, _), (3, _)] dX12_measure_88 (by decide) rfl ?_
              refine sw_goto 69 dX12_measure_89 (by decide) ?_
              refine sw_iload_n dX12_measure_69 rfl ?_
              refine sw_if_lt 92 dX12_measure_70 (by decide) (fun h70 => ?_) (fun h70 => ?_)
              · refine sw_aload_n dX12_measure_92 rfl (by first | rfl | assumption) ?_
                refine sw_get dX12_measure_93 fr_X12_67 rfl rfl ?_
                refine sw_iload_n dX12_measure_96 rfl ?_
                refine sw_iload_n dX12_measure_97 rfl ?_
                refine m_iast (k) dX12_measure_98 ⟨by decide, by decide, rfl⟩ rfl (show k < 160 by omega) rfl ?_
                change SW l D cy mX12_measure d 0 0 0 0 99 _ _ n (md f s (u2 A2 167 (k) (nI (1 + szE e)))) _ _
                refine sw_dec1 [(0, _), (1, _), (2, _), (3, _)] dX12_measure_99 rfl (by omega) (by decide) rfl ?_
                refine sw_goto 7 dX12_measure_102 (by decide) ?_
                refine sw_keep [0, 1] rfl ?_
                exact kk
              · exact absurd nlt_m1 h70
  | .branch _ (.branch _ (.leaf e) x) R, k, A, r, wf, hk0, hs, K => by
    obtain ⟨⟨⟨r1, r2, r3, r4, r5⟩, ⟨s1, s2, s3⟩, s4⟩, r7, r8⟩ := r
    rw [szR] at hs K ⊢
    have se := szE_pos e
    rw [show k + (1 + szE e + (1 + szR x) + szR R) - 1 = k + 1 + szE e + 1 + szR x + szR R - 1 by omega]
    refine l_mR R (k + 1 + szE e + 1 + szR x) A r8 wf.2.2 (by omega) (by omega) (fun A1 f1 g1 m1 => ?_)
    refine l_mR x (k + 1 + szE e + 1) A1 (rpR_f (fun q h1 h2 => f1 q (by omega)) x _ s4) wf.2.1 (by omega) (by omega) (fun A2 f2 g2 m2 => ?_)
    refine l_mB (r := x) (b := k + 1 + szE e) (by rw [f2 _ (by decide), f1 _ (by decide)]; exact s1) (by rw [f2 _ (by decide), f1 _ (by decide)]; exact s2) (rpR_f (fun q h1 h2 => by rw [f2 q (by omega), f1 q (by omega)]) x _ s4) m2 (by omega) (fun yy => ?_)
    refine sw_dec1 [(0, _), (1, _), (2, _), (3, _)] dX12_measure_99 rfl (by omega) (by decide) rfl ?_
    refine sw_goto 7 dX12_measure_102 (by decide) ?_
    refine sw_keep [0, 1] rfl ?_
    skip
    refine l_mE e (k + 1) _ (rpE_f (fun q h1 h2 => by rw [u2_q _ _ (by omega), f2 q (by omega), f1 q (by omega)]) e _ r5) wf.1 (by omega) (by omega) (fun A3 f3 g3 m3 => ?_)
    have f4 : ∀ q, ¬ q = 167 → A3 q = A q := fun q hq => by rw [f3 q hq, u2_q _ _ hq, f2 q hq, f1 q hq]
    show SW l D cy mX12_measure d 0 0 0 0 7 [(0, .ref 150), (1, .int (nI (k)))] [] n (md f s A3) Q QX
    have hk : A3 159 k = 5 := by rw [f4 _ (by decide)]; exact r1
    have hf : A3 162 k = nI (k + 1) := by rw [f4 _ (by decide)]; exact r2
    have h1 : A3 164 (k + 1) = nI (k + 1 + szE e) := by rw [f4 _ (by decide)]; exact r3
    have h2 : A3 164 (k + 1 + szE e) = -1 := by rw [f4 _ (by decide)]; exact s3
    have z1 : A3 167 (k + 1) = nI (szE e) := mzE_s m3
    have z2 : A3 167 (k + 1 + szE e) = nI (lnR x) := by rw [g3 _ (by omega), u2_at, if_pos ⟨rfl, rfl⟩]
    have kk := K (u2 A3 167 k (nI (2 + szE e + lnR x))) (fun q hq => by rw [u2_q _ _ hq, f4 q hq]) (fun i hi => by rw [u2_at, if_neg (by omega), g3 i (by omega), u2_at, if_neg (by omega), g2 i (by omega), g1 i (by omega)])
      ⟨⟨by rw [u2_at, if_pos ⟨rfl, rfl⟩, show 2 + szE e + lnR x = szE e + 1 + lnR x + 1 by omega], mzE_cg e _ (fun i y1 y2 => by rw [u2_at, if_neg (by omega)]) m3, by rw [u2_at, if_neg (by omega)]; exact z2, mzR_cg x _ (fun i y1 y2 => by rw [u2_at, if_neg (by omega), g3 i (by omega), u2_at, if_neg (by omega)]) m2⟩, mzR_cg R _ (fun i y1 y2 => by rw [u2_at, if_neg (by omega), g3 i (by omega), u2_at, if_neg (by omega), g2 i (by omega)]) m1⟩
    refine sw_iload_n dX12_measure_7 rfl ?_
    refine sw_if_lt 105 dX12_measure_8 (by decide) (fun h8 => ?_) (fun h8 => ?_)
    · exact absurd h8 (i32_nlt0 (by omega))
    · refine sw_aload_n dX12_measure_11 rfl (by first | rfl | assumption) ?_
      refine sw_get dX12_measure_12 fr_X12_43 rfl rfl ?_
      refine sw_iload_n dX12_measure_15 rfl ?_
      refine sw_ialdN (k) dX12_measure_16 rfl rfl (show k < 160 by omega) (by decide) ?_
      refine sw_top (y := 5) hk ?_
      refine sw_iconst (x := 2) dX12_measure_17 (by decide) ?_
      refine sw_icmp_lt 41 dX12_measure_18 (by decide) (fun h18 => ?_) (fun h18 => ?_)
      · exact absurd h18 (by decide)
      · refine sw_aload_n dX12_measure_21 rfl (by first | rfl | assumption) ?_
        refine sw_get dX12_measure_22 fr_X12_43 rfl rfl ?_
        refine sw_iload_n dX12_measure_25 rfl ?_
        refine sw_ialdN (k) dX12_measure_26 rfl rfl (show k < 160 by omega) (by decide) ?_
        refine sw_top (y := 5) hk ?_
        refine sw_iconst (x := 2) dX12_measure_27 (by decide) ?_
        refine sw_icmp_eq 41 dX12_measure_28 (by decide) (fun h28 => ?_) (fun h28 => ?_)
        · exact absurd h28 (by decide)
        · refine sw_aload_n dX12_measure_31 rfl (by first | rfl | assumption) ?_
          refine sw_get dX12_measure_32 fr_X12_43 rfl rfl ?_
          refine sw_iload_n dX12_measure_35 rfl ?_
          refine sw_ialdN (k) dX12_measure_36 rfl rfl (show k < 160 by omega) (by decide) ?_
          refine sw_top (y := 5) hk ?_
          refine sw_iconst (x := 3) dX12_measure_37 (by decide) ?_
          refine sw_icmp_ne 45 dX12_measure_38 (by decide) (fun h38 => ?_) (fun h38 => ?_)
          · refine sw_aload_n dX12_measure_45 rfl (by first | rfl | assumption) ?_
            refine sw_get dX12_measure_46 fr_X12_43 rfl rfl ?_
            refine sw_iload_n dX12_measure_49 rfl ?_
            refine sw_ialdN (k) dX12_measure_50 rfl rfl (show k < 160 by omega) (by decide) ?_
            refine sw_top (y := 5) hk ?_
            refine sw_bipush (x := 6) dX12_measure_51 (by decide) ?_
            refine sw_icmp_ne 60 dX12_measure_53 (by decide) (fun h53 => ?_) (fun h53 => ?_)
            · refine sw_iconst (x := 2) dX12_measure_60 (by decide) ?_
              refine sw_top (y := nI 2) rfl ?_
              refine sw_istore_n [(0, _), (1, _), (2, _)] dX12_measure_61 (by decide) rfl ?_
              refine sw_aload_n dX12_measure_62 rfl (by first | rfl | assumption) ?_
              refine sw_get dX12_measure_63 fr_X12_52 rfl rfl ?_
              refine sw_iload_n dX12_measure_66 rfl ?_
              refine sw_ialdN (k) dX12_measure_67 rfl rfl (show k < 160 by omega) (by decide) ?_
              refine sw_top (y := nI (k + 1)) hf ?_
              refine sw_istore_n [(0, _), (1, _), (2, _), (3, _)] dX12_measure_68 (by decide) rfl ?_
              refine sw_iload_n dX12_measure_69 rfl ?_
              refine sw_if_lt 92 dX12_measure_70 (by decide) (fun h70 => ?_) (fun h70 => ?_)
              · exact absurd h70 (i32_nlt0 (by omega))
              · refine sw_iload_n dX12_measure_73 rfl ?_
                refine sw_aload_n dX12_measure_74 rfl (by first | rfl | assumption) ?_
                refine sw_get dX12_measure_75 fr_X12_67 rfl rfl ?_
                refine sw_iload_n dX12_measure_78 rfl ?_
                refine sw_ialdN (k + 1) dX12_measure_79 rfl rfl (show k + 1 < 160 by omega) (by decide) ?_
                refine sw_top (y := nI (szE e)) z1 ?_
                refine sw_iadd dX12_measure_80 ?_
                refine sw_top (y := nI (2 + szE e)) (nI_add _ _) ?_
                refine sw_istore_n [(0, _), (1, _), (2, _), (3, _)] dX12_measure_81 (by decide) rfl ?_
                refine sw_aload_n dX12_measure_82 rfl (by first | rfl | assumption) ?_
                refine sw_get dX12_measure_83 fr_X12_58 rfl rfl ?_
                refine sw_iload_n dX12_measure_86 rfl ?_
                refine sw_ialdN (k + 1) dX12_measure_87 rfl rfl (show k + 1 < 160 by omega) (by decide) ?_
                refine sw_top (y := nI (k + 1 + szE e)) h1 ?_
                refine sw_istore_n [(0, _), (1, _), (2, _), (3, _)] dX12_measure_88 (by decide) rfl ?_
                refine sw_goto 69 dX12_measure_89 (by decide) ?_
                refine sw_iload_n dX12_measure_69 rfl ?_
                refine sw_if_lt 92 dX12_measure_70 (by decide) (fun h70 => ?_) (fun h70 => ?_)
                · exact absurd h70 (i32_nlt0 (by omega))
                · refine sw_iload_n dX12_measure_73 rfl ?_
                  refine sw_aload_n dX12_measure_74 rfl (by first | rfl | assumption) ?_
                  refine sw_get dX12_measure_75 fr_X12_67 rfl rfl ?_
                  refine sw_iload_n dX12_measure_78 rfl ?_
                  refine sw_ialdN (k + 1 + szE e) dX12_measure_79 rfl rfl (show k + 1 + szE e < 160 by omega) (by decide) ?_
                  refine sw_top (y := nI (lnR x)) z2 ?_
                  refine sw_iadd dX12_measure_80 ?_
                  refine sw_top (y := nI (2 + szE e + lnR x)) (nI_add _ _) ?_
                  refine sw_istore_n [(0, _), (1, _), (2, _), (3, _)] dX12_measure_81 (by decide) rfl ?_
                  refine sw_aload_n dX12_measure_82 rfl (by first | rfl | assumption) ?_
                  refine sw_get dX12_measure_83 fr_X12_58 rfl rfl ?_
                  refine sw_iload_n dX12_measure_86 rfl ?_
                  refine sw_ialdN (k + 1 + szE e) dX12_measure_87 rfl rfl (show k + 1 + szE e < 160 by omega) (by decide) ?_
                  refine sw_top (y := -1) h2 ?_
                  refine sw_istore_n [(0, _), (1, _), (2, _), (3, _)] dX12_measure_88 (by decide) rfl ?_
                  refine sw_goto 69 dX12_measure_89 (by decide) ?_
                  refine sw_iload_n dX12_measure_69 rfl ?_
                  refine sw_if_lt 92 dX12_measure_70 (by decide) (fun h70 => ?_) (fun h70 => ?_)
                  · refine sw_aload_n dX12_measure_92 rfl (by first | rfl | assumption) ?_
                    refine sw_get dX12_measure_93 fr_X12_67 rfl rfl ?_
                    refine sw_iload_n dX12_measure_96 rfl ?_
                    refine sw_iload_n dX12_measure_97 rfl ?_
                    refine m_iast (k) dX12_measure_98 ⟨by decide, by decide, rfl⟩ rfl (show k < 160 by omega) rfl ?_
                    change SW l D cy mX12_measure d 0 0 0 0 99 _ _ n (md f s (u2 A3 167 (k) (nI (2 + szE e + lnR x)))) _ _
                    refine sw_dec1 [(0, _), (1, _), (2, _), (3, _)] dX12_measure_99 rfl (by omega) (by decide) rfl ?_
                    refine sw_goto 7 dX12_measure_102 (by decide) ?_
                    refine sw_keep [0, 1] rfl ?_
                    exact kk
                  · exact absurd nlt_m1 h70
            · exact absurd h53 (by decide)
          · exact absurd h38 (by decide)
  | .branch _ (.branch _ (.branch _ (.leaf e) x) y) R, k, A, r, wf, hk0, hs, K => by
    obtain ⟨⟨⟨r1, r2, r3, r4, r5⟩, ⟨s1, s2, s3⟩, s4, ⟨t1, t2, t3⟩, t4⟩, r7, r8⟩ := r
    rw [szR] at hs K ⊢
    have se := szE_pos e
    rw [show k + (1 + szE e + (1 + szR x) + (1 + szR y) + szR R) - 1 = k + 1 + szE e + 1 + szR x + 1 + szR y + szR R - 1 by omega]
    refine l_mR R (k + 1 + szE e + 1 + szR x + 1 + szR y) A r8 wf.2.2.2 (by omega) (by omega) (fun A1 f1 g1 m1 => ?_)
    refine l_mR y (k + 1 + szE e + 1 + szR x + 1) A1 (rpR_f (fun q h1 h2 => f1 q (by omega)) y _ t4) wf.2.2.1 (by omega) (by omega) (fun A2 f2 g2 m2 => ?_)
    refine l_mB (r := y) (b := k + 1 + szE e + 1 + szR x) (by rw [f2 _ (by decide), f1 _ (by decide)]; exact t1) (by rw [f2 _ (by decide), f1 _ (by decide)]; exact t2) (rpR_f (fun q h1 h2 => by rw [f2 q (by omega), f1 q (by omega)]) y _ t4) m2 (by omega) (fun yy => ?_)
    refine sw_dec1 [(0, _), (1, _), (2, _), (3, _)] dX12_measure_99 rfl (by omega) (by decide) rfl ?_
    refine sw_goto 7 dX12_measure_102 (by decide) ?_
    refine sw_keep [0, 1] rfl ?_
    skip
    refine l_mR x (k + 1 + szE e + 1) _ (rpR_f (fun q h1 h2 => by rw [u2_q _ _ (by omega), f2 q (by omega), f1 q (by omega)]) x _ s4) wf.2.1 (by omega) (by omega) (fun A3 f3 g3 m3 => ?_)
    have f5 : ∀ q, ¬ q = 167 → A3 q = A q := fun q hq => by rw [f3 q hq, u2_q _ _ hq, f2 q hq, f1 q hq]
    refine l_mB (r := x) (b := k + 1 + szE e) (by rw [f5 _ (by decide)]; exact s1) (by rw [f5 _ (by decide)]; exact s2) (rpR_f (fun q h1 h2 => f5 q (by omega)) x _ s4) m3 (by omega) (fun yy => ?_)
    refine sw_dec1 [(0, _), (1, _), (2, _), (3, _)] dX12_measure_99 rfl (by omega) (by decide) rfl ?_
    refine sw_goto 7 dX12_measure_102 (by decide) ?_
    refine sw_keep [0, 1] rfl ?_
    skip
    refine l_mE e (k + 1) _ (rpE_f (fun q h1 h2 => by rw [u2_q _ _ (by omega), f5 q (by omega)]) e _ r5) wf.1 (by omega) (by omega) (fun A4 f4 g4 m4 => ?_)
    have f6 : ∀ q, ¬ q = 167 → A4 q = A q := fun q hq => by rw [f4 q hq, u2_q _ _ hq, f5 q hq]
    show SW l D cy mX12_measure d 0 0 0 0 7 [(0, .ref 150), (1, .int (nI (k)))] [] n (md f s A4) Q QX
    have hk : A4 159 k = 4 := by rw [f6 _ (by decide)]; exact r1
    have hf : A4 162 k = nI (k + 1) := by rw [f6 _ (by decide)]; exact r2
    have h1 : A4 164 (k + 1) = nI (k + 1 + szE e) := by rw [f6 _ (by decide)]; exact r3
    have h2 : A4 164 (k + 1 + szE e) = nI (k + 1 + szE e + 1 + szR x) := by rw [f6 _ (by decide)]; exact s3
    have h3 : A4 164 (k + 1 + szE e + 1 + szR x) = -1 := by rw [f6 _ (by decide)]; exact t3
    have z1 : A4 167 (k + 1) = nI (szE e) := mzE_s m4
    have z2 : A4 167 (k + 1 + szE e) = nI (lnR x) := by rw [g4 _ (by omega), u2_at, if_pos ⟨rfl, rfl⟩]
    have z3 : A4 167 (k + 1 + szE e + 1 + szR x) = nI (lnR y) := by rw [g4 _ (by omega), u2_at, if_neg (by omega), g3 _ (by omega), u2_at, if_pos ⟨rfl, rfl⟩]
    have kk := K (u2 A4 167 k (nI (2 + szE e + lnR x + lnR y))) (fun q hq => by rw [u2_q _ _ hq, f6 q hq]) (fun i hi => by rw [u2_at, if_neg (by omega), g4 i (by omega), u2_at, if_neg (by omega), g3 i (by omega), u2_at, if_neg (by omega), g2 i (by omega), g1 i (by omega)])
      ⟨⟨by rw [u2_at, if_pos ⟨rfl, rfl⟩, show 2 + szE e + lnR x + lnR y = szE e + 1 + lnR x + 1 + lnR y by omega], mzE_cg e _ (fun i y1 y2 => by rw [u2_at, if_neg (by omega)]) m4, by rw [u2_at, if_neg (by omega)]; exact z2, mzR_cg x _ (fun i y1 y2 => by rw [u2_at, if_neg (by omega), g4 i (by omega), u2_at, if_neg (by omega)]) m3, by rw [u2_at, if_neg (by omega)]; exact z3, mzR_cg y _ (fun i y1 y2 => by rw [u2_at, if_neg (by omega), g4 i (by omega), u2_at, if_neg (by omega), g3 i (by omega), u2_at, if_neg (by omega)]) m2⟩, mzR_cg R _ (fun i y1 y2 => by rw [u2_at, if_neg (by omega), g4 i (by omega), u2_at, if_neg (by omega), g3 i (by omega), u2_at, if_neg (by omega), g2 i (by omega)]) m1⟩
    refine sw_iload_n dX12_measure_7 rfl ?_
    refine sw_if_lt 105 dX12_measure_8 (by decide) (fun h8 => ?_) (fun h8 => ?_)
    · exact absurd h8 (i32_nlt0 (by omega))
    · refine sw_aload_n dX12_measure_11 rfl (by first | rfl | assumption) ?_
      refine sw_get dX12_measure_12 fr_X12_43 rfl rfl ?_
      refine sw_iload_n dX12_measure_15 rfl ?_
      refine sw_ialdN (k) dX12_measure_16 rfl rfl (show k < 160 by omega) (by decide) ?_
      refine sw_top (y := 4) hk ?_
      refine sw_iconst (x := 2) dX12_measure_17 (by decide) ?_
      refine sw_icmp_lt 41 dX12_measure_18 (by decide) (fun h18 => ?_) (fun h18 => ?_)
      · exact absurd h18 (by decide)
      · refine sw_aload_n dX12_measure_21 rfl (by first | rfl | assumption) ?_
        refine sw_get dX12_measure_22 fr_X12_43 rfl rfl ?_
        refine sw_iload_n dX12_measure_25 rfl ?_
        refine sw_ialdN (k) dX12_measure_26 rfl rfl (show k < 160 by omega) (by decide) ?_
        refine sw_top (y := 4) hk ?_
        refine sw_iconst (x := 2) dX12_measure_27 (by decide) ?_
        refine sw_icmp_eq 41 dX12_measure_28 (by decide) (fun h28 => ?_) (fun h28 => ?_)
        · exact absurd h28 (by decide)
        · refine sw_aload_n dX12_measure_31 rfl (by first | rfl | assumption) ?_
          refine sw_get dX12_measure_32 fr_X12_43 rfl rfl ?_
          refine sw_iload_n dX12_measure_35 rfl ?_
          refine sw_ialdN (k) dX12_measure_36 rfl rfl (show k < 160 by omega) (by decide) ?_
          refine sw_top (y := 4) hk ?_
          refine sw_iconst (x := 3) dX12_measure_37 (by decide) ?_
          refine sw_icmp_ne 45 dX12_measure_38 (by decide) (fun h38 => ?_) (fun h38 => ?_)
          · refine sw_aload_n dX12_measure_45 rfl (by first | rfl | assumption) ?_
            refine sw_get dX12_measure_46 fr_X12_43 rfl rfl ?_
            refine sw_iload_n dX12_measure_49 rfl ?_
            refine sw_ialdN (k) dX12_measure_50 rfl rfl (show k < 160 by omega) (by decide) ?_
            refine sw_top (y := 4) hk ?_
            refine sw_bipush (x := 6) dX12_measure_51 (by decide) ?_
            refine sw_icmp_ne 60 dX12_measure_53 (by decide) (fun h53 => ?_) (fun h53 => ?_)
            · refine sw_iconst (x := 2) dX12_measure_60 (by decide) ?_
              refine sw_top (y := nI 2) rfl ?_
              refine sw_istore_n [(0, _), (1, _), (2, _)] dX12_measure_61 (by decide) rfl ?_
              refine sw_aload_n dX12_measure_62 rfl (by first | rfl | assumption) ?_
              refine sw_get dX12_measure_63 fr_X12_52 rfl rfl ?_
              refine sw_iload_n dX12_measure_66 rfl ?_
              refine sw_ialdN (k) dX12_measure_67 rfl rfl (show k < 160 by omega) (by decide) ?_
              refine sw_top (y := nI (k + 1)) hf ?_
              refine sw_istore_n [(0, _), (1, _), (2, _), (3, _)] dX12_measure_68 (by decide) rfl ?_
              refine sw_iload_n dX12_measure_69 rfl ?_
              refine sw_if_lt 92 dX12_measure_70 (by decide) (fun h70 => ?_) (fun h70 => ?_)
              · exact absurd h70 (i32_nlt0 (by omega))
              · refine sw_iload_n dX12_measure_73 rfl ?_
                refine sw_aload_n dX12_measure_74 rfl (by first | rfl | assumption) ?_
                refine sw_get dX12_measure_75 fr_X12_67 rfl rfl ?_
                refine sw_iload_n dX12_measure_78 rfl ?_
                refine sw_ialdN (k + 1) dX12_measure_79 rfl rfl (show k + 1 < 160 by omega) (by decide) ?_
                refine sw_top (y := nI (szE e)) z1 ?_
                refine sw_iadd dX12_measure_80 ?_
                refine sw_top (y := nI (2 + szE e)) (nI_add _ _) ?_
                refine sw_istore_n [(0, _), (1, _), (2, _), (3, _)] dX12_measure_81 (by decide) rfl ?_
                refine sw_aload_n dX12_measure_82 rfl (by first | rfl | assumption) ?_
                refine sw_get dX12_measure_83 fr_X12_58 rfl rfl ?_
                refine sw_iload_n dX12_measure_86 rfl ?_
                refine sw_ialdN (k + 1) dX12_measure_87 rfl rfl (show k + 1 < 160 by omega) (by decide) ?_
                refine sw_top (y := nI (k + 1 + szE e)) h1 ?_
                refine sw_istore_n [(0, _), (1, _), (2, _), (3, _)] dX12_measure_88 (by decide) rfl ?_
                refine sw_goto 69 dX12_measure_89 (by decide) ?_
                refine sw_iload_n dX12_measure_69 rfl ?_
                refine sw_if_lt 92 dX12_measure_70 (by decide) (fun h70 => ?_) (fun h70 => ?_)
                · exact absurd h70 (i32_nlt0 (by omega))
                · refine sw_iload_n dX12_measure_73 rfl ?_
                  refine sw_aload_n dX12_measure_74 rfl (by first | rfl | assumption) ?_
                  refine sw_get dX12_measure_75 fr_X12_67 rfl rfl ?_
                  refine sw_iload_n dX12_measure_78 rfl ?_
                  refine sw_ialdN (k + 1 + szE e) dX12_measure_79 rfl rfl (show k + 1 + szE e < 160 by omega) (by decide) ?_
                  refine sw_top (y := nI (lnR x)) z2 ?_
                  refine sw_iadd dX12_measure_80 ?_
                  refine sw_top (y := nI (2 + szE e + lnR x)) (nI_add _ _) ?_
                  refine sw_istore_n [(0, _), (1, _), (2, _), (3, _)] dX12_measure_81 (by decide) rfl ?_
                  refine sw_aload_n dX12_measure_82 rfl (by first | rfl | assumption) ?_
                  refine sw_get dX12_measure_83 fr_X12_58 rfl rfl ?_
                  refine sw_iload_n dX12_measure_86 rfl ?_
                  refine sw_ialdN (k + 1 + szE e) dX12_measure_87 rfl rfl (show k + 1 + szE e < 160 by omega) (by decide) ?_
                  refine sw_top (y := nI (k + 1 + szE e + 1 + szR x)) h2 ?_
                  refine sw_istore_n [(0, _), (1, _), (2, _), (3, _)] dX12_measure_88 (by decide) rfl ?_
                  refine sw_goto 69 dX12_measure_89 (by decide) ?_
                  refine sw_iload_n dX12_measure_69 rfl ?_
                  refine sw_if_lt 92 dX12_measure_70 (by decide) (fun h70 => ?_) (fun h70 => ?_)
                  · exact absurd h70 (i32_nlt0 (by omega))
                  · refine sw_iload_n dX12_measure_73 rfl ?_
                    refine sw_aload_n dX12_measure_74 rfl (by first | rfl | assumption) ?_
                    refine sw_get dX12_measure_75 fr_X12_67 rfl rfl ?_
                    refine sw_iload_n dX12_measure_78 rfl ?_
                    refine sw_ialdN (k + 1 + szE e + 1 + szR x) dX12_measure_79 rfl rfl (show k + 1 + szE e + 1 + szR x < 160 by omega) (by decide) ?_
                    refine sw_top (y := nI (lnR y)) z3 ?_
                    refine sw_iadd dX12_measure_80 ?_
                    refine sw_top (y := nI (2 + szE e + lnR x + lnR y)) (nI_add _ _) ?_
                    refine sw_istore_n [(0, _), (1, _), (2, _), (3, _)] dX12_measure_81 (by decide) rfl ?_
                    refine sw_aload_n dX12_measure_82 rfl (by first | rfl | assumption) ?_
                    refine sw_get dX12_measure_83 fr_X12_58 rfl rfl ?_
                    refine sw_iload_n dX12_measure_86 rfl ?_
                    refine sw_ialdN (k + 1 + szE e + 1 + szR x) dX12_measure_87 rfl rfl (show k + 1 + szE e + 1 + szR x < 160 by omega) (by decide) ?_
                    refine sw_top (y := -1) h3 ?_
                    refine sw_istore_n [(0, _), (1, _), (2, _), (3, _)] dX12_measure_88 (by decide) rfl ?_
                    refine sw_goto 69 dX12_measure_89 (by decide) ?_
                    refine sw_iload_n dX12_measure_69 rfl ?_
                    refine sw_if_lt 92 dX12_measure_70 (by decide) (fun h70 => ?_) (fun h70 => ?_)
                    · refine sw_aload_n dX12_measure_92 rfl (by first | rfl | assumption) ?_
                      refine sw_get dX12_measure_93 fr_X12_67 rfl rfl ?_
                      refine sw_iload_n dX12_measure_96 rfl ?_
                      refine sw_iload_n dX12_measure_97 rfl ?_
                      refine m_iast (k) dX12_measure_98 ⟨by decide, by decide, rfl⟩ rfl (show k < 160 by omega) rfl ?_
                      change SW l D cy mX12_measure d 0 0 0 0 99 _ _ n (md f s (u2 A4 167 (k) (nI (2 + szE e + lnR x + lnR y)))) _ _
                      refine sw_dec1 [(0, _), (1, _), (2, _), (3, _)] dX12_measure_99 rfl (by omega) (by decide) rfl ?_
                      refine sw_goto 7 dX12_measure_102 (by decide) ?_
                      refine sw_keep [0, 1] rfl ?_
                      exact kk
                    · exact absurd nlt_m1 h70
            · exact absurd h53 (by decide)
          · exact absurd h38 (by decide)
  | .branch _ (.branch _ (.branch _ (.branch _ _ _) _) _) _, k, A, r, wf, hk0, hs, K => r.elim
set_option maxRecDepth 100000 in
theorem c_X12_measure {l : Launch} {D : va_G} {cy : Nat → ClassId} {d n : Nat} {f : sw_F} {s : Nat → Int32} {A : Nat → Nat → Int32} {t : RT} (hP : s 15 = nI (1 + szR t)) (hs : 1 + szR t ≤ 160) (wf : wfR t) (hk : A 159 0 = 6) (hf : A 162 0 = lnk t 1) (hr : rpR A t 1) : sw_Ct l D cy mX12_measure d 0 0 [.ref 150] n (md f s A) (fun r n' f' => r = none ∧ n' = n ∧ ∃ A', (∀ q, ¬ q = 167 → A' q = A q) ∧ A' 167 0 = nI (lnR t) ∧ mzR A' t 1 ∧ f' = md f s A') := by
  refine sw_of rfl (Nat.le_of_ble_eq_true rfl) ?_
  show SW l D cy mX12_measure d 0 0 0 0 0 [(0, .ref 150)] [] n (md f s A) _ _
  refine sw_aload_n dX12_measure_0 rfl (by first | rfl | assumption) ?_
  refine sw_get dX12_measure_1 fr_X12_171 rfl rfl ?_
  refine sw_top (y := nI (1 + szR t)) hP ?_
  refine sw_iconst (x := 1) dX12_measure_4 (by decide) ?_
  refine sw_isub dX12_measure_5 ?_
  refine sw_top (y := nI (1 + szR t - 1)) (sb_1 (by omega)) ?_
  refine sw_istore_n [(0, _), (1, _)] dX12_measure_6 (by decide) rfl ?_
  refine l_mR t 1 A hr wf (by omega) hs (fun A1 f1 g1 m1 => ?_)
  show SW l D cy mX12_measure d 0 0 0 0 7 [(0, .ref 150), (1, .int (nI 0))] [] n (md f s A1) _ _
  refine l_mB (r := t) (b := 0) (by rw [f1 _ (by decide)]; exact hk) (by rw [f1 _ (by decide)]; exact hf) (rpR_f (fun q h1 h2 => f1 q (by omega)) t _ hr) m1 (by omega) (fun yy => ?_)
  refine sw_iinc [(0, _), (1, .int (-1)), (2, _), (3, _)] dX12_measure_99 rfl (by decide) rfl ?_
  refine sw_goto 7 dX12_measure_102 (by decide) ?_
  refine sw_iload_n dX12_measure_7 rfl ?_
  refine sw_if_lt 105 dX12_measure_8 (by decide) (fun h8 => ?_) (fun h8 => ?_)
  · exact sw_vret dX12_measure_105 rfl (by omega) (by omega) ⟨rfl, rfl, _, fun q hq => by rw [u2_q _ _ hq, f1 q hq], by rw [u2_at, if_pos ⟨rfl, rfl⟩], mzR_cg t 1 (fun i y1 y2 => by rw [u2_at, if_neg (by omega)]) m1, rfl⟩
  · exact absurd nlt_m1 h8
