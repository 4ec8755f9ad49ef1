/-! ===== TREES: an expression: leaf (0, number), leaf (1, variable), branch operation left right; a row: leaf: none more; branch v (leaf e) R: v = e, then R; branch _ (branch _ (leaf e) r) R: a loop; branch _ (branch _ (branch _ (leaf e) r1) r2) R: a choice ===== -/
abbrev ET : Type := Lean.RArray (Nat × Nat)
abbrev RT : Type := Lean.RArray ET
abbrev rAs (v : Nat) (e : ET) (R : RT) : RT := .branch v (.leaf e) R
abbrev rLp (e : ET) (r R : RT) : RT := .branch 0 (.branch 0 (.leaf e) r) R
abbrev rCh (e : ET) (r1 r2 R : RT) : RT := .branch 0 (.branch 0 (.branch 0 (.leaf e) r1) r2) R
abbrev rNo : RT := .leaf (.leaf (0, 0))
def szE : ET → Nat
  | .leaf _ => 1
  | .branch _ a b => 1 + szE a + szE b
def szR : RT → Nat
  | .leaf _ => 0
  | .branch _ (.leaf e) R => 1 + szE e + szR R
  | .branch _ (.branch _ (.leaf e) r) R => 1 + szE e + (1 + szR r) + szR R
  | .branch _ (.branch _ (.branch _ (.leaf e) r1) r2) R => 1 + szE e + (1 + szR r1) + (1 + szR r2) + szR R
  | .branch _ (.branch _ (.branch _ (.branch _ _ _) _) _) _ => 0
theorem szE_pos (e : ET) : 0 < szE e := by
  cases e with
  | leaf x => exact Nat.one_pos
  | branch k a b => rw [szE]; omega
/-! ===== THE READER, pure ===== -/
def hc (TX : Nat → Int32) (T p : Nat) : Int32 := if p < T then TX p else 0
def pN (TX : Nat → Int32) (T : Nat) : Nat → Nat → Nat → Nat × Nat
  | 0, p, v => (v, p)
  | k + 1, p, v => if r_dg (hc TX T p) = true then pN TX T k (p + 1) (10 * v + ((hc TX T p).toNatClampNeg - 48)) else (v, p)
def pE (TX : Nat → Int32) (T : Nat) : Nat → Nat → Nat → Option ET × Nat
  | 0, _, p => (none, p)
  | F + 1, d, p =>
    if r_dg (hc TX T p) = true then (some (.leaf (0, (pN TX T 3 p 0).1)), (pN TX T 3 p 0).2)
    else if r_nm (hc TX T p) = true then (some (.leaf (1, (hc TX T p).toNatClampNeg - 97)), p + 1)
    else if hc TX T p = 40 ∧ d < 6 then
      match pE TX T F (d + 1) (p + 1) with
      | (none, q) => (none, q)
      | (some a, q) =>
        if r_op (hc TX T q) = 0 then (none, q) else
        match pE TX T F (d + 1) (q + 1) with
        | (none, q2) => (none, q2)
        | (some b, q2) => if hc TX T q2 = 41 then (some (.branch (r_op (hc TX T q)).toNatClampNeg a b), q2 + 1) else (none, q2)
    else (none, p)
/-- a block: what reads a row is given -/
def pB (TX : Nat → Int32) (T d : Nat) (rd : Nat → Option RT × Nat) (p : Nat) : Option RT × Nat :=
  if hc TX T p = 123 ∧ d < 6 then
    match rd (p + 1) with
    | (none, q) => (none, q)
    | (some r, q) => if hc TX T q = 125 then (some r, q + 1) else (none, q)
  else (none, p)
def pR (TX : Nat → Int32) (T : Nat) : Nat → Nat → Nat → Option RT × Nat
  | 0, _, p => (none, p)
  | F + 1, d, p =>
    if r_nm (hc TX T p) = true then
      if hc TX T (p + 1) = 61 then
        match pE TX T 100 d (p + 2) with
        | (none, q) => (none, q)
        | (some e, q) => if hc TX T q = 59 then
          match pR TX T F d (q + 1) with
          | (none, q2) => (none, q2)
          | (some R, q2) => (some (rAs ((hc TX T p).toNatClampNeg - 97) e R), q2)
          else (none, q)
      else (none, p + 1)
    else if hc TX T p = 63 then
      match pE TX T 100 d (p + 1) with
      | (none, q) => (none, q)
      | (some e, q) =>
        match pB TX T d (pR TX T F (d + 1)) q with
        | (none, q1) => (none, q1)
        | (some r1, q1) =>
          match pB TX T d (pR TX T F (d + 1)) q1 with
          | (none, q2) => (none, q2)
          | (some r2, q2) =>
            match pR TX T F d q2 with
            | (none, q3) => (none, q3)
            | (some R, q3) => (some (rCh e r1 r2 R), q3)
    else if hc TX T p = 42 then
      match pE TX T 100 d (p + 1) with
      | (none, q) => (none, q)
      | (some e, q) =>
        match pB TX T d (pR TX T F (d + 1)) q with
        | (none, q1) => (none, q1)
        | (some r1, q1) =>
          match pR TX T F d q1 with
          | (none, q3) => (none, q3)
          | (some R, q3) => (some (rLp e r1 R), q3)
    else (some rNo, p)
/-! ===== THE REFERENCE: part ===== -/
def u2 (A : Nat → Nat → Int32) (p i : Nat) (x : Int32) : Nat → Nat → Int32 := va_up A p (upd (A p) i x)
theorem u2_at (A : Nat → Nat → Int32) (p i : Nat) (x : Int32) (q j : Nat) : u2 A p i x q j = if q = p ∧ j = i then x else A q j := by
  unfold u2 va_up upd
  by_cases h1 : q = p
  · subst h1
    by_cases h2 : j = i
    · rw [if_pos rfl, if_pos h2, if_pos ⟨rfl, h2⟩]
    · rw [if_pos rfl, if_neg h2, if_neg (fun z => h2 z.2)]
  · rw [if_neg h1, if_neg (fun z => h1 z.1)]
theorem u2_q (A : Nat → Nat → Int32) {p i : Nat} (x : Int32) {q : Nat} (h : ¬ q = p) : u2 A p i x q = A q := by
  unfold u2 va_up
  rw [if_neg h]
def ptN (A : Nat → Nat → Int32) (P : Nat) (w ab : Int32) : Nat → Nat → Int32 := u2 (u2 (u2 (u2 (u2 (u2 (u2 (u2 A 159 P w) 160 P 0) 161 P ab) 162 P (-1)) 163 P (-1)) 164 P (-1)) 165 P 0) 166 P (nI (P + 1))
def ptF (B : Nat → Nat → Int32) (P a : Nat) : Nat → Nat → Int32 := if B 162 a < 0 then u2 B 162 a (nI P) else u2 B 164 (B 163 a).toNatClampNeg (nI P)
def ptL (B : Nat → Nat → Int32) (P a : Nat) : Nat → Nat → Int32 := u2 (u2 (ptF B P a) 163 a (nI P)) 165 a (u2 (ptF B P a) 163 a (nI P) 165 a + 1)
set_option maxRecDepth 100000 in
theorem c_X12_part0 {l : Launch} {D : va_G} {cy : Nat → ClassId} {d n : Nat} {f : sw_F} {s : Nat → Int32} {A : Nat → Nat → Int32} {P : Nat} (hPs : s 15 = nI P) (hP : P < 160) (w : Int32) : sw_Ct l D cy mX12_part d 0 0 [.ref 150, .int w, .int (-1)] n (md f s A) (sw_D (some (.int (nI P))) n (md f (va_up s 15 (nI (P + 1))) (ptN A P w (-1)))) := by
  refine sw_of rfl (Nat.le_of_ble_eq_true rfl) ?_
  show SW l D cy mX12_part d 0 0 0 0 0 [(0, .ref 150), (1, .int w), (2, .int (-1))] [] n (md f s A) _ _
  refine sw_aload_n dX12_part_0 rfl (by first | rfl | assumption) ?_
  refine sw_get dX12_part_1 fr_X12_171 rfl rfl ?_
  refine sw_top (y := nI P) hPs ?_
  refine sw_istore_n [(0, _), (1, _), (2, _), (3, _)] dX12_part_4 (by decide) rfl ?_
  refine sw_aload_n dX12_part_5 rfl (by first | rfl | assumption) ?_
  refine sw_dup dX12_part_6 rfl ?_
  refine sw_get dX12_part_7 fr_X12_171 rfl rfl ?_
  refine sw_iconst (x := 1) dX12_part_10 (by decide) ?_
  refine sw_iadd dX12_part_11 ?_
  refine sw_top (y := nI (P + 1)) (by rw [show s 15 = nI P from hPs]; exact nI_1 P) ?_
  refine m_put dX12_part_12 fl_X12_171 (by decide) (sw_fit_i _) rfl ?_
  refine sw_aload_n dX12_part_15 rfl (by first | rfl | assumption) ?_
  refine sw_get dX12_part_16 fr_X12_43 rfl rfl ?_
  refine sw_iload_n dX12_part_19 rfl ?_
  refine sw_iload_n dX12_part_20 rfl ?_
  refine m_iast (P) dX12_part_21 ⟨by decide, by decide, rfl⟩ rfl (show P < 160 by omega) rfl ?_
  refine sw_aload_n dX12_part_22 rfl (by first | rfl | assumption) ?_
  refine sw_get dX12_part_23 fr_X12_46 rfl rfl ?_
  refine sw_iload_n dX12_part_26 rfl ?_
  refine sw_iconst (x := 0) dX12_part_27 (by decide) ?_
  refine m_iast (P) dX12_part_28 ⟨by decide, by decide, rfl⟩ rfl (show P < 160 by omega) rfl ?_
  refine sw_aload_n dX12_part_29 rfl (by first | rfl | assumption) ?_
  refine sw_get dX12_part_30 fr_X12_49 rfl rfl ?_
  refine sw_iload_n dX12_part_33 rfl ?_
  refine sw_iload_n dX12_part_34 rfl ?_
  refine m_iast (P) dX12_part_35 ⟨by decide, by decide, rfl⟩ rfl (show P < 160 by omega) rfl ?_
  refine sw_aload_n dX12_part_36 rfl (by first | rfl | assumption) ?_
  refine sw_get dX12_part_37 fr_X12_52 rfl rfl ?_
  refine sw_iload_n dX12_part_40 rfl ?_
  refine sw_iconst (x := (-1)) dX12_part_41 (by decide) ?_
  refine m_iast (P) dX12_part_42 ⟨by decide, by decide, rfl⟩ rfl (show P < 160 by omega) rfl ?_
  refine sw_aload_n dX12_part_43 rfl (by first | rfl | assumption) ?_
  refine sw_get dX12_part_44 fr_X12_55 rfl rfl ?_
  refine sw_iload_n dX12_part_47 rfl ?_
  refine sw_iconst (x := (-1)) dX12_part_48 (by decide) ?_
  refine m_iast (P) dX12_part_49 ⟨by decide, by decide, rfl⟩ rfl (show P < 160 by omega) rfl ?_
  refine sw_aload_n dX12_part_50 rfl (by first | rfl | assumption) ?_
  refine sw_get dX12_part_51 fr_X12_58 rfl rfl ?_
  refine sw_iload_n dX12_part_54 rfl ?_
  refine sw_iconst (x := (-1)) dX12_part_55 (by decide) ?_
  refine m_iast (P) dX12_part_56 ⟨by decide, by decide, rfl⟩ rfl (show P < 160 by omega) rfl ?_
  refine sw_aload_n dX12_part_57 rfl (by first | rfl | assumption) ?_
  refine sw_get dX12_part_58 fr_X12_61 rfl rfl ?_
  refine sw_iload_n dX12_part_61 rfl ?_
  refine sw_iconst (x := 0) dX12_part_62 (by decide) ?_
  refine m_iast (P) dX12_part_63 ⟨by decide, by decide, rfl⟩ rfl (show P < 160 by omega) rfl ?_
  refine sw_aload_n dX12_part_64 rfl (by first | rfl | assumption) ?_
  refine sw_get dX12_part_65 fr_X12_64 rfl rfl ?_
  refine sw_iload_n dX12_part_68 rfl ?_
  refine sw_aload_n dX12_part_69 rfl (by first | rfl | assumption) ?_
  refine sw_get dX12_part_70 fr_X12_171 rfl rfl ?_
  refine m_iast (P) dX12_part_73 ⟨by decide, by decide, rfl⟩ rfl (show P < 160 by omega) rfl ?_
  refine sw_iload_n dX12_part_74 rfl ?_
  refine sw_if_lt 126 dX12_part_75 (by decide) (fun h75 => ?_) (fun h75 => ?_)
  · refine sw_iload_n dX12_part_126 rfl ?_
    exact sw_iret dX12_part_127 rfl (by first | rfl | exact bz_n _) (by omega) (by omega) ⟨rfl, rfl, rfl⟩
  · exact absurd h75 (by decide)
set_option maxRecDepth 100000 in
theorem c_X12_part {l : Launch} {D : va_G} {cy : Nat → ClassId} {d n : Nat} {f : sw_F} {s : Nat → Int32} {A : Nat → Nat → Int32} {P a : Nat} (hPs : s 15 = nI P) (hP : P < 160) (w : Int32) (ha : a < P) (hl : ¬ (ptN A P w (nI a)) 162 a < 0 → ∃ m, m < 160 ∧ (ptN A P w (nI a)) 163 a = nI m) : sw_Ct l D cy mX12_part d 0 0 [.ref 150, .int w, .int (nI a)] n (md f s A) (sw_D (some (.int (nI P))) n (md f (va_up s 15 (nI (P + 1))) (ptL (ptN A P w (nI a)) P a))) := by
  refine sw_of rfl (Nat.le_of_ble_eq_true rfl) ?_
  show SW l D cy mX12_part d 0 0 0 0 0 [(0, .ref 150), (1, .int w), (2, .int (nI a))] [] n (md f s A) _ _
  refine sw_aload_n dX12_part_0 rfl (by first | rfl | assumption) ?_
  refine sw_get dX12_part_1 fr_X12_171 rfl rfl ?_
  refine sw_top (y := nI P) hPs ?_
  refine sw_istore_n [(0, _), (1, _), (2, _), (3, _)] dX12_part_4 (by decide) rfl ?_
  refine sw_aload_n dX12_part_5 rfl (by first | rfl | assumption) ?_
  refine sw_dup dX12_part_6 rfl ?_
  refine sw_get dX12_part_7 fr_X12_171 rfl rfl ?_
  refine sw_iconst (x := 1) dX12_part_10 (by decide) ?_
  refine sw_iadd dX12_part_11 ?_
  refine sw_top (y := nI (P + 1)) (by rw [show s 15 = nI P from hPs]; exact nI_1 P) ?_
  refine m_put dX12_part_12 fl_X12_171 (by decide) (sw_fit_i _) rfl ?_
  refine sw_aload_n dX12_part_15 rfl (by first | rfl | assumption) ?_
  refine sw_get dX12_part_16 fr_X12_43 rfl rfl ?_
  refine sw_iload_n dX12_part_19 rfl ?_
  refine sw_iload_n dX12_part_20 rfl ?_
  refine m_iast (P) dX12_part_21 ⟨by decide, by decide, rfl⟩ rfl (show P < 160 by omega) rfl ?_
  refine sw_aload_n dX12_part_22 rfl (by first | rfl | assumption) ?_
  refine sw_get dX12_part_23 fr_X12_46 rfl rfl ?_
  refine sw_iload_n dX12_part_26 rfl ?_
  refine sw_iconst (x := 0) dX12_part_27 (by decide) ?_
  refine m_iast (P) dX12_part_28 ⟨by decide, by decide, rfl⟩ rfl (show P < 160 by omega) rfl ?_
  refine sw_aload_n dX12_part_29 rfl (by first | rfl | assumption) ?_
  refine sw_get dX12_part_30 fr_X12_49 rfl rfl ?_
  refine sw_iload_n dX12_part_33 rfl ?_
  refine sw_iload_n dX12_part_34 rfl ?_
  refine m_iast (P) dX12_part_35 ⟨by decide, by decide, rfl⟩ rfl (show P < 160 by omega) rfl ?_
  refine sw_aload_n dX12_part_36 rfl (by first | rfl | assumption) ?_
  refine sw_get dX12_part_37 fr_X12_52 rfl rfl ?_
  refine sw_iload_n dX12_part_40 rfl ?_
  refine sw_iconst (x := (-1)) dX12_part_41 (by decide) ?_
  refine m_iast (P) dX12_part_42 ⟨by decide, by decide, rfl⟩ rfl (show P < 160 by omega) rfl ?_
  refine sw_aload_n dX12_part_43 rfl (by first | rfl | assumption) ?_
  refine sw_get dX12_part_44 fr_X12_55 rfl rfl ?_
  refine sw_iload_n dX12_part_47 rfl ?_
  refine sw_iconst (x := (-1)) dX12_part_48 (by decide) ?_
  refine m_iast (P) dX12_part_49 ⟨by decide, by decide, rfl⟩ rfl (show P < 160 by omega) rfl ?_
  refine sw_aload_n dX12_part_50 rfl (by first | rfl | assumption) ?_
  refine sw_get dX12_part_51 fr_X12_58 rfl rfl ?_
  refine sw_iload_n dX12_part_54 rfl ?_
  refine sw_iconst (x := (-1)) dX12_part_55 (by decide) ?_
  refine m_iast (P) dX12_part_56 ⟨by decide, by decide, rfl⟩ rfl (show P < 160 by omega) rfl ?_
  refine sw_aload_n dX12_part_57 rfl (by first | rfl | assumption) ?_
  refine sw_get dX12_part_58 fr_X12_61 rfl rfl ?_
  refine sw_iload_n dX12_part_61 rfl ?_
  refine sw_iconst (x := 0) dX12_part_62 (by decide) ?_
  refine m_iast (P) dX12_part_63 ⟨by decide, by decide, rfl⟩ rfl (show P < 160 by omega) rfl ?_
  refine sw_aload_n dX12_part_64 rfl (by first | rfl | assumption) ?_
  refine sw_get dX12_part_65 fr_X12_64 rfl rfl ?_
  refine sw_iload_n dX12_part_68 rfl ?_
  refine sw_aload_n dX12_part_69 rfl (by first | rfl | assumption) ?_
  refine sw_get dX12_part_70 fr_X12_171 rfl rfl ?_
  refine m_iast (P) dX12_part_73 ⟨by decide, by decide, rfl⟩ rfl (show P < 160 by omega) rfl ?_
  refine sw_iload_n dX12_part_74 rfl ?_
  refine sw_if_lt 126 dX12_part_75 (by decide) (fun h75 => ?_) (fun h75 => ?_)
  · exact absurd h75 (i32_nlt0 (by omega))
  · change SW l D cy mX12_part d 0 0 0 0 78 _ _ n (md f (va_up s 15 (nI (P + 1))) (ptN A P w (nI a))) _ _
    refine sw_aload_n dX12_part_78 rfl (by first | rfl | assumption) ?_
    refine sw_get dX12_part_79 fr_X12_52 rfl rfl ?_
    refine sw_iload_n dX12_part_82 rfl ?_
    refine sw_ialdN (a) dX12_part_83 rfl rfl (show a < 160 by omega) (by decide) ?_
    refine sw_top (y := (ptN A P w (nI a)) 162 a) rfl ?_
    refine sw_if_ge 97 dX12_part_84 (by decide) (fun h84 => ?_) (fun h84 => ?_)
    · obtain ⟨m, hm, he⟩ := hl (Int32.not_lt.mpr h84)
      refine sw_aload_n dX12_part_97 rfl (by first | rfl | assumption) ?_
      refine sw_get dX12_part_98 fr_X12_58 rfl rfl ?_
      refine sw_aload_n dX12_part_101 rfl (by first | rfl | assumption) ?_
      refine sw_get dX12_part_102 fr_X12_55 rfl rfl ?_
      refine sw_iload_n dX12_part_105 rfl ?_
      refine sw_ialdN (a) dX12_part_106 rfl rfl (show a < 160 by omega) (by decide) ?_
      refine sw_top (y := nI m) he ?_
      refine sw_iload_n dX12_part_107 rfl ?_
      refine m_iast (m) dX12_part_108 ⟨by decide, by decide, rfl⟩ rfl (show m < 160 by omega) rfl ?_
      refine sw_aload_n dX12_part_109 rfl (by first | rfl | assumption) ?_
      refine sw_get dX12_part_110 fr_X12_55 rfl rfl ?_
      refine sw_iload_n dX12_part_113 rfl ?_
      refine sw_iload_n dX12_part_114 rfl ?_
      refine m_iast (a) dX12_part_115 ⟨by decide, by decide, rfl⟩ rfl (show a < 160 by omega) rfl ?_
      refine sw_aload_n dX12_part_116 rfl (by first | rfl | assumption) ?_
      refine sw_get dX12_part_117 fr_X12_61 rfl rfl ?_
      refine sw_iload_n dX12_part_120 rfl ?_
      refine sw_dup2 dX12_part_121 rfl rfl ?_
      refine sw_ialdN (a) dX12_part_122 rfl rfl (show a < 160 by omega) (by decide) ?_
      refine sw_iconst (x := 1) dX12_part_123 (by decide) ?_
      refine sw_iadd dX12_part_124 ?_
      refine m_iast (a) dX12_part_125 ⟨by decide, by decide, rfl⟩ rfl (show a < 160 by omega) rfl ?_
      refine sw_iload_n dX12_part_126 rfl ?_
      exact sw_iret dX12_part_127 rfl (by first | rfl | exact bz_n _) (by omega) (by omega) ⟨rfl, rfl, by rw [ptL, ptF, if_neg (Int32.not_lt.mpr h84), he, nI_clamp (by omega)]; rfl⟩
    · refine sw_aload_n dX12_part_87 rfl (by first | rfl | assumption) ?_
      refine sw_get dX12_part_88 fr_X12_52 rfl rfl ?_
      refine sw_iload_n dX12_part_91 rfl ?_
      refine sw_iload_n dX12_part_92 rfl ?_
      refine m_iast (a) dX12_part_93 ⟨by decide, by decide, rfl⟩ rfl (show a < 160 by omega) rfl ?_
      refine sw_goto 109 dX12_part_94 (by decide) ?_
      refine sw_aload_n dX12_part_109 rfl (by first | rfl | assumption) ?_
      refine sw_get dX12_part_110 fr_X12_55 rfl rfl ?_
      refine sw_iload_n dX12_part_113 rfl ?_
      refine sw_iload_n dX12_part_114 rfl ?_
      refine m_iast (a) dX12_part_115 ⟨by decide, by decide, rfl⟩ rfl (show a < 160 by omega) rfl ?_
      refine sw_aload_n dX12_part_116 rfl (by first | rfl | assumption) ?_
      refine sw_get dX12_part_117 fr_X12_61 rfl rfl ?_
      refine sw_iload_n dX12_part_120 rfl ?_
      refine sw_dup2 dX12_part_121 rfl rfl ?_
      refine sw_ialdN (a) dX12_part_122 rfl rfl (show a < 160 by omega) (by decide) ?_
      refine sw_iconst (x := 1) dX12_part_123 (by decide) ?_
      refine sw_iadd dX12_part_124 ?_
      refine m_iast (a) dX12_part_125 ⟨by decide, by decide, rfl⟩ rfl (show a < 160 by omega) rfl ?_
      refine sw_iload_n dX12_part_126 rfl ?_
      exact sw_iret dX12_part_127 rfl (by first | rfl | exact bz_n _) (by omega) (by omega) ⟨rfl, rfl, by rw [ptL, ptF, if_pos (Int32.not_le.mp h84)]; rfl⟩
