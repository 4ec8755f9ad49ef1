/-! ===== THE REFERENCE: goOver: at, height, values, stack, how many were looked at ===== -/
abbrev GS : Type := Nat × Nat × (Nat → Int32) × (Nat → Int32) × Nat
def gstep (kd ar : Nat → Int32) (m : GS) : GS :=
  if kd m.1 = 0 then (m.1 + 1, m.2.1 + 1, m.2.2.1, upd m.2.2.2.1 m.2.1 (ar m.1), m.2.2.2.2)
  else if kd m.1 = 1 then (m.1 + 1, m.2.1 + 1, m.2.2.1, upd m.2.2.2.1 m.2.1 (m.2.2.1 (ar m.1).toNatClampNeg), m.2.2.2.2)
  else if kd m.1 = 2 then (m.1 + 1, m.2.1 - 1, upd m.2.2.1 (ar m.1).toNatClampNeg (m.2.2.2.1 (m.2.1 - 1)), m.2.2.2.1, m.2.2.2.2)
  else if kd m.1 < 7 then (m.1 + 1, m.2.1 - 1, m.2.2.1, upd m.2.2.2.1 (m.2.1 - 1 - 1) (r_wk (kd m.1) (m.2.2.2.1 (m.2.1 - 1 - 1)) (m.2.2.2.1 (m.2.1 - 1))), m.2.2.2.2)
  else if kd m.1 = 7 then (if m.2.2.2.1 (m.2.1 - 1) = 0 then (ar m.1).toNatClampNeg else m.1 + 1, m.2.1 - 1, m.2.2.1, m.2.2.2.1, m.2.2.2.2 + 1)
  else ((ar m.1).toNatClampNeg, m.2.1, m.2.2.1, m.2.2.2.1, m.2.2.2.2)
/-- what a step needs -/
def gok (kd ar : Nat → Int32) (m : GS) : Prop := m.1 < 100 ∧ m.2.1 ≤ 11 ∧ 0 ≤ kd m.1 ∧ kd m.1 ≤ 9 ∧ (kd m.1 = 1 ∨ kd m.1 = 2 → ∃ v, v < 8 ∧ ar m.1 = nI v) ∧ (kd m.1 = 7 ∨ kd m.1 = 8 → ∃ t, t < 100 ∧ ar m.1 = nI t) ∧ (kd m.1 = 2 ∨ kd m.1 = 7 → 1 ≤ m.2.1) ∧ (2 < kd m.1 ∧ kd m.1 < 7 → 2 ≤ m.2.1)
def grun (kd ar : Nat → Int32) (mz : Nat) : Nat → Nat → GS → Option Nat × GS
  | 0, _, m => (none, m)
  | k + 1, md, m => if kd m.1 = 9 then (some md, m) else if mz < (gstep kd ar m).2.2.2.2 then (none, gstep kd ar m) else grun kd ar mz k (md + 1) (gstep kd ar m)
def gA (A : Nat → Nat → Int32) (b : Nat → Int32) (m : GS) : Nat → Nat → Int32 := va_up (va_up (va_up A 155 m.2.2.1) 156 b) 185 m.2.2.2.1
def gS (s : Nat → Int32) (m : GS) : Nat → Int32 := va_up s 49 (nI m.2.2.2.2)
theorem gA_v (A : Nat → Nat → Int32) (b : Nat → Int32) (m : GS) (g : Nat → Int32) : va_up (gA A b m) 155 g = gA A b (m.1, m.2.1, g, m.2.2.2) := by
  show va_up (va_up (va_up (va_up A 155 m.2.2.1) 156 b) 185 m.2.2.2.1) 155 g = va_up (va_up (va_up A 155 g) 156 b) 185 m.2.2.2.1
  rw [vu_so _ (show 155 < 185 by decide), vu_so _ (show 155 < 156 by decide), vu_up]
theorem gA_k (A : Nat → Nat → Int32) (b : Nat → Int32) (m : GS) (g : Nat → Int32) : va_up (gA A b m) 185 g = gA A b (m.1, m.2.1, m.2.2.1, g, m.2.2.2.2) := vu_up _ _ _ _
/-- the answer, and the arrays behind it: where it did not come to its end the values are as they were -/
def gRet (r : Option Nat × GS) : Int32 := match r.1 with
  | some k => nI k
  | none => -1
def gEnd (b : Nat → Int32) (r : Option Nat × GS) : GS := match r.1 with
  | some _ => r.2
  | none => (r.2.1, r.2.2.1, fillF b r.2.2.2.1 8, r.2.2.2.2)
set_option maxRecDepth 100000 in
theorem l_X12_go3c {l : Launch} {D : va_G} {cy : Nat → ClassId} {d n : Nat} {f : sw_F} {s : Nat → Int32} {A : Nat → Nat → Int32} {b : Nat → Int32} {m : GS} {Mo mz : Nat} {QX : sw_QX} : ∀ (k i : Nat), i ≤ 8 → 8 < i + k → SW l D cy mX12_goOver d 0 0 0 0 247 [(0, .ref 150), (1, .ref 176), (2, .ref 177), (3, .int (nI Mo)), (4, .int (nI mz)), (7, .int (nI i))] [] n (md f (gS s ((m.1, m.2.1, fillF b m.2.2.1 i, m.2.2.2))) (gA A b ((m.1, m.2.1, fillF b m.2.2.1 i, m.2.2.2)))) (sw_D (some (.int (-1))) n (md f (gS s ((m.1, m.2.1, fillF b m.2.2.1 8, m.2.2.2))) (gA A b ((m.1, m.2.1, fillF b m.2.2.1 8, m.2.2.2))))) QX := by
  intro k
  induction k with
  | zero => intro i0 h1 h2; exact absurd h2 (by omega)
  | succ k ih =>
    intro i hi hk
    refine sw_iload dX12_goOver_247 rfl ?_
    refine sw_bipush (x := 8) dX12_goOver_249 (by decide) ?_
    refine sw_icmp_ge 274 dX12_goOver_251 (by decide) (fun h251 => ?_) (fun h251 => ?_)
    · rw [show i = 8 from Nat.le_antisymm hi ((nI_leI (by omega) (by omega)).mp (by rw [← nl_8]; exact h251))]
      refine sw_iconst (x := (-1)) dX12_goOver_274 (by decide) ?_
      exact sw_iret dX12_goOver_275 rfl (by first | rfl | exact bz_n _) (by omega) (by omega) ⟨rfl, rfl, rfl⟩
    · have e1 : i < 8 := (nI_ltI (by omega) (by omega)).mp (by rw [← nl_8]; exact i32_nle.mp h251)
      refine sw_aload_n dX12_goOver_254 rfl (by first | rfl | assumption) ?_
      refine sw_get dX12_goOver_255 fr_X12_27 rfl rfl ?_
      refine sw_iload dX12_goOver_258 rfl ?_
      refine sw_aload_n dX12_goOver_260 rfl (by first | rfl | assumption) ?_
      refine sw_get dX12_goOver_261 fr_X12_30 rfl rfl ?_
      refine sw_iload dX12_goOver_264 rfl ?_
      refine sw_ialdN (i) dX12_goOver_266 rfl rfl (show i < 8 by omega) (by decide) ?_
      refine m_iast (i) dX12_goOver_267 ⟨by decide, by decide, rfl⟩ rfl (show i < 8 by omega) rfl ?_
      first | refine sw_inc1 [(0, _), (1, _), (2, _), (3, _), (4, _), (7, _)] dX12_goOver_268 rfl (by decide) rfl ?_ | refine sw_iinc [(0, _), (1, _), (2, _), (3, _), (4, _), (7, _)] dX12_goOver_268 rfl (by decide) rfl ?_
      refine sw_goto 247 dX12_goOver_271 (by decide) ?_
      refine m_eq (s' := gS s (m.1, m.2.1, fillF b m.2.2.1 (i + 1), m.2.2.2)) rfl ?_ (ih (i + 1) (by omega) (by omega))
      rw [gA_v]
      exact congrArg (gA A b) (Prod.ext rfl (Prod.ext rfl (Prod.ext (fill_1 (h := b) rfl) rfl)))
theorem kq1 {x : Int32} (h0 : 0 ≤ x) (h : ¬ 2 ≤ x) (h1 : ¬ x = 0) : x = 1 := by grind
theorem kq0 {x : Int32} (h : 2 ≤ x) : ¬ x = 0 ∧ ¬ x = 1 := by grind
theorem kq3 {x : Int32} (h : 2 ≤ x) (h2 : ¬ x = 2) (h7 : ¬ 7 ≤ x) : 2 < x ∧ x < 7 := by grind
theorem kq7 {x : Int32} (h : 7 ≤ x) : ¬ x < 7 := by grind
theorem kq8 {x : Int32} (h : 7 ≤ x) (h9 : x ≤ 9) (h7 : ¬ x = 7) (hn : ¬ x = 9) : x = 8 := by grind
theorem gstep_lk (kd ar : Nat → Int32) (m : GS) : (gstep kd ar m).2.2.2.2 ≤ m.2.2.2.2 + 1 := by
  unfold gstep
  repeat' split
  all_goals simp
set_option maxRecDepth 100000 in
theorem l_X12_go2c {l : Launch} {D : va_G} {cy : Nat → ClassId} {d n : Nat} {f : sw_F} {s : Nat → Int32} {A : Nat → Nat → Int32} {b : Nat → Int32} {Mo mz : Nat} (hd : 1 ≤ d) (hMo : Mo ≤ 100000) (hmz : mz ≤ 5000) {Inv : GS → Prop} (hgood : ∀ m, Inv m → gok (A 176) (A 177) m) (hstep : ∀ m, Inv m → ¬ A 176 m.1 = 9 → Inv (gstep (A 176) (A 177) m)) {QX : sw_QX} : ∀ (k ma : Nat) (m : GS), ma + k = Mo + 1 → Inv m → m.2.2.2.2 ≤ mz → SW l D cy mX12_goOver d 0 0 0 0 44 [(0, .ref 150), (1, .ref 176), (2, .ref 177), (3, .int (nI Mo)), (4, .int (nI mz)), (5, .int (nI (m).1)), (6, .int (nI (m).2.1)), (7, .int (nI (ma)))] [] n (md f (gS s (m)) (gA A b (m))) (sw_D (some (.int (gRet (grun (A 176) (A 177) mz k ma m)))) n (md f (gS s (gEnd b (grun (A 176) (A 177) mz k ma m))) (gA A b (gEnd b (grun (A 176) (A 177) mz k ma m))))) QX := by
  intro k
  induction k with
  | zero =>
    intro ma m hk hI hlk
    refine sw_iload dX12_goOver_44 rfl ?_
    refine sw_iload_n dX12_goOver_46 rfl ?_
    refine sw_icmp_gt 244 dX12_goOver_47 (by decide) (fun h47 => ?_) (fun h47 => absurd (nI_lt (show Mo < ma by omega) (by omega)) h47)
    (refine sw_iconst (x := 0) dX12_goOver_244 (by decide) ?_; refine sw_istore [(0, _), (1, _), (2, _), (3, _), (4, _), (5, _), (6, _), (7, _)] dX12_goOver_245 (by decide) rfl ?_; refine sw_keep [0, 1, 2, 3, 4, 7] rfl ?_; refine m_eq (s' := gS s ((m).1, (m).2.1, fillF b (m).2.2.1 0, (m).2.2.2)) (A' := gA A b ((m).1, (m).2.1, fillF b (m).2.2.1 0, (m).2.2.2)) rfl (by rw [fill_0]) ?_; exact l_X12_go3c (m := m) 9 0 (by omega) (by omega))
  | succ k ih =>
    intro ma m hk hI hlk
    refine sw_iload dX12_goOver_44 rfl ?_
    refine sw_iload_n dX12_goOver_46 rfl ?_
    refine sw_icmp_gt 244 dX12_goOver_47 (by decide) (fun h47 => ?_) (fun h47 => ?_)
    · exact absurd h47 (nI_nlt (by omega) (by omega))
    · have e0 := hgood m hI
      obtain ⟨g1, g2, g3, g4, g5, g6, g7, g8⟩ := e0
      refine sw_aload_n dX12_goOver_50 rfl (by first | rfl | assumption) ?_
      refine sw_iload dX12_goOver_51 rfl ?_
      refine sw_ialdN (m.1) dX12_goOver_53 rfl rfl (show m.1 < 100 by omega) (by decide) ?_
      refine sw_top (y := A 176 m.1) rfl ?_
      refine sw_istore [(0, _), (1, _), (2, _), (3, _), (4, _), (5, _), (6, _), (7, _), (8, _)] dX12_goOver_54 (by decide) rfl ?_
      refine sw_aload_n dX12_goOver_56 rfl (by first | rfl | assumption) ?_
      refine sw_iload dX12_goOver_57 rfl ?_
      refine sw_ialdN (m.1) dX12_goOver_59 rfl rfl (show m.1 < 100 by omega) (by decide) ?_
      refine sw_top (y := A 177 m.1) rfl ?_
      refine sw_istore [(0, _), (1, _), (2, _), (3, _), (4, _), (5, _), (6, _), (7, _), (8, _), (9, _)] dX12_goOver_60 (by decide) rfl ?_
      first | refine sw_inc1 [(0, _), (1, _), (2, _), (3, _), (4, _), (5, _), (6, _), (7, _), (8, _), (9, _)] dX12_goOver_62 rfl (by decide) rfl ?_ | refine sw_iinc [(0, _), (1, _), (2, _), (3, _), (4, _), (5, _), (6, _), (7, _), (8, _), (9, _)] dX12_goOver_62 rfl (by decide) rfl ?_
      refine sw_iload dX12_goOver_65 rfl ?_
      refine sw_bipush (x := 9) dX12_goOver_67 (by decide) ?_
      refine sw_icmp_ne 75 dX12_goOver_69 (by decide) (fun h69 => ?_) (fun h69 => ?_)
      · rw [grun, if_neg h69]
        have J : ∀ m2 : GS, m2 = gstep (A 176) (A 177) m → SW l D cy mX12_goOver d 0 0 0 0 226 [(0, .ref 150), (1, .ref 176), (2, .ref 177), (3, .int (nI Mo)), (4, .int (nI mz)), (5, .int (nI (m2).1)), (6, .int (nI (m2).2.1)), (7, .int (nI (ma)))] [] n (md f (gS s (m2)) (gA A b (m2))) (sw_D (some (.int (gRet (if mz < (gstep (A 176) (A 177) m).2.2.2.2 then (none, gstep (A 176) (A 177) m) else grun (A 176) (A 177) mz k (ma + 1) (gstep (A 176) (A 177) m))))) n (md f (gS s (gEnd b (if mz < (gstep (A 176) (A 177) m).2.2.2.2 then (none, gstep (A 176) (A 177) m) else grun (A 176) (A 177) mz k (ma + 1) (gstep (A 176) (A 177) m)))) (gA A b (gEnd b (if mz < (gstep (A 176) (A 177) m).2.2.2.2 then (none, gstep (A 176) (A 177) m) else grun (A 176) (A 177) mz k (ma + 1) (gstep (A 176) (A 177) m)))))) QX := by
          intro m2 hm2
          have hI2 := hstep m hI h69
          rw [← hm2] at hI2 ⊢
          have hz2 : m2.2.2.2.2 ≤ mz + 1 := by rw [hm2]; exact Nat.le_trans (gstep_lk _ _ m) (by omega)
          refine sw_aload_n dX12_goOver_226 rfl (by first | rfl | assumption) ?_
          refine sw_get dX12_goOver_227 fr_X12_297 rfl rfl ?_
          refine sw_top (y := nI m2.2.2.2.2) rfl ?_
          refine sw_iload dX12_goOver_230 rfl ?_
          refine sw_icmp_le 238 dX12_goOver_232 (by decide) (fun h232 => ?_) (fun h232 => ?_)
          · first | refine sw_inc1 [(0, _), (1, _), (2, _), (3, _), (4, _), (5, _), (6, _), (7, _)] dX12_goOver_238 rfl (by decide) rfl ?_ | refine sw_iinc [(0, _), (1, _), (2, _), (3, _), (4, _), (5, _), (6, _), (7, _)] dX12_goOver_238 rfl (by decide) rfl ?_
            refine sw_goto 44 dX12_goOver_241 (by decide) ?_
            first | (have e9 := (nI_leI (by omega) (by omega)).mp h232; rw [if_neg (Nat.not_lt.mpr e9)]; exact ih (ma + 1) m2 (by omega) hI2 e9) | (refine sw_iload dX12_goOver_44 rfl ?_; refine sw_iload_n dX12_goOver_46 rfl ?_; refine sw_icmp_gt 244 dX12_goOver_47 (by decide) (fun h47b => ?_) (fun h47b => absurd (nI_lt (show Mo < Mo + 1 by omega) (by omega)) h47b); (refine sw_iconst (x := 0) dX12_goOver_244 (by decide) ?_; refine sw_istore [(0, _), (1, _), (2, _), (3, _), (4, _), (5, _), (6, _), (7, _)] dX12_goOver_245 (by decide) rfl ?_; refine sw_keep [0, 1, 2, 3, 4, 7] rfl ?_; refine m_eq (s' := gS s ((m2).1, (m2).2.1, fillF b (m2).2.2.1 0, (m2).2.2.2)) (A' := gA A b ((m2).1, (m2).2.1, fillF b (m2).2.2.1 0, (m2).2.2.2)) rfl (by rw [fill_0]) ?_; exact l_X12_go3c (m := m2) 9 0 (by omega) (by omega)))
          · have e8 : mz < m2.2.2.2.2 := Nat.not_le.mp (fun q => h232 ((nI_leI (by omega) (by omega)).mpr q))
            rw [if_pos e8]
            refine sw_iload_n dX12_goOver_235 rfl ?_
            refine sw_istore [(0, _), (1, _), (2, _), (3, _), (4, _), (5, _), (6, _), (7, _)] dX12_goOver_236 (by decide) rfl ?_
            first | refine sw_inc1 [(0, _), (1, _), (2, _), (3, _), (4, _), (5, _), (6, _), (7, _)] dX12_goOver_238 rfl (by decide) rfl ?_ | refine sw_iinc [(0, _), (1, _), (2, _), (3, _), (4, _), (5, _), (6, _), (7, _)] dX12_goOver_238 rfl (by decide) rfl ?_
            refine sw_goto 44 dX12_goOver_241 (by decide) ?_
            first | (have e9 := (nI_leI (by omega) (by omega)).mp h232; rw [if_neg (Nat.not_lt.mpr e9)]; exact ih (ma + 1) m2 (by omega) hI2 e9) | (refine sw_iload dX12_goOver_44 rfl ?_; refine sw_iload_n dX12_goOver_46 rfl ?_; refine sw_icmp_gt 244 dX12_goOver_47 (by decide) (fun h47b => ?_) (fun h47b => absurd (nI_lt (show Mo < Mo + 1 by omega) (by omega)) h47b); (refine sw_iconst (x := 0) dX12_goOver_244 (by decide) ?_; refine sw_istore [(0, _), (1, _), (2, _), (3, _), (4, _), (5, _), (6, _), (7, _)] dX12_goOver_245 (by decide) rfl ?_; refine sw_keep [0, 1, 2, 3, 4, 7] rfl ?_; refine m_eq (s' := gS s ((m2).1, (m2).2.1, fillF b (m2).2.2.1 0, (m2).2.2.2)) (A' := gA A b ((m2).1, (m2).2.1, fillF b (m2).2.2.1 0, (m2).2.2.2)) rfl (by rw [fill_0]) ?_; exact l_X12_go3c (m := m2) 9 0 (by omega) (by omega)))
        refine sw_iload dX12_goOver_75 rfl ?_
        refine sw_iconst (x := 2) dX12_goOver_77 (by decide) ?_
        refine sw_icmp_ge 111 dX12_goOver_78 (by decide) (fun h78 => ?_) (fun h78 => ?_)
        · refine sw_iload dX12_goOver_111 rfl ?_
          refine sw_iconst (x := 2) dX12_goOver_113 (by decide) ?_
          refine sw_icmp_ne 137 dX12_goOver_114 (by decide) (fun h114 => ?_) (fun h114 => ?_)
          · refine sw_iload dX12_goOver_137 rfl ?_
            refine sw_bipush (x := 7) dX12_goOver_139 (by decide) ?_
            refine sw_icmp_ge 180 dX12_goOver_141 (by decide) (fun h141 => ?_) (fun h141 => ?_)
            · refine sw_iload dX12_goOver_180 rfl ?_
              refine sw_bipush (x := 7) dX12_goOver_182 (by decide) ?_
              refine sw_icmp_ne 222 dX12_goOver_184 (by decide) (fun h184 => ?_) (fun h184 => ?_)
              · obtain ⟨t, ht, hte⟩ := g6 (Or.inr (kq8 h141 g4 h184 h69))
                refine sw_iload dX12_goOver_222 rfl ?_
                refine sw_top (y := nI t) hte ?_
                refine sw_istore [(0, _), (1, _), (2, _), (3, _), (4, _), (5, _), (6, _), (7, _), (8, _), (9, _)] dX12_goOver_224 (by decide) rfl ?_
                refine sw_keep [0, 1, 2, 3, 4, 5, 6, 7] rfl ?_
                refine m_eq (s' := gS s (t, m.2.1, m.2.2.1, m.2.2.2.1, m.2.2.2.2)) (A' := gA A b (t, m.2.1, m.2.2.1, m.2.2.2.1, m.2.2.2.2)) rfl (rfl) ?_
                exact J _ (by rw [gstep, if_neg (kq0 h78).1, if_neg (kq0 h78).2, if_neg h114, if_neg (kq7 h141), if_neg h184, hte, nI_clamp (by omega)])
              · have g7b := g7 (Or.inr h184)
                obtain ⟨t, ht, hte⟩ := g6 (Or.inl h184)
                refine sw_dec1 [(0, _), (1, _), (2, _), (3, _), (4, _), (5, _), (6, _), (7, _), (8, _), (9, _)] dX12_goOver_187 rfl (by omega) (by decide) rfl ?_
                refine sw_aload_n dX12_goOver_190 rfl (by first | rfl | assumption) ?_
                refine sw_dup dX12_goOver_191 rfl ?_
                refine sw_get dX12_goOver_192 fr_X12_297 rfl rfl ?_
                refine sw_iconst (x := 1) dX12_goOver_195 (by decide) ?_
                refine sw_iadd dX12_goOver_196 ?_
                refine m_put dX12_goOver_197 fl_X12_297 (by decide) (sw_fit_i _) rfl ?_
                refine m_eq (s' := va_up s 49 (nI (m.2.2.2.2 + 1))) (A' := gA A b m) (by rw [gS, vu_up]; exact congrArg (va_up s 49) (nI_1 _)) rfl ?_
                refine sw_aload_n dX12_goOver_200 rfl (by first | rfl | assumption) ?_
                refine sw_get dX12_goOver_201 fr_X12_121 rfl rfl ?_
                refine sw_iload dX12_goOver_204 rfl ?_
                refine sw_ialdN (m.2.1 - 1) dX12_goOver_206 rfl rfl (show m.2.1 - 1 < 12 by omega) (by decide) ?_
                refine sw_if_ne 215 dX12_goOver_207 (by decide) (fun h207 => ?_) (fun h207 => ?_)
                · refine sw_iload dX12_goOver_215 rfl ?_
                  refine sw_top (y := nI (if m.2.2.2.1 (m.2.1 - 1) = 0 then t else m.1 + 1)) (by first | (have h207 : m.2.2.2.1 (m.2.1 - 1) = 0 := h207; rw [if_pos h207]; exact hte) | (have h207 : ¬ m.2.2.2.1 (m.2.1 - 1) = 0 := h207; rw [if_neg h207])) ?_
                  refine sw_istore [(0, _), (1, _), (2, _), (3, _), (4, _), (5, _), (6, _), (7, _), (8, _), (9, _)] dX12_goOver_217 (by decide) rfl ?_
                  refine sw_goto 226 dX12_goOver_219 (by decide) ?_
                  refine sw_keep [0, 1, 2, 3, 4, 5, 6, 7] rfl ?_
                  refine m_eq (s' := gS s (if m.2.2.2.1 (m.2.1 - 1) = 0 then t else m.1 + 1, m.2.1 - 1, m.2.2.1, m.2.2.2.1, m.2.2.2.2 + 1)) (A' := gA A b (if m.2.2.2.1 (m.2.1 - 1) = 0 then t else m.1 + 1, m.2.1 - 1, m.2.2.1, m.2.2.2.1, m.2.2.2.2 + 1)) rfl (rfl) ?_
                  exact J _ (by rw [gstep, if_neg (kq0 h78).1, if_neg (kq0 h78).2, if_neg h114, if_neg (kq7 h141), if_pos h184, hte, nI_clamp (by omega)])
                · refine sw_iload dX12_goOver_210 rfl ?_
                  refine sw_goto 217 dX12_goOver_212 (by decide) ?_
                  refine sw_top (y := nI (if m.2.2.2.1 (m.2.1 - 1) = 0 then t else m.1 + 1)) (by first | (have h207 : m.2.2.2.1 (m.2.1 - 1) = 0 := h207; rw [if_pos h207]; exact hte) | (have h207 : ¬ m.2.2.2.1 (m.2.1 - 1) = 0 := h207; rw [if_neg h207])) ?_
                  refine sw_istore [(0, _), (1, _), (2, _), (3, _), (4, _), (5, _), (6, _), (7, _), (8, _), (9, _)] dX12_goOver_217 (by decide) rfl ?_
                  refine sw_goto 226 dX12_goOver_219 (by decide) ?_
                  refine sw_keep [0, 1, 2, 3, 4, 5, 6, 7] rfl ?_
                  refine m_eq (s' := gS s (if m.2.2.2.1 (m.2.1 - 1) = 0 then t else m.1 + 1, m.2.1 - 1, m.2.2.1, m.2.2.2.1, m.2.2.2.2 + 1)) (A' := gA A b (if m.2.2.2.1 (m.2.1 - 1) = 0 then t else m.1 + 1, m.2.1 - 1, m.2.2.1, m.2.2.2.1, m.2.2.2.2 + 1)) rfl (rfl) ?_
                  exact J _ (by rw [gstep, if_neg (kq0 h78).1, if_neg (kq0 h78).2, if_neg h114, if_neg (kq7 h141), if_pos h184, hte, nI_clamp (by omega)])
            · have g8b := g8 (kq3 h78 h114 h141)
              refine sw_dec1 [(0, _), (1, _), (2, _), (3, _), (4, _), (5, _), (6, _), (7, _), (8, _), (9, _)] dX12_goOver_144 rfl (by omega) (by decide) rfl ?_
              refine sw_aload_n dX12_goOver_147 rfl (by first | rfl | assumption) ?_
              refine sw_get dX12_goOver_148 fr_X12_121 rfl rfl ?_
              refine sw_iload dX12_goOver_151 rfl ?_
              refine sw_iconst (x := 1) dX12_goOver_153 (by decide) ?_
              refine sw_isub dX12_goOver_154 ?_
              refine sw_top (y := nI (m.2.1 - 1 - 1)) (by rw [nl_1, pk_sub (by omega)]) ?_
              refine sw_iload dX12_goOver_155 rfl ?_
              refine sw_aload_n dX12_goOver_157 rfl (by first | rfl | assumption) ?_
              refine sw_get dX12_goOver_158 fr_X12_121 rfl rfl ?_
              refine sw_iload dX12_goOver_161 rfl ?_
              refine sw_iconst (x := 1) dX12_goOver_163 (by decide) ?_
              refine sw_isub dX12_goOver_164 ?_
              refine sw_top (y := nI (m.2.1 - 1 - 1)) (by rw [nl_1, pk_sub (by omega)]) ?_
              refine sw_ialdN (m.2.1 - 1 - 1) dX12_goOver_165 rfl rfl (show m.2.1 - 1 - 1 < 12 by omega) (by decide) ?_
              refine sw_aload_n dX12_goOver_166 rfl (by first | rfl | assumption) ?_
              refine sw_get dX12_goOver_167 fr_X12_121 rfl rfl ?_
              refine sw_iload dX12_goOver_170 rfl ?_
              refine sw_ialdN (m.2.1 - 1) dX12_goOver_172 rfl rfl (show m.2.1 - 1 < 12 by omega) (by decide) ?_
              refine sw_Sv dX12_goOver_173 k_X12_300 mf_X12_worked (c_X12_worked (d := d - 1) _ _ _) (by omega) (by omega) (by omega) rfl rfl (Nat.le_of_ble_eq_true rfl) ?_
              refine m_iast (m.2.1 - 1 - 1) dX12_goOver_176 ⟨by decide, by decide, rfl⟩ rfl (show m.2.1 - 1 - 1 < 12 by omega) rfl ?_
              refine sw_goto 226 dX12_goOver_177 (by decide) ?_
              refine sw_keep [0, 1, 2, 3, 4, 5, 6, 7] rfl ?_
              refine m_eq (s' := gS s (m.1 + 1, m.2.1 - 1, m.2.2.1, upd m.2.2.2.1 (m.2.1 - 1 - 1) (r_wk (A 176 m.1) (m.2.2.2.1 (m.2.1 - 1 - 1)) (m.2.2.2.1 (m.2.1 - 1))), m.2.2.2.2)) (A' := gA A b (m.1 + 1, m.2.1 - 1, m.2.2.1, upd m.2.2.2.1 (m.2.1 - 1 - 1) (r_wk (A 176 m.1) (m.2.2.2.1 (m.2.1 - 1 - 1)) (m.2.2.2.1 (m.2.1 - 1))), m.2.2.2.2)) rfl (gA_k _ _ _ _) ?_
              exact J _ (by rw [gstep, if_neg (kq0 h78).1, if_neg (kq0 h78).2, if_neg h114, if_pos (kq3 h78 h114 h141).2])
          · obtain ⟨v, hv8, hve⟩ := g5 (Or.inr h114)
            have g7b := g7 (Or.inl h114)
            refine sw_dec1 [(0, _), (1, _), (2, _), (3, _), (4, _), (5, _), (6, _), (7, _), (8, _), (9, _)] dX12_goOver_117 rfl (by omega) (by decide) rfl ?_
            refine sw_aload_n dX12_goOver_120 rfl (by first | rfl | assumption) ?_
            refine sw_get dX12_goOver_121 fr_X12_27 rfl rfl ?_
            refine sw_iload dX12_goOver_124 rfl ?_
            refine sw_aload_n dX12_goOver_126 rfl (by first | rfl | assumption) ?_
            refine sw_get dX12_goOver_127 fr_X12_121 rfl rfl ?_
            refine sw_iload dX12_goOver_130 rfl ?_
            refine sw_ialdN (m.2.1 - 1) dX12_goOver_132 rfl rfl (show m.2.1 - 1 < 12 by omega) (by decide) ?_
            refine m_iast (v) dX12_goOver_133 ⟨by decide, by decide, rfl⟩ hve (show v < 8 by omega) rfl ?_
            refine sw_goto 226 dX12_goOver_134 (by decide) ?_
            refine sw_keep [0, 1, 2, 3, 4, 5, 6, 7] rfl ?_
            refine m_eq (s' := gS s (m.1 + 1, m.2.1 - 1, upd m.2.2.1 v (m.2.2.2.1 (m.2.1 - 1)), m.2.2.2.1, m.2.2.2.2)) (A' := gA A b (m.1 + 1, m.2.1 - 1, upd m.2.2.1 v (m.2.2.2.1 (m.2.1 - 1)), m.2.2.2.1, m.2.2.2.2)) rfl (gA_v _ _ _ _) ?_
            exact J _ (by rw [gstep, if_neg (kq0 h78).1, if_neg (kq0 h78).2, if_pos h114, hve, nI_clamp (by omega)])
        · refine sw_aload_n dX12_goOver_81 rfl (by first | rfl | assumption) ?_
          refine sw_get dX12_goOver_82 fr_X12_121 rfl rfl ?_
          refine sw_iload dX12_goOver_85 rfl ?_
          refine sw_iload dX12_goOver_87 rfl ?_
          refine sw_if_ne 97 dX12_goOver_89 (by decide) (fun h89 => ?_) (fun h89 => ?_)
          · obtain ⟨v, hv8, hve⟩ := g5 (Or.inl (kq1 g3 h78 h89))
            refine sw_aload_n dX12_goOver_97 rfl (by first | rfl | assumption) ?_
            refine sw_get dX12_goOver_98 fr_X12_27 rfl rfl ?_
            refine sw_iload dX12_goOver_101 rfl ?_
            refine sw_top hve ?_
            refine sw_ialdN (v) dX12_goOver_103 rfl rfl (show v < 8 by omega) (by decide) ?_
            refine m_iast (m.2.1) dX12_goOver_104 ⟨by decide, by decide, rfl⟩ rfl (show m.2.1 < 12 by omega) rfl ?_
            first | refine sw_inc1 [(0, _), (1, _), (2, _), (3, _), (4, _), (5, _), (6, _), (7, _), (8, _), (9, _)] dX12_goOver_105 rfl (by decide) rfl ?_ | refine sw_iinc [(0, _), (1, _), (2, _), (3, _), (4, _), (5, _), (6, _), (7, _), (8, _), (9, _)] dX12_goOver_105 rfl (by decide) rfl ?_
            refine sw_goto 226 dX12_goOver_108 (by decide) ?_
            refine sw_keep [0, 1, 2, 3, 4, 5, 6, 7] rfl ?_
            refine m_eq (s' := gS s (m.1 + 1, m.2.1 + 1, m.2.2.1, upd m.2.2.2.1 m.2.1 (m.2.2.1 v), m.2.2.2.2)) (A' := gA A b (m.1 + 1, m.2.1 + 1, m.2.2.1, upd m.2.2.2.1 m.2.1 (m.2.2.1 v), m.2.2.2.2)) rfl (gA_k _ _ _ _) ?_
            exact J _ (by rw [gstep, if_neg h89, if_pos (kq1 g3 h78 h89), hve, nI_clamp (by omega)])
          · refine sw_iload dX12_goOver_92 rfl ?_
            refine sw_goto 104 dX12_goOver_94 (by decide) ?_
            refine m_iast (m.2.1) dX12_goOver_104 ⟨by decide, by decide, rfl⟩ rfl (show m.2.1 < 12 by omega) rfl ?_
            first | refine sw_inc1 [(0, _), (1, _), (2, _), (3, _), (4, _), (5, _), (6, _), (7, _), (8, _), (9, _)] dX12_goOver_105 rfl (by decide) rfl ?_ | refine sw_iinc [(0, _), (1, _), (2, _), (3, _), (4, _), (5, _), (6, _), (7, _), (8, _), (9, _)] dX12_goOver_105 rfl (by decide) rfl ?_
            refine sw_goto 226 dX12_goOver_108 (by decide) ?_
            refine sw_keep [0, 1, 2, 3, 4, 5, 6, 7] rfl ?_
            refine m_eq (s' := gS s (m.1 + 1, m.2.1 + 1, m.2.2.1, upd m.2.2.2.1 m.2.1 (A 177 m.1), m.2.2.2.2)) (A' := gA A b (m.1 + 1, m.2.1 + 1, m.2.2.1, upd m.2.2.2.1 m.2.1 (A 177 m.1), m.2.2.2.2)) rfl (gA_k _ _ _ _) ?_
            exact J _ (by rw [gstep, if_pos h89])
      · rw [grun, if_pos h69]
        refine sw_iload dX12_goOver_72 rfl ?_
        exact sw_iret dX12_goOver_74 rfl (by first | rfl | exact bz_n _) (by omega) (by omega) ⟨rfl, rfl, rfl⟩
set_option maxRecDepth 100000 in
theorem l_X12_go1c {l : Launch} {D : va_G} {cy : Nat → ClassId} {d n : Nat} {f : sw_F} {s : Nat → Int32} {A : Nat → Nat → Int32} {Mo mz : Nat} {Q : sw_Q} {QX : sw_QX} (K : SW l D cy mX12_goOver d 0 0 0 0 30 [(0, .ref 150), (1, .ref 176), (2, .ref 177), (3, .int (nI Mo)), (4, .int (nI mz))] [] n (md f s (va_up A 156 (fillF (A 155) (A 156) (8)))) Q QX) : ∀ (k i : Nat), i ≤ 8 → 8 < i + k → SW l D cy mX12_goOver d 0 0 0 0 3 [(0, .ref 150), (1, .ref 176), (2, .ref 177), (3, .int (nI Mo)), (4, .int (nI mz)), (5, .int (nI i))] [] n (md f s (va_up A 156 (fillF (A 155) (A 156) (i)))) Q QX := by
  intro k
  induction k with
  | zero => intro i0 h1 h2; exact absurd h2 (by omega)
  | succ k ih =>
    intro i hi hk
    refine sw_iload dX12_goOver_3 rfl ?_
    refine sw_bipush (x := 8) dX12_goOver_5 (by decide) ?_
    refine sw_icmp_ge 30 dX12_goOver_7 (by decide) (fun h7 => ?_) (fun h7 => ?_)
    · refine sw_keep [0, 1, 2, 3, 4] rfl ?_
      rw [show i = 8 from Nat.le_antisymm hi ((nI_leI (by omega) (by omega)).mp (by rw [← nl_8]; exact h7))]
      exact K
    · have e1 : i < 8 := (nI_ltI (by omega) (by omega)).mp (by rw [← nl_8]; exact i32_nle.mp h7)
      refine sw_aload_n dX12_goOver_10 rfl (by first | rfl | assumption) ?_
      refine sw_get dX12_goOver_11 fr_X12_30 rfl rfl ?_
      refine sw_iload dX12_goOver_14 rfl ?_
      refine sw_aload_n dX12_goOver_16 rfl (by first | rfl | assumption) ?_
      refine sw_get dX12_goOver_17 fr_X12_27 rfl rfl ?_
      refine sw_iload dX12_goOver_20 rfl ?_
      refine sw_ialdN (i) dX12_goOver_22 rfl rfl (show i < 8 by omega) (by decide) ?_
      refine m_iast (i) dX12_goOver_23 ⟨by decide, by decide, rfl⟩ rfl (show i < 8 by omega) rfl ?_
      first | refine sw_inc1 [(0, _), (1, _), (2, _), (3, _), (4, _), (5, _)] dX12_goOver_24 rfl (by decide) rfl ?_ | refine sw_iinc [(0, _), (1, _), (2, _), (3, _), (4, _), (5, _)] dX12_goOver_24 rfl (by decide) rfl ?_
      refine sw_goto 3 dX12_goOver_27 (by decide) ?_
      refine m_eq rfl ?_ (ih (i + 1) (by omega) (by omega))
      rw [vu_up, vu_at, fill_1 (h := A 155)]
      rfl
set_option maxRecDepth 100000 in
theorem c_X12_goOver_c {l : Launch} {D : va_G} {cy : Nat → ClassId} {d n : Nat} {f : sw_F} {s : Nat → Int32} {A : Nat → Nat → Int32} {Mo mz : Nat} (hd : 1 ≤ d) (hMo : Mo ≤ 100000) (hmz : mz ≤ 5000) {Inv : GS → Prop} (hgood : ∀ m, Inv m → gok (A 176) (A 177) m) (hstep : ∀ m, Inv m → ¬ A 176 m.1 = 9 → Inv (gstep (A 176) (A 177) m)) (hI0 : Inv (0, 0, A 155, A 185, 0)) : sw_Ct l D cy mX12_goOver d 0 0 [.ref 150, .ref 176, .ref 177, .int (nI Mo), .int (nI mz)] n (md f s A) (sw_D (some (.int (gRet (grun (A 176) (A 177) mz Mo 1 (0, 0, A 155, A 185, 0))))) n (md f (gS s (gEnd (fillF (A 155) (A 156) 8) (grun (A 176) (A 177) mz Mo 1 (0, 0, A 155, A 185, 0)))) (gA A (fillF (A 155) (A 156) 8) (gEnd (fillF (A 155) (A 156) 8) (grun (A 176) (A 177) mz Mo 1 (0, 0, A 155, A 185, 0)))))) := by
  refine sw_of rfl (Nat.le_of_ble_eq_true rfl) ?_
  show SW l D cy mX12_goOver d 0 0 0 0 0 [(0, .ref 150), (1, .ref 176), (2, .ref 177), (3, .int (nI Mo)), (4, .int (nI mz))] [] n (md f s A) _ _
  refine sw_iconst (x := 0) dX12_goOver_0 (by decide) ?_
  refine sw_istore [(0, _), (1, _), (2, _), (3, _), (4, _), (5, _)] dX12_goOver_1 (by decide) rfl ?_
  refine m_eq (A' := va_up A 156 (fillF (A 155) (A 156) (0))) rfl (by rw [fill_0, vu_id]) ?_
  refine l_X12_go1c ?_ 9 0 (by omega) (by omega)
  refine sw_iconst (x := 0) dX12_goOver_30 (by decide) ?_
  refine sw_istore [(0, _), (1, _), (2, _), (3, _), (4, _), (5, _)] dX12_goOver_31 (by decide) rfl ?_
  refine sw_iconst (x := 0) dX12_goOver_33 (by decide) ?_
  refine sw_istore [(0, _), (1, _), (2, _), (3, _), (4, _), (5, _), (6, _)] dX12_goOver_34 (by decide) rfl ?_
  refine sw_aload_n dX12_goOver_36 rfl (by first | rfl | assumption) ?_
  refine sw_iconst (x := 0) dX12_goOver_37 (by decide) ?_
  refine m_put dX12_goOver_38 fl_X12_297 (by decide) (sw_fit_i _) rfl ?_
  refine sw_iconst (x := 1) dX12_goOver_41 (by decide) ?_
  refine sw_istore [(0, _), (1, _), (2, _), (3, _), (4, _), (5, _), (6, _), (7, _)] dX12_goOver_42 (by decide) rfl ?_
  refine m_eq (s' := gS s (0, 0, A 155, A 185, 0)) (A' := gA A (fillF (A 155) (A 156) 8) (0, 0, A 155, A 185, 0)) rfl (by show _ = va_up (va_up (va_up A 155 (A 155)) 156 _) 185 (A 185); rw [vu_id]; exact (vu_id (va_up A 156 (fillF (A 155) (A 156) 8)) 185).symm) ?_
  exact l_X12_go2c hd hMo hmz hgood hstep Mo 1 (0, 0, A 155, A 185, 0) (by omega) hI0 (Nat.zero_le _)
set_option maxRecDepth 100000 in
theorem l_X12_go3p {l : Launch} {D : va_G} {cy : Nat → ClassId} {d n : Nat} {f : sw_F} {s : Nat → Int32} {A : Nat → Nat → Int32} {b : Nat → Int32} {m : GS} {Mo mz : Nat} {QX : sw_QX} : ∀ (k i : Nat), i ≤ 8 → 8 < i + k → SW l D cy mX12_goOver d 0 0 0 0 247 [(0, .ref 150), (1, .ref 173), (2, .ref 174), (3, .int (nI Mo)), (4, .int (nI mz)), (7, .int (nI i))] [] n (md f (gS s ((m.1, m.2.1, fillF b m.2.2.1 i, m.2.2.2))) (gA A b ((m.1, m.2.1, fillF b m.2.2.1 i, m.2.2.2)))) (sw_D (some (.int (-1))) n (md f (gS s ((m.1, m.2.1, fillF b m.2.2.1 8, m.2.2.2))) (gA A b ((m.1, m.2.1, fillF b m.2.2.1 8, m.2.2.2))))) QX := by
  intro k
  induction k with
  | zero => intro i0 h1 h2; exact absurd h2 (by omega)
  | succ k ih =>
    intro i hi hk
    refine sw_iload dX12_goOver_247 rfl ?_
    refine sw_bipush (x := 8) dX12_goOver_249 (by decide) ?_
    refine sw_icmp_ge 274 dX12_goOver_251 (by decide) (fun h251 => ?_) (fun h251 => ?_)
    · rw [show i = 8 from Nat.le_antisymm hi ((nI_leI (by omega) (by omega)).mp (by rw [← nl_8]; exact h251))]
      refine sw_iconst (x := (-1)) dX12_goOver_274 (by decide) ?_
      exact sw_iret dX12_goOver_275 rfl (by first | rfl | exact bz_n _) (by omega) (by omega) ⟨rfl, rfl, rfl⟩
    · have e1 : i < 8 := (nI_ltI (by omega) (by omega)).mp (by rw [← nl_8]; exact i32_nle.mp h251)
      refine sw_aload_n dX12_goOver_254 rfl (by first | rfl | assumption) ?_
      refine sw_get dX12_goOver_255 fr_X12_27 rfl rfl ?_
      refine sw_iload dX12_goOver_258 rfl ?_
      refine sw_aload_n dX12_goOver_260 rfl (by first | rfl | assumption) ?_
      refine sw_get dX12_goOver_261 fr_X12_30 rfl rfl ?_
      refine sw_iload dX12_goOver_264 rfl ?_
      refine sw_ialdN (i) dX12_goOver_266 rfl rfl (show i < 8 by omega) (by decide) ?_
      refine m_iast (i) dX12_goOver_267 ⟨by decide, by decide, rfl⟩ rfl (show i < 8 by omega) rfl ?_
      first | refine sw_inc1 [(0, _), (1, _), (2, _), (3, _), (4, _), (7, _)] dX12_goOver_268 rfl (by decide) rfl ?_ | refine sw_iinc [(0, _), (1, _), (2, _), (3, _), (4, _), (7, _)] dX12_goOver_268 rfl (by decide) rfl ?_
      refine sw_goto 247 dX12_goOver_271 (by decide) ?_
      refine m_eq (s' := gS s (m.1, m.2.1, fillF b m.2.2.1 (i + 1), m.2.2.2)) rfl ?_ (ih (i + 1) (by omega) (by omega))
      rw [gA_v]
      exact congrArg (gA A b) (Prod.ext rfl (Prod.ext rfl (Prod.ext (fill_1 (h := b) rfl) rfl)))
set_option maxRecDepth 100000 in
theorem l_X12_go2p {l : Launch} {D : va_G} {cy : Nat → ClassId} {d n : Nat} {f : sw_F} {s : Nat → Int32} {A : Nat → Nat → Int32} {b : Nat → Int32} {Mo mz : Nat} (hd : 1 ≤ d) (hMo : Mo ≤ 100000) (hmz : mz ≤ 5000) {Inv : GS → Prop} (hgood : ∀ m, Inv m → gok (A 173) (A 174) m) (hstep : ∀ m, Inv m → ¬ A 173 m.1 = 9 → Inv (gstep (A 173) (A 174) m)) {QX : sw_QX} : ∀ (k ma : Nat) (m : GS), ma + k = Mo + 1 → Inv m → m.2.2.2.2 ≤ mz → SW l D cy mX12_goOver d 0 0 0 0 44 [(0, .ref 150), (1, .ref 173), (2, .ref 174), (3, .int (nI Mo)), (4, .int (nI mz)), (5, .int (nI (m).1)), (6, .int (nI (m).2.1)), (7, .int (nI (ma)))] [] n (md f (gS s (m)) (gA A b (m))) (sw_D (some (.int (gRet (grun (A 173) (A 174) mz k ma m)))) n (md f (gS s (gEnd b (grun (A 173) (A 174) mz k ma m))) (gA A b (gEnd b (grun (A 173) (A 174) mz k ma m))))) QX := by
  intro k
  induction k with
  | zero =>
    intro ma m hk hI hlk
    refine sw_iload dX12_goOver_44 rfl ?_
    refine sw_iload_n dX12_goOver_46 rfl ?_
    refine sw_icmp_gt 244 dX12_goOver_47 (by decide) (fun h47 => ?_) (fun h47 => absurd (nI_lt (show Mo < ma by omega) (by omega)) h47)
    (refine sw_iconst (x := 0) dX12_goOver_244 (by decide) ?_; refine sw_istore [(0, _), (1, _), (2, _), (3, _), (4, _), (5, _), (6, _), (7, _)] dX12_goOver_245 (by decide) rfl ?_; refine sw_keep [0, 1, 2, 3, 4, 7] rfl ?_; refine m_eq (s' := gS s ((m).1, (m).2.1, fillF b (m).2.2.1 0, (m).2.2.2)) (A' := gA A b ((m).1, (m).2.1, fillF b (m).2.2.1 0, (m).2.2.2)) rfl (by rw [fill_0]) ?_; exact l_X12_go3p (m := m) 9 0 (by omega) (by omega))
  | succ k ih =>
    intro ma m hk hI hlk
    refine sw_iload dX12_goOver_44 rfl ?_
    refine sw_iload_n dX12_goOver_46 rfl ?_
    refine sw_icmp_gt 244 dX12_goOver_47 (by decide) (fun h47 => ?_) (fun h47 => ?_)
    · exact absurd h47 (nI_nlt (by omega) (by omega))
    · have e0 := hgood m hI
      obtain ⟨g1, g2, g3, g4, g5, g6, g7, g8⟩ := e0
      refine sw_aload_n dX12_goOver_50 rfl (by first | rfl | assumption) ?_
      refine sw_iload dX12_goOver_51 rfl ?_
      refine sw_ialdN (m.1) dX12_goOver_53 rfl rfl (show m.1 < 100 by omega) (by decide) ?_
      refine sw_top (y := A 173 m.1) rfl ?_
      refine sw_istore [(0, _), (1, _), (2, _), (3, _), (4, _), (5, _), (6, _), (7, _), (8, _)] dX12_goOver_54 (by decide) rfl ?_
      refine sw_aload_n dX12_goOver_56 rfl (by first | rfl | assumption) ?_
      refine sw_iload dX12_goOver_57 rfl ?_
      refine sw_ialdN (m.1) dX12_goOver_59 rfl rfl (show m.1 < 100 by omega) (by decide) ?_
      refine sw_top (y := A 174 m.1) rfl ?_
      refine sw_istore [(0, _), (1, _), (2, _), (3, _), (4, _), (5, _), (6, _), (7, _), (8, _), (9, _)] dX12_goOver_60 (by decide) rfl ?_
      first | refine sw_inc1 [(0, _), (1, _), (2, _), (3, _), (4, _), (5, _), (6, _), (7, _), (8, _), (9, _)] dX12_goOver_62 rfl (by decide) rfl ?_ | refine sw_iinc [(0, _), (1, _), (2, _), (3, _), (4, _), (5, _), (6, _), (7, _), (8, _), (9, _)] dX12_goOver_62 rfl (by decide) rfl ?_
      refine sw_iload dX12_goOver_65 rfl ?_
      refine sw_bipush (x := 9) dX12_goOver_67 (by decide) ?_
      refine sw_icmp_ne 75 dX12_goOver_69 (by decide) (fun h69 => ?_) (fun h69 => ?_)
      · rw [grun, if_neg h69]
        have J : ∀ m2 : GS, m2 = gstep (A 173) (A 174) m → SW l D cy mX12_goOver d 0 0 0 0 226 [(0, .ref 150), (1, .ref 173), (2, .ref 174), (3, .int (nI Mo)), (4, .int (nI mz)), (5, .int (nI (m2).1)), (6, .int (nI (m2).2.1)), (7, .int (nI (ma)))] [] n (md f (gS s (m2)) (gA A b (m2))) (sw_D (some (.int (gRet (if mz < (gstep (A 173) (A 174) m).2.2.2.2 then (none, gstep (A 173) (A 174) m) else grun (A 173) (A 174) mz k (ma + 1) (gstep (A 173) (A 174) m))))) n (md f (gS s (gEnd b (if mz < (gstep (A 173) (A 174) m).2.2.2.2 then (none, gstep (A 173) (A 174) m) else grun (A 173) (A 174) mz k (ma + 1) (gstep (A 173) (A 174) m)))) (gA A b (gEnd b (if mz < (gstep (A 173) (A 174) m).2.2.2.2 then (none, gstep (A 173) (A 174) m) else grun (A 173) (A 174) mz k (ma + 1) (gstep (A 173) (A 174) m)))))) QX := by
          intro m2 hm2
          have hI2 := hstep m hI h69
          rw [← hm2] at hI2 ⊢
          have hz2 : m2.2.2.2.2 ≤ mz + 1 := by rw [hm2]; exact Nat.le_trans (gstep_lk _ _ m) (by omega)
          refine sw_aload_n dX12_goOver_226 rfl (by first | rfl | assumption) ?_
          refine sw_get dX12_goOver_227 fr_X12_297 rfl rfl ?_
          refine sw_top (y := nI m2.2.2.2.2) rfl ?_
          refine sw_iload dX12_goOver_230 rfl ?_
          refine sw_icmp_le 238 dX12_goOver_232 (by decide) (fun h232 => ?_) (fun h232 => ?_)
          · first | refine sw_inc1 [(0, _), (1, _), (2, _), (3, _), (4, _), (5, _), (6, _), (7, _)] dX12_goOver_238 rfl (by decide) rfl ?_ | refine sw_iinc [(0, _), (1, _), (2, _), (3, _), (4, _), (5, _), (6, _), (7, _)] dX12_goOver_238 rfl (by decide) rfl ?_
            refine sw_goto 44 dX12_goOver_241 (by decide) ?_
            first | (have e9 := (nI_leI (by omega) (by omega)).mp h232; rw [if_neg (Nat.not_lt.mpr e9)]; exact ih (ma + 1) m2 (by omega) hI2 e9) | (refine sw_iload dX12_goOver_44 rfl ?_; refine sw_iload_n dX12_goOver_46 rfl ?_; refine sw_icmp_gt 244 dX12_goOver_47 (by decide) (fun h47b => ?_) (fun h47b => absurd (nI_lt (show Mo < Mo + 1 by omega) (by omega)) h47b); (refine sw_iconst (x := 0) dX12_goOver_244 (by decide) ?_; refine sw_istore [(0, _), (1, _), (2, _), (3, _), (4, _), (5, _), (6, _), (7, _)] dX12_goOver_245 (by decide) rfl ?_; refine sw_keep [0, 1, 2, 3, 4, 7] rfl ?_; refine m_eq (s' := gS s ((m2).1, (m2).2.1, fillF b (m2).2.2.1 0, (m2).2.2.2)) (A' := gA A b ((m2).1, (m2).2.1, fillF b (m2).2.2.1 0, (m2).2.2.2)) rfl (by rw [fill_0]) ?_; exact l_X12_go3p (m := m2) 9 0 (by omega) (by omega)))
          · have e8 : mz < m2.2.2.2.2 := Nat.not_le.mp (fun q => h232 ((nI_leI (by omega) (by omega)).mpr q))
            rw [if_pos e8]
            refine sw_iload_n dX12_goOver_235 rfl ?_
            refine sw_istore [(0, _), (1, _), (2, _), (3, _), (4, _), (5, _), (6, _), (7, _)] dX12_goOver_236 (by decide) rfl ?_
            first | refine sw_inc1 [(0, _), (1, _), (2, _), (3, _), (4, _), (5, _), (6, _), (7, _)] dX12_goOver_238 rfl (by decide) rfl ?_ | refine sw_iinc [(0, _), (1, _), (2, _), (3, _), (4, _), (5, _), (6, _), (7, _)] dX12_goOver_238 rfl (by decide) rfl ?_
            refine sw_goto 44 dX12_goOver_241 (by decide) ?_
            first | (have e9 := (nI_leI (by omega) (by omega)).mp h232; rw [if_neg (Nat.not_lt.mpr e9)]; exact ih (ma + 1) m2 (by omega) hI2 e9) | (refine sw_iload dX12_goOver_44 rfl ?_; refine sw_iload_n dX12_goOver_46 rfl ?_; refine sw_icmp_gt 244 dX12_goOver_47 (by decide) (fun h47b => ?_) (fun h47b => absurd (nI_lt (show Mo < Mo + 1 by omega) (by omega)) h47b); (refine sw_iconst (x := 0) dX12_goOver_244 (by decide) ?_; refine sw_istore [(0, _), (1, _), (2, _), (3, _), (4, _), (5, _), (6, _), (7, _)] dX12_goOver_245 (by decide) rfl ?_; refine sw_keep [0, 1, 2, 3, 4, 7] rfl ?_; refine m_eq (s' := gS s ((m2).1, (m2).2.1, fillF b (m2).2.2.1 0, (m2).2.2.2)) (A' := gA A b ((m2).1, (m2).2.1, fillF b (m2).2.2.1 0, (m2).2.2.2)) rfl (by rw [fill_0]) ?_; exact l_X12_go3p (m := m2) 9 0 (by omega) (by omega)))
        refine sw_iload dX12_goOver_75 rfl ?_
        refine sw_iconst (x := 2) dX12_goOver_77 (by decide) ?_
        refine sw_icmp_ge 111 dX12_goOver_78 (by decide) (fun h78 => ?_) (fun h78 => ?_)
        · refine sw_iload dX12_goOver_111 rfl ?_
          refine sw_iconst (x := 2) dX12_goOver_113 (by decide) ?_
          refine sw_icmp_ne 137 dX12_goOver_114 (by decide) (fun h114 => ?_) (fun h114 => ?_)
          · refine sw_iload dX12_goOver_137 rfl ?_
            refine sw_bipush (x := 7) dX12_goOver_139 (by decide) ?_
            refine sw_icmp_ge 180 dX12_goOver_141 (by decide) (fun h141 => ?_) (fun h141 => ?_)
            · refine sw_iload dX12_goOver_180 rfl ?_
              refine sw_bipush (x := 7) dX12_goOver_182 (by decide) ?_
              refine sw_icmp_ne 222 dX12_goOver_184 (by decide) (fun h184 => ?_) (fun h184 => ?_)
              · obtain ⟨t, ht, hte⟩ := g6 (Or.inr (kq8 h141 g4 h184 h69))
                refine sw_iload dX12_goOver_222 rfl ?_
                refine sw_top (y := nI t) hte ?_
                refine sw_istore [(0, _), (1, _), (2, _), (3, _), (4, _), (5, _), (6, _), (7, _), (8, _), (9, _)] dX12_goOver_224 (by decide) rfl ?_
                refine sw_keep [0, 1, 2, 3, 4, 5, 6, 7] rfl ?_
                refine m_eq (s' := gS s (t, m.2.1, m.2.2.1, m.2.2.2.1, m.2.2.2.2)) (A' := gA A b (t, m.2.1, m.2.2.1, m.2.2.2.1, m.2.2.2.2)) rfl (rfl) ?_
                exact J _ (by rw [gstep, if_neg (kq0 h78).1, if_neg (kq0 h78).2, if_neg h114, if_neg (kq7 h141), if_neg h184, hte, nI_clamp (by omega)])
              · have g7b := g7 (Or.inr h184)
                obtain ⟨t, ht, hte⟩ := g6 (Or.inl h184)
                refine sw_dec1 [(0, _), (1, _), (2, _), (3, _), (4, _), (5, _), (6, _), (7, _), (8, _), (9, _)] dX12_goOver_187 rfl (by omega) (by decide) rfl ?_
                refine sw_aload_n dX12_goOver_190 rfl (by first | rfl | assumption) ?_
                refine sw_dup dX12_goOver_191 rfl ?_
                refine sw_get dX12_goOver_192 fr_X12_297 rfl rfl ?_
                refine sw_iconst (x := 1) dX12_goOver_195 (by decide) ?_
                refine sw_iadd dX12_goOver_196 ?_
                refine m_put dX12_goOver_197 fl_X12_297 (by decide) (sw_fit_i _) rfl ?_
                refine m_eq (s' := va_up s 49 (nI (m.2.2.2.2 + 1))) (A' := gA A b m) (by rw [gS, vu_up]; exact congrArg (va_up s 49) (nI_1 _)) rfl ?_
                refine sw_aload_n dX12_goOver_200 rfl (by first | rfl | assumption) ?_
                refine sw_get dX12_goOver_201 fr_X12_121 rfl rfl ?_
                refine sw_iload dX12_goOver_204 rfl ?_
                refine sw_ialdN (m.2.1 - 1) dX12_goOver_206 rfl rfl (show m.2.1 - 1 < 12 by omega) (by decide) ?_
                refine sw_if_ne 215 dX12_goOver_207 (by decide) (fun h207 => ?_) (fun h207 => ?_)
                · refine sw_iload dX12_goOver_215 rfl ?_
                  refine sw_top (y := nI (if m.2.2.2.1 (m.2.1 - 1) = 0 then t else m.1 + 1)) (by first | (have h207 : m.2.2.2.1 (m.2.1 - 1) = 0 := h207; rw [if_pos h207]; exact hte) | (have h207 : ¬ m.2.2.2.1 (m.2.1 - 1) = 0 := h207; rw [if_neg h207])) ?_
                  refine sw_istore [(0, _), (1, _), (2, _), (3, _), (4, _), (5, _), (6, _), (7, _), (8, _), (9, _)] dX12_goOver_217 (by decide) rfl ?_
                  refine sw_goto 226 dX12_goOver_219 (by decide) ?_
                  refine sw_keep [0, 1, 2, 3, 4, 5, 6, 7] rfl ?_
                  refine m_eq (s' := gS s (if m.2.2.2.1 (m.2.1 - 1) = 0 then t else m.1 + 1, m.2.1 - 1, m.2.2.1, m.2.2.2.1, m.2.2.2.2 + 1)) (A' := gA A b (if m.2.2.2.1 (m.2.1 - 1) = 0 then t else m.1 + 1, m.2.1 - 1, m.2.2.1, m.2.2.2.1, m.2.2.2.2 + 1)) rfl (rfl) ?_
                  exact J _ (by rw [gstep, if_neg (kq0 h78).1, if_neg (kq0 h78).2, if_neg h114, if_neg (kq7 h141), if_pos h184, hte, nI_clamp (by omega)])
                · refine sw_iload dX12_goOver_210 rfl ?_
                  refine sw_goto 217 dX12_goOver_212 (by decide) ?_
                  refine sw_top (y := nI (if m.2.2.2.1 (m.2.1 - 1) = 0 then t else m.1 + 1)) (by first | (have h207 : m.2.2.2.1 (m.2.1 - 1) = 0 := h207; rw [if_pos h207]; exact hte) | (have h207 : ¬ m.2.2.2.1 (m.2.1 - 1) = 0 := h207; rw [if_neg h207])) ?_
                  refine sw_istore [(0, _), (1, _), (2, _), (3, _), (4, _), (5, _), (6, _), (7, _), (8, _), (9, _)] dX12_goOver_217 (by decide) rfl ?_
                  refine sw_goto 226 dX12_goOver_219 (by decide) ?_
                  refine sw_keep [0, 1, 2, 3, 4, 5, 6, 7] rfl ?_
                  refine m_eq (s' := gS s (if m.2.2.2.1 (m.2.1 - 1) = 0 then t else m.1 + 1, m.2.1 - 1, m.2.2.1, m.2.2.2.1, m.2.2.2.2 + 1)) (A' := gA A b (if m.2.2.2.1 (m.2.1 - 1) = 0 then t else m.1 + 1, m.2.1 - 1, m.2.2.1, m.2.2.2.1, m.2.2.2.2 + 1)) rfl (rfl) ?_
                  exact J _ (by rw [gstep, if_neg (kq0 h78).1, if_neg (kq0 h78).2, if_neg h114, if_neg (kq7 h141), if_pos h184, hte, nI_clamp (by omega)])
            · have g8b := g8 (kq3 h78 h114 h141)
              refine sw_dec1 [(0, _), (1, _), (2, _), (3, _), (4, _), (5, _), (6, _), (7, _), (8, _), (9, _)] dX12_goOver_144 rfl (by omega) (by decide) rfl ?_
              refine sw_aload_n dX12_goOver_147 rfl (by first | rfl | assumption) ?_
              refine sw_get dX12_goOver_148 fr_X12_121 rfl rfl ?_
              refine sw_iload dX12_goOver_151 rfl ?_
              refine sw_iconst (x := 1) dX12_goOver_153 (by decide) ?_
              refine sw_isub dX12_goOver_154 ?_
              refine sw_top (y := nI (m.2.1 - 1 - 1)) (by rw [nl_1, pk_sub (by omega)]) ?_
              refine sw_iload dX12_goOver_155 rfl ?_
              refine sw_aload_n dX12_goOver_157 rfl (by first | rfl | assumption) ?_
              refine sw_get dX12_goOver_158 fr_X12_121 rfl rfl ?_
              refine sw_iload dX12_goOver_161 rfl ?_
              refine sw_iconst (x := 1) dX12_goOver_163 (by decide) ?_
              refine sw_isub dX12_goOver_164 ?_
              refine sw_top (y := nI (m.2.1 - 1 - 1)) (by rw [nl_1, pk_sub (by omega)]) ?_
              refine sw_ialdN (m.2.1 - 1 - 1) dX12_goOver_165 rfl rfl (show m.2.1 - 1 - 1 < 12 by omega) (by decide) ?_
              refine sw_aload_n dX12_goOver_166 rfl (by first | rfl | assumption) ?_
              refine sw_get dX12_goOver_167 fr_X12_121 rfl rfl ?_
              refine sw_iload dX12_goOver_170 rfl ?_
              refine sw_ialdN (m.2.1 - 1) dX12_goOver_172 rfl rfl (show m.2.1 - 1 < 12 by omega) (by decide) ?_
              refine sw_Sv dX12_goOver_173 k_X12_300 mf_X12_worked (c_X12_worked (d := d - 1) _ _ _) (by omega) (by omega) (by omega) rfl rfl (Nat.le_of_ble_eq_true rfl) ?_
              refine m_iast (m.2.1 - 1 - 1) dX12_goOver_176 ⟨by decide, by decide, rfl⟩ rfl (show m.2.1 - 1 - 1 < 12 by omega) rfl ?_
              refine sw_goto 226 dX12_goOver_177 (by decide) ?_
              refine sw_keep [0, 1, 2, 3, 4, 5, 6, 7] rfl ?_
              refine m_eq (s' := gS s (m.1 + 1, m.2.1 - 1, m.2.2.1, upd m.2.2.2.1 (m.2.1 - 1 - 1) (r_wk (A 173 m.1) (m.2.2.2.1 (m.2.1 - 1 - 1)) (m.2.2.2.1 (m.2.1 - 1))), m.2.2.2.2)) (A' := gA A b (m.1 + 1, m.2.1 - 1, m.2.2.1, upd m.2.2.2.1 (m.2.1 - 1 - 1) (r_wk (A 173 m.1) (m.2.2.2.1 (m.2.1 - 1 - 1)) (m.2.2.2.1 (m.2.1 - 1))), m.2.2.2.2)) rfl (gA_k _ _ _ _) ?_
              exact J _ (by rw [gstep, if_neg (kq0 h78).1, if_neg (kq0 h78).2, if_neg h114, if_pos (kq3 h78 h114 h141).2])
          · obtain ⟨v, hv8, hve⟩ := g5 (Or.inr h114)
            have g7b := g7 (Or.inl h114)
            refine sw_dec1 [(0, _), (1, _), (2, _), (3, _), (4, _), (5, _), (6, _), (7, _), (8, _), (9, _)] dX12_goOver_117 rfl (by omega) (by decide) rfl ?_
            refine sw_aload_n dX12_goOver_120 rfl (by first | rfl | assumption) ?_
            refine sw_get dX12_goOver_121 fr_X12_27 rfl rfl ?_
            refine sw_iload dX12_goOver_124 rfl ?_
            refine sw_aload_n dX12_goOver_126 rfl (by first | rfl | assumption) ?_
            refine sw_get dX12_goOver_127 fr_X12_121 rfl rfl ?_
            refine sw_iload dX12_goOver_130 rfl ?_
            refine sw_ialdN (m.2.1 - 1) dX12_goOver_132 rfl rfl (show m.2.1 - 1 < 12 by omega) (by decide) ?_
            refine m_iast (v) dX12_goOver_133 ⟨by decide, by decide, rfl⟩ hve (show v < 8 by omega) rfl ?_
            refine sw_goto 226 dX12_goOver_134 (by decide) ?_
            refine sw_keep [0, 1, 2, 3, 4, 5, 6, 7] rfl ?_
            refine m_eq (s' := gS s (m.1 + 1, m.2.1 - 1, upd m.2.2.1 v (m.2.2.2.1 (m.2.1 - 1)), m.2.2.2.1, m.2.2.2.2)) (A' := gA A b (m.1 + 1, m.2.1 - 1, upd m.2.2.1 v (m.2.2.2.1 (m.2.1 - 1)), m.2.2.2.1, m.2.2.2.2)) rfl (gA_v _ _ _ _) ?_
            exact J _ (by rw [gstep, if_neg (kq0 h78).1, if_neg (kq0 h78).2, if_pos h114, hve, nI_clamp (by omega)])
        · refine sw_aload_n dX12_goOver_81 rfl (by first | rfl | assumption) ?_
          refine sw_get dX12_goOver_82 fr_X12_121 rfl rfl ?_
          refine sw_iload dX12_goOver_85 rfl ?_
          refine sw_iload dX12_goOver_87 rfl ?_
          refine sw_if_ne 97 dX12_goOver_89 (by decide) (fun h89 => ?_) (fun h89 => ?_)
          · obtain ⟨v, hv8, hve⟩ := g5 (Or.inl (kq1 g3 h78 h89))
            refine sw_aload_n dX12_goOver_97 rfl (by first | rfl | assumption) ?_
            refine sw_get dX12_goOver_98 fr_X12_27 rfl rfl ?_
            refine sw_iload dX12_goOver_101 rfl ?_
            refine sw_top hve ?_
            refine sw_ialdN (v) dX12_goOver_103 rfl rfl (show v < 8 by omega) (by decide) ?_
            refine m_iast (m.2.1) dX12_goOver_104 ⟨by decide, by decide, rfl⟩ rfl (show m.2.1 < 12 by omega) rfl ?_
            first | refine sw_inc1 [(0, _), (1, _), (2, _), (3, _), (4, _), (5, _), (6, _), (7, _), (8, _), (9, _)] dX12_goOver_105 rfl (by decide) rfl ?_ | refine sw_iinc [(0, _), (1, _), (2, _), (3, _), (4, _), (5, _), (6, _), (7, _), (8, _), (9, _)] dX12_goOver_105 rfl (by decide) rfl ?_
            refine sw_goto 226 dX12_goOver_108 (by decide) ?_
            refine sw_keep [0, 1, 2, 3, 4, 5, 6, 7] rfl ?_
            refine m_eq (s' := gS s (m.1 + 1, m.2.1 + 1, m.2.2.1, upd m.2.2.2.1 m.2.1 (m.2.2.1 v), m.2.2.2.2)) (A' := gA A b (m.1 + 1, m.2.1 + 1, m.2.2.1, upd m.2.2.2.1 m.2.1 (m.2.2.1 v), m.2.2.2.2)) rfl (gA_k _ _ _ _) ?_
            exact J _ (by rw [gstep, if_neg h89, if_pos (kq1 g3 h78 h89), hve, nI_clamp (by omega)])
          · refine sw_iload dX12_goOver_92 rfl ?_
            refine sw_goto 104 dX12_goOver_94 (by decide) ?_
            refine m_iast (m.2.1) dX12_goOver_104 ⟨by decide, by decide, rfl⟩ rfl (show m.2.1 < 12 by omega) rfl ?_
            first | refine sw_inc1 [(0, _), (1, _), (2, _), (3, _), (4, _), (5, _), (6, _), (7, _), (8, _), (9, _)] dX12_goOver_105 rfl (by decide) rfl ?_ | refine sw_iinc [(0, _), (1, _), (2, _), (3, _), (4, _), (5, _), (6, _), (7, _), (8, _), (9, _)] dX12_goOver_105 rfl (by decide) rfl ?_
            refine sw_goto 226 dX12_goOver_108 (by decide) ?_
            refine sw_keep [0, 1, 2, 3, 4, 5, 6, 7] rfl ?_
            refine m_eq (s' := gS s (m.1 + 1, m.2.1 + 1, m.2.2.1, upd m.2.2.2.1 m.2.1 (A 174 m.1), m.2.2.2.2)) (A' := gA A b (m.1 + 1, m.2.1 + 1, m.2.2.1, upd m.2.2.2.1 m.2.1 (A 174 m.1), m.2.2.2.2)) rfl (gA_k _ _ _ _) ?_
            exact J _ (by rw [gstep, if_pos h89])
      · rw [grun, if_pos h69]
        refine sw_iload dX12_goOver_72 rfl ?_
        exact sw_iret dX12_goOver_74 rfl (by first | rfl | exact bz_n _) (by omega) (by omega) ⟨rfl, rfl, rfl⟩
set_option maxRecDepth 100000 in
theorem l_X12_go1p {l : Launch} {D : va_G} {cy : Nat → ClassId} {d n : Nat} {f : sw_F} {s : Nat → Int32} {A : Nat → Nat → Int32} {Mo mz : Nat} {Q : sw_Q} {QX : sw_QX} (K : SW l D cy mX12_goOver d 0 0 0 0 30 [(0, .ref 150), (1, .ref 173), (2, .ref 174), (3, .int (nI Mo)), (4, .int (nI mz))] [] n (md f s (va_up A 156 (fillF (A 155) (A 156) (8)))) Q QX) : ∀ (k i : Nat), i ≤ 8 → 8 < i + k → SW l D cy mX12_goOver d 0 0 0 0 3 [(0, .ref 150), (1, .ref 173), (2, .ref 174), (3, .int (nI Mo)), (4, .int (nI mz)), (5, .int (nI i))] [] n (md f s (va_up A 156 (fillF (A 155) (A 156) (i)))) Q QX := by
  intro k
  induction k with
  | zero => intro i0 h1 h2; exact absurd h2 (by omega)
  | succ k ih =>
    intro i hi hk
    refine sw_iload dX12_goOver_3 rfl ?_
    refine sw_bipush (x := 8) dX12_goOver_5 (by decide) ?_
    refine sw_icmp_ge 30 dX12_goOver_7 (by decide) (fun h7 => ?_) (fun h7 => ?_)
    · refine sw_keep [0, 1, 2, 3, 4] rfl ?_
      rw [show i = 8 from Nat.le_antisymm hi ((nI_leI (by omega) (by omega)).mp (by rw [← nl_8]; exact h7))]
      exact K
    · have e1 : i < 8 := (nI_ltI (by omega) (by omega)).mp (by rw [← nl_8]; exact i32_nle.mp h7)
      refine sw_aload_n dX12_goOver_10 rfl (by first | rfl | assumption) ?_
      refine sw_get dX12_goOver_11 fr_X12_30 rfl rfl ?_
      refine sw_iload dX12_goOver_14 rfl ?_
      refine sw_aload_n dX12_goOver_16 rfl (by first | rfl | assumption) ?_
      refine sw_get dX12_goOver_17 fr_X12_27 rfl rfl ?_
      refine sw_iload dX12_goOver_20 rfl ?_
      refine sw_ialdN (i) dX12_goOver_22 rfl rfl (show i < 8 by omega) (by decide) ?_
      refine m_iast (i) dX12_goOver_23 ⟨by decide, by decide, rfl⟩ rfl (show i < 8 by omega) rfl ?_
      first | refine sw_inc1 [(0, _), (1, _), (2, _), (3, _), (4, _), (5, _)] dX12_goOver_24 rfl (by decide) rfl ?_ | refine sw_iinc [(0, _), (1, _), (2, _), (3, _), (4, _), (5, _)] dX12_goOver_24 rfl (by decide) rfl ?_
      refine sw_goto 3 dX12_goOver_27 (by decide) ?_
      refine m_eq rfl ?_ (ih (i + 1) (by omega) (by omega))
      rw [vu_up, vu_at, fill_1 (h := A 155)]
      rfl
set_option maxRecDepth 100000 in
theorem c_X12_goOver_p {l : Launch} {D : va_G} {cy : Nat → ClassId} {d n : Nat} {f : sw_F} {s : Nat → Int32} {A : Nat → Nat → Int32} {Mo mz : Nat} (hd : 1 ≤ d) (hMo : Mo ≤ 100000) (hmz : mz ≤ 5000) {Inv : GS → Prop} (hgood : ∀ m, Inv m → gok (A 173) (A 174) m) (hstep : ∀ m, Inv m → ¬ A 173 m.1 = 9 → Inv (gstep (A 173) (A 174) m)) (hI0 : Inv (0, 0, A 155, A 185, 0)) : sw_Ct l D cy mX12_goOver d 0 0 [.ref 150, .ref 173, .ref 174, .int (nI Mo), .int (nI mz)] n (md f s A) (sw_D (some (.int (gRet (grun (A 173) (A 174) mz Mo 1 (0, 0, A 155, A 185, 0))))) n (md f (gS s (gEnd (fillF (A 155) (A 156) 8) (grun (A 173) (A 174) mz Mo 1 (0, 0, A 155, A 185, 0)))) (gA A (fillF (A 155) (A 156) 8) (gEnd (fillF (A 155) (A 156) 8) (grun (A 173) (A 174) mz Mo 1 (0, 0, A 155, A 185, 0)))))) := by
  refine sw_of rfl (Nat.le_of_ble_eq_true rfl) ?_
  show SW l D cy mX12_goOver d 0 0 0 0 0 [(0, .ref 150), (1, .ref 173), (2, .ref 174), (3, .int (nI Mo)), (4, .int (nI mz))] [] n (md f s A) _ _
  refine sw_iconst (x := 0) dX12_goOver_0 (by decide) ?_
  refine sw_istore [(0, _), (1, _), (2, _), (3, _), (4, _), (5, _)] dX12_goOver_1 (by decide) rfl ?_
  refine m_eq (A' := va_up A 156 (fillF (A 155) (A 156) (0))) rfl (by rw [fill_0, vu_id]) ?_
  refine l_X12_go1p ?_ 9 0 (by omega) (by omega)
  refine sw_iconst (x := 0) dX12_goOver_30 (by decide) ?_
  refine sw_istore [(0, _), (1, _), (2, _), (3, _), (4, _), (5, _)] dX12_goOver_31 (by decide) rfl ?_
  refine sw_iconst (x := 0) dX12_goOver_33 (by decide) ?_
  refine sw_istore [(0, _), (1, _), (2, _), (3, _), (4, _), (5, _), (6, _)] dX12_goOver_34 (by decide) rfl ?_
  refine sw_aload_n dX12_goOver_36 rfl (by first | rfl | assumption) ?_
  refine sw_iconst (x := 0) dX12_goOver_37 (by decide) ?_
  refine m_put dX12_goOver_38 fl_X12_297 (by decide) (sw_fit_i _) rfl ?_
  refine sw_iconst (x := 1) dX12_goOver_41 (by decide) ?_
  refine sw_istore [(0, _), (1, _), (2, _), (3, _), (4, _), (5, _), (6, _), (7, _)] dX12_goOver_42 (by decide) rfl ?_
  refine m_eq (s' := gS s (0, 0, A 155, A 185, 0)) (A' := gA A (fillF (A 155) (A 156) 8) (0, 0, A 155, A 185, 0)) rfl (by show _ = va_up (va_up (va_up A 155 (A 155)) 156 _) 185 (A 185); rw [vu_id]; exact (vu_id (va_up A 156 (fillF (A 155) (A 156) 8)) 185).symm) ?_
  exact l_X12_go2p hd hMo hmz hgood hstep Mo 1 (0, 0, A 155, A 185, 0) (by omega) hI0 (Nat.zero_le _)
