/-! ===== THE REFERENCE: lay ===== -/
def sy (A : Nat → Nat → Int32) (k : Nat) (w g : Int32) : Nat → Nat → Int32 := va_up (va_up A 173 (upd (A 173) k w)) 174 (upd (A 174) k g)
theorem sy_q {A : Nat → Nat → Int32} {k : Nat} {w g : Int32} {q : Nat} (h : ¬ (q = 173 ∨ q = 174)) : sy A k w g q = A q := by
  unfold sy
  rw [vu_ne _ (show ¬ q = 174 by omega), vu_ne _ (show ¬ q = 173 by omega)]
theorem sy_k {A : Nat → Nat → Int32} {k : Nat} {w g : Int32} : sy A k w g 173 k = w ∧ sy A k w g 174 k = g := by
  unfold sy va_up upd
  simp
theorem sy_j {A : Nat → Nat → Int32} {k : Nat} {w g : Int32} {j : Nat} (h : ¬ j = k) : sy A k w g 173 j = A 173 j ∧ sy A k w g 174 j = A 174 j := by
  unfold sy va_up upd
  simp [h]
theorem sb_e {a b : Nat} (h : a = b + 1) : nI a - 1 = nI b := by
  subst h
  exact sb_1 (by omega)
def LYF (A A' : Nat → Nat → Int32) (k len w wl : Nat) : Prop := (∀ q, ¬ (q = 168 ∨ q = 173 ∨ q = 174) → A' q = A q) ∧ (∀ i, i < k ∨ k + len ≤ i → A' 168 i = A 168 i) ∧ (∀ j, j < w ∨ w + wl ≤ j → A' 173 j = A 173 j ∧ A' 174 j = A 174 j)
theorem cd_y {A A' : Nat → Nat → Int32} {k len w wl j : Nat} (h : LYF A A' k len w wl) (hj : j < w ∨ w + wl ≤ j) {x y : Int32} (z : A 173 j = x ∧ A 174 j = y) : A' 173 j = x ∧ A' 174 j = y := by
  rw [(h.2.2 j hj).1, (h.2.2 j hj).2]; exact z
def plR (A : Nat → Nat → Int32) : RT → Nat → Nat → Prop
  | .leaf _, _, _ => True
  | .branch v x R, k, w => A 168 k = nI w ∧ plR A R (k + szS (.branch v x R)) (w + lnS (.branch v x R))
theorem plR_cg {A A' : Nat → Nat → Int32} : ∀ (t : RT) (k w : Nat), (∀ i, k ≤ i → i < k + szR t → A' 168 i = A 168 i) → rpR A t k → mzR A t k → plR A t k w → plR A' t k w
  | .leaf _, k, w, h, _, _, r => r
  | .branch v x R, k, w, h, p, m, r => by
    obtain ⟨s1, s2, s3, s4, s5, s6, s7⟩ := st_1 p m
    rw [s6] at h
    refine ⟨by rw [h k (by omega) (by omega)]; exact r.1, plR_cg R _ _ (fun i h1 h2 => h i (by omega) (by omega)) s3 s4 r.2⟩
set_option maxRecDepth 100000 in
theorem l_yE {l : Launch} {D : va_G} {cy : Nat → ClassId} {d n : Nat} {f : sw_F} {s : Nat → Int32} {Q : sw_Q} {QX : sw_QX} {P : Nat} (hP : s 15 = nI P) (hd : 1 ≤ d) (hP2 : P ≤ 160) : ∀ (e : ET) (k w : Nat) (A : Nat → Nat → Int32), rpE A e k → wfE e → mzE A e k → A 168 k = nI w → k + szE e ≤ P → w + szE e ≤ 99 → (∀ A', LYF A A' k (szE e) w (szE e) → cdE (A' 173) (A' 174) e w → SW l D cy mX12_lay d 0 0 0 0 34 [(0, .ref 150), (1, .int (nI (k + (szE e))))] [] n (md f s A') Q QX) → SW l D cy mX12_lay d 0 0 0 0 34 [(0, .ref 150), (1, .int (nI (k)))] [] n (md f s A) Q QX
  | .leaf (w0, v), k, w, A, r, wf, m, hp, hs, hw, K => by
    obtain ⟨r1, r2, r3⟩ := r
    rw [szE] at hs hw K
    rcases wf with ⟨wf, _⟩ | ⟨wf, _⟩
    · have hk : A 159 k = 0 := by rw [r1, wf]; rfl
      refine sw_iload_n dX12_lay_34 rfl ?_
      refine sw_aload_n dX12_lay_35 rfl (by first | rfl | assumption) ?_
      refine sw_get dX12_lay_36 fr_X12_171 rfl rfl ?_
      refine sw_top (y := nI P) hP ?_
      refine sw_icmp_ge 380 dX12_lay_39 (by decide) (fun h39 => ?_) (fun h39 => ?_)
      · exact absurd h39 (by rw [nI_leI (by omega) (by omega)]; omega)
      · refine sw_aload_n dX12_lay_42 rfl (by first | rfl | assumption) ?_
        refine sw_get dX12_lay_43 fr_X12_70 rfl rfl ?_
        refine sw_iload_n dX12_lay_46 rfl ?_
        refine sw_ialdN (k) dX12_lay_47 rfl rfl (show k < 160 by omega) (by decide) ?_
        refine sw_top (y := nI (w)) hp ?_
        refine sw_istore_n [(0, _), (1, _), (2, _)] dX12_lay_48 (by decide) rfl ?_
        refine sw_iconst (x := 0) dX12_lay_49 (by decide) ?_
        refine sw_top (y := nI 0) rfl ?_
        refine sw_istore_n [(0, _), (1, _), (2, _), (3, _)] dX12_lay_50 (by decide) rfl ?_
        refine sw_aload_n dX12_lay_51 rfl (by first | rfl | assumption) ?_
        refine sw_get dX12_lay_52 fr_X12_52 rfl rfl ?_
        refine sw_iload_n dX12_lay_55 rfl ?_
        refine sw_ialdN (k) dX12_lay_56 rfl rfl (show k < 160 by omega) (by decide) ?_
        refine sw_top (y := -1) r3 ?_
        refine sw_istore [(0, _), (1, _), (2, _), (3, _), (4, _)] dX12_lay_57 (by decide) rfl ?_
        refine sw_iload dX12_lay_59 rfl ?_
        refine sw_if_lt 134 dX12_lay_61 (by decide) (fun h61 => ?_) (fun h61 => ?_)
        · have hk1 := hk
          have hp1 := hp
          have hz1 : A 167 k = nI 1 := m
          have hf1 := r3
          refine sw_aload_n dX12_lay_134 rfl (by first | rfl | assumption) ?_
          refine sw_get dX12_lay_135 fr_X12_70 rfl rfl ?_
          refine sw_iload_n dX12_lay_138 rfl ?_
          refine sw_ialdN (k) dX12_lay_139 rfl rfl (show k < 160 by omega) (by decide) ?_
          refine sw_top (y := nI (w)) hp1 ?_
          refine sw_aload_n dX12_lay_140 rfl (by first | rfl | assumption) ?_
          refine sw_get dX12_lay_141 fr_X12_67 rfl rfl ?_
          refine sw_iload_n dX12_lay_144 rfl ?_
          refine sw_ialdN (k) dX12_lay_145 rfl rfl (show k < 160 by omega) (by decide) ?_
          refine sw_top (y := nI (1)) hz1 ?_
          refine sw_iadd dX12_lay_146 ?_
          refine sw_top (y := nI (w + (1))) (nI_add _ _) ?_
          refine sw_istore [(0, _), (1, _), (2, _), (3, _), (4, _)] dX12_lay_147 (by decide) rfl ?_
          refine sw_aload_n dX12_lay_149 rfl (by first | rfl | assumption) ?_
          refine sw_get dX12_lay_150 fr_X12_52 rfl rfl ?_
          refine sw_iload_n dX12_lay_153 rfl ?_
          refine sw_ialdN (k) dX12_lay_154 rfl rfl (show k < 160 by omega) (by decide) ?_
          refine sw_top (y := -1) hf1 ?_
          refine sw_istore [(0, _), (1, _), (2, _), (3, _), (4, _), (5, _)] dX12_lay_155 (by decide) rfl ?_
          refine sw_aload_n dX12_lay_157 rfl (by first | rfl | assumption) ?_
          refine sw_get dX12_lay_158 fr_X12_43 rfl rfl ?_
          refine sw_iload_n dX12_lay_161 rfl ?_
          refine sw_ialdN (k) dX12_lay_162 rfl rfl (show k < 160 by omega) (by decide) ?_
          refine sw_top (y := 0) hk1 ?_
          refine sw_if_eq 176 dX12_lay_163 (by decide) (fun h163 => ?_) (fun h163 => ?_)
          · refine sw_aload_n dX12_lay_176 rfl (by first | rfl | assumption) ?_
            refine sw_iload dX12_lay_177 rfl ?_
            refine sw_iconst (x := 1) dX12_lay_179 (by decide) ?_
            refine sw_isub dX12_lay_180 ?_
            refine sw_top (y := nI w) (sb_e rfl) ?_
            refine sw_aload_n dX12_lay_181 rfl (by first | rfl | assumption) ?_
            refine sw_get dX12_lay_182 fr_X12_43 rfl rfl ?_
            refine sw_iload_n dX12_lay_185 rfl ?_
            refine sw_ialdN (k) dX12_lay_186 rfl rfl (show k < 160 by omega) (by decide) ?_
            refine sw_top (y := nI w0) r1 ?_
            refine sw_aload_n dX12_lay_187 rfl (by first | rfl | assumption) ?_
            refine sw_get dX12_lay_188 fr_X12_46 rfl rfl ?_
            refine sw_iload_n dX12_lay_191 rfl ?_
            refine sw_ialdN (k) dX12_lay_192 rfl rfl (show k < 160 by omega) (by decide) ?_
            refine sw_top (y := nI v) r2 ?_
            refine sw_Vn dX12_lay_193 k_X12_203 mf_X12_say (c_X12_say (d := d - 1) (k := w) (by omega) _ _) rfl ⟨_, rfl, rfl⟩ (by omega) (by omega) (by omega) rfl rfl (Nat.le_of_ble_eq_true rfl) ?_
            change SW l D cy mX12_lay d 0 0 0 0 196 _ _ n (md f s (sy A w (nI w0) (nI v))) _ _
            refine sw_goto 374 dX12_lay_196 (by decide) ?_
            first | refine sw_inc1 [(0, _), (1, _), (2, _), (3, _), (4, _), (5, _)] dX12_lay_374 rfl (by decide) rfl ?_ | refine sw_iinc [(0, _), (1, _), (2, _), (3, _), (4, _), (5, _)] dX12_lay_374 rfl (by decide) rfl ?_
            refine sw_goto 34 dX12_lay_377 (by decide) ?_
            refine sw_keep [0, 1] rfl ?_
            refine K _ ⟨fun q hq => sy_q (by omega), fun i hi => by rw [sy_q (by decide)], fun j hj => sy_j (by omega)⟩ sy_k
          · exact absurd rfl h163
        · exact absurd nlt_m1 h61
    · have hk : A 159 k = 1 := by rw [r1, wf]; rfl
      refine sw_iload_n dX12_lay_34 rfl ?_
      refine sw_aload_n dX12_lay_35 rfl (by first | rfl | assumption) ?_
      refine sw_get dX12_lay_36 fr_X12_171 rfl rfl ?_
      refine sw_top (y := nI P) hP ?_
      refine sw_icmp_ge 380 dX12_lay_39 (by decide) (fun h39 => ?_) (fun h39 => ?_)
      · exact absurd h39 (by rw [nI_leI (by omega) (by omega)]; omega)
      · refine sw_aload_n dX12_lay_42 rfl (by first | rfl | assumption) ?_
        refine sw_get dX12_lay_43 fr_X12_70 rfl rfl ?_
        refine sw_iload_n dX12_lay_46 rfl ?_
        refine sw_ialdN (k) dX12_lay_47 rfl rfl (show k < 160 by omega) (by decide) ?_
        refine sw_top (y := nI (w)) hp ?_
        refine sw_istore_n [(0, _), (1, _), (2, _)] dX12_lay_48 (by decide) rfl ?_
        refine sw_iconst (x := 0) dX12_lay_49 (by decide) ?_
        refine sw_top (y := nI 0) rfl ?_
        refine sw_istore_n [(0, _), (1, _), (2, _), (3, _)] dX12_lay_50 (by decide) rfl ?_
        refine sw_aload_n dX12_lay_51 rfl (by first | rfl | assumption) ?_
        refine sw_get dX12_lay_52 fr_X12_52 rfl rfl ?_
        refine sw_iload_n dX12_lay_55 rfl ?_
        refine sw_ialdN (k) dX12_lay_56 rfl rfl (show k < 160 by omega) (by decide) ?_
        refine sw_top (y := -1) r3 ?_
        refine sw_istore [(0, _), (1, _), (2, _), (3, _), (4, _)] dX12_lay_57 (by decide) rfl ?_
        refine sw_iload dX12_lay_59 rfl ?_
        refine sw_if_lt 134 dX12_lay_61 (by decide) (fun h61 => ?_) (fun h61 => ?_)
        · have hk1 := hk
          have hp1 := hp
          have hz1 : A 167 k = nI 1 := m
          have hf1 := r3
          refine sw_aload_n dX12_lay_134 rfl (by first | rfl | assumption) ?_
          refine sw_get dX12_lay_135 fr_X12_70 rfl rfl ?_
          refine sw_iload_n dX12_lay_138 rfl ?_
          refine sw_ialdN (k) dX12_lay_139 rfl rfl (show k < 160 by omega) (by decide) ?_
          refine sw_top (y := nI (w)) hp1 ?_
          refine sw_aload_n dX12_lay_140 rfl (by first | rfl | assumption) ?_
          refine sw_get dX12_lay_141 fr_X12_67 rfl rfl ?_
          refine sw_iload_n dX12_lay_144 rfl ?_
          refine sw_ialdN (k) dX12_lay_145 rfl rfl (show k < 160 by omega) (by decide) ?_
          refine sw_top (y := nI (1)) hz1 ?_
          refine sw_iadd dX12_lay_146 ?_
          refine sw_top (y := nI (w + (1))) (nI_add _ _) ?_
          refine sw_istore [(0, _), (1, _), (2, _), (3, _), (4, _)] dX12_lay_147 (by decide) rfl ?_
          refine sw_aload_n dX12_lay_149 rfl (by first | rfl | assumption) ?_
          refine sw_get dX12_lay_150 fr_X12_52 rfl rfl ?_
          refine sw_iload_n dX12_lay_153 rfl ?_
          refine sw_ialdN (k) dX12_lay_154 rfl rfl (show k < 160 by omega) (by decide) ?_
          refine sw_top (y := -1) hf1 ?_
          refine sw_istore [(0, _), (1, _), (2, _), (3, _), (4, _), (5, _)] dX12_lay_155 (by decide) rfl ?_
          refine sw_aload_n dX12_lay_157 rfl (by first | rfl | assumption) ?_
          refine sw_get dX12_lay_158 fr_X12_43 rfl rfl ?_
          refine sw_iload_n dX12_lay_161 rfl ?_
          refine sw_ialdN (k) dX12_lay_162 rfl rfl (show k < 160 by omega) (by decide) ?_
          refine sw_top (y := 1) hk1 ?_
          refine sw_if_eq 176 dX12_lay_163 (by decide) (fun h163 => ?_) (fun h163 => ?_)
          · exact absurd h163 (by decide)
          · refine sw_aload_n dX12_lay_166 rfl (by first | rfl | assumption) ?_
            refine sw_get dX12_lay_167 fr_X12_43 rfl rfl ?_
            refine sw_iload_n dX12_lay_170 rfl ?_
            refine sw_ialdN (k) dX12_lay_171 rfl rfl (show k < 160 by omega) (by decide) ?_
            refine sw_top (y := 1) hk1 ?_
            refine sw_iconst (x := 1) dX12_lay_172 (by decide) ?_
            refine sw_icmp_ne 199 dX12_lay_173 (by decide) (fun h173 => ?_) (fun h173 => ?_)
            · exact absurd rfl h173
            · refine sw_aload_n dX12_lay_176 rfl (by first | rfl | assumption) ?_
              refine sw_iload dX12_lay_177 rfl ?_
              refine sw_iconst (x := 1) dX12_lay_179 (by decide) ?_
              refine sw_isub dX12_lay_180 ?_
              refine sw_top (y := nI w) (sb_e rfl) ?_
              refine sw_aload_n dX12_lay_181 rfl (by first | rfl | assumption) ?_
              refine sw_get dX12_lay_182 fr_X12_43 rfl rfl ?_
              refine sw_iload_n dX12_lay_185 rfl ?_
              refine sw_ialdN (k) dX12_lay_186 rfl rfl (show k < 160 by omega) (by decide) ?_
              refine sw_top (y := nI w0) r1 ?_
              refine sw_aload_n dX12_lay_187 rfl (by first | rfl | assumption) ?_
              refine sw_get dX12_lay_188 fr_X12_46 rfl rfl ?_
              refine sw_iload_n dX12_lay_191 rfl ?_
              refine sw_ialdN (k) dX12_lay_192 rfl rfl (show k < 160 by omega) (by decide) ?_
              refine sw_top (y := nI v) r2 ?_
              refine sw_Vn dX12_lay_193 k_X12_203 mf_X12_say (c_X12_say (d := d - 1) (k := w) (by omega) _ _) rfl ⟨_, rfl, rfl⟩ (by omega) (by omega) (by omega) rfl rfl (Nat.le_of_ble_eq_true rfl) ?_
              change SW l D cy mX12_lay d 0 0 0 0 196 _ _ n (md f s (sy A w (nI w0) (nI v))) _ _
              refine sw_goto 374 dX12_lay_196 (by decide) ?_
              first | refine sw_inc1 [(0, _), (1, _), (2, _), (3, _), (4, _), (5, _)] dX12_lay_374 rfl (by decide) rfl ?_ | refine sw_iinc [(0, _), (1, _), (2, _), (3, _), (4, _), (5, _)] dX12_lay_374 rfl (by decide) rfl ?_
              refine sw_goto 34 dX12_lay_377 (by decide) ?_
              refine sw_keep [0, 1] rfl ?_
              refine K _ ⟨fun q hq => sy_q (by omega), fun i hi => by rw [sy_q (by decide)], fun j hj => sy_j (by omega)⟩ sy_k
        · exact absurd nlt_m1 h61
  | .branch z a b, k, w, A, r, wf, m, hp, hs, hw, K => by
    obtain ⟨hk, r2, hf, r4, r5, r6, r7⟩ := r
    obtain ⟨hz, m1, m2⟩ := m
    rw [szE] at hs hw K
    have sa := szE_pos a
    have sb := szE_pos b
    refine sw_iload_n dX12_lay_34 rfl ?_
    refine sw_aload_n dX12_lay_35 rfl (by first | rfl | assumption) ?_
    refine sw_get dX12_lay_36 fr_X12_171 rfl rfl ?_
    refine sw_top (y := nI P) hP ?_
    refine sw_icmp_ge 380 dX12_lay_39 (by decide) (fun h39 => ?_) (fun h39 => ?_)
    · exact absurd h39 (by rw [nI_leI (by omega) (by omega)]; omega)
    · refine sw_aload_n dX12_lay_42 rfl (by first | rfl | assumption) ?_
      refine sw_get dX12_lay_43 fr_X12_70 rfl rfl ?_
      refine sw_iload_n dX12_lay_46 rfl ?_
      refine sw_ialdN (k) dX12_lay_47 rfl rfl (show k < 160 by omega) (by decide) ?_
      refine sw_top (y := nI (w)) hp ?_
      refine sw_istore_n [(0, _), (1, _), (2, _)] dX12_lay_48 (by decide) rfl ?_
      refine sw_iconst (x := 0) dX12_lay_49 (by decide) ?_
      refine sw_top (y := nI 0) rfl ?_
      refine sw_istore_n [(0, _), (1, _), (2, _), (3, _)] dX12_lay_50 (by decide) rfl ?_
      refine sw_aload_n dX12_lay_51 rfl (by first | rfl | assumption) ?_
      refine sw_get dX12_lay_52 fr_X12_52 rfl rfl ?_
      refine sw_iload_n dX12_lay_55 rfl ?_
      refine sw_ialdN (k) dX12_lay_56 rfl rfl (show k < 160 by omega) (by decide) ?_
      refine sw_top (y := nI (k + 1)) hf ?_
      refine sw_istore [(0, _), (1, _), (2, _), (3, _), (4, _)] dX12_lay_57 (by decide) rfl ?_
      refine sw_iload dX12_lay_59 rfl ?_
      refine sw_if_lt 134 dX12_lay_61 (by decide) (fun h61 => ?_) (fun h61 => ?_)
      · exact absurd h61 (i32_nlt0 (by omega))
      · refine sw_aload_n dX12_lay_64 rfl (by first | rfl | assumption) ?_
        refine sw_get dX12_lay_65 fr_X12_70 rfl rfl ?_
        refine sw_iload dX12_lay_68 rfl ?_
        refine sw_iload_n dX12_lay_70 rfl ?_
        refine m_iast (k + 1) dX12_lay_71 ⟨by decide, by decide, rfl⟩ rfl (show k + 1 < 160 by omega) rfl ?_
        change SW l D cy mX12_lay d 0 0 0 0 72 _ _ n (md f s (u2 A 168 (k + 1) (nI (w)))) _ _
        refine sw_iload_n dX12_lay_72 rfl ?_
        refine sw_aload_n dX12_lay_73 rfl (by first | rfl | assumption) ?_
        refine sw_get dX12_lay_74 fr_X12_67 rfl rfl ?_
        refine sw_iload dX12_lay_77 rfl ?_
        refine sw_ialdN (k + 1) dX12_lay_79 rfl rfl (show k + 1 < 160 by omega) (by decide) ?_
        refine sw_top (y := nI (szE a)) (by rw [u2_q _ _ (by decide)]; exact mzE_s m1) ?_
        refine sw_iadd dX12_lay_80 ?_
        refine sw_top (y := nI (w + szE a)) (nI_add _ _) ?_
        refine sw_istore_n [(0, _), (1, _), (2, _), (3, _), (4, _)] dX12_lay_81 (by decide) rfl ?_
        refine sw_aload_n dX12_lay_82 rfl (by first | rfl | assumption) ?_
        refine sw_get dX12_lay_83 fr_X12_43 rfl rfl ?_
        refine sw_iload_n dX12_lay_86 rfl ?_
        refine sw_ialdN (k) dX12_lay_87 rfl rfl (show k < 160 by omega) (by decide) ?_
        refine sw_top (y := 2) (by rw [u2_q _ _ (by decide)]; exact hk) ?_
        refine sw_iconst (x := 4) dX12_lay_88 (by decide) ?_
        refine sw_icmp_ne 97 dX12_lay_89 (by decide) (fun h89 => ?_) (fun h89 => ?_)
        · refine sw_aload_n dX12_lay_97 rfl (by first | rfl | assumption) ?_
          refine sw_get dX12_lay_98 fr_X12_43 rfl rfl ?_
          refine sw_iload_n dX12_lay_101 rfl ?_
          refine sw_ialdN (k) dX12_lay_102 rfl rfl (show k < 160 by omega) (by decide) ?_
          refine sw_top (y := 2) (by rw [u2_q _ _ (by decide)]; exact hk) ?_
          refine sw_iconst (x := 5) dX12_lay_103 (by decide) ?_
          refine sw_icmp_ne 117 dX12_lay_104 (by decide) (fun h104 => ?_) (fun h104 => ?_)
          · refine sw_iload_n dX12_lay_117 rfl ?_
            refine sw_istore_n [(0, _), (1, _), (2, _), (3, _), (4, _)] dX12_lay_118 (by decide) rfl ?_
            first | refine sw_inc1 [(0, _), (1, _), (2, _), (3, _), (4, _)] dX12_lay_119 rfl (by decide) rfl ?_ | refine sw_iinc [(0, _), (1, _), (2, _), (3, _), (4, _)] dX12_lay_119 rfl (by decide) rfl ?_
            refine sw_aload_n dX12_lay_122 rfl (by first | rfl | assumption) ?_
            refine sw_get dX12_lay_123 fr_X12_58 rfl rfl ?_
            refine sw_iload dX12_lay_126 rfl ?_
            refine sw_ialdN (k + 1) dX12_lay_128 rfl rfl (show k + 1 < 160 by omega) (by decide) ?_
            refine sw_top (y := nI (k + 1 + szE a)) (by rw [u2_q _ _ (by decide)]; exact r4) ?_
            refine sw_istore [(0, _), (1, _), (2, _), (3, _), (4, _)] dX12_lay_129 (by decide) rfl ?_
            refine sw_goto 59 dX12_lay_131 (by decide) ?_
            refine sw_iload dX12_lay_59 rfl ?_
            refine sw_if_lt 134 dX12_lay_61 (by decide) (fun h61 => ?_) (fun h61 => ?_)
            · exact absurd h61 (i32_nlt0 (by omega))
            · refine sw_aload_n dX12_lay_64 rfl (by first | rfl | assumption) ?_
              refine sw_get dX12_lay_65 fr_X12_70 rfl rfl ?_
              refine sw_iload dX12_lay_68 rfl ?_
              refine sw_iload_n dX12_lay_70 rfl ?_
              refine m_iast (k + 1 + szE a) dX12_lay_71 ⟨by decide, by decide, rfl⟩ rfl (show k + 1 + szE a < 160 by omega) rfl ?_
              change SW l D cy mX12_lay d 0 0 0 0 72 _ _ n (md f s (u2 (u2 A 168 (k + 1) (nI (w))) 168 (k + 1 + szE a) (nI (w + szE a)))) _ _
              refine sw_iload_n dX12_lay_72 rfl ?_
              refine sw_aload_n dX12_lay_73 rfl (by first | rfl | assumption) ?_
              refine sw_get dX12_lay_74 fr_X12_67 rfl rfl ?_
              refine sw_iload dX12_lay_77 rfl ?_
              refine sw_ialdN (k + 1 + szE a) dX12_lay_79 rfl rfl (show k + 1 + szE a < 160 by omega) (by decide) ?_
              refine sw_top (y := nI (szE b)) (by rw [u2_q _ _ (by decide), u2_q _ _ (by decide)]; exact mzE_s m2) ?_
              refine sw_iadd dX12_lay_80 ?_
              refine sw_top (y := nI (w + szE a + szE b)) (nI_add _ _) ?_
              refine sw_istore_n [(0, _), (1, _), (2, _), (3, _), (4, _)] dX12_lay_81 (by decide) rfl ?_
              refine sw_aload_n dX12_lay_82 rfl (by first | rfl | assumption) ?_
              refine sw_get dX12_lay_83 fr_X12_43 rfl rfl ?_
              refine sw_iload_n dX12_lay_86 rfl ?_
              refine sw_ialdN (k) dX12_lay_87 rfl rfl (show k < 160 by omega) (by decide) ?_
              refine sw_top (y := 2) (by rw [u2_q _ _ (by decide), u2_q _ _ (by decide)]; exact hk) ?_
              refine sw_iconst (x := 4) dX12_lay_88 (by decide) ?_
              refine sw_icmp_ne 97 dX12_lay_89 (by decide) (fun h89 => ?_) (fun h89 => ?_)
              · refine sw_aload_n dX12_lay_97 rfl (by first | rfl | assumption) ?_
                refine sw_get dX12_lay_98 fr_X12_43 rfl rfl ?_
                refine sw_iload_n dX12_lay_101 rfl ?_
                refine sw_ialdN (k) dX12_lay_102 rfl rfl (show k < 160 by omega) (by decide) ?_
                refine sw_top (y := 2) (by rw [u2_q _ _ (by decide), u2_q _ _ (by decide)]; exact hk) ?_
                refine sw_iconst (x := 5) dX12_lay_103 (by decide) ?_
                refine sw_icmp_ne 117 dX12_lay_104 (by decide) (fun h104 => ?_) (fun h104 => ?_)
                · refine sw_iload_n dX12_lay_117 rfl ?_
                  refine sw_istore_n [(0, _), (1, _), (2, _), (3, _), (4, _)] dX12_lay_118 (by decide) rfl ?_
                  first | refine sw_inc1 [(0, _), (1, _), (2, _), (3, _), (4, _)] dX12_lay_119 rfl (by decide) rfl ?_ | refine sw_iinc [(0, _), (1, _), (2, _), (3, _), (4, _)] dX12_lay_119 rfl (by decide) rfl ?_
                  refine sw_aload_n dX12_lay_122 rfl (by first | rfl | assumption) ?_
                  refine sw_get dX12_lay_123 fr_X12_58 rfl rfl ?_
                  refine sw_iload dX12_lay_126 rfl ?_
                  refine sw_ialdN (k + 1 + szE a) dX12_lay_128 rfl rfl (show k + 1 + szE a < 160 by omega) (by decide) ?_
                  refine sw_top (y := -1) (by rw [u2_q _ _ (by decide), u2_q _ _ (by decide)]; exact r5) ?_
                  refine sw_istore [(0, _), (1, _), (2, _), (3, _), (4, _)] dX12_lay_129 (by decide) rfl ?_
                  refine sw_goto 59 dX12_lay_131 (by decide) ?_
                  refine sw_iload dX12_lay_59 rfl ?_
                  refine sw_if_lt 134 dX12_lay_61 (by decide) (fun h61 => ?_) (fun h61 => ?_)
                  · have f1 : ∀ q, ¬ q = 168 → u2 (u2 A 168 (k + 1) (nI w)) 168 (k + 1 + szE a) (nI (w + szE a)) q = A q := fun q hq => by rw [u2_q _ _ hq, u2_q _ _ hq]
                    have f2 : ∀ i, i < k + 1 ∨ k + 1 + szE a + szE b ≤ i → u2 (u2 A 168 (k + 1) (nI w)) 168 (k + 1 + szE a) (nI (w + szE a)) 168 i = A 168 i := fun i hi => by rw [u2_at, if_neg (by omega), u2_at, if_neg (by omega)]
                    have p1 : u2 (u2 A 168 (k + 1) (nI w)) 168 (k + 1 + szE a) (nI (w + szE a)) 168 (k + 1) = nI w := by rw [u2_at, if_neg (by omega), u2_at, if_pos ⟨rfl, rfl⟩]
                    have p2 : u2 (u2 A 168 (k + 1) (nI w)) 168 (k + 1 + szE a) (nI (w + szE a)) 168 (k + 1 + szE a) = nI (w + szE a) := by rw [u2_at, if_pos ⟨rfl, rfl⟩]
                    generalize u2 (u2 A 168 (k + 1) (nI w)) 168 (k + 1 + szE a) (nI (w + szE a)) = A1 at *
                    have hk1 : A1 159 k = 2 := by rw [f1 _ (by decide)]; exact hk
                    have hp1 : A1 168 k = nI w := by rw [f2 _ (by omega)]; exact hp
                    have hz1 : A1 167 k = nI (1 + szE a + szE b) := by rw [f1 _ (by decide)]; exact hz
                    have hf1 : A1 162 k = nI (k + 1) := by rw [f1 _ (by decide)]; exact hf
                    refine sw_aload_n dX12_lay_134 rfl (by first | rfl | assumption) ?_
                    refine sw_get dX12_lay_135 fr_X12_70 rfl rfl ?_
                    refine sw_iload_n dX12_lay_138 rfl ?_
                    refine sw_ialdN (k) dX12_lay_139 rfl rfl (show k < 160 by omega) (by decide) ?_
                    refine sw_top (y := nI (w)) hp1 ?_
                    refine sw_aload_n dX12_lay_140 rfl (by first | rfl | assumption) ?_
                    refine sw_get dX12_lay_141 fr_X12_67 rfl rfl ?_
                    refine sw_iload_n dX12_lay_144 rfl ?_
                    refine sw_ialdN (k) dX12_lay_145 rfl rfl (show k < 160 by omega) (by decide) ?_
                    refine sw_top (y := nI (1 + szE a + szE b)) hz1 ?_
                    refine sw_iadd dX12_lay_146 ?_
                    refine sw_top (y := nI (w + (1 + szE a + szE b))) (nI_add _ _) ?_
                    refine sw_istore [(0, _), (1, _), (2, _), (3, _), (4, _)] dX12_lay_147 (by decide) rfl ?_
                    refine sw_aload_n dX12_lay_149 rfl (by first | rfl | assumption) ?_
                    refine sw_get dX12_lay_150 fr_X12_52 rfl rfl ?_
                    refine sw_iload_n dX12_lay_153 rfl ?_
                    refine sw_ialdN (k) dX12_lay_154 rfl rfl (show k < 160 by omega) (by decide) ?_
                    refine sw_top (y := nI (k + 1)) hf1 ?_
                    refine sw_istore [(0, _), (1, _), (2, _), (3, _), (4, _), (5, _)] dX12_lay_155 (by decide) rfl ?_
                    refine sw_aload_n dX12_lay_157 rfl (by first | rfl | assumption) ?_
                    refine sw_get dX12_lay_158 fr_X12_43 rfl rfl ?_
                    refine sw_iload_n dX12_lay_161 rfl ?_
                    refine sw_ialdN (k) dX12_lay_162 rfl rfl (show k < 160 by omega) (by decide) ?_
                    refine sw_top (y := 2) hk1 ?_
                    refine sw_if_eq 176 dX12_lay_163 (by decide) (fun h163 => ?_) (fun h163 => ?_)
                    · exact absurd h163 (by decide)
                    · refine sw_aload_n dX12_lay_166 rfl (by first | rfl | assumption) ?_
                      refine sw_get dX12_lay_167 fr_X12_43 rfl rfl ?_
                      refine sw_iload_n dX12_lay_170 rfl ?_
                      refine sw_ialdN (k) dX12_lay_171 rfl rfl (show k < 160 by omega) (by decide) ?_
                      refine sw_top (y := 2) hk1 ?_
                      refine sw_iconst (x := 1) dX12_lay_172 (by decide) ?_
                      refine sw_icmp_ne 199 dX12_lay_173 (by decide) (fun h173 => ?_) (fun h173 => ?_)
                      · refine sw_aload_n dX12_lay_199 rfl (by first | rfl | assumption) ?_
                        refine sw_get dX12_lay_200 fr_X12_43 rfl rfl ?_
                        refine sw_iload_n dX12_lay_203 rfl ?_
                        refine sw_ialdN (k) dX12_lay_204 rfl rfl (show k < 160 by omega) (by decide) ?_
                        refine sw_top (y := 2) hk1 ?_
                        refine sw_iconst (x := 2) dX12_lay_205 (by decide) ?_
                        refine sw_icmp_ne 227 dX12_lay_206 (by decide) (fun h206 => ?_) (fun h206 => ?_)
                        · exact absurd rfl h206
                        · refine sw_aload_n dX12_lay_209 rfl (by first | rfl | assumption) ?_
                          refine sw_iload dX12_lay_210 rfl ?_
                          refine sw_iconst (x := 1) dX12_lay_212 (by decide) ?_
                          refine sw_isub dX12_lay_213 ?_
                          refine sw_top (y := nI (w + szE a + szE b)) (sb_e (by omega)) ?_
                          refine sw_aload_n dX12_lay_214 rfl (by first | rfl | assumption) ?_
                          refine sw_get dX12_lay_215 fr_X12_46 rfl rfl ?_
                          refine sw_iload_n dX12_lay_218 rfl ?_
                          refine sw_ialdN (k) dX12_lay_219 rfl rfl (show k < 160 by omega) (by decide) ?_
                          refine sw_top (y := nI z) (by rw [f1 _ (by decide)]; exact r2) ?_
                          refine sw_iconst (x := 0) dX12_lay_220 (by decide) ?_
                          refine sw_Vn dX12_lay_221 k_X12_203 mf_X12_say (c_X12_say (d := d - 1) (k := w + szE a + szE b) (by omega) _ _) rfl ⟨_, rfl, rfl⟩ (by omega) (by omega) (by omega) rfl rfl (Nat.le_of_ble_eq_true rfl) ?_
                          change SW l D cy mX12_lay d 0 0 0 0 224 _ _ n (md f s (sy A1 (w + szE a + szE b) (nI z) 0)) _ _
                          refine sw_goto 374 dX12_lay_224 (by decide) ?_
                          first | refine sw_inc1 [(0, _), (1, _), (2, _), (3, _), (4, _), (5, _)] dX12_lay_374 rfl (by decide) rfl ?_ | refine sw_iinc [(0, _), (1, _), (2, _), (3, _), (4, _), (5, _)] dX12_lay_374 rfl (by decide) rfl ?_
                          refine sw_goto 34 dX12_lay_377 (by decide) ?_
                          refine sw_keep [0, 1] rfl ?_
                          rw [show k + (1 + szE a + szE b) = k + 1 + szE a + szE b by omega] at K
                          have g2 : ∀ q, ¬ (q = 168 ∨ q = 173 ∨ q = 174) → sy A1 (w + szE a + szE b) (nI z) 0 q = A q := fun q hq => by rw [sy_q (by omega), f1 q (by omega)]
                          have g3 : ∀ i, sy A1 (w + szE a + szE b) (nI z) 0 168 i = A1 168 i := fun i => by rw [sy_q (by decide)]
                          have g4 : ∀ j, ¬ j = w + szE a + szE b → sy A1 (w + szE a + szE b) (nI z) 0 173 j = A 173 j ∧ sy A1 (w + szE a + szE b) (nI z) 0 174 j = A 174 j := fun j hj => by rw [(sy_j hj).1, (sy_j hj).2, f1 _ (by decide), f1 _ (by decide)]; exact ⟨rfl, rfl⟩
                          have g5 := sy_k (A := A1) (k := w + szE a + szE b) (w := nI z) (g := 0)
                          generalize sy A1 (w + szE a + szE b) (nI z) 0 = A2 at *
                          refine l_yE hP hd hP2 a (k + 1) w A2 (rpE_f (fun q h1 h2 => g2 q (by omega)) a _ r6) wf.2.1 (mzE_cg a _ (fun i _ _ => by rw [g2 _ (by decide)]) m1) (by rw [g3]; exact p1) (by omega) (by omega) (fun A3 F3 c3 => ?_)
                          refine l_yE hP hd hP2 b (k + 1 + szE a) (w + szE a) A3 (rpE_f (fun q h1 h2 => by rw [F3.1 q (by omega), g2 q (by omega)]) b _ r7) wf.2.2 (mzE_cg b _ (fun i _ _ => by rw [F3.1 _ (by decide), g2 _ (by decide)]) m2) (by rw [F3.2.1 _ (by omega), g3]; exact p2) (by omega) (by omega) (fun A4 F4 c4 => ?_)
                          refine K A4 ⟨fun q hq => by rw [F4.1 q hq, F3.1 q hq, g2 q hq], fun i hi => by rw [F4.2.1 i (by omega), F3.2.1 i (by omega), g3, f2 i (by omega)], fun j hj => ?_⟩ ⟨cd_y F4 (by omega) (cd_y F3 (by omega) g5), cdE_cg a _ (fun j y1 y2 => F4.2.2 j (by omega)) c3, c4⟩
                          rw [(F4.2.2 j (by omega)).1, (F4.2.2 j (by omega)).2, (F3.2.2 j (by omega)).1, (F3.2.2 j (by omega)).2]
                          exact g4 j (by omega)
                      · exact absurd h173 (by decide)
                  · exact absurd nlt_m1 h61
                · exact absurd h104 (by decide)
              · exact absurd h89 (by decide)
          · exact absurd h104 (by decide)
        · exact absurd h89 (by decide)
set_option maxRecDepth 100000 in
theorem l_yC {l : Launch} {D : va_G} {cy : Nat → ClassId} {d n : Nat} {f : sw_F} {s : Nat → Int32} {b : Nat} {Q : sw_Q} {QX : sw_QX} (hb2 : b < 160) : ∀ (t : RT) (k x j : Nat) (A : Nat → Nat → Int32), rpR A t k → mzR A t k → A 159 b = 6 → b < k → k + szR t ≤ 160 → (∀ A' y j', (∀ q, ¬ q = 168 → A' q = A q) → (∀ i, i < k ∨ k + szR t ≤ i → A' 168 i = A 168 i) → plR A' t k x → SW l D cy mX12_lay d 0 0 0 0 134 [(0, .ref 150), (1, .int (nI (b))), (2, .int (y)), (3, .int (j')), (4, .int (-1))] [] n (md f s A') Q QX) → SW l D cy mX12_lay d 0 0 0 0 59 [(0, .ref 150), (1, .int (nI (b))), (2, .int (nI x)), (3, .int (nI j)), (4, .int (lnk t k))] [] n (md f s A) Q QX
  | .leaf _, k, x, j, A, r, m, hk, hb, hs, K => by
    unfold lnk
    refine sw_iload dX12_lay_59 rfl ?_
    refine sw_if_lt 134 dX12_lay_61 (by decide) (fun h61 => ?_) (fun h61 => ?_)
    · exact K A _ _ (fun _ _ => rfl) (fun _ _ => rfl) True.intro
    · exact absurd nlt_m1 h61
  | .branch v y R, k, x, j, A, r, m, hk, hb, hs, K => by
    obtain ⟨s1, s2, s3, s4, s5, s6, s7⟩ := st_1 r m
    rw [lnk]
    rw [s6] at hs K
    have f1 : ∀ q, ¬ q = 168 → (u2 A 168 k (nI x)) q = A q := fun q hq => u2_q _ _ hq
    have p1 : (u2 A 168 k (nI x)) 168 k = nI x := by rw [u2_at, if_pos ⟨rfl, rfl⟩]
    have f2 : ∀ i, ¬ i = k → (u2 A 168 k (nI x)) 168 i = A 168 i := fun i hi => by rw [u2_at, if_neg (by omega)]
    refine sw_iload dX12_lay_59 rfl ?_
    refine sw_if_lt 134 dX12_lay_61 (by decide) (fun h61 => ?_) (fun h61 => ?_)
    · exact absurd h61 (i32_nlt0 (by omega))
    · refine sw_aload_n dX12_lay_64 rfl (by first | rfl | assumption) ?_
      refine sw_get dX12_lay_65 fr_X12_70 rfl rfl ?_
      refine sw_iload dX12_lay_68 rfl ?_
      refine sw_iload_n dX12_lay_70 rfl ?_
      refine m_iast (k) dX12_lay_71 ⟨by decide, by decide, rfl⟩ rfl (show k < 160 by omega) rfl ?_
      change SW l D cy mX12_lay d 0 0 0 0 72 _ _ n (md f s (u2 A 168 k (nI x))) _ _
      generalize (u2 A 168 k (nI x)) = A1 at *
      refine sw_iload_n dX12_lay_72 rfl ?_
      refine sw_aload_n dX12_lay_73 rfl (by first | rfl | assumption) ?_
      refine sw_get dX12_lay_74 fr_X12_67 rfl rfl ?_
      refine sw_iload dX12_lay_77 rfl ?_
      refine sw_ialdN (k) dX12_lay_79 rfl rfl (show k < 160 by omega) (by decide) ?_
      refine sw_top (y := nI (lnS (.branch v y R))) (by rw [f1 _ (by decide)]; exact s1) ?_
      refine sw_iadd dX12_lay_80 ?_
      refine sw_top (y := nI (x + lnS (.branch v y R))) (nI_add _ _) ?_
      refine sw_istore_n [(0, _), (1, _), (2, _), (3, _), (4, _)] dX12_lay_81 (by decide) rfl ?_
      refine sw_aload_n dX12_lay_82 rfl (by first | rfl | assumption) ?_
      refine sw_get dX12_lay_83 fr_X12_43 rfl rfl ?_
      refine sw_iload_n dX12_lay_86 rfl ?_
      refine sw_ialdN (b) dX12_lay_87 rfl rfl (show b < 160 by omega) (by decide) ?_
      refine sw_top (y := 6) (by rw [f1 _ (by decide)]; exact hk) ?_
      refine sw_iconst (x := 4) dX12_lay_88 (by decide) ?_
      refine sw_icmp_ne 97 dX12_lay_89 (by decide) (fun h89 => ?_) (fun h89 => ?_)
      · refine sw_aload_n dX12_lay_97 rfl (by first | rfl | assumption) ?_
        refine sw_get dX12_lay_98 fr_X12_43 rfl rfl ?_
        refine sw_iload_n dX12_lay_101 rfl ?_
        refine sw_ialdN (b) dX12_lay_102 rfl rfl (show b < 160 by omega) (by decide) ?_
        refine sw_top (y := 6) (by rw [f1 _ (by decide)]; exact hk) ?_
        refine sw_iconst (x := 5) dX12_lay_103 (by decide) ?_
        refine sw_icmp_ne 117 dX12_lay_104 (by decide) (fun h104 => ?_) (fun h104 => ?_)
        · refine sw_iload_n dX12_lay_117 rfl ?_
          refine sw_istore_n [(0, _), (1, _), (2, _), (3, _), (4, _)] dX12_lay_118 (by decide) rfl ?_
          first | refine sw_inc1 [(0, _), (1, _), (2, _), (3, _), (4, _)] dX12_lay_119 rfl (by decide) rfl ?_ | refine sw_iinc [(0, _), (1, _), (2, _), (3, _), (4, _)] dX12_lay_119 rfl (by decide) rfl ?_
          refine sw_aload_n dX12_lay_122 rfl (by first | rfl | assumption) ?_
          refine sw_get dX12_lay_123 fr_X12_58 rfl rfl ?_
          refine sw_iload dX12_lay_126 rfl ?_
          refine sw_ialdN (k) dX12_lay_128 rfl rfl (show k < 160 by omega) (by decide) ?_
          refine sw_top (y := lnk R (k + szS (.branch v y R))) (by rw [f1 _ (by decide)]; exact s2) ?_
          refine sw_istore [(0, _), (1, _), (2, _), (3, _), (4, _)] dX12_lay_129 (by decide) rfl ?_
          refine sw_goto 59 dX12_lay_131 (by decide) ?_
          refine l_yC hb2 R _ _ _ A1 (rpR_f (fun q h1 h2 => f1 q (by omega)) R _ s3) (mzR_cg R _ (fun i _ _ => by rw [f1 _ (by decide)]) s4) (by rw [f1 _ (by decide)]; exact hk) (by omega) (by omega) (fun A' y' j' g1 g2 g3 => ?_)
          refine K A' y' j' (fun q hq => by rw [g1 q hq, f1 q hq]) (fun i hi => by rw [g2 i (by omega), f2 i (by omega)]) ⟨?_, g3⟩
          rw [g2 k (by omega)]
          exact p1
        · exact absurd h104 (by decide)
      · exact absurd h89 (by decide)
set_option maxRecDepth 100000 in
theorem l_yB {l : Launch} {D : va_G} {cy : Nat → ClassId} {d n : Nat} {f : sw_F} {s : Nat → Int32} {Q : sw_Q} {QX : sw_QX} {P : Nat} (hP : s 15 = nI P) (hP2 : P ≤ 160) {r : RT} {b w : Nat} {A : Nat → Nat → Int32} (hk : A 159 b = 6) (hf : A 162 b = lnk r (b + 1)) (hr : rpR A r (b + 1)) (hm : mzR A r (b + 1)) (hz : A 167 b = nI (lnR r)) (hp : A 168 b = nI w) (hs : b + 1 + szR r ≤ P) (K : ∀ A', (∀ q, ¬ q = 168 → A' q = A q) → (∀ i, i < b + 1 ∨ b + 1 + szR r ≤ i → A' 168 i = A 168 i) → plR A' r (b + 1) w → SW l D cy mX12_lay d 0 0 0 0 34 [(0, .ref 150), (1, .int (nI (b + 1)))] [] n (md f s A') Q QX) : SW l D cy mX12_lay d 0 0 0 0 34 [(0, .ref 150), (1, .int (nI (b)))] [] n (md f s A) Q QX := by
  refine sw_iload_n dX12_lay_34 rfl ?_
  refine sw_aload_n dX12_lay_35 rfl (by first | rfl | assumption) ?_
  refine sw_get dX12_lay_36 fr_X12_171 rfl rfl ?_
  refine sw_top (y := nI P) hP ?_
  refine sw_icmp_ge 380 dX12_lay_39 (by decide) (fun h39 => ?_) (fun h39 => ?_)
  · exact absurd h39 (by rw [nI_leI (by omega) (by omega)]; omega)
  · refine sw_aload_n dX12_lay_42 rfl (by first | rfl | assumption) ?_
    refine sw_get dX12_lay_43 fr_X12_70 rfl rfl ?_
    refine sw_iload_n dX12_lay_46 rfl ?_
    refine sw_ialdN (b) dX12_lay_47 rfl rfl (show b < 160 by omega) (by decide) ?_
    refine sw_top (y := nI (w)) hp ?_
    refine sw_istore_n [(0, _), (1, _), (2, _)] dX12_lay_48 (by decide) rfl ?_
    refine sw_iconst (x := 0) dX12_lay_49 (by decide) ?_
    refine sw_top (y := nI 0) rfl ?_
    refine sw_istore_n [(0, _), (1, _), (2, _), (3, _)] dX12_lay_50 (by decide) rfl ?_
    refine sw_aload_n dX12_lay_51 rfl (by first | rfl | assumption) ?_
    refine sw_get dX12_lay_52 fr_X12_52 rfl rfl ?_
    refine sw_iload_n dX12_lay_55 rfl ?_
    refine sw_ialdN (b) dX12_lay_56 rfl rfl (show b < 160 by omega) (by decide) ?_
    refine sw_top (y := lnk r (b + 1)) hf ?_
    refine sw_istore [(0, _), (1, _), (2, _), (3, _), (4, _)] dX12_lay_57 (by decide) rfl ?_
    refine l_yC (by omega) r (b + 1) w 0 A hr hm hk (by omega) (by omega) (fun A1 y j g1 g2 g3 => ?_)
    refine sw_aload_n dX12_lay_134 rfl (by first | rfl | assumption) ?_
    refine sw_get dX12_lay_135 fr_X12_70 rfl rfl ?_
    refine sw_iload_n dX12_lay_138 rfl ?_
    refine sw_ialdN (b) dX12_lay_139 rfl rfl (show b < 160 by omega) (by decide) ?_
    refine sw_top (y := nI w) (by rw [g2 _ (by omega)]; exact hp) ?_
    refine sw_aload_n dX12_lay_140 rfl (by first | rfl | assumption) ?_
    refine sw_get dX12_lay_141 fr_X12_67 rfl rfl ?_
    refine sw_iload_n dX12_lay_144 rfl ?_
    refine sw_ialdN (b) dX12_lay_145 rfl rfl (show b < 160 by omega) (by decide) ?_
    refine sw_top (y := nI (lnR r)) (by rw [g1 _ (by decide)]; exact hz) ?_
    refine sw_iadd dX12_lay_146 ?_
    refine sw_istore [(0, _), (1, _), (2, _), (3, _), (4, _)] dX12_lay_147 (by decide) rfl ?_
    refine sw_aload_n dX12_lay_149 rfl (by first | rfl | assumption) ?_
    refine sw_get dX12_lay_150 fr_X12_52 rfl rfl ?_
    refine sw_iload_n dX12_lay_153 rfl ?_
    refine sw_ialdN (b) dX12_lay_154 rfl rfl (show b < 160 by omega) (by decide) ?_
    refine sw_top (y := lnk r (b + 1)) (by rw [g1 _ (by decide)]; exact hf) ?_
    refine sw_istore [(0, _), (1, _), (2, _), (3, _), (4, _), (5, _)] dX12_lay_155 (by decide) rfl ?_
    refine sw_aload_n dX12_lay_157 rfl (by first | rfl | assumption) ?_
    refine sw_get dX12_lay_158 fr_X12_43 rfl rfl ?_
    refine sw_iload_n dX12_lay_161 rfl ?_
    refine sw_ialdN (b) dX12_lay_162 rfl rfl (show b < 160 by omega) (by decide) ?_
    refine sw_top (y := 6) (by rw [g1 _ (by decide)]; exact hk) ?_
    refine sw_if_eq 176 dX12_lay_163 (by decide) (fun h163 => ?_) (fun h163 => ?_)
    · exact absurd h163 (by decide)
    · refine sw_aload_n dX12_lay_166 rfl (by first | rfl | assumption) ?_
      refine sw_get dX12_lay_167 fr_X12_43 rfl rfl ?_
      refine sw_iload_n dX12_lay_170 rfl ?_
      refine sw_ialdN (b) dX12_lay_171 rfl rfl (show b < 160 by omega) (by decide) ?_
      refine sw_top (y := 6) (by rw [g1 _ (by decide)]; exact hk) ?_
      refine sw_iconst (x := 1) dX12_lay_172 (by decide) ?_
      refine sw_icmp_ne 199 dX12_lay_173 (by decide) (fun h173 => ?_) (fun h173 => ?_)
      · refine sw_aload_n dX12_lay_199 rfl (by first | rfl | assumption) ?_
        refine sw_get dX12_lay_200 fr_X12_43 rfl rfl ?_
        refine sw_iload_n dX12_lay_203 rfl ?_
        refine sw_ialdN (b) dX12_lay_204 rfl rfl (show b < 160 by omega) (by decide) ?_
        refine sw_top (y := 6) (by rw [g1 _ (by decide)]; exact hk) ?_
        refine sw_iconst (x := 2) dX12_lay_205 (by decide) ?_
        refine sw_icmp_ne 227 dX12_lay_206 (by decide) (fun h206 => ?_) (fun h206 => ?_)
        · refine sw_aload_n dX12_lay_227 rfl (by first | rfl | assumption) ?_
          refine sw_get dX12_lay_228 fr_X12_43 rfl rfl ?_
          refine sw_iload_n dX12_lay_231 rfl ?_
          refine sw_ialdN (b) dX12_lay_232 rfl rfl (show b < 160 by omega) (by decide) ?_
          refine sw_top (y := 6) (by rw [g1 _ (by decide)]; exact hk) ?_
          refine sw_iconst (x := 3) dX12_lay_233 (by decide) ?_
          refine sw_icmp_ne 255 dX12_lay_234 (by decide) (fun h234 => ?_) (fun h234 => ?_)
          · refine sw_aload_n dX12_lay_255 rfl (by first | rfl | assumption) ?_
            refine sw_get dX12_lay_256 fr_X12_43 rfl rfl ?_
            refine sw_iload_n dX12_lay_259 rfl ?_
            refine sw_ialdN (b) dX12_lay_260 rfl rfl (show b < 160 by omega) (by decide) ?_
            refine sw_top (y := 6) (by rw [g1 _ (by decide)]; exact hk) ?_
            refine sw_iconst (x := 4) dX12_lay_261 (by decide) ?_
            refine sw_icmp_ne 326 dX12_lay_262 (by decide) (fun h262 => ?_) (fun h262 => ?_)
            · refine sw_aload_n dX12_lay_326 rfl (by first | rfl | assumption) ?_
              refine sw_get dX12_lay_327 fr_X12_43 rfl rfl ?_
              refine sw_iload_n dX12_lay_330 rfl ?_
              refine sw_ialdN (b) dX12_lay_331 rfl rfl (show b < 160 by omega) (by decide) ?_
              refine sw_top (y := 6) (by rw [g1 _ (by decide)]; exact hk) ?_
              refine sw_iconst (x := 5) dX12_lay_332 (by decide) ?_
              refine sw_icmp_ne 374 dX12_lay_333 (by decide) (fun h333 => ?_) (fun h333 => ?_)
              · first | refine sw_inc1 [(0, _), (1, _), (2, _), (3, _), (4, _), (5, _)] dX12_lay_374 rfl (by decide) rfl ?_ | refine sw_iinc [(0, _), (1, _), (2, _), (3, _), (4, _), (5, _)] dX12_lay_374 rfl (by decide) rfl ?_
                refine sw_goto 34 dX12_lay_377 (by decide) ?_
                refine sw_keep [0, 1] rfl ?_
                exact K A1 g1 g2 g3
              · exact absurd h333 (by decide)
            · exact absurd h262 (by decide)
          · exact absurd h234 (by decide)
        · exact absurd h206 (by decide)
      · exact absurd h173 (by decide)
set_option maxRecDepth 100000 in
theorem l_yR {l : Launch} {D : va_G} {cy : Nat → ClassId} {d n : Nat} {f : sw_F} {s : Nat → Int32} {Q : sw_Q} {QX : sw_QX} {P : Nat} (hP : s 15 = nI P) (hd : 1 ≤ d) (hP2 : P ≤ 160) : ∀ (t : RT) (k w : Nat) (A : Nat → Nat → Int32), rpR A t k → wfR t → mzR A t k → plR A t k w → k + szR t ≤ P → w + lnR t ≤ 99 → (∀ A', LYF A A' k (szR t) w (lnR t) → cdR (A' 173) (A' 174) t w → SW l D cy mX12_lay d 0 0 0 0 34 [(0, .ref 150), (1, .int (nI (k + (szR t))))] [] n (md f s A') Q QX) → SW l D cy mX12_lay d 0 0 0 0 34 [(0, .ref 150), (1, .int (nI (k)))] [] n (md f s A) Q QX
  | .leaf _, k, w, A, r, wf, m, pl, hs, hw, K => K A ⟨fun _ _ => rfl, fun _ _ => rfl, fun _ _ => ⟨rfl, rfl⟩⟩ True.intro
  | .branch v (.leaf e) R, k, w, A, r, wf, m, pl, hs, hw, K => by
    obtain ⟨⟨⟨hk, hf, r3, r4, r5⟩, r6⟩, r7, r8⟩ := r
    obtain ⟨⟨hz, m2⟩, m3⟩ := m
    obtain ⟨hp, pl2⟩ := pl
    rw [szS, lnS, show k + (1 + szE e) = k + 1 + szE e by omega, show w + (szE e + 1) = w + szE e + 1 by omega] at pl2
    rw [szR] at hs K
    rw [lnR] at hw K
    have se := szE_pos e
    refine sw_iload_n dX12_lay_34 rfl ?_
    refine sw_aload_n dX12_lay_35 rfl (by first | rfl | assumption) ?_
    refine sw_get dX12_lay_36 fr_X12_171 rfl rfl ?_
    refine sw_top (y := nI P) hP ?_
    refine sw_icmp_ge 380 dX12_lay_39 (by decide) (fun h39 => ?_) (fun h39 => ?_)
    · exact absurd h39 (by rw [nI_leI (by omega) (by omega)]; omega)
    · refine sw_aload_n dX12_lay_42 rfl (by first | rfl | assumption) ?_
      refine sw_get dX12_lay_43 fr_X12_70 rfl rfl ?_
      refine sw_iload_n dX12_lay_46 rfl ?_
      refine sw_ialdN (k) dX12_lay_47 rfl rfl (show k < 160 by omega) (by decide) ?_
      refine sw_top (y := nI (w)) hp ?_
      refine sw_istore_n [(0, _), (1, _), (2, _)] dX12_lay_48 (by decide) rfl ?_
      refine sw_iconst (x := 0) dX12_lay_49 (by decide) ?_
      refine sw_top (y := nI 0) rfl ?_
      refine sw_istore_n [(0, _), (1, _), (2, _), (3, _)] dX12_lay_50 (by decide) rfl ?_
      refine sw_aload_n dX12_lay_51 rfl (by first | rfl | assumption) ?_
      refine sw_get dX12_lay_52 fr_X12_52 rfl rfl ?_
      refine sw_iload_n dX12_lay_55 rfl ?_
      refine sw_ialdN (k) dX12_lay_56 rfl rfl (show k < 160 by omega) (by decide) ?_
      refine sw_top (y := nI (k + 1)) hf ?_
      refine sw_istore [(0, _), (1, _), (2, _), (3, _), (4, _)] dX12_lay_57 (by decide) rfl ?_
      refine sw_iload dX12_lay_59 rfl ?_
      refine sw_if_lt 134 dX12_lay_61 (by decide) (fun h61 => ?_) (fun h61 => ?_)
      · exact absurd h61 (i32_nlt0 (by omega))
      · refine sw_aload_n dX12_lay_64 rfl (by first | rfl | assumption) ?_
        refine sw_get dX12_lay_65 fr_X12_70 rfl rfl ?_
        refine sw_iload dX12_lay_68 rfl ?_
        refine sw_iload_n dX12_lay_70 rfl ?_
        refine m_iast (k + 1) dX12_lay_71 ⟨by decide, by decide, rfl⟩ rfl (show k + 1 < 160 by omega) rfl ?_
        change SW l D cy mX12_lay d 0 0 0 0 72 _ _ n (md f s (u2 A 168 (k + 1) (nI (w)))) _ _
        refine sw_iload_n dX12_lay_72 rfl ?_
        refine sw_aload_n dX12_lay_73 rfl (by first | rfl | assumption) ?_
        refine sw_get dX12_lay_74 fr_X12_67 rfl rfl ?_
        refine sw_iload dX12_lay_77 rfl ?_
        refine sw_ialdN (k + 1) dX12_lay_79 rfl rfl (show k + 1 < 160 by omega) (by decide) ?_
        refine sw_top (y := nI (szE e)) (by rw [u2_q _ _ (by decide)]; exact mzE_s m2) ?_
        refine sw_iadd dX12_lay_80 ?_
        refine sw_top (y := nI (w + szE e)) (nI_add _ _) ?_
        refine sw_istore_n [(0, _), (1, _), (2, _), (3, _), (4, _)] dX12_lay_81 (by decide) rfl ?_
        refine sw_aload_n dX12_lay_82 rfl (by first | rfl | assumption) ?_
        refine sw_get dX12_lay_83 fr_X12_43 rfl rfl ?_
        refine sw_iload_n dX12_lay_86 rfl ?_
        refine sw_ialdN (k) dX12_lay_87 rfl rfl (show k < 160 by omega) (by decide) ?_
        refine sw_top (y := 3) (by rw [u2_q _ _ (by decide)]; exact hk) ?_
        refine sw_iconst (x := 4) dX12_lay_88 (by decide) ?_
        refine sw_icmp_ne 97 dX12_lay_89 (by decide) (fun h89 => ?_) (fun h89 => ?_)
        · refine sw_aload_n dX12_lay_97 rfl (by first | rfl | assumption) ?_
          refine sw_get dX12_lay_98 fr_X12_43 rfl rfl ?_
          refine sw_iload_n dX12_lay_101 rfl ?_
          refine sw_ialdN (k) dX12_lay_102 rfl rfl (show k < 160 by omega) (by decide) ?_
          refine sw_top (y := 3) (by rw [u2_q _ _ (by decide)]; exact hk) ?_
          refine sw_iconst (x := 5) dX12_lay_103 (by decide) ?_
          refine sw_icmp_ne 117 dX12_lay_104 (by decide) (fun h104 => ?_) (fun h104 => ?_)
          · refine sw_iload_n dX12_lay_117 rfl ?_
            refine sw_istore_n [(0, _), (1, _), (2, _), (3, _), (4, _)] dX12_lay_118 (by decide) rfl ?_
            first | refine sw_inc1 [(0, _), (1, _), (2, _), (3, _), (4, _)] dX12_lay_119 rfl (by decide) rfl ?_ | refine sw_iinc [(0, _), (1, _), (2, _), (3, _), (4, _)] dX12_lay_119 rfl (by decide) rfl ?_
            refine sw_aload_n dX12_lay_122 rfl (by first | rfl | assumption) ?_
            refine sw_get dX12_lay_123 fr_X12_58 rfl rfl ?_
            refine sw_iload dX12_lay_126 rfl ?_
            refine sw_ialdN (k + 1) dX12_lay_128 rfl rfl (show k + 1 < 160 by omega) (by decide) ?_
            refine sw_top (y := -1) (by rw [u2_q _ _ (by decide)]; exact r3) ?_
            refine sw_istore [(0, _), (1, _), (2, _), (3, _), (4, _)] dX12_lay_129 (by decide) rfl ?_
            refine sw_goto 59 dX12_lay_131 (by decide) ?_
            refine sw_iload dX12_lay_59 rfl ?_
            refine sw_if_lt 134 dX12_lay_61 (by decide) (fun h61 => ?_) (fun h61 => ?_)
            · have f1 : ∀ q, ¬ q = 168 → (u2 A 168 (k + 1) (nI (w))) q = A q := fun q hq => by rw [u2_q _ _ hq]
              have f2 : ∀ i, ¬ i = k + 1 → (u2 A 168 (k + 1) (nI (w))) 168 i = A 168 i := fun i y0 => by rw [u2_at, if_neg (by omega)]
              have p1 : (u2 A 168 (k + 1) (nI (w))) 168 (k + 1) = nI (w) := by rw [u2_at, if_pos ⟨rfl, rfl⟩]
              generalize (u2 A 168 (k + 1) (nI (w))) = A1 at *
              have hk1 : A1 159 k = 3 := by rw [f1 _ (by decide)]; exact hk
              have hp1 : A1 168 k = nI w := by rw [f2 k (by omega) ]; exact hp
              have hz1 : A1 167 k = nI (szE e + 1) := by rw [f1 _ (by decide)]; exact hz
              have hf1 : A1 162 k = nI (k + 1) := by rw [f1 _ (by decide)]; exact hf
              refine sw_aload_n dX12_lay_134 rfl (by first | rfl | assumption) ?_
              refine sw_get dX12_lay_135 fr_X12_70 rfl rfl ?_
              refine sw_iload_n dX12_lay_138 rfl ?_
              refine sw_ialdN (k) dX12_lay_139 rfl rfl (show k < 160 by omega) (by decide) ?_
              refine sw_top (y := nI (w)) hp1 ?_
              refine sw_aload_n dX12_lay_140 rfl (by first | rfl | assumption) ?_
              refine sw_get dX12_lay_141 fr_X12_67 rfl rfl ?_
              refine sw_iload_n dX12_lay_144 rfl ?_
              refine sw_ialdN (k) dX12_lay_145 rfl rfl (show k < 160 by omega) (by decide) ?_
              refine sw_top (y := nI (szE e + 1)) hz1 ?_
              refine sw_iadd dX12_lay_146 ?_
              refine sw_top (y := nI (w + (szE e + 1))) (nI_add _ _) ?_
              refine sw_istore [(0, _), (1, _), (2, _), (3, _), (4, _)] dX12_lay_147 (by decide) rfl ?_
              refine sw_aload_n dX12_lay_149 rfl (by first | rfl | assumption) ?_
              refine sw_get dX12_lay_150 fr_X12_52 rfl rfl ?_
              refine sw_iload_n dX12_lay_153 rfl ?_
              refine sw_ialdN (k) dX12_lay_154 rfl rfl (show k < 160 by omega) (by decide) ?_
              refine sw_top (y := nI (k + 1)) hf1 ?_
              refine sw_istore [(0, _), (1, _), (2, _), (3, _), (4, _), (5, _)] dX12_lay_155 (by decide) rfl ?_
              refine sw_aload_n dX12_lay_157 rfl (by first | rfl | assumption) ?_
              refine sw_get dX12_lay_158 fr_X12_43 rfl rfl ?_
              refine sw_iload_n dX12_lay_161 rfl ?_
              refine sw_ialdN (k) dX12_lay_162 rfl rfl (show k < 160 by omega) (by decide) ?_
              refine sw_top (y := 3) hk1 ?_
              refine sw_if_eq 176 dX12_lay_163 (by decide) (fun h163 => ?_) (fun h163 => ?_)
              · exact absurd h163 (by decide)
              · refine sw_aload_n dX12_lay_166 rfl (by first | rfl | assumption) ?_
                refine sw_get dX12_lay_167 fr_X12_43 rfl rfl ?_
                refine sw_iload_n dX12_lay_170 rfl ?_
                refine sw_ialdN (k) dX12_lay_171 rfl rfl (show k < 160 by omega) (by decide) ?_
                refine sw_top (y := 3) hk1 ?_
                refine sw_iconst (x := 1) dX12_lay_172 (by decide) ?_
                refine sw_icmp_ne 199 dX12_lay_173 (by decide) (fun h173 => ?_) (fun h173 => ?_)
                · refine sw_aload_n dX12_lay_199 rfl (by first | rfl | assumption) ?_
                  refine sw_get dX12_lay_200 fr_X12_43 rfl rfl ?_
                  refine sw_iload_n dX12_lay_203 rfl ?_
                  refine sw_ialdN (k) dX12_lay_204 rfl rfl (show k < 160 by omega) (by decide) ?_
                  refine sw_top (y := 3) hk1 ?_
                  refine sw_iconst (x := 2) dX12_lay_205 (by decide) ?_
                  refine sw_icmp_ne 227 dX12_lay_206 (by decide) (fun h206 => ?_) (fun h206 => ?_)
                  · refine sw_aload_n dX12_lay_227 rfl (by first | rfl | assumption) ?_
                    refine sw_get dX12_lay_228 fr_X12_43 rfl rfl ?_
                    refine sw_iload_n dX12_lay_231 rfl ?_
                    refine sw_ialdN (k) dX12_lay_232 rfl rfl (show k < 160 by omega) (by decide) ?_
                    refine sw_top (y := 3) hk1 ?_
                    refine sw_iconst (x := 3) dX12_lay_233 (by decide) ?_
                    refine sw_icmp_ne 255 dX12_lay_234 (by decide) (fun h234 => ?_) (fun h234 => ?_)
                    · exact absurd rfl h234
                    · refine sw_aload_n dX12_lay_237 rfl (by first | rfl | assumption) ?_
                      refine sw_iload dX12_lay_238 rfl ?_
                      refine sw_iconst (x := 1) dX12_lay_240 (by decide) ?_
                      refine sw_isub dX12_lay_241 ?_
                      refine sw_top (y := nI (w + szE e)) (sb_e (by omega)) ?_
                      refine sw_iconst (x := 2) dX12_lay_242 (by decide) ?_
                      refine sw_aload_n dX12_lay_243 rfl (by first | rfl | assumption) ?_
                      refine sw_get dX12_lay_244 fr_X12_46 rfl rfl ?_
                      refine sw_iload_n dX12_lay_247 rfl ?_
                      refine sw_ialdN (k) dX12_lay_248 rfl rfl (show k < 160 by omega) (by decide) ?_
                      refine sw_top (y := nI v) (by rw [f1 _ (by decide)]; exact r6) ?_
                      refine sw_Vn dX12_lay_249 k_X12_203 mf_X12_say (c_X12_say (d := d - 1) (k := w + szE e) (by omega) _ _) rfl ⟨_, rfl, rfl⟩ (by omega) (by omega) (by omega) rfl rfl (Nat.le_of_ble_eq_true rfl) ?_
                      change SW l D cy mX12_lay d 0 0 0 0 252 _ _ n (md f s (sy A1 (w + szE e) 2 (nI v))) _ _
                      refine sw_goto 374 dX12_lay_252 (by decide) ?_
                      first | refine sw_inc1 [(0, _), (1, _), (2, _), (3, _), (4, _), (5, _)] dX12_lay_374 rfl (by decide) rfl ?_ | refine sw_iinc [(0, _), (1, _), (2, _), (3, _), (4, _), (5, _)] dX12_lay_374 rfl (by decide) rfl ?_
                      refine sw_goto 34 dX12_lay_377 (by decide) ?_
                      refine sw_keep [0, 1] rfl ?_
                      rw [show k + (1 + szE e + szR R) = k + 1 + szE e + szR R by omega] at K
                      have g2 : ∀ q, ¬ (q = 168 ∨ q = 173 ∨ q = 174) → (sy A1 (w + szE e) 2 (nI v)) q = A q := fun q hq => by rw [sy_q (by omega), f1 q (by omega)]
                      have g3 : ∀ i, (sy A1 (w + szE e) 2 (nI v)) 168 i = A1 168 i := fun i => by rw [sy_q (by decide)]
                      have g4 : ∀ j, ¬ j = w + szE e → (sy A1 (w + szE e) 2 (nI v)) 173 j = A 173 j ∧ (sy A1 (w + szE e) 2 (nI v)) 174 j = A 174 j := fun j y0 => by rw [(sy_j (by omega)).1, (sy_j (by omega)).2, f1 173 (by decide), f1 174 (by decide)]; exact ⟨rfl, rfl⟩
                      have c1 : (sy A1 (w + szE e) 2 (nI v)) 173 (w + szE e) = 2 ∧ (sy A1 (w + szE e) 2 (nI v)) 174 (w + szE e) = nI v := sy_k
                      generalize (sy A1 (w + szE e) 2 (nI v)) = A2 at *
                      refine l_yE hP hd hP2 e (k + 1) w A2 (rpE_f (fun q h1 h2 => g2 q (by omega)) e _ r5) wf.2.1 (mzE_cg e _ (fun i _ _ => by rw [g2 _ (by decide)]) m2) (by rw [g3]; exact p1) (by omega) (by omega) (fun A3 F3 d3 => ?_)
                      refine l_yR hP hd hP2 R (k + 1 + szE e) (w + szE e + 1) A3 (rpR_f (fun q h1 h2 => by rw [F3.1 q (by omega), g2 q (by omega)]) R _ r8) wf.2.2 (mzR_cg R _ (fun i _ _ => by rw [F3.1 _ (by decide), g2 _ (by decide)]) m3) (plR_cg R _ _ (fun i y1 y2 => by rw [F3.2.1 i (by omega), g3, f2 i (by omega)]) r8 m3 pl2) (by omega) (by omega) (fun A4 F4 d4 => ?_)
                      refine K A4 ⟨fun q hq => by rw [F4.1 q hq, F3.1 q hq, g2 q hq], fun i hi => by rw [F4.2.1 i (by omega), F3.2.1 i (by omega), g3, f2 i (by omega)], fun j hj => ?_⟩ ⟨⟨cdE_cg e _ (fun j y1 y2 => F4.2.2 j (by omega)) d3, cd_y F4 (by omega) (cd_y F3 (by omega) c1)⟩, d4⟩
                      rw [(F4.2.2 j (by omega)).1, (F4.2.2 j (by omega)).2, (F3.2.2 j (by omega)).1, (F3.2.2 j (by omega)).2]
                      exact g4 j (by omega)
                  · exact absurd h206 (by decide)
                · exact absurd h173 (by decide)
            · exact absurd nlt_m1 h61
          · exact absurd h104 (by decide)
        · exact absurd h89 (by decide)
  | .branch _ (.branch _ (.leaf e) x) R, k, w, A, r, wf, m, pl, hs, hw, K => by
    obtain ⟨⟨⟨hk, hf, r3, r4, r5⟩, ⟨s1, s2, s3⟩, s4⟩, r7, r8⟩ := r
    obtain ⟨⟨hz, m2, m3, m4⟩, m5⟩ := m
    obtain ⟨hp, pl2⟩ := pl
    rw [szS, lnS, show k + (1 + szE e + 1 + szR x) = k + 1 + szE e + 1 + szR x by omega, show w + (szE e + 1 + lnR x + 1) = w + szE e + 1 + lnR x + 1 by omega] at pl2
    rw [szR] at hs K
    rw [lnR] at hw K
    have se := szE_pos e
    refine sw_iload_n dX12_lay_34 rfl ?_
    refine sw_aload_n dX12_lay_35 rfl (by first | rfl | assumption) ?_
    refine sw_get dX12_lay_36 fr_X12_171 rfl rfl ?_
    refine sw_top (y := nI P) hP ?_
    refine sw_icmp_ge 380 dX12_lay_39 (by decide) (fun h39 => ?_) (fun h39 => ?_)
    · exact absurd h39 (by rw [nI_leI (by omega) (by omega)]; omega)
    · refine sw_aload_n dX12_lay_42 rfl (by first | rfl | assumption) ?_
      refine sw_get dX12_lay_43 fr_X12_70 rfl rfl ?_
      refine sw_iload_n dX12_lay_46 rfl ?_
      refine sw_ialdN (k) dX12_lay_47 rfl rfl (show k < 160 by omega) (by decide) ?_
      refine sw_top (y := nI (w)) hp ?_
      refine sw_istore_n [(0, _), (1, _), (2, _)] dX12_lay_48 (by decide) rfl ?_
      refine sw_iconst (x := 0) dX12_lay_49 (by decide) ?_
      refine sw_top (y := nI 0) rfl ?_
      refine sw_istore_n [(0, _), (1, _), (2, _), (3, _)] dX12_lay_50 (by decide) rfl ?_
      refine sw_aload_n dX12_lay_51 rfl (by first | rfl | assumption) ?_
      refine sw_get dX12_lay_52 fr_X12_52 rfl rfl ?_
      refine sw_iload_n dX12_lay_55 rfl ?_
      refine sw_ialdN (k) dX12_lay_56 rfl rfl (show k < 160 by omega) (by decide) ?_
      refine sw_top (y := nI (k + 1)) hf ?_
      refine sw_istore [(0, _), (1, _), (2, _), (3, _), (4, _)] dX12_lay_57 (by decide) rfl ?_
      refine sw_iload dX12_lay_59 rfl ?_
      refine sw_if_lt 134 dX12_lay_61 (by decide) (fun h61 => ?_) (fun h61 => ?_)
      · exact absurd h61 (i32_nlt0 (by omega))
      · refine sw_aload_n dX12_lay_64 rfl (by first | rfl | assumption) ?_
        refine sw_get dX12_lay_65 fr_X12_70 rfl rfl ?_
        refine sw_iload dX12_lay_68 rfl ?_
        refine sw_iload_n dX12_lay_70 rfl ?_
        refine m_iast (k + 1) dX12_lay_71 ⟨by decide, by decide, rfl⟩ rfl (show k + 1 < 160 by omega) rfl ?_
        change SW l D cy mX12_lay d 0 0 0 0 72 _ _ n (md f s (u2 A 168 (k + 1) (nI (w)))) _ _
        refine sw_iload_n dX12_lay_72 rfl ?_
        refine sw_aload_n dX12_lay_73 rfl (by first | rfl | assumption) ?_
        refine sw_get dX12_lay_74 fr_X12_67 rfl rfl ?_
        refine sw_iload dX12_lay_77 rfl ?_
        refine sw_ialdN (k + 1) dX12_lay_79 rfl rfl (show k + 1 < 160 by omega) (by decide) ?_
        refine sw_top (y := nI (szE e)) (by rw [u2_q _ _ (by decide)]; exact mzE_s m2) ?_
        refine sw_iadd dX12_lay_80 ?_
        refine sw_top (y := nI (w + szE e)) (nI_add _ _) ?_
        refine sw_istore_n [(0, _), (1, _), (2, _), (3, _), (4, _)] dX12_lay_81 (by decide) rfl ?_
        refine sw_aload_n dX12_lay_82 rfl (by first | rfl | assumption) ?_
        refine sw_get dX12_lay_83 fr_X12_43 rfl rfl ?_
        refine sw_iload_n dX12_lay_86 rfl ?_
        refine sw_ialdN (k) dX12_lay_87 rfl rfl (show k < 160 by omega) (by decide) ?_
        refine sw_top (y := 5) (by rw [u2_q _ _ (by decide)]; exact hk) ?_
        refine sw_iconst (x := 4) dX12_lay_88 (by decide) ?_
        refine sw_icmp_ne 97 dX12_lay_89 (by decide) (fun h89 => ?_) (fun h89 => ?_)
        · refine sw_aload_n dX12_lay_97 rfl (by first | rfl | assumption) ?_
          refine sw_get dX12_lay_98 fr_X12_43 rfl rfl ?_
          refine sw_iload_n dX12_lay_101 rfl ?_
          refine sw_ialdN (k) dX12_lay_102 rfl rfl (show k < 160 by omega) (by decide) ?_
          refine sw_top (y := 5) (by rw [u2_q _ _ (by decide)]; exact hk) ?_
          refine sw_iconst (x := 5) dX12_lay_103 (by decide) ?_
          refine sw_icmp_ne 117 dX12_lay_104 (by decide) (fun h104 => ?_) (fun h104 => ?_)
          · exact absurd rfl h104
          · refine sw_iload_n dX12_lay_107 rfl ?_
            refine sw_if_ne 117 dX12_lay_108 (by decide) (fun h108 => ?_) (fun h108 => ?_)
            · exact absurd (by decide) h108
            · refine sw_iload_n dX12_lay_111 rfl ?_
              refine sw_iconst (x := 1) dX12_lay_112 (by decide) ?_
              refine sw_iadd dX12_lay_113 ?_
              refine sw_top (y := nI (w + szE e + 1)) (nI_1 _) ?_
              refine sw_goto 118 dX12_lay_114 (by decide) ?_
              refine sw_istore_n [(0, _), (1, _), (2, _), (3, _), (4, _)] dX12_lay_118 (by decide) rfl ?_
              first | refine sw_inc1 [(0, _), (1, _), (2, _), (3, _), (4, _)] dX12_lay_119 rfl (by decide) rfl ?_ | refine sw_iinc [(0, _), (1, _), (2, _), (3, _), (4, _)] dX12_lay_119 rfl (by decide) rfl ?_
              refine sw_aload_n dX12_lay_122 rfl (by first | rfl | assumption) ?_
              refine sw_get dX12_lay_123 fr_X12_58 rfl rfl ?_
              refine sw_iload dX12_lay_126 rfl ?_
              refine sw_ialdN (k + 1) dX12_lay_128 rfl rfl (show k + 1 < 160 by omega) (by decide) ?_
              refine sw_top (y := nI ((k + 1 + szE e))) (by rw [u2_q _ _ (by decide)]; exact r3) ?_
              refine sw_istore [(0, _), (1, _), (2, _), (3, _), (4, _)] dX12_lay_129 (by decide) rfl ?_
              refine sw_goto 59 dX12_lay_131 (by decide) ?_
              refine sw_iload dX12_lay_59 rfl ?_
              refine sw_if_lt 134 dX12_lay_61 (by decide) (fun h61 => ?_) (fun h61 => ?_)
              · exact absurd h61 (i32_nlt0 (by omega))
              · refine sw_aload_n dX12_lay_64 rfl (by first | rfl | assumption) ?_
                refine sw_get dX12_lay_65 fr_X12_70 rfl rfl ?_
                refine sw_iload dX12_lay_68 rfl ?_
                refine sw_iload_n dX12_lay_70 rfl ?_
                refine m_iast ((k + 1 + szE e)) dX12_lay_71 ⟨by decide, by decide, rfl⟩ rfl (show (k + 1 + szE e) < 160 by omega) rfl ?_
                change SW l D cy mX12_lay d 0 0 0 0 72 _ _ n (md f s (u2 (u2 A 168 (k + 1) (nI (w))) 168 ((k + 1 + szE e)) (nI (w + szE e + 1)))) _ _
                refine sw_iload_n dX12_lay_72 rfl ?_
                refine sw_aload_n dX12_lay_73 rfl (by first | rfl | assumption) ?_
                refine sw_get dX12_lay_74 fr_X12_67 rfl rfl ?_
                refine sw_iload dX12_lay_77 rfl ?_
                refine sw_ialdN ((k + 1 + szE e)) dX12_lay_79 rfl rfl (show (k + 1 + szE e) < 160 by omega) (by decide) ?_
                refine sw_top (y := nI (lnR x)) (by rw [u2_q _ _ (by decide), u2_q _ _ (by decide)]; exact m3) ?_
                refine sw_iadd dX12_lay_80 ?_
                refine sw_top (y := nI (w + szE e + 1 + lnR x)) (nI_add _ _) ?_
                refine sw_istore_n [(0, _), (1, _), (2, _), (3, _), (4, _)] dX12_lay_81 (by decide) rfl ?_
                refine sw_aload_n dX12_lay_82 rfl (by first | rfl | assumption) ?_
                refine sw_get dX12_lay_83 fr_X12_43 rfl rfl ?_
                refine sw_iload_n dX12_lay_86 rfl ?_
                refine sw_ialdN (k) dX12_lay_87 rfl rfl (show k < 160 by omega) (by decide) ?_
                refine sw_top (y := 5) (by rw [u2_q _ _ (by decide), u2_q _ _ (by decide)]; exact hk) ?_
                refine sw_iconst (x := 4) dX12_lay_88 (by decide) ?_
                refine sw_icmp_ne 97 dX12_lay_89 (by decide) (fun h89 => ?_) (fun h89 => ?_)
                · refine sw_aload_n dX12_lay_97 rfl (by first | rfl | assumption) ?_
                  refine sw_get dX12_lay_98 fr_X12_43 rfl rfl ?_
                  refine sw_iload_n dX12_lay_101 rfl ?_
                  refine sw_ialdN (k) dX12_lay_102 rfl rfl (show k < 160 by omega) (by decide) ?_
                  refine sw_top (y := 5) (by rw [u2_q _ _ (by decide), u2_q _ _ (by decide)]; exact hk) ?_
                  refine sw_iconst (x := 5) dX12_lay_103 (by decide) ?_
                  refine sw_icmp_ne 117 dX12_lay_104 (by decide) (fun h104 => ?_) (fun h104 => ?_)
                  · exact absurd rfl h104
                  · refine sw_iload_n dX12_lay_107 rfl ?_
                    refine sw_if_ne 117 dX12_lay_108 (by decide) (fun h108 => ?_) (fun h108 => ?_)
                    · refine sw_iload_n dX12_lay_117 rfl ?_
                      refine sw_istore_n [(0, _), (1, _), (2, _), (3, _), (4, _)] dX12_lay_118 (by decide) rfl ?_
                      first | refine sw_inc1 [(0, _), (1, _), (2, _), (3, _), (4, _)] dX12_lay_119 rfl (by decide) rfl ?_ | refine sw_iinc [(0, _), (1, _), (2, _), (3, _), (4, _)] dX12_lay_119 rfl (by decide) rfl ?_
                      refine sw_aload_n dX12_lay_122 rfl (by first | rfl | assumption) ?_
                      refine sw_get dX12_lay_123 fr_X12_58 rfl rfl ?_
                      refine sw_iload dX12_lay_126 rfl ?_
                      refine sw_ialdN ((k + 1 + szE e)) dX12_lay_128 rfl rfl (show (k + 1 + szE e) < 160 by omega) (by decide) ?_
                      refine sw_top (y := -1) (by rw [u2_q _ _ (by decide), u2_q _ _ (by decide)]; exact s3) ?_
                      refine sw_istore [(0, _), (1, _), (2, _), (3, _), (4, _)] dX12_lay_129 (by decide) rfl ?_
                      refine sw_goto 59 dX12_lay_131 (by decide) ?_
                      refine sw_iload dX12_lay_59 rfl ?_
                      refine sw_if_lt 134 dX12_lay_61 (by decide) (fun h61 => ?_) (fun h61 => ?_)
                      · have f1 : ∀ q, ¬ q = 168 → (u2 (u2 A 168 (k + 1) (nI (w))) 168 ((k + 1 + szE e)) (nI (w + szE e + 1))) q = A q := fun q hq => by rw [u2_q _ _ hq, u2_q _ _ hq]
                        have f2 : ∀ i, ¬ i = k + 1 → ¬ i = (k + 1 + szE e) → (u2 (u2 A 168 (k + 1) (nI (w))) 168 ((k + 1 + szE e)) (nI (w + szE e + 1))) 168 i = A 168 i := fun i y0 y1 => by rw [u2_at, if_neg (by omega), u2_at, if_neg (by omega)]
                        have p1 : (u2 (u2 A 168 (k + 1) (nI (w))) 168 ((k + 1 + szE e)) (nI (w + szE e + 1))) 168 (k + 1) = nI (w) := by rw [u2_at, if_neg (by omega), u2_at, if_pos ⟨rfl, rfl⟩]
                        have p2 : (u2 (u2 A 168 (k + 1) (nI (w))) 168 ((k + 1 + szE e)) (nI (w + szE e + 1))) 168 ((k + 1 + szE e)) = nI (w + szE e + 1) := by rw [u2_at, if_pos ⟨rfl, rfl⟩]
                        generalize (u2 (u2 A 168 (k + 1) (nI (w))) 168 ((k + 1 + szE e)) (nI (w + szE e + 1))) = A1 at *
                        have hk1 : A1 159 k = 5 := by rw [f1 _ (by decide)]; exact hk
                        have hp1 : A1 168 k = nI w := by rw [f2 k (by omega) (by omega) ]; exact hp
                        have hz1 : A1 167 k = nI (szE e + 1 + lnR x + 1) := by rw [f1 _ (by decide)]; exact hz
                        have hf1 : A1 162 k = nI (k + 1) := by rw [f1 _ (by decide)]; exact hf
                        refine sw_aload_n dX12_lay_134 rfl (by first | rfl | assumption) ?_
                        refine sw_get dX12_lay_135 fr_X12_70 rfl rfl ?_
                        refine sw_iload_n dX12_lay_138 rfl ?_
                        refine sw_ialdN (k) dX12_lay_139 rfl rfl (show k < 160 by omega) (by decide) ?_
                        refine sw_top (y := nI (w)) hp1 ?_
                        refine sw_aload_n dX12_lay_140 rfl (by first | rfl | assumption) ?_
                        refine sw_get dX12_lay_141 fr_X12_67 rfl rfl ?_
                        refine sw_iload_n dX12_lay_144 rfl ?_
                        refine sw_ialdN (k) dX12_lay_145 rfl rfl (show k < 160 by omega) (by decide) ?_
                        refine sw_top (y := nI (szE e + 1 + lnR x + 1)) hz1 ?_
                        refine sw_iadd dX12_lay_146 ?_
                        refine sw_top (y := nI (w + (szE e + 1 + lnR x + 1))) (nI_add _ _) ?_
                        refine sw_istore [(0, _), (1, _), (2, _), (3, _), (4, _)] dX12_lay_147 (by decide) rfl ?_
                        refine sw_aload_n dX12_lay_149 rfl (by first | rfl | assumption) ?_
                        refine sw_get dX12_lay_150 fr_X12_52 rfl rfl ?_
                        refine sw_iload_n dX12_lay_153 rfl ?_
                        refine sw_ialdN (k) dX12_lay_154 rfl rfl (show k < 160 by omega) (by decide) ?_
                        refine sw_top (y := nI (k + 1)) hf1 ?_
                        refine sw_istore [(0, _), (1, _), (2, _), (3, _), (4, _), (5, _)] dX12_lay_155 (by decide) rfl ?_
                        refine sw_aload_n dX12_lay_157 rfl (by first | rfl | assumption) ?_
                        refine sw_get dX12_lay_158 fr_X12_43 rfl rfl ?_
                        refine sw_iload_n dX12_lay_161 rfl ?_
                        refine sw_ialdN (k) dX12_lay_162 rfl rfl (show k < 160 by omega) (by decide) ?_
                        refine sw_top (y := 5) hk1 ?_
                        refine sw_if_eq 176 dX12_lay_163 (by decide) (fun h163 => ?_) (fun h163 => ?_)
                        · exact absurd h163 (by decide)
                        · refine sw_aload_n dX12_lay_166 rfl (by first | rfl | assumption) ?_
                          refine sw_get dX12_lay_167 fr_X12_43 rfl rfl ?_
                          refine sw_iload_n dX12_lay_170 rfl ?_
                          refine sw_ialdN (k) dX12_lay_171 rfl rfl (show k < 160 by omega) (by decide) ?_
                          refine sw_top (y := 5) hk1 ?_
                          refine sw_iconst (x := 1) dX12_lay_172 (by decide) ?_
                          refine sw_icmp_ne 199 dX12_lay_173 (by decide) (fun h173 => ?_) (fun h173 => ?_)
                          · refine sw_aload_n dX12_lay_199 rfl (by first | rfl | assumption) ?_
                            refine sw_get dX12_lay_200 fr_X12_43 rfl rfl ?_
                            refine sw_iload_n dX12_lay_203 rfl ?_
                            refine sw_ialdN (k) dX12_lay_204 rfl rfl (show k < 160 by omega) (by decide) ?_
                            refine sw_top (y := 5) hk1 ?_
                            refine sw_iconst (x := 2) dX12_lay_205 (by decide) ?_
                            refine sw_icmp_ne 227 dX12_lay_206 (by decide) (fun h206 => ?_) (fun h206 => ?_)
                            · refine sw_aload_n dX12_lay_227 rfl (by first | rfl | assumption) ?_
                              refine sw_get dX12_lay_228 fr_X12_43 rfl rfl ?_
                              refine sw_iload_n dX12_lay_231 rfl ?_
                              refine sw_ialdN (k) dX12_lay_232 rfl rfl (show k < 160 by omega) (by decide) ?_
                              refine sw_top (y := 5) hk1 ?_
                              refine sw_iconst (x := 3) dX12_lay_233 (by decide) ?_
                              refine sw_icmp_ne 255 dX12_lay_234 (by decide) (fun h234 => ?_) (fun h234 => ?_)
                              · refine sw_aload_n dX12_lay_255 rfl (by first | rfl | assumption) ?_
                                refine sw_get dX12_lay_256 fr_X12_43 rfl rfl ?_
                                refine sw_iload_n dX12_lay_259 rfl ?_
                                refine sw_ialdN (k) dX12_lay_260 rfl rfl (show k < 160 by omega) (by decide) ?_
                                refine sw_top (y := 5) hk1 ?_
                                refine sw_iconst (x := 4) dX12_lay_261 (by decide) ?_
                                refine sw_icmp_ne 326 dX12_lay_262 (by decide) (fun h262 => ?_) (fun h262 => ?_)
                                · refine sw_aload_n dX12_lay_326 rfl (by first | rfl | assumption) ?_
                                  refine sw_get dX12_lay_327 fr_X12_43 rfl rfl ?_
                                  refine sw_iload_n dX12_lay_330 rfl ?_
                                  refine sw_ialdN (k) dX12_lay_331 rfl rfl (show k < 160 by omega) (by decide) ?_
                                  refine sw_top (y := 5) hk1 ?_
                                  refine sw_iconst (x := 5) dX12_lay_332 (by decide) ?_
                                  refine sw_icmp_ne 374 dX12_lay_333 (by decide) (fun h333 => ?_) (fun h333 => ?_)
                                  · exact absurd rfl h333
                                  · refine sw_aload_n dX12_lay_336 rfl (by first | rfl | assumption) ?_
                                    refine sw_aload_n dX12_lay_337 rfl (by first | rfl | assumption) ?_
                                    refine sw_get dX12_lay_338 fr_X12_70 rfl rfl ?_
                                    refine sw_aload_n dX12_lay_341 rfl (by first | rfl | assumption) ?_
                                    refine sw_get dX12_lay_342 fr_X12_58 rfl rfl ?_
                                    refine sw_iload dX12_lay_345 rfl ?_
                                    refine sw_ialdN (k + 1) dX12_lay_347 rfl rfl (show k + 1 < 160 by omega) (by decide) ?_
                                    refine sw_top (y := nI (k + 1 + szE e)) (by rw [f1 _ (by decide)]; exact r3) ?_
                                    refine sw_ialdN ((k + 1 + szE e)) dX12_lay_348 rfl rfl (show (k + 1 + szE e) < 160 by omega) (by decide) ?_
                                    refine sw_top (y := nI (w + szE e + 1)) p2 ?_
                                    refine sw_iconst (x := 1) dX12_lay_349 (by decide) ?_
                                    refine sw_isub dX12_lay_350 ?_
                                    refine sw_top (y := nI (w + szE e)) (sb_e rfl) ?_
                                    refine sw_bipush (x := 7) dX12_lay_351 (by decide) ?_
                                    refine sw_iload dX12_lay_353 rfl ?_
                                    refine sw_top (y := nI (w + szE e + 1 + lnR x + 1)) (congrArg nI (by omega)) ?_
                                    refine sw_Vn dX12_lay_355 k_X12_203 mf_X12_say (c_X12_say (d := d - 1) (k := w + szE e) (by omega) _ _) rfl ⟨_, rfl, rfl⟩ (by omega) (by omega) (by omega) rfl rfl (Nat.le_of_ble_eq_true rfl) ?_
                                    change SW l D cy mX12_lay d 0 0 0 0 358 _ _ n (md f s (sy A1 (w + szE e) 7 (nI (w + szE e + 1 + lnR x + 1)))) _ _
                                    refine sw_aload_n dX12_lay_358 rfl (by first | rfl | assumption) ?_
                                    refine sw_iload dX12_lay_359 rfl ?_
                                    refine sw_iconst (x := 1) dX12_lay_361 (by decide) ?_
                                    refine sw_isub dX12_lay_362 ?_
                                    refine sw_top (y := nI (w + szE e + 1 + lnR x)) (sb_e (by omega)) ?_
                                    refine sw_bipush (x := 8) dX12_lay_363 (by decide) ?_
                                    refine sw_aload_n dX12_lay_365 rfl (by first | rfl | assumption) ?_
                                    refine sw_get dX12_lay_366 fr_X12_70 rfl rfl ?_
                                    refine sw_iload_n dX12_lay_369 rfl ?_
                                    refine sw_ialdN (k) dX12_lay_370 rfl rfl (show k < 160 by omega) (by decide) ?_
                                    refine sw_top (y := nI w) (by rw [sy_q (by decide)]; exact hp1) ?_
                                    refine sw_Vn dX12_lay_371 k_X12_203 mf_X12_say (c_X12_say (d := d - 1) (k := w + szE e + 1 + lnR x) (by omega) _ _) rfl ⟨_, rfl, rfl⟩ (by omega) (by omega) (by omega) rfl rfl (Nat.le_of_ble_eq_true rfl) ?_
                                    change SW l D cy mX12_lay d 0 0 0 0 374 _ _ n (md f s (sy (sy A1 (w + szE e) 7 (nI (w + szE e + 1 + lnR x + 1))) (w + szE e + 1 + lnR x) 8 (nI w))) _ _
                                    first | refine sw_inc1 [(0, _), (1, _), (2, _), (3, _), (4, _), (5, _)] dX12_lay_374 rfl (by decide) rfl ?_ | refine sw_iinc [(0, _), (1, _), (2, _), (3, _), (4, _), (5, _)] dX12_lay_374 rfl (by decide) rfl ?_
                                    refine sw_goto 34 dX12_lay_377 (by decide) ?_
                                    refine sw_keep [0, 1] rfl ?_
                                    rw [show k + (1 + szE e + (1 + szR x) + szR R) = k + 1 + szE e + 1 + szR x + szR R by omega] at K
                                    have g2 : ∀ q, ¬ (q = 168 ∨ q = 173 ∨ q = 174) → (sy (sy A1 (w + szE e) 7 (nI (w + szE e + 1 + lnR x + 1))) (w + szE e + 1 + lnR x) 8 (nI w)) q = A q := fun q hq => by rw [sy_q (by omega), sy_q (by omega), f1 q (by omega)]
                                    have g3 : ∀ i, (sy (sy A1 (w + szE e) 7 (nI (w + szE e + 1 + lnR x + 1))) (w + szE e + 1 + lnR x) 8 (nI w)) 168 i = A1 168 i := fun i => by rw [sy_q (by decide), sy_q (by decide)]
                                    have g4 : ∀ j, ¬ j = w + szE e → ¬ j = w + szE e + 1 + lnR x → (sy (sy A1 (w + szE e) 7 (nI (w + szE e + 1 + lnR x + 1))) (w + szE e + 1 + lnR x) 8 (nI w)) 173 j = A 173 j ∧ (sy (sy A1 (w + szE e) 7 (nI (w + szE e + 1 + lnR x + 1))) (w + szE e + 1 + lnR x) 8 (nI w)) 174 j = A 174 j := fun j y0 y1 => by rw [(sy_j (by omega)).1, (sy_j (by omega)).1, (sy_j (by omega)).2, (sy_j (by omega)).2, f1 173 (by decide), f1 174 (by decide)]; exact ⟨rfl, rfl⟩
                                    have c1 : (sy (sy A1 (w + szE e) 7 (nI (w + szE e + 1 + lnR x + 1))) (w + szE e + 1 + lnR x) 8 (nI w)) 173 (w + szE e) = 7 ∧ (sy (sy A1 (w + szE e) 7 (nI (w + szE e + 1 + lnR x + 1))) (w + szE e + 1 + lnR x) 8 (nI w)) 174 (w + szE e) = nI (w + szE e + 1 + lnR x + 1) := by rw [(sy_j (by omega)).1, (sy_j (by omega)).2]; exact sy_k
                                    have c2 : (sy (sy A1 (w + szE e) 7 (nI (w + szE e + 1 + lnR x + 1))) (w + szE e + 1 + lnR x) 8 (nI w)) 173 (w + szE e + 1 + lnR x) = 8 ∧ (sy (sy A1 (w + szE e) 7 (nI (w + szE e + 1 + lnR x + 1))) (w + szE e + 1 + lnR x) 8 (nI w)) 174 (w + szE e + 1 + lnR x) = nI w := sy_k
                                    generalize (sy (sy A1 (w + szE e) 7 (nI (w + szE e + 1 + lnR x + 1))) (w + szE e + 1 + lnR x) 8 (nI w)) = A2 at *
                                    refine l_yE hP hd hP2 e (k + 1) w A2 (rpE_f (fun q h1 h2 => g2 q (by omega)) e _ r5) wf.1 (mzE_cg e _ (fun i _ _ => by rw [g2 _ (by decide)]) m2) (by rw [g3]; exact p1) (by omega) (by omega) (fun A3 F3 d3 => ?_)
                                    have F3a : ∀ q, ¬ (q = 168 ∨ q = 173 ∨ q = 174) → A3 q = A q := fun q hq => by rw [F3.1 q hq, g2 q hq]
                                    refine l_yB hP hP2 (r := x) (b := k + 1 + szE e) (w := w + szE e + 1) (by rw [F3a _ (by decide)]; exact s1) (by rw [F3a _ (by decide)]; exact s2) (rpR_f (fun q h1 h2 => F3a q (by omega)) x _ s4) (mzR_cg x _ (fun i _ _ => by rw [F3a _ (by decide)]) m4) (by rw [F3a _ (by decide)]; exact m3) (by rw [F3.2.1 _ (by omega), g3]; exact p2) (by omega) (fun A4 h1 h2 h3 => ?_)
                                    have F4a : ∀ q, ¬ (q = 168 ∨ q = 173 ∨ q = 174) → A4 q = A q := fun q hq => by rw [h1 q (by omega), F3a q hq]
                                    refine l_yR hP hd hP2 x (k + 1 + szE e + 1) (w + szE e + 1) A4 (rpR_f (fun q h1 h2 => F4a q (by omega)) x _ s4) wf.2.1 (mzR_cg x _ (fun i _ _ => by rw [F4a _ (by decide)]) m4) h3 (by omega) (by omega) (fun A5 F5 d5 => ?_)
                                    have F5a : ∀ q, ¬ (q = 168 ∨ q = 173 ∨ q = 174) → A5 q = A q := fun q hq => by rw [F5.1 q hq, F4a q hq]
                                    refine l_yR hP hd hP2 R (k + 1 + szE e + 1 + szR x) (w + szE e + 1 + lnR x + 1) A5 (rpR_f (fun q h1 h2 => F5a q (by omega)) R _ r8) wf.2.2 (mzR_cg R _ (fun i _ _ => by rw [F5a _ (by decide)]) m5) (plR_cg R _ _ (fun i y1 y2 => by rw [F5.2.1 i (by omega), h2 i (by omega), F3.2.1 i (by omega), g3, f2 i (by omega) (by omega)]) r8 m5 pl2) (by omega) (by omega) (fun A6 F6 d6 => ?_)
                                    have e4 : ∀ j, A4 173 j = A3 173 j ∧ A4 174 j = A3 174 j := fun j => by rw [h1 173 (by decide), h1 174 (by decide)]; exact ⟨rfl, rfl⟩
                                    have e6 : ∀ j, j < w + szE e + 1 ∨ w + szE e + 1 + lnR x + 1 ≤ j ∨ j = w + szE e + 1 + lnR x → j < w + szE e + 1 + lnR x + 1 ∨ w + szE e + 1 + lnR x + 1 + lnR R ≤ j → A6 173 j = A3 173 j ∧ A6 174 j = A3 174 j := fun j y1 y2 => by
                                      rw [(F6.2.2 j (by omega)).1, (F6.2.2 j (by omega)).2, (F5.2.2 j (by omega)).1, (F5.2.2 j (by omega)).2]; exact e4 j
                                    refine K A6 ⟨fun q hq => by rw [F6.1 q hq, F5a q hq], fun i hi => by rw [F6.2.1 i (by omega), F5.2.1 i (by omega), h2 i (by omega), F3.2.1 i (by omega), g3, f2 i (by omega) (by omega)], fun j hj => ?_⟩ ⟨⟨cdE_cg e _ (fun j y1 y2 => e6 j (by omega) (by omega)) d3, ?_, ?_, cdR_cg x _ (fun j y1 y2 => F6.2.2 j (by omega)) d5⟩, d6⟩
                                    · rw [(e6 j (by omega) (by omega)).1, (e6 j (by omega) (by omega)).2, (F3.2.2 j (by omega)).1, (F3.2.2 j (by omega)).2]
                                      exact g4 j (by omega) (by omega)
                                    · rw [(e6 _ (by omega) (by omega)).1, (e6 _ (by omega) (by omega)).2]
                                      exact cd_y F3 (by omega) c1
                                    · rw [(e6 _ (by omega) (by omega)).1, (e6 _ (by omega) (by omega)).2]
                                      exact cd_y F3 (by omega) c2
                                · exact absurd h262 (by decide)
                              · exact absurd h234 (by decide)
                            · exact absurd h206 (by decide)
                          · exact absurd h173 (by decide)
                      · exact absurd nlt_m1 h61
                    · exact absurd h108 (by decide)
                · exact absurd h89 (by decide)
        · exact absurd h89 (by decide)
  | .branch _ (.branch _ (.branch _ (.leaf e) x) y) R, k, w, A, r, wf, m, pl, hs, hw, K => by
    obtain ⟨⟨⟨hk, hf, r3, r4, r5⟩, ⟨s1, s2, s3⟩, s4, ⟨t1, t2, t3⟩, t4⟩, r7, r8⟩ := r
    obtain ⟨⟨hz, m2, m3, m4, m5, m6⟩, m7⟩ := m
    obtain ⟨hp, pl2⟩ := pl
    rw [szS, lnS, show k + (1 + szE e + 1 + szR x + 1 + szR y) = k + 1 + szE e + 1 + szR x + 1 + szR y by omega, show w + (szE e + 1 + lnR x + 1 + lnR y) = w + szE e + 1 + lnR x + 1 + lnR y by omega] at pl2
    rw [szR] at hs K
    rw [lnR] at hw K
    have se := szE_pos e
    refine sw_iload_n dX12_lay_34 rfl ?_
    refine sw_aload_n dX12_lay_35 rfl (by first | rfl | assumption) ?_
    refine sw_get dX12_lay_36 fr_X12_171 rfl rfl ?_
    refine sw_top (y := nI P) hP ?_
    refine sw_icmp_ge 380 dX12_lay_39 (by decide) (fun h39 => ?_) (fun h39 => ?_)
    · exact absurd h39 (by rw [nI_leI (by omega) (by omega)]; omega)
    · refine sw_aload_n dX12_lay_42 rfl (by first | rfl | assumption) ?_
      refine sw_get dX12_lay_43 fr_X12_70 rfl rfl ?_
      refine sw_iload_n dX12_lay_46 rfl ?_
      refine sw_ialdN (k) dX12_lay_47 rfl rfl (show k < 160 by omega) (by decide) ?_
      refine sw_top (y := nI (w)) hp ?_
      refine sw_istore_n [(0, _), (1, _), (2, _)] dX12_lay_48 (by decide) rfl ?_
      refine sw_iconst (x := 0) dX12_lay_49 (by decide) ?_
      refine sw_top (y := nI 0) rfl ?_
      refine sw_istore_n [(0, _), (1, _), (2, _), (3, _)] dX12_lay_50 (by decide) rfl ?_
      refine sw_aload_n dX12_lay_51 rfl (by first | rfl | assumption) ?_
      refine sw_get dX12_lay_52 fr_X12_52 rfl rfl ?_
      refine sw_iload_n dX12_lay_55 rfl ?_
      refine sw_ialdN (k) dX12_lay_56 rfl rfl (show k < 160 by omega) (by decide) ?_
      refine sw_top (y := nI (k + 1)) hf ?_
      refine sw_istore [(0, _), (1, _), (2, _), (3, _), (4, _)] dX12_lay_57 (by decide) rfl ?_
      refine sw_iload dX12_lay_59 rfl ?_
      refine sw_if_lt 134 dX12_lay_61 (by decide) (fun h61 => ?_) (fun h61 => ?_)
      · exact absurd h61 (i32_nlt0 (by omega))
      · refine sw_aload_n dX12_lay_64 rfl (by first | rfl | assumption) ?_
        refine sw_get dX12_lay_65 fr_X12_70 rfl rfl ?_
        refine sw_iload dX12_lay_68 rfl ?_
        refine sw_iload_n dX12_lay_70 rfl ?_
        refine m_iast (k + 1) dX12_lay_71 ⟨by decide, by decide, rfl⟩ rfl (show k + 1 < 160 by omega) rfl ?_
        change SW l D cy mX12_lay d 0 0 0 0 72 _ _ n (md f s (u2 A 168 (k + 1) (nI (w)))) _ _
        refine sw_iload_n dX12_lay_72 rfl ?_
        refine sw_aload_n dX12_lay_73 rfl (by first | rfl | assumption) ?_
        refine sw_get dX12_lay_74 fr_X12_67 rfl rfl ?_
        refine sw_iload dX12_lay_77 rfl ?_
        refine sw_ialdN (k + 1) dX12_lay_79 rfl rfl (show k + 1 < 160 by omega) (by decide) ?_
        refine sw_top (y := nI (szE e)) (by rw [u2_q _ _ (by decide)]; exact mzE_s m2) ?_
        refine sw_iadd dX12_lay_80 ?_
        refine sw_top (y := nI (w + szE e)) (nI_add _ _) ?_
        refine sw_istore_n [(0, _), (1, _), (2, _), (3, _), (4, _)] dX12_lay_81 (by decide) rfl ?_
        refine sw_aload_n dX12_lay_82 rfl (by first | rfl | assumption) ?_
        refine sw_get dX12_lay_83 fr_X12_43 rfl rfl ?_
        refine sw_iload_n dX12_lay_86 rfl ?_
        refine sw_ialdN (k) dX12_lay_87 rfl rfl (show k < 160 by omega) (by decide) ?_
        refine sw_top (y := 4) (by rw [u2_q _ _ (by decide)]; exact hk) ?_
        refine sw_iconst (x := 4) dX12_lay_88 (by decide) ?_
        refine sw_icmp_ne 97 dX12_lay_89 (by decide) (fun h89 => ?_) (fun h89 => ?_)
        · exact absurd rfl h89
        · refine sw_iload_n dX12_lay_92 rfl ?_
          refine sw_iconst (x := 2) dX12_lay_93 (by decide) ?_
          refine sw_icmp_lt 111 dX12_lay_94 (by decide) (fun h94 => ?_) (fun h94 => ?_)
          · refine sw_iload_n dX12_lay_111 rfl ?_
            refine sw_iconst (x := 1) dX12_lay_112 (by decide) ?_
            refine sw_iadd dX12_lay_113 ?_
            refine sw_top (y := nI (w + szE e + 1)) (nI_1 _) ?_
            refine sw_goto 118 dX12_lay_114 (by decide) ?_
            refine sw_istore_n [(0, _), (1, _), (2, _), (3, _), (4, _)] dX12_lay_118 (by decide) rfl ?_
            first | refine sw_inc1 [(0, _), (1, _), (2, _), (3, _), (4, _)] dX12_lay_119 rfl (by decide) rfl ?_ | refine sw_iinc [(0, _), (1, _), (2, _), (3, _), (4, _)] dX12_lay_119 rfl (by decide) rfl ?_
            refine sw_aload_n dX12_lay_122 rfl (by first | rfl | assumption) ?_
            refine sw_get dX12_lay_123 fr_X12_58 rfl rfl ?_
            refine sw_iload dX12_lay_126 rfl ?_
            refine sw_ialdN (k + 1) dX12_lay_128 rfl rfl (show k + 1 < 160 by omega) (by decide) ?_
            refine sw_top (y := nI ((k + 1 + szE e))) (by rw [u2_q _ _ (by decide)]; exact r3) ?_
            refine sw_istore [(0, _), (1, _), (2, _), (3, _), (4, _)] dX12_lay_129 (by decide) rfl ?_
            refine sw_goto 59 dX12_lay_131 (by decide) ?_
            refine sw_iload dX12_lay_59 rfl ?_
            refine sw_if_lt 134 dX12_lay_61 (by decide) (fun h61 => ?_) (fun h61 => ?_)
            · exact absurd h61 (i32_nlt0 (by omega))
            · refine sw_aload_n dX12_lay_64 rfl (by first | rfl | assumption) ?_
              refine sw_get dX12_lay_65 fr_X12_70 rfl rfl ?_
              refine sw_iload dX12_lay_68 rfl ?_
              refine sw_iload_n dX12_lay_70 rfl ?_
              refine m_iast ((k + 1 + szE e)) dX12_lay_71 ⟨by decide, by decide, rfl⟩ rfl (show (k + 1 + szE e) < 160 by omega) rfl ?_
              change SW l D cy mX12_lay d 0 0 0 0 72 _ _ n (md f s (u2 (u2 A 168 (k + 1) (nI (w))) 168 ((k + 1 + szE e)) (nI (w + szE e + 1)))) _ _
              refine sw_iload_n dX12_lay_72 rfl ?_
              refine sw_aload_n dX12_lay_73 rfl (by first | rfl | assumption) ?_
              refine sw_get dX12_lay_74 fr_X12_67 rfl rfl ?_
              refine sw_iload dX12_lay_77 rfl ?_
              refine sw_ialdN ((k + 1 + szE e)) dX12_lay_79 rfl rfl (show (k + 1 + szE e) < 160 by omega) (by decide) ?_
              refine sw_top (y := nI (lnR x)) (by rw [u2_q _ _ (by decide), u2_q _ _ (by decide)]; exact m3) ?_
              refine sw_iadd dX12_lay_80 ?_
              refine sw_top (y := nI (w + szE e + 1 + lnR x)) (nI_add _ _) ?_
              refine sw_istore_n [(0, _), (1, _), (2, _), (3, _), (4, _)] dX12_lay_81 (by decide) rfl ?_
              refine sw_aload_n dX12_lay_82 rfl (by first | rfl | assumption) ?_
              refine sw_get dX12_lay_83 fr_X12_43 rfl rfl ?_
              refine sw_iload_n dX12_lay_86 rfl ?_
              refine sw_ialdN (k) dX12_lay_87 rfl rfl (show k < 160 by omega) (by decide) ?_
              refine sw_top (y := 4) (by rw [u2_q _ _ (by decide), u2_q _ _ (by decide)]; exact hk) ?_
              refine sw_iconst (x := 4) dX12_lay_88 (by decide) ?_
              refine sw_icmp_ne 97 dX12_lay_89 (by decide) (fun h89 => ?_) (fun h89 => ?_)
              · exact absurd rfl h89
              · refine sw_iload_n dX12_lay_92 rfl ?_
                refine sw_iconst (x := 2) dX12_lay_93 (by decide) ?_
                refine sw_icmp_lt 111 dX12_lay_94 (by decide) (fun h94 => ?_) (fun h94 => ?_)
                · refine sw_iload_n dX12_lay_111 rfl ?_
                  refine sw_iconst (x := 1) dX12_lay_112 (by decide) ?_
                  refine sw_iadd dX12_lay_113 ?_
                  refine sw_top (y := nI (w + szE e + 1 + lnR x + 1)) (nI_1 _) ?_
                  refine sw_goto 118 dX12_lay_114 (by decide) ?_
                  refine sw_istore_n [(0, _), (1, _), (2, _), (3, _), (4, _)] dX12_lay_118 (by decide) rfl ?_
                  first | refine sw_inc1 [(0, _), (1, _), (2, _), (3, _), (4, _)] dX12_lay_119 rfl (by decide) rfl ?_ | refine sw_iinc [(0, _), (1, _), (2, _), (3, _), (4, _)] dX12_lay_119 rfl (by decide) rfl ?_
                  refine sw_aload_n dX12_lay_122 rfl (by first | rfl | assumption) ?_
                  refine sw_get dX12_lay_123 fr_X12_58 rfl rfl ?_
                  refine sw_iload dX12_lay_126 rfl ?_
                  refine sw_ialdN ((k + 1 + szE e)) dX12_lay_128 rfl rfl (show (k + 1 + szE e) < 160 by omega) (by decide) ?_
                  refine sw_top (y := nI ((k + 1 + szE e + 1 + szR x))) (by rw [u2_q _ _ (by decide), u2_q _ _ (by decide)]; exact s3) ?_
                  refine sw_istore [(0, _), (1, _), (2, _), (3, _), (4, _)] dX12_lay_129 (by decide) rfl ?_
                  refine sw_goto 59 dX12_lay_131 (by decide) ?_
                  refine sw_iload dX12_lay_59 rfl ?_
                  refine sw_if_lt 134 dX12_lay_61 (by decide) (fun h61 => ?_) (fun h61 => ?_)
                  · exact absurd h61 (i32_nlt0 (by omega))
                  · refine sw_aload_n dX12_lay_64 rfl (by first | rfl | assumption) ?_
                    refine sw_get dX12_lay_65 fr_X12_70 rfl rfl ?_
                    refine sw_iload dX12_lay_68 rfl ?_
                    refine sw_iload_n dX12_lay_70 rfl ?_
                    refine m_iast ((k + 1 + szE e + 1 + szR x)) dX12_lay_71 ⟨by decide, by decide, rfl⟩ rfl (show (k + 1 + szE e + 1 + szR x) < 160 by omega) rfl ?_
                    change SW l D cy mX12_lay d 0 0 0 0 72 _ _ n (md f s (u2 (u2 (u2 A 168 (k + 1) (nI (w))) 168 ((k + 1 + szE e)) (nI (w + szE e + 1))) 168 ((k + 1 + szE e + 1 + szR x)) (nI (w + szE e + 1 + lnR x + 1)))) _ _
                    refine sw_iload_n dX12_lay_72 rfl ?_
                    refine sw_aload_n dX12_lay_73 rfl (by first | rfl | assumption) ?_
                    refine sw_get dX12_lay_74 fr_X12_67 rfl rfl ?_
                    refine sw_iload dX12_lay_77 rfl ?_
                    refine sw_ialdN ((k + 1 + szE e + 1 + szR x)) dX12_lay_79 rfl rfl (show (k + 1 + szE e + 1 + szR x) < 160 by omega) (by decide) ?_
                    refine sw_top (y := nI (lnR y)) (by rw [u2_q _ _ (by decide), u2_q _ _ (by decide), u2_q _ _ (by decide)]; exact m5) ?_
                    refine sw_iadd dX12_lay_80 ?_
                    refine sw_top (y := nI (w + szE e + 1 + lnR x + 1 + lnR y)) (nI_add _ _) ?_
                    refine sw_istore_n [(0, _), (1, _), (2, _), (3, _), (4, _)] dX12_lay_81 (by decide) rfl ?_
                    refine sw_aload_n dX12_lay_82 rfl (by first | rfl | assumption) ?_
                    refine sw_get dX12_lay_83 fr_X12_43 rfl rfl ?_
                    refine sw_iload_n dX12_lay_86 rfl ?_
                    refine sw_ialdN (k) dX12_lay_87 rfl rfl (show k < 160 by omega) (by decide) ?_
                    refine sw_top (y := 4) (by rw [u2_q _ _ (by decide), u2_q _ _ (by decide), u2_q _ _ (by decide)]; exact hk) ?_
                    refine sw_iconst (x := 4) dX12_lay_88 (by decide) ?_
                    refine sw_icmp_ne 97 dX12_lay_89 (by decide) (fun h89 => ?_) (fun h89 => ?_)
                    · exact absurd rfl h89
                    · refine sw_iload_n dX12_lay_92 rfl ?_
                      refine sw_iconst (x := 2) dX12_lay_93 (by decide) ?_
                      refine sw_icmp_lt 111 dX12_lay_94 (by decide) (fun h94 => ?_) (fun h94 => ?_)
                      · exact absurd h94 (by decide)
                      · refine sw_aload_n dX12_lay_97 rfl (by first | rfl | assumption) ?_
                        refine sw_get dX12_lay_98 fr_X12_43 rfl rfl ?_
                        refine sw_iload_n dX12_lay_101 rfl ?_
                        refine sw_ialdN (k) dX12_lay_102 rfl rfl (show k < 160 by omega) (by decide) ?_
                        refine sw_top (y := 4) (by rw [u2_q _ _ (by decide), u2_q _ _ (by decide), u2_q _ _ (by decide)]; exact hk) ?_
                        refine sw_iconst (x := 5) dX12_lay_103 (by decide) ?_
                        refine sw_icmp_ne 117 dX12_lay_104 (by decide) (fun h104 => ?_) (fun h104 => ?_)
                        · refine sw_iload_n dX12_lay_117 rfl ?_
                          refine sw_istore_n [(0, _), (1, _), (2, _), (3, _), (4, _)] dX12_lay_118 (by decide) rfl ?_
                          first | refine sw_inc1 [(0, _), (1, _), (2, _), (3, _), (4, _)] dX12_lay_119 rfl (by decide) rfl ?_ | refine sw_iinc [(0, _), (1, _), (2, _), (3, _), (4, _)] dX12_lay_119 rfl (by decide) rfl ?_
                          refine sw_aload_n dX12_lay_122 rfl (by first | rfl | assumption) ?_
                          refine sw_get dX12_lay_123 fr_X12_58 rfl rfl ?_
                          refine sw_iload dX12_lay_126 rfl ?_
                          refine sw_ialdN ((k + 1 + szE e + 1 + szR x)) dX12_lay_128 rfl rfl (show (k + 1 + szE e + 1 + szR x) < 160 by omega) (by decide) ?_
                          refine sw_top (y := -1) (by rw [u2_q _ _ (by decide), u2_q _ _ (by decide), u2_q _ _ (by decide)]; exact t3) ?_
                          refine sw_istore [(0, _), (1, _), (2, _), (3, _), (4, _)] dX12_lay_129 (by decide) rfl ?_
                          refine sw_goto 59 dX12_lay_131 (by decide) ?_
                          refine sw_iload dX12_lay_59 rfl ?_
                          refine sw_if_lt 134 dX12_lay_61 (by decide) (fun h61 => ?_) (fun h61 => ?_)
                          · have f1 : ∀ q, ¬ q = 168 → (u2 (u2 (u2 A 168 (k + 1) (nI (w))) 168 ((k + 1 + szE e)) (nI (w + szE e + 1))) 168 ((k + 1 + szE e + 1 + szR x)) (nI (w + szE e + 1 + lnR x + 1))) q = A q := fun q hq => by rw [u2_q _ _ hq, u2_q _ _ hq, u2_q _ _ hq]
                            have f2 : ∀ i, ¬ i = k + 1 → ¬ i = (k + 1 + szE e) → ¬ i = (k + 1 + szE e + 1 + szR x) → (u2 (u2 (u2 A 168 (k + 1) (nI (w))) 168 ((k + 1 + szE e)) (nI (w + szE e + 1))) 168 ((k + 1 + szE e + 1 + szR x)) (nI (w + szE e + 1 + lnR x + 1))) 168 i = A 168 i := fun i y0 y1 y2 => by rw [u2_at, if_neg (by omega), u2_at, if_neg (by omega), u2_at, if_neg (by omega)]
                            have p1 : (u2 (u2 (u2 A 168 (k + 1) (nI (w))) 168 ((k + 1 + szE e)) (nI (w + szE e + 1))) 168 ((k + 1 + szE e + 1 + szR x)) (nI (w + szE e + 1 + lnR x + 1))) 168 (k + 1) = nI (w) := by rw [u2_at, if_neg (by omega), u2_at, if_neg (by omega), u2_at, if_pos ⟨rfl, rfl⟩]
                            have p2 : (u2 (u2 (u2 A 168 (k + 1) (nI (w))) 168 ((k + 1 + szE e)) (nI (w + szE e + 1))) 168 ((k + 1 + szE e + 1 + szR x)) (nI (w + szE e + 1 + lnR x + 1))) 168 ((k + 1 + szE e)) = nI (w + szE e + 1) := by rw [u2_at, if_neg (by omega), u2_at, if_pos ⟨rfl, rfl⟩]
                            have p3 : (u2 (u2 (u2 A 168 (k + 1) (nI (w))) 168 ((k + 1 + szE e)) (nI (w + szE e + 1))) 168 ((k + 1 + szE e + 1 + szR x)) (nI (w + szE e + 1 + lnR x + 1))) 168 ((k + 1 + szE e + 1 + szR x)) = nI (w + szE e + 1 + lnR x + 1) := by rw [u2_at, if_pos ⟨rfl, rfl⟩]
                            generalize (u2 (u2 (u2 A 168 (k + 1) (nI (w))) 168 ((k + 1 + szE e)) (nI (w + szE e + 1))) 168 ((k + 1 + szE e + 1 + szR x)) (nI (w + szE e + 1 + lnR x + 1))) = A1 at *
                            have hk1 : A1 159 k = 4 := by rw [f1 _ (by decide)]; exact hk
                            have hp1 : A1 168 k = nI w := by rw [f2 k (by omega) (by omega) (by omega) ]; exact hp
                            have hz1 : A1 167 k = nI (szE e + 1 + lnR x + 1 + lnR y) := by rw [f1 _ (by decide)]; exact hz
                            have hf1 : A1 162 k = nI (k + 1) := by rw [f1 _ (by decide)]; exact hf
                            refine sw_aload_n dX12_lay_134 rfl (by first | rfl | assumption) ?_
                            refine sw_get dX12_lay_135 fr_X12_70 rfl rfl ?_
                            refine sw_iload_n dX12_lay_138 rfl ?_
                            refine sw_ialdN (k) dX12_lay_139 rfl rfl (show k < 160 by omega) (by decide) ?_
                            refine sw_top (y := nI (w)) hp1 ?_
                            refine sw_aload_n dX12_lay_140 rfl (by first | rfl | assumption) ?_
                            refine sw_get dX12_lay_141 fr_X12_67 rfl rfl ?_
                            refine sw_iload_n dX12_lay_144 rfl ?_
                            refine sw_ialdN (k) dX12_lay_145 rfl rfl (show k < 160 by omega) (by decide) ?_
                            refine sw_top (y := nI (szE e + 1 + lnR x + 1 + lnR y)) hz1 ?_
                            refine sw_iadd dX12_lay_146 ?_
                            refine sw_top (y := nI (w + (szE e + 1 + lnR x + 1 + lnR y))) (nI_add _ _) ?_
                            refine sw_istore [(0, _), (1, _), (2, _), (3, _), (4, _)] dX12_lay_147 (by decide) rfl ?_
                            refine sw_aload_n dX12_lay_149 rfl (by first | rfl | assumption) ?_
                            refine sw_get dX12_lay_150 fr_X12_52 rfl rfl ?_
                            refine sw_iload_n dX12_lay_153 rfl ?_
                            refine sw_ialdN (k) dX12_lay_154 rfl rfl (show k < 160 by omega) (by decide) ?_
                            refine sw_top (y := nI (k + 1)) hf1 ?_
                            refine sw_istore [(0, _), (1, _), (2, _), (3, _), (4, _), (5, _)] dX12_lay_155 (by decide) rfl ?_
                            refine sw_aload_n dX12_lay_157 rfl (by first | rfl | assumption) ?_
                            refine sw_get dX12_lay_158 fr_X12_43 rfl rfl ?_
                            refine sw_iload_n dX12_lay_161 rfl ?_
                            refine sw_ialdN (k) dX12_lay_162 rfl rfl (show k < 160 by omega) (by decide) ?_
                            refine sw_top (y := 4) hk1 ?_
                            refine sw_if_eq 176 dX12_lay_163 (by decide) (fun h163 => ?_) (fun h163 => ?_)
                            · exact absurd h163 (by decide)
                            · refine sw_aload_n dX12_lay_166 rfl (by first | rfl | assumption) ?_
                              refine sw_get dX12_lay_167 fr_X12_43 rfl rfl ?_
                              refine sw_iload_n dX12_lay_170 rfl ?_
                              refine sw_ialdN (k) dX12_lay_171 rfl rfl (show k < 160 by omega) (by decide) ?_
                              refine sw_top (y := 4) hk1 ?_
                              refine sw_iconst (x := 1) dX12_lay_172 (by decide) ?_
                              refine sw_icmp_ne 199 dX12_lay_173 (by decide) (fun h173 => ?_) (fun h173 => ?_)
                              · refine sw_aload_n dX12_lay_199 rfl (by first | rfl | assumption) ?_
                                refine sw_get dX12_lay_200 fr_X12_43 rfl rfl ?_
                                refine sw_iload_n dX12_lay_203 rfl ?_
                                refine sw_ialdN (k) dX12_lay_204 rfl rfl (show k < 160 by omega) (by decide) ?_
                                refine sw_top (y := 4) hk1 ?_
                                refine sw_iconst (x := 2) dX12_lay_205 (by decide) ?_
                                refine sw_icmp_ne 227 dX12_lay_206 (by decide) (fun h206 => ?_) (fun h206 => ?_)
                                · refine sw_aload_n dX12_lay_227 rfl (by first | rfl | assumption) ?_
                                  refine sw_get dX12_lay_228 fr_X12_43 rfl rfl ?_
                                  refine sw_iload_n dX12_lay_231 rfl ?_
                                  refine sw_ialdN (k) dX12_lay_232 rfl rfl (show k < 160 by omega) (by decide) ?_
                                  refine sw_top (y := 4) hk1 ?_
                                  refine sw_iconst (x := 3) dX12_lay_233 (by decide) ?_
                                  refine sw_icmp_ne 255 dX12_lay_234 (by decide) (fun h234 => ?_) (fun h234 => ?_)
                                  · refine sw_aload_n dX12_lay_255 rfl (by first | rfl | assumption) ?_
                                    refine sw_get dX12_lay_256 fr_X12_43 rfl rfl ?_
                                    refine sw_iload_n dX12_lay_259 rfl ?_
                                    refine sw_ialdN (k) dX12_lay_260 rfl rfl (show k < 160 by omega) (by decide) ?_
                                    refine sw_top (y := 4) hk1 ?_
                                    refine sw_iconst (x := 4) dX12_lay_261 (by decide) ?_
                                    refine sw_icmp_ne 326 dX12_lay_262 (by decide) (fun h262 => ?_) (fun h262 => ?_)
                                    · exact absurd rfl h262
                                    · refine sw_aload_n dX12_lay_265 rfl (by first | rfl | assumption) ?_
                                      refine sw_get dX12_lay_266 fr_X12_58 rfl rfl ?_
                                      refine sw_aload_n dX12_lay_269 rfl (by first | rfl | assumption) ?_
                                      refine sw_get dX12_lay_270 fr_X12_58 rfl rfl ?_
                                      refine sw_iload dX12_lay_273 rfl ?_
                                      refine sw_ialdN (k + 1) dX12_lay_275 rfl rfl (show k + 1 < 160 by omega) (by decide) ?_
                                      refine sw_top (y := nI (k + 1 + szE e)) (by rw [f1 _ (by decide)]; exact r3) ?_
                                      refine sw_ialdN ((k + 1 + szE e)) dX12_lay_276 rfl rfl (show (k + 1 + szE e) < 160 by omega) (by decide) ?_
                                      refine sw_top (y := nI (k + 1 + szE e + 1 + szR x)) (by rw [f1 _ (by decide)]; exact s3) ?_
                                      refine sw_istore [(0, _), (1, _), (2, _), (3, _), (4, _), (5, _), (6, _)] dX12_lay_277 (by decide) rfl ?_
                                      refine sw_aload_n dX12_lay_279 rfl (by first | rfl | assumption) ?_
                                      refine sw_aload_n dX12_lay_280 rfl (by first | rfl | assumption) ?_
                                      refine sw_get dX12_lay_281 fr_X12_70 rfl rfl ?_
                                      refine sw_aload_n dX12_lay_284 rfl (by first | rfl | assumption) ?_
                                      refine sw_get dX12_lay_285 fr_X12_58 rfl rfl ?_
                                      refine sw_iload dX12_lay_288 rfl ?_
                                      refine sw_ialdN (k + 1) dX12_lay_290 rfl rfl (show k + 1 < 160 by omega) (by decide) ?_
                                      refine sw_top (y := nI (k + 1 + szE e)) (by rw [f1 _ (by decide)]; exact r3) ?_
                                      refine sw_ialdN ((k + 1 + szE e)) dX12_lay_291 rfl rfl (show (k + 1 + szE e) < 160 by omega) (by decide) ?_
                                      refine sw_top (y := nI (w + szE e + 1)) p2 ?_
                                      refine sw_iconst (x := 1) dX12_lay_292 (by decide) ?_
                                      refine sw_isub dX12_lay_293 ?_
                                      refine sw_top (y := nI (w + szE e)) (sb_e rfl) ?_
                                      refine sw_bipush (x := 7) dX12_lay_294 (by decide) ?_
                                      refine sw_aload_n dX12_lay_296 rfl (by first | rfl | assumption) ?_
                                      refine sw_get dX12_lay_297 fr_X12_70 rfl rfl ?_
                                      refine sw_iload dX12_lay_300 rfl ?_
                                      refine sw_ialdN ((k + 1 + szE e + 1 + szR x)) dX12_lay_302 rfl rfl (show (k + 1 + szE e + 1 + szR x) < 160 by omega) (by decide) ?_
                                      refine sw_top (y := nI (w + szE e + 1 + lnR x + 1)) p3 ?_
                                      refine sw_Vn dX12_lay_303 k_X12_203 mf_X12_say (c_X12_say (d := d - 1) (k := w + szE e) (by omega) _ _) rfl ⟨_, rfl, rfl⟩ (by omega) (by omega) (by omega) rfl rfl (Nat.le_of_ble_eq_true rfl) ?_
                                      change SW l D cy mX12_lay d 0 0 0 0 306 _ _ n (md f s (sy A1 (w + szE e) 7 (nI (w + szE e + 1 + lnR x + 1)))) _ _
                                      refine sw_aload_n dX12_lay_306 rfl (by first | rfl | assumption) ?_
                                      refine sw_aload_n dX12_lay_307 rfl (by first | rfl | assumption) ?_
                                      refine sw_get dX12_lay_308 fr_X12_70 rfl rfl ?_
                                      refine sw_iload dX12_lay_311 rfl ?_
                                      refine sw_ialdN ((k + 1 + szE e + 1 + szR x)) dX12_lay_313 rfl rfl (show (k + 1 + szE e + 1 + szR x) < 160 by omega) (by decide) ?_
                                      refine sw_top (y := nI (w + szE e + 1 + lnR x + 1)) (by rw [sy_q (by decide)]; exact p3) ?_
                                      refine sw_iconst (x := 1) dX12_lay_314 (by decide) ?_
                                      refine sw_isub dX12_lay_315 ?_
                                      refine sw_top (y := nI (w + szE e + 1 + lnR x)) (sb_e rfl) ?_
                                      refine sw_bipush (x := 8) dX12_lay_316 (by decide) ?_
                                      refine sw_iload dX12_lay_318 rfl ?_
                                      refine sw_top (y := nI (w + szE e + 1 + lnR x + 1 + lnR y)) (congrArg nI (by omega)) ?_
                                      refine sw_Vn dX12_lay_320 k_X12_203 mf_X12_say (c_X12_say (d := d - 1) (k := w + szE e + 1 + lnR x) (by omega) _ _) rfl ⟨_, rfl, rfl⟩ (by omega) (by omega) (by omega) rfl rfl (Nat.le_of_ble_eq_true rfl) ?_
                                      change SW l D cy mX12_lay d 0 0 0 0 323 _ _ n (md f s (sy (sy A1 (w + szE e) 7 (nI (w + szE e + 1 + lnR x + 1))) (w + szE e + 1 + lnR x) 8 (nI (w + szE e + 1 + lnR x + 1 + lnR y)))) _ _
                                      refine sw_goto 374 dX12_lay_323 (by decide) ?_
                                      first | refine sw_inc1 [(0, _), (1, _), (2, _), (3, _), (4, _), (5, _), (6, _)] dX12_lay_374 rfl (by decide) rfl ?_ | refine sw_iinc [(0, _), (1, _), (2, _), (3, _), (4, _), (5, _), (6, _)] dX12_lay_374 rfl (by decide) rfl ?_
                                      refine sw_goto 34 dX12_lay_377 (by decide) ?_
                                      refine sw_keep [0, 1] rfl ?_
                                      rw [show k + (1 + szE e + (1 + szR x) + (1 + szR y) + szR R) = k + 1 + szE e + 1 + szR x + 1 + szR y + szR R by omega] at K
                                      have g2 : ∀ q, ¬ (q = 168 ∨ q = 173 ∨ q = 174) → (sy (sy A1 (w + szE e) 7 (nI (w + szE e + 1 + lnR x + 1))) (w + szE e + 1 + lnR x) 8 (nI (w + szE e + 1 + lnR x + 1 + lnR y))) q = A q := fun q hq => by rw [sy_q (by omega), sy_q (by omega), f1 q (by omega)]
                                      have g3 : ∀ i, (sy (sy A1 (w + szE e) 7 (nI (w + szE e + 1 + lnR x + 1))) (w + szE e + 1 + lnR x) 8 (nI (w + szE e + 1 + lnR x + 1 + lnR y))) 168 i = A1 168 i := fun i => by rw [sy_q (by decide), sy_q (by decide)]
                                      have g4 : ∀ j, ¬ j = w + szE e → ¬ j = w + szE e + 1 + lnR x → (sy (sy A1 (w + szE e) 7 (nI (w + szE e + 1 + lnR x + 1))) (w + szE e + 1 + lnR x) 8 (nI (w + szE e + 1 + lnR x + 1 + lnR y))) 173 j = A 173 j ∧ (sy (sy A1 (w + szE e) 7 (nI (w + szE e + 1 + lnR x + 1))) (w + szE e + 1 + lnR x) 8 (nI (w + szE e + 1 + lnR x + 1 + lnR y))) 174 j = A 174 j := fun j y0 y1 => by rw [(sy_j (by omega)).1, (sy_j (by omega)).1, (sy_j (by omega)).2, (sy_j (by omega)).2, f1 173 (by decide), f1 174 (by decide)]; exact ⟨rfl, rfl⟩
                                      have c1 : (sy (sy A1 (w + szE e) 7 (nI (w + szE e + 1 + lnR x + 1))) (w + szE e + 1 + lnR x) 8 (nI (w + szE e + 1 + lnR x + 1 + lnR y))) 173 (w + szE e) = 7 ∧ (sy (sy A1 (w + szE e) 7 (nI (w + szE e + 1 + lnR x + 1))) (w + szE e + 1 + lnR x) 8 (nI (w + szE e + 1 + lnR x + 1 + lnR y))) 174 (w + szE e) = nI (w + szE e + 1 + lnR x + 1) := by rw [(sy_j (by omega)).1, (sy_j (by omega)).2]; exact sy_k
                                      have c2 : (sy (sy A1 (w + szE e) 7 (nI (w + szE e + 1 + lnR x + 1))) (w + szE e + 1 + lnR x) 8 (nI (w + szE e + 1 + lnR x + 1 + lnR y))) 173 (w + szE e + 1 + lnR x) = 8 ∧ (sy (sy A1 (w + szE e) 7 (nI (w + szE e + 1 + lnR x + 1))) (w + szE e + 1 + lnR x) 8 (nI (w + szE e + 1 + lnR x + 1 + lnR y))) 174 (w + szE e + 1 + lnR x) = nI (w + szE e + 1 + lnR x + 1 + lnR y) := sy_k
                                      generalize (sy (sy A1 (w + szE e) 7 (nI (w + szE e + 1 + lnR x + 1))) (w + szE e + 1 + lnR x) 8 (nI (w + szE e + 1 + lnR x + 1 + lnR y))) = A2 at *
                                      refine l_yE hP hd hP2 e (k + 1) w A2 (rpE_f (fun q h1 h2 => g2 q (by omega)) e _ r5) wf.1 (mzE_cg e _ (fun i _ _ => by rw [g2 _ (by decide)]) m2) (by rw [g3]; exact p1) (by omega) (by omega) (fun A3 F3 d3 => ?_)
                                      have F3a : ∀ q, ¬ (q = 168 ∨ q = 173 ∨ q = 174) → A3 q = A q := fun q hq => by rw [F3.1 q hq, g2 q hq]
                                      refine l_yB hP hP2 (r := x) (b := k + 1 + szE e) (w := w + szE e + 1) (by rw [F3a _ (by decide)]; exact s1) (by rw [F3a _ (by decide)]; exact s2) (rpR_f (fun q h1 h2 => F3a q (by omega)) x _ s4) (mzR_cg x _ (fun i _ _ => by rw [F3a _ (by decide)]) m4) (by rw [F3a _ (by decide)]; exact m3) (by rw [F3.2.1 _ (by omega), g3]; exact p2) (by omega) (fun A4 h1 h2 h3 => ?_)
                                      have F4a : ∀ q, ¬ (q = 168 ∨ q = 173 ∨ q = 174) → A4 q = A q := fun q hq => by rw [h1 q (by omega), F3a q hq]
                                      refine l_yR hP hd hP2 x (k + 1 + szE e + 1) (w + szE e + 1) A4 (rpR_f (fun q h1 h2 => F4a q (by omega)) x _ s4) wf.2.1 (mzR_cg x _ (fun i _ _ => by rw [F4a _ (by decide)]) m4) h3 (by omega) (by omega) (fun A5 F5 d5 => ?_)
                                      have F5a : ∀ q, ¬ (q = 168 ∨ q = 173 ∨ q = 174) → A5 q = A q := fun q hq => by rw [F5.1 q hq, F4a q hq]
                                      refine l_yB hP hP2 (r := y) (b := k + 1 + szE e + 1 + szR x) (w := w + szE e + 1 + lnR x + 1) (by rw [F5a _ (by decide)]; exact t1) (by rw [F5a _ (by decide)]; exact t2) (rpR_f (fun q h1 h2 => F5a q (by omega)) y _ t4) (mzR_cg y _ (fun i _ _ => by rw [F5a _ (by decide)]) m6) (by rw [F5a _ (by decide)]; exact m5) (by rw [F5.2.1 _ (by omega), h2 _ (by omega), F3.2.1 _ (by omega), g3]; exact p3) (by omega) (fun A6 j1 j2 j3 => ?_)
                                      have F6a : ∀ q, ¬ (q = 168 ∨ q = 173 ∨ q = 174) → A6 q = A q := fun q hq => by rw [j1 q (by omega), F5a q hq]
                                      refine l_yR hP hd hP2 y (k + 1 + szE e + 1 + szR x + 1) (w + szE e + 1 + lnR x + 1) A6 (rpR_f (fun q h1 h2 => F6a q (by omega)) y _ t4) wf.2.2.1 (mzR_cg y _ (fun i _ _ => by rw [F6a _ (by decide)]) m6) j3 (by omega) (by omega) (fun A7 F7 d7 => ?_)
                                      have F7a : ∀ q, ¬ (q = 168 ∨ q = 173 ∨ q = 174) → A7 q = A q := fun q hq => by rw [F7.1 q hq, F6a q hq]
                                      refine l_yR hP hd hP2 R (k + 1 + szE e + 1 + szR x + 1 + szR y) (w + szE e + 1 + lnR x + 1 + lnR y) A7 (rpR_f (fun q h1 h2 => F7a q (by omega)) R _ r8) wf.2.2.2 (mzR_cg R _ (fun i _ _ => by rw [F7a _ (by decide)]) m7) (plR_cg R _ _ (fun i y1 y2 => by rw [F7.2.1 i (by omega), j2 i (by omega), F5.2.1 i (by omega), h2 i (by omega), F3.2.1 i (by omega), g3, f2 i (by omega) (by omega) (by omega)]) r8 m7 pl2) (by omega) (by omega) (fun A8 F8 d8 => ?_)
                                      have e4 : ∀ j, A4 173 j = A3 173 j ∧ A4 174 j = A3 174 j := fun j => by rw [h1 173 (by decide), h1 174 (by decide)]; exact ⟨rfl, rfl⟩
                                      have e5 : ∀ j, A6 173 j = A5 173 j ∧ A6 174 j = A5 174 j := fun j => by rw [j1 173 (by decide), j1 174 (by decide)]; exact ⟨rfl, rfl⟩
                                      have e8 : ∀ j, j < w + szE e + 1 + lnR x + 1 → A8 173 j = A5 173 j ∧ A8 174 j = A5 174 j := fun j y1 => by
                                        rw [(F8.2.2 j (by omega)).1, (F8.2.2 j (by omega)).2, (F7.2.2 j (by omega)).1, (F7.2.2 j (by omega)).2]; exact e5 j
                                      have e6 : ∀ j, j < w + szE e + 1 ∨ j = w + szE e + 1 + lnR x ∨ w + szE e + 1 + lnR x + 1 + lnR y + lnR R ≤ j → A8 173 j = A3 173 j ∧ A8 174 j = A3 174 j := fun j y1 => by
                                        rw [(F8.2.2 j (by omega)).1, (F8.2.2 j (by omega)).2, (F7.2.2 j (by omega)).1, (F7.2.2 j (by omega)).2, (e5 j).1, (e5 j).2, (F5.2.2 j (by omega)).1, (F5.2.2 j (by omega)).2]; exact e4 j
                                      refine K A8 ⟨fun q hq => by rw [F8.1 q hq, F7a q hq], fun i hi => by rw [F8.2.1 i (by omega), F7.2.1 i (by omega), j2 i (by omega), F5.2.1 i (by omega), h2 i (by omega), F3.2.1 i (by omega), g3, f2 i (by omega) (by omega) (by omega)], fun j hj => ?_⟩ ⟨⟨cdE_cg e _ (fun j y1 y2 => e6 j (by omega)) d3, ?_, ?_, cdR_cg x _ (fun j y1 y2 => e8 j (by omega)) d5, cdR_cg y _ (fun j y1 y2 => F8.2.2 j (by omega)) d7⟩, d8⟩
                                      · rw [(e6 j (by omega)).1, (e6 j (by omega)).2, (F3.2.2 j (by omega)).1, (F3.2.2 j (by omega)).2]
                                        exact g4 j (by omega) (by omega)
                                      · rw [(e6 _ (by omega)).1, (e6 _ (by omega)).2]
                                        exact cd_y F3 (by omega) c1
                                      · rw [(e6 _ (by omega)).1, (e6 _ (by omega)).2]
                                        exact cd_y F3 (by omega) c2
                                  · exact absurd h234 (by decide)
                                · exact absurd h206 (by decide)
                              · exact absurd h173 (by decide)
                          · exact absurd nlt_m1 h61
                        · exact absurd h104 (by decide)
                · exact absurd (by decide) h94
          · exact absurd (by decide) h94
  | .branch _ (.branch _ (.branch _ (.branch _ _ _) _) _) _, k, w, A, r, wf, m, pl, hs, hw, K => r.elim
