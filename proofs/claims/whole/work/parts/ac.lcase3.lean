/-! ===== THE LAW: levels, run ===== -/
theorem lvS_0 (sm : Nat → Int32) (w : Int64) (x : Int32) : r_lvS sm w x 0 = r_lvT w x := by
  unfold r_lvS
  by_cases c : r_lvT w x = 0
  · rw [if_pos c, c]; rfl
  · rw [if_neg c]; rfl
theorem runS_0 (sm : Nat → Int32) (Am : Nat → Nat → Int32) (x : Int32) : r_runS sm Am x 0 = r_runT sm x := by
  unfold r_runS
  by_cases c : r_runT sm x = 0
  · rw [if_pos c, c]; rfl
  · rw [if_neg c]; rfl
theorem cmp_e (x : Int64) : lg_cmp x x = 0 := by
  unfold lg_cmp
  rw [if_neg (Int64.lt_irrefl), if_pos rfl]
theorem g186 {fm : sw_F} {s : Nat → Int32} {A : Nat → Nat → Int32} {B : Nat → Nat → Int64} {o : Int64} {pr : Value} {sm : Nat → Int32} {Am : Nat → Nat → Int32} {e : va_E} : gd (md (va_up fm 186 e) sm Am) s A B o pr 186 = e := by
  rw [gd_f _ _ _ _ _ _ (by decide), md_in _ (by decide), vu_at]
theorem d186 {fm : sw_F} {s : Nat → Int32} {A : Nat → Nat → Int32} {B : Nat → Nat → Int64} {o : Int64} {pr : Value} : gd fm s A B o pr 186 = fm 186 := gd_f _ _ _ _ _ _ (by decide)
set_option maxRecDepth 100000 in
theorem lc_run {l : Launch} {D : va_G} {cy : Nat → ClassId} {b N : Nat} {xs : Nat → Int32} {d mc ms cells slots j n : Nat} {Q : sw_Q} {QX : sw_QX} {fm : sw_F} {s : Nat → Int32} {A : Nat → Nat → Int32} {B : Nat → Nat → Int64} {o : Int64} {pr : Value} {sm : Nat → Int32} {Am : Nat → Nat → Int32} (hl : l.stackTraces = false) (hN : N ≤ 192) (hj : 4 * j + 4 ≤ N) (hd : 40 ≤ d) (hc : cells + 73 ≤ mc) (hs : slots + 438 ≤ ms) (hm : fm = md fm sm Am) (hg : ∃ g, fm 186 = .inl (1, 1, .inr (.inl g))) (hn : 187 ≤ n) (hI : LI n fm s A o pr sm Am) (K : LK l D cy b N xs d mc ms cells slots j Q QX) : SWr (eL b N xs) l D cy mL_law d mc ms cells slots 676 [(0, .retAddr b), (1, .ref 0), (2, .ref 150), (3, .ref 186), (4, .int (nI (4 * j)))] [] n (gd fm s A B o pr) Q QX := by
  obtain ⟨N0, C, T0, ⟨n1, n2, n3⟩, ⟨c1, c2, c3⟩, t1, t2, t3⟩ := li_n hI
  obtain ⟨g, hg⟩ := hg
  refine sw_aload_n dL_law_676 rfl (by first | rfl | assumption) ?_
  refine sw_aload_nR dL_law_677 rfl ?_
  refine sw_iload dL_law_678 rfl ?_
  refine sw_iconst (x := 1) dL_law_680 (by decide) ?_
  refine sw_iadd dL_law_681 ?_
  refine sw_top (y := nI (4 * j + 1)) (nI_1 _) ?_
  refine sw_sld eL_x dL_law_682 (vp_n (show 4 * j + 1 < N by omega) hN) ?_
  refine sw_aload_n dL_law_683 rfl (by first | rfl | assumption) ?_
  refine sw_callSH (na := 3) eL_s dL_law_684 k_L_98 ini_L kw_run ⟨by decide, by decide, by decide +kernel⟩ (by decide) (c_L_run (d := d - 1) rfl (c_X11_run (d := d - 1 - 1) hl (by omega) c2 c1 (li_mok hI c2 c1) (xs (nI (4 * j + 1)).toNatClampNeg)) (by omega) (fun r n' f' h => ⟨_, g, h.2.2.1, by rw [h.2.2.2]; exact d186.trans hg⟩) QX2_2) (by omega) ⟨by omega, by omega⟩ rfl rfl (Nat.le_of_ble_eq_true rfl) (fun r' n' f' hq hle => ?_)
  rcases hq with ⟨y, f1, g1, ⟨q1, q2, q3, q4⟩, q5, q6, q7⟩ | ⟨⟨q2, q4, q1⟩, q7⟩ | ⟨⟨q2, q4, q1⟩, q7⟩
  · have q2 := q2.symm
    subst q2
    subst q7
    have ey := Value.int.inj (Option.some.inj q3)
    obtain ⟨u1, u2⟩ := li_run hI (xs (nI (4 * j + 1)).toNatClampNeg) q1
    have hT : r_runT sm (xs (nI (4 * j + 1)).toNatClampNeg) = 0 := by rw [← li_rT hI]; exact q1
    rw [q4, gd_x _ _ _ _ _ _ (show 150 ≤ 186 by decide)] at q6
    subst q6
    show SWr (eL b N xs) l D cy mL_law d mc ms (cells + 1) (slots + 6) 687 [(0, .retAddr b), (1, .ref 0), (2, .ref 150), (3, .ref 186), (4, .int (nI (4 * j)))] [.int 0] n (gd (va_up fm 186 (.inl (1, 1, .inr (.inl (vp_updL g1 0 y.toInt64))))) (mS s (crun (A 29) (A 30) (xs (nI (4 * j + 1)).toNatClampNeg).toNatClampNeg 1 (exM A)).2) (exA A (crun (A 29) (A 30) (xs (nI (4 * j + 1)).toNatClampNeg).toNatClampNeg 1 (exM A))) B o pr) Q QX
    refine sw_istore [(0, _), (1, _), (2, _), (3, _), (4, _), (5, _)] dL_law_687 (by decide) rfl ?_
    refine sw_aload_n dL_law_689 rfl (by first | rfl | assumption) ?_
    refine sw_aload_nR dL_law_690 rfl ?_
    refine sw_iload dL_law_691 rfl ?_
    refine sw_iconst (x := 1) dL_law_693 (by decide) ?_
    refine sw_iadd dL_law_694 ?_
    refine sw_top (y := nI (4 * j + 1)) (nI_1 _) ?_
    refine sw_sld eL_x dL_law_695 (vp_n (show 4 * j + 1 < N by omega) hN) ?_
    refine sw_hp (gm_md (md_u6 hm _)) ?_
    refine sw_Vv dL_law_696 k_L_101 mf_X12_run (c_X12_run (d := d - 1) (by omega) (li_GR hI) _) rfl ⟨_, rfl, rfl⟩ (by omega) (by omega) (by omega) rfl rfl (Nat.le_of_ble_eq_true rfl) ?_
    refine sw_istore [(0, _), (1, _), (2, _), (3, _), (4, _), (5, _), (6, _)] dL_law_699 (by decide) rfl ?_
    refine sw_aload_n dL_law_701 rfl (by first | rfl | assumption) ?_
    refine sw_Vv dL_law_702 k_L_40 mf_X12_thrown (c_X12_thrown (d := d - 1)) rfl ⟨_, rfl, rfl⟩ (by omega) (by omega) (by omega) rfl rfl (Nat.le_of_ble_eq_true rfl) ?_
    refine sw_hp gm_gd ?_
    refine sw_iload dL_law_705 rfl ?_
    refine sw_icmp_eq 712 dL_law_707 (by decide) (fun h707 => ?_) (fun h707 => ?_)
    · refine sw_iload dL_law_712 rfl ?_
      refine sw_if_ne 729 dL_law_714 (by decide) (fun h714 => ?_) (fun h714 => ?_)
      · refine sw_goto 757 dL_law_729 (by decide) ?_
        exact absurd rfl h714
      · refine sw_aload_n dL_law_717 rfl (by first | rfl | assumption) ?_
        refine sw_iconst (x := 0) dL_law_718 (by decide) ?_
        refine sw_lald dL_law_719 g186 (by unfold vp_in; decide) ?_
        refine sw_iload dL_law_720 rfl ?_
        refine sw_i2l dL_law_722 ?_
        refine sw_lcmp dL_law_723 ?_
        refine sw_if_eq 729 dL_law_724 (by decide) (fun h724 => ?_) (fun h724 => ?_)
        · refine sw_goto 757 dL_law_729 (by decide) ?_
          refine sw_keep [0, 1, 2, 3, 4] rfl ?_
          exact K (cells + 1) (slots + 6) _ _ _ _ _ _ _ _ _ (by omega) (by omega) md_md ⟨_, (md_in _ (by decide)).trans (vu_at _ _ _)⟩ (by omega) (li_x (Nat.le_refl n) (fun i h1 h2 => (md_in _ (by omega)).trans (vu_ne _ (by omega) _)) u2)
        · exact absurd (by rw [ey, u1]; exact cmp_e _) h724
    · exact absurd ((runS_0 sm Am (xs (nI (4 * j + 1)).toNatClampNeg)).trans hT) h707
  · have q2 := q2.symm
    subst q2
    subst q4
    subst q7
    have hT : r_runT sm (xs (nI (4 * j + 1)).toNatClampNeg) = 1 := by rw [← li_rT hI]; exact q1.elim (fun z => z.2) (fun z => absurd z.1 (by decide))
    have u2 : LI n fm s A o pr (r_runS sm Am (xs (nI (4 * j + 1)).toNatClampNeg)) (r_runA sm Am (xs (nI (4 * j + 1)).toNatClampNeg)) := by unfold r_runS r_runA; rw [if_neg (by rw [hT]; decide), if_neg (by rw [hT]; decide)]; exact hI
    show SWr (eL b N xs) l D cy mL_law d mc ms (cells + 1) (slots + 6) 687 [(0, .retAddr b), (1, .ref 0), (2, .ref 150), (3, .ref 186), (4, .int (nI (4 * j)))] [.int 1] n (gd fm s A B o pr) Q QX
    refine sw_istore [(0, _), (1, _), (2, _), (3, _), (4, _), (5, _)] dL_law_687 (by decide) rfl ?_
    refine sw_aload_n dL_law_689 rfl (by first | rfl | assumption) ?_
    refine sw_aload_nR dL_law_690 rfl ?_
    refine sw_iload dL_law_691 rfl ?_
    refine sw_iconst (x := 1) dL_law_693 (by decide) ?_
    refine sw_iadd dL_law_694 ?_
    refine sw_top (y := nI (4 * j + 1)) (nI_1 _) ?_
    refine sw_sld eL_x dL_law_695 (vp_n (show 4 * j + 1 < N by omega) hN) ?_
    refine sw_hp (gm_md hm) ?_
    refine sw_Vv dL_law_696 k_L_101 mf_X12_run (c_X12_run (d := d - 1) (by omega) (li_GR hI) _) rfl ⟨_, rfl, rfl⟩ (by omega) (by omega) (by omega) rfl rfl (Nat.le_of_ble_eq_true rfl) ?_
    refine sw_istore [(0, _), (1, _), (2, _), (3, _), (4, _), (5, _), (6, _)] dL_law_699 (by decide) rfl ?_
    refine sw_aload_n dL_law_701 rfl (by first | rfl | assumption) ?_
    refine sw_Vv dL_law_702 k_L_40 mf_X12_thrown (c_X12_thrown (d := d - 1)) rfl ⟨_, rfl, rfl⟩ (by omega) (by omega) (by omega) rfl rfl (Nat.le_of_ble_eq_true rfl) ?_
    refine sw_hp gm_gd ?_
    refine sw_iload dL_law_705 rfl ?_
    refine sw_icmp_eq 712 dL_law_707 (by decide) (fun h707 => ?_) (fun h707 => ?_)
    · refine sw_iload dL_law_712 rfl ?_
      refine sw_if_ne 729 dL_law_714 (by decide) (fun h714 => ?_) (fun h714 => ?_)
      · refine sw_goto 757 dL_law_729 (by decide) ?_
        refine sw_keep [0, 1, 2, 3, 4] rfl ?_
        exact K (cells + 1) (slots + 6) _ _ _ _ _ _ _ _ _ (by omega) (by omega) md_md ⟨g, (md_in _ (by decide)).trans hg⟩ (by omega) (li_x (Nat.le_refl n) (fun i h1 h2 => md_in _ (by omega)) u2)
      · exact absurd h714 (by decide)
    · exact absurd ((runS_0 sm Am (xs (nI (4 * j + 1)).toNatClampNeg)).trans hT) h707
  · have q2 := q2.symm
    subst q2
    subst q4
    subst q7
    have hT : r_runT sm (xs (nI (4 * j + 1)).toNatClampNeg) = 2 := by rw [← li_rT hI]; exact q1.elim (fun z => absurd z.1 (by decide)) (fun z => z.2)
    have u2 : LI n fm s A o pr (r_runS sm Am (xs (nI (4 * j + 1)).toNatClampNeg)) (r_runA sm Am (xs (nI (4 * j + 1)).toNatClampNeg)) := by unfold r_runS r_runA; rw [if_neg (by rw [hT]; decide), if_neg (by rw [hT]; decide)]; exact hI
    show SWr (eL b N xs) l D cy mL_law d mc ms (cells + 1) (slots + 6) 687 [(0, .retAddr b), (1, .ref 0), (2, .ref 150), (3, .ref 186), (4, .int (nI (4 * j)))] [.int 2] n (gd fm s A B o pr) Q QX
    refine sw_istore [(0, _), (1, _), (2, _), (3, _), (4, _), (5, _)] dL_law_687 (by decide) rfl ?_
    refine sw_aload_n dL_law_689 rfl (by first | rfl | assumption) ?_
    refine sw_aload_nR dL_law_690 rfl ?_
    refine sw_iload dL_law_691 rfl ?_
    refine sw_iconst (x := 1) dL_law_693 (by decide) ?_
    refine sw_iadd dL_law_694 ?_
    refine sw_top (y := nI (4 * j + 1)) (nI_1 _) ?_
    refine sw_sld eL_x dL_law_695 (vp_n (show 4 * j + 1 < N by omega) hN) ?_
    refine sw_hp (gm_md hm) ?_
    refine sw_Vv dL_law_696 k_L_101 mf_X12_run (c_X12_run (d := d - 1) (by omega) (li_GR hI) _) rfl ⟨_, rfl, rfl⟩ (by omega) (by omega) (by omega) rfl rfl (Nat.le_of_ble_eq_true rfl) ?_
    refine sw_istore [(0, _), (1, _), (2, _), (3, _), (4, _), (5, _), (6, _)] dL_law_699 (by decide) rfl ?_
    refine sw_aload_n dL_law_701 rfl (by first | rfl | assumption) ?_
    refine sw_Vv dL_law_702 k_L_40 mf_X12_thrown (c_X12_thrown (d := d - 1)) rfl ⟨_, rfl, rfl⟩ (by omega) (by omega) (by omega) rfl rfl (Nat.le_of_ble_eq_true rfl) ?_
    refine sw_hp gm_gd ?_
    refine sw_iload dL_law_705 rfl ?_
    refine sw_icmp_eq 712 dL_law_707 (by decide) (fun h707 => ?_) (fun h707 => ?_)
    · refine sw_iload dL_law_712 rfl ?_
      refine sw_if_ne 729 dL_law_714 (by decide) (fun h714 => ?_) (fun h714 => ?_)
      · refine sw_goto 757 dL_law_729 (by decide) ?_
        refine sw_keep [0, 1, 2, 3, 4] rfl ?_
        exact K (cells + 1) (slots + 6) _ _ _ _ _ _ _ _ _ (by omega) (by omega) md_md ⟨g, (md_in _ (by decide)).trans hg⟩ (by omega) (li_x (Nat.le_refl n) (fun i h1 h2 => md_in _ (by omega)) u2)
      · exact absurd h714 (by decide)
    · exact absurd ((runS_0 sm Am (xs (nI (4 * j + 1)).toNatClampNeg)).trans hT) h707
set_option maxRecDepth 100000 in
theorem lc_levels {l : Launch} {D : va_G} {cy : Nat → ClassId} {b N : Nat} {xs : Nat → Int32} {d mc ms cells slots j n : Nat} {Q : sw_Q} {QX : sw_QX} {fm : sw_F} {s : Nat → Int32} {A : Nat → Nat → Int32} {B : Nat → Nat → Int64} {o : Int64} {pr : Value} {sm : Nat → Int32} {Am : Nat → Nat → Int32} (hl : l.stackTraces = false) (hN : N ≤ 192) (hj : 4 * j + 4 ≤ N) (hd : 40 ≤ d) (hc : cells + 73 ≤ mc) (hs : slots + 438 ≤ ms) (hm : fm = md fm sm Am) (hg : ∃ g, fm 186 = .inl (1, 1, .inr (.inl g))) (hn : 187 ≤ n) (hI : LI n fm s A o pr sm Am) (K : LK l D cy b N xs d mc ms cells slots j Q QX) : SWr (eL b N xs) l D cy mL_law d mc ms cells slots 116 [(0, .retAddr b), (1, .ref 0), (2, .ref 150), (3, .ref 186), (4, .int (nI (4 * j)))] [] n (gd fm s A B o pr) Q QX := by
  obtain ⟨g, hg⟩ := hg
  refine sw_aload_n dL_law_116 rfl (by first | rfl | assumption) ?_
  refine sw_aload_nR dL_law_117 rfl ?_
  refine sw_iload dL_law_118 rfl ?_
  refine sw_iconst (x := 1) dL_law_120 (by decide) ?_
  refine sw_iadd dL_law_121 ?_
  refine sw_top (y := nI (4 * j + 1)) (nI_1 _) ?_
  refine sw_sld eL_x dL_law_122 (vp_n (show 4 * j + 1 < N by omega) hN) ?_
  refine sw_aload_nR dL_law_123 rfl ?_
  refine sw_iload dL_law_124 rfl ?_
  refine sw_iconst (x := 2) dL_law_126 (by decide) ?_
  refine sw_iadd dL_law_127 ?_
  refine sw_top (y := nI (4 * j + 2)) (ix_2 _) ?_
  refine sw_sld eL_x dL_law_128 (vp_n (show 4 * j + 2 < N by omega) hN) ?_
  refine sw_i2l dL_law_129 ?_
  refine sw_bipush (x := 32) dL_law_130 (by decide) ?_
  refine sw_lshl dL_law_132 ?_
  refine sw_aload_nR dL_law_133 rfl ?_
  refine sw_iload dL_law_134 rfl ?_
  refine sw_iconst (x := 3) dL_law_136 (by decide) ?_
  refine sw_iadd dL_law_137 ?_
  refine sw_top (y := nI (4 * j + 3)) (ix_3 _) ?_
  refine sw_sld eL_x dL_law_138 (vp_n (show 4 * j + 3 < N by omega) hN) ?_
  refine sw_i2l dL_law_139 ?_
  refine sw_ldc2 dL_law_140 k_c_L_32 ?_
  refine sw_land dL_law_143 ?_
  refine sw_lor dL_law_144 ?_
  refine sw_aload_n dL_law_145 rfl (by first | rfl | assumption) ?_
  refine sw_callSH (na := 4) eL_s dL_law_146 k_L_34 ini_L kw_levels ⟨by decide, by decide, by decide +kernel⟩ (by decide) (c_L_levels (d := d - 1) rfl (c_X11_levels (d := d - 1 - 1) hl (by omega) _ _) (by omega) (fun r n' f' h => by obtain ⟨_, h2, _, N1, J, _, _, _, _, h3⟩ := h; exact ⟨_, g, h2, by rw [h3]; exact d186.trans hg⟩) QX2_2) (by omega) ⟨by omega, by omega⟩ rfl rfl (Nat.le_of_ble_eq_true rfl) (fun r' n' f' hq hle => ?_)
  rcases hq with ⟨y, f1, g1, ⟨q1, q3, q2, N1, J, q8, q9, q10, q11, q4⟩, q5, q6, q7⟩ | ⟨⟨q2, q4, q1⟩, q7⟩ | ⟨⟨q2, q4, q1⟩, q7⟩
  · have q2 := q2.symm
    subst q2
    subst q7
    have ey : y = 1 := Value.int.inj (Option.some.inj q3)
    subst ey
    have hT := (li_lT _ _).symm.trans q1
    have u2 := li_lev0 hI _ q8 q9 (by rw [← q10]; exact hT) q11
    rw [← q10] at u2
    rw [q4, gd_x _ _ _ _ _ _ (show 150 ≤ 186 by decide)] at q6
    subst q6
    show SWr (eL b N xs) l D cy mL_law d mc ms (cells + 1) (slots + 6) 149 [(0, .retAddr b), (1, .ref 0), (2, .ref 150), (3, .ref 186), (4, .int (nI (4 * j)))] [.int 0] n (gd (va_up fm 186 _) _ _ B _ pr) Q QX
    refine sw_istore [(0, _), (1, _), (2, _), (3, _), (4, _), (5, _)] dL_law_149 (by decide) rfl ?_
    refine sw_aload_n dL_law_151 rfl (by first | rfl | assumption) ?_
    refine sw_aload_nR dL_law_152 rfl ?_
    refine sw_iload dL_law_153 rfl ?_
    refine sw_iconst (x := 1) dL_law_155 (by decide) ?_
    refine sw_iadd dL_law_156 ?_
    refine sw_top (y := nI (4 * j + 1)) (nI_1 _) ?_
    refine sw_sld eL_x dL_law_157 (vp_n (show 4 * j + 1 < N by omega) hN) ?_
    refine sw_aload_nR dL_law_158 rfl ?_
    refine sw_iload dL_law_159 rfl ?_
    refine sw_iconst (x := 2) dL_law_161 (by decide) ?_
    refine sw_iadd dL_law_162 ?_
    refine sw_top (y := nI (4 * j + 2)) (ix_2 _) ?_
    refine sw_sld eL_x dL_law_163 (vp_n (show 4 * j + 2 < N by omega) hN) ?_
    refine sw_i2l dL_law_164 ?_
    refine sw_bipush (x := 32) dL_law_165 (by decide) ?_
    refine sw_lshl dL_law_167 ?_
    refine sw_aload_nR dL_law_168 rfl ?_
    refine sw_iload dL_law_169 rfl ?_
    refine sw_iconst (x := 3) dL_law_171 (by decide) ?_
    refine sw_iadd dL_law_172 ?_
    refine sw_top (y := nI (4 * j + 3)) (ix_3 _) ?_
    refine sw_sld eL_x dL_law_173 (vp_n (show 4 * j + 3 < N by omega) hN) ?_
    refine sw_i2l dL_law_174 ?_
    refine sw_ldc2 dL_law_175 k_c_L_32 ?_
    refine sw_land dL_law_178 ?_
    refine sw_lor dL_law_179 ?_
    refine sw_hp (gm_md (md_u6 hm _)) ?_
    refine sw_Vv dL_law_180 k_L_39 mf_X12_levels (c_X12_levels (d := d - 1) (by omega) _ _) rfl ⟨_, rfl, rfl⟩ (by omega) (by omega) (by omega) rfl rfl (Nat.le_of_ble_eq_true rfl) ?_
    refine sw_istore [(0, _), (1, _), (2, _), (3, _), (4, _), (5, _), (6, _)] dL_law_183 (by decide) rfl ?_
    refine sw_aload_n dL_law_185 rfl (by first | rfl | assumption) ?_
    refine sw_Vv dL_law_186 k_L_40 mf_X12_thrown (c_X12_thrown (d := d - 1)) rfl ⟨_, rfl, rfl⟩ (by omega) (by omega) (by omega) rfl rfl (Nat.le_of_ble_eq_true rfl) ?_
    refine sw_hp gm_gd ?_
    refine sw_iload dL_law_189 rfl ?_
    refine sw_icmp_eq 196 dL_law_191 (by decide) (fun h191 => ?_) (fun h191 => ?_)
    · refine sw_iload dL_law_196 rfl ?_
      refine sw_if_ne 220 dL_law_198 (by decide) (fun h198 => ?_) (fun h198 => ?_)
      · refine sw_goto 757 dL_law_220 (by decide) ?_
        exact absurd rfl h198
      · refine sw_aload_n dL_law_201 rfl (by first | rfl | assumption) ?_
        refine sw_iconst (x := 0) dL_law_202 (by decide) ?_
        refine sw_lald dL_law_203 g186 (by unfold vp_in; decide) ?_
        refine sw_iload dL_law_204 rfl ?_
        refine sw_if_eq 213 dL_law_206 (by decide) (fun h206 => ?_) (fun h206 => ?_)
        · exact absurd h206 (by rw [hT]; decide)
        · refine sw_lconst (x := 1) dL_law_209 (by decide) ?_
          refine sw_goto 214 dL_law_210 (by decide) ?_
          refine sw_lcmp dL_law_214 ?_
          refine sw_if_eq 220 dL_law_215 (by decide) (fun h215 => ?_) (fun h215 => ?_)
          · refine sw_goto 757 dL_law_220 (by decide) ?_
            refine sw_keep [0, 1, 2, 3, 4] rfl ?_
            exact K (cells + 1) (slots + 6) _ _ _ _ _ _ _ _ _ (by omega) (by omega) md_md ⟨_, (md_in _ (by decide)).trans (vu_at _ _ _)⟩ (by omega) (li_x (Nat.le_refl n) (fun i h1 h2 => (md_in _ (by omega)).trans (vu_ne _ (by omega) _)) u2)
          · exact absurd (cmp_e 1) h215
    · exact absurd ((lvS_0 sm _ _).trans hT) h191
  · have q2 := q2.symm
    subst q2
    subst q4
    subst q7
    have hT := (li_lT _ _).symm.trans (q1.elim (fun z => z.2) (fun z => absurd z.1 (by decide)))
    have u2 := li_levX hI _ _ (by rw [hT]; decide)
    show SWr (eL b N xs) l D cy mL_law d mc ms (cells + 1) (slots + 6) 149 [(0, .retAddr b), (1, .ref 0), (2, .ref 150), (3, .ref 186), (4, .int (nI (4 * j)))] [.int 1] n (gd fm s A B o pr) Q QX
    refine sw_istore [(0, _), (1, _), (2, _), (3, _), (4, _), (5, _)] dL_law_149 (by decide) rfl ?_
    refine sw_aload_n dL_law_151 rfl (by first | rfl | assumption) ?_
    refine sw_aload_nR dL_law_152 rfl ?_
    refine sw_iload dL_law_153 rfl ?_
    refine sw_iconst (x := 1) dL_law_155 (by decide) ?_
    refine sw_iadd dL_law_156 ?_
    refine sw_top (y := nI (4 * j + 1)) (nI_1 _) ?_
    refine sw_sld eL_x dL_law_157 (vp_n (show 4 * j + 1 < N by omega) hN) ?_
    refine sw_aload_nR dL_law_158 rfl ?_
    refine sw_iload dL_law_159 rfl ?_
    refine sw_iconst (x := 2) dL_law_161 (by decide) ?_
    refine sw_iadd dL_law_162 ?_
    refine sw_top (y := nI (4 * j + 2)) (ix_2 _) ?_
    refine sw_sld eL_x dL_law_163 (vp_n (show 4 * j + 2 < N by omega) hN) ?_
    refine sw_i2l dL_law_164 ?_
    refine sw_bipush (x := 32) dL_law_165 (by decide) ?_
    refine sw_lshl dL_law_167 ?_
    refine sw_aload_nR dL_law_168 rfl ?_
    refine sw_iload dL_law_169 rfl ?_
    refine sw_iconst (x := 3) dL_law_171 (by decide) ?_
    refine sw_iadd dL_law_172 ?_
    refine sw_top (y := nI (4 * j + 3)) (ix_3 _) ?_
    refine sw_sld eL_x dL_law_173 (vp_n (show 4 * j + 3 < N by omega) hN) ?_
    refine sw_i2l dL_law_174 ?_
    refine sw_ldc2 dL_law_175 k_c_L_32 ?_
    refine sw_land dL_law_178 ?_
    refine sw_lor dL_law_179 ?_
    refine sw_hp (gm_md hm) ?_
    refine sw_Vv dL_law_180 k_L_39 mf_X12_levels (c_X12_levels (d := d - 1) (by omega) _ _) rfl ⟨_, rfl, rfl⟩ (by omega) (by omega) (by omega) rfl rfl (Nat.le_of_ble_eq_true rfl) ?_
    refine sw_istore [(0, _), (1, _), (2, _), (3, _), (4, _), (5, _), (6, _)] dL_law_183 (by decide) rfl ?_
    refine sw_aload_n dL_law_185 rfl (by first | rfl | assumption) ?_
    refine sw_Vv dL_law_186 k_L_40 mf_X12_thrown (c_X12_thrown (d := d - 1)) rfl ⟨_, rfl, rfl⟩ (by omega) (by omega) (by omega) rfl rfl (Nat.le_of_ble_eq_true rfl) ?_
    refine sw_hp gm_gd ?_
    refine sw_iload dL_law_189 rfl ?_
    refine sw_icmp_eq 196 dL_law_191 (by decide) (fun h191 => ?_) (fun h191 => ?_)
    · refine sw_iload dL_law_196 rfl ?_
      refine sw_if_ne 220 dL_law_198 (by decide) (fun h198 => ?_) (fun h198 => ?_)
      · refine sw_goto 757 dL_law_220 (by decide) ?_
        refine sw_keep [0, 1, 2, 3, 4] rfl ?_
        exact K (cells + 1) (slots + 6) _ _ _ _ _ _ _ _ _ (by omega) (by omega) md_md ⟨g, (md_in _ (by decide)).trans hg⟩ (by omega) (li_x (Nat.le_refl n) (fun i h1 h2 => md_in _ (by omega)) u2)
      · exact absurd h198 (by decide)
    · exact absurd ((lvS_0 sm _ _).trans hT) h191
  · have q2 := q2.symm
    subst q2
    subst q4
    subst q7
    have hT := (li_lT _ _).symm.trans (q1.elim (fun z => absurd z.1 (by decide)) (fun z => z.2))
    have u2 := li_levX hI _ _ (by rw [hT]; decide)
    show SWr (eL b N xs) l D cy mL_law d mc ms (cells + 1) (slots + 6) 149 [(0, .retAddr b), (1, .ref 0), (2, .ref 150), (3, .ref 186), (4, .int (nI (4 * j)))] [.int 2] n (gd fm s A B o pr) Q QX
    refine sw_istore [(0, _), (1, _), (2, _), (3, _), (4, _), (5, _)] dL_law_149 (by decide) rfl ?_
    refine sw_aload_n dL_law_151 rfl (by first | rfl | assumption) ?_
    refine sw_aload_nR dL_law_152 rfl ?_
    refine sw_iload dL_law_153 rfl ?_
    refine sw_iconst (x := 1) dL_law_155 (by decide) ?_
    refine sw_iadd dL_law_156 ?_
    refine sw_top (y := nI (4 * j + 1)) (nI_1 _) ?_
    refine sw_sld eL_x dL_law_157 (vp_n (show 4 * j + 1 < N by omega) hN) ?_
    refine sw_aload_nR dL_law_158 rfl ?_
    refine sw_iload dL_law_159 rfl ?_
    refine sw_iconst (x := 2) dL_law_161 (by decide) ?_
    refine sw_iadd dL_law_162 ?_
    refine sw_top (y := nI (4 * j + 2)) (ix_2 _) ?_
    refine sw_sld eL_x dL_law_163 (vp_n (show 4 * j + 2 < N by omega) hN) ?_
    refine sw_i2l dL_law_164 ?_
    refine sw_bipush (x := 32) dL_law_165 (by decide) ?_
    refine sw_lshl dL_law_167 ?_
    refine sw_aload_nR dL_law_168 rfl ?_
    refine sw_iload dL_law_169 rfl ?_
    refine sw_iconst (x := 3) dL_law_171 (by decide) ?_
    refine sw_iadd dL_law_172 ?_
    refine sw_top (y := nI (4 * j + 3)) (ix_3 _) ?_
    refine sw_sld eL_x dL_law_173 (vp_n (show 4 * j + 3 < N by omega) hN) ?_
    refine sw_i2l dL_law_174 ?_
    refine sw_ldc2 dL_law_175 k_c_L_32 ?_
    refine sw_land dL_law_178 ?_
    refine sw_lor dL_law_179 ?_
    refine sw_hp (gm_md hm) ?_
    refine sw_Vv dL_law_180 k_L_39 mf_X12_levels (c_X12_levels (d := d - 1) (by omega) _ _) rfl ⟨_, rfl, rfl⟩ (by omega) (by omega) (by omega) rfl rfl (Nat.le_of_ble_eq_true rfl) ?_
    refine sw_istore [(0, _), (1, _), (2, _), (3, _), (4, _), (5, _), (6, _)] dL_law_183 (by decide) rfl ?_
    refine sw_aload_n dL_law_185 rfl (by first | rfl | assumption) ?_
    refine sw_Vv dL_law_186 k_L_40 mf_X12_thrown (c_X12_thrown (d := d - 1)) rfl ⟨_, rfl, rfl⟩ (by omega) (by omega) (by omega) rfl rfl (Nat.le_of_ble_eq_true rfl) ?_
    refine sw_hp gm_gd ?_
    refine sw_iload dL_law_189 rfl ?_
    refine sw_icmp_eq 196 dL_law_191 (by decide) (fun h191 => ?_) (fun h191 => ?_)
    · refine sw_iload dL_law_196 rfl ?_
      refine sw_if_ne 220 dL_law_198 (by decide) (fun h198 => ?_) (fun h198 => ?_)
      · refine sw_goto 757 dL_law_220 (by decide) ?_
        refine sw_keep [0, 1, 2, 3, 4] rfl ?_
        exact K (cells + 1) (slots + 6) _ _ _ _ _ _ _ _ _ (by omega) (by omega) md_md ⟨g, (md_in _ (by decide)).trans hg⟩ (by omega) (li_x (Nat.le_refl n) (fun i h1 h2 => md_in _ (by omega)) u2)
      · exact absurd h198 (by decide)
    · exact absurd ((lvS_0 sm _ _).trans hT) h191
