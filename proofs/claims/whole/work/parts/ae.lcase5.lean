/-! ===== THE LAW: compile ===== -/
set_option maxRecDepth 100000 in
theorem lc_compile {l : Launch} {D : va_G} {cy : Nat → ClassId} {b N : Nat} {xs : Nat → Int32} {d mc ms cells slots j n : Nat} {Q : sw_Q} {QX : sw_QX} {fm : sw_F} {s : Nat → Int32} {A : Nat → Nat → Int32} {B : Nat → Nat → Int64} {o : Int64} {pr : Value} {sm : Nat → Int32} {Am : Nat → Nat → Int32} (hl : l.stackTraces = false) (hN : N ≤ 192) (hj : 4 * j + 4 ≤ N) (hd : 40 ≤ d) (hc : cells + 73 ≤ mc) (hs : slots + 438 ≤ ms) (hm : fm = md fm sm Am) (hg : ∃ g, fm 186 = .inl (1, 1, .inr (.inl g))) (hn : 187 ≤ n) (hI : LI n fm s A o pr sm Am) (K : LK l D cy b N xs d mc ms cells slots j Q QX) : SWr (eL b N xs) l D cy mL_law d mc ms cells slots 366 [(0, .retAddr b), (1, .ref 0), (2, .ref 150), (3, .ref 186), (4, .int (nI (4 * j)))] [] n (gd fm s A B o pr) Q QX := by
  obtain ⟨T0, N0, ⟨tc, a1, a2, a3, a4, a5⟩, ⟨b1, b2, b3, b4, b5⟩, b6, b7⟩ := li_cpre hI
  have t72 := tc.2.1
  obtain ⟨g, hg⟩ := hg
  refine sw_aload_n dL_law_366 rfl (by first | rfl | assumption) ?_
  refine sw_aload_n dL_law_367 rfl (by first | rfl | assumption) ?_
  refine sw_callSH (na := 2) eL_s dL_law_368 k_L_58 ini_L kw_compile ⟨by decide, by decide, by decide +kernel⟩ (by decide) (c_L_compile (d := d - 1) rfl (c_X11_compile (d := d - 1 - 1) hl (by omega) hn tc a1 a2 a3 a4 a5) (by omega) (fun r n' f' h => by obtain ⟨_, t, v, f2, A', K', E', cm, h2, h3, _⟩ := h; exact ⟨_, g, h2, by rw [h3]; exact d186.trans ((cm.2.1 186 (by omega)).trans hg)⟩) QCx_2) (by omega) ⟨by omega, by omega⟩ rfl rfl (Nat.le_of_ble_eq_true rfl) (fun r' n' f' hq hle => ?_)
  rcases hq with ⟨y, f1, g1, ⟨q2, t, v, f2, A', K', E', cm, q3, q4, al, cd, c9, c0⟩, q5, q6, q7⟩ | ⟨⟨q2, q1⟩, q7⟩ | ⟨⟨q2, q1⟩, q7⟩
  · subst q7
    have ey := Value.int.inj (Option.some.inj q3)
    subst ey
    have hm2 := md_of hn hm cm.2.1
    rw [q4, gd_x _ _ _ _ _ _ (show 150 ≤ 186 by decide)] at q6
    subst q6
    show SWr (eL b N xs) l D cy mL_law d mc ms (cells + 73) (slots + 438) 371 [(0, .retAddr b), (1, .ref 0), (2, .ref 150), (3, .ref 186), (4, .int (nI (4 * j)))] [.int 0] n' (gd (va_up f2 186 _) _ _ B o v) Q QX
    refine sw_istore [(0, _), (1, _), (2, _), (3, _), (4, _), (5, _)] dL_law_371 (by decide) rfl ?_
    refine sw_aload_n dL_law_373 rfl (by first | rfl | assumption) ?_
    refine sw_hp (gm_md (md_u6 hm2 _)) ?_
    refine sw_callV dL_law_374 k_L_61 mf_X12_compile ⟨_, rfl, rfl⟩ rfl (c_X12_compile (d := d - 1) (by omega) b1 a2 b2 b3 b4 b5 b6) (by omega) ⟨by omega, by omega⟩ rfl rfl (Nat.le_of_ble_eq_true rfl) (fun r2 n2 f3 hv hle2 => ?_)
    obtain ⟨hn2, hv⟩ := hv
    have hn2 := hn2.symm
    subst hn2
    rw [b7] at hv
    rcases hv with ⟨q, p1, _⟩ | ⟨t2, A3, L, L0, p1, p2, p3, p4⟩
    · exact absurd (cm.1.symm.trans (congrArg Prod.fst p1)) (by simp)
    · have et : t2 = t := (Option.some.inj (cm.1.symm.trans (congrArg Prod.fst p1))).symm
      subst et
      obtain ⟨x1, x2⟩ := li_cx hI t72 p1 cm.2.2.2.1 p2 L0 p3
      rcases p4 with ⟨y1, _⟩ | ⟨y1, p6, p7⟩
      · rw [← x2, al] at y1
        exact absurd y1 (by decide)
      · have z3 := li_cS hn q2 hI t72 p1 cm p2 x1 cd c9 c0
        rw [p1] at p7
        subst p6
        subst p7
        show SWr (eL b N xs) l D cy mL_law d mc ms (cells + 73 + 0) (slots + 438 + 0) 377 [(0, .retAddr b), (1, .ref 0), (2, .ref 150), (3, .ref 186), (4, .int (nI (4 * j))), (5, .int 0)] [.int (nI (lnR t2 + 1))] n' _ Q QX
        refine sw_istore [(0, _), (1, _), (2, _), (3, _), (4, _), (5, _), (6, _)] dL_law_377 (by decide) rfl ?_
        refine sw_aload_n dL_law_379 rfl (by first | rfl | assumption) ?_
        refine sw_Vv dL_law_380 k_L_40 mf_X12_thrown (c_X12_thrown (d := d - 1)) rfl ⟨_, rfl, rfl⟩ (by omega) (by omega) (by omega) rfl rfl (Nat.le_of_ble_eq_true rfl) ?_
        refine sw_hp gm_gd ?_
        refine sw_iload dL_law_383 rfl ?_
        refine sw_icmp_eq 390 dL_law_385 (by decide) (fun h385 => ?_) (fun h385 => ?_)
        · refine sw_iload dL_law_390 rfl ?_
          refine sw_if_ne 407 dL_law_392 (by decide) (fun h392 => ?_) (fun h392 => ?_)
          · refine sw_goto 757 dL_law_407 (by decide) ?_
            exact absurd rfl h392
          · refine sw_aload_n dL_law_395 rfl (by first | rfl | assumption) ?_
            refine sw_iconst (x := 0) dL_law_396 (by decide) ?_
            refine sw_lald dL_law_397 g186 (by unfold vp_in; decide) ?_
            refine sw_iload dL_law_398 rfl ?_
            refine sw_i2l dL_law_400 ?_
            refine sw_lcmp dL_law_401 ?_
            refine sw_if_eq 407 dL_law_402 (by decide) (fun h402 => ?_) (fun h402 => ?_)
            · refine sw_goto 757 dL_law_407 (by decide) ?_
              refine sw_keep [0, 1, 2, 3, 4] rfl ?_
              exact K (cells + 73 + 0) (slots + 438 + 0) _ _ _ _ _ _ _ _ _ (by omega) (by omega) md_md ⟨_, (md_in _ (by decide)).trans (vu_at _ _ _)⟩ (by omega) (li_x (Nat.le_refl _) (fun i h1 h2 => (md_in _ (by omega)).trans (vu_ne _ (by omega) _)) (z3))
            · exact absurd (cmp_e _) h402
        · exact absurd (rfl) h385
  · rcases q1 with ⟨_, p1, f2, q4, fr⟩ | ⟨z, _⟩
    · subst q7
      subst q4
      have hm2 := md_of hn hm fr
      show SWr (eL b N xs) l D cy mL_law d mc ms (cells + 73) (slots + 438) 371 [(0, .retAddr b), (1, .ref 0), (2, .ref 150), (3, .ref 186), (4, .int (nI (4 * j)))] [.int 1] n' (gd f2 _ A B o pr) Q QX
      refine sw_istore [(0, _), (1, _), (2, _), (3, _), (4, _), (5, _)] dL_law_371 (by decide) rfl ?_
      refine sw_aload_n dL_law_373 rfl (by first | rfl | assumption) ?_
      refine sw_hp (gm_md hm2) ?_
      refine sw_callV dL_law_374 k_L_61 mf_X12_compile ⟨_, rfl, rfl⟩ rfl (c_X12_compile (d := d - 1) (by omega) b1 a2 b2 b3 b4 b5 b6) (by omega) ⟨by omega, by omega⟩ rfl rfl (Nat.le_of_ble_eq_true rfl) (fun r2 n2 f3 hv hle2 => ?_)
      obtain ⟨hn2, hv⟩ := hv
      have hn2 := hn2.symm
      subst hn2
      rw [b7] at hv
      rcases hv with ⟨q, p3, p6, g', P', A', pA, p7⟩ | ⟨t2, A3, L, L0, p3, _⟩
      · subst p6
        subst p7
        have z3 := li_cE (li_x q2 (fun i h1 h2 => fr i h2) hI) q (g' := g') (P' := P') pA
        rw [p3]
        show SWr (eL b N xs) l D cy mL_law d mc ms (cells + 73 + 0) (slots + 438 + 0) 377 [(0, .retAddr b), (1, .ref 0), (2, .ref 150), (3, .ref 186), (4, .int (nI (4 * j))), (5, .int 1)] [.int 0] n' _ Q QX
        refine sw_istore [(0, _), (1, _), (2, _), (3, _), (4, _), (5, _), (6, _)] dL_law_377 (by decide) rfl ?_
        refine sw_aload_n dL_law_379 rfl (by first | rfl | assumption) ?_
        refine sw_Vv dL_law_380 k_L_40 mf_X12_thrown (c_X12_thrown (d := d - 1)) rfl ⟨_, rfl, rfl⟩ (by omega) (by omega) (by omega) rfl rfl (Nat.le_of_ble_eq_true rfl) ?_
        refine sw_hp gm_gd ?_
        refine sw_iload dL_law_383 rfl ?_
        refine sw_icmp_eq 390 dL_law_385 (by decide) (fun h385 => ?_) (fun h385 => ?_)
        · refine sw_iload dL_law_390 rfl ?_
          refine sw_if_ne 407 dL_law_392 (by decide) (fun h392 => ?_) (fun h392 => ?_)
          · refine sw_goto 757 dL_law_407 (by decide) ?_
            refine sw_keep [0, 1, 2, 3, 4] rfl ?_
            exact K (cells + 73 + 0) (slots + 438 + 0) _ _ _ _ _ _ _ _ _ (by omega) (by omega) md_md ⟨g, (md_in _ (by decide)).trans ((fr 186 (by omega)).trans hg)⟩ (by omega) (li_x (Nat.le_refl _) (fun i h1 h2 => md_in _ (by omega)) (z3))
          · exact absurd h392 (by decide)
        · exact absurd (rfl) h385
      · exact absurd (p1.symm.trans (congrArg Prod.fst p3)) (by simp)
    · exact absurd z (by decide)
  · rcases q1 with ⟨z, _⟩ | ⟨_, t, v, f2, A', cm, q4, al⟩
    · exact absurd z (by decide)
    · subst q7
      subst q4
      have hm2 := md_of hn hm cm.2.1
      show SWr (eL b N xs) l D cy mL_law d mc ms (cells + 73) (slots + 438) 371 [(0, .retAddr b), (1, .ref 0), (2, .ref 150), (3, .ref 186), (4, .int (nI (4 * j)))] [.int 2] n' (gd f2 _ A' B o v) Q QX
      refine sw_istore [(0, _), (1, _), (2, _), (3, _), (4, _), (5, _)] dL_law_371 (by decide) rfl ?_
      refine sw_aload_n dL_law_373 rfl (by first | rfl | assumption) ?_
      refine sw_hp (gm_md hm2) ?_
      refine sw_callV dL_law_374 k_L_61 mf_X12_compile ⟨_, rfl, rfl⟩ rfl (c_X12_compile (d := d - 1) (by omega) b1 a2 b2 b3 b4 b5 b6) (by omega) ⟨by omega, by omega⟩ rfl rfl (Nat.le_of_ble_eq_true rfl) (fun r2 n2 f3 hv hle2 => ?_)
      obtain ⟨hn2, hv⟩ := hv
      have hn2 := hn2.symm
      subst hn2
      rw [b7] at hv
      rcases hv with ⟨q, p1, _⟩ | ⟨t2, A3, L, L0, p1, p2, p3, p4⟩
      · exact absurd (cm.1.symm.trans (congrArg Prod.fst p1)) (by simp)
      · have et : t2 = t := (Option.some.inj (cm.1.symm.trans (congrArg Prod.fst p1))).symm
        subst et
        obtain ⟨x1, x2⟩ := li_cx hI t72 p1 cm.2.2.2.1 p2 L0 p3
        rcases p4 with ⟨y1, p6, p7⟩ | ⟨y1, _⟩
        · have z3 := li_cP hn q2 hI t72 p1 cm p2 x1
          rw [p1] at p7
          subst p6
          subst p7
          show SWr (eL b N xs) l D cy mL_law d mc ms (cells + 73 + 0) (slots + 438 + 0) 377 [(0, .retAddr b), (1, .ref 0), (2, .ref 150), (3, .ref 186), (4, .int (nI (4 * j))), (5, .int 2)] [.int 0] n' _ Q QX
          refine sw_istore [(0, _), (1, _), (2, _), (3, _), (4, _), (5, _), (6, _)] dL_law_377 (by decide) rfl ?_
          refine sw_aload_n dL_law_379 rfl (by first | rfl | assumption) ?_
          refine sw_Vv dL_law_380 k_L_40 mf_X12_thrown (c_X12_thrown (d := d - 1)) rfl ⟨_, rfl, rfl⟩ (by omega) (by omega) (by omega) rfl rfl (Nat.le_of_ble_eq_true rfl) ?_
          refine sw_hp gm_gd ?_
          refine sw_iload dL_law_383 rfl ?_
          refine sw_icmp_eq 390 dL_law_385 (by decide) (fun h385 => ?_) (fun h385 => ?_)
          · refine sw_iload dL_law_390 rfl ?_
            refine sw_if_ne 407 dL_law_392 (by decide) (fun h392 => ?_) (fun h392 => ?_)
            · refine sw_goto 757 dL_law_407 (by decide) ?_
              refine sw_keep [0, 1, 2, 3, 4] rfl ?_
              exact K (cells + 73 + 0) (slots + 438 + 0) _ _ _ _ _ _ _ _ _ (by omega) (by omega) md_md ⟨g, (md_in _ (by decide)).trans ((cm.2.1 186 (by omega)).trans hg)⟩ (by omega) (li_x (Nat.le_refl _) (fun i h1 h2 => md_in _ (by omega)) (z3))
            · exact absurd h392 (by decide)
          · exact absurd (rfl) h385
        · rw [← x2, al] at y1
          exact absurd y1 (by decide)
