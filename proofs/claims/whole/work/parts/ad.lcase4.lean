/-! ===== THE LAW: verify ===== -/
set_option maxRecDepth 100000 in
theorem lc_verify {l : Launch} {D : va_G} {cy : Nat → ClassId} {b N : Nat} {xs : Nat → Int32} {d mc ms cells slots j n : Nat} {Q : sw_Q} {QX : sw_QX} {fm : sw_F} {s : Nat → Int32} {A : Nat → Nat → Int32} {B : Nat → Nat → Int64} {o : Int64} {pr : Value} {sm : Nat → Int32} {Am : Nat → Nat → Int32} (hl : l.stackTraces = false) (hN : N ≤ 192) (hj : 4 * j + 4 ≤ N) (hd : 40 ≤ d) (hc : cells + 73 ≤ mc) (hs : slots + 438 ≤ ms) (hm : fm = md fm sm Am) (hg : ∃ g, fm 186 = .inl (1, 1, .inr (.inl g))) (hn : 187 ≤ n) (hI : LI n fm s A o pr sm Am) (K : LK l D cy b N xs d mc ms cells slots j Q QX) : SWr (eL b N xs) l D cy mL_law d mc ms cells slots 533 [(0, .retAddr b), (1, .ref 0), (2, .ref 150), (3, .ref 186), (4, .int (nI (4 * j)))] [] n (gd fm s A B o pr) Q QX := by
  obtain ⟨C, N0, R, ⟨v1, v2, v3, v4, v5, v6, v7, v8, v9⟩, w1, w2, w3, w4, w5⟩ := li_vpre hI
  have sh := li_SH hI v4 v5
  obtain ⟨g, hg⟩ := hg
  refine sw_aload_n dL_law_533 rfl (by first | rfl | assumption) ?_
  refine sw_aload_n dL_law_534 rfl (by first | rfl | assumption) ?_
  refine sw_callSH (na := 2) eL_s dL_law_535 k_L_83 ini_L kw_verify ⟨by decide, by decide, by decide +kernel⟩ (by decide) (c_L_verify (d := d - 1) rfl (c_X11_verify (d := d - 1 - 1) hl (by omega) v1 v2 v3 v4 v5 v6 v7 v8 v9) (by omega) (fun r n' f' h => by obtain ⟨_, W, S', Qu, Y, V, L, r1, B', h2, h3, _⟩ := h; exact ⟨_, g, h2, by rw [h3]; exact d186.trans hg⟩) QVx_2) (by omega) ⟨by omega, by omega⟩ rfl rfl (Nat.le_of_ble_eq_true rfl) (fun r' n' f' hq hle => ?_)
  rcases hq with ⟨y, f1, g1, ⟨q2, W, S', Qu, Y, V, L, r1, B', q3, q4, q8⟩, q5, q6, q7⟩ | ⟨⟨q2, q1⟩, q7⟩ | ⟨⟨q2, q1⟩, q7⟩
  · have q2 := q2.symm
    subst q2
    subst q7
    have ey := Value.int.inj (Option.some.inj q3)
    subst ey
    rw [q4, gd_x _ _ _ _ _ _ (show 150 ≤ 186 by decide)] at q6
    subst q6
    show SWr (eL b N xs) l D cy mL_law d mc ms (cells + 1) (slots + 6) 538 [(0, .retAddr b), (1, .ref 0), (2, .ref 150), (3, .ref 186), (4, .int (nI (4 * j)))] [.int 0] n (gd (va_up fm 186 _) _ _ B' o pr) Q QX
    refine sw_istore [(0, _), (1, _), (2, _), (3, _), (4, _), (5, _)] dL_law_538 (by decide) rfl ?_
    refine sw_aload_n dL_law_540 rfl (by first | rfl | assumption) ?_
    refine sw_hp (gm_md (md_u6 hm _)) ?_
    refine sw_callV dL_law_541 k_L_85 mf_X12_verify ⟨_, rfl, rfl⟩ rfl (c_X12_verify (d := d - 1) (by omega) w1 v5 v2 w2 w3 w4 w5) (by omega) ⟨by omega, by omega⟩ rfl rfl (Nat.le_of_ble_eq_true rfl) (fun r2 n2 f2 hv hle2 => ?_)
    obtain ⟨hn2, hv⟩ := hv
    have hn2 := hn2.symm
    subst hn2
    rcases hv with ⟨p1, _⟩ | ⟨p1, Wm, Sm, Pm, G, Th, Lm, ym, p2, p3, p4, p5, p6, p7⟩
    · exact absurd (sh.mp q8.1) p1
    · obtain ⟨z1, z2, z3⟩ := li_vS hI v4 v5 v1 v2 q8 p2 p3 p4 p5 S' Qu V L r1
      subst z1
      rw [if_pos rfl] at z3
      rw [if_pos rfl, z2] at p6
      subst p6
      subst p7
      show SWr (eL b N xs) l D cy mL_law d mc ms (cells + 1 + 0) (slots + 6 + 0) 544 [(0, .retAddr b), (1, .ref 0), (2, .ref 150), (3, .ref 186), (4, .int (nI (4 * j))), (5, .int 0)] [.int (nI W.2.2)] n _ Q QX
      refine sw_istore [(0, _), (1, _), (2, _), (3, _), (4, _), (5, _), (6, _)] dL_law_544 (by decide) rfl ?_
      refine sw_aload_n dL_law_546 rfl (by first | rfl | assumption) ?_
      refine sw_Vv dL_law_547 k_L_40 mf_X12_thrown (c_X12_thrown (d := d - 1)) rfl ⟨_, rfl, rfl⟩ (by omega) (by omega) (by omega) rfl rfl (Nat.le_of_ble_eq_true rfl) ?_
      refine sw_hp gm_gd ?_
      refine sw_iload dL_law_550 rfl ?_
      refine sw_icmp_eq 557 dL_law_552 (by decide) (fun h552 => ?_) (fun h552 => ?_)
      · refine sw_iload dL_law_557 rfl ?_
        refine sw_if_ne 574 dL_law_559 (by decide) (fun h559 => ?_) (fun h559 => ?_)
        · refine sw_goto 757 dL_law_574 (by decide) ?_
          exact absurd rfl h559
        · refine sw_aload_n dL_law_562 rfl (by first | rfl | assumption) ?_
          refine sw_iconst (x := 0) dL_law_563 (by decide) ?_
          refine sw_lald dL_law_564 g186 (by unfold vp_in; decide) ?_
          refine sw_iload dL_law_565 rfl ?_
          refine sw_i2l dL_law_567 ?_
          refine sw_lcmp dL_law_568 ?_
          refine sw_if_eq 574 dL_law_569 (by decide) (fun h569 => ?_) (fun h569 => ?_)
          · refine sw_goto 757 dL_law_574 (by decide) ?_
            refine sw_keep [0, 1, 2, 3, 4] rfl ?_
            exact K (cells + 1 + 0) (slots + 6 + 0) _ _ _ _ _ _ _ _ _ (by omega) (by omega) md_md ⟨_, (md_in _ (by decide)).trans (vu_at _ _ _)⟩ (by omega) (li_x (Nat.le_refl n) (fun i h1 h2 => (md_in _ (by omega)).trans (vu_ne _ (by omega) _)) (z3))
          · exact absurd (cmp_e _) h569
      · exact absurd (rfl) h552
  · rcases q1 with ⟨_, p1, W, S', q4⟩ | ⟨z, _⟩
    · have q2 := q2.symm
      subst q2
      subst q7
      subst q4
      show SWr (eL b N xs) l D cy mL_law d mc ms (cells + 1) (slots + 6) 538 [(0, .retAddr b), (1, .ref 0), (2, .ref 150), (3, .ref 186), (4, .int (nI (4 * j)))] [.int 1] n (gd fm _ _ B o pr) Q QX
      refine sw_istore [(0, _), (1, _), (2, _), (3, _), (4, _), (5, _)] dL_law_538 (by decide) rfl ?_
      refine sw_aload_n dL_law_540 rfl (by first | rfl | assumption) ?_
      refine sw_hp (gm_md hm) ?_
      refine sw_callV dL_law_541 k_L_85 mf_X12_verify ⟨_, rfl, rfl⟩ rfl (c_X12_verify (d := d - 1) (by omega) w1 v5 v2 w2 w3 w4 w5) (by omega) ⟨by omega, by omega⟩ rfl rfl (Nat.le_of_ble_eq_true rfl) (fun r2 n2 f2 hv hle2 => ?_)
      obtain ⟨hn2, hv⟩ := hv
      have hn2 := hn2.symm
      subst hn2
      rcases hv with ⟨_, p6, Wm, Sm, Pm, p7⟩ | ⟨p2, _⟩
      · subst p6
        subst p7
        have z3 := li_vX hI W S' Wm Sm Pm
        show SWr (eL b N xs) l D cy mL_law d mc ms (cells + 1 + 0) (slots + 6 + 0) 544 [(0, .retAddr b), (1, .ref 0), (2, .ref 150), (3, .ref 186), (4, .int (nI (4 * j))), (5, .int 1)] [.int 0] n _ Q QX
        refine sw_istore [(0, _), (1, _), (2, _), (3, _), (4, _), (5, _), (6, _)] dL_law_544 (by decide) rfl ?_
        refine sw_aload_n dL_law_546 rfl (by first | rfl | assumption) ?_
        refine sw_Vv dL_law_547 k_L_40 mf_X12_thrown (c_X12_thrown (d := d - 1)) rfl ⟨_, rfl, rfl⟩ (by omega) (by omega) (by omega) rfl rfl (Nat.le_of_ble_eq_true rfl) ?_
        refine sw_hp gm_gd ?_
        refine sw_iload dL_law_550 rfl ?_
        refine sw_icmp_eq 557 dL_law_552 (by decide) (fun h552 => ?_) (fun h552 => ?_)
        · refine sw_iload dL_law_557 rfl ?_
          refine sw_if_ne 574 dL_law_559 (by decide) (fun h559 => ?_) (fun h559 => ?_)
          · refine sw_goto 757 dL_law_574 (by decide) ?_
            refine sw_keep [0, 1, 2, 3, 4] rfl ?_
            exact K (cells + 1 + 0) (slots + 6 + 0) _ _ _ _ _ _ _ _ _ (by omega) (by omega) md_md ⟨g, (md_in _ (by decide)).trans hg⟩ (by omega) (li_x (Nat.le_refl n) (fun i h1 h2 => md_in _ (by omega)) (z3))
          · exact absurd h559 (by decide)
        · exact absurd (rfl) h552
      · exact absurd (sh.mpr p2) p1
    · exact absurd z (by decide)
  · rcases q1 with ⟨z, _⟩ | ⟨_, W, S', Qu, Y, V, L, r1, B', q4, q8⟩
    · exact absurd z (by decide)
    · have q2 := q2.symm
      subst q2
      subst q7
      subst q4
      show SWr (eL b N xs) l D cy mL_law d mc ms (cells + 1) (slots + 6) 538 [(0, .retAddr b), (1, .ref 0), (2, .ref 150), (3, .ref 186), (4, .int (nI (4 * j)))] [.int 2] n (gd fm _ _ B' o pr) Q QX
      refine sw_istore [(0, _), (1, _), (2, _), (3, _), (4, _), (5, _)] dL_law_538 (by decide) rfl ?_
      refine sw_aload_n dL_law_540 rfl (by first | rfl | assumption) ?_
      refine sw_hp (gm_md hm) ?_
      refine sw_callV dL_law_541 k_L_85 mf_X12_verify ⟨_, rfl, rfl⟩ rfl (c_X12_verify (d := d - 1) (by omega) w1 v5 v2 w2 w3 w4 w5) (by omega) ⟨by omega, by omega⟩ rfl rfl (Nat.le_of_ble_eq_true rfl) (fun r2 n2 f2 hv hle2 => ?_)
      obtain ⟨hn2, hv⟩ := hv
      have hn2 := hn2.symm
      subst hn2
      rcases hv with ⟨p1, _⟩ | ⟨p1, Wm, Sm, Pm, G, Th, Lm, ym, p2, p3, p4, p5, p6, p7⟩
      · exact absurd (sh.mp q8.1) p1
      · obtain ⟨z1, z2, z3⟩ := li_vS hI v4 v5 v1 v2 q8 p2 p3 p4 p5 S' Qu V L r1
        subst z1
        rw [if_neg (by decide)] at z3
        rw [if_neg (by decide)] at p6
        subst p6
        subst p7
        show SWr (eL b N xs) l D cy mL_law d mc ms (cells + 1 + 0) (slots + 6 + 0) 544 [(0, .retAddr b), (1, .ref 0), (2, .ref 150), (3, .ref 186), (4, .int (nI (4 * j))), (5, .int 2)] [.int 0] n _ Q QX
        refine sw_istore [(0, _), (1, _), (2, _), (3, _), (4, _), (5, _), (6, _)] dL_law_544 (by decide) rfl ?_
        refine sw_aload_n dL_law_546 rfl (by first | rfl | assumption) ?_
        refine sw_Vv dL_law_547 k_L_40 mf_X12_thrown (c_X12_thrown (d := d - 1)) rfl ⟨_, rfl, rfl⟩ (by omega) (by omega) (by omega) rfl rfl (Nat.le_of_ble_eq_true rfl) ?_
        refine sw_hp gm_gd ?_
        refine sw_iload dL_law_550 rfl ?_
        refine sw_icmp_eq 557 dL_law_552 (by decide) (fun h552 => ?_) (fun h552 => ?_)
        · refine sw_iload dL_law_557 rfl ?_
          refine sw_if_ne 574 dL_law_559 (by decide) (fun h559 => ?_) (fun h559 => ?_)
          · refine sw_goto 757 dL_law_574 (by decide) ?_
            refine sw_keep [0, 1, 2, 3, 4] rfl ?_
            exact K (cells + 1 + 0) (slots + 6 + 0) _ _ _ _ _ _ _ _ _ (by omega) (by omega) md_md ⟨g, (md_in _ (by decide)).trans hg⟩ (by omega) (li_x (Nat.le_refl n) (fun i h1 h2 => md_in _ (by omega)) (z3))
          · exact absurd h559 (by decide)
        · exact absurd (rfl) h552
