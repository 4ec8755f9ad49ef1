/-! ===== THE LAW: more of its cases ===== -/
set_option maxRecDepth 100000 in
theorem lc_write {l : Launch} {D : va_G} {cy : Nat → ClassId} {b N : Nat} {xs : Nat → Int32} {d mc ms cells slots j n : Nat} {Q : sw_Q} {QX : sw_QX} {fm : sw_F} {s : Nat → Int32} {A : Nat → Nat → Int32} {B : Nat → Nat → Int64} {o : Int64} {pr : Value} {sm : Nat → Int32} {Am : Nat → Nat → Int32} (hN : N ≤ 192) (hj : 4 * j + 4 ≤ N) (hd : 40 ≤ d) (hc : cells + 73 ≤ mc) (hs : slots + 438 ≤ ms) (hm : fm = md fm sm Am) (hg : ∃ g, fm 186 = .inl (1, 1, .inr (.inl g))) (hn : 187 ≤ n) (hI : LI n fm s A o pr sm Am) (K : LK l D cy b N xs d mc ms cells slots j Q QX) : SWr (eL b N xs) l D cy mL_law d mc ms cells slots 309 [(0, .retAddr b), (1, .ref 0), (2, .ref 150), (3, .ref 186), (4, .int (nI (4 * j)))] [] n (gd fm s A B o pr) Q QX := by
  obtain ⟨N0, C, T0, ⟨n1, n2, n3⟩, ⟨c1, c2, c3⟩, t1, t2, t3⟩ := li_n hI
  refine sw_aload_n dL_law_309 rfl (by first | rfl | assumption) ?_
  refine sw_aload_nR dL_law_310 rfl ?_
  refine sw_iload dL_law_311 rfl ?_
  refine sw_iconst (x := 1) dL_law_313 (by decide) ?_
  refine sw_iadd dL_law_314 ?_
  refine sw_top (y := nI (4 * j + 1)) (nI_1 _) ?_
  refine sw_sld eL_x dL_law_315 (vp_n (show 4 * j + 1 < N by omega) hN) ?_
  refine sw_i2l dL_law_316 ?_
  refine sw_bipush (x := 32) dL_law_317 (by decide) ?_
  refine sw_lshl dL_law_319 ?_
  refine sw_aload_nR dL_law_320 rfl ?_
  refine sw_iload dL_law_321 rfl ?_
  refine sw_iconst (x := 2) dL_law_323 (by decide) ?_
  refine sw_iadd dL_law_324 ?_
  refine sw_top (y := nI (4 * j + 2)) (ix_2 _) ?_
  refine sw_sld eL_x dL_law_325 (vp_n (show 4 * j + 2 < N by omega) hN) ?_
  refine sw_i2l dL_law_326 ?_
  refine sw_ldc2 dL_law_327 k_c_L_32 ?_
  refine sw_land dL_law_330 ?_
  refine sw_lor dL_law_331 ?_
  refine sw_Vv dL_law_332 k_L_53 mf_X11_write (c_X11_write (d := d - 1) (by omega) t2 t1 _) rfl ⟨_, rfl, rfl⟩ (by omega) (by omega) (by omega) rfl rfl (Nat.le_of_ble_eq_true rfl) ?_
  refine sw_aload_n dL_law_335 rfl (by first | rfl | assumption) ?_
  refine sw_aload_nR dL_law_336 rfl ?_
  refine sw_iload dL_law_337 rfl ?_
  refine sw_iconst (x := 1) dL_law_339 (by decide) ?_
  refine sw_iadd dL_law_340 ?_
  refine sw_top (y := nI (4 * j + 1)) (nI_1 _) ?_
  refine sw_sld eL_x dL_law_341 (vp_n (show 4 * j + 1 < N by omega) hN) ?_
  refine sw_i2l dL_law_342 ?_
  refine sw_bipush (x := 32) dL_law_343 (by decide) ?_
  refine sw_lshl dL_law_345 ?_
  refine sw_aload_nR dL_law_346 rfl ?_
  refine sw_iload dL_law_347 rfl ?_
  refine sw_iconst (x := 2) dL_law_349 (by decide) ?_
  refine sw_iadd dL_law_350 ?_
  refine sw_top (y := nI (4 * j + 2)) (ix_2 _) ?_
  refine sw_sld eL_x dL_law_351 (vp_n (show 4 * j + 2 < N by omega) hN) ?_
  refine sw_i2l dL_law_352 ?_
  refine sw_ldc2 dL_law_353 k_c_L_32 ?_
  refine sw_land dL_law_356 ?_
  refine sw_lor dL_law_357 ?_
  refine sw_hp (gm_md hm) ?_
  refine sw_Vv dL_law_358 k_L_57 mf_X12_write (c_X12_write (d := d - 1) t3 t1 _) rfl ⟨_, rfl, rfl⟩ (by omega) (by omega) (by omega) rfl rfl (Nat.le_of_ble_eq_true rfl) ?_
  refine sw_hp gm_gd ?_
  refine sw_icmp_eq 757 dL_law_361 (by decide) (fun h361 => ?_) (fun h361 => ?_)
  · exact K cells slots n _ _ _ _ _ _ _ _ (by omega) (by omega) md_md (hg.imp fun g hg => (md_in _ (by omega)).trans hg) hn (li_x (Nat.le_refl n) (fun i h1 h2 => md_in _ (by omega)) ((li_write hI t2 t1 _).2))
  · exact absurd (congrArg bz (li_write hI t2 t1 _).1) h361
set_option maxRecDepth 100000 in
theorem c_found0 {l : Launch} {D : va_G} {cy : Nat → ClassId} {d n : Nat} {f : sw_F} {s : Nat → Int32} {A : Nat → Nat → Int32} (h0 : s 40 = 0) (k w : Int32) : sw_Ct l D cy mX12_found d 0 0 [.ref 150, .int k, .int w] n (md f s A) (sw_D (some (.int (-1))) n (md f (va_up s 0 0) A)) := by
  refine sw_of rfl (Nat.le_of_ble_eq_true rfl) ?_
  show SW l D cy mX12_found d 0 0 0 0 0 [(0, .ref 150), (1, .int k), (2, .int w)] [] n (md f s A) _ _
  refine sw_aload_n dX12_found_0 rfl (by first | rfl | assumption) ?_
  refine sw_iconst (x := 0) dX12_found_1 (by decide) ?_
  refine m_put dX12_found_2 fl_X12_124 (by decide) (sw_fit_i _) rfl ?_
  refine sw_aload_n dX12_found_5 rfl (by first | rfl | assumption) ?_
  refine sw_get dX12_found_6 fr_X12_257 rfl rfl ?_
  refine sw_if_eq 50 dX12_found_9 (by decide) (fun h9 => ?_) (fun h9 => ?_)
  · refine sw_iconst (x := (-1)) dX12_found_50 (by decide) ?_
    exact sw_iret dX12_found_51 rfl (by first | rfl | exact bz_n _) (by omega) (by omega) ⟨rfl, rfl, rfl⟩
  · exact absurd h0 h9
theorem c_found1 {l : Launch} {D : va_G} {cy : Nat → ClassId} {d n n0 : Nat} {f f0 : sw_F} {s sm : Nat → Int32} {A Am : Nat → Nat → Int32} {o : Int64} {pr : Value} (hI : LI n0 f0 s A o pr sm Am) (k w : Int32) : sw_Ct l D cy mX12_found d 0 0 [.ref 150, .int k, .int w] n (md f sm Am) (sw_D (some (.int (r_found sm Am k w))) n (md f (va_up sm 0 0) Am)) := by
  obtain ⟨C, hC, e1, e2, e3, _, hh, e4, e5, e6⟩ := hI.2.2.2.2.2.1
  cases hh with
  | false =>
    have z : r_found sm Am k w = -1 := if_neg (fun z => z.1 e5)
    rw [z]
    exact c_found0 e5 k w
  | true =>
    refine c_X12_found e2 hC (fun k hk => ?_) k w
    obtain ⟨q1, q2⟩ := e6 rfl k hk
    rw [q1]
    rcases q2 with q2 | ⟨g, g8, q2, _⟩
    · exact Or.inl (by rw [q2]; decide)
    · exact Or.inr ⟨g, g8, q2⟩
set_option maxRecDepth 100000 in
theorem lc_found {l : Launch} {D : va_G} {cy : Nat → ClassId} {b N : Nat} {xs : Nat → Int32} {d mc ms cells slots j n : Nat} {Q : sw_Q} {QX : sw_QX} {fm : sw_F} {s : Nat → Int32} {A : Nat → Nat → Int32} {B : Nat → Nat → Int64} {o : Int64} {pr : Value} {sm : Nat → Int32} {Am : Nat → Nat → Int32} (hN : N ≤ 192) (hj : 4 * j + 4 ≤ N) (hd : 40 ≤ d) (hc : cells + 73 ≤ mc) (hs : slots + 438 ≤ ms) (hm : fm = md fm sm Am) (hg : ∃ g, fm 186 = .inl (1, 1, .inr (.inl g))) (hn : 187 ≤ n) (hI : LI n fm s A o pr sm Am) (K : LK l D cy b N xs d mc ms cells slots j Q QX) : SWr (eL b N xs) l D cy mL_law d mc ms cells slots 577 [(0, .retAddr b), (1, .ref 0), (2, .ref 150), (3, .ref 186), (4, .int (nI (4 * j)))] [] n (gd fm s A B o pr) Q QX := by
  obtain ⟨N0, C, T0, ⟨n1, n2, n3⟩, ⟨c1, c2, c3⟩, t1, t2, t3⟩ := li_n hI
  refine sw_aload_n dL_law_577 rfl (by first | rfl | assumption) ?_
  refine sw_aload_nR dL_law_578 rfl ?_
  refine sw_iload dL_law_579 rfl ?_
  refine sw_iconst (x := 1) dL_law_581 (by decide) ?_
  refine sw_iadd dL_law_582 ?_
  refine sw_top (y := nI (4 * j + 1)) (nI_1 _) ?_
  refine sw_sld eL_x dL_law_583 (vp_n (show 4 * j + 1 < N by omega) hN) ?_
  refine sw_aload_nR dL_law_584 rfl ?_
  refine sw_iload dL_law_585 rfl ?_
  refine sw_iconst (x := 2) dL_law_587 (by decide) ?_
  refine sw_iadd dL_law_588 ?_
  refine sw_top (y := nI (4 * j + 2)) (ix_2 _) ?_
  refine sw_sld eL_x dL_law_589 (vp_n (show 4 * j + 2 < N by omega) hN) ?_
  refine sw_Vv dL_law_590 k_L_86 mf_X11_found (c_X11_found (d := d - 1) (by omega) c2 c1 _ _) rfl ⟨_, rfl, rfl⟩ (by omega) (by omega) (by omega) rfl rfl (Nat.le_of_ble_eq_true rfl) ?_
  refine sw_aload_n dL_law_593 rfl (by first | rfl | assumption) ?_
  refine sw_aload_nR dL_law_594 rfl ?_
  refine sw_iload dL_law_595 rfl ?_
  refine sw_iconst (x := 1) dL_law_597 (by decide) ?_
  refine sw_iadd dL_law_598 ?_
  refine sw_top (y := nI (4 * j + 1)) (nI_1 _) ?_
  refine sw_sld eL_x dL_law_599 (vp_n (show 4 * j + 1 < N by omega) hN) ?_
  refine sw_aload_nR dL_law_600 rfl ?_
  refine sw_iload dL_law_601 rfl ?_
  refine sw_iconst (x := 2) dL_law_603 (by decide) ?_
  refine sw_iadd dL_law_604 ?_
  refine sw_top (y := nI (4 * j + 2)) (ix_2 _) ?_
  refine sw_sld eL_x dL_law_605 (vp_n (show 4 * j + 2 < N by omega) hN) ?_
  refine sw_hp (gm_md hm) ?_
  refine sw_Vv dL_law_606 k_L_89 mf_X12_found (c_found1 (d := d - 1) hI _ _) rfl ⟨_, rfl, rfl⟩ (by omega) (by omega) (by omega) rfl rfl (Nat.le_of_ble_eq_true rfl) ?_
  refine sw_hp gm_gd ?_
  refine sw_icmp_eq 757 dL_law_609 (by decide) (fun h609 => ?_) (fun h609 => ?_)
  · exact K cells slots n _ _ _ _ _ _ _ _ (by omega) (by omega) md_md (hg.imp fun g hg => (md_in _ (by omega)).trans hg) hn (li_x (Nat.le_refl n) (fun i h1 h2 => md_in _ (by omega)) (li_0 hI 0))
  · exact absurd (li_found hI _ _) h609
set_option maxRecDepth 100000 in
theorem lc_fol0 {l : Launch} {D : va_G} {cy : Nat → ClassId} {b N : Nat} {xs : Nat → Int32} {d mc ms cells slots j n : Nat} {Q : sw_Q} {QX : sw_QX} {fm : sw_F} {s : Nat → Int32} {A : Nat → Nat → Int32} {B : Nat → Nat → Int64} {o : Int64} {pr : Value} {sm : Nat → Int32} {Am : Nat → Nat → Int32} (hN : N ≤ 192) (hj : 4 * j + 4 ≤ N) (hd : 40 ≤ d) (hc : cells + 73 ≤ mc) (hs : slots + 438 ≤ ms) (hm : fm = md fm sm Am) (hg : ∃ g, fm 186 = .inl (1, 1, .inr (.inl g))) (hn : 187 ≤ n) (hI : LI n fm s A o pr sm Am) (K : LK l D cy b N xs d mc ms cells slots j Q QX) (hfw : ¬ fwO s (xs (nI (4 * j + 1)).toNatClampNeg)) : SWr (eL b N xs) l D cy mL_law d mc ms cells slots 732 [(0, .retAddr b), (1, .ref 0), (2, .ref 150), (3, .ref 186), (4, .int (nI (4 * j)))] [] n (gd fm s A B o pr) Q QX := by
  obtain ⟨N0, C, T0, ⟨n1, n2, n3⟩, ⟨c1, c2, c3⟩, t1, t2, t3⟩ := li_n hI
  refine sw_aload_n dL_law_732 rfl (by first | rfl | assumption) ?_
  refine sw_aload_nR dL_law_733 rfl ?_
  refine sw_iload dL_law_734 rfl ?_
  refine sw_iconst (x := 1) dL_law_736 (by decide) ?_
  refine sw_iadd dL_law_737 ?_
  refine sw_top (y := nI (4 * j + 1)) (nI_1 _) ?_
  refine sw_sld eL_x dL_law_738 (vp_n (show 4 * j + 1 < N by omega) hN) ?_
  refine sw_Vv dL_law_739 k_L_102 mf_X11_follow (c_fol_0 (d := d - 1) _ hfw) rfl ⟨_, rfl, rfl⟩ (by omega) (by omega) (by omega) rfl rfl (Nat.le_of_ble_eq_true rfl) ?_
  refine sw_aload_n dL_law_742 rfl (by first | rfl | assumption) ?_
  refine sw_aload_nR dL_law_743 rfl ?_
  refine sw_iload dL_law_744 rfl ?_
  refine sw_iconst (x := 1) dL_law_746 (by decide) ?_
  refine sw_iadd dL_law_747 ?_
  refine sw_top (y := nI (4 * j + 1)) (nI_1 _) ?_
  refine sw_sld eL_x dL_law_748 (vp_n (show 4 * j + 1 < N by omega) hN) ?_
  refine sw_hp (gm_md hm) ?_
  refine sw_Vv dL_law_749 k_L_105 mf_X12_follow (c_X12_follow (d := d - 1) (by omega) (li_GF hI) _) rfl ⟨_, rfl, rfl⟩ (by omega) (by omega) (by omega) rfl rfl (Nat.le_of_ble_eq_true rfl) ?_
  refine sw_hp gm_gd ?_
  refine sw_icmp_eq 757 dL_law_752 (by decide) (fun h752 => ?_) (fun h752 => ?_)
  · exact K cells slots n _ _ _ _ _ _ _ _ (by omega) (by omega) md_md (hg.imp fun g hg => (md_in _ (by omega)).trans hg) hn (li_x (Nat.le_refl n) (fun i h1 h2 => md_in _ (by omega)) ((li_fol0 hI _ hfw).2))
  · exact absurd ((li_fol0 hI _ hfw).1.symm) h752
set_option maxRecDepth 100000 in
theorem lc_fol1 {l : Launch} {D : va_G} {cy : Nat → ClassId} {b N : Nat} {xs : Nat → Int32} {d mc ms cells slots j n : Nat} {Q : sw_Q} {QX : sw_QX} {fm : sw_F} {s : Nat → Int32} {A : Nat → Nat → Int32} {B : Nat → Nat → Int64} {o : Int64} {pr : Value} {sm : Nat → Int32} {Am : Nat → Nat → Int32} (hN : N ≤ 192) (hj : 4 * j + 4 ≤ N) (hd : 40 ≤ d) (hc : cells + 73 ≤ mc) (hs : slots + 438 ≤ ms) (hm : fm = md fm sm Am) (hg : ∃ g, fm 186 = .inl (1, 1, .inr (.inl g))) (hn : 187 ≤ n) (hI : LI n fm s A o pr sm Am) (K : LK l D cy b N xs d mc ms cells slots j Q QX) (hfw : fwO s (xs (nI (4 * j + 1)).toNatClampNeg)) : SWr (eL b N xs) l D cy mL_law d mc ms cells slots 732 [(0, .retAddr b), (1, .ref 0), (2, .ref 150), (3, .ref 186), (4, .int (nI (4 * j)))] [] n (gd fm s A B o pr) Q QX := by
  obtain ⟨Mx, hMx, ex⟩ := nI_of2 (M := 500) (n := 500) (by decide) hfw.2.1 hfw.2.2
  obtain ⟨t, m, n1, k1, k2, k3, k4, k5⟩ := li_fol1 hI hMx hfw.1
  refine sw_aload_n dL_law_732 rfl (by first | rfl | assumption) ?_
  refine sw_aload_nR dL_law_733 rfl ?_
  refine sw_iload dL_law_734 rfl ?_
  refine sw_iconst (x := 1) dL_law_736 (by decide) ?_
  refine sw_iadd dL_law_737 ?_
  refine sw_top (y := nI (4 * j + 1)) (nI_1 _) ?_
  refine sw_sld eL_x dL_law_738 (vp_n (show 4 * j + 1 < N by omega) hN) ?_
  rw [ex]
  refine sw_callV dL_law_739 k_L_102 mf_X11_follow ⟨_, rfl, rfl⟩ rfl (c_fol_1 (d := d - 1) hMx hfw.1 k1 (by omega) k2 k3 k4) (by omega) ⟨by omega, by omega⟩ rfl rfl (Nat.le_of_ble_eq_true rfl) (fun r' n' f' hq hle => ?_)
  obtain ⟨y, s', A', q1, q2, q3, q4, q5⟩ := k5 _ _ _ _ _ _ hq
  subst q1
  subst q3
  have q2 := q2.symm
  subst q2
  show SWr (eL b N xs) l D cy mL_law d mc ms (cells + 0) (slots + 0) 742 [(0, .retAddr b), (1, .ref 0), (2, .ref 150), (3, .ref 186), (4, .int (nI (4 * j)))] [.int y] n (gd fm s' A' B o pr) Q QX
  refine sw_aload_n dL_law_742 rfl (by first | rfl | assumption) ?_
  refine sw_aload_nR dL_law_743 rfl ?_
  refine sw_iload dL_law_744 rfl ?_
  refine sw_iconst (x := 1) dL_law_746 (by decide) ?_
  refine sw_iadd dL_law_747 ?_
  refine sw_top (y := nI (4 * j + 1)) (nI_1 _) ?_
  refine sw_sld eL_x dL_law_748 (vp_n (show 4 * j + 1 < N by omega) hN) ?_
  rw [ex]
  refine sw_hp (gm_md hm) ?_
  refine sw_Vv dL_law_749 k_L_105 mf_X12_follow (c_X12_follow (d := d - 1) (by omega) (li_GF hI) _) rfl ⟨_, rfl, rfl⟩ (by omega) (by omega) (by omega) rfl rfl (Nat.le_of_ble_eq_true rfl) ?_
  refine sw_hp gm_gd ?_
  refine sw_icmp_eq 757 dL_law_752 (by decide) (fun h752 => ?_) (fun h752 => ?_)
  · exact K (cells + 0) (slots + 0) n _ _ _ _ _ _ _ _ (by omega) (by omega) md_md (hg.imp fun g hg => (md_in _ (by omega)).trans hg) hn (li_x (Nat.le_refl n) (fun i h1 h2 => md_in _ (by omega)) (q5))
  · exact absurd q4 h752
