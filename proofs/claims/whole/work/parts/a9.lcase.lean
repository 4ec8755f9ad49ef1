/-! ===== THE LAW: its cases ===== -/
/-- behind a case: the next round -/
def LK (l : Launch) (D : va_G) (cy : Nat → ClassId) (b N : Nat) (xs : Nat → Int32) (d mc ms cells slots j : Nat) (Q : sw_Q) (QX : sw_QX) : Prop := ∀ (cells' slots' n : Nat) (fm : sw_F) (s : Nat → Int32) (A : Nat → Nat → Int32) (B : Nat → Nat → Int64) (o : Int64) (pr : Value) (sm : Nat → Int32) (Am : Nat → Nat → Int32), cells' ≤ cells + 73 → slots' ≤ slots + 438 → fm = md fm sm Am → (∃ g, fm 186 = .inl (1, 1, .inr (.inl g))) → 187 ≤ n → LI n fm s A o pr sm Am → SWr (eL b N xs) l D cy mL_law d mc ms cells' slots' 757 [(0, .retAddr b), (1, .ref 0), (2, .ref 150), (3, .ref 186), (4, .int (nI (4 * j)))] [] n (gd fm s A B o pr) Q QX
theorem li_n {n : Nat} {f : sw_F} {s : Nat → Int32} {A : Nat → Nat → Int32} {o : Int64} {pr : Value} {sm : Nat → Int32} {Am : Nat → Nat → Int32} (h : LI n f s A o pr sm Am) : ∃ N C T, (N ≤ 6 ∧ s 4 = nI N ∧ sm 1 = nI N) ∧ (C ≤ 100 ∧ s 12 = nI C ∧ sm 36 = nI C) ∧ T ≤ 72 ∧ s 7 = nI T ∧ sm 10 = nI T := by
  obtain ⟨⟨nb, N, hV, ⟨e1, e2⟩, _⟩, h2, ⟨T, t1, t2, t3, _⟩, h4, h5, ⟨C, c1, c2, c3, _⟩, h7, h8⟩ := h
  exact ⟨N, C, T, ⟨hV.2.1, e1, e2⟩, ⟨c1, c2, c3⟩, t1, t2, t3⟩
set_option maxRecDepth 100000 in
theorem lc_join {l : Launch} {D : va_G} {cy : Nat → ClassId} {b N : Nat} {xs : Nat → Int32} {d mc ms cells slots j n : Nat} {Q : sw_Q} {QX : sw_QX} {fm : sw_F} {s : Nat → Int32} {A : Nat → Nat → Int32} {B : Nat → Nat → Int64} {o : Int64} {pr : Value} {sm : Nat → Int32} {Am : Nat → Nat → Int32} (hN : N ≤ 192) (hj : 4 * j + 4 ≤ N) (hd : 40 ≤ d) (hc : cells + 73 ≤ mc) (hs : slots + 438 ≤ ms) (hm : fm = md fm sm Am) (hg : ∃ g, fm 186 = .inl (1, 1, .inr (.inl g))) (hn : 187 ≤ n) (hI : LI n fm s A o pr sm Am) (K : LK l D cy b N xs d mc ms cells slots j Q QX) : SWr (eL b N xs) l D cy mL_law d mc ms cells slots 223 [(0, .retAddr b), (1, .ref 0), (2, .ref 150), (3, .ref 186), (4, .int (nI (4 * j)))] [] n (gd fm s A B o pr) Q QX := by
  obtain ⟨N0, C, T0, ⟨n1, n2, n3⟩, ⟨c1, c2, c3⟩, t1, t2, t3⟩ := li_n hI
  refine sw_aload_n dL_law_223 rfl (by first | rfl | assumption) ?_
  refine sw_aload_nR dL_law_224 rfl ?_
  refine sw_iload dL_law_225 rfl ?_
  refine sw_iconst (x := 1) dL_law_227 (by decide) ?_
  refine sw_iadd dL_law_228 ?_
  refine sw_top (y := nI (4 * j + 1)) (nI_1 _) ?_
  refine sw_sld eL_x dL_law_229 (vp_n (show 4 * j + 1 < N by omega) hN) ?_
  refine sw_aload_nR dL_law_230 rfl ?_
  refine sw_iload dL_law_231 rfl ?_
  refine sw_iconst (x := 2) dL_law_233 (by decide) ?_
  refine sw_iadd dL_law_234 ?_
  refine sw_top (y := nI (4 * j + 2)) (ix_2 _) ?_
  refine sw_sld eL_x dL_law_235 (vp_n (show 4 * j + 2 < N by omega) hN) ?_
  refine sw_Vv dL_law_236 k_L_43 mf_X11_join (c_X11_join (d := d - 1) (by omega) n2 n1 _ _) rfl ⟨_, rfl, rfl⟩ (by omega) (by omega) (by omega) rfl rfl (Nat.le_of_ble_eq_true rfl) ?_
  refine sw_aload_n dL_law_239 rfl (by first | rfl | assumption) ?_
  refine sw_aload_nR dL_law_240 rfl ?_
  refine sw_iload dL_law_241 rfl ?_
  refine sw_iconst (x := 1) dL_law_243 (by decide) ?_
  refine sw_iadd dL_law_244 ?_
  refine sw_top (y := nI (4 * j + 1)) (nI_1 _) ?_
  refine sw_sld eL_x dL_law_245 (vp_n (show 4 * j + 1 < N by omega) hN) ?_
  refine sw_aload_nR dL_law_246 rfl ?_
  refine sw_iload dL_law_247 rfl ?_
  refine sw_iconst (x := 2) dL_law_249 (by decide) ?_
  refine sw_iadd dL_law_250 ?_
  refine sw_top (y := nI (4 * j + 2)) (ix_2 _) ?_
  refine sw_sld eL_x dL_law_251 (vp_n (show 4 * j + 2 < N by omega) hN) ?_
  refine sw_hp (gm_md hm) ?_
  refine sw_Vv dL_law_252 k_L_47 mf_X12_join (c_X12_join (d := d - 1) n3 n1 (by omega) _ _) rfl ⟨_, rfl, rfl⟩ (by omega) (by omega) (by omega) rfl rfl (Nat.le_of_ble_eq_true rfl) ?_
  refine sw_hp gm_gd ?_
  refine sw_icmp_eq 757 dL_law_255 (by decide) (fun h255 => ?_) (fun h255 => ?_)
  · exact K cells slots n (md fm (va_up sm 0 0) Am) _ _ _ _ _ (va_up sm 0 0) Am (by omega) (by omega) md_md (hg.imp fun g hg => (md_in _ (by omega)).trans hg) hn (li_x (Nat.le_refl n) (fun i h1 h2 => md_in _ (by omega)) (li_0 hI 0))
  · exact absurd (li_join hI _ _) h255
set_option maxRecDepth 100000 in
theorem lc_label {l : Launch} {D : va_G} {cy : Nat → ClassId} {b N : Nat} {xs : Nat → Int32} {d mc ms cells slots j n : Nat} {Q : sw_Q} {QX : sw_QX} {fm : sw_F} {s : Nat → Int32} {A : Nat → Nat → Int32} {B : Nat → Nat → Int64} {o : Int64} {pr : Value} {sm : Nat → Int32} {Am : Nat → Nat → Int32} (hN : N ≤ 192) (hj : 4 * j + 4 ≤ N) (hd : 40 ≤ d) (hc : cells + 73 ≤ mc) (hs : slots + 438 ≤ ms) (hm : fm = md fm sm Am) (hg : ∃ g, fm 186 = .inl (1, 1, .inr (.inl g))) (hn : 187 ≤ n) (hI : LI n fm s A o pr sm Am) (K : LK l D cy b N xs d mc ms cells slots j Q QX) : SWr (eL b N xs) l D cy mL_law d mc ms cells slots 260 [(0, .retAddr b), (1, .ref 0), (2, .ref 150), (3, .ref 186), (4, .int (nI (4 * j)))] [] n (gd fm s A B o pr) Q QX := by
  obtain ⟨N0, C, T0, ⟨n1, n2, n3⟩, ⟨c1, c2, c3⟩, t1, t2, t3⟩ := li_n hI
  refine sw_aload_n dL_law_260 rfl (by first | rfl | assumption) ?_
  refine sw_aload_nR dL_law_261 rfl ?_
  refine sw_iload dL_law_262 rfl ?_
  refine sw_iconst (x := 1) dL_law_264 (by decide) ?_
  refine sw_iadd dL_law_265 ?_
  refine sw_top (y := nI (4 * j + 1)) (nI_1 _) ?_
  refine sw_sld eL_x dL_law_266 (vp_n (show 4 * j + 1 < N by omega) hN) ?_
  refine sw_aload_nR dL_law_267 rfl ?_
  refine sw_iload dL_law_268 rfl ?_
  refine sw_iconst (x := 2) dL_law_270 (by decide) ?_
  refine sw_iadd dL_law_271 ?_
  refine sw_top (y := nI (4 * j + 2)) (ix_2 _) ?_
  refine sw_sld eL_x dL_law_272 (vp_n (show 4 * j + 2 < N by omega) hN) ?_
  refine sw_aload_nR dL_law_273 rfl ?_
  refine sw_iload dL_law_274 rfl ?_
  refine sw_iconst (x := 3) dL_law_276 (by decide) ?_
  refine sw_iadd dL_law_277 ?_
  refine sw_top (y := nI (4 * j + 3)) (ix_3 _) ?_
  refine sw_sld eL_x dL_law_278 (vp_n (show 4 * j + 3 < N by omega) hN) ?_
  refine sw_Vv dL_law_279 k_L_48 mf_X11_label (c_X11_label (d := d - 1) (by omega) _ _ _) rfl ⟨_, rfl, rfl⟩ (by omega) (by omega) (by omega) rfl rfl (Nat.le_of_ble_eq_true rfl) ?_
  refine sw_aload_n dL_law_282 rfl (by first | rfl | assumption) ?_
  refine sw_aload_nR dL_law_283 rfl ?_
  refine sw_iload dL_law_284 rfl ?_
  refine sw_iconst (x := 1) dL_law_286 (by decide) ?_
  refine sw_iadd dL_law_287 ?_
  refine sw_top (y := nI (4 * j + 1)) (nI_1 _) ?_
  refine sw_sld eL_x dL_law_288 (vp_n (show 4 * j + 1 < N by omega) hN) ?_
  refine sw_aload_nR dL_law_289 rfl ?_
  refine sw_iload dL_law_290 rfl ?_
  refine sw_iconst (x := 2) dL_law_292 (by decide) ?_
  refine sw_iadd dL_law_293 ?_
  refine sw_top (y := nI (4 * j + 2)) (ix_2 _) ?_
  refine sw_sld eL_x dL_law_294 (vp_n (show 4 * j + 2 < N by omega) hN) ?_
  refine sw_aload_nR dL_law_295 rfl ?_
  refine sw_iload dL_law_296 rfl ?_
  refine sw_iconst (x := 3) dL_law_298 (by decide) ?_
  refine sw_iadd dL_law_299 ?_
  refine sw_top (y := nI (4 * j + 3)) (ix_3 _) ?_
  refine sw_sld eL_x dL_law_300 (vp_n (show 4 * j + 3 < N by omega) hN) ?_
  refine sw_hp (gm_md hm) ?_
  refine sw_Vv dL_law_301 k_L_52 mf_X12_label (c_X12_label (d := d - 1) (by omega) _ _ _) rfl ⟨_, rfl, rfl⟩ (by omega) (by omega) (by omega) rfl rfl (Nat.le_of_ble_eq_true rfl) ?_
  refine sw_hp gm_gd ?_
  refine sw_icmp_eq 757 dL_law_304 (by decide) (fun h304 => ?_) (fun h304 => ?_)
  · exact K cells slots n (md fm (va_up sm 0 0) (r_lbA sm Am (xs (nI (4 * j + 1)).toNatClampNeg) (xs (nI (4 * j + 2)).toNatClampNeg) (xs (nI (4 * j + 3)).toNatClampNeg))) _ _ _ _ _ (va_up sm 0 0) (r_lbA sm Am (xs (nI (4 * j + 1)).toNatClampNeg) (xs (nI (4 * j + 2)).toNatClampNeg) (xs (nI (4 * j + 3)).toNatClampNeg)) (by omega) (by omega) md_md (hg.imp fun g hg => (md_in _ (by omega)).trans hg) hn (li_x (Nat.le_refl n) (fun i h1 h2 => md_in _ (by omega)) (li_label hI _ _ _))
  · exact absurd (congrArg bz (li_lok hI _ _ _)) h304
set_option maxRecDepth 100000 in
theorem lc_position {l : Launch} {D : va_G} {cy : Nat → ClassId} {b N : Nat} {xs : Nat → Int32} {d mc ms cells slots j n : Nat} {Q : sw_Q} {QX : sw_QX} {fm : sw_F} {s : Nat → Int32} {A : Nat → Nat → Int32} {B : Nat → Nat → Int64} {o : Int64} {pr : Value} {sm : Nat → Int32} {Am : Nat → Nat → Int32} (hN : N ≤ 192) (hj : 4 * j + 4 ≤ N) (hd : 40 ≤ d) (hc : cells + 73 ≤ mc) (hs : slots + 438 ≤ ms) (hm : fm = md fm sm Am) (hg : ∃ g, fm 186 = .inl (1, 1, .inr (.inl g))) (hn : 187 ≤ n) (hI : LI n fm s A o pr sm Am) (K : LK l D cy b N xs d mc ms cells slots j Q QX) : SWr (eL b N xs) l D cy mL_law d mc ms cells slots 410 [(0, .retAddr b), (1, .ref 0), (2, .ref 150), (3, .ref 186), (4, .int (nI (4 * j)))] [] n (gd fm s A B o pr) Q QX := by
  obtain ⟨N0, C, T0, ⟨n1, n2, n3⟩, ⟨c1, c2, c3⟩, t1, t2, t3⟩ := li_n hI
  refine sw_aload_n dL_law_410 rfl (by first | rfl | assumption) ?_
  refine sw_Vv dL_law_411 k_L_62 mf_X11_position (c_X11_position (d := d - 1)) rfl ⟨_, rfl, rfl⟩ (by omega) (by omega) (by omega) rfl rfl (Nat.le_of_ble_eq_true rfl) ?_
  refine sw_aload_n dL_law_414 rfl (by first | rfl | assumption) ?_
  refine sw_hp (gm_md hm) ?_
  refine sw_Vv dL_law_415 k_L_65 mf_X12_position (c_X12_position (d := d - 1)) rfl ⟨_, rfl, rfl⟩ (by omega) (by omega) (by omega) rfl rfl (Nat.le_of_ble_eq_true rfl) ?_
  refine sw_hp gm_gd ?_
  refine sw_icmp_eq 757 dL_law_418 (by decide) (fun h418 => ?_) (fun h418 => ?_)
  · exact K cells slots n (md fm (va_up sm 0 0) Am) _ _ _ _ _ (va_up sm 0 0) Am (by omega) (by omega) md_md (hg.imp fun g hg => (md_in _ (by omega)).trans hg) hn (li_x (Nat.le_refl n) (fun i h1 h2 => md_in _ (by omega)) (li_0 hI 0))
  · exact absurd (hI.2.2.2.1) h418
set_option maxRecDepth 100000 in
theorem lc_exit {l : Launch} {D : va_G} {cy : Nat → ClassId} {b N : Nat} {xs : Nat → Int32} {d mc ms cells slots j n : Nat} {Q : sw_Q} {QX : sw_QX} {fm : sw_F} {s : Nat → Int32} {A : Nat → Nat → Int32} {B : Nat → Nat → Int64} {o : Int64} {pr : Value} {sm : Nat → Int32} {Am : Nat → Nat → Int32} (hN : N ≤ 192) (hj : 4 * j + 4 ≤ N) (hd : 40 ≤ d) (hc : cells + 73 ≤ mc) (hs : slots + 438 ≤ ms) (hm : fm = md fm sm Am) (hg : ∃ g, fm 186 = .inl (1, 1, .inr (.inl g))) (hn : 187 ≤ n) (hI : LI n fm s A o pr sm Am) (K : LK l D cy b N xs d mc ms cells slots j Q QX) : SWr (eL b N xs) l D cy mL_law d mc ms cells slots 423 [(0, .retAddr b), (1, .ref 0), (2, .ref 150), (3, .ref 186), (4, .int (nI (4 * j)))] [] n (gd fm s A B o pr) Q QX := by
  obtain ⟨N0, C, T0, ⟨n1, n2, n3⟩, ⟨c1, c2, c3⟩, t1, t2, t3⟩ := li_n hI
  refine sw_aload_n dL_law_423 rfl (by first | rfl | assumption) ?_
  refine sw_aload_nR dL_law_424 rfl ?_
  refine sw_iload dL_law_425 rfl ?_
  refine sw_iconst (x := 1) dL_law_427 (by decide) ?_
  refine sw_iadd dL_law_428 ?_
  refine sw_top (y := nI (4 * j + 1)) (nI_1 _) ?_
  refine sw_sld eL_x dL_law_429 (vp_n (show 4 * j + 1 < N by omega) hN) ?_
  refine sw_Vv dL_law_430 k_L_66 mf_X11_exit (c_X11_exit (d := d - 1) (by omega) _) rfl ⟨_, rfl, rfl⟩ (by omega) (by omega) (by omega) rfl rfl (Nat.le_of_ble_eq_true rfl) ?_
  refine sw_aload_n dL_law_433 rfl (by first | rfl | assumption) ?_
  refine sw_aload_nR dL_law_434 rfl ?_
  refine sw_iload dL_law_435 rfl ?_
  refine sw_iconst (x := 1) dL_law_437 (by decide) ?_
  refine sw_iadd dL_law_438 ?_
  refine sw_top (y := nI (4 * j + 1)) (nI_1 _) ?_
  refine sw_sld eL_x dL_law_439 (vp_n (show 4 * j + 1 < N by omega) hN) ?_
  refine sw_hp (gm_md hm) ?_
  refine sw_Vv dL_law_440 k_L_69 mf_X12_exit (c_X12_exit (d := d - 1) _) rfl ⟨_, rfl, rfl⟩ (by omega) (by omega) (by omega) rfl rfl (Nat.le_of_ble_eq_true rfl) ?_
  refine sw_hp gm_gd ?_
  refine sw_icmp_eq 757 dL_law_443 (by decide) (fun h443 => ?_) (fun h443 => ?_)
  · exact K cells slots n (md fm (va_up sm 0 0) Am) _ _ _ _ _ (va_up sm 0 0) Am (by omega) (by omega) md_md (hg.imp fun g hg => (md_in _ (by omega)).trans hg) hn (li_x (Nat.le_refl n) (fun i h1 h2 => md_in _ (by omega)) (li_0 hI 0))
  · exact absurd (li_exit hI _) h443
set_option maxRecDepth 100000 in
theorem lc_code {l : Launch} {D : va_G} {cy : Nat → ClassId} {b N : Nat} {xs : Nat → Int32} {d mc ms cells slots j n : Nat} {Q : sw_Q} {QX : sw_QX} {fm : sw_F} {s : Nat → Int32} {A : Nat → Nat → Int32} {B : Nat → Nat → Int64} {o : Int64} {pr : Value} {sm : Nat → Int32} {Am : Nat → Nat → Int32} (hN : N ≤ 192) (hj : 4 * j + 4 ≤ N) (hd : 40 ≤ d) (hc : cells + 73 ≤ mc) (hs : slots + 438 ≤ ms) (hm : fm = md fm sm Am) (hg : ∃ g, fm 186 = .inl (1, 1, .inr (.inl g))) (hn : 187 ≤ n) (hI : LI n fm s A o pr sm Am) (K : LK l D cy b N xs d mc ms cells slots j Q QX) : SWr (eL b N xs) l D cy mL_law d mc ms cells slots 448 [(0, .retAddr b), (1, .ref 0), (2, .ref 150), (3, .ref 186), (4, .int (nI (4 * j)))] [] n (gd fm s A B o pr) Q QX := by
  obtain ⟨N0, C, T0, ⟨n1, n2, n3⟩, ⟨c1, c2, c3⟩, t1, t2, t3⟩ := li_n hI
  refine sw_aload_n dL_law_448 rfl (by first | rfl | assumption) ?_
  refine sw_aload_nR dL_law_449 rfl ?_
  refine sw_iload dL_law_450 rfl ?_
  refine sw_iconst (x := 1) dL_law_452 (by decide) ?_
  refine sw_iadd dL_law_453 ?_
  refine sw_top (y := nI (4 * j + 1)) (nI_1 _) ?_
  refine sw_sld eL_x dL_law_454 (vp_n (show 4 * j + 1 < N by omega) hN) ?_
  refine sw_aload_nR dL_law_455 rfl ?_
  refine sw_iload dL_law_456 rfl ?_
  refine sw_iconst (x := 2) dL_law_458 (by decide) ?_
  refine sw_iadd dL_law_459 ?_
  refine sw_top (y := nI (4 * j + 2)) (ix_2 _) ?_
  refine sw_sld eL_x dL_law_460 (vp_n (show 4 * j + 2 < N by omega) hN) ?_
  refine sw_Vv dL_law_461 k_L_70 mf_X11_code (c_X11_code (d := d - 1) (by omega) c2 c1 _ _) rfl ⟨_, rfl, rfl⟩ (by omega) (by omega) (by omega) rfl rfl (Nat.le_of_ble_eq_true rfl) ?_
  refine sw_aload_n dL_law_464 rfl (by first | rfl | assumption) ?_
  refine sw_aload_nR dL_law_465 rfl ?_
  refine sw_iload dL_law_466 rfl ?_
  refine sw_iconst (x := 1) dL_law_468 (by decide) ?_
  refine sw_iadd dL_law_469 ?_
  refine sw_top (y := nI (4 * j + 1)) (nI_1 _) ?_
  refine sw_sld eL_x dL_law_470 (vp_n (show 4 * j + 1 < N by omega) hN) ?_
  refine sw_aload_nR dL_law_471 rfl ?_
  refine sw_iload dL_law_472 rfl ?_
  refine sw_iconst (x := 2) dL_law_474 (by decide) ?_
  refine sw_iadd dL_law_475 ?_
  refine sw_top (y := nI (4 * j + 2)) (ix_2 _) ?_
  refine sw_sld eL_x dL_law_476 (vp_n (show 4 * j + 2 < N by omega) hN) ?_
  refine sw_hp (gm_md hm) ?_
  refine sw_Vv dL_law_477 k_L_73 mf_X12_code (c_X12_code (d := d - 1) c3 c1 _ _) rfl ⟨_, rfl, rfl⟩ (by omega) (by omega) (by omega) rfl rfl (Nat.le_of_ble_eq_true rfl) ?_
  refine sw_hp gm_gd ?_
  refine sw_icmp_eq 757 dL_law_480 (by decide) (fun h480 => ?_) (fun h480 => ?_)
  · exact K cells slots n (md fm (va_up sm 0 0) Am) _ _ _ _ _ (va_up sm 0 0) Am (by omega) (by omega) md_md (hg.imp fun g hg => (md_in _ (by omega)).trans hg) hn (li_x (Nat.le_refl n) (fun i h1 h2 => md_in _ (by omega)) (li_0 hI 0))
  · exact absurd (li_code hI _ _) h480
set_option maxRecDepth 100000 in
theorem lc_empty {l : Launch} {D : va_G} {cy : Nat → ClassId} {b N : Nat} {xs : Nat → Int32} {d mc ms cells slots j n : Nat} {Q : sw_Q} {QX : sw_QX} {fm : sw_F} {s : Nat → Int32} {A : Nat → Nat → Int32} {B : Nat → Nat → Int64} {o : Int64} {pr : Value} {sm : Nat → Int32} {Am : Nat → Nat → Int32} (hN : N ≤ 192) (hj : 4 * j + 4 ≤ N) (hd : 40 ≤ d) (hc : cells + 73 ≤ mc) (hs : slots + 438 ≤ ms) (hm : fm = md fm sm Am) (hg : ∃ g, fm 186 = .inl (1, 1, .inr (.inl g))) (hn : 187 ≤ n) (hI : LI n fm s A o pr sm Am) (K : LK l D cy b N xs d mc ms cells slots j Q QX) : SWr (eL b N xs) l D cy mL_law d mc ms cells slots 485 [(0, .retAddr b), (1, .ref 0), (2, .ref 150), (3, .ref 186), (4, .int (nI (4 * j)))] [] n (gd fm s A B o pr) Q QX := by
  obtain ⟨N0, C, T0, ⟨n1, n2, n3⟩, ⟨c1, c2, c3⟩, t1, t2, t3⟩ := li_n hI
  refine sw_aload_n dL_law_485 rfl (by first | rfl | assumption) ?_
  refine sw_Vn dL_law_486 k_L_74 mf_X11_empty (c_X11_empty (d := d - 1) (by omega)) rfl ⟨_, rfl, rfl⟩ (by omega) (by omega) (by omega) rfl rfl (Nat.le_of_ble_eq_true rfl) ?_
  refine sw_aload_n dL_law_489 rfl (by first | rfl | assumption) ?_
  refine sw_hp (gm_md hm) ?_
  refine sw_Vn dL_law_490 k_L_77 mf_X12_empty (c_X12_empty (d := d - 1)) rfl ⟨_, rfl, rfl⟩ (by omega) (by omega) (by omega) rfl rfl (Nat.le_of_ble_eq_true rfl) ?_
  refine sw_hp gm_gd ?_
  refine sw_goto 757 dL_law_493 (by decide) ?_
  exact K cells slots n (md fm (va_up (va_up (va_up (va_up sm 0 0) 36 0) 39 0) 40 0) Am) _ _ _ _ _ (va_up (va_up (va_up (va_up sm 0 0) 36 0) 39 0) 40 0) Am (by omega) (by omega) md_md (hg.imp fun g hg => (md_in _ (by omega)).trans hg) hn (li_x (Nat.le_refl n) (fun i h1 h2 => md_in _ (by omega)) (li_empty hI))
set_option maxRecDepth 100000 in
theorem lc_put {l : Launch} {D : va_G} {cy : Nat → ClassId} {b N : Nat} {xs : Nat → Int32} {d mc ms cells slots j n : Nat} {Q : sw_Q} {QX : sw_QX} {fm : sw_F} {s : Nat → Int32} {A : Nat → Nat → Int32} {B : Nat → Nat → Int64} {o : Int64} {pr : Value} {sm : Nat → Int32} {Am : Nat → Nat → Int32} (hN : N ≤ 192) (hj : 4 * j + 4 ≤ N) (hd : 40 ≤ d) (hc : cells + 73 ≤ mc) (hs : slots + 438 ≤ ms) (hm : fm = md fm sm Am) (hg : ∃ g, fm 186 = .inl (1, 1, .inr (.inl g))) (hn : 187 ≤ n) (hI : LI n fm s A o pr sm Am) (K : LK l D cy b N xs d mc ms cells slots j Q QX) : SWr (eL b N xs) l D cy mL_law d mc ms cells slots 496 [(0, .retAddr b), (1, .ref 0), (2, .ref 150), (3, .ref 186), (4, .int (nI (4 * j)))] [] n (gd fm s A B o pr) Q QX := by
  obtain ⟨N0, C, T0, ⟨n1, n2, n3⟩, ⟨c1, c2, c3⟩, t1, t2, t3⟩ := li_n hI
  refine sw_aload_n dL_law_496 rfl (by first | rfl | assumption) ?_
  refine sw_aload_nR dL_law_497 rfl ?_
  refine sw_iload dL_law_498 rfl ?_
  refine sw_iconst (x := 1) dL_law_500 (by decide) ?_
  refine sw_iadd dL_law_501 ?_
  refine sw_top (y := nI (4 * j + 1)) (nI_1 _) ?_
  refine sw_sld eL_x dL_law_502 (vp_n (show 4 * j + 1 < N by omega) hN) ?_
  refine sw_aload_nR dL_law_503 rfl ?_
  refine sw_iload dL_law_504 rfl ?_
  refine sw_iconst (x := 2) dL_law_506 (by decide) ?_
  refine sw_iadd dL_law_507 ?_
  refine sw_top (y := nI (4 * j + 2)) (ix_2 _) ?_
  refine sw_sld eL_x dL_law_508 (vp_n (show 4 * j + 2 < N by omega) hN) ?_
  refine sw_Vv dL_law_509 k_L_78 mf_X11_put (c_X11_put (d := d - 1) (by omega) c2 c1 _ _) rfl ⟨_, rfl, rfl⟩ (by omega) (by omega) (by omega) rfl rfl (Nat.le_of_ble_eq_true rfl) ?_
  refine sw_aload_n dL_law_512 rfl (by first | rfl | assumption) ?_
  refine sw_aload_nR dL_law_513 rfl ?_
  refine sw_iload dL_law_514 rfl ?_
  refine sw_iconst (x := 1) dL_law_516 (by decide) ?_
  refine sw_iadd dL_law_517 ?_
  refine sw_top (y := nI (4 * j + 1)) (nI_1 _) ?_
  refine sw_sld eL_x dL_law_518 (vp_n (show 4 * j + 1 < N by omega) hN) ?_
  refine sw_aload_nR dL_law_519 rfl ?_
  refine sw_iload dL_law_520 rfl ?_
  refine sw_iconst (x := 2) dL_law_522 (by decide) ?_
  refine sw_iadd dL_law_523 ?_
  refine sw_top (y := nI (4 * j + 2)) (ix_2 _) ?_
  refine sw_sld eL_x dL_law_524 (vp_n (show 4 * j + 2 < N by omega) hN) ?_
  refine sw_hp (gm_md hm) ?_
  refine sw_Vv dL_law_525 k_L_82 mf_X12_put (c_X12_put (d := d - 1) c3 c1 _ _) rfl ⟨_, rfl, rfl⟩ (by omega) (by omega) (by omega) rfl rfl (Nat.le_of_ble_eq_true rfl) ?_
  refine sw_hp gm_gd ?_
  refine sw_icmp_eq 757 dL_law_528 (by decide) (fun h528 => ?_) (fun h528 => ?_)
  · exact K cells slots n (md fm (r_putS sm) (r_putA sm Am (xs (nI (4 * j + 1)).toNatClampNeg) (xs (nI (4 * j + 2)).toNatClampNeg))) _ _ _ _ _ (r_putS sm) (r_putA sm Am (xs (nI (4 * j + 1)).toNatClampNeg) (xs (nI (4 * j + 2)).toNatClampNeg)) (by omega) (by omega) md_md (hg.imp fun g hg => (md_in _ (by omega)).trans hg) hn (li_x (Nat.le_refl n) (fun i h1 h2 => md_in _ (by omega)) ((li_put hI _ _).2))
  · exact absurd (congrArg bz (li_put hI (xs (nI (4 * j + 1)).toNatClampNeg) (xs (nI (4 * j + 2)).toNatClampNeg)).1) h528
set_option maxRecDepth 100000 in
theorem lc_set {l : Launch} {D : va_G} {cy : Nat → ClassId} {b N : Nat} {xs : Nat → Int32} {d mc ms cells slots j n : Nat} {Q : sw_Q} {QX : sw_QX} {fm : sw_F} {s : Nat → Int32} {A : Nat → Nat → Int32} {B : Nat → Nat → Int64} {o : Int64} {pr : Value} {sm : Nat → Int32} {Am : Nat → Nat → Int32} (hN : N ≤ 192) (hj : 4 * j + 4 ≤ N) (hd : 40 ≤ d) (hc : cells + 73 ≤ mc) (hs : slots + 438 ≤ ms) (hm : fm = md fm sm Am) (hg : ∃ g, fm 186 = .inl (1, 1, .inr (.inl g))) (hn : 187 ≤ n) (hI : LI n fm s A o pr sm Am) (K : LK l D cy b N xs d mc ms cells slots j Q QX) : SWr (eL b N xs) l D cy mL_law d mc ms cells slots 614 [(0, .retAddr b), (1, .ref 0), (2, .ref 150), (3, .ref 186), (4, .int (nI (4 * j)))] [] n (gd fm s A B o pr) Q QX := by
  obtain ⟨N0, C, T0, ⟨n1, n2, n3⟩, ⟨c1, c2, c3⟩, t1, t2, t3⟩ := li_n hI
  refine sw_aload_n dL_law_614 rfl (by first | rfl | assumption) ?_
  refine sw_aload_nR dL_law_615 rfl ?_
  refine sw_iload dL_law_616 rfl ?_
  refine sw_iconst (x := 1) dL_law_618 (by decide) ?_
  refine sw_iadd dL_law_619 ?_
  refine sw_top (y := nI (4 * j + 1)) (nI_1 _) ?_
  refine sw_sld eL_x dL_law_620 (vp_n (show 4 * j + 1 < N by omega) hN) ?_
  refine sw_aload_nR dL_law_621 rfl ?_
  refine sw_iload dL_law_622 rfl ?_
  refine sw_iconst (x := 2) dL_law_624 (by decide) ?_
  refine sw_iadd dL_law_625 ?_
  refine sw_top (y := nI (4 * j + 2)) (ix_2 _) ?_
  refine sw_sld eL_x dL_law_626 (vp_n (show 4 * j + 2 < N by omega) hN) ?_
  refine sw_Vv dL_law_627 k_L_90 mf_X11_set (c_X11_set (d := d - 1) (by omega) _ _) rfl ⟨_, rfl, rfl⟩ (by omega) (by omega) (by omega) rfl rfl (Nat.le_of_ble_eq_true rfl) ?_
  refine sw_aload_n dL_law_630 rfl (by first | rfl | assumption) ?_
  refine sw_aload_nR dL_law_631 rfl ?_
  refine sw_iload dL_law_632 rfl ?_
  refine sw_iconst (x := 1) dL_law_634 (by decide) ?_
  refine sw_iadd dL_law_635 ?_
  refine sw_top (y := nI (4 * j + 1)) (nI_1 _) ?_
  refine sw_sld eL_x dL_law_636 (vp_n (show 4 * j + 1 < N by omega) hN) ?_
  refine sw_aload_nR dL_law_637 rfl ?_
  refine sw_iload dL_law_638 rfl ?_
  refine sw_iconst (x := 2) dL_law_640 (by decide) ?_
  refine sw_iadd dL_law_641 ?_
  refine sw_top (y := nI (4 * j + 2)) (ix_2 _) ?_
  refine sw_sld eL_x dL_law_642 (vp_n (show 4 * j + 2 < N by omega) hN) ?_
  refine sw_hp (gm_md hm) ?_
  refine sw_Vv dL_law_643 k_L_93 mf_X12_set (c_X12_set (d := d - 1) _ _) rfl ⟨_, rfl, rfl⟩ (by omega) (by omega) (by omega) rfl rfl (Nat.le_of_ble_eq_true rfl) ?_
  refine sw_hp gm_gd ?_
  refine sw_icmp_eq 757 dL_law_646 (by decide) (fun h646 => ?_) (fun h646 => ?_)
  · exact K cells slots n (md fm (va_up sm 0 0) (r_setA Am (xs (nI (4 * j + 1)).toNatClampNeg) (xs (nI (4 * j + 2)).toNatClampNeg))) _ _ _ _ _ (va_up sm 0 0) (r_setA Am (xs (nI (4 * j + 1)).toNatClampNeg) (xs (nI (4 * j + 2)).toNatClampNeg)) (by omega) (by omega) md_md (hg.imp fun g hg => (md_in _ (by omega)).trans hg) hn (li_x (Nat.le_refl n) (fun i h1 h2 => md_in _ (by omega)) ((li_set hI _ _).2))
  · exact absurd (congrArg bz (li_set hI (xs (nI (4 * j + 1)).toNatClampNeg) (xs (nI (4 * j + 2)).toNatClampNeg)).1) h646
set_option maxRecDepth 100000 in
theorem lc_get {l : Launch} {D : va_G} {cy : Nat → ClassId} {b N : Nat} {xs : Nat → Int32} {d mc ms cells slots j n : Nat} {Q : sw_Q} {QX : sw_QX} {fm : sw_F} {s : Nat → Int32} {A : Nat → Nat → Int32} {B : Nat → Nat → Int64} {o : Int64} {pr : Value} {sm : Nat → Int32} {Am : Nat → Nat → Int32} (hN : N ≤ 192) (hj : 4 * j + 4 ≤ N) (hd : 40 ≤ d) (hc : cells + 73 ≤ mc) (hs : slots + 438 ≤ ms) (hm : fm = md fm sm Am) (hg : ∃ g, fm 186 = .inl (1, 1, .inr (.inl g))) (hn : 187 ≤ n) (hI : LI n fm s A o pr sm Am) (K : LK l D cy b N xs d mc ms cells slots j Q QX) : SWr (eL b N xs) l D cy mL_law d mc ms cells slots 651 [(0, .retAddr b), (1, .ref 0), (2, .ref 150), (3, .ref 186), (4, .int (nI (4 * j)))] [] n (gd fm s A B o pr) Q QX := by
  obtain ⟨N0, C, T0, ⟨n1, n2, n3⟩, ⟨c1, c2, c3⟩, t1, t2, t3⟩ := li_n hI
  refine sw_aload_n dL_law_651 rfl (by first | rfl | assumption) ?_
  refine sw_aload_nR dL_law_652 rfl ?_
  refine sw_iload dL_law_653 rfl ?_
  refine sw_iconst (x := 1) dL_law_655 (by decide) ?_
  refine sw_iadd dL_law_656 ?_
  refine sw_top (y := nI (4 * j + 1)) (nI_1 _) ?_
  refine sw_sld eL_x dL_law_657 (vp_n (show 4 * j + 1 < N by omega) hN) ?_
  refine sw_Vv dL_law_658 k_L_94 mf_X11_get (c_X11_get (d := d - 1) (by omega) _) rfl ⟨_, rfl, rfl⟩ (by omega) (by omega) (by omega) rfl rfl (Nat.le_of_ble_eq_true rfl) ?_
  refine sw_aload_n dL_law_661 rfl (by first | rfl | assumption) ?_
  refine sw_aload_nR dL_law_662 rfl ?_
  refine sw_iload dL_law_663 rfl ?_
  refine sw_iconst (x := 1) dL_law_665 (by decide) ?_
  refine sw_iadd dL_law_666 ?_
  refine sw_top (y := nI (4 * j + 1)) (nI_1 _) ?_
  refine sw_sld eL_x dL_law_667 (vp_n (show 4 * j + 1 < N by omega) hN) ?_
  refine sw_hp (gm_md hm) ?_
  refine sw_Vv dL_law_668 k_L_97 mf_X12_get (c_X12_get (d := d - 1) _) rfl ⟨_, rfl, rfl⟩ (by omega) (by omega) (by omega) rfl rfl (Nat.le_of_ble_eq_true rfl) ?_
  refine sw_hp gm_gd ?_
  refine sw_icmp_eq 757 dL_law_671 (by decide) (fun h671 => ?_) (fun h671 => ?_)
  · exact K cells slots n (md fm (va_up sm 0 0) Am) _ _ _ _ _ (va_up sm 0 0) Am (by omega) (by omega) md_md (hg.imp fun g hg => (md_in _ (by omega)).trans hg) hn (li_x (Nat.le_refl n) (fun i h1 h2 => md_in _ (by omega)) (li_0 hI 0))
  · exact absurd (li_get hI _) h671
