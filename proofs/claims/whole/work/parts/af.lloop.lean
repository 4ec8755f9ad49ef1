/-! ===== THE LAW: its loop ===== -/
theorem and15 (x : Int32) : ∃ i, i < 16 ∧ x &&& 15 = nI i := by
  refine ⟨(x.toBitVec &&& 15#32).toNat, ?_, ?_⟩
  · rw [BitVec.toNat_and]
    exact Nat.lt_of_le_of_lt Nat.and_le_right (by decide)
  · apply Int32.toBitVec_inj.mp
    rw [Int32.toBitVec_and]
    show _ = BitVec.ofNat 32 _
    rw [BitVec.ofNat_toNat, BitVec.setWidth_eq]
    rfl
set_option maxRecDepth 100000 in
theorem law_lp {l : Launch} {D : va_G} {cy : Nat → ClassId} {b N : Nat} {xs : Nat → Int32} {d mc ms : Nat} {QX : sw_QX} (hl : l.stackTraces = false) (hN : N ≤ 192) (hd : 40 ≤ d) : ∀ (k j cells slots n : Nat) (fm : sw_F) (s : Nat → Int32) (A : Nat → Nat → Int32) (B : Nat → Nat → Int64) (o : Int64) (pr : Value) (sm : Nat → Int32) (Am : Nat → Nat → Int32), j ≤ 48 → N < 4 * j + 4 * k → cells + 73 * k ≤ mc → slots + 438 * k ≤ ms → fm = md fm sm Am → (∃ g, fm 186 = .inl (1, 1, .inr (.inl g))) → 187 ≤ n → LI n fm s A o pr sm Am → SWr (eL b N xs) l D cy mL_law d mc ms cells slots 23 [(0, .retAddr b), (1, .ref 0), (2, .ref 150), (3, .ref 186), (4, .int (nI (4 * j)))] [] n (gd fm s A B o pr) (fun r _ _ => r = some (.int 1)) QX := by
  intro k
  induction k with
  | zero =>
    intro j cells slots n fm s A B o pr sm Am hj hk hc hs hm hg hn hI
    refine sw_iload dL_law_23 rfl ?_
    refine sw_aload_nR dL_law_25 rfl ?_
    refine sw_slen eL_x dL_law_26 ?_
    refine sw_iconst (x := 4) dL_law_27 (by decide) ?_
    refine sw_isub dL_law_28 ?_
    refine sw_icmp_gt 763 dL_law_29 (by decide) (fun h29 => ?_) (fun h29 => ?_)
    · refine sw_iconst (x := 1) dL_law_763 (by decide) ?_
      exact sw_iret dL_law_764 rfl rfl (by omega) (by omega) rfl
    · exact absurd ((lp_cmp N (by omega) j (by omega)).mpr (by omega)) h29
  | succ k ih =>
    intro j cells slots n fm s A B o pr sm Am hj hk hc hs hm hg hn hI
    refine sw_iload dL_law_23 rfl ?_
    refine sw_aload_nR dL_law_25 rfl ?_
    refine sw_slen eL_x dL_law_26 ?_
    refine sw_iconst (x := 4) dL_law_27 (by decide) ?_
    refine sw_isub dL_law_28 ?_
    refine sw_icmp_gt 763 dL_law_29 (by decide) (fun h29 => ?_) (fun h29 => ?_)
    · refine sw_iconst (x := 1) dL_law_763 (by decide) ?_
      exact sw_iret dL_law_764 rfl rfl (by omega) (by omega) rfl
    have h4 : 4 * j + 4 ≤ N := Nat.le_of_not_lt (fun z => h29 ((lp_cmp N (by omega) j (by omega)).mpr z))
    have KK : LK l D cy b N xs d mc ms cells slots j (fun r _ _ => r = some (.int 1)) QX := by
      intro cells' slots' n' fm' s' A' B' o' pr' sm' Am' c1 c2 c3 c4 c5 c6
      refine sw_iinc [(0, _), (1, _), (2, _), (3, _), (4, _)] dL_law_757 rfl (by decide) rfl ?_
      refine sw_goto 23 dL_law_760 (by decide) ?_
      have q := ih (j + 1) cells' slots' n' fm' s' A' B' o' pr' sm' Am' (by omega) (by omega) (by omega) (by omega) c3 c4 c5 c6
      rw [show 4 * (j + 1) = 4 * j + 4 by omega, ← ix_4] at q
      exact q
    refine sw_aload_nR dL_law_32 rfl ?_
    refine sw_iload dL_law_33 rfl ?_
    refine sw_sld eL_x dL_law_35 (vp_n (show 4 * j < N by omega) hN) ?_
    refine sw_bipush (x := 15) dL_law_36 (by decide) ?_
    refine sw_iand dL_law_38 ?_
    obtain ⟨i, hi, ei⟩ := and15 (xs (nI (4 * j)).toNatClampNeg)
    refine sw_top ei ?_
    rcases (show i = 0 ∨ i = 1 ∨ i = 2 ∨ i = 3 ∨ i = 4 ∨ i = 5 ∨ i = 6 ∨ i = 7 ∨ i = 8 ∨ i = 9 ∨ i = 10 ∨ i = 11 ∨ i = 12 ∨ i = 13 ∨ i = 14 ∨ i = 15 by omega) with rfl | rfl | rfl | rfl | rfl | rfl | rfl | rfl | rfl | rfl | rfl | rfl | rfl | rfl | rfl | rfl
    · refine sw_tabIn 116 dL_law_39 (by decide) (by decide) rfl (by decide) ?_
      exact lc_levels hl hN (by omega) hd (by omega) (by omega) hm hg hn hI KK
    · refine sw_tabIn 223 dL_law_39 (by decide) (by decide) rfl (by decide) ?_
      exact lc_join hN (by omega) hd (by omega) (by omega) hm hg hn hI KK
    · refine sw_tabIn 260 dL_law_39 (by decide) (by decide) rfl (by decide) ?_
      exact lc_label hN (by omega) hd (by omega) (by omega) hm hg hn hI KK
    · refine sw_tabIn 309 dL_law_39 (by decide) (by decide) rfl (by decide) ?_
      exact lc_write hN (by omega) hd (by omega) (by omega) hm hg hn hI KK
    · refine sw_tabIn 366 dL_law_39 (by decide) (by decide) rfl (by decide) ?_
      exact lc_compile hl hN (by omega) hd (by omega) (by omega) hm hg hn hI KK
    · refine sw_tabIn 410 dL_law_39 (by decide) (by decide) rfl (by decide) ?_
      exact lc_position hN (by omega) hd (by omega) (by omega) hm hg hn hI KK
    · refine sw_tabIn 423 dL_law_39 (by decide) (by decide) rfl (by decide) ?_
      exact lc_exit hN (by omega) hd (by omega) (by omega) hm hg hn hI KK
    · refine sw_tabIn 448 dL_law_39 (by decide) (by decide) rfl (by decide) ?_
      exact lc_code hN (by omega) hd (by omega) (by omega) hm hg hn hI KK
    · refine sw_tabIn 485 dL_law_39 (by decide) (by decide) rfl (by decide) ?_
      exact lc_empty hN (by omega) hd (by omega) (by omega) hm hg hn hI KK
    · refine sw_tabIn 496 dL_law_39 (by decide) (by decide) rfl (by decide) ?_
      exact lc_put hN (by omega) hd (by omega) (by omega) hm hg hn hI KK
    · refine sw_tabIn 533 dL_law_39 (by decide) (by decide) rfl (by decide) ?_
      exact lc_verify hl hN (by omega) hd (by omega) (by omega) hm hg hn hI KK
    · refine sw_tabIn 577 dL_law_39 (by decide) (by decide) rfl (by decide) ?_
      exact lc_found hN (by omega) hd (by omega) (by omega) hm hg hn hI KK
    · refine sw_tabIn 614 dL_law_39 (by decide) (by decide) rfl (by decide) ?_
      exact lc_set hN (by omega) hd (by omega) (by omega) hm hg hn hI KK
    · refine sw_tabIn 651 dL_law_39 (by decide) (by decide) rfl (by decide) ?_
      exact lc_get hN (by omega) hd (by omega) (by omega) hm hg hn hI KK
    · refine sw_tabIn 676 dL_law_39 (by decide) (by decide) rfl (by decide) ?_
      exact lc_run hl hN (by omega) hd (by omega) (by omega) hm hg hn hI KK
    · refine sw_tabIn 732 dL_law_39 (by decide) (by decide) rfl (by decide) ?_
      by_cases hfw : fwO s (xs (nI (4 * j + 1)).toNatClampNeg)
      · exact lc_fol1 hN (by omega) hd (by omega) (by omega) hm hg hn hI KK hfw
      · exact lc_fol0 hN (by omega) hd (by omega) (by omega) hm hg hn hI KK hfw
