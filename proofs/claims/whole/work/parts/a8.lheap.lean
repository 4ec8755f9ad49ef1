/-! ===== THE LAW: the two sides in one heap ===== -/
section LAW8
variable {fm : sw_F} {s : Nat → Int32} {A : Nat → Nat → Int32} {B : Nat → Nat → Int64} {o : Int64} {pr : Value} {sm sm' : Nat → Int32} {Am Am' : Nat → Nat → Int32}
theorem md_in (f : sw_F) {i : Nat} (h : ¬ (150 ≤ i ∧ i ≤ 185)) : md f sm Am i = f i := by
  unfold md
  rw [if_neg (by omega), if_neg (by omega)]
theorem md_ag (f f' : sw_F) {i : Nat} (h : 150 ≤ i ∧ i ≤ 185) : md f sm Am i = md f' sm Am i := by
  unfold md
  by_cases c : i = 150
  · rw [if_pos c, if_pos c]
  · rw [if_neg c, if_neg c, if_pos (by omega), if_pos (by omega)]
theorem gd_lo (f f' : sw_F) {i : Nat} (h : i < 150) : gd f s A B o pr i = gd f' s A B o pr i := by
  unfold gd
  rw [if_neg (show ¬ 150 ≤ i by omega), if_neg (show ¬ 150 ≤ i by omega)]
theorem gm_gd : md (gd fm s A B o pr) sm Am = gd (md fm sm Am) s A B o pr := by
  funext i
  by_cases c : 150 ≤ i ∧ i ≤ 185
  · rw [gd_f _ _ _ _ _ _ c.1, md_ag _ fm c]
  · rw [md_in _ c]
    by_cases c2 : 150 ≤ i
    · rw [gd_f _ _ _ _ _ _ c2, gd_f _ _ _ _ _ _ c2, md_in _ c]
    · exact gd_lo _ _ (by omega)
theorem gm_md (hm : fm = md fm sm Am) : gd fm s A B o pr = md (gd fm s A B o pr) sm Am := by
  rw [gm_gd, ← hm]
theorem md_md : md fm sm' Am' = md (md fm sm' Am') sm' Am' := by
  funext i
  by_cases c : 150 ≤ i ∧ i ≤ 185
  · exact md_ag _ _ c
  · rw [md_in _ c, md_in _ c, md_in _ c]
theorem md_of {f2 : sw_F} {n : Nat} (hn : 187 ≤ n) (hm : fm = md fm sm Am) (h : ∀ i, i < n → f2 i = fm i) : f2 = md f2 sm Am := by
  funext i
  by_cases c : 150 ≤ i ∧ i ≤ 185
  · rw [h i (by omega), congrFun hm i]; exact md_ag _ _ c
  · rw [md_in _ c]
theorem md_u6 (hm : fm = md fm sm Am) (e : va_E) : va_up fm 186 e = md (va_up fm 186 e) sm Am := by
  funext i
  by_cases c : 150 ≤ i ∧ i ≤ 185
  · rw [vu_ne _ (by omega), congrFun hm i]; exact md_ag _ _ c
  · rw [md_in _ c]
end LAW8
section LAW9
variable {EE : sw_E} {l : Launch} {D : va_G} {cy : Nat → ClassId} {M : sw_MD} {d mc ms cells slots pc : Nat} {L : sw_L} {st : List Value} {n : Nat} {f f' : sw_F} {Q : sw_Q} {QX : sw_QX}
theorem sw_hp (h : f = f') (k : SWr EE l D cy M d mc ms cells slots pc L st n f' Q QX) : SWr EE l D cy M d mc ms cells slots pc L st n f Q QX := by
  subst h; exact k
end LAW9
/-- the script: N ints xs at the address b, and what throws ask for -/
def eL (b N : Nat) (xs : Nat → Int32) : sw_E := fun s A _ _ => sw_st A s ∧ va_X b N xs s s.heap ∧ b < s.heap.size ∧ ¬ A b
theorem eL_x {b N : Nat} {xs : Nat → Int32} : ∀ s A a c, eL b N xs s A a c → va_X b N xs s s.heap ∧ b < s.heap.size ∧ ¬ A b := fun _ _ _ _ h => h.2
theorem eL_s {b N : Nat} {xs : Nat → Int32} : ∀ s A a c, eL b N xs s A a c → sw_st A s := fun _ _ _ _ h => h.1
abbrev mL_law : sw_MD := (yL_law, cL_law, 7, some .boolean)
theorem nI_pl (a b : Nat) : nI a + nI b = nI (a + b) := by
  unfold nI
  exact (Int32.ofNat_add a b).symm
theorem ix_2 (a : Nat) : nI a + 2 = nI (a + 2) := by rw [nl_2, nI_pl]
theorem ix_3 (a : Nat) : nI a + 3 = nI (a + 3) := by rw [nl_3, nI_pl]
theorem ix_4 (a : Nat) : nI a + 4 = nI (a + 4) := by rw [nl_4, nI_pl]
theorem vp_n {i N : Nat} (h : i < N) (hN : N ≤ 192) : vp_in (nI i) N := by
  unfold vp_in
  rw [nI_clamp (by omega)]
  rintro (z | z)
  · exact i32_nlt0 (by omega) z
  · omega
theorem lp_cmp : ∀ N, N < 193 → ∀ j, j < 50 → (nI N - 4 < nI (4 * j) ↔ N < 4 * j + 4) := by decide +kernel
