/-! ===== THE LOGIC, 9: new int[n][m] ===== -/
theorem k_aoI : Cond.arrayOver (.array .int) ∈ sw_nest := sw_mN 166 (by decide +kernel) (by decide +kernel)
def mnF (n N K : Nat) (f : sw_F) : sw_F := fun i => if i < n then f i else if i = n then .inl (4, N, .inr (.inr (.inr (.inr (fun j => if j < N then some (n + 1 + j) else none))))) else .inl (0, K, .inl (fun _ => 0))
theorem mnF_lt {n N K i : Nat} (f : sw_F) (h : i < n) : mnF n N K f i = f i := if_pos h
theorem mnF_eq (n N K : Nat) (f : sw_F) : mnF n N K f n = .inl (4, N, .inr (.inr (.inr (.inr (fun j => if j < N then some (n + 1 + j) else none))))) := by
  unfold mnF
  rw [if_neg (Nat.lt_irrefl n), if_pos rfl]
theorem mnF_gt {n N K i : Nat} (f : sw_F) (h : n < i) : mnF n N K f i = .inl (0, K, .inl (fun _ => 0)) := by
  unfold mnF
  rw [if_neg (by omega), if_neg (by omega)]
section SWM
variable {EE : sw_E} {l : Launch} {D : va_G} {cy : Nat → ClassId} {M : sw_MD} {d mc ms cells slots pc : Nat} {L : sw_L} {st : List Value} {n : Nat} {f : sw_F} {Q : sw_Q} {QX : sw_QX}
theorem sw_mna {idx : Nat} {x y : Int32} (N K : Nat) (hd : decode M.2.1 pc = .ok (.multianewarray idx 2, 4)) (hk : Cond.classLink M.1.cls idx "[[I" ∈ sw_lwg) (hx : ¬ x < 0) (hy : ¬ y < 0) (hN : x.toNatClampNeg = N) (hM : y.toNatClampNeg = K) (hb1 : N ≤ 1000) (hb2 : K ≤ 1000) (hc : cells + (1 + N) ≤ mc) (hs : slots + (N + N * K) ≤ ms) (kk : SWr EE l D cy M d mc ms (cells + 1 + N) (slots + N + N * K) (pc + 4) L (.ref n :: st) (n + 1 + N) (mnF n N K f) Q QX) : SWr EE l D cy M d mc ms cells slots pc L (.int y :: .int x :: st) n f Q QX := by
  intro p e R s m args below meth c F A hA hEE u0 n0 u hn hu H locs hat hst hL ls hl Z hZ
  have hK := F.2.2.2.2.2.2.2.1
  have e2 : s.vm.findClass (FieldType.array .int).toString = some (cy 0) := (hK.2 0 _ rfl).2
  have e3 : s.vm.findClass ("[" ++ (FieldType.array .int).toString) = some (cy 4) := (hK.2 4 _ rfl).2
  have hP0 : va_P D sw_cls (sw_w u cy n f ++ va_pl [] (fun _ => .inr (0, []))) H := by rw [show va_pl [] (fun _ => (.inr (0, []) : va_E)) = [] from rfl, List.append_nil]; exact hat.1
  have hD0 : va_D A (sw_w u cy n f ++ va_pl [] (fun _ => .inr (0, []))) := by rw [show va_pl [] (fun _ => (.inr (0, []) : va_E)) = [] from rfl, List.append_nil]; exact hat.2.1
  refine va_mna (D := D) (cl := sw_cls) (X := sw_w u cy n f) (L := []) (f := fun _ => .inr (0, [])) (A := A) (ty := .int) (z := (K, .inl (fun _ => 0))) F.1 F.2.1 F.2.2.2.2.1 (F.2.2.2.2.2.1 _ hk) (F.2.2.2.2.2.2.1 _ k_aoI) (F.2.2.2.2.2.1 _ k_arr_int) e2 hK hP0 hD0 hat.2.2.1 hA hx hy hN hM (by omega) (by simp only [componentBytes]; omega) (by omega) rfl rfl (by rw [F.2.2.2.2.2.2.2.2.2.2.1]; exact hc) (by rw [F.2.2.2.2.2.2.2.2.2.2.2.1]; exact hs) (fun c => by show ({ cls := c, slots := Array.replicate K (Value.int 0), vm := .none } : Cell) = _; rw [arrV_new]; rfl) hd (fun q r cA H1 hinj hnm hK2 hP hD hS => ?_)
  have e1 : s.vm.findClass ("[" ++ (FieldType.array .int).toString) = some cA := (hK2.2 5 _ rfl).2
  cases Option.some.inj (e1.symm.trans e3)
  let u' : Nat → Nat := fun i => if i < n then u i else if i = n then q else r (i - (n + 1))
  have hext : ∀ i, i < n → u' i = u i := fun i hi => if_pos hi
  have hun : u' n = q := by show (if n < n then _ else if n = n then _ else _) = _; rw [if_neg (Nat.lt_irrefl n), if_pos rfl]
  have hur : ∀ j, u' (n + 1 + j) = r j := fun j => by show (if n + 1 + j < n then _ else if n + 1 + j = n then _ else _) = _; rw [if_neg (by omega), if_neg (by omega), show n + 1 + j - (n + 1) = j by omega]
  have hnew : ∀ i, i < n + 1 + N → sw_ce (n + 1 + N) (mnF n N K f i) := fun i hi => by
    by_cases h1 : i < n
    · rw [mnF_lt f h1]; exact sw_ce_mono (by omega) (hat.2.2.2 i h1)
    · by_cases h2 : i = n
      · rw [h2, mnF_eq]
        intro k9 f9 h9 j b hj
        cases h9
        have hj : (if j < N then some (n + 1 + j) else none) = some b := hj
        split at hj
        · cases hj; omega
        · cases hj
      · rw [mnF_gt f (by omega)]
        intro k9 f9 h9
        cases h9
  have hw : (sw_w u cy n f ++ [(q, .inl (cy 4, N, .inr (.inr (.inr (.inr (fun i => if i < N then some (r i) else none))))))]) ++ va_pl ([] ++ (List.range N).map r) (vr_up (fun _ => .inr (0, [])) ((List.range N).map r) (.inl (cy 0, K, .inl (fun _ => 0)))) = sw_w u' cy (n + 1 + N) (mnF n N K f) := by
    apply List.ext_getElem?
    intro j
    have hl1 : (sw_w u cy n f ++ [(q, (.inl (cy 4, N, .inr (.inr (.inr (.inr (fun i => if i < N then some (r i) else none))))) : va_E))]).length = n + 1 := by rw [List.length_append, sw_w_len]; rfl
    by_cases h1 : j < n
    · rw [List.getElem?_append_left (by rw [hl1]; omega), List.getElem?_append_left (by rw [sw_w_len]; exact h1), sw_w_get h1, sw_w_get (by omega), mnF_lt f h1, hext j h1, sw_e_ext hext (hat.2.2.2 j h1)]
    · by_cases h2 : j = n
      · subst h2
        rw [List.getElem?_append_left (by rw [hl1]; omega), List.getElem?_append_right (by rw [sw_w_len]; exact Nat.le_refl _), sw_w_len, Nat.sub_self, sw_w_get (by omega), mnF_eq, hun]
        refine congrArg some (congrArg (Prod.mk q) ?_)
        show _ = Sum.inl (cy 4, N, Sum.inr (Sum.inr (Sum.inr (Sum.inr (fun i => (if i < N then some (j + 1 + i) else none : Option Nat).map u')))))
        have he : (fun i => if i < N then some (r i) else none) = fun i => (if i < N then some (j + 1 + i) else none : Option Nat).map u' := by
          funext i
          by_cases c : i < N
          · rw [if_pos c, if_pos c]; exact congrArg some (hur i).symm
          · rw [if_neg c, if_neg c]; rfl
        rw [he]
      · rw [List.getElem?_append_right (by rw [hl1]; omega), hl1]
        by_cases h3 : j < n + 1 + N
        · obtain ⟨i, rfl⟩ : ∃ i, j = n + 1 + i := ⟨j - (n + 1), by omega⟩
          have hi : i < N := by omega
          rw [sw_w_get h3, mnF_gt f (by omega), hur, show n + 1 + i - (n + 1) = i by omega]
          show (((List.range N).map r).map _)[i]? = _
          rw [List.getElem?_map, List.getElem?_map, List.getElem?_range hi]
          show some (r i, vr_up _ _ _ (r i)) = _
          rw [vr_up_in (List.mem_map.mpr ⟨i, List.mem_range.mpr hi, rfl⟩)]
          rfl
        · rw [sw_w_none (by omega)]
          show (((List.range N).map r).map _)[j - (n + 1)]? = _
          rw [List.getElem?_eq_none_iff, List.length_map, List.length_map, List.length_range]
          omega
  rw [hw] at hP hD
  have K9 := kk p e R s m args below meth c F A hA hEE u0 n0 u' (by omega) (fun i hi => (hext i (Nat.lt_of_lt_of_le hi hn)).trans (hu i hi)) H1 locs ⟨hP, hD, hS, hnew⟩
    (sw_cc (w := .ref n) (show n < n + 1 + N by omega) (fun v hv => sw_c_mono (by omega) (sw_ct (sw_ct hst) v hv))) (fun q hq => sw_c_mono (by omega) (hL q hq)) ls (by rw [sw_mapL_ext hext hL]; exact hl) Z hZ
  have hst' : (Value.ref n :: st).map (sw_v u') = .ref q :: st.map (sw_v u) := by
    show Value.ref (u' n) :: _ = _
    rw [hun, sw_map_ext hext (sw_ct (sw_ct hst))]
  rw [hst'] at K9
  exact K9
end SWM
/-! ===== THE CLASS: the constructors of its parts ===== -/
theorem k_mna_X7 : Cond.classLink RX7 15 "[[I" ∈ sw_lwg := sw_m 165 (by decide +kernel) (by decide +kernel)
theorem k_mna_X1 : Cond.classLink RX1 11 "[[I" ∈ sw_lwg := sw_m 280 (by decide +kernel) (by decide +kernel)
def s0Z : Nat → Int32 := fun i => if i = 1 then -1 else if i = 4 then 1 else if i = 9 then -1 else 0
def gZ : sw_F := gd (fun _ => .inr (0, [])) s0Z (fun _ _ => 0) (fun _ _ => 0) 1 .null
def ZQ (a b : Nat) (f : sw_F) : sw_Q := fun r n' f' => r = none ∧ n' = b ∧ (∀ i, i < a → f' i = f i) ∧ ∀ i, a ≤ i → i < b → f' i = gZ i
theorem fr_up {f g : sw_F} {a p : Nat} {e : va_E} (h : ∀ i, i < a → g i = f i) (hp : a ≤ p) : ∀ i, i < a → va_up g p e i = f i := fun i hi => (vu_ne _ (by omega) _).trans (h i hi)
theorem fr_mn {f g : sw_F} {a p N K : Nat} (h : ∀ i, i < a → g i = f i) (hp : a ≤ p) : ∀ i, i < a → mnF p N K g i = f i := fun i hi => (mnF_lt g (by omega)).trans (h i hi)
theorem fr_tr {f g k : sw_F} {a b : Nat} (h2 : ∀ i, i < b → k i = g i) (h : ∀ i, i < a → g i = f i) (hp : a ≤ b) : ∀ i, i < a → k i = f i := fun i hi => (h2 i (by omega)).trans (h i hi)
theorem gq_row : ∀ k, k < 100 → gq (45 + k) = 0 ∧ gt (45 + k) = 0 ∧ gl (45 + k) = 17 := by decide
theorem gZ_row {i : Nat} (h1 : 45 ≤ i) (h2 : i < 145) : gZ i = .inl (0, 17, .inl (fun _ => 0)) := by
  obtain ⟨k, rfl⟩ : ∃ k, i = 45 + k := ⟨i - 45, by omega⟩
  obtain ⟨e1, e2, e3⟩ := gq_row k (by omega)
  show gd _ _ _ _ _ _ _ = _
  rw [gd_0 _ _ _ _ _ _ (by omega) e1, e2, e3]
set_option maxRecDepth 100000 in
theorem c_X3_init {l : Launch} {D : va_G} {cy : Nat → ClassId} {d : Nat} {f : sw_F} (hd : 2 ≤ d) (h : f 1 = .inr (3, [.null, .int 0, .long 0, .int 0, .int 0])) : sw_Ct l D cy mX3_init d 1 36 [.ref 1] 2 f (ZQ 1 3 f) := by
  refine sw_of rfl (Nat.le_of_ble_eq_true rfl) ?_
  show SW l D cy mX3_init d 1 36 0 0 0 [(0, .ref 1)] [] 2 f _ _
  refine sw_aload_n dX3_init_0 rfl (by first | rfl | assumption) ?_
  refine sw_obj dX3_init_1 k_X3_3 k_obj2 k_obj3 (by omega) (Nat.le_of_ble_eq_true rfl) ?_
  refine sw_aload_n dX3_init_4 rfl (by first | rfl | assumption) ?_
  refine sw_bipush (x := 36) dX3_init_5 (by decide) ?_
  refine sw_newI 36 dX3_init_7 k_arr_int (by decide) (by decide) (by decide) (by omega) (by omega) ?_
  refine sw_putF dX3_init_9 fl_X3_9 rfl (by first | exact h | rfl) (by decide) (sw_fit_ar rfl) ?_
  refine sw_aload_n dX3_init_12 rfl (by first | rfl | assumption) ?_
  refine sw_iconst (x := 1) dX3_init_13 (by decide) ?_
  refine sw_put dX3_init_14 fl_X3_15 (by first | exact h | rfl) (by decide) (sw_fit_i _) ?_
  refine sw_aload_n dX3_init_17 rfl (by first | rfl | assumption) ?_
  refine sw_lconst (x := 1) dX3_init_18 (by decide) ?_
  refine sw_put dX3_init_19 fl_X3_19 (by first | exact h | rfl) (by decide) (sw_fit_l _) ?_
  refine sw_aload_n dX3_init_22 rfl (by first | rfl | assumption) ?_
  refine sw_iconst (x := 0) dX3_init_23 (by decide) ?_
  refine sw_put dX3_init_24 fl_X3_23 (by first | exact h | rfl) (by decide) (sw_fit_i _) ?_
  refine sw_aload_n dX3_init_27 rfl (by first | rfl | assumption) ?_
  refine sw_iconst (x := 0) dX3_init_28 (by decide) ?_
  refine sw_put dX3_init_29 fl_X3_26 (by first | exact h | rfl) (by decide) (sw_fit_i _) ?_
  exact sw_vret dX3_init_32 rfl (by omega) (by omega) ⟨rfl, rfl, (by repeat (first | exact fun _ _ => rfl | refine fr_up ?_ (by omega) | refine fr_mn ?_ (by omega))), fun i h1 h2 => by rcases (show i = 1 ∨ i = 2 by omega) with rfl | rfl <;> rfl⟩
set_option maxRecDepth 100000 in
theorem c_X8_init {l : Launch} {D : va_G} {cy : Nat → ClassId} {d : Nat} {f : sw_F} (hd : 2 ≤ d) (h : f 6 = .inr (8, [.null, .int 0, .int 0, .int 0])) : sw_Ct l D cy mX8_init d 1 72 [.ref 6] 7 f (ZQ 6 8 f) := by
  refine sw_of rfl (Nat.le_of_ble_eq_true rfl) ?_
  show SW l D cy mX8_init d 1 72 0 0 0 [(0, .ref 6)] [] 7 f _ _
  refine sw_aload_n dX8_init_0 rfl (by first | rfl | assumption) ?_
  refine sw_obj dX8_init_1 k_X8_3 k_obj2 k_obj3 (by omega) (Nat.le_of_ble_eq_true rfl) ?_
  refine sw_aload_n dX8_init_4 rfl (by first | rfl | assumption) ?_
  refine sw_bipush (x := 72) dX8_init_5 (by decide) ?_
  refine sw_newI 72 dX8_init_7 k_arr_int (by decide) (by decide) (by decide) (by omega) (by omega) ?_
  refine sw_putF dX8_init_9 fl_X8_9 rfl (by first | exact h | rfl) (by decide) (sw_fit_ar rfl) ?_
  refine sw_aload_n dX8_init_12 rfl (by first | rfl | assumption) ?_
  refine sw_iconst (x := 0) dX8_init_13 (by decide) ?_
  refine sw_put dX8_init_14 fl_X8_15 (by first | exact h | rfl) (by decide) (sw_fit_i _) ?_
  refine sw_aload_n dX8_init_17 rfl (by first | rfl | assumption) ?_
  refine sw_iconst (x := 0) dX8_init_18 (by decide) ?_
  refine sw_put dX8_init_19 fl_X8_19 (by first | exact h | rfl) (by decide) (sw_fit_i _) ?_
  refine sw_aload_n dX8_init_22 rfl (by first | rfl | assumption) ?_
  refine sw_iconst (x := (-1)) dX8_init_23 (by decide) ?_
  refine sw_put dX8_init_24 fl_X8_22 (by first | exact h | rfl) (by decide) (sw_fit_i _) ?_
  exact sw_vret dX8_init_27 rfl (by omega) (by omega) ⟨rfl, rfl, (by repeat (first | exact fun _ _ => rfl | refine fr_up ?_ (by omega) | refine fr_mn ?_ (by omega))), fun i h1 h2 => by rcases (show i = 6 ∨ i = 7 by omega) with rfl | rfl <;> rfl⟩
set_option maxRecDepth 100000 in
theorem c_X7_init {l : Launch} {D : va_G} {cy : Nat → ClassId} {d : Nat} {f : sw_F} (hd : 2 ≤ d) (h : f 8 = .inr (7, [.null, .null, .null, .null])) : sw_Ct l D cy mX7_init d 17 134 [.ref 8, .ref 1] 9 f (ZQ 8 26 f) := by
  refine sw_of rfl (Nat.le_of_ble_eq_true rfl) ?_
  show SW l D cy mX7_init d 17 134 0 0 0 [(0, .ref 8), (1, .ref 1)] [] 9 f _ _
  refine sw_aload_n dX7_init_0 rfl (by first | rfl | assumption) ?_
  refine sw_obj dX7_init_1 k_X7_3 k_obj2 k_obj3 (by omega) (Nat.le_of_ble_eq_true rfl) ?_
  refine sw_aload_n dX7_init_4 rfl (by first | rfl | assumption) ?_
  refine sw_bipush (x := 8) dX7_init_5 (by decide) ?_
  refine sw_newI 8 dX7_init_7 k_arr_int (by decide) (by decide) (by decide) (by omega) (by omega) ?_
  refine sw_putF dX7_init_9 fl_X7_9 rfl (by first | exact h | rfl) (by decide) (sw_fit_ar rfl) ?_
  refine sw_aload_n dX7_init_12 rfl (by first | rfl | assumption) ?_
  refine sw_bipush (x := 7) dX7_init_13 (by decide) ?_
  refine sw_bipush (x := 8) dX7_init_15 (by decide) ?_
  refine sw_mna 7 8 dX7_init_17 k_mna_X7 (by decide) (by decide) (by decide) (by decide) (by decide) (by decide) (by omega) (by omega) ?_
  refine sw_putF dX7_init_21 fl_X7_17 rfl (by first | exact h | rfl) (by decide) (sw_fit_ar rfl) ?_
  refine sw_aload_n dX7_init_24 rfl (by first | rfl | assumption) ?_
  refine sw_bipush (x := 7) dX7_init_25 (by decide) ?_
  refine sw_bipush (x := 8) dX7_init_27 (by decide) ?_
  refine sw_mna 7 8 dX7_init_29 k_mna_X7 (by decide) (by decide) (by decide) (by decide) (by decide) (by decide) (by omega) (by omega) ?_
  refine sw_putF dX7_init_33 fl_X7_20 rfl (by first | exact h | rfl) (by decide) (sw_fit_ar rfl) ?_
  refine sw_aload_n dX7_init_36 rfl (by first | rfl | assumption) ?_
  refine sw_aload_n dX7_init_37 rfl (by first | rfl | assumption) ?_
  refine sw_putF dX7_init_38 fl_X7_23 rfl (by first | exact h | rfl) (by decide) (sw_fit_or (by first | rfl | assumption)) ?_
  exact sw_vret dX7_init_41 rfl (by omega) (by omega) ⟨rfl, rfl, (by repeat (first | exact fun _ _ => rfl | refine fr_up ?_ (by omega) | refine fr_mn ?_ (by omega))), fun i h1 h2 => by rcases (show i = 8 ∨ i = 9 ∨ i = 10 ∨ i = 11 ∨ i = 12 ∨ i = 13 ∨ i = 14 ∨ i = 15 ∨ i = 16 ∨ i = 17 ∨ i = 18 ∨ i = 19 ∨ i = 20 ∨ i = 21 ∨ i = 22 ∨ i = 23 ∨ i = 24 ∨ i = 25 by omega) with rfl | rfl | rfl | rfl | rfl | rfl | rfl | rfl | rfl | rfl | rfl | rfl | rfl | rfl | rfl | rfl | rfl | rfl <;> rfl⟩
set_option maxRecDepth 100000 in
theorem c_X2_init {l : Launch} {D : va_G} {cy : Nat → ClassId} {d : Nat} {f : sw_F} (hd : 2 ≤ d) (h : f 26 = .inr (2, [.null, .int 0, .int 0])) : sw_Ct l D cy mX2_init d 1 8 [.ref 26] 27 f (ZQ 26 28 f) := by
  refine sw_of rfl (Nat.le_of_ble_eq_true rfl) ?_
  show SW l D cy mX2_init d 1 8 0 0 0 [(0, .ref 26)] [] 27 f _ _
  refine sw_aload_n dX2_init_0 rfl (by first | rfl | assumption) ?_
  refine sw_obj dX2_init_1 k_X2_3 k_obj2 k_obj3 (by omega) (Nat.le_of_ble_eq_true rfl) ?_
  refine sw_aload_n dX2_init_4 rfl (by first | rfl | assumption) ?_
  refine sw_bipush (x := 8) dX2_init_5 (by decide) ?_
  refine sw_newI 8 dX2_init_7 k_arr_int (by decide) (by decide) (by decide) (by omega) (by omega) ?_
  refine sw_putF dX2_init_9 fl_X2_9 rfl (by first | exact h | rfl) (by decide) (sw_fit_ar rfl) ?_
  refine sw_aload_n dX2_init_12 rfl (by first | rfl | assumption) ?_
  refine sw_iconst (x := 0) dX2_init_13 (by decide) ?_
  refine sw_put dX2_init_14 fl_X2_15 (by first | exact h | rfl) (by decide) (sw_fit_i _) ?_
  refine sw_aload_n dX2_init_17 rfl (by first | rfl | assumption) ?_
  refine sw_iconst (x := 0) dX2_init_18 (by decide) ?_
  refine sw_put dX2_init_19 fl_X2_19 (by first | exact h | rfl) (by decide) (sw_fit_i _) ?_
  exact sw_vret dX2_init_22 rfl (by omega) (by omega) ⟨rfl, rfl, (by repeat (first | exact fun _ _ => rfl | refine fr_up ?_ (by omega) | refine fr_mn ?_ (by omega))), fun i h1 h2 => by rcases (show i = 26 ∨ i = 27 by omega) with rfl | rfl <;> rfl⟩
set_option maxRecDepth 100000 in
theorem c_X0_init {l : Launch} {D : va_G} {cy : Nat → ClassId} {d : Nat} {f : sw_F} (hd : 2 ≤ d) (h : f 28 = .inr (0, [.null, .null, .int 0])) : sw_Ct l D cy mX0_init d 2 200 [.ref 28] 29 f (ZQ 28 31 f) := by
  refine sw_of rfl (Nat.le_of_ble_eq_true rfl) ?_
  show SW l D cy mX0_init d 2 200 0 0 0 [(0, .ref 28)] [] 29 f _ _
  refine sw_aload_n dX0_init_0 rfl (by first | rfl | assumption) ?_
  refine sw_obj dX0_init_1 k_X0_3 k_obj2 k_obj3 (by omega) (Nat.le_of_ble_eq_true rfl) ?_
  refine sw_aload_n dX0_init_4 rfl (by first | rfl | assumption) ?_
  refine sw_bipush (x := 100) dX0_init_5 (by decide) ?_
  refine sw_newI 100 dX0_init_7 k_arr_int (by decide) (by decide) (by decide) (by omega) (by omega) ?_
  refine sw_putF dX0_init_9 fl_X0_9 rfl (by first | exact h | rfl) (by decide) (sw_fit_ar rfl) ?_
  refine sw_aload_n dX0_init_12 rfl (by first | rfl | assumption) ?_
  refine sw_bipush (x := 100) dX0_init_13 (by decide) ?_
  refine sw_newI 100 dX0_init_15 k_arr_int (by decide) (by decide) (by decide) (by omega) (by omega) ?_
  refine sw_putF dX0_init_17 fl_X0_15 rfl (by first | exact h | rfl) (by decide) (sw_fit_ar rfl) ?_
  refine sw_aload_n dX0_init_20 rfl (by first | rfl | assumption) ?_
  refine sw_iconst (x := 0) dX0_init_21 (by decide) ?_
  refine sw_put dX0_init_22 fl_X0_18 (by first | exact h | rfl) (by decide) (sw_fit_i _) ?_
  exact sw_vret dX0_init_25 rfl (by omega) (by omega) ⟨rfl, rfl, (by repeat (first | exact fun _ _ => rfl | refine fr_up ?_ (by omega) | refine fr_mn ?_ (by omega))), fun i h1 h2 => by rcases (show i = 28 ∨ i = 29 ∨ i = 30 by omega) with rfl | rfl | rfl <;> rfl⟩
set_option maxRecDepth 100000 in
theorem c_X10_init {l : Launch} {D : va_G} {cy : Nat → ClassId} {d : Nat} {f : sw_F} (hd : 2 ≤ d) (h : f 31 = .inr (10, [.null, .null, .null, .null, .int 0])) : sw_Ct l D cy mX10_init d 3 300 [.ref 31, .ref 28] 32 f (ZQ 31 35 f) := by
  refine sw_of rfl (Nat.le_of_ble_eq_true rfl) ?_
  show SW l D cy mX10_init d 3 300 0 0 0 [(0, .ref 31), (1, .ref 28)] [] 32 f _ _
  refine sw_aload_n dX10_init_0 rfl (by first | rfl | assumption) ?_
  refine sw_obj dX10_init_1 k_X10_3 k_obj2 k_obj3 (by omega) (Nat.le_of_ble_eq_true rfl) ?_
  refine sw_aload_n dX10_init_4 rfl (by first | rfl | assumption) ?_
  refine sw_bipush (x := 100) dX10_init_5 (by decide) ?_
  refine sw_newI 100 dX10_init_7 k_arr_int (by decide) (by decide) (by decide) (by omega) (by omega) ?_
  refine sw_putF dX10_init_9 fl_X10_9 rfl (by first | exact h | rfl) (by decide) (sw_fit_ar rfl) ?_
  refine sw_aload_n dX10_init_12 rfl (by first | rfl | assumption) ?_
  refine sw_bipush (x := 100) dX10_init_13 (by decide) ?_
  refine sw_newI 100 dX10_init_15 k_arr_int (by decide) (by decide) (by decide) (by omega) (by omega) ?_
  refine sw_putF dX10_init_17 fl_X10_15 rfl (by first | exact h | rfl) (by decide) (sw_fit_ar rfl) ?_
  refine sw_aload_n dX10_init_20 rfl (by first | rfl | assumption) ?_
  refine sw_bipush (x := 100) dX10_init_21 (by decide) ?_
  refine sw_newZ 100 dX10_init_23 k_arr_boolean (by decide) (by decide) (by decide) (by omega) (by omega) ?_
  refine sw_putF dX10_init_25 fl_X10_18 rfl (by first | exact h | rfl) (by decide) (sw_fit_ar rfl) ?_
  refine sw_aload_n dX10_init_28 rfl (by first | rfl | assumption) ?_
  refine sw_iconst (x := 0) dX10_init_29 (by decide) ?_
  refine sw_put dX10_init_30 fl_X10_22 (by first | exact h | rfl) (by decide) (sw_fit_i _) ?_
  refine sw_aload_n dX10_init_33 rfl (by first | rfl | assumption) ?_
  refine sw_aload_n dX10_init_34 rfl (by first | rfl | assumption) ?_
  refine sw_putF dX10_init_35 fl_X10_26 rfl (by first | exact h | rfl) (by decide) (sw_fit_or (by first | rfl | assumption)) ?_
  exact sw_vret dX10_init_38 rfl (by omega) (by omega) ⟨rfl, rfl, (by repeat (first | exact fun _ _ => rfl | refine fr_up ?_ (by omega) | refine fr_mn ?_ (by omega))), fun i h1 h2 => by rcases (show i = 31 ∨ i = 32 ∨ i = 33 ∨ i = 34 by omega) with rfl | rfl | rfl | rfl <;> rfl⟩
set_option maxRecDepth 100000 in
theorem c_X5_init36 {l : Launch} {D : va_G} {cy : Nat → ClassId} {d : Nat} {f : sw_F} (hd : 2 ≤ d) (h : f 36 = .inr (5, [.null, .null])) : sw_Ct l D cy mX5_init d 2 200 [.ref 36] 37 f (ZQ 36 39 f) := by
  refine sw_of rfl (Nat.le_of_ble_eq_true rfl) ?_
  show SW l D cy mX5_init d 2 200 0 0 0 [(0, .ref 36)] [] 37 f _ _
  refine sw_aload_n dX5_init_0 rfl (by first | rfl | assumption) ?_
  refine sw_obj dX5_init_1 k_X5_3 k_obj2 k_obj3 (by omega) (Nat.le_of_ble_eq_true rfl) ?_
  refine sw_aload_n dX5_init_4 rfl (by first | rfl | assumption) ?_
  refine sw_bipush (x := 100) dX5_init_5 (by decide) ?_
  refine sw_newJ 100 dX5_init_7 k_arr_long (by decide) (by decide) (by decide) (by omega) (by omega) ?_
  refine sw_putF dX5_init_9 fl_X5_9 rfl (by first | exact h | rfl) (by decide) (sw_fit_ar rfl) ?_
  refine sw_aload_n dX5_init_12 rfl (by first | rfl | assumption) ?_
  refine sw_bipush (x := 100) dX5_init_13 (by decide) ?_
  refine sw_newJ 100 dX5_init_15 k_arr_long (by decide) (by decide) (by decide) (by omega) (by omega) ?_
  refine sw_putF dX5_init_17 fl_X5_15 rfl (by first | exact h | rfl) (by decide) (sw_fit_ar rfl) ?_
  exact sw_vret dX5_init_20 rfl (by omega) (by omega) ⟨rfl, rfl, (by repeat (first | exact fun _ _ => rfl | refine fr_up ?_ (by omega) | refine fr_mn ?_ (by omega))), fun i h1 h2 => by rcases (show i = 36 ∨ i = 37 ∨ i = 38 by omega) with rfl | rfl | rfl <;> rfl⟩
set_option maxRecDepth 100000 in
theorem c_X5_init39 {l : Launch} {D : va_G} {cy : Nat → ClassId} {d : Nat} {f : sw_F} (hd : 2 ≤ d) (h : f 39 = .inr (5, [.null, .null])) : sw_Ct l D cy mX5_init d 2 200 [.ref 39] 40 f (ZQ 39 42 f) := by
  refine sw_of rfl (Nat.le_of_ble_eq_true rfl) ?_
  show SW l D cy mX5_init d 2 200 0 0 0 [(0, .ref 39)] [] 40 f _ _
  refine sw_aload_n dX5_init_0 rfl (by first | rfl | assumption) ?_
  refine sw_obj dX5_init_1 k_X5_3 k_obj2 k_obj3 (by omega) (Nat.le_of_ble_eq_true rfl) ?_
  refine sw_aload_n dX5_init_4 rfl (by first | rfl | assumption) ?_
  refine sw_bipush (x := 100) dX5_init_5 (by decide) ?_
  refine sw_newJ 100 dX5_init_7 k_arr_long (by decide) (by decide) (by decide) (by omega) (by omega) ?_
  refine sw_putF dX5_init_9 fl_X5_9 rfl (by first | exact h | rfl) (by decide) (sw_fit_ar rfl) ?_
  refine sw_aload_n dX5_init_12 rfl (by first | rfl | assumption) ?_
  refine sw_bipush (x := 100) dX5_init_13 (by decide) ?_
  refine sw_newJ 100 dX5_init_15 k_arr_long (by decide) (by decide) (by decide) (by omega) (by omega) ?_
  refine sw_putF dX5_init_17 fl_X5_15 rfl (by first | exact h | rfl) (by decide) (sw_fit_ar rfl) ?_
  exact sw_vret dX5_init_20 rfl (by omega) (by omega) ⟨rfl, rfl, (by repeat (first | exact fun _ _ => rfl | refine fr_up ?_ (by omega) | refine fr_mn ?_ (by omega))), fun i h1 h2 => by rcases (show i = 39 ∨ i = 40 ∨ i = 41 by omega) with rfl | rfl | rfl <;> rfl⟩
set_option maxRecDepth 100000 in
theorem c_X4_init {l : Launch} {D : va_G} {cy : Nat → ClassId} {d : Nat} {f : sw_F} (hd : 2 ≤ d) (h : f 147 = .inr (4, [.null, .null, .null, .int 0])) : sw_Ct l D cy mX4_init d 2 16 [.ref 147, .ref 28] 148 f (ZQ 147 150 f) := by
  refine sw_of rfl (Nat.le_of_ble_eq_true rfl) ?_
  show SW l D cy mX4_init d 2 16 0 0 0 [(0, .ref 147), (1, .ref 28)] [] 148 f _ _
  refine sw_aload_n dX4_init_0 rfl (by first | rfl | assumption) ?_
  refine sw_obj dX4_init_1 k_X4_3 k_obj2 k_obj3 (by omega) (Nat.le_of_ble_eq_true rfl) ?_
  refine sw_aload_n dX4_init_4 rfl (by first | rfl | assumption) ?_
  refine sw_bipush (x := 8) dX4_init_5 (by decide) ?_
  refine sw_newI 8 dX4_init_7 k_arr_int (by decide) (by decide) (by decide) (by omega) (by omega) ?_
  refine sw_putF dX4_init_9 fl_X4_9 rfl (by first | exact h | rfl) (by decide) (sw_fit_ar rfl) ?_
  refine sw_aload_n dX4_init_12 rfl (by first | rfl | assumption) ?_
  refine sw_bipush (x := 8) dX4_init_13 (by decide) ?_
  refine sw_newI 8 dX4_init_15 k_arr_int (by decide) (by decide) (by decide) (by omega) (by omega) ?_
  refine sw_putF dX4_init_17 fl_X4_15 rfl (by first | exact h | rfl) (by decide) (sw_fit_ar rfl) ?_
  refine sw_aload_n dX4_init_20 rfl (by first | rfl | assumption) ?_
  refine sw_iconst (x := 0) dX4_init_21 (by decide) ?_
  refine sw_put dX4_init_22 fl_X4_18 (by first | exact h | rfl) (by decide) (sw_fit_i _) ?_
  refine sw_aload_n dX4_init_25 rfl (by first | rfl | assumption) ?_
  refine sw_aload_n dX4_init_26 rfl (by first | rfl | assumption) ?_
  refine sw_putF dX4_init_27 fl_X4_22 rfl (by first | exact h | rfl) (by decide) (sw_fit_or (by first | rfl | assumption)) ?_
  exact sw_vret dX4_init_30 rfl (by omega) (by omega) ⟨rfl, rfl, (by repeat (first | exact fun _ _ => rfl | refine fr_up ?_ (by omega) | refine fr_mn ?_ (by omega))), fun i h1 h2 => by rcases (show i = 147 ∨ i = 148 ∨ i = 149 by omega) with rfl | rfl | rfl <;> rfl⟩
set_option maxRecDepth 100000 in
theorem c_X1_init {l : Launch} {D : va_G} {cy : Nat → ClassId} {d : Nat} {f : sw_F} (hd : 2 ≤ d) (h : f 43 = .inr (1, [.null, .null, .null, .null, .null, .null, .null])) : sw_Ct l D cy mX1_init d 103 1917 [.ref 43, .ref 28, .ref 31, .ref 35, .ref 1] 44 f (ZQ 43 147 f) := by
  refine sw_of rfl (Nat.le_of_ble_eq_true rfl) ?_
  show SW l D cy mX1_init d 103 1917 0 0 0 [(0, .ref 43), (1, .ref 28), (2, .ref 31), (3, .ref 35), (4, .ref 1)] [] 44 f _ _
  refine sw_aload_n dX1_init_0 rfl (by first | rfl | assumption) ?_
  refine sw_obj dX1_init_1 k_X1_5 k_obj2 k_obj3 (by omega) (Nat.le_of_ble_eq_true rfl) ?_
  refine sw_aload_n dX1_init_4 rfl (by first | rfl | assumption) ?_
  refine sw_bipush (x := 100) dX1_init_5 (by decide) ?_
  refine sw_bipush (x := 17) dX1_init_7 (by decide) ?_
  refine sw_mna 100 17 dX1_init_9 k_mna_X1 (by decide) (by decide) (by decide) (by decide) (by decide) (by decide) (by omega) (by omega) ?_
  refine sw_putF dX1_init_13 fl_X1_13 rfl (by first | exact h | rfl) (by decide) (sw_fit_ar rfl) ?_
  refine sw_aload_n dX1_init_16 rfl (by first | rfl | assumption) ?_
  refine sw_bipush (x := 100) dX1_init_17 (by decide) ?_
  refine sw_newZ 100 dX1_init_19 k_arr_boolean (by decide) (by decide) (by decide) (by omega) (by omega) ?_
  refine sw_putF dX1_init_21 fl_X1_16 rfl (by first | exact h | rfl) (by decide) (sw_fit_ar rfl) ?_
  refine sw_aload_n dX1_init_24 rfl (by first | rfl | assumption) ?_
  refine sw_bipush (x := 17) dX1_init_25 (by decide) ?_
  refine sw_newI 17 dX1_init_27 k_arr_int (by decide) (by decide) (by decide) (by omega) (by omega) ?_
  refine sw_putF dX1_init_29 fl_X1_20 rfl (by first | exact h | rfl) (by decide) (sw_fit_ar rfl) ?_
  refine sw_aload_n dX1_init_32 rfl (by first | rfl | assumption) ?_
  refine sw_aload_n dX1_init_33 rfl (by first | rfl | assumption) ?_
  refine sw_putF dX1_init_34 fl_X1_24 rfl (by first | exact h | rfl) (by decide) (sw_fit_or (by first | rfl | assumption)) ?_
  refine sw_aload_n dX1_init_37 rfl (by first | rfl | assumption) ?_
  refine sw_aload_n dX1_init_38 rfl (by first | rfl | assumption) ?_
  refine sw_putF dX1_init_39 fl_X1_28 rfl (by first | exact h | rfl) (by decide) (sw_fit_or (by first | rfl | assumption)) ?_
  refine sw_aload_n dX1_init_42 rfl (by first | rfl | assumption) ?_
  refine sw_aload_n dX1_init_43 rfl (by first | rfl | assumption) ?_
  refine sw_putF dX1_init_44 fl_X1_32 rfl (by first | exact h | rfl) (by decide) (sw_fit_or (by first | rfl | assumption)) ?_
  refine sw_aload_n dX1_init_47 rfl (by first | rfl | assumption) ?_
  refine sw_aload dX1_init_48 rfl (by first | rfl | assumption) ?_
  refine sw_putF dX1_init_50 fl_X1_36 rfl (by first | exact h | rfl) (by decide) (sw_fit_or (by first | rfl | assumption)) ?_
  exact sw_vret dX1_init_53 rfl (by omega) (by omega) ⟨rfl, rfl, (by repeat (first | exact fun _ _ => rfl | refine fr_up ?_ (by omega) | refine fr_mn ?_ (by omega))), fun i h1 h2 => by
    rcases (show i = 43 ∨ i = 44 ∨ i = 145 ∨ i = 146 ∨ (45 ≤ i ∧ i < 145) by omega) with rfl | rfl | rfl | rfl | ⟨h3, h4⟩
    · rfl
    · rfl
    · rfl
    · rfl
    · rw [gZ_row h3 h4]
      repeat rw [vu_ne _ (show ¬ i = 43 by omega)]
      rw [vu_ne _ (show ¬ i = 146 by omega), vu_ne _ (show ¬ i = 43 by omega), vu_ne _ (show ¬ i = 145 by omega), vu_ne _ (show ¬ i = 43 by omega)]
      exact mnF_gt _ (by omega)⟩
set_option maxRecDepth 100000 in
theorem c_X9_init {l : Launch} {D : va_G} {cy : Nat → ClassId} {d : Nat} {f : sw_F} (hd : 3 ≤ d) (h : f 35 = .inr (9, [.null, .null, .null, .null, .null, .int 0])) : sw_Ct l D cy mX9_init d 7 504 [.ref 35, .ref 28, .ref 31] 36 f (ZQ 35 43 f) := by
  refine sw_of rfl (Nat.le_of_ble_eq_true rfl) ?_
  show SW l D cy mX9_init d 7 504 0 0 0 [(0, .ref 35), (1, .ref 28), (2, .ref 31)] [] 36 f _ _
  refine sw_aload_n dX9_init_0 rfl (by first | rfl | assumption) ?_
  refine sw_obj dX9_init_1 k_X9_3 k_obj2 k_obj3 (by omega) (Nat.le_of_ble_eq_true rfl) ?_
  refine sw_aload_n dX9_init_4 rfl (by first | rfl | assumption) ?_
  refine sw_new dX9_init_5 nf_X9_9 (by omega) (by omega) ?_
  refine sw_dup dX9_init_8 rfl ?_
  refine sw_callIN dX9_init_9 k_X9_11 mf_X5_init (c_X5_init36 (d := d - 1) (by omega) rfl) (by omega) ⟨by omega, by omega⟩ rfl rfl (Nat.le_of_ble_eq_true rfl) (fun r' n1 f36 hq hle => ?_)
  obtain ⟨hr', hn', fr36, z36⟩ := hq
  subst hr'
  subst hn'
  show SW l D cy mX9_init d 7 504 3 202 12 [(0, .ref 35), (1, .ref 28), (2, .ref 31)] [.ref 36, .ref 35] 39 f36 _ _
  refine sw_putF dX9_init_12 fl_X9_12 rfl ((fr36 35 (by omega)).trans h) (by decide) (sw_fit_or (by first | rfl | assumption)) ?_
  refine sw_aload_n dX9_init_15 rfl (by first | rfl | assumption) ?_
  refine sw_new dX9_init_16 nf_X9_9 (by omega) (by omega) ?_
  refine sw_dup dX9_init_19 rfl ?_
  refine sw_callIN dX9_init_20 k_X9_11 mf_X5_init (c_X5_init39 (d := d - 1) (by omega) rfl) (by omega) ⟨by omega, by omega⟩ rfl rfl (Nat.le_of_ble_eq_true rfl) (fun r' n1 f39 hq hle => ?_)
  obtain ⟨hr', hn', fr39, z39⟩ := hq
  subst hr'
  subst hn'
  show SW l D cy mX9_init d 7 504 6 404 23 [(0, .ref 35), (1, .ref 28), (2, .ref 31)] [.ref 39, .ref 35] 42 f39 _ _
  refine sw_putF dX9_init_23 fl_X9_18 rfl (by first | exact fr39 35 (by omega) | rfl) (by decide) (sw_fit_or (by first | rfl | assumption)) ?_
  refine sw_aload_n dX9_init_26 rfl (by first | rfl | assumption) ?_
  refine sw_bipush (x := 100) dX9_init_27 (by decide) ?_
  refine sw_newI 100 dX9_init_29 k_arr_int (by decide) (by decide) (by decide) (by omega) (by omega) ?_
  refine sw_putF dX9_init_31 fl_X9_21 rfl (by first | exact fr39 35 (by omega) | rfl) (by decide) (sw_fit_ar rfl) ?_
  refine sw_aload_n dX9_init_34 rfl (by first | rfl | assumption) ?_
  refine sw_iconst (x := 0) dX9_init_35 (by decide) ?_
  refine sw_put dX9_init_36 fl_X9_25 (by first | exact fr39 35 (by omega) | rfl) (by decide) (sw_fit_i _) ?_
  refine sw_aload_n dX9_init_39 rfl (by first | rfl | assumption) ?_
  refine sw_aload_n dX9_init_40 rfl (by first | rfl | assumption) ?_
  refine sw_putF dX9_init_41 fl_X9_29 rfl (by first | exact fr39 35 (by omega) | rfl) (by decide) (sw_fit_or (by first | rfl | assumption)) ?_
  refine sw_aload_n dX9_init_44 rfl (by first | rfl | assumption) ?_
  refine sw_aload_n dX9_init_45 rfl (by first | rfl | assumption) ?_
  refine sw_putF dX9_init_46 fl_X9_33 rfl (by first | exact fr39 35 (by omega) | rfl) (by decide) (sw_fit_or (by first | rfl | assumption)) ?_
  refine sw_vret dX9_init_49 rfl (by omega) (by omega) ⟨rfl, rfl, ?_, ?_⟩
  · refine fr_up (fr_up (fr_up (fr_up (fr_up (fr_up ?_ (by omega)) (by omega)) (by omega)) (by omega)) (by omega)) (by omega)
    refine fr_tr fr39 ?_ (by omega)
    refine fr_up (fr_up ?_ (by omega)) (by omega)
    refine fr_tr fr36 ?_ (by omega)
    exact fr_up (fun _ _ => rfl) (by omega)
  · intro i h1 h2
    rcases (show i = 35 ∨ i = 36 ∨ i = 37 ∨ i = 38 ∨ i = 39 ∨ i = 40 ∨ i = 41 ∨ i = 42 by omega) with rfl | rfl | rfl | rfl | rfl | rfl | rfl | rfl
    · rfl
    · exact (fr39 36 (by omega)).trans (z36 36 (by omega) (by omega))
    · exact (fr39 37 (by omega)).trans (z36 37 (by omega) (by omega))
    · exact (fr39 38 (by omega)).trans (z36 38 (by omega) (by omega))
    · exact z39 39 (by omega) (by omega)
    · exact z39 40 (by omega) (by omega)
    · exact z39 41 (by omega) (by omega)
    · rfl
/-! ===== THE CLASS: its constructor ===== -/
theorem blk {f f' : sw_F} {a b : Nat} {e e0 : va_E} (z : ∀ i, 0 < i → i < a → f i = gZ i) (fr : ∀ i, i < a → f' i = va_up f a e0 i) (z' : ∀ i, a ≤ i → i < b → f' i = gZ i) : ∀ i, 0 < i → i < b → va_up f' 0 e i = gZ i := fun i h0 hb => by
  rw [vu_ne _ (by omega)]
  by_cases c : i < a
  · exact (fr i c).trans ((vu_ne _ (by omega) _).trans (z i h0 c))
  · exact z' i (by omega) hb
theorem blkA {f : sw_F} {a : Nat} {e e0 : va_E} (ha : 0 < a) (z : ∀ i, 0 < i → i < a → f i = gZ i) (h : e0 = gZ a) : ∀ i, 0 < i → i < a + 1 → va_up (va_up f a e0) 0 e i = gZ i := fun i h0 hb => by
  rw [vu_ne _ (by omega)]
  by_cases c : i = a
  · rw [c, vu_at, h]
  · rw [vu_ne _ c]; exact z i h0 (by omega)
theorem blk0 {f : sw_F} {b : Nat} {e : va_E} (z : ∀ i, 0 < i → i < b → f i = gZ i) : ∀ i, 0 < i → i < b → va_up f 0 e i = gZ i := fun i h0 hb => by
  rw [vu_ne _ (by omega)]; exact z i h0 hb
set_option maxRecDepth 100000 in
theorem c_X11_init {l : Launch} {D : va_G} {cy : Nat → ClassId} {d : Nat} {f : sw_F} (hd : 4 ≤ d) (h0 : f 0 = .inr (11, [.null, .null, .null, .null, .null, .null, .null, .null, .null, .null, .null, .null, .null, .int 0, .int 0, .int 0, .int 0])) : sw_Ct l D cy mX11_init d 149 3252 [.ref 0] 1 f (fun r n' f' => r = none ∧ n' = 150 ∧ f' = gd f' s0Z (fun _ _ => 0) (fun _ _ => 0) 1 .null) := by
  refine sw_of rfl (Nat.le_of_ble_eq_true rfl) ?_
  show SW l D cy mX11_init d 149 3252 0 0 0 [(0, .ref 0)] [] 1 f _ _
  have z0 : ∀ i, 0 < i → i < 1 → f i = gZ i := fun i h1 h2 => by omega
  refine sw_aload_n dX11_init_0 rfl (by first | rfl | assumption) ?_
  refine sw_obj dX11_init_1 k_X11_1 k_obj2 k_obj3 (by omega) (Nat.le_of_ble_eq_true rfl) ?_
  refine sw_aload_n dX11_init_4 rfl (by first | rfl | assumption) ?_
  refine sw_new dX11_init_5 nf_X11_7 (by omega) (by omega) ?_
  refine sw_dup dX11_init_8 rfl ?_
  refine sw_callIN dX11_init_9 k_X11_9 mf_X3_init (c_X3_init (d := d - 1) (by omega) rfl) (by omega) ⟨by omega, by omega⟩ rfl rfl (Nat.le_of_ble_eq_true rfl) (fun r' n1 f' hq hle => ?_)
  obtain ⟨hr', hn', fr, zz⟩ := hq
  subst hr'
  subst hn'
  show SW l D cy mX11_init d 149 3252 2 41 12 [(0, .ref 0)] [.ref 1, .ref 0] 3 f' _ _
  refine sw_putF dX11_init_12 fl_X11_10 rfl ((fr 0 (by decide)).trans h0) (by decide) (sw_fit_or rfl) ?_
  refine (fun (K : ∀ g : sw_F, g 0 = .inr (11, [.ref 1, .null, .null, .null, .null, .null, .null, .null, .null, .null, .null, .null, .null, .int 0, .int 0, .int 0, .int 0]) → (∀ i, 0 < i → i < 3 → g i = gZ i) → SW l D cy mX11_init d 149 3252 2 41 15 [(0, .ref 0)] [] 3 g (fun r n' f' => r = none ∧ n' = 150 ∧ f' = gd f' s0Z (fun _ _ => 0) (fun _ _ => 0) 1 .null) (fun _ _ _ => False)) => K _ rfl (blk z0 fr zz)) ?_
  intro f1 h1 z1
  refine sw_aload_n dX11_init_15 rfl (by first | rfl | assumption) ?_
  refine sw_bipush (x := 8) dX11_init_16 (by decide) ?_
  refine sw_newI 8 dX11_init_18 k_arr_int (by decide) (by decide) (by decide) (by omega) (by omega) ?_
  refine sw_putF dX11_init_20 fl_X11_16 rfl h1 (by decide) (sw_fit_ar rfl) ?_
  refine (fun (K : ∀ g : sw_F, g 0 = .inr (11, [.ref 1, .ref 3, .null, .null, .null, .null, .null, .null, .null, .null, .null, .null, .null, .int 0, .int 0, .int 0, .int 0]) → (∀ i, 0 < i → i < 4 → g i = gZ i) → SW l D cy mX11_init d 149 3252 3 49 23 [(0, .ref 0)] [] 4 g (fun r n' f' => r = none ∧ n' = 150 ∧ f' = gd f' s0Z (fun _ _ => 0) (fun _ _ => 0) 1 .null) (fun _ _ _ => False)) => K _ rfl (blkA (by decide) z1 rfl)) ?_
  intro f2 h2 z2
  refine sw_aload_n dX11_init_23 rfl (by first | rfl | assumption) ?_
  refine sw_bipush (x := 8) dX11_init_24 (by decide) ?_
  refine sw_newI 8 dX11_init_26 k_arr_int (by decide) (by decide) (by decide) (by omega) (by omega) ?_
  refine sw_putF dX11_init_28 fl_X11_20 rfl h2 (by decide) (sw_fit_ar rfl) ?_
  refine (fun (K : ∀ g : sw_F, g 0 = .inr (11, [.ref 1, .ref 3, .ref 4, .null, .null, .null, .null, .null, .null, .null, .null, .null, .null, .int 0, .int 0, .int 0, .int 0]) → (∀ i, 0 < i → i < 5 → g i = gZ i) → SW l D cy mX11_init d 149 3252 4 57 31 [(0, .ref 0)] [] 5 g (fun r n' f' => r = none ∧ n' = 150 ∧ f' = gd f' s0Z (fun _ _ => 0) (fun _ _ => 0) 1 .null) (fun _ _ _ => False)) => K _ rfl (blkA (by decide) z2 rfl)) ?_
  intro f3 h3 z3
  refine sw_aload_n dX11_init_31 rfl (by first | rfl | assumption) ?_
  refine sw_bipush (x := 8) dX11_init_32 (by decide) ?_
  refine sw_newI 8 dX11_init_34 k_arr_int (by decide) (by decide) (by decide) (by omega) (by omega) ?_
  refine sw_putF dX11_init_36 fl_X11_23 rfl h3 (by decide) (sw_fit_ar rfl) ?_
  refine (fun (K : ∀ g : sw_F, g 0 = .inr (11, [.ref 1, .ref 3, .ref 4, .ref 5, .null, .null, .null, .null, .null, .null, .null, .null, .null, .int 0, .int 0, .int 0, .int 0]) → (∀ i, 0 < i → i < 6 → g i = gZ i) → SW l D cy mX11_init d 149 3252 5 65 39 [(0, .ref 0)] [] 6 g (fun r n' f' => r = none ∧ n' = 150 ∧ f' = gd f' s0Z (fun _ _ => 0) (fun _ _ => 0) 1 .null) (fun _ _ _ => False)) => K _ rfl (blkA (by decide) z3 rfl)) ?_
  intro f4 h4 z4
  refine sw_aload_n dX11_init_39 rfl (by first | rfl | assumption) ?_
  refine sw_new dX11_init_40 nf_X11_26 (by omega) (by omega) ?_
  refine sw_dup dX11_init_43 rfl ?_
  refine sw_callIN dX11_init_44 k_X11_28 mf_X8_init (c_X8_init (d := d - 1) (by omega) rfl) (by omega) ⟨by omega, by omega⟩ rfl rfl (Nat.le_of_ble_eq_true rfl) (fun r' n1 f' hq hle => ?_)
  obtain ⟨hr', hn', fr, zz⟩ := hq
  subst hr'
  subst hn'
  show SW l D cy mX11_init d 149 3252 7 141 47 [(0, .ref 0)] [.ref 6, .ref 0] 8 f' _ _
  refine sw_putF dX11_init_47 fl_X11_29 rfl ((fr 0 (by decide)).trans h4) (by decide) (sw_fit_or rfl) ?_
  refine (fun (K : ∀ g : sw_F, g 0 = .inr (11, [.ref 1, .ref 3, .ref 4, .ref 5, .ref 6, .null, .null, .null, .null, .null, .null, .null, .null, .int 0, .int 0, .int 0, .int 0]) → (∀ i, 0 < i → i < 8 → g i = gZ i) → SW l D cy mX11_init d 149 3252 7 141 50 [(0, .ref 0)] [] 8 g (fun r n' f' => r = none ∧ n' = 150 ∧ f' = gd f' s0Z (fun _ _ => 0) (fun _ _ => 0) 1 .null) (fun _ _ _ => False)) => K _ rfl (blk z4 fr zz)) ?_
  intro f5 h5 z5
  refine sw_aload_n dX11_init_50 rfl (by first | rfl | assumption) ?_
  refine sw_new dX11_init_51 nf_X11_33 (by omega) (by omega) ?_
  refine sw_dup dX11_init_54 rfl ?_
  refine sw_aload_n dX11_init_55 rfl (by first | rfl | assumption) ?_
  refine sw_get dX11_init_56 fr_X11_10 h5 rfl ?_
  refine sw_callI dX11_init_59 k_X11_35 mf_X7_init (c_X7_init (d := d - 1) (by omega) rfl) (by omega) ⟨by omega, by omega⟩ rfl rfl (Nat.le_of_ble_eq_true rfl) (fun r' n1 f' hq hle => ?_)
  obtain ⟨hr', hn', fr, zz⟩ := hq
  subst hr'
  subst hn'
  show SW l D cy mX11_init d 149 3252 25 279 62 [(0, .ref 0)] [.ref 8, .ref 0] 26 f' _ _
  refine sw_putF dX11_init_62 fl_X11_38 rfl ((fr 0 (by decide)).trans h5) (by decide) (sw_fit_or rfl) ?_
  refine (fun (K : ∀ g : sw_F, g 0 = .inr (11, [.ref 1, .ref 3, .ref 4, .ref 5, .ref 6, .ref 8, .null, .null, .null, .null, .null, .null, .null, .int 0, .int 0, .int 0, .int 0]) → (∀ i, 0 < i → i < 26 → g i = gZ i) → SW l D cy mX11_init d 149 3252 25 279 65 [(0, .ref 0)] [] 26 g (fun r n' f' => r = none ∧ n' = 150 ∧ f' = gd f' s0Z (fun _ _ => 0) (fun _ _ => 0) 1 .null) (fun _ _ _ => False)) => K _ rfl (blk z5 fr zz)) ?_
  intro f6 h6 z6
  refine sw_aload_n dX11_init_65 rfl (by first | rfl | assumption) ?_
  refine sw_new dX11_init_66 nf_X11_42 (by omega) (by omega) ?_
  refine sw_dup dX11_init_69 rfl ?_
  refine sw_callIN dX11_init_70 k_X11_44 mf_X2_init (c_X2_init (d := d - 1) (by omega) rfl) (by omega) ⟨by omega, by omega⟩ rfl rfl (Nat.le_of_ble_eq_true rfl) (fun r' n1 f' hq hle => ?_)
  obtain ⟨hr', hn', fr, zz⟩ := hq
  subst hr'
  subst hn'
  show SW l D cy mX11_init d 149 3252 27 290 73 [(0, .ref 0)] [.ref 26, .ref 0] 28 f' _ _
  refine sw_putF dX11_init_73 fl_X11_45 rfl ((fr 0 (by decide)).trans h6) (by decide) (sw_fit_or rfl) ?_
  refine (fun (K : ∀ g : sw_F, g 0 = .inr (11, [.ref 1, .ref 3, .ref 4, .ref 5, .ref 6, .ref 8, .ref 26, .null, .null, .null, .null, .null, .null, .int 0, .int 0, .int 0, .int 0]) → (∀ i, 0 < i → i < 28 → g i = gZ i) → SW l D cy mX11_init d 149 3252 27 290 76 [(0, .ref 0)] [] 28 g (fun r n' f' => r = none ∧ n' = 150 ∧ f' = gd f' s0Z (fun _ _ => 0) (fun _ _ => 0) 1 .null) (fun _ _ _ => False)) => K _ rfl (blk z6 fr zz)) ?_
  intro f7 h7 z7
  refine sw_aload_n dX11_init_76 rfl (by first | rfl | assumption) ?_
  refine sw_new dX11_init_77 nf_X11_49 (by omega) (by omega) ?_
  refine sw_dup dX11_init_80 rfl ?_
  refine sw_callIN dX11_init_81 k_X11_51 mf_X0_init (c_X0_init (d := d - 1) (by omega) rfl) (by omega) ⟨by omega, by omega⟩ rfl rfl (Nat.le_of_ble_eq_true rfl) (fun r' n1 f' hq hle => ?_)
  obtain ⟨hr', hn', fr, zz⟩ := hq
  subst hr'
  subst hn'
  show SW l D cy mX11_init d 149 3252 30 493 84 [(0, .ref 0)] [.ref 28, .ref 0] 31 f' _ _
  refine sw_putF dX11_init_84 fl_X11_52 rfl ((fr 0 (by decide)).trans h7) (by decide) (sw_fit_or rfl) ?_
  refine (fun (K : ∀ g : sw_F, g 0 = .inr (11, [.ref 1, .ref 3, .ref 4, .ref 5, .ref 6, .ref 8, .ref 26, .ref 28, .null, .null, .null, .null, .null, .int 0, .int 0, .int 0, .int 0]) → (∀ i, 0 < i → i < 31 → g i = gZ i) → SW l D cy mX11_init d 149 3252 30 493 87 [(0, .ref 0)] [] 31 g (fun r n' f' => r = none ∧ n' = 150 ∧ f' = gd f' s0Z (fun _ _ => 0) (fun _ _ => 0) 1 .null) (fun _ _ _ => False)) => K _ rfl (blk z7 fr zz)) ?_
  intro f8 h8 z8
  refine sw_aload_n dX11_init_87 rfl (by first | rfl | assumption) ?_
  refine sw_new dX11_init_88 nf_X11_56 (by omega) (by omega) ?_
  refine sw_dup dX11_init_91 rfl ?_
  refine sw_aload_n dX11_init_92 rfl (by first | rfl | assumption) ?_
  refine sw_get dX11_init_93 fr_X11_52 h8 rfl ?_
  refine sw_callI dX11_init_96 k_X11_58 mf_X10_init (c_X10_init (d := d - 1) (by omega) rfl) (by omega) ⟨by omega, by omega⟩ rfl rfl (Nat.le_of_ble_eq_true rfl) (fun r' n1 f' hq hle => ?_)
  obtain ⟨hr', hn', fr, zz⟩ := hq
  subst hr'
  subst hn'
  show SW l D cy mX11_init d 149 3252 34 798 99 [(0, .ref 0)] [.ref 31, .ref 0] 35 f' _ _
  refine sw_putF dX11_init_99 fl_X11_61 rfl ((fr 0 (by decide)).trans h8) (by decide) (sw_fit_or rfl) ?_
  refine (fun (K : ∀ g : sw_F, g 0 = .inr (11, [.ref 1, .ref 3, .ref 4, .ref 5, .ref 6, .ref 8, .ref 26, .ref 28, .ref 31, .null, .null, .null, .null, .int 0, .int 0, .int 0, .int 0]) → (∀ i, 0 < i → i < 35 → g i = gZ i) → SW l D cy mX11_init d 149 3252 34 798 102 [(0, .ref 0)] [] 35 g (fun r n' f' => r = none ∧ n' = 150 ∧ f' = gd f' s0Z (fun _ _ => 0) (fun _ _ => 0) 1 .null) (fun _ _ _ => False)) => K _ rfl (blk z8 fr zz)) ?_
  intro f9 h9 z9
  refine sw_aload_n dX11_init_102 rfl (by first | rfl | assumption) ?_
  refine sw_new dX11_init_103 nf_X11_65 (by omega) (by omega) ?_
  refine sw_dup dX11_init_106 rfl ?_
  refine sw_aload_n dX11_init_107 rfl (by first | rfl | assumption) ?_
  refine sw_get dX11_init_108 fr_X11_52 h9 rfl ?_
  refine sw_aload_n dX11_init_111 rfl (by first | rfl | assumption) ?_
  refine sw_get dX11_init_112 fr_X11_61 h9 rfl ?_
  refine sw_callI dX11_init_115 k_X11_67 mf_X9_init (c_X9_init (d := d - 1) (by omega) rfl) (by omega) ⟨by omega, by omega⟩ rfl rfl (Nat.le_of_ble_eq_true rfl) (fun r' n1 f' hq hle => ?_)
  obtain ⟨hr', hn', fr, zz⟩ := hq
  subst hr'
  subst hn'
  show SW l D cy mX11_init d 149 3252 42 1308 118 [(0, .ref 0)] [.ref 35, .ref 0] 43 f' _ _
  refine sw_putF dX11_init_118 fl_X11_70 rfl ((fr 0 (by decide)).trans h9) (by decide) (sw_fit_or rfl) ?_
  refine (fun (K : ∀ g : sw_F, g 0 = .inr (11, [.ref 1, .ref 3, .ref 4, .ref 5, .ref 6, .ref 8, .ref 26, .ref 28, .ref 31, .ref 35, .null, .null, .null, .int 0, .int 0, .int 0, .int 0]) → (∀ i, 0 < i → i < 43 → g i = gZ i) → SW l D cy mX11_init d 149 3252 42 1308 121 [(0, .ref 0)] [] 43 g (fun r n' f' => r = none ∧ n' = 150 ∧ f' = gd f' s0Z (fun _ _ => 0) (fun _ _ => 0) 1 .null) (fun _ _ _ => False)) => K _ rfl (blk z9 fr zz)) ?_
  intro f10 h10 z10
  refine sw_aload_n dX11_init_121 rfl (by first | rfl | assumption) ?_
  refine sw_new dX11_init_122 nf_X11_74 (by omega) (by omega) ?_
  refine sw_dup dX11_init_125 rfl ?_
  refine sw_aload_n dX11_init_126 rfl (by first | rfl | assumption) ?_
  refine sw_get dX11_init_127 fr_X11_52 h10 rfl ?_
  refine sw_aload_n dX11_init_130 rfl (by first | rfl | assumption) ?_
  refine sw_get dX11_init_131 fr_X11_61 h10 rfl ?_
  refine sw_aload_n dX11_init_134 rfl (by first | rfl | assumption) ?_
  refine sw_get dX11_init_135 fr_X11_70 h10 rfl ?_
  refine sw_aload_n dX11_init_138 rfl (by first | rfl | assumption) ?_
  refine sw_get dX11_init_139 fr_X11_10 h10 rfl ?_
  refine sw_callI dX11_init_142 k_X11_76 mf_X1_init (c_X1_init (d := d - 1) (by omega) rfl) (by omega) ⟨by omega, by omega⟩ rfl rfl (Nat.le_of_ble_eq_true rfl) (fun r' n1 f' hq hle => ?_)
  obtain ⟨hr', hn', fr, zz⟩ := hq
  subst hr'
  subst hn'
  show SW l D cy mX11_init d 149 3252 146 3232 145 [(0, .ref 0)] [.ref 43, .ref 0] 147 f' _ _
  refine sw_putF dX11_init_145 fl_X11_79 rfl ((fr 0 (by decide)).trans h10) (by decide) (sw_fit_or rfl) ?_
  refine (fun (K : ∀ g : sw_F, g 0 = .inr (11, [.ref 1, .ref 3, .ref 4, .ref 5, .ref 6, .ref 8, .ref 26, .ref 28, .ref 31, .ref 35, .ref 43, .null, .null, .int 0, .int 0, .int 0, .int 0]) → (∀ i, 0 < i → i < 147 → g i = gZ i) → SW l D cy mX11_init d 149 3252 146 3232 148 [(0, .ref 0)] [] 147 g (fun r n' f' => r = none ∧ n' = 150 ∧ f' = gd f' s0Z (fun _ _ => 0) (fun _ _ => 0) 1 .null) (fun _ _ _ => False)) => K _ rfl (blk z10 fr zz)) ?_
  intro f11 h11 z11
  refine sw_aload_n dX11_init_148 rfl (by first | rfl | assumption) ?_
  refine sw_new dX11_init_149 nf_X11_83 (by omega) (by omega) ?_
  refine sw_dup dX11_init_152 rfl ?_
  refine sw_aload_n dX11_init_153 rfl (by first | rfl | assumption) ?_
  refine sw_get dX11_init_154 fr_X11_52 h11 rfl ?_
  refine sw_callI dX11_init_157 k_X11_85 mf_X4_init (c_X4_init (d := d - 1) (by omega) rfl) (by omega) ⟨by omega, by omega⟩ rfl rfl (Nat.le_of_ble_eq_true rfl) (fun r' n1 f' hq hle => ?_)
  obtain ⟨hr', hn', fr, zz⟩ := hq
  subst hr'
  subst hn'
  show SW l D cy mX11_init d 149 3252 149 3252 160 [(0, .ref 0)] [.ref 147, .ref 0] 150 f' _ _
  refine sw_putF dX11_init_160 fl_X11_86 rfl ((fr 0 (by decide)).trans h11) (by decide) (sw_fit_or rfl) ?_
  refine (fun (K : ∀ g : sw_F, g 0 = .inr (11, [.ref 1, .ref 3, .ref 4, .ref 5, .ref 6, .ref 8, .ref 26, .ref 28, .ref 31, .ref 35, .ref 43, .ref 147, .null, .int 0, .int 0, .int 0, .int 0]) → (∀ i, 0 < i → i < 150 → g i = gZ i) → SW l D cy mX11_init d 149 3252 149 3252 163 [(0, .ref 0)] [] 150 g (fun r n' f' => r = none ∧ n' = 150 ∧ f' = gd f' s0Z (fun _ _ => 0) (fun _ _ => 0) 1 .null) (fun _ _ _ => False)) => K _ rfl (blk z11 fr zz)) ?_
  intro f12 h12 z12
  refine sw_aload_n dX11_init_163 rfl (by first | rfl | assumption) ?_
  refine sw_null dX11_init_164 ?_
  refine sw_put dX11_init_165 fl_X11_90 (by first | exact h12 | rfl) (by decide) (sw_fit_or (by first | rfl | assumption)) ?_
  refine sw_aload_n dX11_init_168 rfl (by first | rfl | assumption) ?_
  refine sw_iconst (x := 0) dX11_init_169 (by decide) ?_
  refine sw_put dX11_init_170 fl_X11_94 (by first | exact h12 | rfl) (by decide) (by first | exact sw_fit_z0 | exact sw_fit_z1 | exact sw_fit_z _) ?_
  refine sw_aload_n dX11_init_173 rfl (by first | rfl | assumption) ?_
  refine sw_iconst (x := (-1)) dX11_init_174 (by decide) ?_
  refine sw_put dX11_init_175 fl_X11_98 (by first | exact h12 | rfl) (by decide) (sw_fit_i _) ?_
  refine sw_aload_n dX11_init_178 rfl (by first | rfl | assumption) ?_
  refine sw_iconst (x := 0) dX11_init_179 (by decide) ?_
  refine sw_put dX11_init_180 fl_X11_102 (by first | exact h12 | rfl) (by decide) (by first | exact sw_fit_z0 | exact sw_fit_z1 | exact sw_fit_z _) ?_
  refine sw_aload_n dX11_init_183 rfl (by first | rfl | assumption) ?_
  refine sw_iconst (x := 0) dX11_init_184 (by decide) ?_
  refine sw_put dX11_init_185 fl_X11_105 (by first | exact h12 | rfl) (by decide) (by first | exact sw_fit_z0 | exact sw_fit_z1 | exact sw_fit_z _) ?_
  refine sw_vret dX11_init_188 rfl (by omega) (by omega) ⟨rfl, rfl, ?_⟩
  funext i
  by_cases c : 150 ≤ i
  · rw [gd_f _ _ _ _ _ _ c]
  · by_cases c0 : i = 0
    · subst c0; rfl
    · have e1 := z12 i (by omega) (by omega)
      have e2 : ∀ g : sw_F, gd g s0Z (fun _ _ => 0) (fun _ _ => 0) 1 .null i = gZ i := fun g => by
        unfold gZ gd
        rw [if_neg c, if_neg c]
      rw [e2, ← e1]
      rw [vu_ne _ c0, vu_ne _ c0, vu_ne _ c0, vu_ne _ c0, vu_ne _ c0]
