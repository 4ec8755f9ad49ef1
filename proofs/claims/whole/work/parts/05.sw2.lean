/-! ===== THE LOGIC, 2: operands, locals, branches ===== -/
section SWB
variable {EE : sw_E} {l : Launch} {D : va_G} {cy : Nat → ClassId} {M : sw_MD} {d mc ms cells slots pc : Nat} {L : sw_L} {st : List Value} {n : Nat} {f : sw_F} {Q : sw_Q} {QX : sw_QX}
theorem sw_ct {w : Value} (h : ∀ v ∈ w :: st, sw_c n v) : ∀ v ∈ st, sw_c n v := fun v hv => h v (List.mem_cons_of_mem _ hv)
theorem sw_ch {w : Value} (h : ∀ v ∈ w :: st, sw_c n v) : sw_c n w := h w List.mem_cons_self
theorem sw_cc {w : Value} (hw : sw_c n w) (h : ∀ v ∈ st, sw_c n v) : ∀ v ∈ w :: st, sw_c n v := fun v hv => (List.mem_cons.mp hv).elim (fun e => by rw [e]; exact hw) (h v)
theorem sw_ci {x : Int32} (h : ∀ v ∈ st, sw_c n v) : ∀ v ∈ Value.int x :: st, sw_c n v := sw_cc (w := .int x) trivial h
theorem sw_cl {x : Int64} (h : ∀ v ∈ st, sw_c n v) : ∀ v ∈ Value.long x :: st, sw_c n v := sw_cc (w := .long x) trivial h
theorem sw_cn (h : ∀ v ∈ st, sw_c n v) : ∀ v ∈ Value.null :: st, sw_c n v := sw_cc (w := .null) trivial h
theorem sw_lk {i : Nat} {v : Value} (h : L.lookup i = some v) : (i, v) ∈ L := by
  induction L with
  | nil => cases h
  | cons q r ih =>
    rw [List.lookup_cons] at h
    by_cases e : (i == q.1) = true
    · rw [e] at h
      cases h
      rw [beq_iff_eq.mp e]
      exact List.mem_cons_self
    · rw [Bool.eq_false_iff.mpr e] at h
      exact List.mem_cons_of_mem _ (ih h)
/-- a local's new value: where its place is by order; what it overlays goes -/
def sw_in (i : Nat) (v : Value) : sw_L → sw_L
  | [] => [(i, v)]
  | q :: r => if i < q.1 then (i, v) :: q :: r else q :: sw_in i v r
def sw_p1 (i : Nat) (q : Nat × Value) : Bool := !(q.1 == i) && !(q.1 + 1 == i && q.2.category == 2)
def sw_p2 (i : Nat) (q : Nat × Value) : Bool := !(q.1 == i) && (!(q.1 == i + 1) && !(q.1 + 1 == i && q.2.category == 2))
theorem sw_in_mem {i : Nat} {v : Value} {q : Nat × Value} : ∀ {L : sw_L}, q ∈ sw_in i v L → q = (i, v) ∨ q ∈ L
  | [], h => Or.inl (List.mem_singleton.mp h)
  | x :: r, h => by
    unfold sw_in at h
    split at h
    · rcases List.mem_cons.mp h with h | h
      · exact Or.inl h
      · exact Or.inr h
    · rcases List.mem_cons.mp h with h | h
      · exact Or.inr (List.mem_cons.mpr (Or.inl h))
      · rcases sw_in_mem h with h | h
        · exact Or.inl h
        · exact Or.inr (List.mem_cons_of_mem _ h)
theorem sw_has {ls : Array Slot} {nL i : Nat} {u : Nat → Nat} {v : Value} {pr : Nat × Value → Bool} {L' : sw_L} (hp : ∀ q : Nat × Value, pr (q.1, sw_v u q.2) = pr q) (he : sw_in i v (L.filter pr) = L')
    (h : lv_has ls nL ((i, sw_v u v) :: (L.map (fun q => (q.1, sw_v u q.2))).filter pr)) : lv_has ls nL (L'.map (fun q => (q.1, sw_v u q.2))) := by
  subst he
  refine ⟨h.1, h.2.1, fun q hq => ?_⟩
  obtain ⟨x, hx, rfl⟩ := List.mem_map.mp hq
  rcases sw_in_mem hx with rfl | hx
  · exact h.2.2 _ List.mem_cons_self
  · obtain ⟨h1, h2⟩ := List.mem_filter.mp hx
    refine h.2.2 _ (List.mem_cons_of_mem _ (List.mem_filter.mpr ⟨List.mem_map.mpr ⟨x, h1, rfl⟩, ?_⟩))
    rw [hp]
    exact h2
theorem sw_p1v (i : Nat) (u : Nat → Nat) (q : Nat × Value) : sw_p1 i (q.1, sw_v u q.2) = sw_p1 i q := by unfold sw_p1; rw [sw_v_cat]
theorem sw_p2v (i : Nat) (u : Nat → Nat) (q : Nat × Value) : sw_p2 i (q.1, sw_v u q.2) = sw_p2 i q := by unfold sw_p2; rw [sw_v_cat]
theorem sw_inC {i : Nat} {v : Value} {pr : Nat × Value → Bool} {L' : sw_L} (he : sw_in i v (L.filter pr) = L') (hv : sw_c n v) (h : ∀ q ∈ L, sw_c n q.2) : ∀ q ∈ L', sw_c n q.2 := by
  subst he
  intro q hq
  rcases sw_in_mem hq with rfl | hx
  · exact hv
  · exact h q (List.mem_filter.mp hx).1
/-- a reference or null -/
def sw_isR (v : Value) : Bool := match v with
  | .ref _ => true
  | .null => true
  | _ => false
theorem sw_iconst {i : Int} {x : Int32} (hd : decode M.2.1 pc = .ok (.iconst i, 1)) (hv : Int32.ofInt i = x) (k : SWr EE l D cy M d mc ms cells slots (pc + 1) L (.int x :: st) n f Q QX) : SWr EE l D cy M d mc ms cells slots pc L (st) n f Q QX :=
  sw_pure (fun h _ => sw_ci h) (fun p e R s m args below meth c hx hb ho hw u H locs ls hl Z kk => lv_iconst hx hb hd hv kk) k
theorem sw_bipush {i : Int} {x : Int32} (hd : decode M.2.1 pc = .ok (.bipush i, 2)) (hv : (Int8.ofInt i).toInt32 = x) (k : SWr EE l D cy M d mc ms cells slots (pc + 2) L (.int x :: st) n f Q QX) : SWr EE l D cy M d mc ms cells slots pc L (st) n f Q QX :=
  sw_pure (fun h _ => sw_ci h) (fun p e R s m args below meth c hx hb ho hw u H locs ls hl Z kk => lv_bipush hx hb hd hv kk) k
theorem sw_sipush {i : Int} {x : Int32} (hd : decode M.2.1 pc = .ok (.sipush i, 3)) (hv : (Int16.ofInt i).toInt32 = x) (k : SWr EE l D cy M d mc ms cells slots (pc + 3) L (.int x :: st) n f Q QX) : SWr EE l D cy M d mc ms cells slots pc L (st) n f Q QX :=
  sw_pure (fun h _ => sw_ci h) (fun p e R s m args below meth c hx hb ho hw u H locs ls hl Z kk => lv_sipush hx hb hd hv kk) k
theorem sw_lconst {i : Fin 2} {x : Int64} (hd : decode M.2.1 pc = .ok (.lconst i, 1)) (hv : Int64.ofNat (i : Nat) = x) (k : SWr EE l D cy M d mc ms cells slots (pc + 1) L (.long x :: st) n f Q QX) : SWr EE l D cy M d mc ms cells slots pc L (st) n f Q QX :=
  sw_pure (fun h _ => sw_cl h) (fun p e R s m args below meth c hx hb ho hw u H locs ls hl Z kk => lv_lconst hx hb hd hv kk) k
theorem sw_ldc {i : Nat} {x : Int32} (hd : decode M.2.1 pc = .ok (.ldc i, 2)) (hm : Cond.constant M.1.cls i x ∈ sw_lwg) (k : SWr EE l D cy M d mc ms cells slots (pc + 2) L (.int x :: st) n f Q QX) : SWr EE l D cy M d mc ms cells slots pc L (st) n f Q QX :=
  sw_pure (fun h _ => sw_ci h) (fun p e R s m args below meth c hx hb ho hw u H locs ls hl Z kk => lv_ldc hx hb ho (hw _ hm) hd kk) k
theorem sw_ldcw {i : Nat} {x : Int32} (hd : decode M.2.1 pc = .ok (.ldc_w i, 3)) (hm : Cond.constant M.1.cls i x ∈ sw_lwg) (k : SWr EE l D cy M d mc ms cells slots (pc + 3) L (.int x :: st) n f Q QX) : SWr EE l D cy M d mc ms cells slots pc L (st) n f Q QX :=
  sw_pure (fun h _ => sw_ci h) (fun p e R s m args below meth c hx hb ho hw u H locs ls hl Z kk => lv_ldcw hx hb ho (hw _ hm) hd kk) k
theorem sw_ldc2 {i : Nat} {x : Int64} (hd : decode M.2.1 pc = .ok (.ldc2_w i, 3)) (hm : Cond.constantLong M.1.cls i x ∈ sw_lwg) (k : SWr EE l D cy M d mc ms cells slots (pc + 3) L (.long x :: st) n f Q QX) : SWr EE l D cy M d mc ms cells slots pc L (st) n f Q QX :=
  sw_pure (fun h _ => sw_cl h) (fun p e R s m args below meth c hx hb ho hw u H locs ls hl Z kk => lv_ldc2 hx hb ho (hw _ hm) hd kk) k
theorem sw_null (hd : decode M.2.1 pc = .ok (.aconst_null, 1)) (k : SWr EE l D cy M d mc ms cells slots (pc + 1) L (.null :: st) n f Q QX) : SWr EE l D cy M d mc ms cells slots pc L (st) n f Q QX :=
  sw_pure (fun h _ => sw_cn h) (fun p e R s m args below meth c hx hb ho hw u H locs ls hl Z kk => lv_null hx hb hd kk) k
theorem sw_iload_n {i : Fin 4} {x : Int32} (hd : decode M.2.1 pc = .ok (.iload_n i, 1)) (hv : L.lookup (i : Nat) = some (.int x)) (k : SWr EE l D cy M d mc ms cells slots (pc + 1) L (.int x :: st) n f Q QX) : SWr EE l D cy M d mc ms cells slots pc L (st) n f Q QX :=
  sw_pure (fun h _ => sw_ci h) (fun p e R s m args below meth c hx hb ho hw u H locs ls hl Z kk => lv_iload_n hx hb hd rfl (hl _ (sw_lk hv)) kk) k
theorem sw_iload {i : Nat} {x : Int32} (hd : decode M.2.1 pc = .ok (.iload i, 2)) (hv : L.lookup i = some (.int x)) (k : SWr EE l D cy M d mc ms cells slots (pc + 2) L (.int x :: st) n f Q QX) : SWr EE l D cy M d mc ms cells slots pc L (st) n f Q QX :=
  sw_pure (fun h _ => sw_ci h) (fun p e R s m args below meth c hx hb ho hw u H locs ls hl Z kk => lv_iload hx hb hd (hl _ (sw_lk hv)) kk) k
theorem sw_lload_n {i : Fin 4} {x : Int64} (hd : decode M.2.1 pc = .ok (.lload_n i, 1)) (hv : L.lookup (i : Nat) = some (.long x)) (k : SWr EE l D cy M d mc ms cells slots (pc + 1) L (.long x :: st) n f Q QX) : SWr EE l D cy M d mc ms cells slots pc L (st) n f Q QX :=
  sw_pure (fun h _ => sw_cl h) (fun p e R s m args below meth c hx hb ho hw u H locs ls hl Z kk => lv_lload_n hx hb hd rfl (hl _ (sw_lk hv)) kk) k
theorem sw_lload {i : Nat} {x : Int64} (hd : decode M.2.1 pc = .ok (.lload i, 2)) (hv : L.lookup i = some (.long x)) (k : SWr EE l D cy M d mc ms cells slots (pc + 2) L (.long x :: st) n f Q QX) : SWr EE l D cy M d mc ms cells slots pc L (st) n f Q QX :=
  sw_pure (fun h _ => sw_cl h) (fun p e R s m args below meth c hx hb ho hw u H locs ls hl Z kk => lv_lload hx hb hd (hl _ (sw_lk hv)) kk) k
theorem sw_aload_n {i : Fin 4} {v : Value} (hd : decode M.2.1 pc = .ok (.aload_n i, 1)) (hv : L.lookup (i : Nat) = some v) (hr : sw_isR v = true) (k : SWr EE l D cy M d mc ms cells slots (pc + 1) L (v :: st) n f Q QX) : SWr EE l D cy M d mc ms cells slots pc L (st) n f Q QX :=
  sw_pure (fun h hL => sw_cc (hL _ (sw_lk hv)) h) (fun p e R s m args below meth c hx hb ho hw u H locs ls hl Z kk => by
    cases v with
    | ref a => exact lv_aload_n hx hb hd rfl (hl _ (sw_lk hv)) kk
    | null => exact lv_aload_nN hx hb hd rfl (hl _ (sw_lk hv)) kk
    | _ => cases hr) k
theorem sw_aload {i : Nat} {v : Value} (hd : decode M.2.1 pc = .ok (.aload i, 2)) (hv : L.lookup i = some v) (hr : sw_isR v = true) (k : SWr EE l D cy M d mc ms cells slots (pc + 2) L (v :: st) n f Q QX) : SWr EE l D cy M d mc ms cells slots pc L (st) n f Q QX :=
  sw_pure (fun h hL => sw_cc (hL _ (sw_lk hv)) h) (fun p e R s m args below meth c hx hb ho hw u H locs ls hl Z kk => by
    cases v with
    | ref a => exact lv_aload hx hb hd (hl _ (sw_lk hv)) kk
    | null => exact lv_aloadN hx hb hd (hl _ (sw_lk hv)) kk
    | _ => cases hr) k
theorem sw_iadd {x y : Int32} (hd : decode M.2.1 pc = .ok (.iadd, 1)) (k : SWr EE l D cy M d mc ms cells slots (pc + 1) L (.int (x + y) :: st) n f Q QX) : SWr EE l D cy M d mc ms cells slots pc L (.int y :: .int x :: st) n f Q QX :=
  sw_pure (fun h _ => sw_ci (sw_ct (sw_ct h))) (fun p e R s m args below meth c hx hb ho hw u H locs ls hl Z kk => lv_iadd hx hb hd kk) k
theorem sw_isub {x y : Int32} (hd : decode M.2.1 pc = .ok (.isub, 1)) (k : SWr EE l D cy M d mc ms cells slots (pc + 1) L (.int (x - y) :: st) n f Q QX) : SWr EE l D cy M d mc ms cells slots pc L (.int y :: .int x :: st) n f Q QX :=
  sw_pure (fun h _ => sw_ci (sw_ct (sw_ct h))) (fun p e R s m args below meth c hx hb ho hw u H locs ls hl Z kk => lv_isub hx hb hd kk) k
theorem sw_imul {x y : Int32} (hd : decode M.2.1 pc = .ok (.imul, 1)) (k : SWr EE l D cy M d mc ms cells slots (pc + 1) L (.int (x * y) :: st) n f Q QX) : SWr EE l D cy M d mc ms cells slots pc L (.int y :: .int x :: st) n f Q QX :=
  sw_pure (fun h _ => sw_ci (sw_ct (sw_ct h))) (fun p e R s m args below meth c hx hb ho hw u H locs ls hl Z kk => lv_imul hx hb hd kk) k
theorem sw_iand {x y : Int32} (hd : decode M.2.1 pc = .ok (.iand, 1)) (k : SWr EE l D cy M d mc ms cells slots (pc + 1) L (.int (x &&& y) :: st) n f Q QX) : SWr EE l D cy M d mc ms cells slots pc L (.int y :: .int x :: st) n f Q QX :=
  sw_pure (fun h _ => sw_ci (sw_ct (sw_ct h))) (fun p e R s m args below meth c hx hb ho hw u H locs ls hl Z kk => lv_iand hx hb hd kk) k
theorem sw_ior {x y : Int32} (hd : decode M.2.1 pc = .ok (.ior, 1)) (k : SWr EE l D cy M d mc ms cells slots (pc + 1) L (.int (x ||| y) :: st) n f Q QX) : SWr EE l D cy M d mc ms cells slots pc L (.int y :: .int x :: st) n f Q QX :=
  sw_pure (fun h _ => sw_ci (sw_ct (sw_ct h))) (fun p e R s m args below meth c hx hb ho hw u H locs ls hl Z kk => lv_ior hx hb hd kk) k
theorem sw_idiv {x y : Int32} (hd : decode M.2.1 pc = .ok (.idiv, 1)) (hne : ¬ y = 0) (k : SWr EE l D cy M d mc ms cells slots (pc + 1) L (.int (x / y) :: st) n f Q QX) : SWr EE l D cy M d mc ms cells slots pc L (.int y :: .int x :: st) n f Q QX :=
  sw_pure (fun h _ => sw_ci (sw_ct (sw_ct h))) (fun p e R s m args below meth c hx hb ho hw u H locs ls hl Z kk => lv_idiv hx hb hd hne kk) k
theorem sw_irem {x y : Int32} (hd : decode M.2.1 pc = .ok (.irem, 1)) (hne : ¬ y = 0) (k : SWr EE l D cy M d mc ms cells slots (pc + 1) L (.int (x - x / y * y) :: st) n f Q QX) : SWr EE l D cy M d mc ms cells slots pc L (.int y :: .int x :: st) n f Q QX :=
  sw_pure (fun h _ => sw_ci (sw_ct (sw_ct h))) (fun p e R s m args below meth c hx hb ho hw u H locs ls hl Z kk => lv_irem hx hb hd hne kk) k
theorem sw_ladd {x y : Int64} (hd : decode M.2.1 pc = .ok (.ladd, 1)) (k : SWr EE l D cy M d mc ms cells slots (pc + 1) L (.long (x + y) :: st) n f Q QX) : SWr EE l D cy M d mc ms cells slots pc L (.long y :: .long x :: st) n f Q QX :=
  sw_pure (fun h _ => sw_cl (sw_ct (sw_ct h))) (fun p e R s m args below meth c hx hb ho hw u H locs ls hl Z kk => lv_ladd hx hb hd kk) k
theorem sw_lsub {x y : Int64} (hd : decode M.2.1 pc = .ok (.lsub, 1)) (k : SWr EE l D cy M d mc ms cells slots (pc + 1) L (.long (x - y) :: st) n f Q QX) : SWr EE l D cy M d mc ms cells slots pc L (.long y :: .long x :: st) n f Q QX :=
  sw_pure (fun h _ => sw_cl (sw_ct (sw_ct h))) (fun p e R s m args below meth c hx hb ho hw u H locs ls hl Z kk => lv_lsub hx hb hd kk) k
theorem sw_land {x y : Int64} (hd : decode M.2.1 pc = .ok (.land, 1)) (k : SWr EE l D cy M d mc ms cells slots (pc + 1) L (.long (x &&& y) :: st) n f Q QX) : SWr EE l D cy M d mc ms cells slots pc L (.long y :: .long x :: st) n f Q QX :=
  sw_pure (fun h _ => sw_cl (sw_ct (sw_ct h))) (fun p e R s m args below meth c hx hb ho hw u H locs ls hl Z kk => lv_land hx hb hd kk) k
theorem sw_lor {x y : Int64} (hd : decode M.2.1 pc = .ok (.lor, 1)) (k : SWr EE l D cy M d mc ms cells slots (pc + 1) L (.long (x ||| y) :: st) n f Q QX) : SWr EE l D cy M d mc ms cells slots pc L (.long y :: .long x :: st) n f Q QX :=
  sw_pure (fun h _ => sw_cl (sw_ct (sw_ct h))) (fun p e R s m args below meth c hx hb ho hw u H locs ls hl Z kk => lv_lor hx hb hd kk) k
theorem sw_lushr {x : Int64} {y : Int32} (hd : decode M.2.1 pc = .ok (.lushr, 1)) (k : SWr EE l D cy M d mc ms cells slots (pc + 1) L (.long ((x.toUInt64 >>> (y.toInt64.toUInt64 &&& Int64.toUInt64 63)).toInt64) :: st) n f Q QX) : SWr EE l D cy M d mc ms cells slots pc L (.int y :: .long x :: st) n f Q QX :=
  sw_pure (fun h _ => sw_cl (sw_ct (sw_ct h))) (fun p e R s m args below meth c hx hb ho hw u H locs ls hl Z kk => lv_lushr hx hb hd rfl kk) k
theorem sw_lshl {x : Int64} {y : Int32} (hd : decode M.2.1 pc = .ok (.lshl, 1)) (k : SWr EE l D cy M d mc ms cells slots (pc + 1) L (.long (x <<< (y.toInt64 &&& 63)) :: st) n f Q QX) : SWr EE l D cy M d mc ms cells slots pc L (.int y :: .long x :: st) n f Q QX :=
  sw_pure (fun h _ => sw_cl (sw_ct (sw_ct h))) (fun p e R s m args below meth c hx hb ho hw u H locs ls hl Z kk => lv_lshl hx hb hd rfl kk) k
theorem sw_lshr {x : Int64} {y : Int32} (hd : decode M.2.1 pc = .ok (.lshr, 1)) (k : SWr EE l D cy M d mc ms cells slots (pc + 1) L (.long (x >>> (y.toInt64 &&& 63)) :: st) n f Q QX) : SWr EE l D cy M d mc ms cells slots pc L (.int y :: .long x :: st) n f Q QX :=
  sw_pure (fun h _ => sw_cl (sw_ct (sw_ct h))) (fun p e R s m args below meth c hx hb ho hw u H locs ls hl Z kk => lv_lshr hx hb hd rfl kk) k
theorem sw_i2l {x : Int32} (hd : decode M.2.1 pc = .ok (.i2l, 1)) (k : SWr EE l D cy M d mc ms cells slots (pc + 1) L (.long x.toInt64 :: st) n f Q QX) : SWr EE l D cy M d mc ms cells slots pc L (.int x :: st) n f Q QX :=
  sw_pure (fun h _ => sw_cl (sw_ct h)) (fun p e R s m args below meth c hx hb ho hw u H locs ls hl Z kk => lv_i2l hx hb hd rfl kk) k
theorem sw_l2i {x : Int64} (hd : decode M.2.1 pc = .ok (.l2i, 1)) (k : SWr EE l D cy M d mc ms cells slots (pc + 1) L (.int x.toInt32 :: st) n f Q QX) : SWr EE l D cy M d mc ms cells slots pc L (.long x :: st) n f Q QX :=
  sw_pure (fun h _ => sw_ci (sw_ct h)) (fun p e R s m args below meth c hx hb ho hw u H locs ls hl Z kk => lv_l2i hx hb hd rfl kk) k
theorem sw_i2c {x : Int32} (hd : decode M.2.1 pc = .ok (.i2c, 1)) (k : SWr EE l D cy M d mc ms cells slots (pc + 1) L (.int (x.toUInt32 % 65536).toInt32 :: st) n f Q QX) : SWr EE l D cy M d mc ms cells slots pc L (.int x :: st) n f Q QX :=
  sw_pure (fun h _ => sw_ci (sw_ct h)) (fun p e R s m args below meth c hx hb ho hw u H locs ls hl Z kk => lv_i2c hx hb hd rfl kk) k
theorem sw_lcmp {x y : Int64} (hd : decode M.2.1 pc = .ok (.lcmp, 1)) (k : SWr EE l D cy M d mc ms cells slots (pc + 1) L (.int (lg_cmp x y) :: st) n f Q QX) : SWr EE l D cy M d mc ms cells slots pc L (.long y :: .long x :: st) n f Q QX :=
  sw_pure (fun h _ => sw_ci (sw_ct (sw_ct h))) (fun p e R s m args below meth c hx hb ho hw u H locs ls hl Z kk => W.lcmp hx hb hd kk) k
theorem sw_dup {v : Value} (hd : decode M.2.1 pc = .ok (.dup, 1)) (hv : v.category = 1) (k : SWr EE l D cy M d mc ms cells slots (pc + 1) L (v :: v :: st) n f Q QX) : SWr EE l D cy M d mc ms cells slots pc L (v :: st) n f Q QX :=
  sw_pure (fun h _ => sw_cc (sw_ch h) h) (fun p e R s m args below meth c hx hb ho hw u H locs ls hl Z kk => lv_dup hx hb hd (by rw [sw_v_cat]; exact hv) kk) k
theorem sw_pop {v : Value} (hd : decode M.2.1 pc = .ok (.pop, 1)) (hv : v.category = 1) (k : SWr EE l D cy M d mc ms cells slots (pc + 1) L (st) n f Q QX) : SWr EE l D cy M d mc ms cells slots pc L (v :: st) n f Q QX :=
  sw_pure (fun h _ => sw_ct h) (fun p e R s m args below meth c hx hb ho hw u H locs ls hl Z kk => lv_pop hx hb hd (by rw [sw_v_cat]; exact hv) kk) k
theorem sw_dup2 {v w : Value} (hd : decode M.2.1 pc = .ok (.dup2, 1)) (hv : v.category = 1) (hw : w.category = 1) (k : SWr EE l D cy M d mc ms cells slots (pc + 1) L (v :: w :: v :: w :: st) n f Q QX) : SWr EE l D cy M d mc ms cells slots pc L (v :: w :: st) n f Q QX :=
  sw_pure (fun h _ => sw_cc (sw_ch h) (sw_cc (sw_ch (sw_ct h)) h)) (fun p e R s m args below meth c hx hb ho hw u H locs ls hl Z kk => lv_dup2_11 hx hb hd (by rw [sw_v_cat]; exact hv) (by rw [sw_v_cat]; exact (by assumption)) kk) k
theorem sw_goto {off : Int} (tgt : Nat) (hd : decode M.2.1 pc = .ok (.goto off, 3)) (ht : (pc : Int) + off = (tgt : Int)) (k : SWr EE l D cy M d mc ms cells slots tgt L (st) n f Q QX) : SWr EE l D cy M d mc ms cells slots pc L (st) n f Q QX :=
  sw_pure (fun h _ => h) (fun p e R s m args below meth c hx hb ho hw u H locs ls hl Z kk => lv_goto hx hb hd ht kk) k
theorem sw_ifnullR {off : Int} {a : Nat} (hd : decode M.2.1 pc = .ok (.ifnull off, 3)) (k : SWr EE l D cy M d mc ms cells slots (pc + 3) L (st) n f Q QX) : SWr EE l D cy M d mc ms cells slots pc L (.ref a :: st) n f Q QX :=
  sw_pure (fun h _ => sw_ct h) (fun p e R s m args below meth c hx hb ho hw u H locs ls hl Z kk => lv_ifnull hx hb hd kk) k
theorem sw_ifnullN {off : Int} (tgt : Nat) (hd : decode M.2.1 pc = .ok (.ifnull off, 3)) (ht : (pc : Int) + off = (tgt : Int)) (k : SWr EE l D cy M d mc ms cells slots tgt L (st) n f Q QX) : SWr EE l D cy M d mc ms cells slots pc L (.null :: st) n f Q QX :=
  sw_pure (fun h _ => sw_ct h) (fun p e R s m args below meth c hx hb ho hw u H locs ls hl Z kk => lv_ifnullN hx hb hd ht kk) k
theorem sw_ifnonnullR {off : Int} {a : Nat} (tgt : Nat) (hd : decode M.2.1 pc = .ok (.ifnonnull off, 3)) (ht : (pc : Int) + off = (tgt : Int)) (k : SWr EE l D cy M d mc ms cells slots tgt L (st) n f Q QX) : SWr EE l D cy M d mc ms cells slots pc L (.ref a :: st) n f Q QX :=
  sw_pure (fun h _ => sw_ct h) (fun p e R s m args below meth c hx hb ho hw u H locs ls hl Z kk => lv_ifnonnull hx hb hd ht kk) k
theorem sw_ifnonnullN {off : Int} (hd : decode M.2.1 pc = .ok (.ifnonnull off, 3)) (k : SWr EE l D cy M d mc ms cells slots (pc + 3) L (st) n f Q QX) : SWr EE l D cy M d mc ms cells slots pc L (.null :: st) n f Q QX :=
  sw_pure (fun h _ => sw_ct h) (fun p e R s m args below meth c hx hb ho hw u H locs ls hl Z kk => lv_ifnonnullN hx hb hd kk) k
theorem sw_if_eq {x : Int32} {off : Int} (tgt : Nat) (hd : decode M.2.1 pc = .ok (.ifCond .eq off, 3)) (ht : (pc : Int) + off = (tgt : Int)) (kt : x = 0 → SWr EE l D cy M d mc ms cells slots tgt L st n f Q QX) (kf : ¬ x = 0 → SWr EE l D cy M d mc ms cells slots (pc + 3) L st n f Q QX) : SWr EE l D cy M d mc ms cells slots pc L (.int x :: st) n f Q QX := by
  intro p e R s m args below meth c F A hA hEE u0 n0 u hn hu H locs hat hst hL ls hl Z hZ
  exact lv_if_eq F.1 F.2.1 hd ht (fun h => kt h p e R s m args below meth c F A hA hEE u0 n0 u hn hu H locs hat (sw_ct hst) hL ls hl Z hZ) (fun h => kf h p e R s m args below meth c F A hA hEE u0 n0 u hn hu H locs hat (sw_ct hst) hL ls hl Z hZ)
theorem sw_if_ne {x : Int32} {off : Int} (tgt : Nat) (hd : decode M.2.1 pc = .ok (.ifCond .ne off, 3)) (ht : (pc : Int) + off = (tgt : Int)) (kt : ¬ x = 0 → SWr EE l D cy M d mc ms cells slots tgt L st n f Q QX) (kf : x = 0 → SWr EE l D cy M d mc ms cells slots (pc + 3) L st n f Q QX) : SWr EE l D cy M d mc ms cells slots pc L (.int x :: st) n f Q QX := by
  intro p e R s m args below meth c F A hA hEE u0 n0 u hn hu H locs hat hst hL ls hl Z hZ
  exact lv_if_ne F.1 F.2.1 hd ht (fun h => kt h p e R s m args below meth c F A hA hEE u0 n0 u hn hu H locs hat (sw_ct hst) hL ls hl Z hZ) (fun h => kf h p e R s m args below meth c F A hA hEE u0 n0 u hn hu H locs hat (sw_ct hst) hL ls hl Z hZ)
theorem sw_if_lt {x : Int32} {off : Int} (tgt : Nat) (hd : decode M.2.1 pc = .ok (.ifCond .lt off, 3)) (ht : (pc : Int) + off = (tgt : Int)) (kt : x < 0 → SWr EE l D cy M d mc ms cells slots tgt L st n f Q QX) (kf : ¬ x < 0 → SWr EE l D cy M d mc ms cells slots (pc + 3) L st n f Q QX) : SWr EE l D cy M d mc ms cells slots pc L (.int x :: st) n f Q QX := by
  intro p e R s m args below meth c F A hA hEE u0 n0 u hn hu H locs hat hst hL ls hl Z hZ
  exact lv_if_lt F.1 F.2.1 hd ht (fun h => kt h p e R s m args below meth c F A hA hEE u0 n0 u hn hu H locs hat (sw_ct hst) hL ls hl Z hZ) (fun h => kf h p e R s m args below meth c F A hA hEE u0 n0 u hn hu H locs hat (sw_ct hst) hL ls hl Z hZ)
theorem sw_if_ge {x : Int32} {off : Int} (tgt : Nat) (hd : decode M.2.1 pc = .ok (.ifCond .ge off, 3)) (ht : (pc : Int) + off = (tgt : Int)) (kt : 0 ≤ x → SWr EE l D cy M d mc ms cells slots tgt L st n f Q QX) (kf : ¬ 0 ≤ x → SWr EE l D cy M d mc ms cells slots (pc + 3) L st n f Q QX) : SWr EE l D cy M d mc ms cells slots pc L (.int x :: st) n f Q QX := by
  intro p e R s m args below meth c F A hA hEE u0 n0 u hn hu H locs hat hst hL ls hl Z hZ
  exact lv_if_ge F.1 F.2.1 hd ht (fun h => kt h p e R s m args below meth c F A hA hEE u0 n0 u hn hu H locs hat (sw_ct hst) hL ls hl Z hZ) (fun h => kf h p e R s m args below meth c F A hA hEE u0 n0 u hn hu H locs hat (sw_ct hst) hL ls hl Z hZ)
theorem sw_if_gt {x : Int32} {off : Int} (tgt : Nat) (hd : decode M.2.1 pc = .ok (.ifCond .gt off, 3)) (ht : (pc : Int) + off = (tgt : Int)) (kt : 0 < x → SWr EE l D cy M d mc ms cells slots tgt L st n f Q QX) (kf : ¬ 0 < x → SWr EE l D cy M d mc ms cells slots (pc + 3) L st n f Q QX) : SWr EE l D cy M d mc ms cells slots pc L (.int x :: st) n f Q QX := by
  intro p e R s m args below meth c F A hA hEE u0 n0 u hn hu H locs hat hst hL ls hl Z hZ
  exact lv_if_gt F.1 F.2.1 hd ht (fun h => kt h p e R s m args below meth c F A hA hEE u0 n0 u hn hu H locs hat (sw_ct hst) hL ls hl Z hZ) (fun h => kf h p e R s m args below meth c F A hA hEE u0 n0 u hn hu H locs hat (sw_ct hst) hL ls hl Z hZ)
theorem sw_if_le {x : Int32} {off : Int} (tgt : Nat) (hd : decode M.2.1 pc = .ok (.ifCond .le off, 3)) (ht : (pc : Int) + off = (tgt : Int)) (kt : x ≤ 0 → SWr EE l D cy M d mc ms cells slots tgt L st n f Q QX) (kf : ¬ x ≤ 0 → SWr EE l D cy M d mc ms cells slots (pc + 3) L st n f Q QX) : SWr EE l D cy M d mc ms cells slots pc L (.int x :: st) n f Q QX := by
  intro p e R s m args below meth c F A hA hEE u0 n0 u hn hu H locs hat hst hL ls hl Z hZ
  exact lv_if_le F.1 F.2.1 hd ht (fun h => kt h p e R s m args below meth c F A hA hEE u0 n0 u hn hu H locs hat (sw_ct hst) hL ls hl Z hZ) (fun h => kf h p e R s m args below meth c F A hA hEE u0 n0 u hn hu H locs hat (sw_ct hst) hL ls hl Z hZ)
theorem sw_icmp_eq {x y : Int32} {off : Int} (tgt : Nat) (hd : decode M.2.1 pc = .ok (.if_icmp .eq off, 3)) (ht : (pc : Int) + off = (tgt : Int)) (kt : x = y → SWr EE l D cy M d mc ms cells slots tgt L st n f Q QX) (kf : ¬ x = y → SWr EE l D cy M d mc ms cells slots (pc + 3) L st n f Q QX) : SWr EE l D cy M d mc ms cells slots pc L (.int y :: .int x :: st) n f Q QX := by
  intro p e R s m args below meth c F A hA hEE u0 n0 u hn hu H locs hat hst hL ls hl Z hZ
  exact lv_icmp_eq F.1 F.2.1 hd ht (fun h => kt h p e R s m args below meth c F A hA hEE u0 n0 u hn hu H locs hat (sw_ct (sw_ct hst)) hL ls hl Z hZ) (fun h => kf h p e R s m args below meth c F A hA hEE u0 n0 u hn hu H locs hat (sw_ct (sw_ct hst)) hL ls hl Z hZ)
theorem sw_icmp_ne {x y : Int32} {off : Int} (tgt : Nat) (hd : decode M.2.1 pc = .ok (.if_icmp .ne off, 3)) (ht : (pc : Int) + off = (tgt : Int)) (kt : ¬ x = y → SWr EE l D cy M d mc ms cells slots tgt L st n f Q QX) (kf : x = y → SWr EE l D cy M d mc ms cells slots (pc + 3) L st n f Q QX) : SWr EE l D cy M d mc ms cells slots pc L (.int y :: .int x :: st) n f Q QX := by
  intro p e R s m args below meth c F A hA hEE u0 n0 u hn hu H locs hat hst hL ls hl Z hZ
  exact lv_icmp_ne F.1 F.2.1 hd ht (fun h => kt h p e R s m args below meth c F A hA hEE u0 n0 u hn hu H locs hat (sw_ct (sw_ct hst)) hL ls hl Z hZ) (fun h => kf h p e R s m args below meth c F A hA hEE u0 n0 u hn hu H locs hat (sw_ct (sw_ct hst)) hL ls hl Z hZ)
theorem sw_icmp_lt {x y : Int32} {off : Int} (tgt : Nat) (hd : decode M.2.1 pc = .ok (.if_icmp .lt off, 3)) (ht : (pc : Int) + off = (tgt : Int)) (kt : x < y → SWr EE l D cy M d mc ms cells slots tgt L st n f Q QX) (kf : ¬ x < y → SWr EE l D cy M d mc ms cells slots (pc + 3) L st n f Q QX) : SWr EE l D cy M d mc ms cells slots pc L (.int y :: .int x :: st) n f Q QX := by
  intro p e R s m args below meth c F A hA hEE u0 n0 u hn hu H locs hat hst hL ls hl Z hZ
  exact lv_icmp_lt F.1 F.2.1 hd ht (fun h => kt h p e R s m args below meth c F A hA hEE u0 n0 u hn hu H locs hat (sw_ct (sw_ct hst)) hL ls hl Z hZ) (fun h => kf h p e R s m args below meth c F A hA hEE u0 n0 u hn hu H locs hat (sw_ct (sw_ct hst)) hL ls hl Z hZ)
theorem sw_icmp_ge {x y : Int32} {off : Int} (tgt : Nat) (hd : decode M.2.1 pc = .ok (.if_icmp .ge off, 3)) (ht : (pc : Int) + off = (tgt : Int)) (kt : y ≤ x → SWr EE l D cy M d mc ms cells slots tgt L st n f Q QX) (kf : ¬ y ≤ x → SWr EE l D cy M d mc ms cells slots (pc + 3) L st n f Q QX) : SWr EE l D cy M d mc ms cells slots pc L (.int y :: .int x :: st) n f Q QX := by
  intro p e R s m args below meth c F A hA hEE u0 n0 u hn hu H locs hat hst hL ls hl Z hZ
  exact lv_icmp_ge F.1 F.2.1 hd ht (fun h => kt h p e R s m args below meth c F A hA hEE u0 n0 u hn hu H locs hat (sw_ct (sw_ct hst)) hL ls hl Z hZ) (fun h => kf h p e R s m args below meth c F A hA hEE u0 n0 u hn hu H locs hat (sw_ct (sw_ct hst)) hL ls hl Z hZ)
theorem sw_icmp_gt {x y : Int32} {off : Int} (tgt : Nat) (hd : decode M.2.1 pc = .ok (.if_icmp .gt off, 3)) (ht : (pc : Int) + off = (tgt : Int)) (kt : y < x → SWr EE l D cy M d mc ms cells slots tgt L st n f Q QX) (kf : ¬ y < x → SWr EE l D cy M d mc ms cells slots (pc + 3) L st n f Q QX) : SWr EE l D cy M d mc ms cells slots pc L (.int y :: .int x :: st) n f Q QX := by
  intro p e R s m args below meth c F A hA hEE u0 n0 u hn hu H locs hat hst hL ls hl Z hZ
  exact lv_icmp_gt F.1 F.2.1 hd ht (fun h => kt h p e R s m args below meth c F A hA hEE u0 n0 u hn hu H locs hat (sw_ct (sw_ct hst)) hL ls hl Z hZ) (fun h => kf h p e R s m args below meth c F A hA hEE u0 n0 u hn hu H locs hat (sw_ct (sw_ct hst)) hL ls hl Z hZ)
theorem sw_icmp_le {x y : Int32} {off : Int} (tgt : Nat) (hd : decode M.2.1 pc = .ok (.if_icmp .le off, 3)) (ht : (pc : Int) + off = (tgt : Int)) (kt : x ≤ y → SWr EE l D cy M d mc ms cells slots tgt L st n f Q QX) (kf : ¬ x ≤ y → SWr EE l D cy M d mc ms cells slots (pc + 3) L st n f Q QX) : SWr EE l D cy M d mc ms cells slots pc L (.int y :: .int x :: st) n f Q QX := by
  intro p e R s m args below meth c F A hA hEE u0 n0 u hn hu H locs hat hst hL ls hl Z hZ
  exact lv_icmp_le F.1 F.2.1 hd ht (fun h => kt h p e R s m args below meth c F A hA hEE u0 n0 u hn hu H locs hat (sw_ct (sw_ct hst)) hL ls hl Z hZ) (fun h => kf h p e R s m args below meth c F A hA hEE u0 n0 u hn hu H locs hat (sw_ct (sw_ct hst)) hL ls hl Z hZ)
theorem sw_istore_n {i : Fin 4} {x : Int32} (L' : sw_L) (hd : decode M.2.1 pc = .ok (.istore_n i, 1)) (hi : (i : Nat) < M.2.2.1) (he : sw_in (i : Nat) (.int x) (L.filter (sw_p1 (i : Nat))) = L') (k : SWr EE l D cy M d mc ms cells slots (pc + 1) L' st n f Q QX) : SWr EE l D cy M d mc ms cells slots pc L (.int x :: st) n f Q QX := by
  intro p e R s m args below meth c F A hA hEE u0 n0 u hn hu H locs hat hst hL ls hl Z hZ
  refine lv_istore_n F.1 F.2.1 hd rfl hl hi rfl (fun ls' hl' => ?_)
  exact k p e R s m args below meth c F A hA hEE u0 n0 u hn hu H locs hat (sw_ct hst) (sw_inC he trivial hL) ls' (sw_has (u := u) (sw_p1v (i : Nat) u) he hl') Z hZ
theorem sw_istore {i : Nat} {x : Int32} (L' : sw_L) (hd : decode M.2.1 pc = .ok (.istore i, 2)) (hi : i < M.2.2.1) (he : sw_in i (.int x) (L.filter (sw_p1 i)) = L') (k : SWr EE l D cy M d mc ms cells slots (pc + 2) L' st n f Q QX) : SWr EE l D cy M d mc ms cells slots pc L (.int x :: st) n f Q QX := by
  intro p e R s m args below meth c F A hA hEE u0 n0 u hn hu H locs hat hst hL ls hl Z hZ
  refine lv_istore F.1 F.2.1 hd hl hi rfl (fun ls' hl' => ?_)
  exact k p e R s m args below meth c F A hA hEE u0 n0 u hn hu H locs hat (sw_ct hst) (sw_inC he trivial hL) ls' (sw_has (u := u) (sw_p1v i u) he hl') Z hZ
theorem sw_lstore_n {i : Fin 4} {x : Int64} (L' : sw_L) (hd : decode M.2.1 pc = .ok (.lstore_n i, 1)) (hi : (i : Nat) + 1 < M.2.2.1) (he : sw_in (i : Nat) (.long x) (L.filter (sw_p2 (i : Nat))) = L') (k : SWr EE l D cy M d mc ms cells slots (pc + 1) L' st n f Q QX) : SWr EE l D cy M d mc ms cells slots pc L (.long x :: st) n f Q QX := by
  intro p e R s m args below meth c F A hA hEE u0 n0 u hn hu H locs hat hst hL ls hl Z hZ
  refine lv_lstore_n F.1 F.2.1 hd rfl hl hi rfl (fun ls' hl' => ?_)
  exact k p e R s m args below meth c F A hA hEE u0 n0 u hn hu H locs hat (sw_ct hst) (sw_inC he trivial hL) ls' (sw_has (u := u) (sw_p2v (i : Nat) u) he hl') Z hZ
theorem sw_lstore {i : Nat} {x : Int64} (L' : sw_L) (hd : decode M.2.1 pc = .ok (.lstore i, 2)) (hi : i + 1 < M.2.2.1) (he : sw_in i (.long x) (L.filter (sw_p2 i)) = L') (k : SWr EE l D cy M d mc ms cells slots (pc + 2) L' st n f Q QX) : SWr EE l D cy M d mc ms cells slots pc L (.long x :: st) n f Q QX := by
  intro p e R s m args below meth c F A hA hEE u0 n0 u hn hu H locs hat hst hL ls hl Z hZ
  refine lv_lstore F.1 F.2.1 hd hl hi rfl (fun ls' hl' => ?_)
  exact k p e R s m args below meth c F A hA hEE u0 n0 u hn hu H locs hat (sw_ct hst) (sw_inC he trivial hL) ls' (sw_has (u := u) (sw_p2v i u) he hl') Z hZ
theorem sw_astore_n {i : Fin 4} {v : Value} (L' : sw_L) (hd : decode M.2.1 pc = .ok (.astore_n i, 1)) (hr : sw_isR v = true) (hi : (i : Nat) < M.2.2.1) (he : sw_in (i : Nat) v (L.filter (sw_p1 (i : Nat))) = L') (k : SWr EE l D cy M d mc ms cells slots (pc + 1) L' st n f Q QX) : SWr EE l D cy M d mc ms cells slots pc L (v :: st) n f Q QX := by
  intro p e R s m args below meth c F A hA hEE u0 n0 u hn hu H locs hat hst hL ls hl Z hZ
  have kk : ∀ ls' : Array Slot, lv_has ls' M.2.2.1 (((i : Nat), sw_v u v) :: (L.map (fun q => (q.1, sw_v u q.2))).filter (fun q => !(q.1 == (i : Nat)) && !(q.1 + 1 == (i : Nat) && q.2.category == 2))) → W p l e R s m args below meth c H locs cells slots Z (F0 m (pc + 1) ls' (st.map (sw_v u))) := fun ls' hl' =>
    k p e R s m args below meth c F A hA hEE u0 n0 u hn hu H locs hat (sw_ct hst) (sw_inC he (sw_ch hst) hL) ls' (sw_has (u := u) (sw_p1v (i : Nat) u) he hl') Z hZ
  cases v with
  | ref a => exact lv_astore_n F.1 F.2.1 hd rfl hl hi rfl kk
  | null => exact lv_astore_nN F.1 F.2.1 hd rfl hl hi rfl kk
  | _ => cases hr
theorem sw_astore {i : Nat} {v : Value} (L' : sw_L) (hd : decode M.2.1 pc = .ok (.astore i, 2)) (hr : sw_isR v = true) (hi : i < M.2.2.1) (he : sw_in i v (L.filter (sw_p1 i)) = L') (k : SWr EE l D cy M d mc ms cells slots (pc + 2) L' st n f Q QX) : SWr EE l D cy M d mc ms cells slots pc L (v :: st) n f Q QX := by
  intro p e R s m args below meth c F A hA hEE u0 n0 u hn hu H locs hat hst hL ls hl Z hZ
  have kk : ∀ ls' : Array Slot, lv_has ls' M.2.2.1 ((i, sw_v u v) :: (L.map (fun q => (q.1, sw_v u q.2))).filter (fun q => !(q.1 == i) && !(q.1 + 1 == i && q.2.category == 2))) → W p l e R s m args below meth c H locs cells slots Z (F0 m (pc + 2) ls' (st.map (sw_v u))) := fun ls' hl' =>
    k p e R s m args below meth c F A hA hEE u0 n0 u hn hu H locs hat (sw_ct hst) (sw_inC he (sw_ch hst) hL) ls' (sw_has (u := u) (sw_p1v i u) he hl') Z hZ
  cases v with
  | ref a => exact lv_astore F.1 F.2.1 hd hl hi rfl kk
  | null => exact lv_astoreN F.1 F.2.1 hd hl hi rfl kk
  | _ => cases hr
theorem sw_iinc {i : Nat} {q : Int} {x : Int32} (L' : sw_L) (hd : decode M.2.1 pc = .ok (.iinc i q, 3)) (hv : L.lookup i = some (.int x)) (hi : i < M.2.2.1) (he : sw_in i (.int (x + Int32.ofInt q)) (L.filter (sw_p1 i)) = L') (k : SWr EE l D cy M d mc ms cells slots (pc + 3) L' st n f Q QX) : SWr EE l D cy M d mc ms cells slots pc L st n f Q QX := by
  intro p e R s m args below meth c F A hA hEE u0 n0 u hn hu H locs hat hst hL ls hl Z hZ
  obtain ⟨j, hj⟩ := List.getElem?_of_mem (List.mem_map.mpr ⟨(i, .int x), sw_lk hv, rfl⟩ : (i, Value.int x) ∈ L.map (fun q => (q.1, sw_v u q.2)))
  refine lv_iinc F.1 F.2.1 hd hl hj rfl hi rfl (fun ls' hl' => ?_)
  exact k p e R s m args below meth c F A hA hEE u0 n0 u hn hu H locs hat hst (sw_inC he trivial hL) ls' (sw_has (u := u) (v := .int (x + Int32.ofInt q)) (sw_p1v i u) he hl') Z hZ
end SWB
