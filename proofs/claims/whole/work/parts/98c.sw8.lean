/-! ===== THE LOGIC, 8: throwing and catching ===== -/
def xIA : String := "java/lang/IllegalArgumentException"
def xIS : String := "java/lang/IllegalStateException"
def xNm : List String := ["java/lang/RuntimeException", "java/lang/Exception"]
def xI (C : String) : MethodName := ⟨C, "<init>", "(Ljava/lang/String;)V"⟩
def sw_xw : List Cond := [.castable xIA xIA, .castable xIS xIS, .declares (xI "java/lang/RuntimeException"), .declares (xI "java/lang/Exception"), .declares (xI "java/lang/Throwable")]
def sw_str : List (Nat × String) := [(110, "there are 1 to 6 levels"), (119, "this is no order"), (126, "two levels have no join or no meet"), (162, "the text is no program"), (172, "an exit label is above its policy"), (205, "the code has not its shape"), (213, "the code is not safe"), (221, "0 to 2000 instructions can be run"), (223, "the code is not accepted")]
/-- what a throw needs of the state: Throwable's statics outside A, the texts, what is no such exception -/
def sw_st (A : Nat → Prop) (U : State) : Prop := vx_Zq Bundle.tN "UNASSIGNED_STACK" Bundle.steD A U U.heap ∧ vx_Zq Bundle.tN "SUPPRESSED_SENTINEL" Bundle.listD A U U.heap ∧ (∀ q ∈ sw_str, ∃ sa, vk_R "LabelGuard" q.1 q.2 sa U) ∧ va_Nc xIA xIS U ∧ va_Nc xIS xIA U ∧ ∀ w ∈ sw_xw, w.before #[] U = true
theorem sw_xw_t {w : Cond} (h : w ∈ sw_xw) : w.onTables = true := by
  simp only [sw_xw, List.mem_cons, List.not_mem_nil, or_false] at h
  rcases h with h | h | h | h | h <;> rw [h] <;> rfl
theorem sw_xw_w {w : Cond} {s U : State} (hW : s.WarmedH U.vm) (h : w ∈ sw_xw) (hb : w.before #[] s = true) : w.before #[] U = true := by
  simp only [sw_xw, List.mem_cons, List.not_mem_nil, or_false] at h
  rcases h with h | h | h | h | h
  · rw [h] at hb ⊢; exact va_Nw.warmC hW hb
  · rw [h] at hb ⊢; exact va_Nw.warmC hW hb
  · rw [h] at hb ⊢; exact va_tabs rfl (rfl : (s.setVm U.vm).vm = U.vm) (by rw [Cond.declares_setVm hW.alike]; exact hb)
  · rw [h] at hb ⊢; exact va_tabs rfl (rfl : (s.setVm U.vm).vm = U.vm) (by rw [Cond.declares_setVm hW.alike]; exact hb)
  · rw [h] at hb ⊢; exact va_tabs rfl (rfl : (s.setVm U.vm).vm = U.vm) (by rw [Cond.declares_setVm hW.alike]; exact hb)
theorem sw_st_go {A A' : Nat → Prop} {s U : State} (hW : s.WarmedH U.vm) (hAA : ∀ q, A' q → A q) (hk : ∀ a : Nat, a < s.heap.size → ¬ A a → U.heap[a]? = s.heap[a]?) (h : sw_st A s) : sw_st A' U := by
  obtain ⟨h1, h2, h3, h4, h5, h6⟩ := h
  exact ⟨((h1.kept hk).narrow hAA).moved hW.alike, ((h2.kept hk).narrow hAA).moved hW.alike, fun q hq => by
    obtain ⟨sa, hs⟩ := h3 q hq
    exact ⟨sa, vk_R.warm hW hs⟩, h4.moved hW.alike, h5.moved hW.alike, fun w hw => sw_xw_w hW hw (h6 w hw)⟩
theorem sw_st_bl {A : Nat → Prop} {U V : State} (hv : V.vm = U.vm) (hh : V.heap = U.heap) (h : sw_st A U) : sw_st A V := by
  obtain ⟨h1, h2, h3, h4, h5, h6⟩ := h
  have al : U.vm.Alike V.vm := by rw [hv]; exact Vm.Alike.refl U.vm
  refine ⟨?_, ?_, fun q hq => ?_, h4.moved al, h5.moved al, fun w hw => va_tabs (sw_xw_t hw) hv.symm (h6 w hw)⟩
  · rw [hh]; exact h1.moved al
  · rw [hh]; exact h2.moved al
  · obtain ⟨sa, hs⟩ := h3 q hq
    exact ⟨sa, vk_R.same hv hs⟩
def sw_PcX (D : va_G) (cy : Nat → ClassId) (u : Nat → Nat) (n : Nat) (f : sw_F) (sz : Nat) (args : List Value) : Array Value → State → Prop :=
  va_Pc (args.map (sw_v u)) (fun U => U.heap.size = sz ∧ va_P D sw_cls (sw_w u cy n f) U.heap ∧ va_K D sw_cls (sw_tys cy) U ∧ (∀ w ∈ sw_nest, va_Nw w U) ∧ va_D (fun _ => True) (sw_w u cy n f) ∧ sw_st (va_A (sw_w u cy n f) sz) U)
theorem sw_blindX {D : va_G} {cy : Nat → ClassId} {u : Nat → Nat} {n : Nat} {f : sw_F} {sz : Nat} {args : List Value} : FrameBlind (sw_PcX D cy u n f sz args) := fun a U g mk q => by
  obtain ⟨q0, q1, qP, qK, qN, qD, qS⟩ := q
  exact ⟨q0, q1, qP, va_K.moved (u := U) (U := U.calling g mk a) (Vm.Alike.refl U.vm) qK, fun w hw => sw_nest_same hw (show U.vm = (U.calling g mk a).vm from rfl) (qN w hw), qD, sw_st_bl (U := U) (V := U.calling g mk a) rfl rfl qS⟩
def sw_wsH (M : sw_MD) (hh : List (Nat × Nat × Nat × Nat)) : List Cond := .codeWith M.1 M.2.1 M.2.2.1 M.2.2.2 hh :: sw_lwg
/-- a method that returns with Q or throws with QX -/
def sw_CtX (l : Launch) (D : va_G) (cy : Nat → ClassId) (M : sw_MD) (d mc ms : Nat) (args : List Value) (n : Nat) (f : sw_F) (Q : sw_Q) (QX : sw_QX) : Prop :=
  ∀ (u : Nat → Nat) (sz : Nat), (∀ i, i < n → sw_ce n (f i)) → (∀ v ∈ args, sw_c n v) → vx_Met l M.1 (sw_ws M) (sw_rm d mc ms) (sw_PcX D cy u n f sz args) (sw_R D cy (va_A (sw_w u cy n f) sz) u n Q) (sw_X D cy (va_A (sw_w u cy n f) sz) u n QX) mc ms (va_A (sw_w u cy n f) sz)
/-- a method with a table of handlers, that returns -/
def sw_CtH (l : Launch) (D : va_G) (cy : Nat → ClassId) (M : sw_MD) (hh : List (Nat × Nat × Nat × Nat)) (d mc ms : Nat) (args : List Value) (n : Nat) (f : sw_F) (Q : sw_Q) : Prop :=
  ∀ (u : Nat → Nat) (sz : Nat), (∀ i, i < n → sw_ce n (f i)) → (∀ v ∈ args, sw_c n v) → vx_Met l M.1 (sw_wsH M hh) (sw_rm d mc ms) (sw_PcX D cy u n f sz args) (sw_R D cy (va_A (sw_w u cy n f) sz) u n Q) (sw_X D cy (va_A (sw_w u cy n f) sz) u n (fun _ _ _ => False)) mc ms (va_A (sw_w u cy n f) sz)
def eX : sw_E := fun s A _ c => sw_st A s ∧ ∀ x ∈ c.exceptionTable.toList, False
def eH (hh : List (Nat × Nat × Nat × Nat)) : sw_E := fun s A _ c => sw_st A s ∧ c.exceptionTable.toList = tableOf hh
theorem sw_args_in {q : Nat × Value} : ∀ (i : Nat) (vs : List Value), q ∈ lv_args i vs → q.2 ∈ vs := by
  intro i vs
  induction vs generalizing i with
  | nil => intro hq; cases hq
  | cons v vs ih =>
    intro hq
    rcases List.mem_cons.mp hq with h | h
    · rw [h]; exact List.mem_cons_self
    · exact List.mem_cons_of_mem _ (ih _ h)
theorem sw_ofX {l : Launch} {D : va_G} {cy : Nat → ClassId} {M : sw_MD} {d mc ms : Nat} {args : List Value} {n : Nat} {f : sw_F} {Q : sw_Q} {QX : sw_QX} (hy : plainName M.1.cls = true) (hlen : (lg_sl args).length ≤ M.2.2.1)
    (h : SWr eX l D cy M d mc ms 0 0 0 (lv_args 0 args) [] n f Q QX) : sw_CtX l D cy M d mc ms args n f Q QX := by
  intro u sz hce hca
  refine vx_ofW (cc := M.2.1) (maxL := M.2.2.1) (ret := M.2.2.2) hy rfl ?_
  intro p e s m args' below meth c s₁ B hml ht hv
  obtain ⟨rfl, hsz, hP, hK, hN, hD0, hst⟩ := hv
  subst hsz
  have hts := atoms_spec (ws := sw_ws M) B.pre
  rw [lg_entry_eq]
  have hl := lv_entry (args.map (sw_v u)) (n := M.2.2.1) (by rw [sw_sl]; exact hlen)
  rw [sw_args] at hl
  exact h p e (headSpec (sw_ws M) (sw_rm d mc ms)).room s m (args.map (sw_v u)).toArray below meth c ⟨B.exec, B.bytes, hml, B.returns, findClass_of_methodNamed B.named, fun w hw => hts w (List.mem_cons_of_mem _ hw), hN, hK, B.notSynchronized, (name_of_methodNamed B.named B.method).1, rfl, rfl, Nat.le_refl _, Nat.le_refl _⟩ (va_A (sw_w u cy n f) s.heap.size) (fun q hq => Or.inr hq) ⟨hst, ht⟩ u n u (Nat.le_refl n) (fun _ _ => rfl) s.heap [] ⟨hP, hD0.self, va_S.rf, hce⟩ (fun v hv => (by cases hv)) (fun q hq => hca _ (sw_args_in 0 args hq)) _ hl _ (fun t ht => ht)
theorem sw_ofH {l : Launch} {D : va_G} {cy : Nat → ClassId} {M : sw_MD} {hh : List (Nat × Nat × Nat × Nat)} {d mc ms : Nat} {args : List Value} {n : Nat} {f : sw_F} {Q : sw_Q} (hy : plainName M.1.cls = true) (hlen : (lg_sl args).length ≤ M.2.2.1)
    (h : SWr (eH hh) l D cy M d mc ms 0 0 0 (lv_args 0 args) [] n f Q (fun _ _ _ => False)) : sw_CtH l D cy M hh d mc ms args n f Q := by
  intro u sz hce hca
  refine vx_ofWH (cc := M.2.1) (maxL := M.2.2.1) (ret := M.2.2.2) (hh := hh) hy rfl ?_
  intro p e s m args' below meth c s₁ B hml hv
  obtain ⟨rfl, hsz, hP, hK, hN, hD0, hst⟩ := hv
  subst hsz
  have hts := atoms_spec (ws := sw_wsH M hh) B.pre
  have ht := vx_table (x := M.1) B (hts _ List.mem_cons_self)
  rw [lg_entry_eq]
  have hl := lv_entry (args.map (sw_v u)) (n := M.2.2.1) (by rw [sw_sl]; exact hlen)
  rw [sw_args] at hl
  exact h p e (headSpec (sw_wsH M hh) (sw_rm d mc ms)).room s m (args.map (sw_v u)).toArray below meth c ⟨B.exec, B.bytes, hml, B.returns, findClass_of_methodNamed B.named, fun w hw => hts w (List.mem_cons_of_mem _ hw), hN, hK, B.notSynchronized, (name_of_methodNamed B.named B.method).1, rfl, rfl, Nat.le_refl _, Nat.le_refl _⟩ (va_A (sw_w u cy n f) s.heap.size) (fun q hq => Or.inr hq) ⟨hst, ht⟩ u n u (Nat.le_refl n) (fun _ _ => rfl) s.heap [] ⟨hP, hD0.self, va_S.rf, hce⟩ (fun v hv => (by cases hv)) (fun q hq => hca _ (sw_args_in 0 args hq)) _ hl _ (fun t ht => ht)
section SWX
variable {EE : sw_E} {l : Launch} {D : va_G} {cy : Nat → ClassId} {M : sw_MD} {d mc ms cells slots pc : Nat} {L : sw_L} {st : List Value} {n : Nat} {f : sw_F} {Q : sw_Q} {QX : sw_QX}
/-- a throw of a new exception with a text -/
theorem sw_throw {ik is ic : Nat} {cls text : String} (hl : l.stackTraces = false) (hM : M.1.cls = "LabelGuard") (hfit : Bundle.fit cls = true) (hk : Cond.classLink "LabelGuard" ik cls ∈ sw_lwg) (hini : Cond.initialized cls ∈ sw_lwg) (hs : (is, text) ∈ sw_str)
    (hat1 : ∀ w ∈ (vx_atS "LabelGuard" ic cls xNm).filter goodWord, w ∈ sw_lwg) (hat2 : ∀ w ∈ (vx_atS "LabelGuard" ic cls xNm).filter (fun w => !goodWord w), w ∈ sw_xw) (hgood : ∀ w ∈ Cond.classLink "LabelGuard" ik cls :: Cond.initialized cls :: vx_atS "LabelGuard" ic cls xNm, vx_ot w = true)
    (d0 : decode M.2.1 pc = .ok (.new ik, 3)) (d3 : decode M.2.1 (pc + 3) = .ok (.dup, 1)) (d4 : decode M.2.1 (pc + 4) = .ok (.ldc is, 2)) (d6 : decode M.2.1 (pc + 6) = .ok (.invokespecial ic, 3)) (d9 : decode M.2.1 (pc + 9) = .ok (.athrow, 1))
    (hd : 6 ≤ d) (hr : (st.map fun v => v.category).sum ≤ 8) (hc : cells + 1 ≤ mc) (hsl : slots + 6 ≤ ms) (hq : QX cls n f) : SWr eX l D cy M d mc ms cells slots pc L st n f Q QX := by
  intro p e R s m args below meth c F A hA hEE u0 n0 u hn hu H locs hat hst hL ls hl2 Z hZ
  obtain ⟨⟨zU, zN, zs, zc1, zc2, zw⟩, ht⟩ := hEE
  obtain ⟨sa, hsa⟩ := zs _ hs
  have hw := F.2.2.2.2.2.1
  have hown := F.2.2.2.2.1
  rw [hM] at hown
  have hfr := F.2.2.2.2.2.2.2.2.2.2.2.2.1
  have hlo := F.2.2.2.2.2.2.2.2.2.2.2.2.2
  intro T hT X
  obtain ⟨t, a1, b1⟩ := vx_throwS (XC := sw_X D cy A u0 n0 QX) (Qc := sw_R D cy A u0 n0 Q) (free := A) (mc := mc) (ms := ms) (names := xNm) (rest := st.map (sw_v u)) (ls := ls) (pc := pc) F.1 F.2.1 hl hown hfit (by decide) (hw _ hk) (hw _ hini) hsa
    (vx_hat (fun w h => hw w (hat1 w h)) hat2 (fun w h => va_tabs (sw_xw_t h) rfl (zw w h))) hgood zU zN hat.2.2.1 (hl2.1.trans F.2.2.1.symm) d0 d3 d4 d6 d9 (fun x hx => (ht x hx).elim)
    (by show 2 + 3 < R.frames; omega) (by rw [sw_cats]; show _ + (13 * (2 + 1) + 43) ≤ R.locals; omega) (by rw [F.2.2.2.2.2.2.2.2.2.2.1]; exact hc) (by rw [F.2.2.2.2.2.2.2.2.2.2.2.1]; exact hsl) F.2.2.2.2.2.2.2.2.1
    (fun t hal hsz hold => ⟨u, n, f, hq, hn, hu, hat.1.kept (fun k x hx => hold x.1 ((hat.1 k x hx).lt)), hat.2.1, hat.2.2.2, ⟨Nat.le_trans hat.2.2.1.1 hsz, fun q h1 h2 => (hold q (Nat.lt_of_lt_of_le h1 hat.2.2.1.1)).trans (hat.2.2.1.2.1 q h1 h2)⟩⟩) hat.2.2.1.2.2 hc hsl T hT X
  exact ⟨t, a1, hZ t b1⟩
/-- a call of a method that may throw, from one that catches both kinds -/
theorem sw_callVX {idx ci a d' mc' ms' na pc1 pc2 e0 : Nat} {M' : sw_MD} {As rest stk : List Value} {fs : List Value} {Q' : sw_Q} {QX' : sw_QX} (hd : decode M.2.1 pc = .ok (.invokevirtual idx, 3)) (hc : sw_cv M.1.cls idx M') (hm : sw_mf M' na) (hC : ∃ q, sw_cls[ci]? = some q ∧ q.1 = M'.1.cls) (ha : f a = .inr (ci, fs))
    (hM : sw_CtX l D cy M' d' mc' ms' (.ref a :: As) n f Q' QX') (hdd : d' + 1 ≤ d) (hcl : cells + mc' ≤ mc ∧ slots + ms' ≤ ms) (hs : stk = As.reverse ++ .ref a :: rest) (hna : As.length = na) (hr : (rest.map fun v => v.category).sum ≤ 8)
    (hpc : pc < e0) (hk1 : Cond.classLink M.1.cls 13 xIA ∈ sw_lwg) (hk2 : Cond.classLink M.1.cls 15 xIS ∈ sw_lwg) (hX : ∀ E n' f', QX' E n' f' → E = xIA ∨ E = xIS)
    (kk : ∀ (r : Option Value) (n' : Nat) (f' : sw_F), Q' r n' f' → n ≤ n' → SWr (eH [(0, e0, pc1, 13), (0, e0, pc2, 15)]) l D cy M d mc ms (cells + mc') (slots + ms') (pc + 3) L (r.toList ++ rest) n' f' Q QX)
    (kx1 : ∀ (q n' : Nat) (f' : sw_F), QX' xIA n' f' → n ≤ n' → SWr (eH [(0, e0, pc1, 13), (0, e0, pc2, 15)]) l D cy M d mc ms (cells + mc') (slots + ms') pc1 L [.retAddr q] n' f' Q QX)
    (kx2 : ∀ (q n' : Nat) (f' : sw_F), QX' xIS n' f' → n ≤ n' → SWr (eH [(0, e0, pc1, 13), (0, e0, pc2, 15)]) l D cy M d mc ms (cells + mc') (slots + ms') pc2 L [.retAddr q] n' f' Q QX) : SWr (eH [(0, e0, pc1, 13), (0, e0, pc2, 15)]) l D cy M d mc ms cells slots pc L stk n f Q QX := by
  subst hs
  intro p e R s m args below meth c F A hA hEE u0 n0 u hn hu H locs hat hst hL ls hl Z hZ
  have hsS := hEE.1
  have htab := hEE.2
  have hw := F.2.2.2.2.2.1
  have hcl0 : ∀ v ∈ Value.ref a :: As, sw_c n v := fun v hv => hst v (by
    rcases List.mem_cons.mp hv with h | h
    · rw [h]; simp
    · simp [h])
  have han : a < n := hcl0 (.ref a) List.mem_cons_self
  have hAA : ∀ q, va_A (sw_w u cy n f) H.size q → A q := fun q hq => by
    rcases hq with ⟨k, e, h⟩ | h
    · exact hat.2.1.2 k _ h
    · exact hA q (Nat.le_trans hat.2.2.1.1 h)
  have hrest : ∀ v ∈ rest, v ∈ As.reverse ++ .ref a :: rest := fun v hv => by simp [hv]
  obtain ⟨q, hq, hqC⟩ := hC
  have hrv := va_recv F.2.2.2.2.2.2.2.1 hat.1 hq (by rw [sw_w_get han, ha]; rfl : (sw_w u cy n f)[a]? = some (u a, .inr (ci, fs.map (sw_v u))))
  rw [hqC] at hrv
  have hr2 := vx_runV (l := l) (e := e) (below := below) (meth := meth) (locs := locs) (cells := cells) (slots := slots) (g := F0 m pc ls ((As.reverse ++ .ref a :: rest).map (sw_v u))) (As := As.map (sw_v u)) (rest := rest.map (sw_v u)) (b := u a) (C := M'.1.cls) (nL := M.2.2.1) (Ts := sw_lwg) (bytes := M'.2.1) (maxL := M'.2.2.1) (ret := M'.2.2.2) ⟨F.1, F.2.1, F.2.2.1, F.2.2.2.2.1, F.2.2.2.2.2.1⟩ (hM u H.size hat.2.2.2 hcl0)
    (cwV na F.2.2.2.2.2.1 (fun w hw => by
      rcases List.mem_append.mp hw with h | h
      · simp only [List.mem_cons, List.not_mem_nil, or_false] at h
        rcases h with h | h | h | h
        · rw [h]; exact sw_good hc.1
        · rw [h]; exact sw_good hc.2.1
        · rw [h]; exact sw_good hc.2.2
        · rw [h]; exact sw_good hm.1
      · exact sw_gi hm.2.1 w h) rfl rfl rfl ⟨rfl, hm.2.2.1⟩ ⟨Nat.le_trans hdd F.2.2.2.2.2.2.2.2.2.2.2.2.1, by
      have h1 := F.2.2.2.2.2.2.2.2.2.2.2.2.2
      have h2 := hm.2.2.2
      show 8 + (M'.2.2.1 + 11) + 40 * d' ≤ R.locals
      omega⟩) ⟨sw_blindX, hrv, fun U hU hW => ⟨rfl, by rw [hU], by rw [hU]; exact hat.1, va_K.moved hW.alike F.2.2.2.2.2.2.2.1, sw_nest_warm hW F.2.2.2.2.2.2.1, hat.2.1.weaken (fun _ _ _ _ => trivial), sw_st_go hW hAA (fun a h1 h2 => by rw [hU]; exact hat.2.2.1.2.1 a h1 h2) hsS⟩⟩ rfl (by rw [List.length_map]; exact hna) hl.1 (by
      show (As.reverse ++ .ref a :: rest).map (sw_v u) = _
      rw [List.map_append, List.map_reverse]
      rfl) (lv_room (by rw [sw_cats]; exact hr)) hd ⟨by rw [F.2.2.2.2.2.2.2.2.2.2.1]; exact hcl.1, by rw [F.2.2.2.2.2.2.2.2.2.2.2.1]; exact hcl.2⟩
  have hrn : ∀ v ∈ rest, sw_c n v := fun v hv => hst v (hrest v hv)
  intro T hT X
  rcases hr2 T hT X with ⟨v, st₀, t, T', L0, h0, X', hL0, e1, e2, ⟨r, u', n', f', hv, hq, hrc, hnn, huu, hP, hD, hce, hz, hk⟩, step⟩ | ⟨q9, st₀, t, T', L0, E, ce, h0, X', hL0, e1, e2, ⟨u', n', f', hq, hnn, huu, hP, hD, hce, hz, hk⟩, hcell, hcv, hcls, steps⟩
  · cases hv
    rw [h0] at hz hk
    have hS : va_S A s.heap T'.heap (locs ++ L0) := ⟨Nat.le_trans hat.2.2.1.1 (by rw [e1]; exact hz), fun q h1 h2 => by
        rw [e1, hk q (Nat.lt_of_lt_of_le h1 hat.2.2.1.1) (fun z => h2 (hAA q z))]; exact hat.2.2.1.2.1 q h1 h2, fun q hq => by
        rcases List.mem_append.mp hq with h | h
        · exact hat.2.2.1.2.2 q h
        · exact hAA _ (hL0 q h)⟩
    have K := kk r n' f' hq hnn p e R s m args below meth c F A hA hEE u0 n0 u' (Nat.le_trans hn hnn) (fun i hi => (huu i (Nat.lt_of_lt_of_le hi hn)).trans (hu i hi)) T'.heap (locs ++ L0) ⟨by rw [e1]; exact hP, hD.weaken (fun k q _ h => hAA q.1 h), hS, hce⟩
      (fun v hv => by
        rcases List.mem_append.mp hv with h | h
        · exact hrc v (by cases r with
            | none => cases h
            | some w => rw [List.mem_singleton.mp h])
        · exact sw_c_mono hnn (hrn v h)) (fun q hq => sw_c_mono hnn (hL q hq)) ls (by rw [sw_mapL_ext huu hL]; exact hl) Z hZ
    have hst' : (r.toList ++ rest).map (sw_v u') = (r.map (sw_v u')).toList ++ rest.map (sw_v u) := by
      rw [List.map_append, sw_map_ext huu hrn]
      cases r <;> rfl
    rw [hst'] at K
    obtain ⟨t2, a1, b1⟩ := K T' rfl X'
    exact ⟨t2, step t2 a1, b1⟩
  · rw [h0] at hz hk
    have hS : va_S A s.heap T'.heap (locs ++ L0) := ⟨Nat.le_trans hat.2.2.1.1 (by rw [e1]; exact hz), fun q h1 h2 => by
        rw [e1, hk q (Nat.lt_of_lt_of_le h1 hat.2.2.1.1) (fun z => h2 (hAA q z))]; exact hat.2.2.1.2.1 q h1 h2, fun q hq => by
        rcases List.mem_append.mp hq with h | h
        · exact hat.2.2.1.2.2 q h
        · exact hAA _ (hL0 q h)⟩
    have hl' : lv_has ls M.2.2.1 (L.map (fun q => (q.1, sw_v u' q.2))) := by rw [sw_mapL_ext huu hL]; exact hl
    have go : vx_W p l e R s m args below meth c T'.heap (locs ++ L0) (cells + mc') (slots + ms') Z (F0 m pc ls (rest.map (sw_v u))) q9 := by
      rcases hX E n' f' hq with hE | hE
      · subst hE
        have K := kx1 q9 n' f' hq hnn p e R s m args below meth c F A hA hEE u0 n0 u' (Nat.le_trans hn hnn) (fun i hi => (huu i (Nat.lt_of_lt_of_le hi hn)).trans (hu i hi)) T'.heap (locs ++ L0) ⟨by rw [e1]; exact hP, hD.weaken (fun k q _ h => hAA q.1 h), hS, hce⟩ (fun v hv => by rw [List.mem_singleton.mp hv]; trivial) (fun q hq => sw_c_mono hnn (hL q hq)) ls hl' Z hZ
        exact vx_catch (own := M.1.cls) (name := xIA) F.2.2.2.2.1 [] ⟨0, e0, pc1, 13⟩ [⟨0, e0, pc2, 15⟩] htab (fun z hz => by cases hz) (by simp [covers]; omega) (show (13 : Nat) ≠ 0 by decide) (hw _ hk1) (va_tabs rfl rfl (hsS.2.2.2.2.2 (.castable xIA xIA) (by simp [sw_xw]))) (by rw [e1]; exact hcell) hcv hcls K
      · subst hE
        have K := kx2 q9 n' f' hq hnn p e R s m args below meth c F A hA hEE u0 n0 u' (Nat.le_trans hn hnn) (fun i hi => (huu i (Nat.lt_of_lt_of_le hi hn)).trans (hu i hi)) T'.heap (locs ++ L0) ⟨by rw [e1]; exact hP, hD.weaken (fun k q _ h => hAA q.1 h), hS, hce⟩ (fun v hv => by rw [List.mem_singleton.mp hv]; trivial) (fun q hq => sw_c_mono hnn (hL q hq)) ls hl' Z hZ
        exact vx_catch (own := M.1.cls) (name := xIS) F.2.2.2.2.1 [⟨0, e0, pc1, 13⟩] ⟨0, e0, pc2, 15⟩ [] htab (fun z hz => by
          rw [List.mem_singleton.mp hz]
          exact Or.inr ⟨show (13 : Nat) ≠ 0 by decide, xIA, hw _ hk1, hsS.2.2.2.2.1⟩) (by simp [covers]; omega) (show (15 : Nat) ≠ 0 by decide) (hw _ hk2) (va_tabs rfl rfl (hsS.2.2.2.2.2 (.castable xIS xIS) (by simp [sw_xw]))) (by rw [e1]; exact hcell) hcv hcls K
    obtain ⟨t2, a1, b1⟩ := go T' rfl X'
    exact ⟨t2, steps.trans a1, b1⟩
/-- a call of a method with handlers -/
theorem sw_callSH {idx d' mc' ms' na : Nat} {M' : sw_MD} {hh : List (Nat × Nat × Nat × Nat)} {As rest stk : List Value} {Q' : sw_Q} (hEs : ∀ s A a c, EE s A a c → sw_st A s) (hd : decode M.2.1 pc = .ok (.invokestatic idx, 3)) (hc : sw_cs M.1.cls idx M') (hm1 : Cond.initialized M'.1.cls ∈ sw_lwg) (hm2 : Cond.codeWith M'.1 M'.2.1 M'.2.2.1 M'.2.2.2 hh ∈ sw_lwg) (hm3 : M'.1.cls ≠ "java/lang/invoke/MethodHandle" ∧ M'.1.cls ≠ "java/lang/invoke/VarHandle" ∧ (parseMethodDescriptor M'.1.desc).map (fun d => d.parameters.length) = some na) (hm4 : M'.2.2.1 ≤ 21)
    (hM : sw_CtH l D cy M' hh d' mc' ms' As n f Q') (hdd : d' + 1 ≤ d) (hcl : cells + mc' ≤ mc ∧ slots + ms' ≤ ms) (hs : stk = As.reverse ++ rest) (hna : As.length = na) (hr : (rest.map fun v => v.category).sum ≤ 8)
    (kk : ∀ (r : Option Value) (n' : Nat) (f' : sw_F), Q' r n' f' → n ≤ n' → SWr EE l D cy M d mc ms (cells + mc') (slots + ms') (pc + 3) L (r.toList ++ rest) n' f' Q QX) : SWr EE l D cy M d mc ms cells slots pc L stk n f Q QX := by
  subst hs
  intro p e R s m args below meth c F A hA hEE u0 n0 u hn hu H locs hat hst hL ls hl Z hZ
  have hsS := hEs _ _ _ _ hEE
  have hcl0 : ∀ v ∈ As, sw_c n v := fun v hv => hst v (by simp [hv])
  have hAA : ∀ q, va_A (sw_w u cy n f) H.size q → A q := fun q hq => by
    rcases hq with ⟨k, e, h⟩ | h
    · exact hat.2.1.2 k _ h
    · exact hA q (Nat.le_trans hat.2.2.1.1 h)
  have hr2 := vx_runSX (hh := hh) (l := l) (e := e) (below := below) (meth := meth) (locs := locs) (cells := cells) (slots := slots) (g := F0 m pc ls ((As.reverse ++ rest).map (sw_v u))) (As := As.map (sw_v u)) (rest := rest.map (sw_v u)) (nL := M.2.2.1) (Ts := sw_lwg) (bytes := M'.2.1) (maxL := M'.2.2.1) (ret := M'.2.2.2) ⟨F.1, F.2.1, F.2.2.1, F.2.2.2.2.1, F.2.2.2.2.2.1⟩ (hM u H.size hat.2.2.2 hcl0)
    (vx_cwSW na F.2.2.2.2.2.1 (fun w hw => by
      rcases List.mem_append.mp hw with h | h
      · simp only [List.mem_cons, List.not_mem_nil, or_false] at h
        rcases h with h | h | h
        · rw [h]; exact sw_good hc.1
        · rw [h]; exact sw_good hc.2
        · rw [h]; exact sw_good hm1
      · rcases List.mem_cons.mp h with h | h
        · rw [h]; exact sw_good hm2
        · exact sw_good h) rfl rfl rfl hm3 ⟨Nat.le_trans hdd F.2.2.2.2.2.2.2.2.2.2.2.2.1, by
      have h1 := F.2.2.2.2.2.2.2.2.2.2.2.2.2
      show 8 + (M'.2.2.1 + 11) + 40 * d' ≤ R.locals
      omega⟩) ⟨sw_blindX, fun U hU hW => ⟨rfl, by rw [hU], by rw [hU]; exact hat.1, va_K.moved hW.alike F.2.2.2.2.2.2.2.1, sw_nest_warm hW F.2.2.2.2.2.2.1, hat.2.1.weaken (fun _ _ _ _ => trivial), sw_st_go hW hAA (fun a h1 h2 => by rw [hU]; exact hat.2.2.1.2.1 a h1 h2) hsS⟩⟩ rfl (by rw [List.length_map]; exact hna) hl.1 (by
      show (As.reverse ++ rest).map (sw_v u) = _
      rw [List.map_append, List.map_reverse]) (lv_room (by rw [sw_cats]; exact hr)) hd ⟨by rw [F.2.2.2.2.2.2.2.2.2.2.1]; exact hcl.1, by rw [F.2.2.2.2.2.2.2.2.2.2.2.1]; exact hcl.2⟩
  have hrn : ∀ v ∈ rest, sw_c n v := fun v hv => hst v (by simp [hv])
  intro T hT X
  rcases hr2 T hT X with ⟨v, st₀, t, T', L0, h0, X', hL0, e1, e2, ⟨r, u', n', f', hv, hq, hrc, hnn, huu, hP, hD, hce, hz, hk⟩, step⟩ | ⟨q9, st₀, t, T', L0, E, ce, h0, X', hL0, e1, e2, ⟨u', n', f', hq, hnn, huu, hP, hD, hce, hz, hk⟩, hcell, hcv, hcls, steps⟩
  · cases hv
    rw [h0] at hz hk
    have hS : va_S A s.heap T'.heap (locs ++ L0) := ⟨Nat.le_trans hat.2.2.1.1 (by rw [e1]; exact hz), fun q h1 h2 => by
        rw [e1, hk q (Nat.lt_of_lt_of_le h1 hat.2.2.1.1) (fun z => h2 (hAA q z))]; exact hat.2.2.1.2.1 q h1 h2, fun q hq => by
        rcases List.mem_append.mp hq with h | h
        · exact hat.2.2.1.2.2 q h
        · exact hAA _ (hL0 q h)⟩
    have K := kk r n' f' hq hnn p e R s m args below meth c F A hA hEE u0 n0 u' (Nat.le_trans hn hnn) (fun i hi => (huu i (Nat.lt_of_lt_of_le hi hn)).trans (hu i hi)) T'.heap (locs ++ L0) ⟨by rw [e1]; exact hP, hD.weaken (fun k q _ h => hAA q.1 h), hS, hce⟩
      (fun v hv => by
        rcases List.mem_append.mp hv with h | h
        · exact hrc v (by cases r with
            | none => cases h
            | some w => rw [List.mem_singleton.mp h])
        · exact sw_c_mono hnn (hrn v h)) (fun q hq => sw_c_mono hnn (hL q hq)) ls (by rw [sw_mapL_ext huu hL]; exact hl) Z hZ
    have hst' : (r.toList ++ rest).map (sw_v u') = (r.map (sw_v u')).toList ++ rest.map (sw_v u) := by
      rw [List.map_append, sw_map_ext huu hrn]
      cases r <;> rfl
    rw [hst'] at K
    obtain ⟨t2, a1, b1⟩ := K T' rfl X'
    exact ⟨t2, step t2 a1, b1⟩
  · exact hq.elim
theorem sw_aload_nR {i : Fin 4} {b : Nat} (hd : decode M.2.1 pc = .ok (.aload_n i, 1)) (hv : L.lookup (i : Nat) = some (.retAddr b)) (k : SWr EE l D cy M d mc ms cells slots (pc + 1) L (.retAddr b :: st) n f Q QX) : SWr EE l D cy M d mc ms cells slots pc L (st) n f Q QX :=
  sw_pure (fun h hL => sw_cc (hL _ (sw_lk hv)) h) (fun p e R s m args below meth c hx hb ho hw u H locs ls hl Z kk => lv_aload_n hx hb hd rfl (hl _ (sw_lk hv)) kk) k
theorem sw_astore_nR {i : Fin 4} {b : Nat} (L' : sw_L) (hd : decode M.2.1 pc = .ok (.astore_n i, 1)) (hi : (i : Nat) < M.2.2.1) (he : sw_in (i : Nat) (.retAddr b) (L.filter (sw_p1 (i : Nat))) = L') (k : SWr EE l D cy M d mc ms cells slots (pc + 1) L' st n f Q QX) : SWr EE l D cy M d mc ms cells slots pc L (.retAddr b :: st) n f Q QX := by
  intro p e R s m args below meth c F A hA hEE u0 n0 u hn hu H locs hat hst hL ls hl Z hZ
  have kk : ∀ ls' : Array Slot, lv_has ls' M.2.2.1 (((i : Nat), sw_v u (.retAddr b)) :: (L.map (fun q => (q.1, sw_v u q.2))).filter (fun q => !(q.1 == (i : Nat)) && !(q.1 + 1 == (i : Nat) && q.2.category == 2))) → W p l e R s m args below meth c H locs cells slots Z (F0 m (pc + 1) ls' (st.map (sw_v u))) := fun ls' hl' =>
    k p e R s m args below meth c F A hA hEE u0 n0 u hn hu H locs hat (sw_ct hst) (sw_inC he (sw_ch hst) hL) ls' (sw_has (u := u) (sw_p1v (i : Nat) u) he hl') Z hZ
  exact lv_astore_n F.1 F.2.1 hd rfl hl hi rfl kk
theorem sw_astoreR {i : Nat} {b : Nat} (L' : sw_L) (hd : decode M.2.1 pc = .ok (.astore i, 2)) (hi : i < M.2.2.1) (he : sw_in i (.retAddr b) (L.filter (sw_p1 i)) = L') (k : SWr EE l D cy M d mc ms cells slots (pc + 2) L' st n f Q QX) : SWr EE l D cy M d mc ms cells slots pc L (.retAddr b :: st) n f Q QX := by
  intro p e R s m args below meth c F A hA hEE u0 n0 u hn hu H locs hat hst hL ls hl Z hZ
  have kk : ∀ ls' : Array Slot, lv_has ls' M.2.2.1 ((i, sw_v u (.retAddr b)) :: (L.map (fun q => (q.1, sw_v u q.2))).filter (fun q => !(q.1 == i) && !(q.1 + 1 == i && q.2.category == 2))) → W p l e R s m args below meth c H locs cells slots Z (F0 m (pc + 2) ls' (st.map (sw_v u))) := fun ls' hl' =>
    k p e R s m args below meth c F A hA hEE u0 n0 u hn hu H locs hat (sw_ct hst) (sw_inC he (sw_ch hst) hL) ls' (sw_has (u := u) (sw_p1v i u) he hl') Z hZ
  exact lv_astore F.1 F.2.1 hd hl hi rfl kk
/-- the script: an array of N ints xs at the address b, that is not written -/
theorem sw_sld {b N : Nat} {xs : Nat → Int32} {i : Int32} (hEs : ∀ s A a c, EE s A a c → va_X b N xs s s.heap ∧ b < s.heap.size ∧ ¬ A b) (hd : decode M.2.1 pc = .ok (.iaload, 1)) (hi : vp_in i N) (k : SWr EE l D cy M d mc ms cells slots (pc + 1) L (.int (xs i.toNatClampNeg) :: st) n f Q QX) : SWr EE l D cy M d mc ms cells slots pc L (.int i :: .retAddr b :: st) n f Q QX := by
  intro p e R s m args below meth c F A hA hEE u0 n0 u hn hu H locs hat hst hL ls hl Z hZ
  obtain ⟨hX, hb, hbA⟩ := hEs _ _ _ _ hEE
  exact va_sld F.1 F.2.1 hX hb hbA hat.2.2.1 hi hd (k p e R s m args below meth c F A hA hEE u0 n0 u hn hu H locs hat (sw_ci (sw_ct (sw_ct hst))) hL ls hl Z hZ)
theorem sw_slen {b N : Nat} {xs : Nat → Int32} (hEs : ∀ s A a c, EE s A a c → va_X b N xs s s.heap ∧ b < s.heap.size ∧ ¬ A b) (hd : decode M.2.1 pc = .ok (.arraylength, 1)) (k : SWr EE l D cy M d mc ms cells slots (pc + 1) L (.int (Int32.ofNat N) :: st) n f Q QX) : SWr EE l D cy M d mc ms cells slots pc L (.retAddr b :: st) n f Q QX := by
  intro p e R s m args below meth c F A hA hEE u0 n0 u hn hu H locs hat hst hL ls hl Z hZ
  obtain ⟨hX, hb, hbA⟩ := hEs _ _ _ _ hEE
  exact va_slen F.1 F.2.1 hX hb hbA hat.2.2.1 hd (k p e R s m args below meth c F A hA hEE u0 n0 u hn hu H locs hat (sw_ci (sw_ct hst)) hL ls hl Z hZ)
end SWX
