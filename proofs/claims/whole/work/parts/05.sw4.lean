/-! ===== THE LOGIC, 4: contracts and calls ===== -/
def sw_rm (d mc ms : Nat) : Room := { frames := d, cells := mc, slots := ms, locals := 40 * d }
def sw_Pc (D : va_G) (cy : Nat → ClassId) (u : Nat → Nat) (n : Nat) (f : sw_F) (sz : Nat) (args : List Value) : Array Value → State → Prop :=
  va_Pc (args.map (sw_v u)) (fun U => U.heap.size = sz ∧ va_P D sw_cls (sw_w u cy n f) U.heap ∧ va_K D sw_cls (sw_tys cy) U ∧ (∀ w ∈ sw_nest, va_Nw w U) ∧ va_D (fun _ => True) (sw_w u cy n f))
/-- method M, called with args over (n, f), returns with Q; at most mc cells of ms slots are made, at most d frames lie above its own -/
def sw_Ct (l : Launch) (D : va_G) (cy : Nat → ClassId) (M : sw_MD) (d mc ms : Nat) (args : List Value) (n : Nat) (f : sw_F) (Q : sw_Q) : Prop :=
  ∀ (u : Nat → Nat) (sz : Nat), (∀ i, i < n → sw_ce n (f i)) → (∀ v ∈ args, sw_c n v) → Met l M.1 (sw_ws M) (sw_rm d mc ms) (sw_Pc D cy u n f sz args) (sw_R D cy (va_A (sw_w u cy n f) sz) u n Q) mc ms (va_A (sw_w u cy n f) sz)
theorem sw_ao_same {t : FieldType} {A A' : Array Value} {u U : State} (h : u.vm = U.vm) (hb : (Cond.arrayOver t).before A u = true) : (Cond.arrayOver t).before A' U = true := by
  simp only [Cond.before, Cond.holds, Cond.value] at hb ⊢
  rw [← h]
  exact hb
theorem sw_nest_on {w : Cond} (h : w ∈ sw_nest) : (∃ a b c d, w = .methodLinkNest a b c d) ∨ ∃ t, w = .arrayOver t := by
  have h2 := (List.mem_filter.mp h).2
  cases w with
  | methodLinkNest a b c d => exact Or.inl ⟨a, b, c, d, rfl⟩
  | arrayOver t => exact Or.inr ⟨t, rfl⟩
  | _ => cases h2
theorem sw_nest_same {w : Cond} (hw : w ∈ sw_nest) {u U : State} (h : u.vm = U.vm) (hZ : va_Nw w u) : va_Nw w U := by
  rcases sw_nest_on hw with ⟨a, b, c, d, rfl⟩ | ⟨t, rfl⟩
  · exact va_Nw.same rfl h hZ
  · exact sw_ao_same h hZ
theorem sw_nest_warm {s U : State} (hW : s.WarmedH U.vm) (h : ∀ w ∈ sw_nest, va_Nw w s) : ∀ w ∈ sw_nest, va_Nw w U := fun w hw => by
  rcases sw_nest_on hw with ⟨a, b, c, d, rfl⟩ | ⟨t, rfl⟩
  · exact va_Nw.warmM hW (h _ hw)
  · exact sw_ao_same (rfl : (s.setVm U.vm).vm = U.vm) (by rw [Cond.arrayOver_setVmC hW.alike]; exact h _ hw)
theorem sw_blind {D : va_G} {cy : Nat → ClassId} {u : Nat → Nat} {n : Nat} {f : sw_F} {sz : Nat} {args : List Value} : FrameBlind (sw_Pc D cy u n f sz args) := fun a U g mk q => by
  obtain ⟨q0, q1, qP, qK, qN, qD⟩ := q
  exact ⟨q0, q1, qP, va_K.moved (u := U) (U := U.calling g mk a) (Vm.Alike.refl U.vm) qK, fun w hw => sw_nest_same hw (show U.vm = (U.calling g mk a).vm from rfl) (qN w hw), qD⟩
theorem sw_good {w : Cond} (h : w ∈ sw_lwg) : w ∈ sw_lwg ∧ ((w.onTables && w.keeps) = true ∨ ∃ ty, w = .arrayClass ty) := ⟨h, good_of_word (List.mem_filter.mp h).2⟩
theorem sw_gi {M : sw_MD} (h : Cond.code M.1 M.2.1 M.2.2.1 M.2.2.2 ∈ sw_lwg) : GoodIn sw_lwg (sw_ws M) := fun w hw => (List.mem_cons.mp hw).elim (fun e => by rw [e]; exact sw_good h) sw_good
theorem sw_args (u : Nat → Nat) : ∀ (i : Nat) (vs : List Value), lv_args i (vs.map (sw_v u)) = (lv_args i vs).map (fun q => (q.1, sw_v u q.2))
  | _, [] => rfl
  | i, v :: vs => by
    show (i, sw_v u v) :: lv_args (if (sw_v u v).category = 2 then i + 2 else i + 1) (vs.map (sw_v u)) = _
    rw [sw_v_cat, sw_args u _ vs]
    rfl
theorem sw_sl (u : Nat → Nat) : ∀ vs : List Value, (lg_sl (vs.map (sw_v u))).length = (lg_sl vs).length
  | [] => rfl
  | v :: vs => by
    have h := sw_sl u vs
    unfold lg_sl at h ⊢
    simp only [List.map_cons, List.flatMap_cons, List.length_append, sw_v_cat]
    rw [h]
    split <;> rfl
theorem sw_of {l : Launch} {D : va_G} {cy : Nat → ClassId} {M : sw_MD} {d mc ms : Nat} {args : List Value} {n : Nat} {f : sw_F} {Q : sw_Q} (hy : plainName M.1.cls = true) (hlen : (lg_sl args).length ≤ M.2.2.1)
    (h : SW l D cy M d mc ms 0 0 0 (lv_args 0 args) [] n f Q (fun _ _ _ => False)) : sw_Ct l D cy M d mc ms args n f Q := by
  intro u sz hce hca
  refine Met.ofW (cc := M.2.1) (maxL := M.2.2.1) (ret := M.2.2.2) hy rfl ?_
  intro p e s m args' below meth c s₁ B hml hv
  obtain ⟨rfl, hsz, hP, hK, hN, hD0⟩ := hv
  subst hsz
  have hts := atoms_spec (ws := sw_ws M) B.pre
  rw [lg_entry_eq]
  have hl := lv_entry (args.map (sw_v u)) (n := M.2.2.1) (by rw [sw_sl]; exact hlen)
  rw [sw_args] at hl
  refine h p e (headSpec (sw_ws M) (sw_rm d mc ms)).room s m (args.map (sw_v u)).toArray below meth c ⟨B.exec, B.bytes, hml, B.returns, findClass_of_methodNamed B.named, fun w hw => hts w (List.mem_cons_of_mem _ hw), hN, hK, B.notSynchronized, (name_of_methodNamed B.named B.method).1, rfl, rfl, Nat.le_refl _, Nat.le_refl _⟩ (va_A (sw_w u cy n f) s.heap.size) (fun q hq => Or.inr hq) trivial u n u (Nat.le_refl n) (fun _ _ => rfl) s.heap [] ⟨hP, hD0.self, va_S.rf, hce⟩ (fun v hv => (by cases hv)) ?_ _ hl _ (fun t ht => ?_)
  · intro q hq
    have key : ∀ (i : Nat) (vs : List Value), q ∈ lv_args i vs → q.2 ∈ vs := by
      intro i vs
      induction vs generalizing i with
      | nil => intro hq; cases hq
      | cons v vs ih =>
        intro hq
        rcases List.mem_cons.mp hq with h | h
        · rw [h]; exact List.mem_cons_self
        · exact List.mem_cons_of_mem _ (ih _ h)
    exact hca _ (key 0 args hq)
  · obtain ⟨o, h1, h2, h3⟩ := ht
    rcases h3 with ⟨h3, h4⟩ | ⟨q, h4, E, ce, L0, ⟨u1, n1, f1, g2, g3⟩, h5⟩
    · exact ⟨o, h1, h2, h3, h4⟩
    · exact g2.elim
theorem sw_Ct_mono {l : Launch} {D : va_G} {cy : Nat → ClassId} {M : sw_MD} {d mc ms : Nat} {args : List Value} {n : Nat} {f : sw_F} {Q Q' : sw_Q} (h : ∀ r n f, Q' r n f → Q r n f) (hM : sw_Ct l D cy M d mc ms args n f Q') : sw_Ct l D cy M d mc ms args n f Q := by
  intro u sz hce hca
  intro p e ha hc hk s m args below hf happ hP
  have := hM u sz hce hca p e ha hc hk s m args below hf happ hP
  intro htr
  obtain ⟨t, o, h1, h2, h3, ⟨r, u1, n1, f1, g1, g2, g3⟩, h5⟩ := this htr
  exact ⟨t, o, h1, h2, h3, ⟨r, u1, n1, f1, g1, h _ _ _ g2, g3⟩, h5⟩
section SWD
variable {EE : sw_E} {l : Launch} {D : va_G} {cy : Nat → ClassId} {M : sw_MD} {d mc ms cells slots pc : Nat} {L : sw_L} {st : List Value} {n : Nat} {f : sw_F} {Q : sw_Q} {QX : sw_QX}
theorem sw_call0 {mc' ms' : Nat} {rest stk : List Value} {Q' : sw_Q} (hrest : ∀ v ∈ rest, v ∈ stk)
    (run : ∀ (p : Program) (e : Env) (R : Room) (s : State) (m : MethodId) (args : Array Value) (below : List Frame) (meth : Method) (c : Code), sw_fx D cy M d mc ms p R s m args meth c → ∀ (u : Nat → Nat) (H : Heap) (locs : List Loc) (ls : Array Slot), ls.size = M.2.2.1 → va_P D sw_cls (sw_w u cy n f) H → va_D (fun _ => True) (sw_w u cy n f) → (∀ i, i < n → sw_ce n (f i)) → (∀ v ∈ stk, sw_c n v) →
      ∃ a0 : Array Value, va_Run p l e R s m args below meth c H locs cells slots mc' ms' (F0 m pc ls (stk.map (sw_v u))) (rest.map (sw_v u)) (sw_R D cy (va_A (sw_w u cy n f) H.size) u n Q' a0) (va_A (sw_w u cy n f) H.size))
    (kk : ∀ (r : Option Value) (n' : Nat) (f' : sw_F), Q' r n' f' → n ≤ n' → SWr EE l D cy M d mc ms (cells + mc') (slots + ms') (pc + 3) L (r.toList ++ rest) n' f' Q QX) : SWr EE l D cy M d mc ms cells slots pc L stk n f Q QX := by
  intro p e R s m args below meth c F A hA hEE u0 n0 u hn hu H locs hat hst hL ls hl Z hZ
  obtain ⟨a0, hr⟩ := run p e R s m args below meth c F u H locs ls hl.1 hat.1 (hat.2.1.weaken (fun _ _ _ _ => trivial)) hat.2.2.2 hst
  have hAA : ∀ q, va_A (sw_w u cy n f) H.size q → A q := fun q hq => by
    rcases hq with ⟨k, e, h⟩ | h
    · exact hat.2.1.2 k _ h
    · exact hA q (Nat.le_trans hat.2.2.1.1 h)
  intro T hT X
  obtain ⟨v, st₀, t, T', L0, h0, X', hL0, e1, e2, ⟨r, u', n', f', hv, hq, hrc, hnn, huu, hP, hD, hce, hz, hk⟩, step⟩ := hr T hT X
  cases hv
  rw [h0] at hz hk
  have hS : va_S A s.heap T'.heap (locs ++ L0) := ⟨Nat.le_trans hat.2.2.1.1 (by rw [e1]; exact hz), fun q h1 h2 => by
      rw [e1, hk q (Nat.lt_of_lt_of_le h1 hat.2.2.1.1) (fun z => h2 (hAA q z))]; exact hat.2.2.1.2.1 q h1 h2, fun q hq => by
      rcases List.mem_append.mp hq with h | h
      · exact hat.2.2.1.2.2 q h
      · exact hAA _ (hL0 q h)⟩
  have hrn : ∀ v ∈ rest, sw_c n v := fun v hv => hst v (hrest v hv)
  have K := kk r n' f' hq hnn p e R s m args below meth c F A hA hEE u0 n0 u' (Nat.le_trans hn hnn) (fun i hi => (huu i (Nat.lt_of_lt_of_le hi hn)).trans (hu i hi)) T'.heap (locs ++ L0) ⟨by rw [e1]; exact hP, hD.weaken (fun k q _ h => hAA q.1 h), hS, hce⟩
    (fun v hv => by
      rcases List.mem_append.mp hv with h | h
      · exact hrc v (by cases r with
          | none => cases h
          | some w => rw [List.mem_singleton.mp h])
      · exact sw_c_mono hnn (hrn v h)) (fun q hq => sw_c_mono hnn (hL q hq)) ls (by rw [sw_mapL_ext huu hL]; exact hl) Z hZ
  have hst' : (r.toList ++ rest).map (sw_v u') = (r.map (sw_v u')).toList ++ rest.map (sw_v u) := by
    rw [List.map_append, sw_map_ext huu hrn]
    cases r <;> rfl
  rw [hst'] at K
  obtain ⟨t2, a1, b1⟩ := K T' rfl X'
  exact ⟨t2, step t2 a1, b1⟩
/-- a method's own words: its class is initialised, its code, the number of its parameters -/
def sw_mf (M' : sw_MD) (na : Nat) : Prop := Cond.initialized M'.1.cls ∈ sw_lwg ∧ Cond.code M'.1 M'.2.1 M'.2.2.1 M'.2.2.2 ∈ sw_lwg ∧ (M'.1.cls ≠ "java/lang/invoke/MethodHandle" ∧ M'.1.cls ≠ "java/lang/invoke/VarHandle" ∧ (parseMethodDescriptor M'.1.desc).map (fun d => d.parameters.length) = some na) ∧ M'.2.2.1 ≤ 21
def sw_cv (own : String) (idx : Nat) (M' : sw_MD) : Prop := Cond.methodLink own idx M'.1 ∈ sw_lwg ∧ Cond.instanceMethod M'.1 ∈ sw_lwg ∧ Cond.selects M'.1.cls M'.1 M'.1 ∈ sw_lwg
def sw_cs (own : String) (idx : Nat) (M' : sw_MD) : Prop := Cond.methodLink own idx M'.1 ∈ sw_lwg ∧ Cond.static M'.1 ∈ sw_lwg
def sw_csn (own : String) (idx : Nat) (M' : sw_MD) : Prop := Cond.methodLinkNest own idx M'.1 "LabelGuard" ∈ sw_nest ∧ Cond.static M'.1 ∈ sw_lwg
def sw_ci' (own : String) (idx : Nat) (M' : sw_MD) : Prop := Cond.methodLink own idx M'.1 ∈ sw_lwg ∧ Cond.instanceMethod M'.1 ∈ sw_lwg ∧ M'.1.name = "<init>" ∧ M'.2.2.2 = none
def sw_cin (own : String) (idx : Nat) (M' : sw_MD) : Prop := Cond.methodLinkNest own idx M'.1 "LabelGuard" ∈ sw_nest ∧ Cond.instanceMethod M'.1 ∈ sw_lwg ∧ M'.1.name = "<init>" ∧ M'.2.2.2 = none
theorem sw_cats (u : Nat → Nat) (rest : List Value) : ((rest.map (sw_v u)).map fun v => v.category).sum = (rest.map fun v => v.category).sum := by
  rw [List.map_map]
  congr 1
  exact List.map_congr_left (fun v _ => sw_v_cat u v)
theorem sw_callV {idx ci a d' mc' ms' na : Nat} {M' : sw_MD} {As rest stk : List Value} {fs : List Value} {Q' : sw_Q} (hd : decode M.2.1 pc = .ok (.invokevirtual idx, 3)) (hc : sw_cv M.1.cls idx M') (hm : sw_mf M' na) (hC : ∃ q, sw_cls[ci]? = some q ∧ q.1 = M'.1.cls) (ha : f a = .inr (ci, fs))
    (hM : sw_Ct l D cy M' d' mc' ms' (.ref a :: As) n f Q') (hdd : d' + 1 ≤ d) (hcl : cells + mc' ≤ mc ∧ slots + ms' ≤ ms) (hs : stk = As.reverse ++ .ref a :: rest) (hna : As.length = na) (hr : (rest.map fun v => v.category).sum ≤ 8)
    (kk : ∀ (r : Option Value) (n' : Nat) (f' : sw_F), Q' r n' f' → n ≤ n' → SWr EE l D cy M d mc ms (cells + mc') (slots + ms') (pc + 3) L (r.toList ++ rest) n' f' Q QX) : SWr EE l D cy M d mc ms cells slots pc L stk n f Q QX := by
  subst hs
  refine sw_call0 (rest := rest) (Q' := Q') (fun v hv => by simp [hv]) ?_ kk
  intro p e R s m args below meth c F u H locs ls hsz hP hD hce hst
  have hcl0 : ∀ v ∈ Value.ref a :: As, sw_c n v := fun v hv => hst v (by
    rcases List.mem_cons.mp hv with h | h
    · rw [h]; simp
    · simp [h])
  have han : a < n := hcl0 (.ref a) List.mem_cons_self
  obtain ⟨q, hq, hqC⟩ := hC
  have hrv := va_recv F.2.2.2.2.2.2.2.1 hP hq (by rw [sw_w_get han, ha]; rfl : (sw_w u cy n f)[a]? = some (u a, .inr (ci, fs.map (sw_v u))))
  rw [hqC] at hrv
  refine ⟨_, va_runV (As := As.map (sw_v u)) (rest := rest.map (sw_v u)) (b := u a) (C := M'.1.cls) (nL := M.2.2.1) (Ts := sw_lwg) (bytes := M'.2.1) (maxL := M'.2.2.1) (ret := M'.2.2.2) ⟨F.1, F.2.1, F.2.2.1, F.2.2.2.2.1, F.2.2.2.2.2.1⟩ (hM u H.size hce hcl0)
    (cwV na F.2.2.2.2.2.1 (fun w hw => ?_) rfl rfl rfl ⟨rfl, hm.2.2.1⟩ ⟨?_, ?_⟩) ⟨sw_blind, hrv, fun U hU hW => ⟨rfl, by rw [hU], by rw [hU]; exact hP, va_K.moved hW.alike F.2.2.2.2.2.2.2.1, sw_nest_warm hW F.2.2.2.2.2.2.1, hD⟩⟩ rfl (by rw [List.length_map]; exact hna) hsz ?_ (lv_room (by rw [sw_cats]; exact hr)) hd ⟨by rw [F.2.2.2.2.2.2.2.2.2.2.1]; exact hcl.1, by rw [F.2.2.2.2.2.2.2.2.2.2.2.1]; exact hcl.2⟩⟩
  · rcases List.mem_append.mp hw with h | h
    · simp only [List.mem_cons, List.not_mem_nil, or_false] at h
      rcases h with h | h | h | h
      · rw [h]; exact sw_good hc.1
      · rw [h]; exact sw_good hc.2.1
      · rw [h]; exact sw_good hc.2.2
      · rw [h]; exact sw_good hm.1
    · exact sw_gi hm.2.1 w h
  · exact Nat.le_trans hdd F.2.2.2.2.2.2.2.2.2.2.2.2.1
  · have h1 := F.2.2.2.2.2.2.2.2.2.2.2.2.2
    have h2 := hm.2.2.2
    show 8 + (M'.2.2.1 + 11) + 40 * d' ≤ R.locals
    omega
  · show (As.reverse ++ .ref a :: rest).map (sw_v u) = _
    rw [List.map_append, List.map_reverse]
    rfl
theorem sw_callS {idx d' mc' ms' na : Nat} {M' : sw_MD} {As rest stk : List Value} {Q' : sw_Q} (hd : decode M.2.1 pc = .ok (.invokestatic idx, 3)) (hc : sw_cs M.1.cls idx M') (hm : sw_mf M' na)
    (hM : sw_Ct l D cy M' d' mc' ms' As n f Q') (hdd : d' + 1 ≤ d) (hcl : cells + mc' ≤ mc ∧ slots + ms' ≤ ms) (hs : stk = As.reverse ++ rest) (hna : As.length = na) (hr : (rest.map fun v => v.category).sum ≤ 8)
    (kk : ∀ (r : Option Value) (n' : Nat) (f' : sw_F), Q' r n' f' → n ≤ n' → SWr EE l D cy M d mc ms (cells + mc') (slots + ms') (pc + 3) L (r.toList ++ rest) n' f' Q QX) : SWr EE l D cy M d mc ms cells slots pc L stk n f Q QX := by
  subst hs
  refine sw_call0 (rest := rest) (Q' := Q') (fun v hv => by simp [hv]) ?_ kk
  intro p e R s m args below meth c F u H locs ls hsz hP hD hce hst
  have hcl0 : ∀ v ∈ As, sw_c n v := fun v hv => hst v (by simp [hv])
  refine ⟨_, va_runS (As := As.map (sw_v u)) (rest := rest.map (sw_v u)) (nL := M.2.2.1) (Ts := sw_lwg) (bytes := M'.2.1) (maxL := M'.2.2.1) (ret := M'.2.2.2) ⟨F.1, F.2.1, F.2.2.1, F.2.2.2.2.1, F.2.2.2.2.2.1⟩ (hM u H.size hce hcl0)
    (va_cwS na F.2.2.2.2.2.1 (fun w hw => ?_) rfl rfl rfl hm.2.2.1 ⟨?_, ?_⟩) ⟨sw_blind, fun U hU hW => ⟨rfl, by rw [hU], by rw [hU]; exact hP, va_K.moved hW.alike F.2.2.2.2.2.2.2.1, sw_nest_warm hW F.2.2.2.2.2.2.1, hD⟩⟩ rfl (by rw [List.length_map]; exact hna) hsz ?_ (lv_room (by rw [sw_cats]; exact hr)) hd ⟨by rw [F.2.2.2.2.2.2.2.2.2.2.1]; exact hcl.1, by rw [F.2.2.2.2.2.2.2.2.2.2.2.1]; exact hcl.2⟩⟩
  · rcases List.mem_append.mp hw with h | h
    · simp only [List.mem_cons, List.not_mem_nil, or_false] at h
      rcases h with h | h | h
      · rw [h]; exact sw_good hc.1
      · rw [h]; exact sw_good hc.2
      · rw [h]; exact sw_good hm.1
    · exact sw_gi hm.2.1 w h
  · exact Nat.le_trans hdd F.2.2.2.2.2.2.2.2.2.2.2.2.1
  · have h1 := F.2.2.2.2.2.2.2.2.2.2.2.2.2
    have h2 := hm.2.2.2
    show 8 + (M'.2.2.1 + 11) + 40 * d' ≤ R.locals
    omega
  · show (As.reverse ++ rest).map (sw_v u) = _
    rw [List.map_append, List.map_reverse]
theorem sw_callSN {idx d' mc' ms' na : Nat} {M' : sw_MD} {As rest stk : List Value} {Q' : sw_Q} (hd : decode M.2.1 pc = .ok (.invokestatic idx, 3)) (hc : sw_csn M.1.cls idx M') (hm : sw_mf M' na)
    (hM : sw_Ct l D cy M' d' mc' ms' As n f Q') (hdd : d' + 1 ≤ d) (hcl : cells + mc' ≤ mc ∧ slots + ms' ≤ ms) (hs : stk = As.reverse ++ rest) (hna : As.length = na) (hr : (rest.map fun v => v.category).sum ≤ 8)
    (kk : ∀ (r : Option Value) (n' : Nat) (f' : sw_F), Q' r n' f' → n ≤ n' → SWr EE l D cy M d mc ms (cells + mc') (slots + ms') (pc + 3) L (r.toList ++ rest) n' f' Q QX) : SWr EE l D cy M d mc ms cells slots pc L stk n f Q QX := by
  subst hs
  refine sw_call0 (rest := rest) (Q' := Q') (fun v hv => by simp [hv]) ?_ kk
  intro p e R s m args below meth c F u H locs ls hsz hP hD hce hst
  have hcl0 : ∀ v ∈ As, sw_c n v := fun v hv => hst v (by simp [hv])
  refine ⟨_, va_runSN (As := As.map (sw_v u)) (rest := rest.map (sw_v u)) (nL := M.2.2.1) (Ts := sw_lwg) (bytes := M'.2.1) (maxL := M'.2.2.1) (ret := M'.2.2.2) (host := "LabelGuard") ⟨F.1, F.2.1, F.2.2.1, F.2.2.2.2.1, F.2.2.2.2.2.1⟩ (hM u H.size hce hcl0)
    ⟨va_cnB na F.2.2.2.2.2.1 (sw_gi hm.2.1) rfl rfl rfl (F.2.2.2.2.2.2.1 _ hc.1) (F.2.2.2.2.2.1 _ hm.1) hm.2.2.1 ⟨?_, ?_⟩, F.2.2.2.2.2.1 _ hc.2, trivial⟩ ⟨sw_blind, fun U hU hW => ⟨rfl, by rw [hU], by rw [hU]; exact hP, va_K.moved hW.alike F.2.2.2.2.2.2.2.1, sw_nest_warm hW F.2.2.2.2.2.2.1, hD⟩⟩ rfl (by rw [List.length_map]; exact hna) hsz ?_ (lv_room (by rw [sw_cats]; exact hr)) hd ⟨by rw [F.2.2.2.2.2.2.2.2.2.2.1]; exact hcl.1, by rw [F.2.2.2.2.2.2.2.2.2.2.2.1]; exact hcl.2⟩⟩
  · exact Nat.le_trans hdd F.2.2.2.2.2.2.2.2.2.2.2.2.1
  · have h1 := F.2.2.2.2.2.2.2.2.2.2.2.2.2
    have h2 := hm.2.2.2
    show 8 + (M'.2.2.1 + 11) + 40 * d' ≤ R.locals
    omega
  · show (As.reverse ++ rest).map (sw_v u) = _
    rw [List.map_append, List.map_reverse]
theorem sw_callI {idx a d' mc' ms' na : Nat} {M' : sw_MD} {As rest stk : List Value} {Q' : sw_Q} (hd : decode M.2.1 pc = .ok (.invokespecial idx, 3)) (hc : sw_ci' M.1.cls idx M') (hm : sw_mf M' na)
    (hM : sw_Ct l D cy M' d' mc' ms' (.ref a :: As) n f Q') (hdd : d' + 1 ≤ d) (hcl : cells + mc' ≤ mc ∧ slots + ms' ≤ ms) (hs : stk = As.reverse ++ .ref a :: rest) (hna : As.length = na) (hr : (rest.map fun v => v.category).sum ≤ 8)
    (kk : ∀ (r : Option Value) (n' : Nat) (f' : sw_F), Q' r n' f' → n ≤ n' → SWr EE l D cy M d mc ms (cells + mc') (slots + ms') (pc + 3) L (r.toList ++ rest) n' f' Q QX) : SWr EE l D cy M d mc ms cells slots pc L stk n f Q QX := by
  subst hs
  refine sw_call0 (rest := rest) (Q' := Q') (fun v hv => by simp [hv]) ?_ kk
  intro p e R s m args below meth c F u H locs ls hsz hP hD hce hst
  have hcl0 : ∀ v ∈ Value.ref a :: As, sw_c n v := fun v hv => hst v (by
    rcases List.mem_cons.mp hv with h | h
    · rw [h]; simp
    · simp [h])
  refine ⟨_, va_runI (As := As.map (sw_v u)) (rest := rest.map (sw_v u)) (b := u a) (nL := M.2.2.1) (Ts := sw_lwg) (bytes := M'.2.1) (maxL := M'.2.2.1) ⟨F.1, F.2.1, F.2.2.1, F.2.2.2.2.1, F.2.2.2.2.2.1⟩ (hM u H.size hce hcl0)
    (cwI na F.2.2.2.2.2.1 (sw_gi hm.2.1) (by unfold sw_ws; rw [hc.2.2.2]) rfl rfl (F.2.2.2.2.2.1 _ hm.1) (F.2.2.2.2.2.1 _ hc.1) (F.2.2.2.2.2.1 _ hc.2.1) hc.2.2.1 hm.2.2.1 ⟨?_, ?_⟩) ⟨sw_blind, fun U hU hW => ⟨rfl, by rw [hU], by rw [hU]; exact hP, va_K.moved hW.alike F.2.2.2.2.2.2.2.1, sw_nest_warm hW F.2.2.2.2.2.2.1, hD⟩⟩ rfl (by rw [List.length_map]; exact hna) hsz ?_ (lv_room (by rw [sw_cats]; exact hr)) hd ⟨by rw [F.2.2.2.2.2.2.2.2.2.2.1]; exact hcl.1, by rw [F.2.2.2.2.2.2.2.2.2.2.2.1]; exact hcl.2⟩⟩
  · exact Nat.le_trans hdd F.2.2.2.2.2.2.2.2.2.2.2.2.1
  · have h1 := F.2.2.2.2.2.2.2.2.2.2.2.2.2
    have h2 := hm.2.2.2
    show 8 + (M'.2.2.1 + 11) + 40 * d' ≤ R.locals
    omega
  · show (As.reverse ++ .ref a :: rest).map (sw_v u) = _
    rw [List.map_append, List.map_reverse]
    rfl
theorem sw_callIN {idx a d' mc' ms' na : Nat} {M' : sw_MD} {As rest stk : List Value} {Q' : sw_Q} (hd : decode M.2.1 pc = .ok (.invokespecial idx, 3)) (hc : sw_cin M.1.cls idx M') (hm : sw_mf M' na)
    (hM : sw_Ct l D cy M' d' mc' ms' (.ref a :: As) n f Q') (hdd : d' + 1 ≤ d) (hcl : cells + mc' ≤ mc ∧ slots + ms' ≤ ms) (hs : stk = As.reverse ++ .ref a :: rest) (hna : As.length = na) (hr : (rest.map fun v => v.category).sum ≤ 8)
    (kk : ∀ (r : Option Value) (n' : Nat) (f' : sw_F), Q' r n' f' → n ≤ n' → SWr EE l D cy M d mc ms (cells + mc') (slots + ms') (pc + 3) L (r.toList ++ rest) n' f' Q QX) : SWr EE l D cy M d mc ms cells slots pc L stk n f Q QX := by
  subst hs
  refine sw_call0 (rest := rest) (Q' := Q') (fun v hv => by simp [hv]) ?_ kk
  intro p e R s m args below meth c F u H locs ls hsz hP hD hce hst
  have hcl0 : ∀ v ∈ Value.ref a :: As, sw_c n v := fun v hv => hst v (by
    rcases List.mem_cons.mp hv with h | h
    · rw [h]; simp
    · simp [h])
  refine ⟨_, va_runIN (As := As.map (sw_v u)) (rest := rest.map (sw_v u)) (b := u a) (nL := M.2.2.1) (Ts := sw_lwg) (bytes := M'.2.1) (maxL := M'.2.2.1) (host := "LabelGuard") ⟨F.1, F.2.1, F.2.2.1, F.2.2.2.2.1, F.2.2.2.2.2.1⟩ (hM u H.size hce hcl0)
    ⟨va_cnB na F.2.2.2.2.2.1 (sw_gi hm.2.1) (by unfold sw_ws; rw [hc.2.2.2]) rfl rfl (F.2.2.2.2.2.2.1 _ hc.1) (F.2.2.2.2.2.1 _ hm.1) hm.2.2.1 ⟨?_, ?_⟩, hc.2.2.1, F.2.2.2.2.2.1 _ hc.2.1⟩ ⟨sw_blind, fun U hU hW => ⟨rfl, by rw [hU], by rw [hU]; exact hP, va_K.moved hW.alike F.2.2.2.2.2.2.2.1, sw_nest_warm hW F.2.2.2.2.2.2.1, hD⟩⟩ rfl (by rw [List.length_map]; exact hna) hsz ?_ (lv_room (by rw [sw_cats]; exact hr)) hd ⟨by rw [F.2.2.2.2.2.2.2.2.2.2.1]; exact hcl.1, by rw [F.2.2.2.2.2.2.2.2.2.2.2.1]; exact hcl.2⟩⟩
  · exact Nat.le_trans hdd F.2.2.2.2.2.2.2.2.2.2.2.2.1
  · have h1 := F.2.2.2.2.2.2.2.2.2.2.2.2.2
    have h2 := hm.2.2.2
    show 8 + (M'.2.2.1 + 11) + 40 * d' ≤ R.locals
    omega
  · show (As.reverse ++ .ref a :: rest).map (sw_v u) = _
    rw [List.map_append, List.map_reverse]
    rfl
end SWD
