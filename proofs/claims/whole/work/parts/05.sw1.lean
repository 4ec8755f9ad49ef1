/-! ===== THE LOGIC, 1: an abstract heap (n cells, f: what each holds; a reference in it is a place i < n) and its image in the machine's heap (place i at the address u i) ===== -/
abbrev sw_MD : Type := MethodName × ByteArray × Nat × Option FieldType
abbrev sw_F : Type := Nat → va_E
abbrev sw_L : Type := List (Nat × Value)
def sw_lwg : List Cond := lw_tbl.filter goodWord
def sw_isN (w : Cond) : Bool := match w with
  | .methodLinkNest _ _ _ _ => true
  | .arrayOver _ => true
  | _ => false
def sw_nest : List Cond := lw_tbl.filter sw_isN
def sw_ws (M : sw_MD) : List Cond := .code M.1 M.2.1 M.2.2.1 M.2.2.2 :: sw_lwg
def sw_v (u : Nat → Nat) (v : Value) : Value := match v with
  | .ref a => .ref (u a)
  | .retAddr b => .ref b
  | w => w
def sw_c (n : Nat) (v : Value) : Prop := match v with
  | .ref a => a < n
  | _ => True
def sw_a (u : Nat → Nat) (a : vp_A) : vp_A := match a with
  | (n, .inr (.inr (.inr (.inr f)))) => (n, .inr (.inr (.inr (.inr (fun j => (f j).map u)))))
  | b => b
def sw_e (u : Nat → Nat) (cy : Nat → ClassId) (e : va_E) : va_E := match e with
  | .inl a => .inl (cy a.1, sw_a u a.2)
  | .inr o => .inr (o.1, o.2.map (sw_v u))
def sw_ce (n : Nat) (e : va_E) : Prop := match e with
  | .inl a => ∀ (k : Nat) (f : Nat → Option Nat), a.2 = (k, .inr (.inr (.inr (.inr f)))) → ∀ j b : Nat, f j = some b → b < n
  | .inr o => ∀ v ∈ o.2, sw_c n v
def sw_w (u : Nat → Nat) (cy : Nat → ClassId) (n : Nat) (f : sw_F) : va_W := (List.range n).map (fun i => (u i, sw_e u cy (f i)))
def sw_tys (cy : Nat → ClassId) : List (ClassId × FieldType) := [(cy 0, .int), (cy 1, .long), (cy 2, .boolean), (cy 3, .char), (cy 4, .array .int)]
theorem sw_v_cat (u : Nat → Nat) (v : Value) : (sw_v u v).category = v.category := by cases v <;> rfl
theorem sw_v_ext {u u' : Nat → Nat} {n : Nat} {v : Value} (h : ∀ i, i < n → u' i = u i) (hc : sw_c n v) : sw_v u' v = sw_v u v := by
  cases v with
  | ref a => exact congrArg Value.ref (h a hc)
  | _ => rfl
theorem sw_c_mono {n n' : Nat} {v : Value} (h : n ≤ n') (hc : sw_c n v) : sw_c n' v := by
  cases v with
  | ref a => exact Nat.lt_of_lt_of_le hc h
  | _ => trivial
theorem sw_ce_mono {n n' : Nat} {e : va_E} (h : n ≤ n') (hc : sw_ce n e) : sw_ce n' e := by
  cases e with
  | inl a => exact fun k f e j b hb => Nat.lt_of_lt_of_le (hc k f e j b hb) h
  | inr o => exact fun v hv => sw_c_mono h (hc v hv)
theorem sw_e_ext {u u' : Nat → Nat} {n : Nat} {cy : Nat → ClassId} {e : va_E} (h : ∀ i, i < n → u' i = u i) (hc : sw_ce n e) : sw_e u' cy e = sw_e u cy e := by
  cases e with
  | inl a =>
    obtain ⟨t, k, x⟩ := a
    rcases x with f | f | f | f | f
    · rfl
    · rfl
    · rfl
    · rfl
    · show Sum.inl (cy t, k, _) = Sum.inl (cy t, k, _)
      congr 7
      funext j
      cases hf : f j with
      | none => rfl
      | some b => exact congrArg some (h b (hc k f rfl j b hf))
  | inr o =>
    show Sum.inr (o.1, _) = Sum.inr (o.1, _)
    congr 2
    exact List.map_congr_left (fun v hv => sw_v_ext h (hc v hv))
theorem sw_map_ext {u u' : Nat → Nat} {n : Nat} {st : List Value} (h : ∀ i, i < n → u' i = u i) (hc : ∀ v ∈ st, sw_c n v) : st.map (sw_v u') = st.map (sw_v u) := List.map_congr_left (fun v hv => sw_v_ext h (hc v hv))
theorem sw_mapL_ext {u u' : Nat → Nat} {n : Nat} {L : sw_L} (h : ∀ i, i < n → u' i = u i) (hc : ∀ q ∈ L, sw_c n q.2) : L.map (fun q => (q.1, sw_v u' q.2)) = L.map (fun q => (q.1, sw_v u q.2)) := List.map_congr_left (fun q hq => by rw [sw_v_ext h (hc q hq)])
theorem sw_w_len (u : Nat → Nat) (cy : Nat → ClassId) (n : Nat) (f : sw_F) : (sw_w u cy n f).length = n := by simp [sw_w]
theorem sw_w_get {u : Nat → Nat} {cy : Nat → ClassId} {n : Nat} {f : sw_F} {i : Nat} (h : i < n) : (sw_w u cy n f)[i]? = some (u i, sw_e u cy (f i)) := by
  unfold sw_w
  rw [List.getElem?_map, List.getElem?_range h]
  rfl
theorem sw_w_none {u : Nat → Nat} {cy : Nat → ClassId} {n : Nat} {f : sw_F} {i : Nat} (h : n ≤ i) : (sw_w u cy n f)[i]? = none := by
  rw [List.getElem?_eq_none_iff, sw_w_len]
  exact h
theorem sw_w_set {u : Nat → Nat} {cy : Nat → ClassId} {n : Nat} {f : sw_F} {i : Nat} (h : i < n) (e : va_E) : (sw_w u cy n f).set i (u i, sw_e u cy e) = sw_w u cy n (va_up f i e) := by
  apply List.ext_getElem?
  intro j
  by_cases hj : j < n
  · by_cases hij : i = j
    · subst hij
      rw [List.getElem?_set_self (by rw [sw_w_len]; exact h), sw_w_get h, va_up_self]
    · rw [List.getElem?_set_ne hij, sw_w_get hj, sw_w_get hj, va_up_ne _ _ (Ne.symm hij)]
  · rw [sw_w_none (Nat.not_lt.mp hj)]
    rw [List.getElem?_eq_none_iff, List.length_set, sw_w_len]
    exact Nat.not_lt.mp hj
theorem sw_w_push {u u' : Nat → Nat} {cy : Nat → ClassId} {n q : Nat} {f : sw_F} {e : va_E} (hc : ∀ i, i < n → sw_ce n (f i)) (h : ∀ i, i < n → u' i = u i) (hq : u' n = q) : sw_w u cy n f ++ [(q, sw_e u' cy e)] = sw_w u' cy (n + 1) (va_up f n e) := by
  apply List.ext_getElem?
  intro j
  by_cases hj : j < n
  · rw [List.getElem?_append_left (by rw [sw_w_len]; exact hj), sw_w_get hj, sw_w_get (Nat.lt_succ_of_lt hj), va_up_ne _ _ (Nat.ne_of_lt hj), h j hj, sw_e_ext h (hc j hj)]
  · rw [List.getElem?_append_right (by rw [sw_w_len]; exact Nat.not_lt.mp hj), sw_w_len]
    by_cases hjn : j = n
    · subst hjn
      rw [sw_w_get (Nat.lt_succ_self j), va_up_self, hq]
      simp
    · rw [sw_w_none (by omega)]
      rw [List.getElem?_eq_none_iff]
      simp
      omega
/-- what stands in the heap: the image of (n, f), apart, in A; nothing else was changed since H0 -/
def sw_at (D : va_G) (cy : Nat → ClassId) (A : Nat → Prop) (H0 H : Heap) (locs : List Loc) (u : Nat → Nat) (n : Nat) (f : sw_F) : Prop :=
  va_P D sw_cls (sw_w u cy n f) H ∧ va_D A (sw_w u cy n f) ∧ va_S A H0 H locs ∧ ∀ i, i < n → sw_ce n (f i)
/-- a method's own facts: M its name, code, number of locals, type of its answer; d frames may lie above it; mc cells of ms slots may be made -/
def sw_fx (D : va_G) (cy : Nat → ClassId) (M : sw_MD) (d mc ms : Nat) (p : Program) (R : Room) (s : State) (m : MethodId) (args : Array Value) (meth : Method) (c : Code) : Prop :=
  p.tables.exec = Jvm.exec ∧ c.code = M.2.1 ∧ c.maxLocals = M.2.2.1 ∧ meth.sig.returnType = M.2.2.2 ∧ s.vm.findClass M.1.cls = some m.cls ∧ (∀ w ∈ sw_lwg, w.before args s = true) ∧ (∀ w ∈ sw_nest, va_Nw w s) ∧ va_K D sw_cls (sw_tys cy) s ∧ meth.locks = false ∧ meth.name = M.1.name ∧ R.cells = mc ∧ R.slots = ms ∧ d ≤ R.frames ∧ 40 * d ≤ R.locals
abbrev sw_Q : Type := Option Value → Nat → sw_F → Prop
abbrev sw_QX : Type := String → Nat → sw_F → Prop
def sw_R (D : va_G) (cy : Nat → ClassId) (A : Nat → Prop) (u0 : Nat → Nat) (n0 : Nat) (Q : sw_Q) : Array Value → State → Outcome → State → Prop := fun _ st o t =>
  ∃ (r : Option Value) (u : Nat → Nat) (n : Nat) (f : sw_F), o = .returned (r.map (sw_v u)) ∧ Q r n f ∧ (∀ v, r = some v → sw_c n v) ∧ n0 ≤ n ∧ (∀ i, i < n0 → u i = u0 i) ∧ va_P D sw_cls (sw_w u cy n f) t.heap ∧ va_D A (sw_w u cy n f) ∧ (∀ i, i < n → sw_ce n (f i)) ∧ va_F A st t
def sw_X (D : va_G) (cy : Nat → ClassId) (A : Nat → Prop) (u0 : Nat → Nat) (n0 : Nat) (QX : sw_QX) : String → State → State → Prop := fun E st t =>
  ∃ (u : Nat → Nat) (n : Nat) (f : sw_F), QX E n f ∧ n0 ≤ n ∧ (∀ i, i < n0 → u i = u0 i) ∧ va_P D sw_cls (sw_w u cy n f) t.heap ∧ va_D A (sw_w u cy n f) ∧ (∀ i, i < n → sw_ce n (f i)) ∧ va_F A st t
/-- from the frame (pc, locals L, operands st) over the abstract heap (n, f) method M comes to its end with Q, or throws with QX -/
abbrev sw_E : Type := State → (Nat → Prop) → Array Value → Code → Prop
/-- EE: what else is known of the start s, what may be written, the arguments, the code -/
def SWr (EE : sw_E) (l : Launch) (D : va_G) (cy : Nat → ClassId) (M : sw_MD) (d mc ms cells slots pc : Nat) (L : sw_L) (st : List Value) (n : Nat) (f : sw_F) (Q : sw_Q) (QX : sw_QX) : Prop :=
  ∀ (p : Program) (e : Env) (R : Room) (s : State) (m : MethodId) (args : Array Value) (below : List Frame) (meth : Method) (c : Code), sw_fx D cy M d mc ms p R s m args meth c →
  ∀ A : Nat → Prop, (∀ q, s.heap.size ≤ q → A q) → EE s A args c → ∀ (u0 : Nat → Nat) (n0 : Nat) (u : Nat → Nat), n0 ≤ n → (∀ i, i < n0 → u i = u0 i) →
  ∀ (H : Heap) (locs : List Loc), sw_at D cy A s.heap H locs u n f → (∀ v ∈ st, sw_c n v) → (∀ q ∈ L, sw_c n q.2) →
  ∀ ls : Array Slot, lv_has ls M.2.2.1 (L.map (fun q => (q.1, sw_v u q.2))) →
  ∀ Z : State → Prop, (∀ t, vx_MQ below (sw_R D cy A u0 n0 Q) (sw_X D cy A u0 n0 QX) args s mc ms A t → Z t) →
  W p l e R s m args below meth c H locs cells slots Z (F0 m pc ls (st.map (sw_v u)))
abbrev SW (l : Launch) (D : va_G) (cy : Nat → ClassId) (M : sw_MD) (d mc ms cells slots pc : Nat) (L : sw_L) (st : List Value) (n : Nat) (f : sw_F) (Q : sw_Q) (QX : sw_QX) : Prop := SWr (fun _ _ _ _ => True) l D cy M d mc ms cells slots pc L st n f Q QX
section SWA
variable {EE : sw_E} {l : Launch} {D : va_G} {cy : Nat → ClassId} {M : sw_MD} {d mc ms cells slots pc : Nat} {L : sw_L} {st : List Value} {n : Nat} {f : sw_F} {Q : sw_Q} {QX : sw_QX}
theorem sw_widen {k j : Nat} (h1 : cells ≤ k) (h2 : slots ≤ j) (kk : SWr EE l D cy M d mc ms k j pc L st n f Q QX) : SWr EE l D cy M d mc ms cells slots pc L st n f Q QX := by
  intro p e R s m args below meth c F A hA hEE u0 n0 u hn hu H locs hat hst hL ls hl Z hZ
  exact W.widen h1 h2 (kk p e R s m args below meth c F A hA hEE u0 n0 u hn hu H locs hat hst hL ls hl Z hZ)
/-- fewer locals -/
theorem sw_sub {L' : sw_L} (h : ∀ q ∈ L', q ∈ L) (kk : SWr EE l D cy M d mc ms cells slots pc L' st n f Q QX) : SWr EE l D cy M d mc ms cells slots pc L st n f Q QX := by
  intro p e R s m args below meth c F A hA hEE u0 n0 u hn hu H locs hat hst hL ls hl Z hZ
  refine kk p e R s m args below meth c F A hA hEE u0 n0 u hn hu H locs hat hst (fun q hq => hL q (h q hq)) ls ⟨hl.1, hl.2.1, fun q hq => ?_⟩ Z hZ
  obtain ⟨x, hx, rfl⟩ := List.mem_map.mp hq
  exact hl.2.2 _ (List.mem_map.mpr ⟨x, h x hx, rfl⟩)
/-- another end -/
theorem sw_mono {Q' : sw_Q} {QX' : sw_QX} (h : ∀ r n f, Q' r n f → Q r n f) (hx : ∀ E n f, QX' E n f → QX E n f) (kk : SWr EE l D cy M d mc ms cells slots pc L st n f Q' QX') : SWr EE l D cy M d mc ms cells slots pc L st n f Q QX := by
  intro p e R s m args below meth c F A hA hEE u0 n0 u hn hu H locs hat hst hL ls hl Z hZ
  refine kk p e R s m args below meth c F A hA hEE u0 n0 u hn hu H locs hat hst hL ls hl Z (fun t ht => hZ t ?_)
  obtain ⟨o, h1, h2, h3⟩ := ht
  refine ⟨o, h1, h2, ?_⟩
  rcases h3 with ⟨⟨r, u1, n1, f1, g1, g2, g3⟩, h4⟩ | ⟨q, h4, E, ce, L0, ⟨u1, n1, f1, g2, g3⟩, h5⟩
  · exact Or.inl ⟨⟨r, u1, n1, f1, g1, h _ _ _ g2, g3⟩, h4⟩
  · exact Or.inr ⟨q, h4, E, ce, L0, ⟨u1, n1, f1, hx _ _ _ g2, g3⟩, h5⟩
/-- a step that moves nothing but the operands -/
theorem sw_pure {st' : List Value} {pc' : Nat} (hc : (∀ v ∈ st, sw_c n v) → (∀ q ∈ L, sw_c n q.2) → ∀ v ∈ st', sw_c n v)
    (step : ∀ (p : Program) (e : Env) (R : Room) (s : State) (m : MethodId) (args : Array Value) (below : List Frame) (meth : Method) (c : Code), p.tables.exec = Jvm.exec → c.code = M.2.1 → s.vm.findClass M.1.cls = some m.cls → (∀ w ∈ sw_lwg, w.before args s = true) → ∀ (u : Nat → Nat) (H : Heap) (locs : List Loc) (ls : Array Slot), (∀ q ∈ L, ls[q.1]? = some (.val (sw_v u q.2))) → ∀ Z : State → Prop,
      W p l e R s m args below meth c H locs cells slots Z (F0 m pc' ls (st'.map (sw_v u))) → W p l e R s m args below meth c H locs cells slots Z (F0 m pc ls (st.map (sw_v u))))
    (k : SWr EE l D cy M d mc ms cells slots pc' L st' n f Q QX) : SWr EE l D cy M d mc ms cells slots pc L st n f Q QX := by
  intro p e R s m args below meth c F A hA hEE u0 n0 u hn hu H locs hat hst hL ls hl Z hZ
  refine step p e R s m args below meth c F.1 F.2.1 F.2.2.2.2.1 F.2.2.2.2.2.1 u H locs ls (fun q hq => hl.2.2 _ (List.mem_map.mpr ⟨q, hq, rfl⟩)) Z ?_
  exact k p e R s m args below meth c F A hA hEE u0 n0 u hn hu H locs hat (hc hst hL) hL ls hl Z hZ
end SWA
