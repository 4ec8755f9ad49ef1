/-! ===== THE CLAIM: nothing old is written ===== -/
theorem sb_nil {s V : State} {L : List Loc} {k n : Nat} (h : s.sameButNew V L k n) (hl : ∀ q ∈ L, s.heap.size ≤ q.base) : s.sameButNew V [] k n := by
  obtain ⟨h1, h2, h3, h4, h5, h6⟩ := h
  refine ⟨h1, h2, h3, h4, h5, fun a c hc => ?_⟩
  obtain ⟨c', q1, q2, q3, q4⟩ := h6 a c hc
  refine ⟨c', q1, q2, q3, fun i _ => q4 i (fun z => ?_)⟩
  have z1 : s.heap.size ≤ a := hl _ z
  have z2 := (Array.getElem?_eq_some_iff.mp hc).1
  omega
/-! ===== THE CLAIM: from the law's entry ===== -/
def lv_Q (_ : Array Value) (s : State) (o : Outcome) (t : State) : Prop := o = .returned (some (.int 1)) ∧ Framed s o t [] 600096 7301386
def lv_Z (below : List Frame) (a : Array Value) (s : State) : State → Prop := fun t => ∃ o, t.status = .running ∧ Ended t below o ∧ lv_Q a s o t
theorem whole_start {p : Program} {e : Env} {s : State} {m : MethodId} {below : List Frame} {meth : Method} {c : Code} (l : Launch) (hl : l.stackTraces = false) {b L : Nat} {xs : Nat → Int32} (hL : L ≤ 192) (hx : p.tables.exec = Jvm.exec) (hb : c.code = code) (hr : meth.sig.returnType = some .boolean) (hml : c.maxLocals = 7) (hown : s.vm.findClass RL = some m.cls) (hts : ∀ w ∈ lw_tbl, w.before #[Value.ref b] s = true) (hX : va_X b L xs s s.heap) (hbl : b < s.heap.size) (hlocks : meth.locks = false) (hname : meth.name = "law") (hg : (Jvm.Cond.and given_1 narrow_1).before #[Value.ref b] s = true) : W p l e room_1 s m #[Value.ref b] below meth c s.heap [] 0 0 (lv_Z below #[Value.ref b] s) (entryFrame m ([Value.ref b] : List Value).toArray 7) := by
  have hw : ∀ w ∈ sw_lwg, w.before #[Value.ref b] s = true := fun w h => hts w (List.mem_filter.mp h).1
  have hn : ∀ w ∈ sw_nest, va_Nw w s := fun w h => by
    have hb := hts w (List.mem_filter.mp h).1
    rcases sw_nest_on h with ⟨a, b, c, d, rfl⟩ | ⟨t, rfl⟩
    · exact va_Nw.of rfl hb
    · exact sw_ao_same rfl hb
  obtain ⟨D, cy, hK⟩ := law_K hw hn
  have hlo := lv_entry [Value.ref b] (n := 7) (Nat.le_of_ble_eq_true rfl)
  rw [lg_entry_eq]
  exact law_0 (D := D) (cy := cy) (b := b) (N := L) (xs := xs) (d := 2048) (mc := 600096) (ms := 7301386) (f := fun _ => .inr (0, [])) (QX := fun _ _ _ => False) hl hL (by decide) (by decide) (by decide) p e room_1 s m #[Value.ref b] below meth c ⟨hx, hb, hml, hr, hown, hw, hn, hK, hlocks, hname, rfl, rfl, Nat.le_of_ble_eq_true rfl, Nat.le_of_ble_eq_true rfl⟩ (fun q => s.heap.size ≤ q) (fun q hq => hq) ⟨law_st hts hg, hX, hbl, fun z => absurd z (by omega)⟩ id 0 id (Nat.le_refl 0) (fun _ _ => rfl) s.heap [] ⟨fun k q hq => (by cases hq), ⟨fun i j p q hi => (by cases hi), fun k q hq => (by cases hq)⟩, va_S.rf, fun i hi => absurd hi (by omega)⟩ (fun v hv => (by cases hv)) (fun q hq => by cases List.mem_singleton.mp hq; trivial) _ hlo _ (fun t ht => by
    obtain ⟨o, h1, h2, h3⟩ := ht
    rcases h3 with ⟨⟨r, u, n, f, hr, hq, _⟩, L9, hF, hA⟩ | ⟨q, hq, E, ce, L9, ⟨u, n, f, hz, _⟩, _⟩
    · subst hq
      exact ⟨o, h1, h2, hr, hF.1, hF.2.1, sb_nil hF.2.2 hA⟩
    · exact hz.elim)
