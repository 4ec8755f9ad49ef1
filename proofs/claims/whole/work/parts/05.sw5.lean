/-! ===== THE LOGIC, 5: makings, Object's constructor, copies, switches ===== -/
section SWE
variable {EE : sw_E} {l : Launch} {D : va_G} {cy : Nat → ClassId} {M : sw_MD} {d mc ms cells slots pc : Nat} {L : sw_L} {st : List Value} {n : Nat} {f : sw_F} {Q : sw_Q} {QX : sw_QX}
/-- behind a making: the new cell is place n -/
theorem sw_made {pc' k j q : Nat} {e0 : va_E} {p : Program} {e : Env} {R : Room} {s : State} {m : MethodId} {args : Array Value} {below : List Frame} {meth : Method} {c : Code} (F : sw_fx D cy M d mc ms p R s m args meth c) {A : Nat → Prop} (hA : ∀ q, s.heap.size ≤ q → A q) (hEE : EE s A args c) {u0 u : Nat → Nat} {n0 : Nat} (hn : n0 ≤ n) (hu : ∀ i, i < n0 → u i = u0 i) {H H1 : Heap} {locs : List Loc} (hat : sw_at D cy A s.heap H locs u n f) (hst : ∀ v ∈ st, sw_c n v) (hL : ∀ q ∈ L, sw_c n q.2) {ls : Array Slot} (hl : lv_has ls M.2.2.1 (L.map (fun q => (q.1, sw_v u q.2)))) {Z : State → Prop} (hZ : ∀ t, vx_MQ below (sw_R D cy A u0 n0 Q) (sw_X D cy A u0 n0 QX) args s mc ms A t → Z t)
    (hce : sw_ce n e0) (hP : va_P D sw_cls (sw_w u cy n f ++ [(q, sw_e u cy e0)]) H1) (hD : va_D A (sw_w u cy n f ++ [(q, sw_e u cy e0)])) (hS : va_S A s.heap H1 locs)
    (kk : SWr EE l D cy M d mc ms k j pc' L (.ref n :: st) (n + 1) (va_up f n e0) Q QX) : W p l e R s m args below meth c H1 locs k j Z (F0 m pc' ls (.ref q :: st.map (sw_v u))) := by
  have hext : ∀ i, i < n → va_up u n q i = u i := fun i hi => va_up_ne _ _ (Nat.ne_of_lt hi)
  have hpush := sw_w_push (u := u) (u' := va_up u n q) (cy := cy) (q := q) (e := e0) hat.2.2.2 hext (va_up_self u n q)
  rw [sw_e_ext hext hce] at hpush
  rw [hpush] at hP hD
  have K := kk p e R s m args below meth c F A hA hEE u0 n0 (va_up u n q) (Nat.le_succ_of_le hn) (fun i hi => (hext i (Nat.lt_of_lt_of_le hi hn)).trans (hu i hi)) H1 locs ⟨hP, hD, hS, fun i hi => by
      by_cases h : i = n
      · rw [h, va_up_self]; exact sw_ce_mono (Nat.le_succ n) hce
      · rw [va_up_ne _ _ h]; exact sw_ce_mono (Nat.le_succ n) (hat.2.2.2 i (by omega))⟩
    (sw_cc (w := .ref n) (Nat.lt_succ_self n) (fun v hv => sw_c_mono (Nat.le_succ n) (hst v hv))) (fun q hq => sw_c_mono (Nat.le_succ n) (hL q hq)) ls (by rw [sw_mapL_ext hext hL]; exact hl) Z hZ
  have hst' : (Value.ref n :: st).map (sw_v (va_up u n q)) = .ref q :: st.map (sw_v u) := by
    show Value.ref (va_up u n q n) :: _ = _
    rw [va_up_self, sw_map_ext hext hst]
  rw [hst'] at K
  exact K
/-- entry idx of own's pool is class ci, of N fields, that start as fs -/
def sw_nf (own : String) (idx ci N : Nat) (fs : List Value) : Prop := ∃ (C : String) (T : u_T) (ty : Nat → FieldType), sw_cf ci C T N ∧ (∀ k, k < N → parseFieldDescriptor (T k).2.2.1 = some (ty k)) ∧ Cond.classLink own idx C ∈ sw_lwg ∧ Cond.instantiable C N ∈ sw_lwg ∧ Cond.initialized C ∈ sw_lwg ∧ (∀ j, j < N → defaultValue (ty j) = vp_V fs j) ∧ (∀ v ∈ fs, v = .int 0 ∨ v = .long 0 ∨ v = .null)
theorem sw_new {idx ci N : Nat} {fs : List Value} (hd : decode M.2.1 pc = .ok (.new idx, 3)) (hf : sw_nf M.1.cls idx ci N fs) (hc : cells + 1 ≤ mc) (hs : slots + N ≤ ms) (kk : SWr EE l D cy M d mc ms (cells + 1) (slots + N) (pc + 3) L (.ref n :: st) (n + 1) (va_up f n (.inr (ci, fs))) Q QX) : SWr EE l D cy M d mc ms cells slots pc L st n f Q QX := by
  intro p e R s m args below meth c F A hA hEE u0 n0 u hn hu H locs hat hst hL ls hl Z hZ
  obtain ⟨C, T, ty, ⟨hcl, hin, -, -⟩, hty, h1, h2, h3, h4, h5⟩ := hf
  have hv0 : ∀ v ∈ fs, sw_v u v = v ∧ sw_c n v := fun v hv => by
    rcases h5 v hv with h | h | h <;> rw [h] <;> exact ⟨rfl, trivial⟩
  have hE : sw_e u cy (.inr (ci, fs)) = .inr (ci, fs) := by
    show Sum.inr (ci, fs.map (sw_v u)) = _
    rw [show fs.map (sw_v u) = fs from by
      conv => rhs; rw [← List.map_id fs]
      exact List.map_congr_left (fun v hv => (hv0 v hv).1)]
  refine va_new (D := D) (cl := sw_cls) (ws := sw_w u cy n f) (A := A) (fs := fs) F.1 F.2.1 F.2.2.2.2.2.1 hin ty hty F.2.2.2.2.1 (F.2.2.2.2.2.1 _ h1) (F.2.2.2.2.2.1 _ h2) (F.2.2.2.2.2.1 _ h3) F.2.2.2.2.2.2.2.1 hat.1 hat.2.1 hat.2.2.1 hA hcl h4 (by rw [F.2.2.2.2.2.2.2.2.2.2.1]; exact hc) (by rw [F.2.2.2.2.2.2.2.2.2.2.2.1]; exact hs) hd (fun q H1 hP hD hS => ?_)
  rw [← hE] at hP hD
  exact sw_made (e0 := .inr (ci, fs)) F hA hEE hn hu hat hst hL hl hZ (fun v hv => (hv0 v hv).2) hP hD hS kk
theorem sw_newI {i : Int32} (N : Nat) (hd : decode M.2.1 pc = .ok (.newarray .int, 2)) (hw : Cond.arrayClass .int ∈ sw_lwg) (hi : ¬ i < 0) (hN : i.toNatClampNeg = N) (hb : N ≤ 60000000) (hc : cells + 1 ≤ mc) (hs : slots + N ≤ ms) (kk : SWr EE l D cy M d mc ms (cells + 1) (slots + N) (pc + 2) L (.ref n :: st) (n + 1) (va_up f n (.inl (0, N, .inl (fun _ => 0)))) Q QX) : SWr EE l D cy M d mc ms cells slots pc L (.int i :: st) n f Q QX := by
  intro p e R s m args below meth c F A hA hEE u0 n0 u hn hu H locs hat hst hL ls hl Z hZ
  refine va_newa (D := D) (cl := sw_cls) (ws := sw_w u cy n f) (A := A) (atype := .int) (ty := .int) (a0 := (N, .inl (fun _ => 0))) F.1 F.2.1 (F.2.2.2.2.2.1 _ hw) rfl F.2.2.2.2.2.2.2.1 hat.1 hat.2.1 hat.2.2.1 hA (fun cA => rfl) hi hN (by show N * _ ≤ _; simp only [componentBytes]; omega) (by rw [F.2.2.2.2.2.2.2.2.2.2.1]; exact hc) (by rw [F.2.2.2.2.2.2.2.2.2.2.2.1]; exact hs) hd (fun q cA H1 hK hP hD hS => ?_)
  have e1 : s.vm.findClass ("[" ++ (FieldType.int).toString) = some cA := (hK.2 5 _ rfl).2
  have e2 : s.vm.findClass ("[" ++ (FieldType.int).toString) = some (cy 0) := (F.2.2.2.2.2.2.2.1.2 0 _ rfl).2
  cases Option.some.inj (e1.symm.trans e2)
  exact sw_made (e0 := .inl (0, N, .inl (fun _ => 0))) F hA hEE hn hu hat (sw_ct hst) hL hl hZ (fun k9 f9 h9 => by cases h9) hP hD hS kk
theorem sw_newJ {i : Int32} (N : Nat) (hd : decode M.2.1 pc = .ok (.newarray .long, 2)) (hw : Cond.arrayClass .long ∈ sw_lwg) (hi : ¬ i < 0) (hN : i.toNatClampNeg = N) (hb : N ≤ 60000000) (hc : cells + 1 ≤ mc) (hs : slots + N ≤ ms) (kk : SWr EE l D cy M d mc ms (cells + 1) (slots + N) (pc + 2) L (.ref n :: st) (n + 1) (va_up f n (.inl (1, N, .inr (.inl (fun _ => 0))))) Q QX) : SWr EE l D cy M d mc ms cells slots pc L (.int i :: st) n f Q QX := by
  intro p e R s m args below meth c F A hA hEE u0 n0 u hn hu H locs hat hst hL ls hl Z hZ
  refine va_newa (D := D) (cl := sw_cls) (ws := sw_w u cy n f) (A := A) (atype := .long) (ty := .long) (a0 := (N, .inr (.inl (fun _ => 0)))) F.1 F.2.1 (F.2.2.2.2.2.1 _ hw) rfl F.2.2.2.2.2.2.2.1 hat.1 hat.2.1 hat.2.2.1 hA (fun cA => rfl) hi hN (by show N * _ ≤ _; simp only [componentBytes]; omega) (by rw [F.2.2.2.2.2.2.2.2.2.2.1]; exact hc) (by rw [F.2.2.2.2.2.2.2.2.2.2.2.1]; exact hs) hd (fun q cA H1 hK hP hD hS => ?_)
  have e1 : s.vm.findClass ("[" ++ (FieldType.long).toString) = some cA := (hK.2 5 _ rfl).2
  have e2 : s.vm.findClass ("[" ++ (FieldType.long).toString) = some (cy 1) := (F.2.2.2.2.2.2.2.1.2 1 _ rfl).2
  cases Option.some.inj (e1.symm.trans e2)
  exact sw_made (e0 := .inl (1, N, .inr (.inl (fun _ => 0)))) F hA hEE hn hu hat (sw_ct hst) hL hl hZ (fun k9 f9 h9 => by cases h9) hP hD hS kk
theorem sw_newZ {i : Int32} (N : Nat) (hd : decode M.2.1 pc = .ok (.newarray .boolean, 2)) (hw : Cond.arrayClass .boolean ∈ sw_lwg) (hi : ¬ i < 0) (hN : i.toNatClampNeg = N) (hb : N ≤ 60000000) (hc : cells + 1 ≤ mc) (hs : slots + N ≤ ms) (kk : SWr EE l D cy M d mc ms (cells + 1) (slots + N) (pc + 2) L (.ref n :: st) (n + 1) (va_up f n (.inl (2, N, .inl (fun _ => 0)))) Q QX) : SWr EE l D cy M d mc ms cells slots pc L (.int i :: st) n f Q QX := by
  intro p e R s m args below meth c F A hA hEE u0 n0 u hn hu H locs hat hst hL ls hl Z hZ
  refine va_newa (D := D) (cl := sw_cls) (ws := sw_w u cy n f) (A := A) (atype := .boolean) (ty := .boolean) (a0 := (N, .inl (fun _ => 0))) F.1 F.2.1 (F.2.2.2.2.2.1 _ hw) rfl F.2.2.2.2.2.2.2.1 hat.1 hat.2.1 hat.2.2.1 hA (fun cA => rfl) hi hN (by show N * _ ≤ _; simp only [componentBytes]; omega) (by rw [F.2.2.2.2.2.2.2.2.2.2.1]; exact hc) (by rw [F.2.2.2.2.2.2.2.2.2.2.2.1]; exact hs) hd (fun q cA H1 hK hP hD hS => ?_)
  have e1 : s.vm.findClass ("[" ++ (FieldType.boolean).toString) = some cA := (hK.2 5 _ rfl).2
  have e2 : s.vm.findClass ("[" ++ (FieldType.boolean).toString) = some (cy 2) := (F.2.2.2.2.2.2.2.1.2 2 _ rfl).2
  cases Option.some.inj (e1.symm.trans e2)
  exact sw_made (e0 := .inl (2, N, .inl (fun _ => 0))) F hA hEE hn hu hat (sw_ct hst) hL hl hZ (fun k9 f9 h9 => by cases h9) hP hD hS kk
theorem sw_newC {i : Int32} (N : Nat) (hd : decode M.2.1 pc = .ok (.newarray .char, 2)) (hw : Cond.arrayClass .char ∈ sw_lwg) (hi : ¬ i < 0) (hN : i.toNatClampNeg = N) (hb : N ≤ 60000000) (hc : cells + 1 ≤ mc) (hs : slots + N ≤ ms) (kk : SWr EE l D cy M d mc ms (cells + 1) (slots + N) (pc + 2) L (.ref n :: st) (n + 1) (va_up f n (.inl (3, N, .inl (fun _ => 0)))) Q QX) : SWr EE l D cy M d mc ms cells slots pc L (.int i :: st) n f Q QX := by
  intro p e R s m args below meth c F A hA hEE u0 n0 u hn hu H locs hat hst hL ls hl Z hZ
  refine va_newa (D := D) (cl := sw_cls) (ws := sw_w u cy n f) (A := A) (atype := .char) (ty := .char) (a0 := (N, .inl (fun _ => 0))) F.1 F.2.1 (F.2.2.2.2.2.1 _ hw) rfl F.2.2.2.2.2.2.2.1 hat.1 hat.2.1 hat.2.2.1 hA (fun cA => rfl) hi hN (by show N * _ ≤ _; simp only [componentBytes]; omega) (by rw [F.2.2.2.2.2.2.2.2.2.2.1]; exact hc) (by rw [F.2.2.2.2.2.2.2.2.2.2.2.1]; exact hs) hd (fun q cA H1 hK hP hD hS => ?_)
  have e1 : s.vm.findClass ("[" ++ (FieldType.char).toString) = some cA := (hK.2 5 _ rfl).2
  have e2 : s.vm.findClass ("[" ++ (FieldType.char).toString) = some (cy 3) := (F.2.2.2.2.2.2.2.1.2 3 _ rfl).2
  cases Option.some.inj (e1.symm.trans e2)
  exact sw_made (e0 := .inl (3, N, .inl (fun _ => 0))) F hA hEE hn hu hat (sw_ct hst) hL hl hZ (fun k9 f9 h9 => by cases h9) hP hD hS kk
theorem sw_obj {idx a : Nat} (hd : decode M.2.1 pc = .ok (.invokespecial idx, 3)) (h1 : Cond.methodLink M.1.cls idx Lib.objectInit ∈ sw_lwg) (h2 : Cond.instanceMethod Lib.objectInit ∈ sw_lwg) (h3 : Cond.code Lib.objectInit ⟨#[0xb1]⟩ 1 none ∈ sw_lwg) (hd1 : 1 ≤ d) (hr : (st.map fun v => v.category).sum ≤ 8) (kk : SWr EE l D cy M d mc ms cells slots (pc + 3) L st n f Q QX) : SWr EE l D cy M d mc ms cells slots pc L (.ref a :: st) n f Q QX := by
  intro p e R s m args below meth c F A hA hEE u0 n0 u hn hu H locs hat hst hL ls hl Z hZ
  refine W.objInit F.1 F.2.1 F.2.2.2.2.1 (F.2.2.2.2.2.1 _ h1) (F.2.2.2.2.2.1 _ h2) (F.2.2.2.2.2.1 _ h3) rfl (hl.1.trans F.2.2.1.symm) (a := u a) (rest := st.map (sw_v u)) rfl hd (Nat.le_trans hd1 F.2.2.2.2.2.2.2.2.2.2.2.2.1) ?_ ?_
  · have h4 := F.2.2.2.2.2.2.2.2.2.2.2.2.2
    rw [sw_cats]
    show 2 * 0 + _ + 12 ≤ _
    omega
  · exact kk p e R s m args below meth c F A hA hEE u0 n0 u hn hu H locs hat (sw_ct hst) hL ls hl Z hZ
theorem sw_copy {idx a b N K : Nat} {g h : Nat → Int32} {x y z : Int32} (hd : decode M.2.1 pc = .ok (.invokestatic idx, 3)) (h1 : Cond.methodLink M.1.cls idx arraycopyName ∈ sw_lwg) (h2 : Cond.native arraycopyName ∈ sw_lwg) (h3 : Cond.static arraycopyName ∈ sw_lwg) (h4 : Cond.initialized "java/lang/System" ∈ sw_lwg)
    (ha : f a = .inl (0, N, .inl g)) (hb : f b = .inl (0, K, .inl h)) (hx : ¬ x < 0) (hy : ¬ y < 0) (hz : ¬ z < 0) (hg : x.toNatClampNeg + z.toNatClampNeg ≤ N) (hh : y.toNatClampNeg + z.toNatClampNeg ≤ K) (hd1 : 1 ≤ d) (hr : (st.map fun v => v.category).sum ≤ 8) (kk : SWr EE l D cy M d mc ms cells slots (pc + 3) L st n (va_up f b (.inl (0, K, .inl (va_cpy g h x.toNatClampNeg y.toNatClampNeg z.toNatClampNeg)))) Q QX) : SWr EE l D cy M d mc ms cells slots pc L (.int z :: .int y :: .ref b :: .int x :: .ref a :: st) n f Q QX := by
  intro p e R s m args below meth c F A hA hEE u0 n0 u hn hu H locs hat hst hL ls hl Z hZ
  have han : a < n := sw_ch (sw_ct (sw_ct (sw_ct (sw_ct hst))))
  have hbn : b < n := sw_ch (sw_ct (sw_ct hst))
  have hset := sw_w_set (u := u) (cy := cy) (f := f) hbn (.inl (0, K, .inl (va_cpy g h x.toNatClampNeg y.toNatClampNeg z.toNatClampNeg)))
  refine va_copyi (D := D) (cl := sw_cls) (ws := sw_w u cy n f) (A := A) (ty := .int) (f := g) (g := h) (c0 := cy 0) (c1 := cy 0) (n0 := N) (n1 := K) F.1 F.2.1 (F.2.2.1.trans hl.1.symm) F.2.2.2.2.1 (F.2.2.2.2.2.1 _ h1) (F.2.2.2.2.2.1 _ h2) (F.2.2.2.2.2.1 _ h3) (F.2.2.2.2.2.1 _ h4) F.2.2.2.2.2.2.2.1 hat.1 hat.2.1 hat.2.2.1 a b 0 0 (by rw [sw_w_get han, ha]; rfl) (by rw [sw_w_get hbn, hb]; rfl) rfl rfl rfl hx hy hz hg hh (fun _ _ => rfl) (Nat.le_trans hd1 F.2.2.2.2.2.2.2.2.2.2.2.2.1) ?_ hd (fun H1 locs1 hP hD hS => ?_)
  · have h5 := F.2.2.2.2.2.2.2.2.2.2.2.2.2
    have h6 : nativeFrameWords "java/lang/System" "arraycopy" 5 + 11 ≤ 30 := by decide
    rw [sw_cats]
    omega
  · exact kk p e R s m args below meth c F A hA hEE u0 n0 u hn hu H1 locs1 ⟨by rw [← hset]; exact hP, by rw [← hset]; exact hD, hS, sw_up_ce hat.2.2.2 (fun k9 f9 h9 => by cases h9)⟩ (sw_ct (sw_ct (sw_ct (sw_ct (sw_ct hst))))) hL ls hl Z hZ
theorem sw_tabIn {dflt lo hi off : Int} {offs : Array Int} {len : Nat} {x : Int32} (tgt : Nat) (hd : decode M.2.1 pc = .ok (.tableswitch dflt lo hi offs, len)) (h1 : ¬ x.toInt < lo) (h2 : ¬ hi < x.toInt) (ho : offs[(x.toInt - lo).toNat]? = some off) (ht : (pc : Int) + off = (tgt : Int)) (k : SWr EE l D cy M d mc ms cells slots tgt L st n f Q QX) : SWr EE l D cy M d mc ms cells slots pc L (.int x :: st) n f Q QX :=
  sw_pure (fun h _ => sw_ct h) (fun p e R s m args below meth c hx hb ho' hw u H locs ls hl Z kk => lv_tableIn hx hb hd h1 h2 ho ht kk) k
theorem sw_tabOut {dflt lo hi : Int} {offs : Array Int} {len : Nat} {x : Int32} (tgt : Nat) (hd : decode M.2.1 pc = .ok (.tableswitch dflt lo hi offs, len)) (h : x.toInt < lo ∨ hi < x.toInt) (ht : (pc : Int) + dflt = (tgt : Int)) (k : SWr EE l D cy M d mc ms cells slots tgt L st n f Q QX) : SWr EE l D cy M d mc ms cells slots pc L (.int x :: st) n f Q QX :=
  sw_pure (fun h _ => sw_ct h) (fun p e R s m args below meth c hx hb ho' hw u H locs ls hl Z kk => lv_tableOut hx hb hd h ht kk) k
theorem sw_look {dflt off : Int} {ps : Array (Int × Int)} {len : Nat} {x : Int32} (tgt : Nat) (hd : decode M.2.1 pc = .ok (.lookupswitch dflt ps, len)) (hp : (ps.toList.zip (ps.toList.drop 1)).all (fun (a, next) => a.1 < next.1) = true) (ho : Op.lookupswitch.offset ps.toList dflt x.toInt = off) (ht : (pc : Int) + off = (tgt : Int)) (k : SWr EE l D cy M d mc ms cells slots tgt L st n f Q QX) : SWr EE l D cy M d mc ms cells slots pc L (.int x :: st) n f Q QX :=
  sw_pure (fun h _ => sw_ct h) (fun p e R s m args below meth c hx hb ho' hw u H locs ls hl Z kk => lv_lookup hx hb hd hp ho ht kk) k
end SWE
