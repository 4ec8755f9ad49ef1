/-! ===== THE LOGIC, 3: fields, arrays, makings, returns, calls ===== -/
/-- class number ci: its name, its fields; their words are among the tables' -/
def sw_cf (ci : Nat) (C : String) (T : u_T) (N : Nat) : Prop := sw_cls[ci]? = some (C, T, N) ∧ (∀ w ∈ u_ws C T N, w ∈ sw_lwg) ∧ (∃ ty : Nat → FieldType, ∀ k, k < N → parseFieldDescriptor (T k).2.2.1 = some (ty k)) ∧ ∀ a, a < N → ∀ b, b < N → a ≠ b → (T a).2.1 ≠ (T b).2.1
/-- entry idx of own's pool is field k of class ci, of type ty, final or not -/
def sw_fl (own : String) (idx ci k : Nat) (ty : FieldType) (fin : Bool) : Prop := ∃ (C : String) (T : u_T) (N : Nat), sw_cf ci C T N ∧ k < N ∧ Cond.fieldLink own idx (T k).1 (T k).2.1 (T k).2.2.1 ∈ sw_lwg ∧ (T k).2.2.2 = fin ∧ parseFieldDescriptor (T k).2.2.1 = some ty ∧ (fin = true → (T k).1 = own)
def sw_fr (own : String) (idx ci k : Nat) : Prop := ∃ (C : String) (T : u_T) (N : Nat), sw_cf ci C T N ∧ k < N ∧ Cond.fieldLink own idx (T k).1 (T k).2.1 (T k).2.2.1 ∈ sw_lwg
theorem sw_fl.r {own : String} {idx ci k : Nat} {ty : FieldType} {fin : Bool} (h : sw_fl own idx ci k ty fin) : sw_fr own idx ci k := by
  obtain ⟨C, T, N, h1, h2, h3, -⟩ := h
  exact ⟨C, T, N, h1, h2, h3⟩
def sw_fit (ty : FieldType) (v : Value) : Prop := ∀ u : Nat → Nat, narrow ty (sw_v u v) = sw_v u v ∧ fits ty (sw_v u v) = true
theorem sw_fit_i (x : Int32) : sw_fit .int (.int x) := fun _ => ⟨rfl, rfl⟩
theorem sw_fit_l (x : Int64) : sw_fit .long (.long x) := fun _ => ⟨rfl, rfl⟩
theorem sw_fit_z0 : sw_fit .boolean (.int 0) := fun _ => ⟨rfl, rfl⟩
theorem sw_fit_z1 : sw_fit .boolean (.int 1) := fun _ => ⟨rfl, rfl⟩
theorem sw_fit_or {C : String} {v : Value} (h : sw_isR v = true) : sw_fit (.object C) v := fun u => by
  cases v with
  | ref a => exact ⟨rfl, rfl⟩
  | null => exact ⟨rfl, rfl⟩
  | _ => cases h
theorem sw_fit_ar {C : FieldType} {v : Value} (h : sw_isR v = true) : sw_fit (.array C) v := fun u => by
  cases v with
  | ref a => exact ⟨rfl, rfl⟩
  | null => exact ⟨rfl, rfl⟩
  | _ => cases h
theorem sw_rn {n : Nat} : ∀ v : Value, (none : Option Value) = some v → sw_c n v := fun v h => by cases h
section SWC
variable {EE : sw_E} {l : Launch} {D : va_G} {cy : Nat → ClassId} {M : sw_MD} {d mc ms cells slots pc : Nat} {L : sw_L} {st : List Value} {n : Nat} {f : sw_F} {Q : sw_Q} {QX : sw_QX}
theorem sw_up_ce {a : Nat} {e : va_E} (h : ∀ i, i < n → sw_ce n (f i)) (he : sw_ce n e) : ∀ i, i < n → sw_ce n (va_up f a e i) := fun i hi => by
  by_cases hia : i = a
  · rw [hia, va_up_self]; exact he
  · rw [va_up_ne _ _ hia]; exact h i hi
theorem sw_get {idx ci k a : Nat} {fs : List Value} {v : Value} (hd : decode M.2.1 pc = .ok (.getfield idx, 3)) (hf : sw_fr M.1.cls idx ci k) (ha : f a = .inr (ci, fs)) (hv : fs[k]? = some v) (kk : SWr EE l D cy M d mc ms cells slots (pc + 3) L (v :: st) n f Q QX) : SWr EE l D cy M d mc ms cells slots pc L (.ref a :: st) n f Q QX := by
  intro p e R s m args below meth c F A hA hEE u0 n0 u hn hu H locs hat hst hL ls hl Z hZ
  have han : a < n := sw_ch hst
  obtain ⟨C, T, N, ⟨hc, hin, -, -⟩, hk, hlk⟩ := hf
  have hce := hat.2.2.2 a han
  rw [ha] at hce
  refine va_get (D := D) (cl := sw_cls) (ws := sw_w u cy n f) (ci := ci) (fs := fs.map (sw_v u)) (v := sw_v u v) F.1 F.2.1 F.2.2.2.2.2.1 hin F.2.2.2.2.1 F.2.2.2.2.2.2.2.1 hat.1 a (by rw [sw_w_get han, ha]; rfl) hc k hk (F.2.2.2.2.2.1 _ hlk) (fun _ h => h) (by rw [List.getElem?_map, hv]; rfl) hd ?_
  exact kk p e R s m args below meth c F A hA hEE u0 n0 u hn hu H locs hat (sw_cc (hce v (List.mem_of_getElem? hv)) (sw_ct hst)) hL ls hl Z hZ
theorem sw_put {idx ci k a : Nat} {ty : FieldType} {fs : List Value} {v : Value} (hd : decode M.2.1 pc = .ok (.putfield idx, 3)) (hf : sw_fl M.1.cls idx ci k ty false) (ha : f a = .inr (ci, fs)) (hl' : k < fs.length) (hv : sw_fit ty v) (kk : SWr EE l D cy M d mc ms cells slots (pc + 3) L st n (va_up f a (.inr (ci, fs.set k v))) Q QX) : SWr EE l D cy M d mc ms cells slots pc L (v :: .ref a :: st) n f Q QX := by
  intro p e R s m args below meth c F A hA hEE u0 n0 u hn hu H locs hat hst hL ls hl Z hZ
  have han : a < n := sw_ch (sw_ct hst)
  obtain ⟨C, T, N, ⟨hc, hin, ⟨ty0, hty⟩, hnm⟩, hk, hlk, hfn, hpd, hdc⟩ := hf
  have hce := hat.2.2.2 a han
  rw [ha] at hce
  have hE : sw_e u cy (.inr (ci, fs.set k v)) = .inr (ci, (fs.map (sw_v u)).set k (sw_v u v)) := by
    show Sum.inr (ci, _) = Sum.inr (ci, _)
    rw [List.map_set]
  have hset := sw_w_set (u := u) (cy := cy) (f := f) han (.inr (ci, fs.set k v))
  rw [hE] at hset
  refine va_put (D := D) (cl := sw_cls) (ws := sw_w u cy n f) (ci := ci) (fs := fs.map (sw_v u)) (v := sw_v u v) (ty := ty) (A := A) F.1 F.2.1 F.2.2.2.2.2.1 hin ty0 hty hnm F.2.2.2.2.1 F.2.2.2.2.2.2.2.1 hat.1 hat.2.1 hat.2.2.1 a (by rw [sw_w_get han, ha]; rfl) hc k hk (F.2.2.2.2.2.1 _ hlk) (fun _ h => h) hfn hpd (hv u).1 (hv u).2 (by rw [List.length_map]; exact hl') hd (fun H1 locs1 hP hD hS => ?_)
  rw [hset] at hP hD
  refine kk p e R s m args below meth c F A hA hEE u0 n0 u hn hu H1 locs1 ⟨hP, hD, hS, sw_up_ce hat.2.2.2 (fun w hw => ?_)⟩ (sw_ct (sw_ct hst)) hL ls hl Z hZ
  rcases List.mem_or_eq_of_mem_set hw with h | h
  · exact hce w h
  · rw [h]; exact sw_ch hst
theorem sw_putF {idx ci k a : Nat} {ty : FieldType} {fs : List Value} {v : Value} (hd : decode M.2.1 pc = .ok (.putfield idx, 3)) (hf : sw_fl M.1.cls idx ci k ty true) (hi : M.1.name = "<init>") (ha : f a = .inr (ci, fs)) (hl' : k < fs.length) (hv : sw_fit ty v) (kk : SWr EE l D cy M d mc ms cells slots (pc + 3) L st n (va_up f a (.inr (ci, fs.set k v))) Q QX) : SWr EE l D cy M d mc ms cells slots pc L (v :: .ref a :: st) n f Q QX := by
  intro p e R s m args below meth c F A hA hEE u0 n0 u hn hu H locs hat hst hL ls hl Z hZ
  have han : a < n := sw_ch (sw_ct hst)
  obtain ⟨C, T, N, ⟨hc, hin, ⟨ty0, hty⟩, hnm⟩, hk, hlk, hfn, hpd, hdc⟩ := hf
  have hce := hat.2.2.2 a han
  rw [ha] at hce
  have hE : sw_e u cy (.inr (ci, fs.set k v)) = .inr (ci, (fs.map (sw_v u)).set k (sw_v u v)) := by
    show Sum.inr (ci, _) = Sum.inr (ci, _)
    rw [List.map_set]
  have hset := sw_w_set (u := u) (cy := cy) (f := f) han (.inr (ci, fs.set k v))
  rw [hE] at hset
  refine va_putF (D := D) (cl := sw_cls) (ws := sw_w u cy n f) (ci := ci) (fs := fs.map (sw_v u)) (v := sw_v u v) (ty := ty) (A := A) F.1 F.2.1 F.2.2.2.2.2.1 hin ty0 hty hnm F.2.2.2.2.1 F.2.2.2.2.2.2.2.1 hat.1 hat.2.1 hat.2.2.1 a (by rw [sw_w_get han, ha]; rfl) hc k hk (F.2.2.2.2.2.1 _ hlk) (fun _ h => h) hfn (F.2.2.2.2.2.2.2.2.2.1.trans hi) (hdc rfl) hpd (hv u).1 (hv u).2 (by rw [List.length_map]; exact hl') hd (fun H1 locs1 hP hD hS => ?_)
  rw [hset] at hP hD
  refine kk p e R s m args below meth c F A hA hEE u0 n0 u hn hu H1 locs1 ⟨hP, hD, hS, sw_up_ce hat.2.2.2 (fun w hw => ?_)⟩ (sw_ct (sw_ct hst)) hL ls hl Z hZ
  rcases List.mem_or_eq_of_mem_set hw with h | h
  · exact hce w h
  · rw [h]; exact sw_ch hst
theorem sw_iald {a N : Nat} {g : Nat → Int32} {i : Int32} (hd : decode M.2.1 pc = .ok (.iaload, 1)) (ha : f a = .inl (0, N, .inl g)) (hi : vp_in i N) (kk : SWr EE l D cy M d mc ms cells slots (pc + 1) L (.int (g i.toNatClampNeg) :: st) n f Q QX) : SWr EE l D cy M d mc ms cells slots pc L (.int i :: .ref a :: st) n f Q QX := by
  intro p e R s m args below meth c F A hA hEE u0 n0 u hn hu H locs hat hst hL ls hl Z hZ
  have han : a < n := sw_ch (sw_ct hst)
  refine va_iald (D := D) (cl := sw_cls) (ws := sw_w u cy n f) F.1 F.2.1 F.2.2.2.2.2.2.2.1 hat.1 a 0 (cA := cy 0) (n := N) (f := g) (by rw [sw_w_get han, ha]; rfl) rfl hi hd ?_
  exact kk p e R s m args below meth c F A hA hEE u0 n0 u hn hu H locs hat (sw_ci (sw_ct (sw_ct hst))) hL ls hl Z hZ
theorem sw_zald {a N : Nat} {g : Nat → Int32} {i : Int32} (hd : decode M.2.1 pc = .ok (.baload, 1)) (ha : f a = .inl (2, N, .inl g)) (hi : vp_in i N) (kk : SWr EE l D cy M d mc ms cells slots (pc + 1) L (.int (g i.toNatClampNeg) :: st) n f Q QX) : SWr EE l D cy M d mc ms cells slots pc L (.int i :: .ref a :: st) n f Q QX := by
  intro p e R s m args below meth c F A hA hEE u0 n0 u hn hu H locs hat hst hL ls hl Z hZ
  have han : a < n := sw_ch (sw_ct hst)
  refine va_zald (D := D) (cl := sw_cls) (ws := sw_w u cy n f) F.1 F.2.1 F.2.2.2.2.2.2.2.1 hat.1 a 2 (cA := cy 2) (n := N) (f := g) (by rw [sw_w_get han, ha]; rfl) rfl hi hd ?_
  exact kk p e R s m args below meth c F A hA hEE u0 n0 u hn hu H locs hat (sw_ci (sw_ct (sw_ct hst))) hL ls hl Z hZ
theorem sw_cald {a N : Nat} {g : Nat → Int32} {i : Int32} (hd : decode M.2.1 pc = .ok (.caload, 1)) (ha : f a = .inl (3, N, .inl g)) (hi : vp_in i N) (kk : SWr EE l D cy M d mc ms cells slots (pc + 1) L (.int (g i.toNatClampNeg) :: st) n f Q QX) : SWr EE l D cy M d mc ms cells slots pc L (.int i :: .ref a :: st) n f Q QX := by
  intro p e R s m args below meth c F A hA hEE u0 n0 u hn hu H locs hat hst hL ls hl Z hZ
  have han : a < n := sw_ch (sw_ct hst)
  refine va_cald (D := D) (cl := sw_cls) (ws := sw_w u cy n f) F.1 F.2.1 F.2.2.2.2.2.2.2.1 hat.1 a 3 (cA := cy 3) (n := N) (f := g) (by rw [sw_w_get han, ha]; rfl) rfl hi hd ?_
  exact kk p e R s m args below meth c F A hA hEE u0 n0 u hn hu H locs hat (sw_ci (sw_ct (sw_ct hst))) hL ls hl Z hZ
theorem sw_lald {a N : Nat} {g : Nat → Int64} {i : Int32} (hd : decode M.2.1 pc = .ok (.laload, 1)) (ha : f a = .inl (1, N, .inr (.inl g))) (hi : vp_in i N) (kk : SWr EE l D cy M d mc ms cells slots (pc + 1) L (.long (g i.toNatClampNeg) :: st) n f Q QX) : SWr EE l D cy M d mc ms cells slots pc L (.int i :: .ref a :: st) n f Q QX := by
  intro p e R s m args below meth c F A hA hEE u0 n0 u hn hu H locs hat hst hL ls hl Z hZ
  have han : a < n := sw_ch (sw_ct hst)
  refine va_lald (D := D) (cl := sw_cls) (ws := sw_w u cy n f) F.1 F.2.1 F.2.2.2.2.2.2.2.1 hat.1 a 1 (cA := cy 1) (n := N) (f := g) (by rw [sw_w_get han, ha]; rfl) rfl hi hd ?_
  exact kk p e R s m args below meth c F A hA hEE u0 n0 u hn hu H locs hat (sw_cl (sw_ct (sw_ct hst))) hL ls hl Z hZ
theorem sw_iast {a N : Nat} {g : Nat → Int32} {i : Int32} {x : Int32} (hd : decode M.2.1 pc = .ok (.iastore, 1)) (ha : f a = .inl (0, N, .inl g)) (hi : vp_in i N) (kk : SWr EE l D cy M d mc ms cells slots (pc + 1) L st n (va_up f a (.inl (0, N, .inl (upd g i.toNatClampNeg x)))) Q QX) : SWr EE l D cy M d mc ms cells slots pc L (.int x :: .int i :: .ref a :: st) n f Q QX := by
  intro p e R s m args below meth c F A hA hEE u0 n0 u hn hu H locs hat hst hL ls hl Z hZ
  have han : a < n := sw_ch (sw_ct (sw_ct hst))
  have hset := sw_w_set (u := u) (cy := cy) (f := f) han (.inl (0, N, .inl (upd g i.toNatClampNeg x)))
  refine va_iast (D := D) (cl := sw_cls) (ws := sw_w u cy n f) (A := A) F.1 F.2.1 F.2.2.2.2.2.2.2.1 hat.1 hat.2.1 hat.2.2.1 a 0 (cA := cy 0) (n := N) (f := g) (by rw [sw_w_get han, ha]; rfl) rfl hi hd (fun H1 locs1 hP hD hS => ?_)
  refine kk p e R s m args below meth c F A hA hEE u0 n0 u hn hu H1 locs1 ⟨by rw [← hset]; exact hP, by rw [← hset]; exact hD, hS, sw_up_ce hat.2.2.2 (fun k9 f9 h9 => by cases h9)⟩ (sw_ct (sw_ct (sw_ct hst))) hL ls hl Z hZ
theorem sw_zast {a N : Nat} {g : Nat → Int32} {i : Int32} {x : Int32} (hd : decode M.2.1 pc = .ok (.bastore, 1)) (ha : f a = .inl (2, N, .inl g)) (hi : vp_in i N) (kk : SWr EE l D cy M d mc ms cells slots (pc + 1) L st n (va_up f a (.inl (2, N, .inl (upd g i.toNatClampNeg (vp_nar .boolean x))))) Q QX) : SWr EE l D cy M d mc ms cells slots pc L (.int x :: .int i :: .ref a :: st) n f Q QX := by
  intro p e R s m args below meth c F A hA hEE u0 n0 u hn hu H locs hat hst hL ls hl Z hZ
  have han : a < n := sw_ch (sw_ct (sw_ct hst))
  have hset := sw_w_set (u := u) (cy := cy) (f := f) han (.inl (2, N, .inl (upd g i.toNatClampNeg (vp_nar .boolean x))))
  refine va_zast (D := D) (cl := sw_cls) (ws := sw_w u cy n f) (A := A) F.1 F.2.1 F.2.2.2.2.2.2.2.1 hat.1 hat.2.1 hat.2.2.1 a 2 (cA := cy 2) (n := N) (f := g) (by rw [sw_w_get han, ha]; rfl) rfl hi hd (fun H1 locs1 hP hD hS => ?_)
  refine kk p e R s m args below meth c F A hA hEE u0 n0 u hn hu H1 locs1 ⟨by rw [← hset]; exact hP, by rw [← hset]; exact hD, hS, sw_up_ce hat.2.2.2 (fun k9 f9 h9 => by cases h9)⟩ (sw_ct (sw_ct (sw_ct hst))) hL ls hl Z hZ
theorem sw_cast {a N : Nat} {g : Nat → Int32} {i : Int32} {x : Int32} (hd : decode M.2.1 pc = .ok (.castore, 1)) (ha : f a = .inl (3, N, .inl g)) (hi : vp_in i N) (kk : SWr EE l D cy M d mc ms cells slots (pc + 1) L st n (va_up f a (.inl (3, N, .inl (upd g i.toNatClampNeg (vp_nar .char x))))) Q QX) : SWr EE l D cy M d mc ms cells slots pc L (.int x :: .int i :: .ref a :: st) n f Q QX := by
  intro p e R s m args below meth c F A hA hEE u0 n0 u hn hu H locs hat hst hL ls hl Z hZ
  have han : a < n := sw_ch (sw_ct (sw_ct hst))
  have hset := sw_w_set (u := u) (cy := cy) (f := f) han (.inl (3, N, .inl (upd g i.toNatClampNeg (vp_nar .char x))))
  refine va_cast (D := D) (cl := sw_cls) (ws := sw_w u cy n f) (A := A) F.1 F.2.1 F.2.2.2.2.2.2.2.1 hat.1 hat.2.1 hat.2.2.1 a 3 (cA := cy 3) (n := N) (f := g) (by rw [sw_w_get han, ha]; rfl) rfl hi hd (fun H1 locs1 hP hD hS => ?_)
  refine kk p e R s m args below meth c F A hA hEE u0 n0 u hn hu H1 locs1 ⟨by rw [← hset]; exact hP, by rw [← hset]; exact hD, hS, sw_up_ce hat.2.2.2 (fun k9 f9 h9 => by cases h9)⟩ (sw_ct (sw_ct (sw_ct hst))) hL ls hl Z hZ
theorem sw_last {a N : Nat} {g : Nat → Int64} {i : Int32} {x : Int64} (hd : decode M.2.1 pc = .ok (.lastore, 1)) (ha : f a = .inl (1, N, .inr (.inl g))) (hi : vp_in i N) (kk : SWr EE l D cy M d mc ms cells slots (pc + 1) L st n (va_up f a (.inl (1, N, .inr (.inl (vp_updL g i.toNatClampNeg x))))) Q QX) : SWr EE l D cy M d mc ms cells slots pc L (.long x :: .int i :: .ref a :: st) n f Q QX := by
  intro p e R s m args below meth c F A hA hEE u0 n0 u hn hu H locs hat hst hL ls hl Z hZ
  have han : a < n := sw_ch (sw_ct (sw_ct hst))
  have hset := sw_w_set (u := u) (cy := cy) (f := f) han (.inl (1, N, .inr (.inl (vp_updL g i.toNatClampNeg x))))
  refine va_last (D := D) (cl := sw_cls) (ws := sw_w u cy n f) (A := A) F.1 F.2.1 F.2.2.2.2.2.2.2.1 hat.1 hat.2.1 hat.2.2.1 a 1 (cA := cy 1) (n := N) (f := g) (by rw [sw_w_get han, ha]; rfl) rfl hi hd (fun H1 locs1 hP hD hS => ?_)
  refine kk p e R s m args below meth c F A hA hEE u0 n0 u hn hu H1 locs1 ⟨by rw [← hset]; exact hP, by rw [← hset]; exact hD, hS, sw_up_ce hat.2.2.2 (fun k9 f9 h9 => by cases h9)⟩ (sw_ct (sw_ct (sw_ct hst))) hL ls hl Z hZ
theorem sw_aald {a N b : Nat} {g : Nat → Option Nat} {i : Int32} (hd : decode M.2.1 pc = .ok (.aaload, 1)) (ha : f a = .inl (4, N, .inr (.inr (.inr (.inr g))))) (hi : vp_in i N) (hb : g i.toNatClampNeg = some b) (kk : SWr EE l D cy M d mc ms cells slots (pc + 1) L (.ref b :: st) n f Q QX) : SWr EE l D cy M d mc ms cells slots pc L (.int i :: .ref a :: st) n f Q QX := by
  intro p e R s m args below meth c F A hA hEE u0 n0 u hn hu H locs hat hst hL ls hl Z hZ
  have han : a < n := sw_ch (sw_ct hst)
  have hce := hat.2.2.2 a han
  rw [ha] at hce
  have hlt : i.toNatClampNeg < N := Nat.not_le.mp fun q => hi (Or.inr q)
  have hw : (sw_w u cy n f)[a]? = some (u a, .inl (cy 4, N, .inr (.inr (.inr (.inr (fun j => (g j).map u)))))) := by rw [sw_w_get han, ha]; rfl
  have hcell := hat.1 a _ hw
  refine W.aald (v := .ref (u b)) (ty := .array .int) F.1 F.2.1 hcell ((F.2.2.2.2.2.2.2.1.2 4 _ rfl).1 N (fun j => va_rf ((g j).map u))) rfl (fun q => by cases q) (by show ¬ (i < 0 ∨ (arrV _ _ _).slots.size ≤ _); rw [arrV_size]; exact hi) (by show (arrV _ _ _).slots[_]? = _; rw [arrV_read _ _ hlt]; show some (va_rf ((g i.toNatClampNeg).map u)) = _; rw [hb]; rfl) rfl rfl hd ?_
  exact kk p e R s m args below meth c F A hA hEE u0 n0 u hn hu H locs hat (sw_cc (hce N g rfl _ b hb) (sw_ct (sw_ct hst))) hL ls hl Z hZ
theorem sw_iret {x : Int32} {ty : FieldType} (hd : decode M.2.1 pc = .ok (.ireturn, 1)) (hr : M.2.2.2 = some ty) (hx : narrow ty (.int x) = .int x) (hc : cells ≤ mc) (hs : slots ≤ ms) (hq : Q (some (.int x)) n f) : SWr EE l D cy M d mc ms cells slots pc L [.int x] n f Q QX := by
  intro p e R s m args below meth c F A hA hEE u0 n0 u hn hu H locs hat hst hL ls hl Z hZ
  refine W.widen hc hs ?_
  intro T hT X
  obtain ⟨t, h1, h2⟩ := vx_ret (XC := sw_X D cy A u0 n0 QX) (W.zret (v := x) (Qc := sw_R D cy A u0 n0 Q) (free := A) F.1 F.2.1 (F.2.2.2.1.trans hr) hx (fun t ht hW => ⟨some (.int x), u, n, f, rfl, hq, fun v hv => (by cases hv; trivial), hn, hu, by rw [ht]; exact hat.1, hat.2.1, hat.2.2.2, hat.2.2.1.F ht⟩) hat.2.2.1.2.2 hd F.2.2.2.2.2.2.2.2.1) T hT X
  exact ⟨t, h1, hZ t h2⟩
theorem sw_lret {x : Int64} (hd : decode M.2.1 pc = .ok (.lreturn, 1)) (hr : M.2.2.2 = some .long) (hc : cells ≤ mc) (hs : slots ≤ ms) (hq : Q (some (.long x)) n f) : SWr EE l D cy M d mc ms cells slots pc L [.long x] n f Q QX := by
  intro p e R s m args below meth c F A hA hEE u0 n0 u hn hu H locs hat hst hL ls hl Z hZ
  refine W.widen hc hs ?_
  intro T hT X
  obtain ⟨t, h1, h2⟩ := vx_ret (XC := sw_X D cy A u0 n0 QX) (W.lret (v := x) (Qc := sw_R D cy A u0 n0 Q) (free := A) F.1 F.2.1 (F.2.2.2.1.trans hr) (fun t ht hW => ⟨some (.long x), u, n, f, rfl, hq, fun v hv => (by cases hv; trivial), hn, hu, by rw [ht]; exact hat.1, hat.2.1, hat.2.2.2, hat.2.2.1.F ht⟩) hat.2.2.1.2.2 hd F.2.2.2.2.2.2.2.2.1) T hT X
  exact ⟨t, h1, hZ t h2⟩
theorem sw_vret (hd : decode M.2.1 pc = .ok (.return_, 1)) (hr : M.2.2.2 = none) (hc : cells ≤ mc) (hs : slots ≤ ms) (hq : Q none n f) : SWr EE l D cy M d mc ms cells slots pc L [] n f Q QX := by
  intro p e R s m args below meth c F A hA hEE u0 n0 u hn hu H locs hat hst hL ls hl Z hZ
  refine W.widen hc hs ?_
  intro T hT X
  obtain ⟨t, h1, h2⟩ := vx_ret (XC := sw_X D cy A u0 n0 QX) (W.vret (Qc := sw_R D cy A u0 n0 Q) (free := A) F.1 F.2.1 (F.2.2.2.1.trans hr) (fun t ht hW => ⟨none, u, n, f, rfl, hq, sw_rn, hn, hu, by rw [ht]; exact hat.1, hat.2.1, hat.2.2.2, hat.2.2.1.F ht⟩) hat.2.2.1.2.2 hd F.2.2.2.2.2.2.2.2.1) T hT X
  exact ⟨t, h1, hZ t h2⟩
theorem sw_aret {v : Value} {C : String} (hd : decode M.2.1 pc = .ok (.areturn, 1)) (hr : M.2.2.2 = some (.object C)) (hv : sw_isR v = true) (hc : cells ≤ mc) (hs : slots ≤ ms) (hq : Q (some v) n f) : SWr EE l D cy M d mc ms cells slots pc L [v] n f Q QX := by
  intro p e R s m args below meth c F A hA hEE u0 n0 u hn hu H locs hat hst hL ls hl Z hZ
  refine W.widen hc hs ?_
  intro T hT X
  have hv' : sw_v u v = .null ∨ ∃ a, sw_v u v = .ref a := by
    cases v with
    | ref a => exact Or.inr ⟨u a, rfl⟩
    | null => exact Or.inl rfl
    | _ => cases hv
  obtain ⟨t, h1, h2⟩ := vx_ret (XC := sw_X D cy A u0 n0 QX) (W.aret (v := sw_v u v) (Qc := sw_R D cy A u0 n0 Q) (free := A) F.1 F.2.1 (F.2.2.2.1.trans hr) (Or.inl ⟨C, rfl⟩) hv' (fun t ht hW => ⟨some v, u, n, f, rfl, hq, fun w hw => (by cases hw; exact sw_ch hst), hn, hu, by rw [ht]; exact hat.1, hat.2.1, hat.2.2.2, hat.2.2.1.F ht⟩) hat.2.2.1.2.2 hd F.2.2.2.2.2.2.2.2.1) T hT X
  exact ⟨t, h1, hZ t h2⟩
end SWC
