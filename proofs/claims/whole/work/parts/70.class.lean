/-! ===== THE CLASS: its objects and arrays, places 0 .. 149; s: its int fields, A: its arrays, B: its rows of marks, o: the order, pr: the program ===== -/
def go (s : Nat → Int32) (o : Int64) (pr : Value) (i : Nat) : Nat × List Value := match i with
  | 0 => (11, [.ref 1, .ref 3, .ref 4, .ref 5, .ref 6, .ref 8, .ref 26, .ref 28, .ref 31, .ref 35, .ref 43, .ref 147, pr, .int (s 0), .int (s 1), .int (s 2), .int (s 3)])
  | 1 => (3, [.ref 2, .int (s 4), .long o, .int (s 5), .int (s 6)])
  | 6 => (8, [.ref 7, .int (s 7), .int (s 8), .int (s 9)])
  | 8 => (7, [.ref 1, .ref 9, .ref 10, .ref 18])
  | 26 => (2, [.ref 27, .int (s 10), .int (s 11)])
  | 28 => (0, [.ref 29, .ref 30, .int (s 12)])
  | 31 => (10, [.ref 28, .ref 32, .ref 33, .ref 34, .int (s 13)])
  | 35 => (9, [.ref 28, .ref 31, .ref 36, .ref 39, .ref 42, .int (s 14)])
  | 36 => (5, [.ref 37, .ref 38])
  | 39 => (5, [.ref 40, .ref 41])
  | 43 => (1, [.ref 28, .ref 31, .ref 35, .ref 1, .ref 44, .ref 145, .ref 146])
  | 147 => (4, [.ref 28, .ref 148, .ref 149, .int (s 15)])
  | _ => (0, [])
def gq (i : Nat) : Nat := match i with
  | 0 => 1
  | 1 => 1
  | 6 => 1
  | 8 => 1
  | 26 => 1
  | 28 => 1
  | 31 => 1
  | 35 => 1
  | 36 => 1
  | 39 => 1
  | 43 => 1
  | 147 => 1
  | 37 => 2
  | 38 => 2
  | 40 => 2
  | 41 => 2
  | 10 => 3
  | 18 => 3
  | 44 => 3
  | _ => 0
def gt (i : Nat) : Nat := match i with
  | 34 => 2
  | 145 => 2
  | _ => 0
def gl (i : Nat) : Nat := match i with
  | 2 => 36
  | 3 => 8
  | 4 => 8
  | 5 => 8
  | 7 => 72
  | 9 => 8
  | 27 => 8
  | 29 => 100
  | 30 => 100
  | 32 => 100
  | 33 => 100
  | 34 => 100
  | 42 => 100
  | 145 => 100
  | 146 => 17
  | 148 => 8
  | 149 => 8
  | 10 => 7
  | 18 => 7
  | 44 => 100
  | _ => if i < 44 then 8 else 17
def gw (i : Nat) : Nat := match i with
  | 0 => 0
  | 1 => 0
  | 2 => 0
  | 3 => 0
  | 4 => 1
  | 5 => 1
  | 6 => 1
  | 7 => 6
  | 8 => 6
  | 9 => 6
  | 10 => 26
  | 11 => 26
  | 12 => 28
  | 13 => 31
  | 14 => 35
  | 15 => 147
  | _ => 1000
def gd (f : sw_F) (s : Nat → Int32) (A : Nat → Nat → Int32) (B : Nat → Nat → Int64) (o : Int64) (pr : Value) : sw_F := fun i => if 150 ≤ i then f i else if gq i = 0 then .inl (gt i, gl i, .inl (A i)) else if gq i = 1 then .inr (go s o pr i) else if gq i = 2 then .inl (1, 100, .inr (.inl (B i))) else .inl (4, gl i, .inr (.inr (.inr (.inr (fun k => if k < gl i then some (i + 1 + k) else none)))))
theorem gd_f (f : sw_F) (s : Nat → Int32) (A : Nat → Nat → Int32) (B : Nat → Nat → Int64) (o : Int64) (pr : Value) {i : Nat} (h : 150 ≤ i) : gd f s A B o pr i = f i := by
  unfold gd
  rw [if_pos h]
theorem gd_0 (f : sw_F) (s : Nat → Int32) (A : Nat → Nat → Int32) (B : Nat → Nat → Int64) (o : Int64) (pr : Value) {i : Nat} (h : i < 150) (h0 : gq i = 0) : gd f s A B o pr i = .inl (gt i, gl i, .inl (A i)) := by
  unfold gd
  rw [if_neg (by omega), if_pos h0]
theorem gd_1 (f : sw_F) (s : Nat → Int32) (A : Nat → Nat → Int32) (B : Nat → Nat → Int64) (o : Int64) (pr : Value) {i : Nat} (h : i < 150) (h0 : gq i = 1) : gd f s A B o pr i = .inr (go s o pr i) := by
  unfold gd
  rw [if_neg (by omega), if_neg (by omega), if_pos h0]
theorem gd_2 (f : sw_F) (s : Nat → Int32) (A : Nat → Nat → Int32) (B : Nat → Nat → Int64) (o : Int64) (pr : Value) {i : Nat} (h : i < 150) (h0 : gq i = 2) : gd f s A B o pr i = .inl (1, 100, .inr (.inl (B i))) := by
  unfold gd
  rw [if_neg (by omega), if_neg (by omega), if_neg (by omega), if_pos h0]
theorem gd_a (f : sw_F) (s : Nat → Int32) (A : Nat → Nat → Int32) (B : Nat → Nat → Int64) (o : Int64) (pr : Value) {p : Nat} (h : p < 150) (h0 : gq p = 0) (g : Nat → Int32) : va_up (gd f s A B o pr) p (.inl (gt p, gl p, .inl g)) = gd f s (va_up A p g) B o pr := by
  funext i
  by_cases c : i = p
  · subst c
    rw [vu_at, gd_0 _ _ _ _ _ _ h h0, vu_at]
  · rw [vu_ne _ c]
    unfold gd
    rw [vu_ne _ c]
theorem gd_b (f : sw_F) (s : Nat → Int32) (A : Nat → Nat → Int32) (B : Nat → Nat → Int64) (o : Int64) (pr : Value) {p : Nat} (h : p < 150) (h0 : gq p = 2) (g : Nat → Int64) : va_up (gd f s A B o pr) p (.inl (1, 100, .inr (.inl g))) = gd f s A (va_up B p g) o pr := by
  funext i
  by_cases c : i = p
  · subst c
    rw [vu_at, gd_2 _ _ _ _ _ _ h h0, vu_at]
  · rw [vu_ne _ c]
    unfold gd
    rw [vu_ne _ c]
theorem gd_x (f : sw_F) (s : Nat → Int32) (A : Nat → Nat → Int32) (B : Nat → Nat → Int64) (o : Int64) (pr : Value) {p : Nat} (h : 150 ≤ p) (e : va_E) : va_up (gd f s A B o pr) p e = gd (va_up f p e) s A B o pr := by
  funext i
  by_cases c : i = p
  · subst c
    rw [vu_at, gd_f _ _ _ _ _ _ h, vu_at]
  · rw [vu_ne _ c]
    unfold gd
    rw [vu_ne _ c]
theorem gd_o (f : sw_F) (s s' : Nat → Int32) (A : Nat → Nat → Int32) (B : Nat → Nat → Int64) (o o' : Int64) (pr pr' : Value) {p : Nat} (h : p < 150) (h0 : gq p = 1) (hne : ∀ i, ¬ i = p → go s' o' pr' i = go s o pr i) : va_up (gd f s A B o pr) p (.inr (go s' o' pr' p)) = gd f s' A B o' pr' := by
  funext i
  by_cases c : i = p
  · subst c
    rw [vu_at, gd_1 _ _ _ _ _ _ h h0]
  · rw [vu_ne _ c]
    unfold gd
    rw [hne i c]
theorem go_ne (s : Nat → Int32) (o : Int64) (pr : Value) (j : Nat) (x : Int32) {i : Nat} (h : ¬ i = gw j) : go (va_up s j x) o pr i = go s o pr i := by
  by_cases h0 : i = 0
  · subst h0
    show (11, _) = (11, _)
    have e0 : va_up s j x 0 = s 0 := vu_ne s (fun q => h (by rw [← q]; rfl)) x
    have e1 : va_up s j x 1 = s 1 := vu_ne s (fun q => h (by rw [← q]; rfl)) x
    have e2 : va_up s j x 2 = s 2 := vu_ne s (fun q => h (by rw [← q]; rfl)) x
    have e3 : va_up s j x 3 = s 3 := vu_ne s (fun q => h (by rw [← q]; rfl)) x
    rw [e0, e1, e2, e3]
  by_cases h1 : i = 1
  · subst h1
    show (3, _) = (3, _)
    have e4 : va_up s j x 4 = s 4 := vu_ne s (fun q => h (by rw [← q]; rfl)) x
    have e5 : va_up s j x 5 = s 5 := vu_ne s (fun q => h (by rw [← q]; rfl)) x
    have e6 : va_up s j x 6 = s 6 := vu_ne s (fun q => h (by rw [← q]; rfl)) x
    rw [e4, e5, e6]
  by_cases h6 : i = 6
  · subst h6
    show (8, _) = (8, _)
    have e7 : va_up s j x 7 = s 7 := vu_ne s (fun q => h (by rw [← q]; rfl)) x
    have e8 : va_up s j x 8 = s 8 := vu_ne s (fun q => h (by rw [← q]; rfl)) x
    have e9 : va_up s j x 9 = s 9 := vu_ne s (fun q => h (by rw [← q]; rfl)) x
    rw [e7, e8, e9]
  by_cases h8 : i = 8
  · subst h8
    show (7, _) = (7, _)
    rfl
  by_cases h26 : i = 26
  · subst h26
    show (2, _) = (2, _)
    have e10 : va_up s j x 10 = s 10 := vu_ne s (fun q => h (by rw [← q]; rfl)) x
    have e11 : va_up s j x 11 = s 11 := vu_ne s (fun q => h (by rw [← q]; rfl)) x
    rw [e10, e11]
  by_cases h28 : i = 28
  · subst h28
    show (0, _) = (0, _)
    have e12 : va_up s j x 12 = s 12 := vu_ne s (fun q => h (by rw [← q]; rfl)) x
    rw [e12]
  by_cases h31 : i = 31
  · subst h31
    show (10, _) = (10, _)
    have e13 : va_up s j x 13 = s 13 := vu_ne s (fun q => h (by rw [← q]; rfl)) x
    rw [e13]
  by_cases h35 : i = 35
  · subst h35
    show (9, _) = (9, _)
    have e14 : va_up s j x 14 = s 14 := vu_ne s (fun q => h (by rw [← q]; rfl)) x
    rw [e14]
  by_cases h36 : i = 36
  · subst h36
    show (5, _) = (5, _)
    rfl
  by_cases h39 : i = 39
  · subst h39
    show (5, _) = (5, _)
    rfl
  by_cases h43 : i = 43
  · subst h43
    show (1, _) = (1, _)
    rfl
  by_cases h147 : i = 147
  · subst h147
    show (4, _) = (4, _)
    have e15 : va_up s j x 15 = s 15 := vu_ne s (fun q => h (by rw [← q]; rfl)) x
    rw [e15]
  unfold go
  split
  all_goals first | (exact absurd rfl (by assumption)) | rfl
theorem go_no (s : Nat → Int32) (o o' : Int64) (pr : Value) {i : Nat} (h : ¬ i = 1) : go s o' pr i = go s o pr i := by
  unfold go
  split
  all_goals first | (exact absurd rfl h) | rfl
theorem go_np (s : Nat → Int32) (o : Int64) (pr pr' : Value) {i : Nat} (h : ¬ i = 0) : go s o pr' i = go s o pr i := by
  unfold go
  split
  all_goals first | (exact absurd rfl h) | rfl
section GDR
variable {EE : sw_E} {l : Launch} {D : va_G} {cy : Nat → ClassId} {M : sw_MD} {d mc ms cells slots pc : Nat} {L : sw_L} {st : List Value} {n : Nat} {f : sw_F} {Q : sw_Q} {QX : sw_QX} {s : Nat → Int32} {A : Nat → Nat → Int32} {B : Nat → Nat → Int64} {o : Int64} {pr : Value}
theorem g_put {idx k p ci : Nat} {x : Int32} {ty : FieldType} {fs : List Value} (j : Nat) (hd : decode M.2.1 pc = .ok (.putfield idx, 3)) (hf : sw_fl M.1.cls idx ci k ty false) (hw : gw j = p) (hp : p < 150 ∧ gq p = 1) (hg : go s o pr p = (ci, fs)) (hl : k < fs.length) (hv : sw_fit ty (.int x)) (hk : (ci, fs.set k (.int x)) = go (va_up s j x) o pr p) (kk : SWr EE l D cy M d mc ms cells slots (pc + 3) L st n (gd f (va_up s j x) A B o pr) Q QX) : SWr EE l D cy M d mc ms cells slots pc L (.int x :: .ref p :: st) n (gd f s A B o pr) Q QX := by
  refine sw_put hd hf (by rw [gd_1 _ _ _ _ _ _ hp.1 hp.2, hg]) hl hv ?_
  rw [hk, gd_o f s (va_up s j x) A B o o pr pr hp.1 hp.2 (fun i hi => go_ne s o pr j x (by rw [hw]; exact hi))]
  exact kk
theorem g_putO {idx : Nat} {x : Int64} {ty : FieldType} (hd : decode M.2.1 pc = .ok (.putfield idx, 3)) (hf : sw_fl M.1.cls idx 3 2 ty false) (hv : sw_fit ty (.long x)) (kk : SWr EE l D cy M d mc ms cells slots (pc + 3) L st n (gd f s A B x pr) Q QX) : SWr EE l D cy M d mc ms cells slots pc L (.long x :: .ref 1 :: st) n (gd f s A B o pr) Q QX := by
  refine sw_put hd hf (fs := (go s o pr 1).2) rfl (show 2 < 5 by decide) hv ?_
  have h := gd_o f s s A B o x pr pr (p := 1) (by decide) rfl (fun i hi => go_no s o x pr hi)
  refine Eq.mp (congrArg (fun g => SWr EE l D cy M d mc ms cells slots (pc + 3) L st n g Q QX) h.symm) kk
theorem g_putP {idx : Nat} {x : Value} {ty : FieldType} (hd : decode M.2.1 pc = .ok (.putfield idx, 3)) (hf : sw_fl M.1.cls idx 11 12 ty false) (hv : sw_fit ty x) (kk : SWr EE l D cy M d mc ms cells slots (pc + 3) L st n (gd f s A B o x) Q QX) : SWr EE l D cy M d mc ms cells slots pc L (x :: .ref 0 :: st) n (gd f s A B o pr) Q QX := by
  refine sw_put hd hf (fs := (go s o pr 0).2) rfl (show 12 < 17 by decide) hv ?_
  have h := gd_o f s s A B o o pr x (p := 0) (by decide) rfl (fun i hi => go_np s o pr x hi)
  refine Eq.mp (congrArg (fun g => SWr EE l D cy M d mc ms cells slots (pc + 3) L st n g Q QX) h.symm) kk
theorem gl_lt : ∀ q, q < 150 → gl q < 2147483648 := by decide +kernel
theorem g_iast {p : Nat} {i x y : Int32} (k : Nat) (hd : decode M.2.1 pc = .ok (.iastore, 1)) (hp : p < 150 ∧ gq p = 0 ∧ gt p = 0) (hi : i = nI k) (hk : k < gl p) (hx : x = y) (kk : SWr EE l D cy M d mc ms cells slots (pc + 1) L st n (gd f s (va_up A p (upd (A p) k y)) B o pr) Q QX) : SWr EE l D cy M d mc ms cells slots pc L (.int x :: .int i :: .ref p :: st) n (gd f s A B o pr) Q QX := by
  subst hi
  obtain ⟨h1, h2, h3⟩ := hp
  have hN := gl_lt p h1
  have ha : gd f s A B o pr p = .inl (0, gl p, .inl (A p)) := by rw [gd_0 _ _ _ _ _ _ h1 h2, h3]
  refine sw_iast hd ha (vp_in_nI hk hN) ?_
  rw [nI_clamp (Nat.lt_trans hk hN), hx]
  have hm := gd_a f s A B o pr h1 h2 (upd (A p) k y)
  rw [h3] at hm
  rw [hm]
  exact kk
theorem g_zast {p : Nat} {i x y : Int32} (k : Nat) (hd : decode M.2.1 pc = .ok (.bastore, 1)) (hp : p < 150 ∧ gq p = 0 ∧ gt p = 2) (hi : i = nI k) (hk : k < gl p) (hx : vp_nar .boolean x = y) (kk : SWr EE l D cy M d mc ms cells slots (pc + 1) L st n (gd f s (va_up A p (upd (A p) k y)) B o pr) Q QX) : SWr EE l D cy M d mc ms cells slots pc L (.int x :: .int i :: .ref p :: st) n (gd f s A B o pr) Q QX := by
  subst hi
  obtain ⟨h1, h2, h3⟩ := hp
  have hN := gl_lt p h1
  have ha : gd f s A B o pr p = .inl (2, gl p, .inl (A p)) := by rw [gd_0 _ _ _ _ _ _ h1 h2, h3]
  refine sw_zast hd ha (vp_in_nI hk hN) ?_
  rw [nI_clamp (Nat.lt_trans hk hN), hx]
  have hm := gd_a f s A B o pr h1 h2 (upd (A p) k y)
  rw [h3] at hm
  rw [hm]
  exact kk
theorem g_last {p : Nat} {i : Int32} {x : Int64} (k : Nat) (hd : decode M.2.1 pc = .ok (.lastore, 1)) (hp : p < 150 ∧ gq p = 2) (hi : i = nI k) (hk : k < 100) (kk : SWr EE l D cy M d mc ms cells slots (pc + 1) L st n (gd f s A (va_up B p (vp_updL (B p) k x)) o pr) Q QX) : SWr EE l D cy M d mc ms cells slots pc L (.long x :: .int i :: .ref p :: st) n (gd f s A B o pr) Q QX := by
  subst hi
  refine sw_last hd (gd_2 _ _ _ _ _ _ hp.1 hp.2) (vp_in_nI hk (by decide)) ?_
  rw [nI_clamp (by omega), gd_b _ _ _ _ _ _ hp.1 hp.2]
  exact kk
theorem g_eq {s' : Nat → Int32} {A' : Nat → Nat → Int32} {B' : Nat → Nat → Int64} (h1 : s = s') (h2 : A = A') (h3 : B = B') (kk : SWr EE l D cy M d mc ms cells slots pc L st n (gd f s' A' B' o pr) Q QX) : SWr EE l D cy M d mc ms cells slots pc L st n (gd f s A B o pr) Q QX := by
  subst h1
  subst h2
  subst h3
  exact kk
theorem g_copy {idx a b : Nat} {x y z : Int32} (k : Nat) (hd : decode M.2.1 pc = .ok (.invokestatic idx, 3)) (h1 : Cond.methodLink M.1.cls idx arraycopyName ∈ sw_lwg) (h2 : Cond.native arraycopyName ∈ sw_lwg) (h3 : Cond.static arraycopyName ∈ sw_lwg) (h4 : Cond.initialized "java/lang/System" ∈ sw_lwg)
    (ha : a < 150 ∧ gq a = 0 ∧ gt a = 0) (hb : b < 150 ∧ gq b = 0 ∧ gt b = 0) (hx : x = 0) (hy : y = 0) (hz : z = nI k) (hg : k ≤ gl a) (hh : k ≤ gl b) (hd1 : 1 ≤ d) (hr : (st.map fun v => v.category).sum ≤ 8) (kk : SWr EE l D cy M d mc ms cells slots (pc + 3) L st n (gd f s (va_up A b (fillF (A a) (A b) k)) B o pr) Q QX) : SWr EE l D cy M d mc ms cells slots pc L (.int z :: .int y :: .ref b :: .int x :: .ref a :: st) n (gd f s A B o pr) Q QX := by
  subst hx
  subst hy
  subst hz
  have hN := gl_lt a ha.1
  have e0 : (0 : Int32).toNatClampNeg = 0 := rfl
  have ek : (nI k).toNatClampNeg = k := nI_clamp (by omega)
  refine sw_copy hd h1 h2 h3 h4 (N := gl a) (K := gl b) (g := A a) (h := A b) (by rw [gd_0 _ _ _ _ _ _ ha.1 ha.2.1, ha.2.2]) (by rw [gd_0 _ _ _ _ _ _ hb.1 hb.2.1, hb.2.2]) (by decide) (by decide) (i32_nlt0 (by omega)) (by rw [e0, ek]; omega) (by rw [e0, ek]; omega) hd1 hr ?_
  have hm := gd_a f s A B o pr hb.1 hb.2.1 (fillF (A a) (A b) k)
  rw [hb.2.2] at hm
  rw [e0, ek, show va_cpy (A a) (A b) 0 0 k = fillF (A a) (A b) k from ?_, hm]
  · exact kk
  · funext j
    unfold va_cpy fillF
    by_cases c : j < k
    · simp [c]
    · simp [c]
end GDR
