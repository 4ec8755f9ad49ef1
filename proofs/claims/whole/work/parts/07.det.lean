/-! ===== THE LOGIC, 6: methods with one answer ===== -/
def sw_D (r0 : Option Value) (n0 : Nat) (f0 : sw_F) : sw_Q := fun r n f => r = r0 ∧ n = n0 ∧ f = f0
abbrev sw_N : sw_QX := fun _ _ _ => False
def bz (b : Bool) : Int32 := if b = true then 1 else 0
theorem bz_t : bz true = 1 := rfl
theorem bz_f : bz false = 0 := rfl
theorem bz_0 {b : Bool} : bz b = 0 ↔ b = false := by cases b <;> decide
theorem bz_1 {b : Bool} : bz b = 1 ↔ b = true := by cases b <;> decide
theorem bz_n (b : Bool) : narrow .boolean (.int (bz b)) = .int (bz b) := by cases b <;> rfl
theorem bz_inj {a b : Bool} : bz a = bz b ↔ a = b := by cases a <;> cases b <;> decide
theorem sw_fit_z (b : Bool) : sw_fit .boolean (.int (bz b)) := by cases b <;> exact fun _ => ⟨rfl, rfl⟩
theorem bz_vp (b : Bool) : vp_nar .boolean (bz b) = bz b := by cases b <;> rfl
section SWG
variable {EE : sw_E} {l : Launch} {D : va_G} {cy : Nat → ClassId} {M : sw_MD} {d mc ms cells slots pc : Nat} {L : sw_L} {st : List Value} {n : Nat} {f : sw_F} {Q : sw_Q} {QX : sw_QX}
variable {idx ci a d' na n0 : Nat} {M' : sw_MD} {As rest stk : List Value} {fs : List Value} {v : Value} {f0 : sw_F}
theorem sw_Vv (hd : decode M.2.1 pc = .ok (.invokevirtual idx, 3)) (hc : sw_cv M.1.cls idx M') (hm : sw_mf M' na) (hM : sw_Ct l D cy M' d' 0 0 (.ref a :: As) n f (sw_D (some v) n0 f0)) (ha : f a = .inr (ci, fs)) (hC : ∃ q, sw_cls[ci]? = some q ∧ q.1 = M'.1.cls) (hdd : d' + 1 ≤ d) (hcl : cells ≤ mc) (hsl : slots ≤ ms) (hs : stk = As.reverse ++ .ref a :: rest) (hna : As.length = na) (hr : (rest.map fun v => v.category).sum ≤ 8)
    (kk : SWr EE l D cy M d mc ms cells slots (pc + 3) L (v :: rest) n0 f0 Q QX) : SWr EE l D cy M d mc ms cells slots pc L stk n f Q QX :=
  sw_callV hd hc hm hC ha hM hdd ⟨hcl, hsl⟩ hs hna hr (fun r n' f' hq _ => by obtain ⟨rfl, rfl, rfl⟩ := hq; exact kk)
theorem sw_Vn (hd : decode M.2.1 pc = .ok (.invokevirtual idx, 3)) (hc : sw_cv M.1.cls idx M') (hm : sw_mf M' na) (hM : sw_Ct l D cy M' d' 0 0 (.ref a :: As) n f (sw_D none n0 f0)) (ha : f a = .inr (ci, fs)) (hC : ∃ q, sw_cls[ci]? = some q ∧ q.1 = M'.1.cls) (hdd : d' + 1 ≤ d) (hcl : cells ≤ mc) (hsl : slots ≤ ms) (hs : stk = As.reverse ++ .ref a :: rest) (hna : As.length = na) (hr : (rest.map fun v => v.category).sum ≤ 8)
    (kk : SWr EE l D cy M d mc ms cells slots (pc + 3) L rest n0 f0 Q QX) : SWr EE l D cy M d mc ms cells slots pc L stk n f Q QX :=
  sw_callV hd hc hm hC ha hM hdd ⟨hcl, hsl⟩ hs hna hr (fun r n' f' hq _ => by obtain ⟨rfl, rfl, rfl⟩ := hq; exact kk)
theorem sw_Sv (hd : decode M.2.1 pc = .ok (.invokestatic idx, 3)) (hc : sw_cs M.1.cls idx M') (hm : sw_mf M' na) (hM : sw_Ct l D cy M' d' 0 0 As n f (sw_D (some v) n0 f0)) (hdd : d' + 1 ≤ d) (hcl : cells ≤ mc) (hsl : slots ≤ ms) (hs : stk = As.reverse ++ rest) (hna : As.length = na) (hr : (rest.map fun v => v.category).sum ≤ 8)
    (kk : SWr EE l D cy M d mc ms cells slots (pc + 3) L (v :: rest) n0 f0 Q QX) : SWr EE l D cy M d mc ms cells slots pc L stk n f Q QX :=
  sw_callS hd hc hm hM hdd ⟨hcl, hsl⟩ hs hna hr (fun r n' f' hq _ => by obtain ⟨rfl, rfl, rfl⟩ := hq; exact kk)
theorem sw_SNv (hd : decode M.2.1 pc = .ok (.invokestatic idx, 3)) (hc : sw_csn M.1.cls idx M') (hm : sw_mf M' na) (hM : sw_Ct l D cy M' d' 0 0 As n f (sw_D (some v) n0 f0)) (hdd : d' + 1 ≤ d) (hcl : cells ≤ mc) (hsl : slots ≤ ms) (hs : stk = As.reverse ++ rest) (hna : As.length = na) (hr : (rest.map fun v => v.category).sum ≤ 8)
    (kk : SWr EE l D cy M d mc ms cells slots (pc + 3) L (v :: rest) n0 f0 Q QX) : SWr EE l D cy M d mc ms cells slots pc L stk n f Q QX :=
  sw_callSN hd hc hm hM hdd ⟨hcl, hsl⟩ hs hna hr (fun r n' f' hq _ => by obtain ⟨rfl, rfl, rfl⟩ := hq; exact kk)
end SWG
/-- p from place i on, k places -/
def allF (p : Nat → Bool) : Nat → Nat → Bool
  | _, 0 => true
  | i, k + 1 => p i && allF p (i + 1) k
/-- the first place from i on, of k, where p holds -/
def fstF (p : Nat → Bool) : Nat → Nat → Option Nat
  | _, 0 => none
  | i, k + 1 => if p i = true then some i else fstF p (i + 1) k
theorem va_up_up (f : sw_F) (a : Nat) (x y : va_E) : va_up (va_up f a x) a y = va_up f a y := bx_uu f a x y
theorem va_up_so (f : sw_F) {a b : Nat} (h : a < b) (x y : va_E) : va_up (va_up f b x) a y = va_up (va_up f a y) b x := by
  funext j
  unfold va_up
  by_cases h1 : j = a
  · subst h1
    simp [Nat.ne_of_lt h]
  · simp [h1]
theorem va_up_id (f : sw_F) {a : Nat} {x : va_E} (h : f a = x) : va_up f a x = f := by
  funext j
  unfold va_up
  by_cases h1 : j = a
  · rw [if_pos h1, h1, h]
  · rw [if_neg h1]
