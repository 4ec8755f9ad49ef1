/-! ===== THE REFERENCE: its object is place 150, its arrays 151 .. 185; s: its int fields by their numbers, A: its arrays by their places ===== -/
def mo (s : Nat → Int32) : List Value := [.int (s 0), .int (s 1), .ref 151, .ref 152, .int (s 4), .ref 153, .ref 154, .ref 155, .ref 156, .ref 157, .int (s 10), .ref 158, .int (s 12), .int (s 13), .int (s 14), .int (s 15), .ref 159, .ref 160, .ref 161, .ref 162, .ref 163, .ref 164, .ref 165, .ref 166, .ref 167, .ref 168, .ref 169, .ref 170, .ref 171, .ref 172, .int (s 30), .int (s 31), .int (s 32), .ref 173, .ref 174, .ref 175, .int (s 36), .ref 176, .ref 177, .int (s 39), .int (s 40), .ref 178, .ref 179, .ref 180, .ref 181, .ref 182, .ref 183, .ref 184, .ref 185, .int (s 49)]
def mt (p : Nat) : Nat := match p with
  | 151 => 2
  | 157 => 2
  | 158 => 3
  | 179 => 2
  | 181 => 2
  | 182 => 2
  | _ => 0
def ml (p : Nat) : Nat := match p with
  | 151 => 36
  | 152 => 36
  | 153 => 8
  | 154 => 8
  | 155 => 8
  | 156 => 8
  | 157 => 36
  | 158 => 72
  | 159 => 160
  | 160 => 160
  | 161 => 160
  | 162 => 160
  | 163 => 160
  | 164 => 160
  | 165 => 160
  | 166 => 160
  | 167 => 160
  | 168 => 160
  | 169 => 1280
  | 170 => 1280
  | 171 => 160
  | 172 => 8
  | 173 => 100
  | 174 => 100
  | 175 => 8
  | 176 => 100
  | 177 => 100
  | 178 => 100
  | 179 => 100
  | 180 => 220
  | 181 => 10000
  | 182 => 100
  | 183 => 1600
  | 184 => 100
  | 185 => 12
  | _ => 0
def md (f : sw_F) (s : Nat → Int32) (A : Nat → Nat → Int32) : sw_F := fun i => if i = 150 then .inr (12, mo s) else if 151 ≤ i ∧ i ≤ 185 then .inl (mt i, ml i, .inl (A i)) else f i
theorem md_s (f : sw_F) (s s' : Nat → Int32) (A : Nat → Nat → Int32) : va_up (md f s A) 150 (.inr (12, mo s')) = md f s' A := by
  funext i
  unfold va_up md
  by_cases h : i = 150
  · rw [if_pos h, if_pos h]
  · rw [if_neg h, if_neg h, if_neg h]
theorem md_a (f : sw_F) (s : Nat → Int32) (A : Nat → Nat → Int32) {p : Nat} (h1 : 151 ≤ p) (h2 : p ≤ 185) (g : Nat → Int32) : va_up (md f s A) p (.inl (mt p, ml p, .inl g)) = md f s (va_up A p g) := by
  funext i
  unfold va_up md
  by_cases h : i = p
  · subst h
    simp [show ¬ i = 150 by omega, h1, h2]
  · simp [h]
section MDR
variable {EE : sw_E} {l : Launch} {D : va_G} {cy : Nat → ClassId} {M : sw_MD} {d mc ms cells slots pc : Nat} {L : sw_L} {st : List Value} {n : Nat} {f : sw_F} {Q : sw_Q} {QX : sw_QX} {s : Nat → Int32} {A : Nat → Nat → Int32}
theorem m_put {idx k : Nat} {x : Int32} {ty : FieldType} (hd : decode M.2.1 pc = .ok (.putfield idx, 3)) (hf : sw_fl M.1.cls idx 12 k ty false) (hl : k < 50) (hv : sw_fit ty (.int x)) (hk : (mo s).set k (.int x) = mo (va_up s k x)) (kk : SWr EE l D cy M d mc ms cells slots (pc + 3) L st n (md f (va_up s k x) A) Q QX) : SWr EE l D cy M d mc ms cells slots pc L (.int x :: .ref 150 :: st) n (md f s A) Q QX := by
  refine sw_put hd hf (fs := mo s) rfl hl hv ?_
  rw [hk, md_s]
  exact kk
theorem m_iast {p : Nat} {i x y : Int32} (k : Nat) (hd : decode M.2.1 pc = .ok (.iastore, 1)) (hp : 151 ≤ p ∧ p ≤ 185 ∧ mt p = 0) (hi : i = nI k) (hk : k < ml p) (hx : x = y) (kk : SWr EE l D cy M d mc ms cells slots (pc + 1) L st n (md f s (va_up A p (upd (A p) k y))) Q QX) : SWr EE l D cy M d mc ms cells slots pc L (.int x :: .int i :: .ref p :: st) n (md f s A) Q QX := by
  subst hi
  obtain ⟨h1, h2, h3⟩ := hp
  have hN : ml p < 2147483648 := by
    have : ∀ q, q < 186 → ml q < 2147483648 := by decide +kernel
    exact this p (by omega)
  have ha : md f s A p = .inl (0, ml p, .inl (A p)) := by
    show (if p = 150 then _ else if 151 ≤ p ∧ p ≤ 185 then _ else _) = _
    rw [if_neg (by omega), if_pos ⟨h1, h2⟩, h3]
  refine sw_iast hd ha (vp_in_nI hk hN) ?_
  rw [nI_clamp (Nat.lt_trans hk hN), hx]
  have hm := md_a f s A h1 h2 (upd (A p) k y)
  rw [h3] at hm
  rw [hm]
  exact kk
theorem m_zast {p : Nat} {i x y : Int32} (k : Nat) (hd : decode M.2.1 pc = .ok (.bastore, 1)) (hp : 151 ≤ p ∧ p ≤ 185 ∧ mt p = 2) (hi : i = nI k) (hk : k < ml p) (hx : vp_nar .boolean x = y) (kk : SWr EE l D cy M d mc ms cells slots (pc + 1) L st n (md f s (va_up A p (upd (A p) k y))) Q QX) : SWr EE l D cy M d mc ms cells slots pc L (.int x :: .int i :: .ref p :: st) n (md f s A) Q QX := by
  subst hi
  obtain ⟨h1, h2, h3⟩ := hp
  have hN : ml p < 2147483648 := by
    have : ∀ q, q < 186 → ml q < 2147483648 := by decide +kernel
    exact this p (by omega)
  have ha : md f s A p = .inl (2, ml p, .inl (A p)) := by
    show (if p = 150 then _ else if 151 ≤ p ∧ p ≤ 185 then _ else _) = _
    rw [if_neg (by omega), if_pos ⟨h1, h2⟩, h3]
  refine sw_zast hd ha (vp_in_nI hk hN) ?_
  rw [nI_clamp (Nat.lt_trans hk hN), hx]
  have hm := md_a f s A h1 h2 (upd (A p) k y)
  rw [h3] at hm
  rw [hm]
  exact kk
theorem m_cast {p : Nat} {i x y : Int32} (k : Nat) (hd : decode M.2.1 pc = .ok (.castore, 1)) (hp : 151 ≤ p ∧ p ≤ 185 ∧ mt p = 3) (hi : i = nI k) (hk : k < ml p) (hx : vp_nar .char x = y) (kk : SWr EE l D cy M d mc ms cells slots (pc + 1) L st n (md f s (va_up A p (upd (A p) k y))) Q QX) : SWr EE l D cy M d mc ms cells slots pc L (.int x :: .int i :: .ref p :: st) n (md f s A) Q QX := by
  subst hi
  obtain ⟨h1, h2, h3⟩ := hp
  have hN : ml p < 2147483648 := by
    have : ∀ q, q < 186 → ml q < 2147483648 := by decide +kernel
    exact this p (by omega)
  have ha : md f s A p = .inl (3, ml p, .inl (A p)) := by
    show (if p = 150 then _ else if 151 ≤ p ∧ p ≤ 185 then _ else _) = _
    rw [if_neg (by omega), if_pos ⟨h1, h2⟩, h3]
  refine sw_cast hd ha (vp_in_nI hk hN) ?_
  rw [nI_clamp (Nat.lt_trans hk hN), hx]
  have hm := md_a f s A h1 h2 (upd (A p) k y)
  rw [h3] at hm
  rw [hm]
  exact kk
theorem m_eq {s' : Nat → Int32} {A' : Nat → Nat → Int32} (h1 : s = s') (h2 : A = A') (kk : SWr EE l D cy M d mc ms cells slots pc L st n (md f s' A') Q QX) : SWr EE l D cy M d mc ms cells slots pc L st n (md f s A) Q QX := by
  subst h1
  subst h2
  exact kk
end MDR
abbrev a_below : Nat := 151
abbrev a_joins : Nat := 152
abbrev a_entry : Nat := 153
abbrev a_policy : Nat := 154
abbrev a_values : Nat := 155
abbrev a_before : Nat := 156
abbrev a_newBelow : Nat := 157
abbrev a_text : Nat := 158
abbrev a_kind : Nat := 159
abbrev a_value : Nat := 160
abbrev a_parent : Nat := 161
abbrev a_first : Nat := 162
abbrev a_last : Nat := 163
abbrev a_next : Nat := 164
abbrev a_many : Nat := 165
abbrev a_until : Nat := 166
abbrev a_size : Nat := 167
abbrev a_place : Nat := 168
abbrev a_in : Nat := 169
abbrev a_out : Nat := 170
abbrev a_under : Nat := 171
abbrev a_now : Nat := 172
abbrev a_programKind : Nat := 173
abbrev a_programArgument : Nat := 174
abbrev a_exits : Nat := 175
abbrev a_codeKind : Nat := 176
abbrev a_codeArgument : Nat := 177
abbrev a_height : Nat := 178
abbrev a_seen : Nat := 179
abbrev a_pile : Nat := 180
abbrev a_region : Nat := 181
abbrev a_through : Nat := 182
abbrev a_label : Nat := 183
abbrev a_context : Nat := 184
abbrev a_stack : Nat := 185
abbrev f_thrown : Nat := 0
abbrev f_levels : Nat := 1
abbrev f_bottom : Nat := 4
abbrev f_typed : Nat := 10
abbrev f_p : Nat := 12
abbrev f_depth : Nat := 13
abbrev f_error : Nat := 14
abbrev f_parts : Nat := 15
abbrev f_more : Nat := 30
abbrev f_program : Nat := 31
abbrev f_programSize : Nat := 32
abbrev f_codeSize : Nat := 36
abbrev f_accepted : Nat := 39
abbrev f_shaped : Nat := 40
abbrev f_looked : Nat := 49
