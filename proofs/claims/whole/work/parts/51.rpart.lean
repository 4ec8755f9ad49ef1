/-! ===== THE REFERENCE: reading: place, depth, parts ===== -/
def pS (s : Nat → Int32) (p e P : Nat) : Nat → Int32 := va_up (va_up (va_up s 12 (nI p)) 13 (nI e)) 15 (nI P)
theorem pS_p (s : Nat → Int32) (p e P q : Nat) : va_up (pS s p e P) 12 (nI q) = pS s q e P := by
  unfold pS
  rw [vu_so _ (show 12 < 15 by decide), vu_so _ (show 12 < 13 by decide), vu_up]
theorem pS_d (s : Nat → Int32) (p e P q : Nat) : va_up (pS s p e P) 13 (nI q) = pS s p q P := by
  unfold pS
  rw [vu_so _ (show 13 < 15 by decide), vu_up]
theorem pS_P (s : Nat → Int32) (p e P q : Nat) : va_up (pS s p e P) 15 (nI q) = pS s p e q := vu_up _ _ _ _
theorem sb_1 {e : Nat} (h : 0 < e) : nI e - 1 = nI (e - 1) := by
  have q : nI e = nI (e - 1) + 1 := by rw [show (1 : Int32) = nI 1 from nl_1, nI_add, show e - 1 + 1 = e by omega]
  rw [q, Int32.add_sub_cancel]
/-- what the text is -/
def TO (s : Nat → Int32) (A : Nat → Nat → Int32) (T : Nat) : Prop := s 10 = nI T ∧ T ≤ 72 ∧ ∀ j, narrow .char (.int (A 158 j)) = .int (A 158 j)
theorem TO_A {s : Nat → Int32} {A A' : Nat → Nat → Int32} {T : Nat} (h : TO s A T) (e : A' 158 = A 158) : TO s A' T := ⟨h.1, h.2.1, by rw [e]; exact h.2.2⟩
theorem here_hc {s : Nat → Int32} {A : Nat → Nat → Int32} {T p e P : Nat} (h : TO s A T) (hp : p < 2147483648) : r_here (pS s p e P) A = hc (A 158) T p := by
  unfold r_here hc
  rw [show pS s p e P 12 = nI p from rfl, show pS s p e P 10 = s 10 from rfl, h.1]
  by_cases z : p < T
  · rw [if_pos z, if_pos ((nI_ltI hp (by have := h.2.1; omega)).mpr z), nI_clamp hp]
  · rw [if_neg z, if_neg (fun q => z ((nI_ltI hp (by have := h.2.1; omega)).mp q))]
theorem q_here {l : Launch} {D : va_G} {cy : Nat → ClassId} {d n : Nat} {f : sw_F} {s : Nat → Int32} {A : Nat → Nat → Int32} {T p e P : Nat} (hT : TO s A T) (hp : p ≤ 1000) : sw_Ct l D cy mX12_here d 0 0 [.ref 150] n (md f (pS s (p) (e) (P)) A) (sw_D (some (.int (hc (A 158) T p))) n (md f (pS s (p) (e) (P)) A)) := by
  have h := c_X12_here (l := l) (D := D) (cy := cy) (d := d) (n := n) (f := f) (s := pS s p e P) (A := A) (P := p) (T := T) rfl hT.1 (by omega) hT.2.1 hT.2.2
  rw [here_hc hT (by omega)] at h
  exact h
theorem q_takes {l : Launch} {D : va_G} {cy : Nat → ClassId} {d n : Nat} {f : sw_F} {s : Nat → Int32} {A : Nat → Nat → Int32} (hd : 1 ≤ d) {T p e P : Nat} (hT : TO s A T) (hp : p ≤ 1000) (c : Int32) : sw_Ct l D cy mX12_takes d 0 0 [.ref 150, .int c] n (md f (pS s (p) (e) (P)) A) (sw_D (some (.int (bz (decide (hc (A 158) T p = c))))) n (md f (pS s (if hc (A 158) T p = c then p + 1 else p) (e) (P)) A)) := by
  have h := c_X12_takes (l := l) (D := D) (cy := cy) (d := d) (n := n) (f := f) (s := pS s p e P) (A := A) (P := p) (T := T) hd rfl hT.1 (by omega) hT.2.1 hT.2.2 c
  unfold r_tk r_tkS at h
  rw [here_hc hT (by omega)] at h
  by_cases z : hc (A 158) T p = c
  · rw [if_pos z, show pS s p e P 12 + 1 = nI (p + 1) from nI_1 p, pS_p] at h
    rw [if_pos z]
    exact h
  · rw [if_neg z] at h
    rw [if_neg z]
    exact h
theorem q_opens {l : Launch} {D : va_G} {cy : Nat → ClassId} {d n : Nat} {f : sw_F} {s : Nat → Int32} {A : Nat → Nat → Int32} (hd : 1 ≤ d) {T p e P : Nat} (hT : TO s A T) (hp : p ≤ 1000) (he : e ≤ 6) (c : Int32) : sw_Ct l D cy mX12_opens d 0 0 [.ref 150, .int c] n (md f (pS s (p) (e) (P)) A) (sw_D (some (.int (bz (decide (hc (A 158) T p = c ∧ e < 6))))) n (md f (pS s (if hc (A 158) T p = c ∧ e < 6 then p + 1 else p) (if hc (A 158) T p = c ∧ e < 6 then e + 1 else e) (P)) A)) := by
  have h := c_X12_opens (l := l) (D := D) (cy := cy) (d := d) (n := n) (f := f) (s := pS s p e P) (A := A) (P := p) (T := T) hd rfl hT.1 (by omega) hT.2.1 hT.2.2 c
  have q : r_opOk (pS s p e P) A c = decide (hc (A 158) T p = c ∧ e < 6) := by
    unfold r_opOk
    rw [here_hc hT (by omega), show pS s p e P 13 = nI e from rfl]
    by_cases z : e < 6
    · have z2 : ¬ nI e = 6 := fun y => by have := nI_inj (by omega) (by omega) (show nI e = nI 6 from y); omega
      simp only [z, z2, not_false_eq_true]
    · have z3 : e = 6 := by omega
      subst z3
      simp only [show (nI 6 = (6 : Int32)) = True from eq_true rfl, z, not_true_eq_false, and_false]
  unfold r_opS at h
  rw [q] at h
  by_cases z : hc (A 158) T p = c ∧ e < 6
  · rw [decide_eq_true z, if_pos rfl, show pS s p e P 12 + 1 = nI (p + 1) from nI_1 p, show pS s p e P 13 + 1 = nI (e + 1) from nI_1 e, pS_d, pS_p] at h
    rw [decide_eq_true z, if_pos z, if_pos z]
    exact h
  · rw [decide_eq_false z, if_neg (by decide)] at h
    rw [decide_eq_false z, if_neg z, if_neg z]
    exact h
theorem q_closes {l : Launch} {D : va_G} {cy : Nat → ClassId} {d n : Nat} {f : sw_F} {s : Nat → Int32} {A : Nat → Nat → Int32} (hd : 2 ≤ d) {T p e P : Nat} (hT : TO s A T) (hp : p ≤ 1000) (he : 0 < e) (c : Int32) : sw_Ct l D cy mX12_closes d 0 0 [.ref 150, .int c] n (md f (pS s (p) (e) (P)) A) (sw_D (some (.int (bz (decide (hc (A 158) T p = c))))) n (md f (pS s (if hc (A 158) T p = c then p + 1 else p) (if hc (A 158) T p = c then e - 1 else e) (P)) A)) := by
  have h := c_X12_closes (l := l) (D := D) (cy := cy) (d := d) (n := n) (f := f) (s := pS s p e P) (A := A) (P := p) (T := T) hd rfl hT.1 (by omega) hT.2.1 hT.2.2 c
  unfold r_clS r_tk at h
  rw [here_hc hT (by omega)] at h
  by_cases z : hc (A 158) T p = c
  · rw [decide_eq_true z, if_pos rfl, show pS s p e P 12 + 1 = nI (p + 1) from nI_1 p, show pS s p e P 13 - 1 = nI (e - 1) from sb_1 he, pS_p, pS_d] at h
    rw [decide_eq_true z, if_pos z, if_pos z]
    exact h
  · rw [decide_eq_false z, if_neg (by decide)] at h
    rw [decide_eq_false z, if_neg z, if_neg z]
    exact h
/-- part a has no child yet, or c is its last -/
def PV (A : Nat → Nat → Int32) (a P : Nat) (o : Option Nat) : Prop := (o = none ∧ A 162 a = -1) ∨ ∃ c, o = some c ∧ c < P ∧ ¬ c = a ∧ ¬ A 162 a < 0 ∧ A 163 a = nI c
/-- A' is A with a new part P, a child of a -/
def PT (A A' : Nat → Nat → Int32) (P a : Nat) (o : Option Nat) (w v : Int32) : Prop := (∀ q i, ¬ i = P → ¬ (i = a ∧ (q = 162 ∨ q = 163 ∨ q = 165)) → ¬ (o = some i ∧ q = 164) → A' q i = A q i) ∧ (∀ q, q < 159 ∨ 166 < q → A' q = A q) ∧
  A' 159 P = w ∧ A' 160 P = v ∧ A' 161 P = nI a ∧ A' 162 P = -1 ∧ A' 164 P = -1 ∧ A' 165 P = 0 ∧ A' 166 P = nI (P + 1) ∧ A' 163 a = nI P ∧ A' 165 a = A 165 a + 1 ∧ A' 162 a = (match o with | none => nI P | some _ => A 162 a) ∧ ∀ c, o = some c → A' 164 c = nI P
theorem ptN_b {A : Nat → Nat → Int32} {P a : Nat} {w ab : Int32} (ha : a < P) (q : Nat) : ptN A P w ab q a = A q a := by
  unfold ptN
  simp only [u2_at]
  repeat rw [if_neg (by omega)]
theorem PT_of {A : Nat → Nat → Int32} {P a : Nat} {o : Option Nat} {w : Int32} (ha : a < P) (hP : P < 160) (h : PV A a P o) : (¬ ptN A P w (nI a) 162 a < 0 → ∃ m, m < 160 ∧ ptN A P w (nI a) 163 a = nI m) ∧ PT A (ptL (ptN A P w (nI a)) P a) P a o w 0 := by
  rw [ptN_b ha, ptN_b ha]
  rcases h with ⟨rfl, h1⟩ | ⟨c, rfl, hc, hca, h1, h2⟩
  · refine ⟨fun z => absurd (show A 162 a < 0 by rw [h1]; decide) z, ?_⟩
    unfold ptL ptF
    rw [if_pos (show ptN A P w (nI a) 162 a < 0 by rw [ptN_b ha, h1]; decide)]
    unfold ptN
    refine ⟨fun q i z1 z2 z3 => ?_, fun q hq => ?_, ?_⟩
    · simp only [u2_at]
      repeat rw [if_neg (by omega)]
    · simp only [u2]
      repeat rw [vu_ne _ (show ¬ q = _ by omega)]
    · simp only [u2_at]
      refine ⟨?_, ?_, ?_, ?_, ?_, ?_, ?_, ?_, ?_, ?_, fun c hc => absurd hc (by simp)⟩
      all_goals first | (simp [show ¬ a = P by omega, show ¬ P = a by omega]; done) | skip
  · refine ⟨fun _ => ⟨c, by omega, h2⟩, ?_⟩
    unfold ptL ptF
    rw [if_neg (show ¬ ptN A P w (nI a) 162 a < 0 by rw [ptN_b ha]; exact h1), show (ptN A P w (nI a) 163 a).toNatClampNeg = c by rw [ptN_b ha, h2, nI_clamp (by omega)]]
    unfold ptN
    refine ⟨fun q i z1 z2 z3 => ?_, fun q hq => ?_, ?_⟩
    · have z3 : ¬ (q = 164 ∧ i = c) := fun y => z3 ⟨by rw [y.2], y.1⟩
      simp only [u2_at]
      repeat rw [if_neg (by omega)]
    · simp only [u2]
      repeat rw [vu_ne _ (show ¬ q = _ by omega)]
    · simp only [u2_at]
      refine ⟨?_, ?_, ?_, ?_, ?_, ?_, ?_, ?_, ?_, ?_, fun c' hc' => ?_⟩
      all_goals first | (simp [show ¬ a = P by omega, show ¬ P = a by omega, show ¬ P = c by omega, show ¬ c = P by omega]; done) | skip
      · obtain rfl := Option.some.inj hc'
        simp [show ¬ c = P by omega]
theorem q_part {l : Launch} {D : va_G} {cy : Nat → ClassId} {d n : Nat} {f : sw_F} {s : Nat → Int32} {A : Nat → Nat → Int32} {p e P a : Nat} {o : Option Nat} (ha : a < P) (hP : P < 160) (h : PV A a P o) (w : Int32) : ∃ A', PT A A' P a o w 0 ∧ sw_Ct l D cy mX12_part d 0 0 [.ref 150, .int w, .int (nI a)] n (md f (pS s (p) (e) (P)) A) (sw_D (some (.int (nI P))) n (md f (pS s (p) (e) (P + 1)) A')) := by
  obtain ⟨h1, h2⟩ := PT_of (w := w) ha hP h
  refine ⟨_, h2, ?_⟩
  have h3 := c_X12_part (l := l) (D := D) (cy := cy) (d := d) (n := n) (f := f) (s := pS s p e P) (A := A) (P := P) (a := a) rfl hP w ha h1
  rw [pS_P] at h3
  exact h3
theorem PT_v {A A' : Nat → Nat → Int32} {P a : Nat} {o : Option Nat} {w v : Int32} (hPa : ¬ P = a) (h : PT A A' P a o w v) (v' : Int32) : PT A (u2 A' 160 P v') P a o w v' := by
  obtain ⟨h1, h2, h3, h4, h5, h6, h7, h8, h9, h10, h11, h12, h13⟩ := h
  refine ⟨fun q i z1 z2 z3 => ?_, fun q hq => ?_, ?_, ?_, ?_, ?_, ?_, ?_, ?_, ?_, ?_, ?_, fun c hc => ?_⟩
  · rw [u2_at, if_neg (fun y => z1 y.2)]; exact h1 q i z1 z2 z3
  · rw [u2_q _ _ (by omega)]; exact h2 q hq
  · rw [u2_q _ _ (by decide)]; exact h3
  · rw [u2_at, if_pos ⟨rfl, rfl⟩]
  · rw [u2_q _ _ (by decide)]; exact h5
  · rw [u2_q _ _ (by decide)]; exact h6
  · rw [u2_q _ _ (by decide)]; exact h7
  · rw [u2_q _ _ (by decide)]; exact h8
  · rw [u2_q _ _ (by decide)]; exact h9
  · rw [u2_q _ _ (by decide)]; exact h10
  · rw [u2_q _ _ (by decide)]; exact h11
  · rw [u2_q _ _ (by decide)]; exact h12
  · rw [u2_q _ _ (by decide)]; exact h13 c hc
