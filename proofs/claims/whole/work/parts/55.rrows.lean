/-! ===== THE REFERENCE: rows of statements ===== -/
def lnk : RT → Nat → Int32
  | .leaf _, _ => -1
  | .branch _ _ _, k => nI k
def hdE (A : Nat → Nat → Int32) (w : Int32) (e : ET) (k : Nat) (nx : Int32) : Prop := A 159 k = w ∧ A 162 k = nI (k + 1) ∧ A 164 (k + 1) = nx ∧ A 166 (k + 1) = nI (k + 1 + szE e) ∧ rpE A e (k + 1)
def hdR (A : Nat → Nat → Int32) (b : Nat) (x nx : Int32) : Prop := A 159 b = 6 ∧ A 162 b = x ∧ A 164 b = nx
/-- the parts from k on are the statements t -/
def rpR (A : Nat → Nat → Int32) : RT → Nat → Prop
  | .leaf _, _ => True
  | .branch v (.leaf e) R, k => (hdE A 3 e k (-1) ∧ A 160 k = nI v) ∧ A 164 k = lnk R (k + 1 + szE e) ∧ rpR A R (k + 1 + szE e)
  | .branch _ (.branch _ (.leaf e) r) R, k => (hdE A 5 e k (nI (k + 1 + szE e)) ∧ hdR A (k + 1 + szE e) (lnk r (k + 1 + szE e + 1)) (-1) ∧ rpR A r (k + 1 + szE e + 1)) ∧ A 164 k = lnk R (k + 1 + szE e + 1 + szR r) ∧ rpR A R (k + 1 + szE e + 1 + szR r)
  | .branch _ (.branch _ (.branch _ (.leaf e) r1) r2) R, k => (hdE A 4 e k (nI (k + 1 + szE e)) ∧ hdR A (k + 1 + szE e) (lnk r1 (k + 1 + szE e + 1)) (nI (k + 1 + szE e + 1 + szR r1)) ∧ rpR A r1 (k + 1 + szE e + 1) ∧ hdR A (k + 1 + szE e + 1 + szR r1) (lnk r2 (k + 1 + szE e + 1 + szR r1 + 1)) (-1) ∧ rpR A r2 (k + 1 + szE e + 1 + szR r1 + 1)) ∧ A 164 k = lnk R (k + 1 + szE e + 1 + szR r1 + 1 + szR r2) ∧ rpR A R (k + 1 + szE e + 1 + szR r1 + 1 + szR r2)
  | .branch _ (.branch _ (.branch _ (.branch _ _ _) _) _) _, _ => False
theorem hdE_cg {A A' : Nat → Nat → Int32} {w : Int32} {e : ET} {k : Nat} {nx : Int32} (h : ∀ q i, k ≤ i → i < k + 1 + szE e → ¬ (i = k ∧ q = 164) → A' q i = A q i) (r : hdE A w e k nx) : hdE A' w e k nx := by
  obtain ⟨r1, r2, r3, r4, r5⟩ := r
  have sp := szE_pos e
  refine ⟨?_, ?_, ?_, ?_, rpE_cg e (k + 1) (fun q i h1 h2 h3 => h q i (by omega) (by omega) (by omega)) r5⟩
  · rw [h 159 k (by omega) (by omega) (by omega)]; exact r1
  · rw [h 162 k (by omega) (by omega) (by omega)]; exact r2
  · rw [h 164 (k + 1) (by omega) (by omega) (by omega)]; exact r3
  · rw [h 166 (k + 1) (by omega) (by omega) (by omega)]; exact r4
theorem hdR_cg {A A' : Nat → Nat → Int32} {b : Nat} {x nx : Int32} (h : ∀ q, A' q b = A q b) (r : hdR A b x nx) : hdR A' b x nx := by
  obtain ⟨r1, r2, r3⟩ := r
  exact ⟨by rw [h]; exact r1, by rw [h]; exact r2, by rw [h]; exact r3⟩
theorem rpR_cg {A A' : Nat → Nat → Int32} : ∀ (t : RT) (k : Nat), (∀ q i, k ≤ i → i < k + szR t → A' q i = A q i) → rpR A t k → rpR A' t k
  | .leaf _, k, h, r => r
  | .branch v (.leaf e) R, k, h, r => by
    rw [szR] at h
    unfold rpR at r ⊢
    obtain ⟨⟨r1, r2⟩, r3, r4⟩ := r
    refine ⟨⟨hdE_cg (fun q i h1 h2 h3 => h q i h1 (by omega)) r1, ?_⟩, ?_, rpR_cg R _ (fun q i h1 h2 => h q i (by omega) (by omega)) r4⟩
    · rw [h 160 k (by omega) (by omega)]; exact r2
    · rw [h 164 k (by omega) (by omega)]; exact r3
  | .branch _ (.branch _ (.leaf e) r') R, k, h, r => by
    rw [szR] at h
    unfold rpR at r ⊢
    obtain ⟨⟨r1, r2, r5⟩, r3, r4⟩ := r
    refine ⟨⟨hdE_cg (fun q i h1 h2 h3 => h q i h1 (by omega)) r1, hdR_cg (fun q => h q _ (by omega) (by omega)) r2, rpR_cg r' _ (fun q i h1 h2 => h q i (by omega) (by omega)) r5⟩, ?_, rpR_cg R _ (fun q i h1 h2 => h q i (by omega) (by omega)) r4⟩
    rw [h 164 k (by omega) (by omega)]; exact r3
  | .branch _ (.branch _ (.branch _ (.leaf e) x1) x2) R, k, h, r => by
    rw [szR] at h
    unfold rpR at r ⊢
    obtain ⟨⟨r1, r2, r5, r6, r7⟩, r3, r4⟩ := r
    refine ⟨⟨hdE_cg (fun q i h1 h2 h3 => h q i h1 (by omega)) r1, hdR_cg (fun q => h q _ (by omega) (by omega)) r2, rpR_cg x1 _ (fun q i h1 h2 => h q i (by omega) (by omega)) r5, hdR_cg (fun q => h q _ (by omega) (by omega)) r6, rpR_cg x2 _ (fun q i h1 h2 => h q i (by omega) (by omega)) r7⟩, ?_, rpR_cg R _ (fun q i h1 h2 => h q i (by omega) (by omega)) r4⟩
    rw [h 164 k (by omega) (by omega)]; exact r3
  | .branch _ (.branch _ (.branch _ (.branch _ _ _) _) _) _, k, h, r => r.elim
/-- A' is A with the statements t from P on, children of a behind o -/
def RXF (A A' : Nat → Nat → Int32) (P a : Nat) (o : Option Nat) (t : RT) : Prop := (∀ q i, i < P → ¬ (i = a ∧ (q = 162 ∨ q = 163 ∨ q = 165)) → ¬ (o = some i ∧ q = 164) → A' q i = A q i) ∧ (∀ q, q < 159 ∨ 166 < q → A' q = A q) ∧ rpR A' t P ∧ (o = none → A' 162 a = lnk t P) ∧ (∀ c, o = some c → A' 162 a = A 162 a ∧ A' 164 c = lnk t P)
/-- A' is A with the statements r in the row b -/
def BXF (A A' : Nat → Nat → Int32) (b : Nat) (r : RT) : Prop := (∀ q i, i ≤ b → ¬ (i = b ∧ (q = 162 ∨ q = 163 ∨ q = 165)) → A' q i = A q i) ∧ (∀ q, q < 159 ∨ 166 < q → A' q = A q) ∧ A' 162 b = lnk r (b + 1) ∧ rpR A' r (b + 1)
theorem BXF_of {A A' : Nat → Nat → Int32} {b : Nat} {r : RT} (h : RXF A A' (b + 1) b none r) : BXF A A' b r :=
  ⟨fun q i h1 h2 => h.1 q i (by omega) h2 (fun y => absurd y.1 (by simp)), h.2.1, h.2.2.2.1 rfl, h.2.2.1⟩
theorem oS {a b c d : Nat} (h : ¬ (a = b ∧ c = d)) : ¬ (some a = some b ∧ c = d) := fun y => h ⟨Option.some.inj y.1, y.2⟩
def PW (A : Nat → Nat → Int32) (a P : Nat) (o : Option Nat) : Prop := PV A a P o ∧ ∀ c, o = some c → A 164 c = -1
theorem RX_no {A : Nat → Nat → Int32} {P a : Nat} {o : Option Nat} (h : PW A a P o) : RXF A A P a o rNo := by
  refine ⟨fun _ _ _ _ _ => rfl, fun _ _ => rfl, True.intro, fun ho => ?_, fun c hc => ⟨rfl, h.2 c hc⟩⟩
  rcases h.1 with ⟨_, h1⟩ | ⟨c, h1, _⟩
  · exact h1
  · rw [h1] at ho; exact absurd ho (by simp)
theorem RX_as {A A1 A2 A3 : Nat → Nat → Int32} {P a v : Nat} {o : Option Nat} {e : ET} {R : RT} (ha : a < P) (ho : ∀ c, o = some c → c < P) (h1 : PT A A1 P a o 3 (nI v)) (h2 : EXG A1 A2 (P + 1) P e) (h3 : RXF A2 A3 (P + 1 + szE e) a (some P) R) : RXF A A3 P a o (rAs v e R) := by
  obtain ⟨f1, f2, f3, f4, f5, f6, f7, f8, f9, f10, f11, f12, f13⟩ := h1
  obtain ⟨g1, g2, g3, g4, g5, g6, g7, g8⟩ := h2
  obtain ⟨k1, k2, k3, k4, k5⟩ := h3
  have sp := szE_pos e
  have e1 : ∀ q i, i < P + 1 + szE e → ¬ (i = a ∧ (q = 162 ∨ q = 163 ∨ q = 165)) → ¬ (i = P ∧ q = 164) → A3 q i = A2 q i := fun q i z1 z2 z3 => k1 q i z1 z2 (oS (by omega))
  have e2 : ∀ q i, i ≤ P → ¬ (i = a ∧ (q = 162 ∨ q = 163 ∨ q = 165)) → ¬ (i = P ∧ (q = 162 ∨ q = 163 ∨ q = 164 ∨ q = 165)) → A3 q i = A1 q i := fun q i z1 z2 z3 => by
    rw [e1 q i (by omega) z2 (by omega)]
    exact g1 q i (by omega) (by omega)
  refine ⟨fun q i z1 z2 z3 => ?_, fun q hq => by rw [k2 q hq, g2 q hq, f2 q hq], ?_, fun ho => ?_, fun c hc => ⟨?_, ?_⟩⟩
  · rw [e2 q i (by omega) z2 (by omega)]
    exact f1 q i (by omega) z2 z3
  · refine ⟨⟨⟨?_, ?_, ?_, ?_, rpE_cg e (P + 1) (fun q i z1 z2 z3 => e1 q i (by omega) (by omega) (by omega)) g3⟩, ?_⟩, (k5 P rfl).2, k3⟩
    · rw [e2 _ P (by omega) (by omega) (by omega)]; exact f3
    · rw [e1 _ P (by omega) (by omega) (by omega)]; exact g7
    · rw [e1 _ _ (by omega) (by omega) (by omega)]; exact g4
    · rw [e1 _ _ (by omega) (by omega) (by omega)]; exact g8
    · rw [e2 _ P (by omega) (by omega) (by omega)]; exact f4
  · subst ho
    rw [(k5 P rfl).1, g1 _ a (by omega) (by omega)]
    exact f12
  · subst hc
    rw [(k5 P rfl).1, g1 _ a (by omega) (by omega)]
    exact f12
  · have := ho c hc
    rw [e2 _ c (by omega) (by omega) (by omega)]
    exact f13 c hc
theorem RX_lp {A A1 A2 A3 A4 A5 : Nat → Nat → Int32} {P a : Nat} {o : Option Nat} {e : ET} {r R : RT} (ha : a < P) (ho : ∀ c, o = some c → c < P) (h1 : PT A A1 P a o 5 0) (h2 : EXG A1 A2 (P + 1) P e) (h3 : PT A2 A3 (P + 1 + szE e) P (some (P + 1)) 6 0) (h4 : BXF A3 A4 (P + 1 + szE e) r) (h5 : RXF A4 A5 (P + 1 + szE e + 1 + szR r) a (some P) R) : RXF A A5 P a o (rLp e r R) := by
  obtain ⟨f1, f2, f3, f4, f5, f6, f7, f8, f9, f10, f11, f12, f13⟩ := h1
  obtain ⟨g1, g2, g3, g4, g5, g6, g7, g8⟩ := h2
  obtain ⟨p1, p2, p3, p4, p5, p6, p7, p8, p9, p10, p11, p12, p13⟩ := h3
  obtain ⟨b1, b2, b3, b4⟩ := h4
  obtain ⟨k1, k2, k3, k4, k5⟩ := h5
  have sp := szE_pos e
  have e1 : ∀ q i, i < P + 1 + szE e + 1 + szR r → ¬ (i = a ∧ (q = 162 ∨ q = 163 ∨ q = 165)) → ¬ (i = P ∧ q = 164) → A5 q i = A4 q i := fun q i z1 z2 z3 => k1 q i z1 z2 (oS (by omega))
  have e3 : ∀ q i, i < P + 1 + szE e → ¬ (i = P ∧ (q = 162 ∨ q = 163 ∨ q = 165)) → ¬ (i = P + 1 ∧ q = 164) → A4 q i = A2 q i := fun q i z1 z2 z3 => by
    rw [b1 q i (by omega) (by omega)]
    exact p1 q i (by omega) z2 (oS (by omega))
  have e2 : ∀ q i, i ≤ P → ¬ (i = P ∧ (q = 162 ∨ q = 163 ∨ q = 164 ∨ q = 165)) → A4 q i = A1 q i := fun q i z1 z3 => by
    rw [e3 q i (by omega) (by omega) (by omega)]
    exact g1 q i (by omega) (by omega)
  refine ⟨fun q i z1 z2 z3 => ?_, fun q hq => by rw [k2 q hq, b2 q hq, p2 q hq, g2 q hq, f2 q hq], ?_, fun ho => ?_, fun c hc => ⟨?_, ?_⟩⟩
  · rw [e1 q i (by omega) z2 (by omega), e2 q i (by omega) (by omega)]
    exact f1 q i (by omega) z2 z3
  · refine ⟨⟨⟨?_, ?_, ?_, ?_, rpE_cg e (P + 1) (fun q i z1 z2 z3 => ?_) g3⟩, ⟨?_, ?_, ?_⟩, rpR_cg r _ (fun q i z1 z2 => e1 q i (by omega) (by omega) (by omega)) b4⟩, (k5 P rfl).2, k3⟩
    · rw [e1 _ P (by omega) (by omega) (by omega), e2 _ P (by omega) (by omega)]; exact f3
    · rw [e1 _ P (by omega) (by omega) (by omega), b1 _ P (by omega) (by omega)]; exact p12.trans g7
    · rw [e1 _ _ (by omega) (by omega) (by omega), b1 _ _ (by omega) (by omega)]; exact p13 _ rfl
    · rw [e1 _ _ (by omega) (by omega) (by omega), e3 _ _ (by omega) (by omega) (by omega)]; exact g8
    · rw [e1 _ _ (by omega) (by omega) (by omega), e3 _ _ (by omega) (by omega) (by omega)]
    · rw [e1 _ _ (by omega) (by omega) (by omega), b1 _ _ (by omega) (by omega)]; exact p3
    · rw [e1 _ _ (by omega) (by omega) (by omega)]; exact b3
    · rw [e1 _ _ (by omega) (by omega) (by omega), b1 _ _ (by omega) (by omega)]; exact p7
  · subst ho
    rw [(k5 P rfl).1, e2 _ a (by omega) (by omega)]
    exact f12
  · subst hc
    rw [(k5 P rfl).1, e2 _ a (by omega) (by omega)]
    exact f12
  · have := ho c hc
    rw [e1 _ c (by omega) (by omega) (by omega), e2 _ c (by omega) (by omega)]
    exact f13 c hc
theorem RX_ch {A A1 A2 A3 A4 A5 A6 A7 : Nat → Nat → Int32} {P a : Nat} {o : Option Nat} {e : ET} {r r2 R : RT} (ha : a < P) (ho : ∀ c, o = some c → c < P) (h1 : PT A A1 P a o 4 0) (h2 : EXG A1 A2 (P + 1) P e) (h3 : PT A2 A3 (P + 1 + szE e) P (some (P + 1)) 6 0) (h4 : BXF A3 A4 (P + 1 + szE e) r) (h6 : PT A4 A5 (P + 1 + szE e + 1 + szR r) P (some (P + 1 + szE e)) 6 0) (h7 : BXF A5 A6 (P + 1 + szE e + 1 + szR r) r2) (h5 : RXF A6 A7 (P + 1 + szE e + 1 + szR r + 1 + szR r2) a (some P) R) : RXF A A7 P a o (rCh e r r2 R) := by
  obtain ⟨f1, f2, f3, f4, f5, f6, f7, f8, f9, f10, f11, f12, f13⟩ := h1
  obtain ⟨g1, g2, g3, g4, g5, g6, g7, g8⟩ := h2
  obtain ⟨p1, p2, p3, p4, p5, p6, p7, p8, p9, p10, p11, p12, p13⟩ := h3
  obtain ⟨b1, b2, b3, b4⟩ := h4
  obtain ⟨s1, s2, s3, s4, s5, s6, s7, s8, s9, s10, s11, s12, s13⟩ := h6
  obtain ⟨c1, c2, c3, c4⟩ := h7
  obtain ⟨k1, k2, k3, k4, k5⟩ := h5
  have sp := szE_pos e
  have e1 : ∀ q i, i < P + 1 + szE e + 1 + szR r + 1 + szR r2 → ¬ (i = a ∧ (q = 162 ∨ q = 163 ∨ q = 165)) → ¬ (i = P ∧ q = 164) → A7 q i = A6 q i := fun q i z1 z2 z3 => k1 q i z1 z2 (oS (by omega))
  have e4 : ∀ q i, i < P + 1 + szE e + 1 + szR r → ¬ (i = P ∧ (q = 162 ∨ q = 163 ∨ q = 165)) → ¬ (i = P + 1 + szE e ∧ q = 164) → A6 q i = A4 q i := fun q i z1 z2 z3 => by
    rw [c1 q i (by omega) (by omega)]
    exact s1 q i (by omega) z2 (oS (by omega))
  have e3 : ∀ q i, i < P + 1 + szE e → ¬ (i = P ∧ (q = 162 ∨ q = 163 ∨ q = 165)) → ¬ (i = P + 1 ∧ q = 164) → A6 q i = A2 q i := fun q i z1 z2 z3 => by
    rw [e4 q i (by omega) z2 (by omega), b1 q i (by omega) (by omega)]
    exact p1 q i (by omega) z2 (oS (by omega))
  have e2 : ∀ q i, i ≤ P → ¬ (i = P ∧ (q = 162 ∨ q = 163 ∨ q = 164 ∨ q = 165)) → A6 q i = A1 q i := fun q i z1 z3 => by
    rw [e3 q i (by omega) (by omega) (by omega)]
    exact g1 q i (by omega) (by omega)
  refine ⟨fun q i z1 z2 z3 => ?_, fun q hq => by rw [k2 q hq, c2 q hq, s2 q hq, b2 q hq, p2 q hq, g2 q hq, f2 q hq], ?_, fun ho => ?_, fun c hc => ⟨?_, ?_⟩⟩
  · rw [e1 q i (by omega) z2 (by omega), e2 q i (by omega) (by omega)]
    exact f1 q i (by omega) z2 z3
  · refine ⟨⟨⟨?_, ?_, ?_, ?_, rpE_cg e (P + 1) (fun q i z1 z2 z3 => ?_) g3⟩, ⟨?_, ?_, ?_⟩, rpR_cg r _ (fun q i z1 z2 => ?_) b4, ⟨?_, ?_, ?_⟩, rpR_cg r2 _ (fun q i z1 z2 => e1 q i (by omega) (by omega) (by omega)) c4⟩, (k5 P rfl).2, k3⟩
    · rw [e1 _ P (by omega) (by omega) (by omega), e2 _ P (by omega) (by omega)]; exact f3
    · rw [e1 _ P (by omega) (by omega) (by omega), c1 _ P (by omega) (by omega)]; refine s12.trans ?_; show A4 162 P = _; rw [b1 _ P (by omega) (by omega)]; exact p12.trans g7
    · rw [e1 _ _ (by omega) (by omega) (by omega), e4 _ _ (by omega) (by omega) (by omega), b1 _ _ (by omega) (by omega)]; exact p13 _ rfl
    · rw [e1 _ _ (by omega) (by omega) (by omega), e3 _ _ (by omega) (by omega) (by omega)]; exact g8
    · rw [e1 _ _ (by omega) (by omega) (by omega), e3 _ _ (by omega) (by omega) (by omega)]
    · rw [e1 _ _ (by omega) (by omega) (by omega), e4 _ _ (by omega) (by omega) (by omega), b1 _ _ (by omega) (by omega)]; exact p3
    · rw [e1 _ _ (by omega) (by omega) (by omega), e4 _ _ (by omega) (by omega) (by omega)]; exact b3
    · rw [e1 _ _ (by omega) (by omega) (by omega), c1 _ _ (by omega) (by omega)]; exact s13 _ rfl
    · rw [e1 _ _ (by omega) (by omega) (by omega), e4 _ _ (by omega) (by omega) (by omega)]
    · rw [e1 _ _ (by omega) (by omega) (by omega), c1 _ _ (by omega) (by omega)]; exact s3
    · rw [e1 _ _ (by omega) (by omega) (by omega)]; exact c3
    · rw [e1 _ _ (by omega) (by omega) (by omega), c1 _ _ (by omega) (by omega)]; exact s7
  · subst ho
    rw [(k5 P rfl).1, e2 _ a (by omega) (by omega)]
    exact f12
  · subst hc
    rw [(k5 P rfl).1, e2 _ a (by omega) (by omega)]
    exact f12
  · have := ho c hc
    rw [e1 _ c (by omega) (by omega) (by omega), e2 _ c (by omega) (by omega)]
    exact f13 c hc
/-! lengths -/
def pK (TX : Nat → Int32) (T p : Nat) (r : Option RT × Nat) : Prop := p ≤ r.2 ∧ r.2 ≤ T ∧ ∀ t, r.1 = some t → p + szR t ≤ r.2 ∧ r_nm (hc TX T r.2) = false ∧ ¬ hc TX T r.2 = 63 ∧ ¬ hc TX T r.2 = 42
def pKB (T p : Nat) (r : Option RT × Nat) : Prop := p ≤ r.2 ∧ r.2 ≤ T ∧ ∀ t, r.1 = some t → p + 2 + szR t ≤ r.2
theorem pK_n {TX : Nat → Int32} {T p q : Nat} (h1 : p ≤ q) (h2 : q ≤ T) : pK TX T p (none, q) := ⟨h1, h2, fun x hx => absurd hx (by simp)⟩
theorem pKB_n {T p q : Nat} (h1 : p ≤ q) (h2 : q ≤ T) : pKB T p (none, q) := ⟨h1, h2, fun x hx => absurd hx (by simp)⟩
theorem pB_le {TX : Nat → Int32} {T d : Nat} {rd : Nat → Option RT × Nat} (h : ∀ p, p ≤ T → pK TX T p (rd p)) {p : Nat} (hp : p ≤ T) : pKB T p (pB TX T d rd p) := by
  unfold pB
  by_cases c : hc TX T p = 123 ∧ d < 6
  · rw [if_pos c]
    have q0 := hc_in (TX := TX) (T := T) (p := p) (fun y => by rw [y] at c; exact absurd c.1 (by decide))
    have i1 := h (p + 1) (by omega)
    revert i1
    generalize rd (p + 1) = w
    obtain ⟨w, q⟩ := w
    intro i1
    obtain ⟨i1, i2, i3⟩ := i1
    have i1 : p + 1 ≤ q := i1
    have i2 : q ≤ T := i2
    cases w with
    | none => exact pKB_n (by omega) i2
    | some r =>
      have i4 : p + 1 + szR r ≤ q := (i3 r rfl).1
      show pKB T p (if hc TX T q = 125 then (some r, q + 1) else (none, q))
      by_cases c2 : hc TX T q = 125
      · rw [if_pos c2]
        have q1 := hc_in (TX := TX) (T := T) (p := q) (fun y => by rw [y] at c2; exact absurd c2 (by decide))
        exact ⟨by show p ≤ q + 1; omega, q1, fun t ht => by obtain rfl := Option.some.inj ht; show p + 2 + szR r ≤ q + 1; omega⟩
      · rw [if_neg c2]
        exact pKB_n (by omega) i2
  · rw [if_neg c]
    exact pKB_n (Nat.le_refl p) hp
theorem pR_le {TX : Nat → Int32} {T : Nat} : ∀ (F g p : Nat), p ≤ T → pK TX T p (pR TX T F g p)
  | 0, g, p, h => pK_n (Nat.le_refl p) h
  | F + 1, g, p, h => by
    have ih := pR_le (TX := TX) (T := T) F
    rw [pR]
    by_cases c1 : r_nm (hc TX T p) = true
    · rw [if_pos c1]
      have q0 := hc_in (TX := TX) (T := T) (p := p) (fun y => by rw [y] at c1; exact absurd c1 (by decide))
      by_cases c2 : hc TX T (p + 1) = 61
      · rw [if_pos c2]
        have q1 := hc_in (TX := TX) (T := T) (p := p + 1) (fun y => by rw [y] at c2; exact absurd c2 (by decide))
        have i1 := pE_le (TX := TX) 100 g (p + 2) (show p + 2 ≤ T by omega)
        revert i1
        generalize pE TX T 100 g (p + 2) = w
        obtain ⟨w, q⟩ := w
        intro i1
        obtain ⟨i1, i2, i3⟩ := i1
        have i1 : p + 2 ≤ q := i1
        have i2 : q ≤ T := i2
        cases w with
        | none => exact pK_n (by omega) i2
        | some e =>
          have i4 : p + 2 + szE e ≤ q := i3 e rfl
          show pK TX T p (if hc TX T q = 59 then _ else (none, q))
          by_cases c3 : hc TX T q = 59
          · rw [if_pos c3]
            have q2 := hc_in (TX := TX) (T := T) (p := q) (fun y => by rw [y] at c3; exact absurd c3 (by decide))
            have j1 := ih g (q + 1) (by omega)
            revert j1
            generalize pR TX T F g (q + 1) = w2
            obtain ⟨w2, q2⟩ := w2
            intro j1
            obtain ⟨j1, j2, j3⟩ := j1
            have j1 : q + 1 ≤ q2 := j1
            have j2 : q2 ≤ T := j2
            cases w2 with
            | none => exact pK_n (by omega) j2
            | some R =>
              have j4 : q + 1 + szR R ≤ q2 := (j3 R rfl).1
              exact ⟨by show p ≤ q2; omega, j2, fun t ht => by obtain rfl := Option.some.inj ht; exact ⟨by rw [szR]; show p + (1 + szE e + szR R) ≤ q2; omega, (j3 R rfl).2⟩⟩
          · rw [if_neg c3]; exact pK_n (by omega) i2
      · rw [if_neg c2]; exact pK_n (by omega) (by omega)
    · rw [if_neg c1]
      by_cases c4 : hc TX T p = 63
      · rw [if_pos c4]
        have q0 := hc_in (TX := TX) (T := T) (p := p) (fun y => by rw [y] at c4; exact absurd c4 (by decide))
        have i1 := pE_le (TX := TX) 100 g (p + 1) (show p + 1 ≤ T by omega)
        revert i1
        generalize pE TX T 100 g (p + 1) = w
        obtain ⟨w, q⟩ := w
        intro i1
        obtain ⟨i1, i2, i3⟩ := i1
        have i1 : p + 1 ≤ q := i1
        have i2 : q ≤ T := i2
        cases w with
        | none => exact pK_n (by omega) i2
        | some e =>
          have i4 : p + 1 + szE e ≤ q := i3 e rfl
          have b1 := pB_le (TX := TX) (T := T) (d := g) (ih (g + 1)) i2
          revert b1
          show _ → pK TX T p (match pB TX T g (pR TX T F (g + 1)) q with | (none, q1) => (none, q1) | (some r1, q1) => _)
          generalize pB TX T g (pR TX T F (g + 1)) q = w1
          obtain ⟨w1, q1⟩ := w1
          intro b1
          obtain ⟨b1, b2, b3⟩ := b1
          have b1 : q ≤ q1 := b1
          have b2 : q1 ≤ T := b2
          cases w1 with
          | none => exact pK_n (by omega) b2
          | some r1 =>
            have b4 : q + 2 + szR r1 ≤ q1 := b3 r1 rfl
            have d1 := pB_le (TX := TX) (T := T) (d := g) (ih (g + 1)) b2
            revert d1
            show _ → pK TX T p (match pB TX T g (pR TX T F (g + 1)) q1 with | (none, q2) => (none, q2) | (some r2, q2) => _)
            generalize pB TX T g (pR TX T F (g + 1)) q1 = w2
            obtain ⟨w2, q2⟩ := w2
            intro d1
            obtain ⟨d1, d2, d3⟩ := d1
            have d1 : q1 ≤ q2 := d1
            have d2 : q2 ≤ T := d2
            cases w2 with
            | none => exact pK_n (by omega) d2
            | some r2 =>
              have d4 : q1 + 2 + szR r2 ≤ q2 := d3 r2 rfl
              have j1 := ih g q2 d2
              revert j1
              show _ → pK TX T p (match pR TX T F g q2 with | (none, q3) => (none, q3) | (some R, q3) => _)
              generalize pR TX T F g q2 = w3
              obtain ⟨w3, q3⟩ := w3
              intro j1
              obtain ⟨j1, j2, j3⟩ := j1
              have j1 : q2 ≤ q3 := j1
              have j2 : q3 ≤ T := j2
              cases w3 with
              | none => exact pK_n (by omega) j2
              | some R =>
                have j4 : q2 + szR R ≤ q3 := (j3 R rfl).1
                exact ⟨by show p ≤ q3; omega, j2, fun t ht => by obtain rfl := Option.some.inj ht; exact ⟨by rw [szR]; show p + (1 + szE e + (1 + szR r1) + (1 + szR r2) + szR R) ≤ q3; omega, (j3 R rfl).2⟩⟩
      · rw [if_neg c4]
        by_cases c5 : hc TX T p = 42
        · rw [if_pos c5]
          have q0 := hc_in (TX := TX) (T := T) (p := p) (fun y => by rw [y] at c5; exact absurd c5 (by decide))
          have i1 := pE_le (TX := TX) 100 g (p + 1) (show p + 1 ≤ T by omega)
          revert i1
          generalize pE TX T 100 g (p + 1) = w
          obtain ⟨w, q⟩ := w
          intro i1
          obtain ⟨i1, i2, i3⟩ := i1
          have i1 : p + 1 ≤ q := i1
          have i2 : q ≤ T := i2
          cases w with
          | none => exact pK_n (by omega) i2
          | some e =>
            have i4 : p + 1 + szE e ≤ q := i3 e rfl
            have b1 := pB_le (TX := TX) (T := T) (d := g) (ih (g + 1)) i2
            revert b1
            show _ → pK TX T p (match pB TX T g (pR TX T F (g + 1)) q with | (none, q1) => (none, q1) | (some r1, q1) => _)
            generalize pB TX T g (pR TX T F (g + 1)) q = w1
            obtain ⟨w1, q1⟩ := w1
            intro b1
            obtain ⟨b1, b2, b3⟩ := b1
            have b1 : q ≤ q1 := b1
            have b2 : q1 ≤ T := b2
            cases w1 with
            | none => exact pK_n (by omega) b2
            | some r1 =>
              have b4 : q + 2 + szR r1 ≤ q1 := b3 r1 rfl
              have j1 := ih g q1 b2
              revert j1
              show _ → pK TX T p (match pR TX T F g q1 with | (none, q3) => (none, q3) | (some R, q3) => _)
              generalize pR TX T F g q1 = w3
              obtain ⟨w3, q3⟩ := w3
              intro j1
              obtain ⟨j1, j2, j3⟩ := j1
              have j1 : q1 ≤ q3 := j1
              have j2 : q3 ≤ T := j2
              cases w3 with
              | none => exact pK_n (by omega) j2
              | some R =>
                have j4 : q1 + szR R ≤ q3 := (j3 R rfl).1
                exact ⟨by show p ≤ q3; omega, j2, fun t ht => by obtain rfl := Option.some.inj ht; exact ⟨by rw [szR]; show p + (1 + szE e + (1 + szR r1) + szR R) ≤ q3; omega, (j3 R rfl).2⟩⟩
        · rw [if_neg c5]
          exact ⟨Nat.le_refl p, h, fun t ht => by obtain rfl := Option.some.inj ht; exact ⟨Nat.le_refl p, Bool.eq_false_iff.mpr c1, c4, c5⟩⟩
