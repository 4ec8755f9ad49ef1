def atS (x : Int32) : Bool := r_nm x || decide (x = 63) || decide (x = 42)
def pSt (TX : Nat → Int32) (T F g p : Nat) : Option (RT → RT) × Nat := if r_nm (hc TX T p) = true then pAs TX T ((hc TX T p).toNatClampNeg - 97) g (p + 1) else if hc TX T p = 63 then pCh TX T g (pR TX T F (g + 1)) (p + 1) else pLp TX T g (pR TX T F (g + 1)) (p + 1)
def pC (C : RT → RT) (w : Option RT × Nat) : Option RT × Nat := (w.1.map C, w.2)
def pM (x : Option (RT → RT) × Nat) (k : Nat → Option RT × Nat) : Option RT × Nat := match x with
  | (none, q) => (none, q)
  | (some S, q) => pC S (k q)
theorem pC_id (C : RT → RT) (h : ∀ R, C R = R) (w : Option RT × Nat) : pC C w = w := by
  obtain ⟨a, b⟩ := w
  cases a with
  | none => rfl
  | some t => exact congrArg (fun z => (some z, b)) (h t)
theorem pC_pC (C S : RT → RT) (w : Option RT × Nat) : pC C (pC S w) = pC (fun R => C (S R)) w := by
  obtain ⟨a, b⟩ := w
  cases a with
  | none => rfl
  | some t => rfl
theorem pR_no {TX : Nat → Int32} {T F g p : Nat} (h : atS (hc TX T p) = false) : pR TX T (F + 1) g p = (some rNo, p) := by
  have h1 : ¬ r_nm (hc TX T p) = true := fun z => by rw [atS, z] at h; exact absurd h (by simp)
  have h2 : ¬ hc TX T p = 63 := fun z => by rw [z] at h; exact absurd h (by decide)
  have h3 : ¬ hc TX T p = 42 := fun z => by rw [z] at h; exact absurd h (by decide)
  rw [pR, if_neg h1, if_neg h2, if_neg h3]
theorem pAs_2 {TX : Nat → Int32} {T v g p p1 p2 : Nat} (e1 : p1 = p + 1) (e2 : p2 = p1 + 1) : pAs TX T v g p1 = if hc TX T (p + 1) = 61 then
    match pE TX T 100 g p2 with
    | (none, q) => (none, q)
    | (some e, q) => if hc TX T q = 59 then (some (rAs v e), q + 1) else (none, q)
  else (none, p + 1) := by
  subst e2
  subst e1
  rfl
theorem pR_as {TX : Nat → Int32} {T F g p : Nat} (h1 : r_nm (hc TX T p) = true) : pR TX T (F + 1) g p = pM (pAs TX T ((hc TX T p).toNatClampNeg - 97) g (p + 1)) (pR TX T F g) := by
  rw [pAs_2 (p := p) (p1 := p + 1) (p2 := p + 2) rfl rfl, pR, if_pos h1]
  by_cases h2 : hc TX T (p + 1) = 61
  · rw [if_pos h2, if_pos h2]
    generalize pE TX T 100 g (p + 2) = w
    obtain ⟨w, q⟩ := w
    cases w with
    | none => rfl
    | some e =>
      by_cases h3 : hc TX T q = 59
      · simp only [if_pos h3, pM]
        cases hz : pR TX T F g (q + 1) with
        | mk z q2 =>
          cases z with
          | none => rfl
          | some R => rfl
      · simp only [if_neg h3, pM]
  · rw [if_neg h2, if_neg h2]
    rfl
theorem pR_ch {TX : Nat → Int32} {T F g p : Nat} (h1 : ¬ r_nm (hc TX T p) = true) (h2 : hc TX T p = 63) : pR TX T (F + 1) g p = pM (pCh TX T g (pR TX T F (g + 1)) (p + 1)) (pR TX T F g) := by
  rw [pR, if_neg h1, if_pos h2, pCh]
  generalize pE TX T 100 g (p + 1) = w
  obtain ⟨w, q⟩ := w
  cases w with
  | none => rfl
  | some e =>
    simp only []
    generalize pB TX T g (pR TX T F (g + 1)) q = b
    obtain ⟨b, q1⟩ := b
    cases b with
    | none => rfl
    | some r1 =>
      simp only []
      generalize pB TX T g (pR TX T F (g + 1)) q1 = b2
      obtain ⟨b2, q2⟩ := b2
      cases b2 with
      | none => rfl
      | some r2 =>
        simp only [pM]
        cases hz : pR TX T F g q2 with
        | mk z q3 =>
          cases z with
          | none => rfl
          | some R => rfl
theorem pR_lp {TX : Nat → Int32} {T F g p : Nat} (h1 : ¬ r_nm (hc TX T p) = true) (h2 : ¬ hc TX T p = 63) (h3 : hc TX T p = 42) : pR TX T (F + 1) g p = pM (pLp TX T g (pR TX T F (g + 1)) (p + 1)) (pR TX T F g) := by
  rw [pR, if_neg h1, if_neg h2, if_pos h3, pLp]
  generalize pE TX T 100 g (p + 1) = w
  obtain ⟨w, q⟩ := w
  cases w with
  | none => rfl
  | some e =>
    simp only []
    generalize pB TX T g (pR TX T F (g + 1)) q = b
    obtain ⟨b, q1⟩ := b
    cases b with
    | none => rfl
    | some r1 =>
      simp only [pM]
      cases hz : pR TX T F g q1 with
      | mk z q3 =>
        cases z with
        | none => rfl
        | some R => rfl
theorem pR_st {TX : Nat → Int32} {T F g p : Nat} (h : atS (hc TX T p) = true) : pR TX T (F + 1) g p = pM (pSt TX T F g p) (pR TX T F g) := by
  rw [pSt]
  by_cases h1 : r_nm (hc TX T p) = true
  · rw [if_pos h1, pR_as h1]
  · rw [if_neg h1]
    by_cases h2 : hc TX T p = 63
    · rw [if_pos h2, pR_ch h1 h2]
    · have h3 : hc TX T p = 42 := by
        by_cases h3 : hc TX T p = 42
        · exact h3
        · rw [atS, Bool.eq_false_iff.mpr h1, decide_eq_false h2, decide_eq_false h3] at h
          exact absurd h (by decide)
      rw [if_neg h2, pR_lp h1 h2 h3]
