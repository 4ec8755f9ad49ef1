/-! ===== THE CLAIM: nothing old is written ===== -/
theorem sb_nil {s V : State} {L : List Loc} {k n : Nat} (h : s.sameButNew V L k n) (hl : ∀ q ∈ L, s.heap.size ≤ q.base) : s.sameButNew V [] k n := by
  obtain ⟨h1, h2, h3, h4, h5, h6⟩ := h
  refine ⟨h1, h2, h3, h4, h5, fun a c hc => ?_⟩
  obtain ⟨c', q1, q2, q3, q4⟩ := h6 a c hc
  refine ⟨c', q1, q2, q3, fun i _ => q4 i (fun z => ?_)⟩
  have z1 : s.heap.size ≤ a := hl _ z
  have z2 := (Array.getElem?_eq_some_iff.mp hc).1
  omega
