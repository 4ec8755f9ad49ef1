/-! ===== the same code, in other arrays ===== -/
def sameC (C : Nat) (A A' : Nat → Nat → Int32) : Prop := ∀ k, k < C → A' 176 k = A 176 k ∧ A' 177 k = A 177 k
section SMC
variable {C : Nat} {A A' : Nat → Nat → Int32}
theorem sm_sy (h : sameC C A A') : sameC C A' A := fun k hk => ⟨(h k hk).1.symm, (h k hk).2.symm⟩
theorem sm_nx (h : sameC C A A') {k : Nat} (hk : k < C) (w : Int32) : r_nx A' k w = r_nx A k w := by
  unfold r_nx
  rw [(h k hk).1, (h k hk).2]
theorem sm_CEc (h : sameC C A A') {B B' : Nat → Prop} (hB : ∀ t, t < C → (B t → B' t)) {T : Nat → Prop} (r : CEc A C B T) : CEc A' C B' T := fun k hk hT w hw t ht he hb => r k hk hT w hw t ht (by rw [← sm_nx h hk]; exact he) (fun z => hb (hB t ht z))
theorem sm_CE (h : sameC C A A') {b : Nat} {wo : Int32} (r : CE A C b wo) : CE A' C b wo := ⟨r.1, fun T hT hc => by
  obtain ⟨e, e1, e2, e3⟩ := r.2 T hT (sm_CEc (sm_sy h) (fun _ _ z => z) hc)
  exact ⟨e, e1, e2, by rw [(h e e1).1]; exact e3⟩⟩
theorem sm_RG (h : sameC C A A') {B B' : Nat → Prop} (hB : ∀ t, t < C → (B t ↔ B' t)) {j k : Nat} (hj : j < C) (r : RG A C B j k) : RG A' C B' j k := fun T h1 h2 => r T (fun w hw t ht he hb => h1 w hw t ht (by rw [sm_nx h hj]; exact he) (fun z => hb ((hB t ht).mpr z))) (sm_CEc (sm_sy h) (fun t ht z => (hB t ht).mpr z) h2)
theorem sm_RGB (h : sameC C A A') {W W' : Nat → Int32} {j i : Nat} (hw : W' i = W i) (r : RGB A C W j i) : RGB A' C W' j i := ⟨r.1, by rw [hw]; exact r.2.1, fun z => r.2.2 (sm_CE (sm_sy h) z)⟩
theorem sm_RGR (h : sameC C A A') {W W' : Nat → Int32} (hw : ∀ k, k < C → W' k = W k) {j k : Nat} (hj : j < C) : RG A C (RGB A C W j) j k ↔ RG A' C (RGB A' C W' j) j k := ⟨sm_RG h (fun t ht => ⟨sm_RGB h (hw t ht), sm_RGB (sm_sy h) (hw t ht).symm⟩) hj, sm_RG (sm_sy h) (fun t ht => ⟨sm_RGB (sm_sy h) (hw t ht).symm, sm_RGB h (hw t ht)⟩) hj⟩
theorem sm_HG (h : sameC C A A') {W : Nat → Int32} (r : HG A C W) : HG A' C W := ⟨r.1, fun k hk h0 => by
  have q := r.2 k hk h0
  unfold HGk at q ⊢
  rw [(h k hk).1]
  exact ⟨q.1, q.2.1, q.2.2.1, fun w hw => by rw [sm_nx h hk]; exact q.2.2.2 w hw⟩⟩
theorem sm_HL (h : sameC C A A') {W : Nat → Int32} (r : HL A C W) : HL A' C W := ⟨sm_HG h r.1, r.2.1, fun V hV => r.2.2 V (sm_HG (sm_sy h) hV)⟩
theorem sm_PL (h : sameC C A A') (r : PL A C) : PL A' C := ⟨r.1, fun k hk => by rw [(h k hk).1, (h k hk).2]; exact r.2 k hk⟩
theorem sm_SH (h : sameC C A A') (r : SH A C) : SH A' C := by
  obtain ⟨h1, W, h2, h3⟩ := r
  exact ⟨r_pl_iff.mpr (sm_PL h (r_pl_iff.mp h1)), W, sm_HL h h2, fun j hj h0 => sm_CE h (h3 j hj h0)⟩
end SMC
theorem sm_VA {C : Nat} {A : Nat → Nat → Int32} {K E : Nat → Int32} (h : ∀ k, k < C → A 176 k = K k ∧ A 177 k = E k) : sameC C (VA K E) A := h
section SML
variable {C N : Nat} {J : Int32 → Int32 → Int32} {K E W en K' E' W' en' : Nat → Int32}
theorem sm_lft {h k : Nat} (h1 : K' k = K k) (h2 : E' k = E k) (R : Nat → Int32) : lft J K' E' h k R = lft J K E h k R := by
  unfold lft
  rw [h1, h2]
theorem sm_LSo (hk : ∀ k, k < C → K' k = K k ∧ E' k = E k ∧ W' k = W k) (he : ∀ v, v < 8 → en' v = en v) {Y : Nat → Nat → Int32} (r : LSo N J K E W en C Y) : LSo N J K' E' W' en' C Y := by
  have hs : sameC C (VA K E) (VA K' E') := fun k h => ⟨(hk k h).1, (hk k h).2.1⟩
  refine ⟨r.1, fun v hv => by rw [he v hv]; exact r.2.1 v hv, fun k h h0 => ?_⟩
  have q := r.2.2 k h (by rw [← (hk k h).2.2]; exact h0)
  have hw : hn W' k = hn W k := by unfold hn; rw [(hk k h).2.2]
  refine ⟨fun w hw2 t ht e a ha h8 => ?_, fun h7 m hm hr => ?_⟩
  · have ht2 : hn W' t = hn W t := by unfold hn; rw [(hk t ht).2.2]
    rw [hw, sm_lft (hk k h).1 (hk k h).2.1]
    exact q.1 w hw2 t ht (by rw [← sm_nx hs h]; exact e) a (by rw [← ht2]; exact ha) h8
  · rw [hw]
    exact q.2 (by rw [← (hk k h).1]; exact h7) m hm ((sm_RGR hs (fun k h => (hk k h).2.2) h).mpr hr)
theorem sm_LU (hk : ∀ k, k < C → K' k = K k ∧ E' k = E k ∧ W' k = W k) (he : ∀ v, v < 8 → en' v = en v) {Y : Nat → Nat → Int32} (r : LU N J K E W en C Y) : LU N J K' E' W' en' C Y := fun Z hZ k h h0 a ha => by
  have hw : hn W' k = hn W k := by unfold hn; rw [(hk k h).2.2]
  exact r Z (sm_LSo (fun k h => ⟨(hk k h).1.symm, (hk k h).2.1.symm, (hk k h).2.2.symm⟩) (fun v hv => (he v hv).symm) hZ) k h (by rw [← (hk k h).2.2]; exact h0) a (by rw [← hw]; exact ha)
/-- the least labels are one -/
theorem LS_one (hJ : SL N J) (h8 : ∀ k, k < C → 0 ≤ W k → hn W k ≤ 8) {Y Z : Nat → Nat → Int32} (a1 : LSo N J K E W en C Y) (a2 : LU N J K E W en C Y) (b1 : LSo N J K E W en C Z) (b2 : LU N J K E W en C Z) : ∀ k, k < C → 0 ≤ W k → ∀ a, a < 9 + hn W k → Y k a = Z k a := fun k hk h0 a ha => jle_as hJ (a1.1 k a hk (by have := h8 k hk h0; omega)) (b1.1 k a hk (by have := h8 k hk h0; omega)) (a2 Z b1 k hk h0 a ha) (b2 Y a1 k hk h0 a ha)
end SML
