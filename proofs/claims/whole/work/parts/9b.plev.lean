/-! ===== levels: the class's and the reference's are the same ===== -/
theorem cb_r {w : Int64} {N i j : Nat} (hN : N ≤ 6) (hi : i < N) (hj : j < N) : cbit w (6 * i + j) = r_nb w (6 * i + j) := by
  rw [cbit_b (by omega), rnb_b (by omega)]
def LE (nb : Nat → Bool) (i j : Nat) : Prop := nb (6 * i + j) = true
/-- an order on the levels below N -/
def ORD (nb : Nat → Bool) (N : Nat) : Prop := (∀ a, a < N → LE nb a a) ∧ (∀ a b, a < N → b < N → LE nb a b → LE nb b a → a = b) ∧ ∀ a b c, a < N → b < N → c < N → LE nb a b → LE nb b c → LE nb a c
theorem r_ord_iff {nb : Nat → Bool} {N : Nat} : r_ord nb N = true ↔ ORD nb N := by
  unfold r_ord
  rw [allF_iff]
  constructor
  · intro h
    have h1 : ∀ a, a < N → nb (7 * a) = true ∧ ∀ b, b < N → (a = b ∨ ¬ (LE nb a b ∧ LE nb b a)) ∧ ∀ c, c < N → LE nb a b → LE nb b c → LE nb a c := fun a ha => by
      have q := h a (by omega) (by omega)
      unfold r_oa at q
      rw [Bool.and_eq_true, allF_iff] at q
      refine ⟨q.1, fun b hb => ?_⟩
      have q2 := q.2 b (by omega) (by omega)
      unfold r_ob at q2
      rw [Bool.and_eq_true, allF_iff] at q2
      refine ⟨?_, fun c hc z1 z2 => ?_⟩
      · have q3 := q2.1
        rw [Bool.or_eq_true] at q3
        rcases q3 with q3 | q3
        · exact Or.inl (of_decide_eq_true q3)
        · exact Or.inr (fun z => by rw [show nb (6 * a + b) = true from z.1, show nb (6 * b + a) = true from z.2] at q3; exact absurd q3 (by decide))
      · have q3 := q2.2 c (by omega) (by omega)
        unfold r_oc at q3
        rw [show nb (6 * a + b) = true from z1, show nb (6 * b + c) = true from z2] at q3
        exact q3
    refine ⟨fun a ha => ?_, fun a b ha hb z1 z2 => ?_, fun a b c ha hb hc z1 z2 => ((h1 a ha).2 b hb).2 c hc z1 z2⟩
    · have := (h1 a ha).1
      rw [show 7 * a = 6 * a + a by omega] at this
      exact this
    · rcases ((h1 a ha).2 b hb).1 with q | q
      · exact q
      · exact absurd ⟨z1, z2⟩ q
  · intro h a _ ha
    have ha : a < N := by omega
    unfold r_oa
    rw [Bool.and_eq_true, allF_iff]
    refine ⟨by rw [show 7 * a = 6 * a + a by omega]; exact h.1 a ha, fun b _ hb => ?_⟩
    have hb : b < N := by omega
    unfold r_ob
    rw [Bool.and_eq_true, allF_iff]
    refine ⟨?_, fun c _ hc => ?_⟩
    · rw [Bool.or_eq_true]
      by_cases q : a = b
      · exact Or.inl (decide_eq_true q)
      · refine Or.inr ?_
        cases z1 : nb (6 * a + b) with
        | false => rfl
        | true =>
          cases z2 : nb (6 * b + a) with
          | false => rfl
          | true => exact absurd (h.2.1 a b ha hb z1 z2) q
    · have hc : c < N := by omega
      unfold r_oc
      cases z1 : nb (6 * a + b) with
      | false => rfl
      | true =>
        cases z2 : nb (6 * b + c) with
        | false => rfl
        | true => exact h.2.2 a b c ha hb hc z1 z2
theorem cord_iff {w : Int64} {N : Nat} : cord w N = true ↔ ORD (cbit w) N := by
  unfold cord
  rw [allF_iff]
  constructor
  · intro h
    have h1 : ∀ a, a < N → LE (cbit w) a a ∧ ∀ b, b < N → a = b ∨ ¬ LE (cbit w) a b ∨ (¬ LE (cbit w) b a ∧ ∀ c, c < N → LE (cbit w) b c → LE (cbit w) a c) := fun a ha => by
      have q := h a (by omega) (by omega)
      unfold coa at q
      rw [Bool.and_eq_true, allF_iff] at q
      refine ⟨q.1, fun b hb => ?_⟩
      have q2 := q.2 b (by omega) (by omega)
      unfold cob at q2
      rw [Bool.or_eq_true, Bool.or_eq_true, Bool.and_eq_true, allF_iff] at q2
      rcases q2 with (q2 | q2) | q2
      · exact Or.inl (of_decide_eq_true q2)
      · exact Or.inr (Or.inl (fun z => by rw [show cbit w (6 * a + b) = true from z] at q2; exact absurd q2 (by decide)))
      · refine Or.inr (Or.inr ⟨fun z => by have q3 := q2.1; rw [show cbit w (6 * b + a) = true from z] at q3; exact absurd q3 (by decide), fun c hc z => ?_⟩)
        have q3 := q2.2 c (by omega) (by omega)
        unfold cpo at q3
        rw [show cbit w (6 * b + c) = true from z] at q3
        exact q3
    refine ⟨fun a ha => (h1 a ha).1, fun a b ha hb z1 z2 => ?_, fun a b c ha hb hc z1 z2 => ?_⟩
    · rcases (h1 a ha).2 b hb with q | q | q
      · exact q
      · exact absurd z1 q
      · exact absurd z2 q.1
    · rcases (h1 a ha).2 b hb with q | q | q
      · rw [q]; exact z2
      · exact absurd z1 q
      · exact q.2 c hc z2
  · intro h a _ ha
    have ha : a < N := by omega
    unfold coa
    rw [Bool.and_eq_true, allF_iff]
    refine ⟨h.1 a ha, fun b _ hb => ?_⟩
    have hb : b < N := by omega
    unfold cob
    rw [Bool.or_eq_true, Bool.or_eq_true, Bool.and_eq_true, allF_iff]
    by_cases q : a = b
    · exact Or.inl (Or.inl (decide_eq_true q))
    · cases z1 : cbit w (6 * a + b) with
      | false => exact Or.inl (Or.inr rfl)
      | true =>
        refine Or.inr ⟨?_, fun c _ hc => ?_⟩
        · cases z2 : cbit w (6 * b + a) with
          | false => rfl
          | true => exact absurd (h.2.1 a b ha hb z1 z2) q
        · have hc : c < N := by omega
          unfold cpo
          cases z2 : cbit w (6 * b + c) with
          | false => rfl
          | true => exact h.2.2 a b c ha hb hc z1 z2
theorem ORD_cg {nb nb' : Nat → Bool} {N : Nat} (h : ∀ i j, i < N → j < N → nb (6 * i + j) = nb' (6 * i + j)) (r : ORD nb N) : ORD nb' N := by
  have e : ∀ i j, i < N → j < N → (LE nb' i j ↔ LE nb i j) := fun i j hi hj => by unfold LE; rw [h i j hi hj]
  exact ⟨fun a ha => (e a a ha ha).mpr (r.1 a ha), fun a b ha hb z1 z2 => r.2.1 a b ha hb ((e a b ha hb).mp z1) ((e b a hb ha).mp z2), fun a b c ha hb hc z1 z2 => (e a c ha hc).mpr (r.2.2 a b c ha hb hc ((e a b ha hb).mp z1) ((e b c hb hc).mp z2))⟩
theorem cord_r {w : Int64} {N : Nat} (hN : N ≤ 6) : cord w N = r_ord (r_nb w) N := by
  rw [Bool.eq_iff_iff, cord_iff, r_ord_iff]
  exact ⟨ORD_cg (fun i j hi hj => cb_r hN hi hj), ORD_cg (fun i j hi hj => (cb_r hN hi hj).symm)⟩
theorem ft_cg {nb nb' : Nat → Bool} {N : Nat} {t : Bool} (h : ∀ i j, i < N → j < N → nb (6 * i + j) = nb' (6 * i + j)) : ∀ i j, i < N → j < N → r_ft nb i j t = r_ft nb' i j t := fun i j hi hj => by
  unfold r_ft
  rw [h i j hi hj, h j i hj hi]
theorem lat_cg {nb nb' : Nat → Bool} {N : Nat} (h : ∀ i j, i < N → j < N → nb (6 * i + j) = nb' (6 * i + j)) : r_lat nb N = r_lat nb' N := by
  unfold r_lat
  refine allF_cg N 0 (fun a _ ha => ?_)
  unfold r_la
  refine allF_cg N 0 (fun b _ hb => ?_)
  unfold r_lb
  rw [fstF_cg N 0 (q := r_isB nb' N a b false) (fun c _ hc => r_isB_cg (by omega) (by omega) (by omega) (ft_cg h)), fstF_cg N 0 (q := r_isB nb' N a b true) (fun c _ hc => r_isB_cg (by omega) (by omega) (by omega) (ft_cg h))]
theorem lat_r {w : Int64} {N : Nat} (hN : N ≤ 6) : r_lat (cbit w) N = r_lat (r_nb w) N := lat_cg (fun i j hi hj => cb_r hN hi hj)
theorem bd_r {w : Int64} {N i j : Nat} {t : Bool} (hN : N ≤ 6) (hi : i < N) (hj : j < N) : r_bd (cbit w) N i j t = r_bd (r_nb w) N i j t := r_bd_cg hi hj (ft_cg (fun i j hi hj => cb_r hN hi hj))
/-- levels N in the order nb -/
def LVs (nb : Nat → Bool) (N : Nat) : Prop := 0 < N ∧ N ≤ 6 ∧ ORD nb N ∧ r_lat nb N = true
abbrev jn (nb : Nat → Bool) (N i j : Nat) : Nat := r_bdN nb N i j false
section LEV
variable {nb : Nat → Bool} {N : Nat}
theorem bd_sp (h : LVs nb N) {a b : Nat} (ha : a < N) (hb : b < N) (t : Bool) : r_bdN nb N a b t < N ∧ r_ft nb a (r_bdN nb N a b t) t = true ∧ r_ft nb b (r_bdN nb N a b t) t = true ∧ ∀ e, e < N → r_ft nb a e t = true → r_ft nb b e t = true → r_ft nb (r_bdN nb N a b t) e t = true := by
  obtain ⟨c, h1, h2⟩ := r_lat_some h.2.2.2 ha hb t
  have e : r_bdN nb N a b t = c := by unfold r_bdN; rw [h2]; rfl
  rw [e]
  have h3 := (fstF_lt h2).2.2
  unfold r_isB at h3
  rw [Bool.and_eq_true, Bool.and_eq_true, allF_iff] at h3
  refine ⟨h1, h3.1.1, h3.1.2, fun e he z1 z2 => ?_⟩
  have h4 := h3.2 e (by omega) (by omega)
  unfold r_bq at h4
  rw [z1, z2] at h4
  exact h4
theorem jn_lt (h : LVs nb N) {a b : Nat} (ha : a < N) (hb : b < N) : jn nb N a b < N := (bd_sp h ha hb false).1
theorem jn_1 (h : LVs nb N) {a b : Nat} (ha : a < N) (hb : b < N) : LE nb a (jn nb N a b) := (bd_sp h ha hb false).2.1
theorem jn_2 (h : LVs nb N) {a b : Nat} (ha : a < N) (hb : b < N) : LE nb b (jn nb N a b) := (bd_sp h ha hb false).2.2.1
theorem jn_3 (h : LVs nb N) {a b e : Nat} (ha : a < N) (hb : b < N) (he : e < N) (z1 : LE nb a e) (z2 : LE nb b e) : LE nb (jn nb N a b) e := (bd_sp h ha hb false).2.2.2 e he z1 z2
theorem jn_eq (h : LVs nb N) {a b : Nat} (ha : a < N) (hb : b < N) (z : LE nb a b) : jn nb N a b = b := h.2.2.1.2.1 _ _ (jn_lt h ha hb) hb (jn_3 h ha hb hb z (h.2.2.1.1 b hb)) (jn_2 h ha hb)
theorem jn_id (h : LVs nb N) {a : Nat} (ha : a < N) : jn nb N a a = a := jn_eq h ha ha (h.2.2.1.1 a ha)
theorem jn_cm (h : LVs nb N) {a b : Nat} (ha : a < N) (hb : b < N) : jn nb N a b = jn nb N b a := h.2.2.1.2.1 _ _ (jn_lt h ha hb) (jn_lt h hb ha) (jn_3 h ha hb (jn_lt h hb ha) (jn_2 h hb ha) (jn_1 h hb ha)) (jn_3 h hb ha (jn_lt h ha hb) (jn_2 h ha hb) (jn_1 h ha hb))
theorem jn_as (h : LVs nb N) {a b c : Nat} (ha : a < N) (hb : b < N) (hc : c < N) : jn nb N (jn nb N a b) c = jn nb N a (jn nb N b c) := by
  have h1 := jn_lt h ha hb
  have h2 := jn_lt h hb hc
  have h3 := jn_lt h h1 hc
  have h4 := jn_lt h ha h2
  have tr := h.2.2.1.2.2
  refine h.2.2.1.2.1 _ _ h3 h4 (jn_3 h h1 hc h4 (jn_3 h ha hb h4 (jn_1 h ha h2) (tr _ _ _ hb h2 h4 (jn_1 h hb hc) (jn_2 h ha h2))) (tr _ _ _ hc h2 h4 (jn_2 h hb hc) (jn_2 h ha h2))) (jn_3 h ha h2 h3 (tr _ _ _ ha h1 h3 (jn_1 h ha hb) (jn_1 h h1 hc)) (jn_3 h hb hc h3 (tr _ _ _ hb h1 h3 (jn_2 h ha hb) (jn_1 h h1 hc)) (jn_2 h h1 hc)))
/-- a table of joins -/
def JT (nb : Nat → Bool) (N : Nat) (T2 : Nat → Int32) : Prop := ∀ i j, i < N → j < N → T2 (6 * i + j) = nI (jn nb N i j)
theorem jT_n {T2 : Nat → Int32} (hT : JT nb N T2) (hN : N ≤ 6) {i j : Nat} (hi : i < N) (hj : j < N) : jT T2 (nI i) (nI j) = nI (jn nb N i j) := by
  unfold jT
  rw [nI_clamp (by omega), nI_clamp (by omega)]
  exact hT i j hi hj
theorem SL_of (h : LVs nb N) {T2 : Nat → Int32} (hT : JT nb N T2) : SL N (jT T2) := by
  refine ⟨?_, ?_, ?_, ?_⟩
  · rintro x y ⟨i, hi, rfl⟩ ⟨j, hj, rfl⟩
    exact ⟨_, jn_lt h hi hj, jT_n hT h.2.1 hi hj⟩
  · rintro x ⟨i, hi, rfl⟩
    rw [jT_n hT h.2.1 hi hi, jn_id h hi]
  · rintro x y ⟨i, hi, rfl⟩ ⟨j, hj, rfl⟩
    rw [jT_n hT h.2.1 hi hj, jT_n hT h.2.1 hj hi, jn_cm h hi hj]
  · rintro x y z ⟨i, hi, rfl⟩ ⟨j, hj, rfl⟩ ⟨k, hk, rfl⟩
    rw [jT_n hT h.2.1 hi hj, jT_n hT h.2.1 (jn_lt h hi hj) hk, jT_n hT h.2.1 hj hk, jT_n hT h.2.1 hi (jn_lt h hj hk), jn_as h hi hj hk]
theorem bot_lo (h : LVs nb N) : ∀ k, k ≤ N → r_bot nb N k < N ∧ ∀ i, i < k → LE nb (r_bot nb N k) i
  | 0, _ => ⟨h.1, fun i hi => absurd hi (by omega)⟩
  | k + 1, hk => by
    obtain ⟨h1, h2⟩ := bot_lo h k (by omega)
    obtain ⟨s1, s2, s3, _⟩ := bd_sp h h1 (show k < N by omega) true
    refine ⟨s1, fun i hi => ?_⟩
    show LE nb (r_bdN nb N (r_bot nb N k) k true) i
    by_cases c : i = k
    · rw [c]; exact s3
    · exact h.2.2.1.2.2 _ _ _ s1 h1 (by omega) s2 (h2 i (by omega))
theorem top_hi (h : LVs nb N) : ∀ k, k ≤ N → r_top nb N k < N ∧ ∀ i, i < k → LE nb i (r_top nb N k)
  | 0, _ => ⟨h.1, fun i hi => absurd hi (by omega)⟩
  | k + 1, hk => by
    obtain ⟨h1, h2⟩ := top_hi h k (by omega)
    obtain ⟨s1, s2, s3, _⟩ := bd_sp h h1 (show k < N by omega) false
    refine ⟨s1, fun i hi => ?_⟩
    show LE nb i (r_bdN nb N (r_top nb N k) k false)
    by_cases c : i = k
    · rw [c]; exact s3
    · exact h.2.2.1.2.2 _ _ _ (by omega) h1 s1 (h2 i (by omega)) s2
theorem bo_j (h : LVs nb N) {T2 : Nat → Int32} (hT : JT nb N T2) {x : Int32} (hx : lv N x) : jT T2 (nI (r_bot nb N N)) x = x := by
  obtain ⟨i, hi, rfl⟩ := hx
  have hb := bot_lo h N (Nat.le_refl N)
  rw [jT_n hT h.2.1 hb.1 hi, jn_eq h hb.1 hi (hb.2 i hi)]
end LEV
theorem cLo_bo {w : Int64} {N bo : Nat} (hO : ORD (cbit w) N) (hbo : bo < N) (hl : ∀ i, i < N → LE (cbit w) bo i) : ∀ a, a ≤ N → cLo w a < N ∧ (bo < a → cLo w a = bo)
  | 0, _ => ⟨by show 0 < N; omega, fun h => absurd h (by omega)⟩
  | a + 1, ha => by
    obtain ⟨h1, h2⟩ := cLo_bo hO hbo hl a (by omega)
    unfold cLo
    by_cases c : cbit w (6 * a + cLo w a) = true
    · rw [if_pos c]
      refine ⟨by omega, fun hb => ?_⟩
      by_cases e : a = bo
      · exact e
      · rw [h2 (by omega)] at c
        exact hO.2.1 a bo (by omega) hbo c (hl a (by omega))
    · rw [if_neg c]
      refine ⟨h1, fun hb => ?_⟩
      by_cases e : a = bo
      · rw [e] at c h1
        exact absurd (hl _ h1) c
      · exact h2 (by omega)
theorem cHi_to {w : Int64} {N to : Nat} (hO : ORD (cbit w) N) (hto : to < N) (hl : ∀ i, i < N → LE (cbit w) i to) : ∀ a, a ≤ N → cHi w a < N ∧ (to < a → cHi w a = to)
  | 0, _ => ⟨by show 0 < N; omega, fun h => absurd h (by omega)⟩
  | a + 1, ha => by
    obtain ⟨h1, h2⟩ := cHi_to hO hto hl a (by omega)
    unfold cHi
    by_cases c : cbit w (6 * cHi w a + a) = true
    · rw [if_pos c]
      refine ⟨by omega, fun hb => ?_⟩
      by_cases e : a = to
      · exact e
      · rw [h2 (by omega)] at c
        exact hO.2.1 a to (by omega) hto (hl a (by omega)) c
    · rw [if_neg c]
      refine ⟨h1, fun hb => ?_⟩
      by_cases e : a = to
      · rw [e] at c h1
        exact absurd (hl _ h1) c
      · exact h2 (by omega)
theorem cLo_r {w : Int64} {N : Nat} (h : LVs (r_nb w) N) : cLo w N = r_bot (r_nb w) N N := by
  have e : ∀ i j, i < N → j < N → r_nb w (6 * i + j) = cbit w (6 * i + j) := fun i j hi hj => (cb_r h.2.1 hi hj).symm
  have hb := bot_lo h N (Nat.le_refl N)
  exact (cLo_bo (ORD_cg e h.2.2.1) hb.1 (fun i hi => by unfold LE; rw [← e _ _ hb.1 hi]; exact hb.2 i hi) N (Nat.le_refl N)).2 hb.1
theorem cHi_r {w : Int64} {N : Nat} (h : LVs (r_nb w) N) : cHi w N = r_top (r_nb w) N N := by
  have e : ∀ i j, i < N → j < N → r_nb w (6 * i + j) = cbit w (6 * i + j) := fun i j hi hj => (cb_r h.2.1 hi hj).symm
  have hb := top_hi h N (Nat.le_refl N)
  exact (cHi_to (ORD_cg e h.2.2.1) hb.1 (fun i hi => by unfold LE; rw [← e _ _ hi hb.1]; exact hb.2 i hi) N (Nat.le_refl N)).2 hb.1
theorem bJ_JT {w : Int64} {N : Nat} (h : LVs (r_nb w) N) {J : Nat → Int32} (hJ : bJ w N N 0 J) : JT (r_nb w) N J := fun i j hi hj => by
  rw [hJ i j hi hj (Or.inl hi), bd_r h.2.1 hi hj, (r_bdN_lat h.2.2.2 hi hj false).2]
theorem jnF_JT {w : Int64} {N : Nat} (h : LVs (r_nb w) N) {g : Nat → Int32} : JT (r_nb w) N (fillF (r_jnF w N) g 36) := fun i j hi hj => by
  have h6 := h.2.1
  rw [fill_lt (by omega), r_jnF, show (6 * i + j) / 6 = i by omega, show (6 * i + j) % 6 = j by omega, if_pos ⟨hi, hj⟩, (r_bdN_lat h.2.2.2 hi hj false).2]
