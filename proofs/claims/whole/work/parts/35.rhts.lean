/-! ===== THE REFERENCE: heights: heights, pile, how many wait ===== -/
def hA (A : Nat → Nat → Int32) (S P : Nat → Int32) : Nat → Nat → Int32 := va_up (va_up A 178 S) 180 P
def hbad (C : Nat) (E : DS) (t h : Int32) : Bool := decide (nI C ≤ t ∨ (0 ≤ t ∧ 0 ≤ E.1 t.toNatClampNeg ∧ ¬ E.1 t.toNatClampNeg = h))
def hpsh (E : DS) (t h : Int32) : DS := if 0 ≤ t ∧ E.1 t.toNatClampNeg < 0 then (upd E.1 t.toNatClampNeg h, upd E.2.1 E.2.2 t, E.2.2 + 1) else E
def hlow (A : Nat → Nat → Int32) (E : DS) : Int32 := E.1 (dtop E) - r_tb (A 176 (dtop E))
def haft (A : Nat → Nat → Int32) (E : DS) : Int32 := hlow A E + r_gb (A 176 (dtop E))
def hno (A : Nat → Nat → Int32) (E : DS) : Bool := decide (hlow A E < 0 ∨ 8 < haft A E ∨ (A 176 (dtop E) = 9 ∧ 0 < hlow A E))
def hp1 (A : Nat → Nat → Int32) (E : DS) : DS := hpsh (dpop E) (r_nx A (dtop E) (nI 0)) (haft A E)
def hrn (A : Nat → Nat → Int32) (C : Nat) : Nat → DS → Bool × DS
  | 0, E => (false, E)
  | c + 1, E => if E.2.2 = 0 then (true, E) else if hno A E = true then (false, dpop E) else if hbad C (dpop E) (r_nx A (dtop E) (nI 0)) (haft A E) = true then (false, dpop E) else
    if hbad C (hp1 A E) (r_nx A (dtop E) (nI 1)) (haft A E) = true then (false, hp1 A E) else hrn A C c (hpsh (hp1 A E) (r_nx A (dtop E) (nI 1)) (haft A E))
def unh (S : Nat → Int32) : Nat → Nat
  | 0 => 0
  | c + 1 => unh S c + (if S c < 0 then 1 else 0)
theorem unh_le (S : Nat → Int32) : ∀ c, unh S c ≤ c
  | 0 => Nat.le_refl 0
  | c + 1 => by
    have := unh_le S c
    rw [unh]
    split <;> omega
theorem unh_ge {S : Nat → Int32} {t : Nat} {x : Int32} : ∀ c, c ≤ t → unh (upd S t x) c = unh S c
  | 0, _ => rfl
  | c + 1, h => by
    have e : upd S t x c = S c := by
      unfold upd
      rw [if_neg (by omega)]
    rw [unh, unh, unh_ge c (by omega), e]
theorem unh_up {S : Nat → Int32} {t : Nat} {x : Int32} (hx : ¬ x < 0) (h0 : S t < 0) : ∀ c, t < c → unh (upd S t x) c + 1 = unh S c
  | 0, h => absurd h (by omega)
  | c + 1, h => by
    rw [unh, unh]
    by_cases e : c = t
    · subst e
      have h2 : upd S c x c = x := by
        unfold upd
        rw [if_pos rfl]
      rw [unh_ge c (Nat.le_refl c), if_pos h0, h2, if_neg hx]
    · have h1 := unh_up hx h0 c (by omega)
      have h2 : upd S t x c = S c := by
        unfold upd
        rw [if_neg e]
      rw [h2]
      omega
/-- what waits has a height -/
def HOK (C : Nat) (E : DS) : Prop := E.2.2 + unh E.1 C ≤ C ∧ ∀ i, i < E.2.2 → ∃ m h, m < C ∧ E.2.1 i = nI m ∧ h ≤ 8 ∧ E.1 m = nI h
theorem tb_3 (w : Int32) : r_tb w = 0 ∨ r_tb w = 1 ∨ r_tb w = 2 := by
  unfold r_tb
  split
  · exact Or.inr (Or.inl rfl)
  · split
    · exact Or.inr (Or.inr rfl)
    · exact Or.inl rfl
theorem gb_2 (w : Int32) : r_gb w = 0 ∨ r_gb w = 1 := by
  unfold r_gb
  split
  · exact Or.inr rfl
  · exact Or.inl rfl
theorem hq_a : ∀ h : Fin 9, ∀ t : Fin 3, ∀ g : Fin 2, ¬ nI h.val - nI t.val < 0 → ¬ 8 < nI h.val - nI t.val + nI g.val → t.val ≤ h.val ∧ h.val - t.val + g.val ≤ 8 ∧ nI h.val - nI t.val = nI (h.val - t.val) ∧ nI h.val - nI t.val + nI g.val = nI (h.val - t.val + g.val) := by decide
theorem hq_1 {h : Nat} {w : Int32} (h8 : h ≤ 8) (h0 : ¬ nI h - r_tb w < 0) (h1 : ¬ 8 < nI h - r_tb w + r_gb w) : ∃ t g, r_tb w = nI t ∧ r_gb w = nI g ∧ g ≤ 1 ∧ t ≤ 2 ∧ t ≤ h ∧ h - t + g ≤ 8 ∧ nI h - r_tb w = nI (h - t) ∧ nI h - r_tb w + r_gb w = nI (h - t + g) := by
  obtain ⟨t, ht, e1⟩ : ∃ t : Nat, t < 3 ∧ r_tb w = nI t := by
    rcases tb_3 w with q | q | q
    · exact ⟨0, by omega, q⟩
    · exact ⟨1, by omega, q⟩
    · exact ⟨2, by omega, q⟩
  obtain ⟨g, hg, e2⟩ : ∃ g : Nat, g < 2 ∧ r_gb w = nI g := by
    rcases gb_2 w with q | q
    · exact ⟨0, by omega, q⟩
    · exact ⟨1, by omega, q⟩
  rw [e1] at h0 h1 ⊢
  rw [e2] at h1 ⊢
  obtain ⟨a1, a2, a3, a4⟩ := hq_a ⟨h, by omega⟩ ⟨t, ht⟩ ⟨g, hg⟩ h0 h1
  exact ⟨t, g, rfl, rfl, by omega, by omega, a1, a2, a3, a4⟩
theorem hpsh_ok {C : Nat} {E : DS} {t : Int32} {q : Nat} (hC : C ≤ 100) (hq : q ≤ 8) (hE : HOK C E) (hb : hbad C E t (nI q) = false) : HOK C (hpsh E t (nI q)) ∧ (hpsh E t (nI q)).2.2 + unh (hpsh E t (nI q)).1 C = E.2.2 + unh E.1 C := by
  have hb : ¬ (nI C ≤ t ∨ (0 ≤ t ∧ 0 ≤ E.1 t.toNatClampNeg ∧ ¬ E.1 t.toNatClampNeg = nI q)) := of_decide_eq_false hb
  unfold hpsh
  by_cases z : 0 ≤ t ∧ E.1 t.toNatClampNeg < 0
  · rw [if_pos z]
    obtain ⟨m, hm, rfl⟩ := i32_lt (show ¬ t < 0 by grind) (fun q => hb (Or.inl q)) (by omega)
    rw [nI_clamp (by omega)] at z ⊢
    have h1 := unh_up (S := E.1) (i32_nlt0 (m := q) (by omega)) z.2 C hm
    have h2 := hE.1
    refine ⟨⟨by show E.2.2 + 1 + unh (upd E.1 m (nI q)) C ≤ C; omega, fun i hi => ?_⟩, by show E.2.2 + 1 + unh (upd E.1 m (nI q)) C = _; omega⟩
    by_cases e : i = E.2.2
    · exact ⟨m, q, hm, by show upd _ _ _ _ = _; unfold upd; rw [if_pos e], hq, by show upd _ _ _ _ = _; unfold upd; rw [if_pos rfl]⟩
    · obtain ⟨k, h, hk, he, h8, hh⟩ := hE.2 i (by have : i < E.2.2 + 1 := hi; omega)
      refine ⟨k, h, hk, by show upd _ _ _ _ = _; unfold upd; rw [if_neg e]; exact he, h8, ?_⟩
      show upd _ _ _ _ = _
      unfold upd
      rw [if_neg ?_]
      · exact hh
      · intro e2
        subst e2
        rw [hh] at z
        exact absurd z.2 (i32_nlt0 (by omega))
  · rw [if_neg z]
    exact ⟨hE, rfl⟩
theorem htop_ok {C : Nat} {E : DS} (hC : C ≤ 100) (hE : HOK C E) (h0 : ¬ E.2.2 = 0) : dtop E < C ∧ E.2.1 (E.2.2 - 1) = nI (dtop E) ∧ ∃ h, h ≤ 8 ∧ E.1 (dtop E) = nI h := by
  obtain ⟨m, h, hm, he, h8, hh⟩ := hE.2 (E.2.2 - 1) (by omega)
  have e : dtop E = m := by
    unfold dtop
    rw [he, nI_clamp (by omega)]
  rw [e]
  exact ⟨hm, he, h, h8, hh⟩
theorem hpop_ok {C : Nat} {E : DS} (hE : HOK C E) : HOK C (dpop E) := ⟨by have := hE.1; show E.2.2 - 1 + unh E.1 C ≤ C; omega, fun i hi => hE.2 i (by have : i < E.2.2 - 1 := hi; omega)⟩
theorem hA_2 (A : Nat → Nat → Int32) (S P S' P' : Nat → Int32) : va_up (va_up (hA A S P) 178 S') 180 P' = hA A S' P' := by
  unfold hA
  rw [vu_so _ (show 178 < 180 by decide), vu_up, vu_up]
def h0s (A : Nat → Nat → Int32) (C : Nat) : DS := (upd (fillF (fun _ => -1) (A 178) C) 0 0, upd (A 180) 0 0, 1)
def r_hts (A : Nat → Nat → Int32) (C : Nat) : Bool × DS := hrn A C (C + 1) (h0s A C)
set_option maxRecDepth 100000 in
theorem l_X12_hg1 {l : Launch} {D : va_G} {cy : Nat → ClassId} {d n : Nat} {f : sw_F} {s : Nat → Int32} {A : Nat → Nat → Int32} (hd : 1 ≤ d) {C : Nat} (hC : s 36 = nI C) (hCb : C ≤ 100) {E : DS} {k w q : Nat} (hk : k < 100) (hq : q ≤ 8) (hn : E.2.2 ≤ 100) {Q : sw_Q} {QX : sw_QX} (KB : hbad C E (r_nx A k (nI w)) (nI q) = true → Q (some (.int 0)) n (md f s (hA A (E).1 (E).2.1))) (K : hbad C E (r_nx A k (nI w)) (nI q) = false → SW l D cy mX12_heights d 0 0 0 0 122 [(0, .ref 150), (1, .int (nI (hpsh E (r_nx A k (nI w)) (nI q)).2.2)), (2, .int (nI k)), (3, .int (nI q)), (4, .int (nI (w + 1)))] [] n (md f s (hA A (hpsh E (r_nx A k (nI w)) (nI q)).1 (hpsh E (r_nx A k (nI w)) (nI q)).2.1)) Q QX) : SW l D cy mX12_heights d 0 0 0 0 128 [(0, .ref 150), (1, .int (nI E.2.2)), (2, .int (nI k)), (3, .int (nI q)), (4, .int (nI w))] [] n (md f s (hA A (E).1 (E).2.1)) Q QX := by
  refine sw_aload_n dX12_heights_128 rfl (by first | rfl | assumption) ?_
  refine sw_iload_n dX12_heights_129 rfl ?_
  refine sw_iload dX12_heights_130 rfl ?_
  refine sw_Vv dX12_heights_132 k_X12_266 mf_X12_nextOf (c_X12_nextOf (d := d - 1) hk (nI w)) rfl ⟨_, rfl, rfl⟩ (by omega) (by omega) (by omega) rfl rfl (Nat.le_of_ble_eq_true rfl) ?_
  refine sw_top (y := r_nx A k (nI w)) rfl ?_
  refine sw_istore [(0, _), (1, _), (2, _), (3, _), (4, _), (5, _)] dX12_heights_135 (by decide) rfl ?_
  refine sw_iload dX12_heights_137 rfl ?_
  refine sw_aload_n dX12_heights_139 rfl (by first | rfl | assumption) ?_
  refine sw_get dX12_heights_140 fr_X12_251 rfl rfl ?_
  refine sw_top hC ?_
  refine sw_icmp_ge 172 dX12_heights_143 (by decide) (fun h143 => ?_) (fun h143 => ?_)
  · refine sw_iconst (x := 0) dX12_heights_172 (by decide) ?_
    exact sw_iret dX12_heights_173 rfl (by first | rfl | exact bz_n _) (by omega) (by omega) (KB (by unfold hbad; exact decide_eq_true (Or.inl h143)))
  · refine sw_iload dX12_heights_146 rfl ?_
    refine sw_if_lt 174 dX12_heights_148 (by decide) (fun h148 => ?_) (fun h148 => ?_)
    · refine sw_iload dX12_heights_174 rfl ?_
      refine sw_if_lt 208 dX12_heights_176 (by decide) (fun h176 => ?_) (fun h176 => ?_)
      · first | refine sw_inc1 [(0, _), (1, _), (2, _), (3, _), (4, _), (5, _)] dX12_heights_208 rfl (by decide) rfl ?_ | refine sw_iinc [(0, _), (1, _), (2, _), (3, _), (4, _), (5, _)] dX12_heights_208 rfl (by decide) rfl ?_
        refine sw_goto 122 dX12_heights_211 (by decide) ?_
        refine sw_keep [0, 1, 2, 3, 4] rfl ?_
        have K := K (by unfold hbad; exact decide_eq_false (fun z => z.elim (fun z => h143 z) (fun z => absurd z.1 (Int32.not_le.mpr h176))))
        rw [hpsh, if_neg (fun z => absurd z.1 (Int32.not_le.mpr h176))] at K
        exact K
      · exact absurd h148 h176
    · obtain ⟨t, ht, he⟩ := i32_lt h148 h143 (by omega)
      rw [he]
      refine sw_aload_n dX12_heights_151 rfl (by first | rfl | assumption) ?_
      refine sw_get dX12_heights_152 fr_X12_100 rfl rfl ?_
      refine sw_iload dX12_heights_155 rfl ?_
      refine sw_ialdN (t) dX12_heights_157 rfl rfl (show t < 100 by omega) (by decide) ?_
      refine sw_top (y := E.1 t) rfl ?_
      refine sw_if_lt 174 dX12_heights_158 (by decide) (fun h158 => ?_) (fun h158 => ?_)
      · refine sw_iload dX12_heights_174 rfl ?_
        refine sw_if_lt 208 dX12_heights_176 (by decide) (fun h176 => ?_) (fun h176 => ?_)
        · exact absurd h176 (i32_nlt0 (by omega))
        · refine sw_aload_n dX12_heights_179 rfl (by first | rfl | assumption) ?_
          refine sw_get dX12_heights_180 fr_X12_100 rfl rfl ?_
          refine sw_iload dX12_heights_183 rfl ?_
          refine sw_ialdN (t) dX12_heights_185 rfl rfl (show t < 100 by omega) (by decide) ?_
          refine sw_top (y := E.1 t) rfl ?_
          refine sw_if_ge 208 dX12_heights_186 (by decide) (fun h186 => ?_) (fun h186 => ?_)
          · exact absurd h158 (Int32.not_lt.mpr h186)
          · refine sw_aload_n dX12_heights_189 rfl (by first | rfl | assumption) ?_
            refine sw_get dX12_heights_190 fr_X12_100 rfl rfl ?_
            refine sw_iload dX12_heights_193 rfl ?_
            refine sw_iload_n dX12_heights_195 rfl ?_
            refine m_iast (t) dX12_heights_196 ⟨by decide, by decide, rfl⟩ rfl (show t < 100 by omega) rfl ?_
            refine sw_aload_n dX12_heights_197 rfl (by first | rfl | assumption) ?_
            refine sw_get dX12_heights_198 fr_X12_106 rfl rfl ?_
            refine sw_iload_n dX12_heights_201 rfl ?_
            refine sw_iload dX12_heights_202 rfl ?_
            refine m_iast (E.2.2) dX12_heights_204 ⟨by decide, by decide, rfl⟩ rfl (show E.2.2 < 220 by omega) rfl ?_
            first | refine sw_inc1 [(0, _), (1, _), (2, _), (3, _), (4, _), (5, _)] dX12_heights_205 rfl (by decide) rfl ?_ | refine sw_iinc [(0, _), (1, _), (2, _), (3, _), (4, _), (5, _)] dX12_heights_205 rfl (by decide) rfl ?_
            first | refine sw_inc1 [(0, _), (1, _), (2, _), (3, _), (4, _), (5, _)] dX12_heights_208 rfl (by decide) rfl ?_ | refine sw_iinc [(0, _), (1, _), (2, _), (3, _), (4, _), (5, _)] dX12_heights_208 rfl (by decide) rfl ?_
            refine sw_goto 122 dX12_heights_211 (by decide) ?_
            refine sw_keep [0, 1, 2, 3, 4] rfl ?_
            have K := K (by rw [he]; unfold hbad; refine decide_eq_false (fun z => z.elim (fun z => h143 (by rw [he]; exact z)) (fun z => absurd z.2.1 (Int32.not_le.mpr ?_))); rw [nI_clamp (by omega)]; exact h158)
            rw [he, hpsh, if_pos ⟨i32_le0 (by omega), by rw [nI_clamp (by omega)]; exact h158⟩, nI_clamp (by omega)] at K
            exact m_eq rfl (hA_2 _ _ _ _ _) K
      · refine sw_aload_n dX12_heights_161 rfl (by first | rfl | assumption) ?_
        refine sw_get dX12_heights_162 fr_X12_100 rfl rfl ?_
        refine sw_iload dX12_heights_165 rfl ?_
        refine sw_ialdN (t) dX12_heights_167 rfl rfl (show t < 100 by omega) (by decide) ?_
        refine sw_top (y := E.1 t) rfl ?_
        refine sw_iload_n dX12_heights_168 rfl ?_
        refine sw_icmp_eq 174 dX12_heights_169 (by decide) (fun h169 => ?_) (fun h169 => ?_)
        · refine sw_iload dX12_heights_174 rfl ?_
          refine sw_if_lt 208 dX12_heights_176 (by decide) (fun h176 => ?_) (fun h176 => ?_)
          · exact absurd h176 (i32_nlt0 (by omega))
          · refine sw_aload_n dX12_heights_179 rfl (by first | rfl | assumption) ?_
            refine sw_get dX12_heights_180 fr_X12_100 rfl rfl ?_
            refine sw_iload dX12_heights_183 rfl ?_
            refine sw_ialdN (t) dX12_heights_185 rfl rfl (show t < 100 by omega) (by decide) ?_
            refine sw_top (y := E.1 t) rfl ?_
            refine sw_if_ge 208 dX12_heights_186 (by decide) (fun h186 => ?_) (fun h186 => ?_)
            · first | refine sw_inc1 [(0, _), (1, _), (2, _), (3, _), (4, _), (5, _)] dX12_heights_208 rfl (by decide) rfl ?_ | refine sw_iinc [(0, _), (1, _), (2, _), (3, _), (4, _), (5, _)] dX12_heights_208 rfl (by decide) rfl ?_
              refine sw_goto 122 dX12_heights_211 (by decide) ?_
              refine sw_keep [0, 1, 2, 3, 4] rfl ?_
              have K := K (by rw [he]; unfold hbad; refine decide_eq_false (fun z => z.elim (fun z => h143 (by rw [he]; exact z)) (fun z => z.2.2 ?_)); rw [nI_clamp (by omega)]; exact h169)
              rw [he, hpsh, if_neg (fun z => absurd z.2 (Int32.not_lt.mpr (by rw [nI_clamp (by omega)]; exact h186)))] at K
              exact K
            · exact absurd (Int32.not_lt.mp h158) h186
        · refine sw_iconst (x := 0) dX12_heights_172 (by decide) ?_
          exact sw_iret dX12_heights_173 rfl (by first | rfl | exact bz_n _) (by omega) (by omega) (KB (by rw [he]; unfold hbad; refine decide_eq_true (Or.inr ⟨i32_le0 (by omega), ?_⟩); rw [nI_clamp (by omega)]; exact ⟨Int32.not_lt.mp h158, h169⟩))
set_option maxRecDepth 100000 in
theorem l_X12_hg2 {l : Launch} {D : va_G} {cy : Nat → ClassId} {d n : Nat} {f : sw_F} {s : Nat → Int32} {A : Nat → Nat → Int32} (hd : 1 ≤ d) {C : Nat} (hC : s 36 = nI C) (hCb : C ≤ 100) : ∀ (c : Nat) (E : DS), E.2.2 + unh E.1 C < c → HOK C E → SW l D cy mX12_heights d 0 0 0 0 39 [(0, .ref 150), (1, .int (nI E.2.2))] [] n (md f s (hA A (E).1 (E).2.1)) (sw_D (some (.int (bz (hrn A C c E).1))) n (md f s (hA A ((hrn A C c E).2).1 ((hrn A C c E).2).2.1))) (fun _ _ _ => False) := by
  intro c
  induction c with
  | zero => intro E h1 h2; exact absurd h1 (by omega)
  | succ c ih =>
    intro E hc hE
    have e0 := hE.1
    refine sw_iload_n dX12_heights_39 rfl ?_
    refine sw_if_le 217 dX12_heights_40 (by decide) (fun h40 => ?_) (fun h40 => ?_)
    · have e1 : E.2.2 = 0 := by rw [show (0 : Int32) = nI 0 from nl_0, nI_leI (by omega) (by omega)] at h40; omega
      refine sw_iconst (x := 1) dX12_heights_217 (by decide) ?_
      exact sw_iret dX12_heights_218 rfl (by first | rfl | exact bz_n _) (by omega) (by omega) ⟨by rw [hrn, if_pos e1]; rfl, rfl, by rw [hrn, if_pos e1]⟩
    · have e1 : ¬ E.2.2 = 0 := fun q => h40 (by rw [q]; decide)
      obtain ⟨e2, e3, hh, e5, e6⟩ := htop_ok hCb hE e1
      refine sw_dec1 [(0, _), (1, _)] dX12_heights_43 rfl (by omega) (by decide) rfl ?_
      refine sw_aload_n dX12_heights_46 rfl (by first | rfl | assumption) ?_
      refine sw_get dX12_heights_47 fr_X12_106 rfl rfl ?_
      refine sw_iload_n dX12_heights_50 rfl ?_
      refine sw_ialdN (E.2.2 - 1) dX12_heights_51 rfl rfl (show E.2.2 - 1 < 220 by omega) (by decide) ?_
      refine sw_top (y := nI (dtop E)) e3 ?_
      refine sw_istore_n [(0, _), (1, _), (2, _)] dX12_heights_52 (by decide) rfl ?_
      refine sw_aload_n dX12_heights_53 rfl (by first | rfl | assumption) ?_
      refine sw_get dX12_heights_54 fr_X12_100 rfl rfl ?_
      refine sw_iload_n dX12_heights_57 rfl ?_
      refine sw_ialdN (dtop E) dX12_heights_58 rfl rfl (show dtop E < 100 by omega) (by decide) ?_
      refine sw_top (y := E.1 (dtop E)) rfl ?_
      refine sw_aload_n dX12_heights_59 rfl (by first | rfl | assumption) ?_
      refine sw_get dX12_heights_60 fr_X12_94 rfl rfl ?_
      refine sw_iload_n dX12_heights_63 rfl ?_
      refine sw_ialdN (dtop E) dX12_heights_64 rfl rfl (show dtop E < 100 by omega) (by decide) ?_
      refine sw_top (y := A 176 (dtop E)) rfl ?_
      refine sw_Sv dX12_heights_65 k_X12_260 mf_X12_takenBy (c_X12_takenBy (d := d - 1) _) (by omega) (by omega) (by omega) rfl rfl (Nat.le_of_ble_eq_true rfl) ?_
      refine sw_isub dX12_heights_68 ?_
      refine sw_top (y := hlow A E) rfl ?_
      refine sw_istore_n [(0, _), (1, _), (2, _), (3, _)] dX12_heights_69 (by decide) rfl ?_
      refine sw_iload_n dX12_heights_70 rfl ?_
      refine sw_if_lt 105 dX12_heights_71 (by decide) (fun h71 => ?_) (fun h71 => ?_)
      · refine sw_iconst (x := 0) dX12_heights_105 (by decide) ?_
        exact sw_iret dX12_heights_106 rfl (by first | rfl | exact bz_n _) (by omega) (by omega) ⟨by rw [hrn, if_neg e1, if_pos (show hno A E = true from decide_eq_true (Or.inl h71))]; rfl, rfl, by rw [hrn, if_neg e1, if_pos (show hno A E = true from decide_eq_true (Or.inl h71))]; rfl⟩
      · refine sw_iload_n dX12_heights_74 rfl ?_
        refine sw_aload_n dX12_heights_75 rfl (by first | rfl | assumption) ?_
        refine sw_get dX12_heights_76 fr_X12_94 rfl rfl ?_
        refine sw_iload_n dX12_heights_79 rfl ?_
        refine sw_ialdN (dtop E) dX12_heights_80 rfl rfl (show dtop E < 100 by omega) (by decide) ?_
        refine sw_top (y := A 176 (dtop E)) rfl ?_
        refine sw_Sv dX12_heights_81 k_X12_263 mf_X12_givenBy (c_X12_givenBy (d := d - 1) _) (by omega) (by omega) (by omega) rfl rfl (Nat.le_of_ble_eq_true rfl) ?_
        refine sw_iadd dX12_heights_84 ?_
        refine sw_top (y := haft A E) rfl ?_
        refine sw_bipush (x := 8) dX12_heights_85 (by decide) ?_
        refine sw_icmp_gt 105 dX12_heights_87 (by decide) (fun h87 => ?_) (fun h87 => ?_)
        · refine sw_iconst (x := 0) dX12_heights_105 (by decide) ?_
          exact sw_iret dX12_heights_106 rfl (by first | rfl | exact bz_n _) (by omega) (by omega) ⟨by rw [hrn, if_neg e1, if_pos (show hno A E = true from decide_eq_true (Or.inr (Or.inl h87)))]; rfl, rfl, by rw [hrn, if_neg e1, if_pos (show hno A E = true from decide_eq_true (Or.inr (Or.inl h87)))]; rfl⟩
        · refine sw_aload_n dX12_heights_90 rfl (by first | rfl | assumption) ?_
          refine sw_get dX12_heights_91 fr_X12_94 rfl rfl ?_
          refine sw_iload_n dX12_heights_94 rfl ?_
          refine sw_ialdN (dtop E) dX12_heights_95 rfl rfl (show dtop E < 100 by omega) (by decide) ?_
          refine sw_top (y := A 176 (dtop E)) rfl ?_
          refine sw_bipush (x := 9) dX12_heights_96 (by decide) ?_
          refine sw_icmp_ne 107 dX12_heights_98 (by decide) (fun h98 => ?_) (fun h98 => ?_)
          · have h0n : ¬ hno A E = true := fun z => (of_decide_eq_true z).elim h71 (fun z => z.elim h87 (fun z => h98 z.1))
            obtain ⟨t, g, e8, e9, e10, e20, e21, e11, e22, e12⟩ := hq_1 (w := A 176 (dtop E)) e5 (by rw [← e6]; exact h71) (by rw [← e6]; exact h87)
            rw [← e6] at e12 e22
            have e12 : haft A E = nI (hh - t + g) := e12
            refine sw_iload_n dX12_heights_107 rfl ?_
            refine sw_aload_n dX12_heights_108 rfl (by first | rfl | assumption) ?_
            refine sw_get dX12_heights_109 fr_X12_94 rfl rfl ?_
            refine sw_iload_n dX12_heights_112 rfl ?_
            refine sw_ialdN (dtop E) dX12_heights_113 rfl rfl (show dtop E < 100 by omega) (by decide) ?_
            refine sw_top (y := A 176 (dtop E)) rfl ?_
            refine sw_Sv dX12_heights_114 k_X12_263 mf_X12_givenBy (c_X12_givenBy (d := d - 1) _) (by omega) (by omega) (by omega) rfl rfl (Nat.le_of_ble_eq_true rfl) ?_
            refine sw_iadd dX12_heights_117 ?_
            refine sw_top (y := nI (hh - t + g)) e12 ?_
            refine sw_istore_n [(0, _), (1, _), (2, _), (3, _)] dX12_heights_118 (by decide) rfl ?_
            refine sw_iconst (x := 0) dX12_heights_119 (by decide) ?_
            refine sw_istore [(0, _), (1, _), (2, _), (3, _), (4, _)] dX12_heights_120 (by decide) rfl ?_
            refine sw_iload dX12_heights_122 rfl ?_
            refine sw_iconst (x := 2) dX12_heights_124 (by decide) ?_
            refine sw_icmp_ge 214 dX12_heights_125 (by decide) (fun h125 => ?_) (fun h125 => ?_)
            · exact absurd h125 (by decide)
            · refine l_X12_hg1 (E := dpop E) hd hC hCb (w := 0) (by omega) e11 (by show E.2.2 - 1 ≤ 100; omega) (fun e14 => ?_) (fun e14 => ?_)
              · rw [← e12] at e14
                rw [hrn, if_neg e1, if_neg h0n, if_pos e14]
                exact ⟨rfl, rfl, rfl⟩
              · have e14b := e14
                rw [← e12] at e14b
                refine sw_iload dX12_heights_122 rfl ?_
                refine sw_iconst (x := 2) dX12_heights_124 (by decide) ?_
                refine sw_icmp_ge 214 dX12_heights_125 (by decide) (fun h125 => ?_) (fun h125 => ?_)
                · exact absurd h125 (by decide)
                · have e30 : hp1 A E = hpsh (dpop E) (r_nx A (dtop E) (nI 0)) (nI (hh - t + g)) := by rw [hp1, e12]
                  have e15 := hpsh_ok hCb e11 (hpop_ok hE) e14
                  have e31 : (dpop E).2.2 + unh (dpop E).1 C + 1 = E.2.2 + unh E.1 C := by show E.2.2 - 1 + unh E.1 C + 1 = _; omega
                  rw [← e30] at e15 ⊢
                  have e32 := e15.1.1
                  have e33 := e15.2
                  refine l_X12_hg1 (E := hp1 A E) (k := dtop E) hd hC hCb (w := 1) (by omega) e11 (by omega) (fun e17 => ?_) (fun e17 => ?_)
                  · rw [← e12] at e17
                    rw [hrn, if_neg e1, if_neg h0n, if_neg (by rw [e14b]; decide), if_pos e17]
                    exact ⟨rfl, rfl, rfl⟩
                  · have e16 := hpsh_ok hCb e11 e15.1 e17
                    have e34 := e16.2
                    rw [← e12] at e17
                    rw [hrn, if_neg e1, if_neg h0n, if_neg (by rw [e14b]; decide), if_neg (by rw [e17]; decide), e12]
                    refine sw_iload dX12_heights_122 rfl ?_
                    refine sw_iconst (x := 2) dX12_heights_124 (by decide) ?_
                    refine sw_icmp_ge 214 dX12_heights_125 (by decide) (fun h125 => ?_) (fun h125 => ?_)
                    · refine sw_goto 39 dX12_heights_214 (by decide) ?_
                      refine sw_keep [0, 1] rfl ?_
                      exact ih _ (by omega) e16.1
                    · exact absurd h125 (by decide)
          · refine sw_iload_n dX12_heights_101 rfl ?_
            refine sw_if_le 107 dX12_heights_102 (by decide) (fun h102 => ?_) (fun h102 => ?_)
            · have h0n : ¬ hno A E = true := fun z => (of_decide_eq_true z).elim h71 (fun z => z.elim h87 (fun z => absurd z.2 (Int32.not_lt.mpr h102)))
              obtain ⟨t, g, e8, e9, e10, e20, e21, e11, e22, e12⟩ := hq_1 (w := A 176 (dtop E)) e5 (by rw [← e6]; exact h71) (by rw [← e6]; exact h87)
              rw [← e6] at e12 e22
              have e12 : haft A E = nI (hh - t + g) := e12
              refine sw_iload_n dX12_heights_107 rfl ?_
              refine sw_aload_n dX12_heights_108 rfl (by first | rfl | assumption) ?_
              refine sw_get dX12_heights_109 fr_X12_94 rfl rfl ?_
              refine sw_iload_n dX12_heights_112 rfl ?_
              refine sw_ialdN (dtop E) dX12_heights_113 rfl rfl (show dtop E < 100 by omega) (by decide) ?_
              refine sw_top (y := A 176 (dtop E)) rfl ?_
              refine sw_Sv dX12_heights_114 k_X12_263 mf_X12_givenBy (c_X12_givenBy (d := d - 1) _) (by omega) (by omega) (by omega) rfl rfl (Nat.le_of_ble_eq_true rfl) ?_
              refine sw_iadd dX12_heights_117 ?_
              refine sw_top (y := nI (hh - t + g)) e12 ?_
              refine sw_istore_n [(0, _), (1, _), (2, _), (3, _)] dX12_heights_118 (by decide) rfl ?_
              refine sw_iconst (x := 0) dX12_heights_119 (by decide) ?_
              refine sw_istore [(0, _), (1, _), (2, _), (3, _), (4, _)] dX12_heights_120 (by decide) rfl ?_
              refine sw_iload dX12_heights_122 rfl ?_
              refine sw_iconst (x := 2) dX12_heights_124 (by decide) ?_
              refine sw_icmp_ge 214 dX12_heights_125 (by decide) (fun h125 => ?_) (fun h125 => ?_)
              · exact absurd h125 (by decide)
              · refine l_X12_hg1 (E := dpop E) hd hC hCb (w := 0) (by omega) e11 (by show E.2.2 - 1 ≤ 100; omega) (fun e14 => ?_) (fun e14 => ?_)
                · rw [← e12] at e14
                  rw [hrn, if_neg e1, if_neg h0n, if_pos e14]
                  exact ⟨rfl, rfl, rfl⟩
                · have e14b := e14
                  rw [← e12] at e14b
                  refine sw_iload dX12_heights_122 rfl ?_
                  refine sw_iconst (x := 2) dX12_heights_124 (by decide) ?_
                  refine sw_icmp_ge 214 dX12_heights_125 (by decide) (fun h125 => ?_) (fun h125 => ?_)
                  · exact absurd h125 (by decide)
                  · have e30 : hp1 A E = hpsh (dpop E) (r_nx A (dtop E) (nI 0)) (nI (hh - t + g)) := by rw [hp1, e12]
                    have e15 := hpsh_ok hCb e11 (hpop_ok hE) e14
                    have e31 : (dpop E).2.2 + unh (dpop E).1 C + 1 = E.2.2 + unh E.1 C := by show E.2.2 - 1 + unh E.1 C + 1 = _; omega
                    rw [← e30] at e15 ⊢
                    have e32 := e15.1.1
                    have e33 := e15.2
                    refine l_X12_hg1 (E := hp1 A E) (k := dtop E) hd hC hCb (w := 1) (by omega) e11 (by omega) (fun e17 => ?_) (fun e17 => ?_)
                    · rw [← e12] at e17
                      rw [hrn, if_neg e1, if_neg h0n, if_neg (by rw [e14b]; decide), if_pos e17]
                      exact ⟨rfl, rfl, rfl⟩
                    · have e16 := hpsh_ok hCb e11 e15.1 e17
                      have e34 := e16.2
                      rw [← e12] at e17
                      rw [hrn, if_neg e1, if_neg h0n, if_neg (by rw [e14b]; decide), if_neg (by rw [e17]; decide), e12]
                      refine sw_iload dX12_heights_122 rfl ?_
                      refine sw_iconst (x := 2) dX12_heights_124 (by decide) ?_
                      refine sw_icmp_ge 214 dX12_heights_125 (by decide) (fun h125 => ?_) (fun h125 => ?_)
                      · refine sw_goto 39 dX12_heights_214 (by decide) ?_
                        refine sw_keep [0, 1] rfl ?_
                        exact ih _ (by omega) e16.1
                      · exact absurd h125 (by decide)
            · refine sw_iconst (x := 0) dX12_heights_105 (by decide) ?_
              exact sw_iret dX12_heights_106 rfl (by first | rfl | exact bz_n _) (by omega) (by omega) ⟨by rw [hrn, if_neg e1, if_pos (show hno A E = true from decide_eq_true (Or.inr (Or.inr ⟨h98, Int32.not_le.mp h102⟩)))]; rfl, rfl, by rw [hrn, if_neg e1, if_pos (show hno A E = true from decide_eq_true (Or.inr (Or.inr ⟨h98, Int32.not_le.mp h102⟩)))]; rfl⟩
set_option maxRecDepth 100000 in
theorem l_X12_hg3 {l : Launch} {D : va_G} {cy : Nat → ClassId} {d n : Nat} {f : sw_F} {s : Nat → Int32} {A : Nat → Nat → Int32} {C : Nat} (hC : s 36 = nI C) (hCb : C ≤ 100) {Q : sw_Q} {QX : sw_QX} (K : SW l D cy mX12_heights d 0 0 0 0 23 [(0, .ref 150)] [] n (md f s (va_up A 178 (fillF (fun _ => -1) (A 178) C))) Q QX) : ∀ (c i : Nat), i ≤ C → C < i + c → SW l D cy mX12_heights d 0 0 0 0 2 [(0, .ref 150), (1, .int (nI i))] [] n (md f s (va_up A 178 (fillF (fun _ => -1) (A 178) i))) Q QX := by
  intro c
  induction c with
  | zero => intro i0 h1 h2; exact absurd h2 (by omega)
  | succ c ih =>
    intro i hi hc
    refine sw_iload_n dX12_heights_2 rfl ?_
    refine sw_aload_n dX12_heights_3 rfl (by first | rfl | assumption) ?_
    refine sw_get dX12_heights_4 fr_X12_251 rfl rfl ?_
    refine sw_top hC ?_
    refine sw_icmp_ge 23 dX12_heights_7 (by decide) (fun h7 => ?_) (fun h7 => ?_)
    · refine sw_keep [0] rfl ?_
      rw [show i = C from Nat.le_antisymm hi ((nI_leI (by omega) (by omega)).mp h7)]
      exact K
    · have e1 : i < C := (nI_ltI (by omega) (by omega)).mp (i32_nle.mp h7)
      refine sw_aload_n dX12_heights_10 rfl (by first | rfl | assumption) ?_
      refine sw_get dX12_heights_11 fr_X12_100 rfl rfl ?_
      refine sw_iload_n dX12_heights_14 rfl ?_
      refine sw_iconst (x := (-1)) dX12_heights_15 (by decide) ?_
      refine m_iast (i) dX12_heights_16 ⟨by decide, by decide, rfl⟩ rfl (show i < 100 by omega) rfl ?_
      first | refine sw_inc1 [(0, _), (1, _)] dX12_heights_17 rfl (by decide) rfl ?_ | refine sw_iinc [(0, _), (1, _)] dX12_heights_17 rfl (by decide) rfl ?_
      refine sw_goto 2 dX12_heights_20 (by decide) ?_
      refine m_eq rfl ?_ (ih (i + 1) (by omega) (by omega))
      rw [vu_up]
      exact congrArg (va_up A 178) (fill_1 (h := fun _ => -1) rfl)
set_option maxRecDepth 100000 in
theorem c_X12_heights {l : Launch} {D : va_G} {cy : Nat → ClassId} {d n : Nat} {f : sw_F} {s : Nat → Int32} {A : Nat → Nat → Int32} (hd : 1 ≤ d) {C : Nat} (hC : s 36 = nI C) (hCb : C ≤ 100) (hC1 : 0 < C) : sw_Ct l D cy mX12_heights d 0 0 [.ref 150] n (md f s A) (sw_D (some (.int (bz (r_hts A C).1))) n (md f s (hA A ((r_hts A C).2).1 ((r_hts A C).2).2.1))) := by
  refine sw_of rfl (Nat.le_of_ble_eq_true rfl) ?_
  show SW l D cy mX12_heights d 0 0 0 0 0 [(0, .ref 150)] [] n (md f s A) _ _
  have q1 : va_up A 178 (fillF (fun _ => -1) (A 178) 0) = A := by rw [fill_0, vu_id]
  have q3 : unh (fillF (fun _ => -1) (A 178) C) C ≤ C := unh_le _ _
  have q4 := unh_up (S := fillF (fun _ => -1) (A 178) C) (t := 0) (x := 0) (by decide) (by rw [fill_lt hC1]; decide) C hC1
  refine sw_iconst (x := 0) dX12_heights_0 (by decide) ?_
  refine sw_istore_n [(0, _), (1, _)] dX12_heights_1 (by decide) rfl ?_
  refine m_eq rfl q1.symm (l_X12_hg3 hC hCb ?_ (C + 1) 0 (by omega) (by omega))
  refine sw_aload_n dX12_heights_23 rfl (by first | rfl | assumption) ?_
  refine sw_get dX12_heights_24 fr_X12_100 rfl rfl ?_
  refine sw_iconst (x := 0) dX12_heights_27 (by decide) ?_
  refine sw_iconst (x := 0) dX12_heights_28 (by decide) ?_
  refine m_iast (0) dX12_heights_29 ⟨by decide, by decide, rfl⟩ nl_0 (show 0 < 100 by omega) rfl ?_
  refine sw_aload_n dX12_heights_30 rfl (by first | rfl | assumption) ?_
  refine sw_get dX12_heights_31 fr_X12_106 rfl rfl ?_
  refine sw_iconst (x := 0) dX12_heights_34 (by decide) ?_
  refine sw_iconst (x := 0) dX12_heights_35 (by decide) ?_
  refine m_iast (0) dX12_heights_36 ⟨by decide, by decide, rfl⟩ nl_0 (show 0 < 220 by omega) rfl ?_
  refine sw_iconst (x := 1) dX12_heights_37 (by decide) ?_
  refine sw_istore_n [(0, _), (1, _)] dX12_heights_38 (by decide) rfl ?_
  refine m_eq rfl ?_ (l_X12_hg2 hd hC hCb (C + 1) (h0s A C) ?_ ⟨?_, ?_⟩)
  · rw [vu_up]
    rfl
  · show 1 + unh (upd (fillF (fun _ => -1) (A 178) C) 0 0) C < C + 1
    omega
  · show 1 + unh (upd (fillF (fun _ => -1) (A 178) C) 0 0) C ≤ C
    omega
  · intro i hi
    have hi : i < 1 := hi
    exact ⟨0, 0, hC1, by show upd _ _ _ _ = _; unfold upd; rw [if_pos (by omega)]; rfl, by omega, rfl⟩
