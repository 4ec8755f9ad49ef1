/-! ===== THE REFERENCE: read ===== -/
theorem q_tk1 {l : Launch} {D : va_G} {cy : Nat → ClassId} {d n : Nat} {f : sw_F} {s : Nat → Int32} {A : Nat → Nat → Int32} (hd : 1 ≤ d) {T p e P : Nat} (hT : TO s A T) (hp : p ≤ 1000) {c : Int32} (h : hc (A 158) T p = c) : sw_Ct l D cy mX12_takes d 0 0 [.ref 150, .int c] n (md f (pS s (p) (e) (P)) A) (sw_D (some (.int 1)) n (md f (pS s (p + 1) (e) (P)) A)) := by
  have z := q_takes (l := l) (D := D) (cy := cy) (d := d) (n := n) (f := f) (e := e) (P := P) hd hT hp c
  rw [decide_eq_true h, if_pos h] at z
  exact z
theorem q_tk0 {l : Launch} {D : va_G} {cy : Nat → ClassId} {d n : Nat} {f : sw_F} {s : Nat → Int32} {A : Nat → Nat → Int32} (hd : 1 ≤ d) {T p e P : Nat} (hT : TO s A T) (hp : p ≤ 1000) {c : Int32} (h : ¬ hc (A 158) T p = c) : sw_Ct l D cy mX12_takes d 0 0 [.ref 150, .int c] n (md f (pS s (p) (e) (P)) A) (sw_D (some (.int 0)) n (md f (pS s (p) (e) (P)) A)) := by
  have z := q_takes (l := l) (D := D) (cy := cy) (d := d) (n := n) (f := f) (e := e) (P := P) hd hT hp c
  rw [decide_eq_false h, if_neg h] at z
  exact z
theorem q_op1 {l : Launch} {D : va_G} {cy : Nat → ClassId} {d n : Nat} {f : sw_F} {s : Nat → Int32} {A : Nat → Nat → Int32} (hd : 1 ≤ d) {T p e P : Nat} (hT : TO s A T) (hp : p ≤ 1000) {c : Int32} (h : hc (A 158) T p = c ∧ e < 6) : sw_Ct l D cy mX12_opens d 0 0 [.ref 150, .int c] n (md f (pS s (p) (e) (P)) A) (sw_D (some (.int 1)) n (md f (pS s (p + 1) (e + 1) (P)) A)) := by
  have z := q_opens (l := l) (D := D) (cy := cy) (d := d) (n := n) (f := f) (e := e) (P := P) hd hT hp (by omega) c
  rw [decide_eq_true h, if_pos h, if_pos h] at z
  exact z
theorem q_op0 {l : Launch} {D : va_G} {cy : Nat → ClassId} {d n : Nat} {f : sw_F} {s : Nat → Int32} {A : Nat → Nat → Int32} (hd : 1 ≤ d) {T p e P : Nat} (hT : TO s A T) (hp : p ≤ 1000) (he : e ≤ 6) {c : Int32} (h : ¬ (hc (A 158) T p = c ∧ e < 6)) : sw_Ct l D cy mX12_opens d 0 0 [.ref 150, .int c] n (md f (pS s (p) (e) (P)) A) (sw_D (some (.int 0)) n (md f (pS s (p) (e) (P)) A)) := by
  have z := q_opens (l := l) (D := D) (cy := cy) (d := d) (n := n) (f := f) (e := e) (P := P) hd hT hp he c
  rw [decide_eq_false h, if_neg h, if_neg h] at z
  exact z
theorem q_cl1 {l : Launch} {D : va_G} {cy : Nat → ClassId} {d n : Nat} {f : sw_F} {s : Nat → Int32} {A : Nat → Nat → Int32} (hd : 2 ≤ d) {T p e P : Nat} (hT : TO s A T) (hp : p ≤ 1000) (he : 0 < e) {c : Int32} (h : hc (A 158) T p = c) : sw_Ct l D cy mX12_closes d 0 0 [.ref 150, .int c] n (md f (pS s (p) (e) (P)) A) (sw_D (some (.int 1)) n (md f (pS s (p + 1) (e - 1) (P)) A)) := by
  have z := q_closes (l := l) (D := D) (cy := cy) (d := d) (n := n) (f := f) (e := e) (P := P) hd hT hp he c
  rw [decide_eq_true h, if_pos h, if_pos h] at z
  exact z
def RDs (l : Launch) (D : va_G) (cy : Nat → ClassId) (d n : Nat) (f : sw_F) (s : Nat → Int32) (T : Nat) (TX : Nat → Int32) (Q : sw_Q) (QX : sw_QX) (F : Nat) : Prop :=
  ∀ (g p P a : Nat) (o : Option Nat) (A : Nat → Nat → Int32), TO s A T → A 158 = TX → p ≤ T → T < p + F → P ≤ p + 1 → a < P → g ≤ 6 → PW A a P o →
  (∀ q, pR TX T F g p = (none, q) → ∀ g' P' A', (∀ z, z < 159 ∨ 166 < z → A' z = A z) → Q (some (.int 0)) n (md f (pS s q g' P') A')) →
  (∀ t q, pR TX T F g p = (some t, q) → ∀ A', RXF A A' P a o t → SW l D cy mX12_read d 0 0 0 0 23 [(0, .ref 150), (1, .int (nI (a)))] [] n (md f (pS s (q) (g) (P + szR t)) A') Q QX) → SW l D cy mX12_read d 0 0 0 0 23 [(0, .ref 150), (1, .int (nI (a)))] [] n (md f (pS s (p) (g) (P)) A) Q QX
theorem PW_1 {A A1 A' : Nat → Nat → Int32} {P a P' : Nat} {o : Option Nat} {w v : Int32} (hP : P < P') (ha : a < P) (hs : P < 1000) (h : PT A A1 P a o w v) (hv : PV A a P o) (h1 : A' 162 a = A1 162 a) (h2 : A' 163 a = A1 163 a) (h3 : A' 164 P = A1 164 P) : PW A' a P' (some P) := by
  obtain ⟨f1, f2, f3, f4, f5, f6, f7, f8, f9, f10, f11, f12, f13⟩ := h
  refine ⟨Or.inr ⟨P, rfl, hP, by omega, ?_, by rw [h2]; exact f10⟩, fun c hc => ?_⟩
  · rw [h1, f12]
    rcases hv with ⟨rfl, h⟩ | ⟨c, rfl, _, _, h, _⟩
    · exact i32_nlt0 (by omega)
    · exact h
  · obtain rfl := Option.some.inj hc
    rw [h3]; exact f7
set_option maxRecDepth 100000 in
theorem l_cl {l : Launch} {D : va_G} {cy : Nat → ClassId} {d n : Nat} {f : sw_F} {s : Nat → Int32} {A : Nat → Nat → Int32} (hd : 4 ≤ d) {Q : sw_Q} {QX : sw_QX} {T q e P b k : Nat} {TX : Nat → Int32} (hT : TO s A T) (hTX : A 158 = TX) (hq : q ≤ T) (he : 0 < e) (hb : 0 < b) (hb2 : b < 160) (h1 : r_nm (hc TX T q) = false) (h2 : ¬ hc TX T q = 63) (h3 : ¬ hc TX T q = 42) (hk : A 161 b = nI k) (K0 : ¬ hc TX T q = 125 → Q (some (.int 0)) n (md f (pS s (q) (e) (P)) A)) (K1 : hc TX T q = 125 → SW l D cy mX12_read d 0 0 0 0 198 [(0, .ref 150), (1, .int (nI b)), (3, .int 1), (4, .int (nI k))] [] n (md f (pS s (q + 1) (e - 1) (P)) A) Q QX) : SW l D cy mX12_read d 0 0 0 0 23 [(0, .ref 150), (1, .int (nI (b)))] [] n (md f (pS s (q) (e) (P)) A) Q QX := by
  have hT72 := hT.2.1
  by_cases c : hc TX T q = 125
  · have y := hc_in (TX := TX) (T := T) (p := q) (fun y => by rw [y] at c; exact absurd c (by decide))
    refine sw_aload_n dX12_read_23 rfl (by first | rfl | assumption) ?_
    refine sw_get dX12_read_24 fr_X12_157 rfl rfl ?_
    refine sw_top (y := nI q) rfl ?_
    refine sw_aload_n dX12_read_27 rfl (by first | rfl | assumption) ?_
    refine sw_get dX12_read_28 fr_X12_154 rfl rfl ?_
    refine sw_top (y := nI T) hT.1 ?_
    refine sw_icmp_ge 263 dX12_read_31 (by decide) (fun h31 => ?_) (fun h31 => ?_)
    · exact absurd h31 (by rw [nI_leI (by omega) (by omega)]; omega)
    · refine sw_aload_n dX12_read_34 rfl (by first | rfl | assumption) ?_
      refine sw_Vv dX12_read_35 k_X12_160 mf_X12_here (q_here (d := d - 1) hT (by omega)) rfl ⟨_, rfl, rfl⟩ (by omega) (by omega) (by omega) rfl rfl (Nat.le_of_ble_eq_true rfl) ?_
      refine sw_top (y := 125) (by rw [hTX]; exact c) ?_
      refine sw_istore_n [(0, _), (1, _), (2, _)] dX12_read_38 (by decide) rfl ?_
      refine sw_iload_n dX12_read_39 rfl ?_
      refine sw_Sv dX12_read_40 k_X12_180 mf_X12_isName (c_X12_isName (d := d - 1) _) (by omega) (by omega) (by omega) rfl rfl (Nat.le_of_ble_eq_true rfl) ?_
      refine sw_if_eq 104 dX12_read_43 (by decide) (fun h43 => ?_) (fun h43 => ?_)
      · refine sw_iload_n dX12_read_104 rfl ?_
        refine sw_bipush (x := 63) dX12_read_105 (by decide) ?_
        refine sw_icmp_eq 116 dX12_read_107 (by decide) (fun h107 => ?_) (fun h107 => ?_)
        · exact absurd h107 (by decide)
        · refine sw_iload_n dX12_read_110 rfl ?_
          refine sw_bipush (x := 42) dX12_read_111 (by decide) ?_
          refine sw_icmp_ne 173 dX12_read_113 (by decide) (fun h113 => ?_) (fun h113 => ?_)
          · refine sw_iload_n dX12_read_173 rfl ?_
            refine sw_bipush (x := 125) dX12_read_174 (by decide) ?_
            refine sw_icmp_ne 258 dX12_read_176 (by decide) (fun h176 => ?_) (fun h176 => ?_)
            · exact absurd rfl h176
            · refine sw_iload_n dX12_read_179 rfl ?_
              refine sw_if_eq 258 dX12_read_180 (by decide) (fun h180 => ?_) (fun h180 => ?_)
              · exact absurd (nI_inj (by omega) (by omega) (show nI b = nI 0 from h180)) (by omega)
              · refine sw_aload_n dX12_read_183 rfl (by first | rfl | assumption) ?_
                refine sw_bipush (x := 125) dX12_read_184 (by decide) ?_
                refine sw_Vv dX12_read_186 k_X12_194 mf_X12_closes (q_cl1 (d := d - 1) (by omega) hT (by omega) he (by rw [hTX]; exact c)) rfl ⟨_, rfl, rfl⟩ (by omega) (by omega) (by omega) rfl rfl (Nat.le_of_ble_eq_true rfl) ?_
                refine sw_istore_n [(0, _), (1, _), (2, _), (3, _)] dX12_read_189 (by decide) rfl ?_
                refine sw_aload_n dX12_read_190 rfl (by first | rfl | assumption) ?_
                refine sw_get dX12_read_191 fr_X12_49 rfl rfl ?_
                refine sw_iload_n dX12_read_194 rfl ?_
                refine sw_ialdN (b) dX12_read_195 rfl rfl (show b < 160 by omega) (by decide) ?_
                refine sw_top (y := nI k) hk ?_
                refine sw_istore [(0, _), (1, _), (2, _), (3, _), (4, _)] dX12_read_196 (by decide) rfl ?_
                refine sw_keep [0, 1, 3, 4] rfl ?_
                exact K1 c
          · exact absurd h113 (by decide)
      · exact absurd (by decide) h43
  · by_cases y : q < T
    · skip
      refine sw_aload_n dX12_read_23 rfl (by first | rfl | assumption) ?_
      refine sw_get dX12_read_24 fr_X12_157 rfl rfl ?_
      refine sw_top (y := nI q) rfl ?_
      refine sw_aload_n dX12_read_27 rfl (by first | rfl | assumption) ?_
      refine sw_get dX12_read_28 fr_X12_154 rfl rfl ?_
      refine sw_top (y := nI T) hT.1 ?_
      refine sw_icmp_ge 263 dX12_read_31 (by decide) (fun h31 => ?_) (fun h31 => ?_)
      · exact absurd h31 (by rw [nI_leI (by omega) (by omega)]; omega)
      · refine sw_aload_n dX12_read_34 rfl (by first | rfl | assumption) ?_
        refine sw_Vv dX12_read_35 k_X12_160 mf_X12_here (q_here (d := d - 1) hT (by omega)) rfl ⟨_, rfl, rfl⟩ (by omega) (by omega) (by omega) rfl rfl (Nat.le_of_ble_eq_true rfl) ?_
        refine sw_top (y := hc TX T q) (by rw [hTX]) ?_
        refine sw_istore_n [(0, _), (1, _), (2, _)] dX12_read_38 (by decide) rfl ?_
        refine sw_iload_n dX12_read_39 rfl ?_
        refine sw_Sv dX12_read_40 k_X12_180 mf_X12_isName (c_X12_isName (d := d - 1) _) (by omega) (by omega) (by omega) rfl rfl (Nat.le_of_ble_eq_true rfl) ?_
        refine sw_if_eq 104 dX12_read_43 (by decide) (fun h43 => ?_) (fun h43 => ?_)
        · refine sw_iload_n dX12_read_104 rfl ?_
          refine sw_bipush (x := 63) dX12_read_105 (by decide) ?_
          refine sw_icmp_eq 116 dX12_read_107 (by decide) (fun h107 => ?_) (fun h107 => ?_)
          · exact absurd h107 h2
          · refine sw_iload_n dX12_read_110 rfl ?_
            refine sw_bipush (x := 42) dX12_read_111 (by decide) ?_
            refine sw_icmp_ne 173 dX12_read_113 (by decide) (fun h113 => ?_) (fun h113 => ?_)
            · refine sw_iload_n dX12_read_173 rfl ?_
              refine sw_bipush (x := 125) dX12_read_174 (by decide) ?_
              refine sw_icmp_ne 258 dX12_read_176 (by decide) (fun h176 => ?_) (fun h176 => ?_)
              · refine sw_iconst (x := 0) dX12_read_258 (by decide) ?_
                exact sw_iret dX12_read_259 rfl (by first | rfl | exact bz_n _) (by omega) (by omega) (K0 c)
              · exact absurd h176 c
            · exact absurd h113 h3
        · exact absurd (by rw [h1]; rfl) h43
    · skip
      refine sw_aload_n dX12_read_23 rfl (by first | rfl | assumption) ?_
      refine sw_get dX12_read_24 fr_X12_157 rfl rfl ?_
      refine sw_top (y := nI q) rfl ?_
      refine sw_aload_n dX12_read_27 rfl (by first | rfl | assumption) ?_
      refine sw_get dX12_read_28 fr_X12_154 rfl rfl ?_
      refine sw_top (y := nI T) hT.1 ?_
      refine sw_icmp_ge 263 dX12_read_31 (by decide) (fun h31 => ?_) (fun h31 => ?_)
      · refine sw_iload_n dX12_read_263 rfl ?_
        refine sw_if_ne 271 dX12_read_264 (by decide) (fun h264 => ?_) (fun h264 => ?_)
        · refine sw_iconst (x := 0) dX12_read_271 (by decide) ?_
          exact sw_iret dX12_read_272 rfl (by first | rfl | exact bz_n _) (by omega) (by omega) (K0 c)
        · exact absurd (nI_inj (by omega) (by omega) (show nI b = nI 0 from h264)) (by omega)
      · exact absurd (show nI T ≤ nI q by rw [nI_leI (by omega) (by omega)]; omega) h31
set_option maxRecDepth 100000 in
theorem l_blk {l : Launch} {D : va_G} {cy : Nat → ClassId} {d n : Nat} {f : sw_F} {s : Nat → Int32} {A : Nat → Nat → Int32} (hd : 4 ≤ d) {Q : sw_Q} {QX : sw_QX} {T F g q b k : Nat} {TX : Nat → Int32} (ih : RDs l D cy d n f s T TX Q QX F) (hT : TO s A T) (hTX : A 158 = TX) (hF : T < q + 1 + F) (hb : 0 < b) (hb2 : b ≤ q + 1) (h1 : hc TX T q = 123 ∧ g < 6) (hf : A 162 b = -1) (hk : A 161 b = nI k) (K0 : (∀ q', pB TX T g (pR TX T F (g + 1)) q = (none, q') → ∀ g' P' A', (∀ z, z < 159 ∨ 166 < z → A' z = A z) → Q (some (.int 0)) n (md f (pS s q' g' P') A'))) (K1 : (∀ r q', pB TX T g (pR TX T F (g + 1)) q = (some r, q') → ∀ A', BXF A A' b r → SW l D cy mX12_read d 0 0 0 0 198 [(0, .ref 150), (1, .int (nI b)), (3, .int 1), (4, .int (nI k))] [] n (md f (pS s (q') (g) (b + 1 + szR r)) A') Q QX)) : SW l D cy mX12_read d 0 0 0 0 23 [(0, .ref 150), (1, .int (nI (b)))] [] n (md f (pS s (q + 1) (g + 1) (b + 1)) A) Q QX := by
  have hT72 := hT.2.1
  have y := hc_in (TX := TX) (T := T) (p := q) (fun y => by rw [y] at h1; exact absurd h1.1 (by decide))
  refine ih (g + 1) (q + 1) (b + 1) b none A hT hTX (by omega) hF (by omega) (by omega) (by omega) ⟨Or.inl ⟨rfl, hf⟩, fun c hc => absurd hc (by simp)⟩ ?_ ?_
  · intro q' w g' P' A' fr
    exact K0 q' (by rw [pB, if_pos h1, w]) g' P' A' fr
  · intro r q' w A' hx
    have l1 := pR_le (TX := TX) F (g + 1) (q + 1) (show q + 1 ≤ T by omega)
    rw [w] at l1
    obtain ⟨l2, l3, l4⟩ := l1
    have l3 : q' ≤ T := l3
    obtain ⟨l5, l6, l7, l8⟩ := l4 r rfl
    have hTX' : A' 158 = TX := (hx.2.1 158 (by decide)).trans hTX
    refine l_cl hd (TO_A hT (by rw [hTX', hTX])) hTX' l3 (by omega) hb (by omega) l6 l7 l8 ((hx.1 161 b (by omega) (by omega) (fun y => absurd y.1 (by simp))).trans hk) (fun c => ?_) (fun c => ?_)
    · exact K0 q' (by rw [pB, if_pos h1, w]; show (if _ then _ else _ : Option RT × Nat) = _; rw [if_neg c]) _ _ _ hx.2.1
    · exact K1 r (q' + 1) (by rw [pB, if_pos h1, w]; show (if _ then _ else _ : Option RT × Nat) = _; rw [if_pos c]) A' (BXF_of hx)
set_option maxRecDepth 100000 in
theorem RD_as {l : Launch} {D : va_G} {cy : Nat → ClassId} {d n : Nat} {f : sw_F} {s : Nat → Int32} {A : Nat → Nat → Int32} (hd : 4 ≤ d) {Q : sw_Q} {QX : sw_QX} {T F g p P a : Nat} {o : Option Nat} {TX : Nat → Int32} (ih : RDs l D cy d n f s T TX Q QX F) (hT : TO s A T) (hTX : A 158 = TX) (hp : p ≤ T) (hF : T < p + (F + 1)) (hP : P ≤ p + 1) (ha : a < P) (hg : g ≤ 6) (hw : PW A a P o) (KF : ∀ q, pR TX T (F + 1) g p = (none, q) → ∀ g' P' A', (∀ z, z < 159 ∨ 166 < z → A' z = A z) → Q (some (.int 0)) n (md f (pS s q g' P') A')) (K : ∀ t q, pR TX T (F + 1) g p = (some t, q) → ∀ A', RXF A A' P a o t → SW l D cy mX12_read d 0 0 0 0 23 [(0, .ref 150), (1, .int (nI (a)))] [] n (md f (pS s (q) (g) (P + szR t)) A') Q QX) (c1 : r_nm (hc TX T p) = true) : SW l D cy mX12_read d 0 0 0 0 23 [(0, .ref 150), (1, .int (nI (a)))] [] n (md f (pS s (p) (g) (P)) A) Q QX := by
  have hT72 := hT.2.1
  have y := hc_in (TX := TX) (T := T) (p := p) (fun y => by rw [y] at c1; exact absurd c1 (by decide))
  obtain ⟨A1, hA, hct⟩ := q_part (l := l) (D := D) (cy := cy) (d := d - 1) (n := n) (f := f) (s := s) (p := p) (e := g) ha (show P < 160 by omega) hw.1 3
  obtain ⟨k, k1, k2, hk⟩ := r_nm_i c1
  obtain ⟨k3, k4, k5⟩ := r_nm_k k1 k2
  have hA2 := PT_v (by omega) hA (nI (k - 97))
  have hTX2 : (u2 A1 160 P (nI (k - 97))) 158 = TX := (hA2.2.1 158 (by decide)).trans hTX
  have hT2 : TO s (u2 A1 160 P (nI (k - 97))) T := TO_A hT (by rw [hTX2, hTX])
  by_cases c2 : hc TX T (p + 1) = 61
  · have y2 := hc_in (TX := TX) (T := T) (p := p + 1) (fun y => by rw [y] at c2; exact absurd c2 (by decide))
    have el := pE_le (TX := TX) 100 g (p + 2) (show p + 2 ≤ T by omega)
    generalize w : pE TX T 100 g (p + 2) = x at el
    obtain ⟨x, q⟩ := x
    have e1 : p + 2 ≤ q := el.1
    have e2 : q ≤ T := el.2.1
    cases x with
    | none =>
      refine sw_aload_n dX12_read_23 rfl (by first | rfl | assumption) ?_
      refine sw_get dX12_read_24 fr_X12_157 rfl rfl ?_
      refine sw_top (y := nI p) rfl ?_
      refine sw_aload_n dX12_read_27 rfl (by first | rfl | assumption) ?_
      refine sw_get dX12_read_28 fr_X12_154 rfl rfl ?_
      refine sw_top (y := nI T) hT.1 ?_
      refine sw_icmp_ge 263 dX12_read_31 (by decide) (fun h31 => ?_) (fun h31 => ?_)
      · exact absurd h31 (by rw [nI_leI (by omega) (by omega)]; omega)
      · refine sw_aload_n dX12_read_34 rfl (by first | rfl | assumption) ?_
        refine sw_Vv dX12_read_35 k_X12_160 mf_X12_here (q_here (d := d - 1) hT (by omega)) rfl ⟨_, rfl, rfl⟩ (by omega) (by omega) (by omega) rfl rfl (Nat.le_of_ble_eq_true rfl) ?_
        refine sw_top (y := nI k) (by rw [hTX]; exact hk) ?_
        refine sw_istore_n [(0, _), (1, _), (2, _)] dX12_read_38 (by decide) rfl ?_
        refine sw_iload_n dX12_read_39 rfl ?_
        refine sw_Sv dX12_read_40 k_X12_180 mf_X12_isName (c_X12_isName (d := d - 1) _) (by omega) (by omega) (by omega) rfl rfl (Nat.le_of_ble_eq_true rfl) ?_
        refine sw_if_eq 104 dX12_read_43 (by decide) (fun h43 => ?_) (fun h43 => ?_)
        · exact absurd h43 (by rw [k3]; decide)
        · refine sw_aload_n dX12_read_46 rfl (by first | rfl | assumption) ?_
          refine sw_iconst (x := 3) dX12_read_47 (by decide) ?_
          refine sw_iload_n dX12_read_48 rfl ?_
          refine sw_Vv dX12_read_49 k_X12_177 mf_X12_part hct rfl ⟨_, rfl, rfl⟩ (by omega) (by omega) (by omega) rfl rfl (Nat.le_of_ble_eq_true rfl) ?_
          refine sw_istore_n [(0, _), (1, _), (2, _), (3, _)] dX12_read_52 (by decide) rfl ?_
          refine sw_aload_n dX12_read_53 rfl (by first | rfl | assumption) ?_
          refine sw_get dX12_read_54 fr_X12_46 rfl rfl ?_
          refine sw_iload_n dX12_read_57 rfl ?_
          refine sw_iload_n dX12_read_58 rfl ?_
          refine sw_bipush (x := 97) dX12_read_59 (by decide) ?_
          refine sw_isub dX12_read_61 ?_
          refine sw_top (y := nI (k - 97)) (nI_sub k1) ?_
          refine m_iast (P) dX12_read_62 ⟨by decide, by decide, rfl⟩ rfl (show P < 160 by omega) rfl ?_
          change SW l D cy mX12_read d 0 0 0 0 63 _ _ n (md f (pS s (p) (g) (P + 1)) (u2 A1 160 P (nI (k - 97)))) _ _
          refine sw_aload_n dX12_read_63 rfl (by first | rfl | assumption) ?_
          refine sw_dup dX12_read_64 rfl ?_
          refine sw_get dX12_read_65 fr_X12_157 rfl rfl ?_
          refine sw_iconst (x := 1) dX12_read_68 (by decide) ?_
          refine sw_iadd dX12_read_69 ?_
          refine sw_top (y := nI (p + 1)) (nI_1 p) ?_
          refine m_put dX12_read_70 fl_X12_157 (by decide) (sw_fit_i _) rfl ?_
          rw [pS_p]
          refine sw_aload_n dX12_read_73 rfl (by first | rfl | assumption) ?_
          refine sw_bipush (x := 61) dX12_read_74 (by decide) ?_
          refine sw_Vv dX12_read_76 k_X12_167 mf_X12_takes (q_tk1 (d := d - 1) (by omega) hT2 (by omega) (by rw [hTX2]; exact c2)) rfl ⟨_, rfl, rfl⟩ (by omega) (by omega) (by omega) rfl rfl (Nat.le_of_ble_eq_true rfl) ?_
          refine sw_if_eq 99 dX12_read_79 (by decide) (fun h79 => ?_) (fun h79 => ?_)
          · exact absurd h79 (by decide)
          · refine sw_aload_n dX12_read_82 rfl (by first | rfl | assumption) ?_
            refine sw_iload_n dX12_read_83 rfl ?_
            refine sw_callV dX12_read_84 k_X12_197 mf_X12_expression ⟨_, rfl, rfl⟩ rfl (c_ex_0 (d := d - 1) (A := (u2 A1 160 P (nI (k - 97)))) (s := s) (by omega) hT2 hTX2 (by omega) (by omega) (by omega) hg hA2.2.2.2.2.2.1 w) (by omega) ⟨by omega, by omega⟩ rfl rfl (Nat.le_of_ble_eq_true rfl) (fun r n' f' hq _ => ?_)
            obtain ⟨hr, hn, g', P', A', fr, hf⟩ := hq
            have hn := hn.symm
            subst hn
            subst hr
            subst hf
            show SW l D cy mX12_read d 0 0 0 0 87 [(0, .ref 150), (1, .int (nI a)), (2, .int (nI k)), (3, .int (nI P))] [.int 0] n (md f (pS s q g' P') A') _ _
            refine sw_if_eq 99 dX12_read_87 (by decide) (fun h87 => ?_) (fun h87 => ?_)
            · refine sw_iconst (x := 0) dX12_read_99 (by decide) ?_
              exact sw_iret dX12_read_100 rfl (by first | rfl | exact bz_n _) (by omega) (by omega) (KF q (by rw [pR, if_pos c1, if_pos c2, w]) g' P' A' (fun z hz => by rw [fr z hz, hA2.2.1 z hz]))
            · exact absurd rfl h87
    | some e =>
      have e4 : p + 2 + szE e ≤ q := el.2.2 e rfl
      have sp := szE_pos e
      by_cases c3 : hc TX T q = 59
      · have y3 := hc_in (TX := TX) (T := T) (p := q) (fun y => by rw [y] at c3; exact absurd c3 (by decide))
        refine sw_aload_n dX12_read_23 rfl (by first | rfl | assumption) ?_
        refine sw_get dX12_read_24 fr_X12_157 rfl rfl ?_
        refine sw_top (y := nI p) rfl ?_
        refine sw_aload_n dX12_read_27 rfl (by first | rfl | assumption) ?_
        refine sw_get dX12_read_28 fr_X12_154 rfl rfl ?_
        refine sw_top (y := nI T) hT.1 ?_
        refine sw_icmp_ge 263 dX12_read_31 (by decide) (fun h31 => ?_) (fun h31 => ?_)
        · exact absurd h31 (by rw [nI_leI (by omega) (by omega)]; omega)
        · refine sw_aload_n dX12_read_34 rfl (by first | rfl | assumption) ?_
          refine sw_Vv dX12_read_35 k_X12_160 mf_X12_here (q_here (d := d - 1) hT (by omega)) rfl ⟨_, rfl, rfl⟩ (by omega) (by omega) (by omega) rfl rfl (Nat.le_of_ble_eq_true rfl) ?_
          refine sw_top (y := nI k) (by rw [hTX]; exact hk) ?_
          refine sw_istore_n [(0, _), (1, _), (2, _)] dX12_read_38 (by decide) rfl ?_
          refine sw_iload_n dX12_read_39 rfl ?_
          refine sw_Sv dX12_read_40 k_X12_180 mf_X12_isName (c_X12_isName (d := d - 1) _) (by omega) (by omega) (by omega) rfl rfl (Nat.le_of_ble_eq_true rfl) ?_
          refine sw_if_eq 104 dX12_read_43 (by decide) (fun h43 => ?_) (fun h43 => ?_)
          · exact absurd h43 (by rw [k3]; decide)
          · refine sw_aload_n dX12_read_46 rfl (by first | rfl | assumption) ?_
            refine sw_iconst (x := 3) dX12_read_47 (by decide) ?_
            refine sw_iload_n dX12_read_48 rfl ?_
            refine sw_Vv dX12_read_49 k_X12_177 mf_X12_part hct rfl ⟨_, rfl, rfl⟩ (by omega) (by omega) (by omega) rfl rfl (Nat.le_of_ble_eq_true rfl) ?_
            refine sw_istore_n [(0, _), (1, _), (2, _), (3, _)] dX12_read_52 (by decide) rfl ?_
            refine sw_aload_n dX12_read_53 rfl (by first | rfl | assumption) ?_
            refine sw_get dX12_read_54 fr_X12_46 rfl rfl ?_
            refine sw_iload_n dX12_read_57 rfl ?_
            refine sw_iload_n dX12_read_58 rfl ?_
            refine sw_bipush (x := 97) dX12_read_59 (by decide) ?_
            refine sw_isub dX12_read_61 ?_
            refine sw_top (y := nI (k - 97)) (nI_sub k1) ?_
            refine m_iast (P) dX12_read_62 ⟨by decide, by decide, rfl⟩ rfl (show P < 160 by omega) rfl ?_
            change SW l D cy mX12_read d 0 0 0 0 63 _ _ n (md f (pS s (p) (g) (P + 1)) (u2 A1 160 P (nI (k - 97)))) _ _
            refine sw_aload_n dX12_read_63 rfl (by first | rfl | assumption) ?_
            refine sw_dup dX12_read_64 rfl ?_
            refine sw_get dX12_read_65 fr_X12_157 rfl rfl ?_
            refine sw_iconst (x := 1) dX12_read_68 (by decide) ?_
            refine sw_iadd dX12_read_69 ?_
            refine sw_top (y := nI (p + 1)) (nI_1 p) ?_
            refine m_put dX12_read_70 fl_X12_157 (by decide) (sw_fit_i _) rfl ?_
            rw [pS_p]
            refine sw_aload_n dX12_read_73 rfl (by first | rfl | assumption) ?_
            refine sw_bipush (x := 61) dX12_read_74 (by decide) ?_
            refine sw_Vv dX12_read_76 k_X12_167 mf_X12_takes (q_tk1 (d := d - 1) (by omega) hT2 (by omega) (by rw [hTX2]; exact c2)) rfl ⟨_, rfl, rfl⟩ (by omega) (by omega) (by omega) rfl rfl (Nat.le_of_ble_eq_true rfl) ?_
            refine sw_if_eq 99 dX12_read_79 (by decide) (fun h79 => ?_) (fun h79 => ?_)
            · exact absurd h79 (by decide)
            · refine sw_aload_n dX12_read_82 rfl (by first | rfl | assumption) ?_
              refine sw_iload_n dX12_read_83 rfl ?_
              refine sw_callV dX12_read_84 k_X12_197 mf_X12_expression ⟨_, rfl, rfl⟩ rfl (c_ex_1 (d := d - 1) (A := (u2 A1 160 P (nI (k - 97)))) (s := s) (by omega) hT2 hTX2 (by omega) (by omega) (by omega) hg hA2.2.2.2.2.2.1 w) (by omega) ⟨by omega, by omega⟩ rfl rfl (Nat.le_of_ble_eq_true rfl) (fun r n' f' hq _ => ?_)
              obtain ⟨hr, hn, A3, e3, hf⟩ := hq
              have hn := hn.symm
              subst hn
              subst hr
              subst hf
              have fr3 : ∀ z, z < 159 ∨ 166 < z → A3 z = A z := fun z hz => by rw [e3.2.1 z hz, hA2.2.1 z hz]
              have hTX3 : A3 158 = TX := (fr3 158 (by decide)).trans hTX
              have hT3 : TO s A3 T := TO_A hT (by rw [hTX3, hTX])
              show SW l D cy mX12_read d 0 0 0 0 87 [(0, .ref 150), (1, .int (nI a)), (2, .int (nI k)), (3, .int (nI P))] [.int 1] n (md f (pS s (q) (g) (P + 1 + szE e)) A3) _ _
              refine sw_if_eq 99 dX12_read_87 (by decide) (fun h87 => ?_) (fun h87 => ?_)
              · exact absurd h87 (by decide)
              · refine sw_aload_n dX12_read_90 rfl (by first | rfl | assumption) ?_
                refine sw_bipush (x := 59) dX12_read_91 (by decide) ?_
                refine sw_Vv dX12_read_93 k_X12_167 mf_X12_takes (q_tk1 (d := d - 1) (by omega) hT3 (by omega) (by rw [hTX3]; exact c3)) rfl ⟨_, rfl, rfl⟩ (by omega) (by omega) (by omega) rfl rfl (Nat.le_of_ble_eq_true rfl) ?_
                refine sw_if_ne 101 dX12_read_96 (by decide) (fun h96 => ?_) (fun h96 => ?_)
                · refine sw_goto 260 dX12_read_101 (by decide) ?_
                  refine sw_goto 23 dX12_read_260 (by decide) ?_
                  refine sw_keep [0, 1] rfl ?_
                  refine ih g (q + 1) (P + 1 + szE e) a (some P) A3 hT3 hTX3 (by omega) (by omega) (by omega) (by omega) hg (PW_1 (by omega) ha (by omega) hA2 hw.1 (e3.1 _ _ (by omega) (by omega)) (e3.1 _ _ (by omega) (by omega)) (e3.1 _ _ (by omega) (by omega))) ?_ ?_
                  · intro q2 w2 g' P' A' fr
                    exact KF q2 (by rw [pR, if_pos c1, if_pos c2, w]; show (if _ then _ else _ : Option RT × Nat) = _; rw [if_pos c3, w2]) g' P' A' (fun z hz => by rw [fr z hz, fr3 z hz])
                  · intro R q2 w2 A' hx
                    have kk := K (rAs ((hc TX T p).toNatClampNeg - 97) e R) q2 (by rw [pR, if_pos c1, if_pos c2, w]; show (if _ then _ else _ : Option RT × Nat) = _; rw [if_pos c3, w2]) A' (RX_as ha (pv_lt hw.1) (by rw [hk, nI_clamp (by omega)]; exact hA2) e3 hx)
                    rw [szR, show P + (1 + szE e + szR R) = P + 1 + szE e + szR R by omega] at kk
                    exact kk
                · exact absurd h96 (by decide)
      · skip
        refine sw_aload_n dX12_read_23 rfl (by first | rfl | assumption) ?_
        refine sw_get dX12_read_24 fr_X12_157 rfl rfl ?_
        refine sw_top (y := nI p) rfl ?_
        refine sw_aload_n dX12_read_27 rfl (by first | rfl | assumption) ?_
        refine sw_get dX12_read_28 fr_X12_154 rfl rfl ?_
        refine sw_top (y := nI T) hT.1 ?_
        refine sw_icmp_ge 263 dX12_read_31 (by decide) (fun h31 => ?_) (fun h31 => ?_)
        · exact absurd h31 (by rw [nI_leI (by omega) (by omega)]; omega)
        · refine sw_aload_n dX12_read_34 rfl (by first | rfl | assumption) ?_
          refine sw_Vv dX12_read_35 k_X12_160 mf_X12_here (q_here (d := d - 1) hT (by omega)) rfl ⟨_, rfl, rfl⟩ (by omega) (by omega) (by omega) rfl rfl (Nat.le_of_ble_eq_true rfl) ?_
          refine sw_top (y := nI k) (by rw [hTX]; exact hk) ?_
          refine sw_istore_n [(0, _), (1, _), (2, _)] dX12_read_38 (by decide) rfl ?_
          refine sw_iload_n dX12_read_39 rfl ?_
          refine sw_Sv dX12_read_40 k_X12_180 mf_X12_isName (c_X12_isName (d := d - 1) _) (by omega) (by omega) (by omega) rfl rfl (Nat.le_of_ble_eq_true rfl) ?_
          refine sw_if_eq 104 dX12_read_43 (by decide) (fun h43 => ?_) (fun h43 => ?_)
          · exact absurd h43 (by rw [k3]; decide)
          · refine sw_aload_n dX12_read_46 rfl (by first | rfl | assumption) ?_
            refine sw_iconst (x := 3) dX12_read_47 (by decide) ?_
            refine sw_iload_n dX12_read_48 rfl ?_
            refine sw_Vv dX12_read_49 k_X12_177 mf_X12_part hct rfl ⟨_, rfl, rfl⟩ (by omega) (by omega) (by omega) rfl rfl (Nat.le_of_ble_eq_true rfl) ?_
            refine sw_istore_n [(0, _), (1, _), (2, _), (3, _)] dX12_read_52 (by decide) rfl ?_
            refine sw_aload_n dX12_read_53 rfl (by first | rfl | assumption) ?_
            refine sw_get dX12_read_54 fr_X12_46 rfl rfl ?_
            refine sw_iload_n dX12_read_57 rfl ?_
            refine sw_iload_n dX12_read_58 rfl ?_
            refine sw_bipush (x := 97) dX12_read_59 (by decide) ?_
            refine sw_isub dX12_read_61 ?_
            refine sw_top (y := nI (k - 97)) (nI_sub k1) ?_
            refine m_iast (P) dX12_read_62 ⟨by decide, by decide, rfl⟩ rfl (show P < 160 by omega) rfl ?_
            change SW l D cy mX12_read d 0 0 0 0 63 _ _ n (md f (pS s (p) (g) (P + 1)) (u2 A1 160 P (nI (k - 97)))) _ _
            refine sw_aload_n dX12_read_63 rfl (by first | rfl | assumption) ?_
            refine sw_dup dX12_read_64 rfl ?_
            refine sw_get dX12_read_65 fr_X12_157 rfl rfl ?_
            refine sw_iconst (x := 1) dX12_read_68 (by decide) ?_
            refine sw_iadd dX12_read_69 ?_
            refine sw_top (y := nI (p + 1)) (nI_1 p) ?_
            refine m_put dX12_read_70 fl_X12_157 (by decide) (sw_fit_i _) rfl ?_
            rw [pS_p]
            refine sw_aload_n dX12_read_73 rfl (by first | rfl | assumption) ?_
            refine sw_bipush (x := 61) dX12_read_74 (by decide) ?_
            refine sw_Vv dX12_read_76 k_X12_167 mf_X12_takes (q_tk1 (d := d - 1) (by omega) hT2 (by omega) (by rw [hTX2]; exact c2)) rfl ⟨_, rfl, rfl⟩ (by omega) (by omega) (by omega) rfl rfl (Nat.le_of_ble_eq_true rfl) ?_
            refine sw_if_eq 99 dX12_read_79 (by decide) (fun h79 => ?_) (fun h79 => ?_)
            · exact absurd h79 (by decide)
            · refine sw_aload_n dX12_read_82 rfl (by first | rfl | assumption) ?_
              refine sw_iload_n dX12_read_83 rfl ?_
              refine sw_callV dX12_read_84 k_X12_197 mf_X12_expression ⟨_, rfl, rfl⟩ rfl (c_ex_1 (d := d - 1) (A := (u2 A1 160 P (nI (k - 97)))) (s := s) (by omega) hT2 hTX2 (by omega) (by omega) (by omega) hg hA2.2.2.2.2.2.1 w) (by omega) ⟨by omega, by omega⟩ rfl rfl (Nat.le_of_ble_eq_true rfl) (fun r n' f' hq _ => ?_)
              obtain ⟨hr, hn, A3, e3, hf⟩ := hq
              have hn := hn.symm
              subst hn
              subst hr
              subst hf
              have fr3 : ∀ z, z < 159 ∨ 166 < z → A3 z = A z := fun z hz => by rw [e3.2.1 z hz, hA2.2.1 z hz]
              have hTX3 : A3 158 = TX := (fr3 158 (by decide)).trans hTX
              have hT3 : TO s A3 T := TO_A hT (by rw [hTX3, hTX])
              show SW l D cy mX12_read d 0 0 0 0 87 [(0, .ref 150), (1, .int (nI a)), (2, .int (nI k)), (3, .int (nI P))] [.int 1] n (md f (pS s (q) (g) (P + 1 + szE e)) A3) _ _
              refine sw_if_eq 99 dX12_read_87 (by decide) (fun h87 => ?_) (fun h87 => ?_)
              · exact absurd h87 (by decide)
              · refine sw_aload_n dX12_read_90 rfl (by first | rfl | assumption) ?_
                refine sw_bipush (x := 59) dX12_read_91 (by decide) ?_
                refine sw_Vv dX12_read_93 k_X12_167 mf_X12_takes (q_tk0 (d := d - 1) (by omega) hT3 (by omega) (by rw [hTX3]; exact c3)) rfl ⟨_, rfl, rfl⟩ (by omega) (by omega) (by omega) rfl rfl (Nat.le_of_ble_eq_true rfl) ?_
                refine sw_if_ne 101 dX12_read_96 (by decide) (fun h96 => ?_) (fun h96 => ?_)
                · exact absurd rfl h96
                · refine sw_iconst (x := 0) dX12_read_99 (by decide) ?_
                  exact sw_iret dX12_read_100 rfl (by first | rfl | exact bz_n _) (by omega) (by omega) (KF q (by rw [pR, if_pos c1, if_pos c2, w]; show (if _ then _ else _ : Option RT × Nat) = _; rw [if_neg c3]) _ _ _ fr3)
  · skip
    refine sw_aload_n dX12_read_23 rfl (by first | rfl | assumption) ?_
    refine sw_get dX12_read_24 fr_X12_157 rfl rfl ?_
    refine sw_top (y := nI p) rfl ?_
    refine sw_aload_n dX12_read_27 rfl (by first | rfl | assumption) ?_
    refine sw_get dX12_read_28 fr_X12_154 rfl rfl ?_
    refine sw_top (y := nI T) hT.1 ?_
    refine sw_icmp_ge 263 dX12_read_31 (by decide) (fun h31 => ?_) (fun h31 => ?_)
    · exact absurd h31 (by rw [nI_leI (by omega) (by omega)]; omega)
    · refine sw_aload_n dX12_read_34 rfl (by first | rfl | assumption) ?_
      refine sw_Vv dX12_read_35 k_X12_160 mf_X12_here (q_here (d := d - 1) hT (by omega)) rfl ⟨_, rfl, rfl⟩ (by omega) (by omega) (by omega) rfl rfl (Nat.le_of_ble_eq_true rfl) ?_
      refine sw_top (y := nI k) (by rw [hTX]; exact hk) ?_
      refine sw_istore_n [(0, _), (1, _), (2, _)] dX12_read_38 (by decide) rfl ?_
      refine sw_iload_n dX12_read_39 rfl ?_
      refine sw_Sv dX12_read_40 k_X12_180 mf_X12_isName (c_X12_isName (d := d - 1) _) (by omega) (by omega) (by omega) rfl rfl (Nat.le_of_ble_eq_true rfl) ?_
      refine sw_if_eq 104 dX12_read_43 (by decide) (fun h43 => ?_) (fun h43 => ?_)
      · exact absurd h43 (by rw [k3]; decide)
      · refine sw_aload_n dX12_read_46 rfl (by first | rfl | assumption) ?_
        refine sw_iconst (x := 3) dX12_read_47 (by decide) ?_
        refine sw_iload_n dX12_read_48 rfl ?_
        refine sw_Vv dX12_read_49 k_X12_177 mf_X12_part hct rfl ⟨_, rfl, rfl⟩ (by omega) (by omega) (by omega) rfl rfl (Nat.le_of_ble_eq_true rfl) ?_
        refine sw_istore_n [(0, _), (1, _), (2, _), (3, _)] dX12_read_52 (by decide) rfl ?_
        refine sw_aload_n dX12_read_53 rfl (by first | rfl | assumption) ?_
        refine sw_get dX12_read_54 fr_X12_46 rfl rfl ?_
        refine sw_iload_n dX12_read_57 rfl ?_
        refine sw_iload_n dX12_read_58 rfl ?_
        refine sw_bipush (x := 97) dX12_read_59 (by decide) ?_
        refine sw_isub dX12_read_61 ?_
        refine sw_top (y := nI (k - 97)) (nI_sub k1) ?_
        refine m_iast (P) dX12_read_62 ⟨by decide, by decide, rfl⟩ rfl (show P < 160 by omega) rfl ?_
        change SW l D cy mX12_read d 0 0 0 0 63 _ _ n (md f (pS s (p) (g) (P + 1)) (u2 A1 160 P (nI (k - 97)))) _ _
        refine sw_aload_n dX12_read_63 rfl (by first | rfl | assumption) ?_
        refine sw_dup dX12_read_64 rfl ?_
        refine sw_get dX12_read_65 fr_X12_157 rfl rfl ?_
        refine sw_iconst (x := 1) dX12_read_68 (by decide) ?_
        refine sw_iadd dX12_read_69 ?_
        refine sw_top (y := nI (p + 1)) (nI_1 p) ?_
        refine m_put dX12_read_70 fl_X12_157 (by decide) (sw_fit_i _) rfl ?_
        rw [pS_p]
        refine sw_aload_n dX12_read_73 rfl (by first | rfl | assumption) ?_
        refine sw_bipush (x := 61) dX12_read_74 (by decide) ?_
        refine sw_Vv dX12_read_76 k_X12_167 mf_X12_takes (q_tk0 (d := d - 1) (by omega) hT2 (by omega) (by rw [hTX2]; exact c2)) rfl ⟨_, rfl, rfl⟩ (by omega) (by omega) (by omega) rfl rfl (Nat.le_of_ble_eq_true rfl) ?_
        refine sw_if_eq 99 dX12_read_79 (by decide) (fun h79 => ?_) (fun h79 => ?_)
        · refine sw_iconst (x := 0) dX12_read_99 (by decide) ?_
          exact sw_iret dX12_read_100 rfl (by first | rfl | exact bz_n _) (by omega) (by omega) (KF (p + 1) (by rw [pR, if_pos c1, if_neg c2]) _ _ _ (fun z hz => hA2.2.1 z hz))
        · exact absurd rfl h79
