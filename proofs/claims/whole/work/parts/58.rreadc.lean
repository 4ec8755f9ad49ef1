/-! ===== THE REFERENCE: read, its contract ===== -/
theorem l_rd {l : Launch} {D : va_G} {cy : Nat → ClassId} {d n : Nat} {f : sw_F} {s : Nat → Int32} {T : Nat} {TX : Nat → Int32} {Q : sw_Q} {QX : sw_QX} (hd : 4 ≤ d) : ∀ F, RDs l D cy d n f s T TX Q QX F := by
  intro F
  induction F with
  | zero => intro g p P a o A hT hTX hp hF; omega
  | succ F ih =>
    intro g p P a o A hT hTX hp hF hP ha hg hw KF K
    by_cases c1 : r_nm (hc TX T p) = true
    · exact RD_as hd ih hT hTX hp hF hP ha hg hw KF K c1
    · by_cases c4 : hc TX T p = 63
      · exact RD_ch hd ih hT hTX hp hF hP ha hg hw KF K c1 c4
      · by_cases c5 : hc TX T p = 42
        · exact RD_lp hd ih hT hTX hp hF hP ha hg hw KF K c1 c4 c5
        · exact K rNo p (by rw [pR, if_neg c1, if_neg c4, if_neg c5]) A (RX_no hw)
/-- the whole text -/
def rdR (TX : Nat → Int32) (T : Nat) : Option RT × Nat := match pR TX T 100 0 0 with
  | (none, q) => (none, q)
  | (some t, q) => if q = T then (some t, q) else (none, q)
def RXT (A A' : Nat → Nat → Int32) (t : RT) : Prop := (∀ q, q < 159 ∨ 166 < q → A' q = A q) ∧ A' 159 0 = 6 ∧ A' 162 0 = lnk t 1 ∧ A' 164 0 = -1 ∧ rpR A' t 1
set_option maxRecDepth 100000 in
theorem c_rd_1 {l : Launch} {D : va_G} {cy : Nat → ClassId} {d n : Nat} {f : sw_F} {s : Nat → Int32} {A : Nat → Nat → Int32} (hd : 4 ≤ d) {T : Nat} (hT : TO s A T) {t : RT} {q : Nat} (hx : rdR (A 158) T = (some t, q)) : sw_Ct l D cy mX12_read d 0 0 [.ref 150] n (md f s A) (fun r n' f' => r = some (.int 1) ∧ n' = n ∧ ∃ A', RXT A A' t ∧ f' = md f (pS s q 0 (1 + szR t)) A') := by
  have hT72 := hT.2.1
  refine sw_of rfl (Nat.le_of_ble_eq_true rfl) ?_
  show SW l D cy mX12_read d 0 0 0 0 0 [(0, .ref 150)] [] n (md f s A) _ _
  refine sw_aload_n dX12_read_0 rfl (by first | rfl | assumption) ?_
  refine sw_iconst (x := 0) dX12_read_1 (by decide) ?_
  refine m_put dX12_read_2 fl_X12_157 (by decide) (sw_fit_i _) rfl ?_
  refine sw_aload_n dX12_read_5 rfl (by first | rfl | assumption) ?_
  refine sw_iconst (x := 0) dX12_read_6 (by decide) ?_
  refine m_put dX12_read_7 fl_X12_164 (by decide) (sw_fit_i _) rfl ?_
  refine sw_aload_n dX12_read_10 rfl (by first | rfl | assumption) ?_
  refine sw_iconst (x := 0) dX12_read_11 (by decide) ?_
  refine m_put dX12_read_12 fl_X12_171 (by decide) (sw_fit_i _) rfl ?_
  change SW l D cy mX12_read d 0 0 0 0 15 _ _ n (md f (pS s (0) (0) (0)) A) _ _
  refine sw_aload_n dX12_read_15 rfl (by first | rfl | assumption) ?_
  refine sw_bipush (x := 6) dX12_read_16 (by decide) ?_
  refine sw_iconst (x := (-1)) dX12_read_18 (by decide) ?_
  refine sw_Vv dX12_read_19 k_X12_177 mf_X12_part (c_X12_part0 (d := d - 1) (P := 0) rfl (by decide) 6) rfl ⟨_, rfl, rfl⟩ (by omega) (by omega) (by omega) rfl rfl (Nat.le_of_ble_eq_true rfl) ?_
  rw [pS_P]
  refine sw_istore_n [(0, _), (1, _)] dX12_read_22 (by decide) rfl ?_
  have hTX0 : (ptN A 0 6 (-1)) 158 = A 158 := by unfold ptN; repeat rw [u2_q _ _ (by decide)]
  have b1 : (ptN A 0 6 (-1)) 162 0 = -1 := by unfold ptN; rw [u2_q _ _ (by decide), u2_q _ _ (by decide), u2_q _ _ (by decide), u2_q _ _ (by decide), u2_at, if_pos ⟨rfl, rfl⟩]
  have b2 : (ptN A 0 6 (-1)) 159 0 = 6 := by unfold ptN; rw [u2_q _ _ (by decide), u2_q _ _ (by decide), u2_q _ _ (by decide), u2_q _ _ (by decide), u2_q _ _ (by decide), u2_q _ _ (by decide), u2_q _ _ (by decide), u2_at, if_pos ⟨rfl, rfl⟩]
  have b3 : (ptN A 0 6 (-1)) 164 0 = -1 := by unfold ptN; rw [u2_q _ _ (by decide), u2_q _ _ (by decide), u2_at, if_pos ⟨rfl, rfl⟩]
  have b4 : ∀ z, z < 159 ∨ 166 < z → (ptN A 0 6 (-1)) z = A z := by intro z hz; unfold ptN; repeat rw [u2_q _ _ (by omega)]
  have b5 : TO s (ptN A 0 6 (-1)) T := TO_A hT hTX0
  generalize (ptN A 0 6 (-1)) = B at *
  refine l_rd (TX := A 158) (T := T) hd 100 0 0 1 0 none B b5 hTX0 (by omega) (by omega) (by omega) (by omega) (by omega) ⟨Or.inl ⟨rfl, b1⟩, fun c hc => absurd hc (by simp)⟩ ?_ ?_
  · intro q1 w g' P' A' fr
    have hx := hx
    rw [rdR, w] at hx
    exact absurd (congrArg Prod.fst hx) (by simp)
  · intro t1 q1 w A' e1
    have hx := hx
    rw [rdR, w] at hx
    have hx : (if q1 = T then (some t1, q1) else (none, q1)) = _ := hx
    have l1 := pR_le (TX := A 158) 100 0 0 (show 0 ≤ T by omega)
    rw [w] at l1
    obtain ⟨l2, l3, l4⟩ := l1
    have l3 : q1 ≤ T := l3
    obtain ⟨l5, l6, l7, l8⟩ := l4 t1 rfl
    have l6 : r_nm (hc (A 158) T q1) = false := l6
    have l7 : ¬ hc (A 158) T q1 = 63 := l7
    have l8 : ¬ hc (A 158) T q1 = 42 := l8
    have fr1 : ∀ z, z < 159 ∨ 166 < z → A' z = A z := fun z hz => by rw [e1.2.1 z hz, b4 z hz]
    have hTX1 : A' 158 = A 158 := fr1 158 (by decide)
    have hT1 : TO s A' T := TO_A hT hTX1
    by_cases c : q1 = T
    · rw [if_pos c] at hx
      have h2 : q1 = q := congrArg Prod.snd hx
      subst h2
      have h3 : t1 = t := Option.some.inj (congrArg Prod.fst hx)
      subst h3
      refine sw_aload_n dX12_read_23 rfl (by first | rfl | assumption) ?_
      refine sw_get dX12_read_24 fr_X12_157 rfl rfl ?_
      refine sw_top (y := nI q1) rfl ?_
      refine sw_aload_n dX12_read_27 rfl (by first | rfl | assumption) ?_
      refine sw_get dX12_read_28 fr_X12_154 rfl rfl ?_
      refine sw_top (y := nI T) hT1.1 ?_
      refine sw_icmp_ge 263 dX12_read_31 (by decide) (fun h31 => ?_) (fun h31 => ?_)
      · refine sw_iload_n dX12_read_263 rfl ?_
        refine sw_if_ne 271 dX12_read_264 (by decide) (fun h264 => ?_) (fun h264 => ?_)
        · exact absurd rfl h264
        · refine sw_iconst (x := 1) dX12_read_267 (by decide) ?_
          refine sw_goto 272 dX12_read_268 (by decide) ?_
          exact sw_iret dX12_read_272 rfl (by first | rfl | exact bz_n _) (by omega) (by omega) ⟨rfl, rfl, _, ⟨fr1, (e1.1 159 0 (by omega) (by omega) (fun y => absurd y.1 (by simp))).trans b2, e1.2.2.2.1 rfl, (e1.1 164 0 (by omega) (by omega) (fun y => absurd y.1 (by simp))).trans b3, e1.2.2.1⟩, rfl⟩
      · exact absurd (show nI T ≤ nI q1 by rw [nI_leI (by omega) (by omega)]; omega) h31
    · rw [if_neg c] at hx
      exact absurd (congrArg Prod.fst hx) (by simp)
set_option maxRecDepth 100000 in
theorem c_rd_0 {l : Launch} {D : va_G} {cy : Nat → ClassId} {d n : Nat} {f : sw_F} {s : Nat → Int32} {A : Nat → Nat → Int32} (hd : 4 ≤ d) {T : Nat} (hT : TO s A T) {q : Nat} (hx : rdR (A 158) T = (none, q)) : sw_Ct l D cy mX12_read d 0 0 [.ref 150] n (md f s A) (fun r n' f' => r = some (.int 0) ∧ n' = n ∧ ∃ g' P' A', (∀ z, z < 159 ∨ 166 < z → A' z = A z) ∧ f' = md f (pS s q g' P') A') := by
  have hT72 := hT.2.1
  refine sw_of rfl (Nat.le_of_ble_eq_true rfl) ?_
  show SW l D cy mX12_read d 0 0 0 0 0 [(0, .ref 150)] [] n (md f s A) _ _
  refine sw_aload_n dX12_read_0 rfl (by first | rfl | assumption) ?_
  refine sw_iconst (x := 0) dX12_read_1 (by decide) ?_
  refine m_put dX12_read_2 fl_X12_157 (by decide) (sw_fit_i _) rfl ?_
  refine sw_aload_n dX12_read_5 rfl (by first | rfl | assumption) ?_
  refine sw_iconst (x := 0) dX12_read_6 (by decide) ?_
  refine m_put dX12_read_7 fl_X12_164 (by decide) (sw_fit_i _) rfl ?_
  refine sw_aload_n dX12_read_10 rfl (by first | rfl | assumption) ?_
  refine sw_iconst (x := 0) dX12_read_11 (by decide) ?_
  refine m_put dX12_read_12 fl_X12_171 (by decide) (sw_fit_i _) rfl ?_
  change SW l D cy mX12_read d 0 0 0 0 15 _ _ n (md f (pS s (0) (0) (0)) A) _ _
  refine sw_aload_n dX12_read_15 rfl (by first | rfl | assumption) ?_
  refine sw_bipush (x := 6) dX12_read_16 (by decide) ?_
  refine sw_iconst (x := (-1)) dX12_read_18 (by decide) ?_
  refine sw_Vv dX12_read_19 k_X12_177 mf_X12_part (c_X12_part0 (d := d - 1) (P := 0) rfl (by decide) 6) rfl ⟨_, rfl, rfl⟩ (by omega) (by omega) (by omega) rfl rfl (Nat.le_of_ble_eq_true rfl) ?_
  rw [pS_P]
  refine sw_istore_n [(0, _), (1, _)] dX12_read_22 (by decide) rfl ?_
  have hTX0 : (ptN A 0 6 (-1)) 158 = A 158 := by unfold ptN; repeat rw [u2_q _ _ (by decide)]
  have b1 : (ptN A 0 6 (-1)) 162 0 = -1 := by unfold ptN; rw [u2_q _ _ (by decide), u2_q _ _ (by decide), u2_q _ _ (by decide), u2_q _ _ (by decide), u2_at, if_pos ⟨rfl, rfl⟩]
  have b2 : (ptN A 0 6 (-1)) 159 0 = 6 := by unfold ptN; rw [u2_q _ _ (by decide), u2_q _ _ (by decide), u2_q _ _ (by decide), u2_q _ _ (by decide), u2_q _ _ (by decide), u2_q _ _ (by decide), u2_q _ _ (by decide), u2_at, if_pos ⟨rfl, rfl⟩]
  have b3 : (ptN A 0 6 (-1)) 164 0 = -1 := by unfold ptN; rw [u2_q _ _ (by decide), u2_q _ _ (by decide), u2_at, if_pos ⟨rfl, rfl⟩]
  have b4 : ∀ z, z < 159 ∨ 166 < z → (ptN A 0 6 (-1)) z = A z := by intro z hz; unfold ptN; repeat rw [u2_q _ _ (by omega)]
  have b5 : TO s (ptN A 0 6 (-1)) T := TO_A hT hTX0
  generalize (ptN A 0 6 (-1)) = B at *
  refine l_rd (TX := A 158) (T := T) hd 100 0 0 1 0 none B b5 hTX0 (by omega) (by omega) (by omega) (by omega) (by omega) ⟨Or.inl ⟨rfl, b1⟩, fun c hc => absurd hc (by simp)⟩ ?_ ?_
  · intro q1 w g' P' A' fr
    have hx := hx
    rw [rdR, w] at hx
    have h2 : q1 = q := congrArg Prod.snd hx
    subst h2
    exact ⟨rfl, rfl, g', P', A', fun z hz => by rw [fr z hz, b4 z hz], rfl⟩
  · intro t1 q1 w A' e1
    have hx := hx
    rw [rdR, w] at hx
    have hx : (if q1 = T then (some t1, q1) else (none, q1)) = _ := hx
    have l1 := pR_le (TX := A 158) 100 0 0 (show 0 ≤ T by omega)
    rw [w] at l1
    obtain ⟨l2, l3, l4⟩ := l1
    have l3 : q1 ≤ T := l3
    obtain ⟨l5, l6, l7, l8⟩ := l4 t1 rfl
    have l6 : r_nm (hc (A 158) T q1) = false := l6
    have l7 : ¬ hc (A 158) T q1 = 63 := l7
    have l8 : ¬ hc (A 158) T q1 = 42 := l8
    have fr1 : ∀ z, z < 159 ∨ 166 < z → A' z = A z := fun z hz => by rw [e1.2.1 z hz, b4 z hz]
    have hTX1 : A' 158 = A 158 := fr1 158 (by decide)
    have hT1 : TO s A' T := TO_A hT hTX1
    by_cases c : q1 = T
    · rw [if_pos c] at hx
      exact absurd (congrArg Prod.fst hx) (by simp)
    · rw [if_neg c] at hx
      have h2 : q1 = q := congrArg Prod.snd hx
      subst h2
      refine sw_aload_n dX12_read_23 rfl (by first | rfl | assumption) ?_
      refine sw_get dX12_read_24 fr_X12_157 rfl rfl ?_
      refine sw_top (y := nI q1) rfl ?_
      refine sw_aload_n dX12_read_27 rfl (by first | rfl | assumption) ?_
      refine sw_get dX12_read_28 fr_X12_154 rfl rfl ?_
      refine sw_top (y := nI T) hT1.1 ?_
      refine sw_icmp_ge 263 dX12_read_31 (by decide) (fun h31 => ?_) (fun h31 => ?_)
      · exact absurd h31 (by rw [nI_leI (by omega) (by omega)]; omega)
      · refine sw_aload_n dX12_read_34 rfl (by first | rfl | assumption) ?_
        refine sw_Vv dX12_read_35 k_X12_160 mf_X12_here (q_here (d := d - 1) hT1 (by omega)) rfl ⟨_, rfl, rfl⟩ (by omega) (by omega) (by omega) rfl rfl (Nat.le_of_ble_eq_true rfl) ?_
        refine sw_top (y := hc (A 158) T q1) (by rw [hTX1]) ?_
        refine sw_istore_n [(0, _), (1, _), (2, _)] dX12_read_38 (by decide) rfl ?_
        refine sw_iload_n dX12_read_39 rfl ?_
        refine sw_Sv dX12_read_40 k_X12_180 mf_X12_isName (c_X12_isName (d := d - 1) _) (by omega) (by omega) (by omega) rfl rfl (Nat.le_of_ble_eq_true rfl) ?_
        refine sw_if_eq 104 dX12_read_43 (by decide) (fun h43 => ?_) (fun h43 => ?_)
        · refine sw_iload_n dX12_read_104 rfl ?_
          refine sw_bipush (x := 63) dX12_read_105 (by decide) ?_
          refine sw_icmp_eq 116 dX12_read_107 (by decide) (fun h107 => ?_) (fun h107 => ?_)
          · exact absurd h107 l7
          · refine sw_iload_n dX12_read_110 rfl ?_
            refine sw_bipush (x := 42) dX12_read_111 (by decide) ?_
            refine sw_icmp_ne 173 dX12_read_113 (by decide) (fun h113 => ?_) (fun h113 => ?_)
            · refine sw_iload_n dX12_read_173 rfl ?_
              refine sw_bipush (x := 125) dX12_read_174 (by decide) ?_
              refine sw_icmp_ne 258 dX12_read_176 (by decide) (fun h176 => ?_) (fun h176 => ?_)
              · refine sw_iconst (x := 0) dX12_read_258 (by decide) ?_
                exact sw_iret dX12_read_259 rfl (by first | rfl | exact bz_n _) (by omega) (by omega) ⟨rfl, rfl, _, _, _, fr1, rfl⟩
              · refine sw_iload_n dX12_read_179 rfl ?_
                refine sw_if_eq 258 dX12_read_180 (by decide) (fun h180 => ?_) (fun h180 => ?_)
                · refine sw_iconst (x := 0) dX12_read_258 (by decide) ?_
                  exact sw_iret dX12_read_259 rfl (by first | rfl | exact bz_n _) (by omega) (by omega) ⟨rfl, rfl, _, _, _, fr1, rfl⟩
                · exact absurd rfl h180
            · exact absurd h113 l8
        · exact absurd (by rw [l6]; rfl) h43
