/-! ===== THE REFERENCE: begin ===== -/
theorem nI_sub {a b : Nat} (h : b ≤ a) : nI a - nI b = nI (a - b) := by
  have q : nI a = nI (a - b) + nI b := by rw [nI_add, show a - b + b = a by omega]
  rw [q, Int32.add_sub_cancel]
theorem u2_u2 (A : Nat → Nat → Int32) (p i : Nat) (x y : Int32) : u2 (u2 A p i x) p i y = u2 A p i y := by
  funext q j
  rw [u2_at, u2_at, u2_at]
  by_cases z : q = p ∧ j = i
  · rw [if_pos z, if_pos z]
  · rw [if_neg z, if_neg z, if_neg z]
theorem r_nm_i {c : Int32} (h : r_nm c = true) : ∃ k, 97 ≤ k ∧ k ≤ 104 ∧ c = nI k := by
  have h : 97 ≤ c ∧ c ≤ 104 := of_decide_eq_true h
  obtain ⟨k, hk, rfl⟩ := nI_of2 (M := 104) (n := 104) (by decide) (show ¬ c < 0 by grind) h.2
  exact ⟨k, (nI_leI (by omega) (by omega)).mp (by rw [← nl_97]; exact h.1), hk, rfl⟩
theorem r_dg_i {c : Int32} (h : r_dg c = true) : ∃ k, 48 ≤ k ∧ k ≤ 57 ∧ c = nI k := by
  have h : 48 ≤ c ∧ c ≤ 57 := of_decide_eq_true h
  obtain ⟨k, hk, rfl⟩ := nI_of2 (M := 57) (n := 57) (by decide) (show ¬ c < 0 by grind) h.2
  exact ⟨k, (nI_leI (by omega) (by omega)).mp (show nI 48 ≤ nI k from h.1), hk, rfl⟩
theorem r_nm_k {k : Nat} (h1 : 97 ≤ k) (h2 : k ≤ 104) : r_nm (nI k) = true ∧ r_dg (nI k) = false ∧ ¬ nI k = 40 := by
  refine ⟨decide_eq_true ⟨?_, ?_⟩, decide_eq_false (fun q => ?_), fun q => ?_⟩
  · rw [nl_97, nI_leI (by omega) (by omega)]; exact h1
  · rw [show (104 : Int32) = nI 104 by decide, nI_leI (by omega) (by omega)]; exact h2
  · have q := q.2
    rw [show (57 : Int32) = nI 57 by decide, nI_leI (by omega) (by omega)] at q
    omega
  · have := nI_inj (by omega) (by omega) (show nI k = nI 40 from q)
    omega
theorem r_dg_k {k : Nat} (h1 : 48 ≤ k) (h2 : k ≤ 57) : r_dg (nI k) = true ∧ r_nm (nI k) = false ∧ ¬ nI k = 40 := by
  refine ⟨decide_eq_true ⟨?_, ?_⟩, decide_eq_false (fun q => ?_), fun q => ?_⟩
  · rw [show (48 : Int32) = nI 48 by decide, nI_leI (by omega) (by omega)]; exact h1
  · rw [show (57 : Int32) = nI 57 by decide, nI_leI (by omega) (by omega)]; exact h2
  · have q := q.1
    rw [nl_97, nI_leI (by omega) (by omega)] at q
    omega
  · have := nI_inj (by omega) (by omega) (show nI k = nI 40 from q)
    omega
set_option maxRecDepth 100000 in
theorem c_begin_0 {l : Launch} {D : va_G} {cy : Nat → ClassId} {d n : Nat} {f : sw_F} {s : Nat → Int32} {A : Nat → Nat → Int32} (hd : 2 ≤ d) {T p e P a : Nat} (hT : TO s A T) (hp : p ≤ 72) (ha : a < P) (hP : P < 160) (h : hc (A 158) T p = 40) (he : e = 6) : sw_Ct l D cy mX12_begin d 0 0 [.ref 150, .int (nI a)] n (md f (pS s (p) (e) (P)) A) (sw_D (some (.int (-1))) n (md f (pS s (p) (e) (P)) A)) := by
  refine sw_of rfl (Nat.le_of_ble_eq_true rfl) ?_
  show SW l D cy mX12_begin d 0 0 0 0 0 [(0, .ref 150), (1, .int (nI a))] [] n (md f (pS s (p) (e) (P)) A) _ _
  refine sw_aload_n dX12_begin_0 rfl (by first | rfl | assumption) ?_
  refine sw_Vv dX12_begin_1 k_X12_160 mf_X12_here (q_here (d := d - 1) hT (by omega)) rfl ⟨_, rfl, rfl⟩ (by omega) (by omega) (by omega) rfl rfl (Nat.le_of_ble_eq_true rfl) ?_
  refine sw_top (y := 40) h ?_
  refine sw_istore_n [(0, _), (1, _), (2, _)] dX12_begin_4 (by decide) rfl ?_
  refine sw_iload_n dX12_begin_5 rfl ?_
  refine sw_bipush (x := 40) dX12_begin_6 (by decide) ?_
  refine sw_icmp_ne 31 dX12_begin_8 (by decide) (fun h8 => ?_) (fun h8 => ?_)
  · exact absurd rfl h8
  · refine sw_aload_n dX12_begin_11 rfl (by first | rfl | assumption) ?_
    refine sw_bipush (x := 40) dX12_begin_12 (by decide) ?_
    refine sw_Vv dX12_begin_14 k_X12_174 mf_X12_opens (by have q := q_opens (l := l) (D := D) (cy := cy) (d := d - 1) (n := n) (f := f) (s := s) (P := P) (by omega) hT (p := p) (e := e) (by omega) (by omega) 40; rw [decide_eq_false (fun z => absurd z.2 (by omega)), if_neg (fun z => absurd z.2 (by omega)), if_neg (fun z => absurd z.2 (by omega))] at q; exact q) rfl ⟨_, rfl, rfl⟩ (by omega) (by omega) (by omega) rfl rfl (Nat.le_of_ble_eq_true rfl) ?_
    refine sw_if_ne 22 dX12_begin_17 (by decide) (fun h17 => ?_) (fun h17 => ?_)
    · exact absurd rfl h17
    · refine sw_iconst (x := (-1)) dX12_begin_20 (by decide) ?_
      exact sw_iret dX12_begin_21 rfl (by first | rfl | exact bz_n _) (by omega) (by omega) ⟨rfl, rfl, rfl⟩
set_option maxRecDepth 100000 in
theorem c_begin_1 {l : Launch} {D : va_G} {cy : Nat → ClassId} {d n : Nat} {f : sw_F} {s : Nat → Int32} {A : Nat → Nat → Int32} (hd : 2 ≤ d) {T p e P a : Nat} (hT : TO s A T) (hp : p ≤ 72) (ha : a < P) (hP : P < 160) {o : Option Nat} (hv : PV A a P o) (h : hc (A 158) T p = 40) (he : e < 6) : ∃ A', PT A A' P a o 2 0 ∧ sw_Ct l D cy mX12_begin d 0 0 [.ref 150, .int (nI a)] n (md f (pS s (p) (e) (P)) A) (sw_D (some (.int (1))) n (md f (pS s (p + 1) (e + 1) (P + 1)) A')) := by
  obtain ⟨A', hA, hct⟩ := q_part (l := l) (D := D) (cy := cy) (d := d - 1) (n := n) (f := f) (s := s) (p := p + 1) (e := e + 1) ha hP hv 2
  refine ⟨A', hA, ?_⟩
  refine sw_of rfl (Nat.le_of_ble_eq_true rfl) ?_
  show SW l D cy mX12_begin d 0 0 0 0 0 [(0, .ref 150), (1, .int (nI a))] [] n (md f (pS s (p) (e) (P)) A) _ _
  refine sw_aload_n dX12_begin_0 rfl (by first | rfl | assumption) ?_
  refine sw_Vv dX12_begin_1 k_X12_160 mf_X12_here (q_here (d := d - 1) hT (by omega)) rfl ⟨_, rfl, rfl⟩ (by omega) (by omega) (by omega) rfl rfl (Nat.le_of_ble_eq_true rfl) ?_
  refine sw_top (y := 40) h ?_
  refine sw_istore_n [(0, _), (1, _), (2, _)] dX12_begin_4 (by decide) rfl ?_
  refine sw_iload_n dX12_begin_5 rfl ?_
  refine sw_bipush (x := 40) dX12_begin_6 (by decide) ?_
  refine sw_icmp_ne 31 dX12_begin_8 (by decide) (fun h8 => ?_) (fun h8 => ?_)
  · exact absurd rfl h8
  · refine sw_aload_n dX12_begin_11 rfl (by first | rfl | assumption) ?_
    refine sw_bipush (x := 40) dX12_begin_12 (by decide) ?_
    refine sw_Vv dX12_begin_14 k_X12_174 mf_X12_opens (by have q := q_opens (l := l) (D := D) (cy := cy) (d := d - 1) (n := n) (f := f) (s := s) (P := P) (by omega) hT (p := p) (e := e) (by omega) (by omega) 40; rw [decide_eq_true ⟨h, he⟩, if_pos ⟨h, he⟩, if_pos ⟨h, he⟩] at q; exact q) rfl ⟨_, rfl, rfl⟩ (by omega) (by omega) (by omega) rfl rfl (Nat.le_of_ble_eq_true rfl) ?_
    refine sw_if_ne 22 dX12_begin_17 (by decide) (fun h17 => ?_) (fun h17 => ?_)
    · refine sw_aload_n dX12_begin_22 rfl (by first | rfl | assumption) ?_
      refine sw_iconst (x := 2) dX12_begin_23 (by decide) ?_
      refine sw_iload_n dX12_begin_24 rfl ?_
      refine sw_Vv dX12_begin_25 k_X12_177 mf_X12_part hct rfl ⟨_, rfl, rfl⟩ (by omega) (by omega) (by omega) rfl rfl (Nat.le_of_ble_eq_true rfl) ?_
      refine sw_istore_n [(0, _), (1, _), (2, _), (3, _)] dX12_begin_28 (by decide) rfl ?_
      refine sw_iconst (x := 1) dX12_begin_29 (by decide) ?_
      exact sw_iret dX12_begin_30 rfl (by first | rfl | exact bz_n _) (by omega) (by omega) ⟨rfl, rfl, rfl⟩
    · exact absurd h17 (by decide)
set_option maxRecDepth 100000 in
theorem c_begin_2 {l : Launch} {D : va_G} {cy : Nat → ClassId} {d n : Nat} {f : sw_F} {s : Nat → Int32} {A : Nat → Nat → Int32} (hd : 2 ≤ d) {T p e P a : Nat} (hT : TO s A T) (hp : p ≤ 72) (ha : a < P) (hP : P < 160) (h : ¬ hc (A 158) T p = 40) (h1 : r_nm (hc (A 158) T p) = false) (h2 : r_dg (hc (A 158) T p) = false) : sw_Ct l D cy mX12_begin d 0 0 [.ref 150, .int (nI a)] n (md f (pS s (p) (e) (P)) A) (sw_D (some (.int (-1))) n (md f (pS s (p) (e) (P)) A)) := by
  refine sw_of rfl (Nat.le_of_ble_eq_true rfl) ?_
  show SW l D cy mX12_begin d 0 0 0 0 0 [(0, .ref 150), (1, .int (nI a))] [] n (md f (pS s (p) (e) (P)) A) _ _
  refine sw_aload_n dX12_begin_0 rfl (by first | rfl | assumption) ?_
  refine sw_Vv dX12_begin_1 k_X12_160 mf_X12_here (q_here (d := d - 1) hT (by omega)) rfl ⟨_, rfl, rfl⟩ (by omega) (by omega) (by omega) rfl rfl (Nat.le_of_ble_eq_true rfl) ?_
  refine sw_istore_n [(0, _), (1, _), (2, _)] dX12_begin_4 (by decide) rfl ?_
  refine sw_iload_n dX12_begin_5 rfl ?_
  refine sw_bipush (x := 40) dX12_begin_6 (by decide) ?_
  refine sw_icmp_ne 31 dX12_begin_8 (by decide) (fun h8 => ?_) (fun h8 => ?_)
  · refine sw_iload_n dX12_begin_31 rfl ?_
    refine sw_Sv dX12_begin_32 k_X12_180 mf_X12_isName (c_X12_isName (d := d - 1) _) (by omega) (by omega) (by omega) rfl rfl (Nat.le_of_ble_eq_true rfl) ?_
    refine sw_if_ne 47 dX12_begin_35 (by decide) (fun h35 => ?_) (fun h35 => ?_)
    · exact absurd (show bz (r_nm (hc (A 158) T p)) = 0 by rw [h1]; rfl) h35
    · refine sw_iload_n dX12_begin_38 rfl ?_
      refine sw_Sv dX12_begin_39 k_X12_183 mf_X12_isDigit (c_X12_isDigit (d := d - 1) _) (by omega) (by omega) (by omega) rfl rfl (Nat.le_of_ble_eq_true rfl) ?_
      refine sw_if_ne 47 dX12_begin_42 (by decide) (fun h42 => ?_) (fun h42 => ?_)
      · exact absurd (show bz (r_dg (hc (A 158) T p)) = 0 by rw [h2]; rfl) h42
      · refine sw_iconst (x := (-1)) dX12_begin_45 (by decide) ?_
        exact sw_iret dX12_begin_46 rfl (by first | rfl | exact bz_n _) (by omega) (by omega) ⟨rfl, rfl, rfl⟩
  · exact absurd h8 h
set_option maxRecDepth 100000 in
theorem c_begin_3 {l : Launch} {D : va_G} {cy : Nat → ClassId} {d n : Nat} {f : sw_F} {s : Nat → Int32} {A : Nat → Nat → Int32} (hd : 2 ≤ d) {T p e P a : Nat} (hT : TO s A T) (hp : p ≤ 72) (ha : a < P) (hP : P < 160) {o : Option Nat} (hv : PV A a P o) (h : r_nm (hc (A 158) T p) = true) : ∃ A', PT A A' P a o 1 (nI ((hc (A 158) T p).toNatClampNeg - 97)) ∧ sw_Ct l D cy mX12_begin d 0 0 [.ref 150, .int (nI a)] n (md f (pS s (p) (e) (P)) A) (sw_D (some (.int (0))) n (md f (pS s (p + 1) (e) (P + 1)) A')) := by
  obtain ⟨A1, hA, hct⟩ := q_part (l := l) (D := D) (cy := cy) (d := d - 1) (n := n) (f := f) (s := s) (p := p) (e := e) ha hP hv 1
  obtain ⟨k, k1, k2, hk⟩ := r_nm_i h
  obtain ⟨k3, k4, k5⟩ := r_nm_k k1 k2
  have e1 : (hc (A 158) T p).toNatClampNeg - 97 = k - 97 := by rw [hk, nI_clamp (by omega)]
  refine ⟨u2 A1 160 P (nI (k - 97)), by rw [e1]; exact PT_v (by omega) hA _, ?_⟩
  refine sw_of rfl (Nat.le_of_ble_eq_true rfl) ?_
  show SW l D cy mX12_begin d 0 0 0 0 0 [(0, .ref 150), (1, .int (nI a))] [] n (md f (pS s (p) (e) (P)) A) _ _
  refine sw_aload_n dX12_begin_0 rfl (by first | rfl | assumption) ?_
  refine sw_Vv dX12_begin_1 k_X12_160 mf_X12_here (q_here (d := d - 1) hT (by omega)) rfl ⟨_, rfl, rfl⟩ (by omega) (by omega) (by omega) rfl rfl (Nat.le_of_ble_eq_true rfl) ?_
  refine sw_top (y := nI k) hk ?_
  refine sw_istore_n [(0, _), (1, _), (2, _)] dX12_begin_4 (by decide) rfl ?_
  refine sw_iload_n dX12_begin_5 rfl ?_
  refine sw_bipush (x := 40) dX12_begin_6 (by decide) ?_
  refine sw_icmp_ne 31 dX12_begin_8 (by decide) (fun h8 => ?_) (fun h8 => ?_)
  · refine sw_iload_n dX12_begin_31 rfl ?_
    refine sw_Sv dX12_begin_32 k_X12_180 mf_X12_isName (c_X12_isName (d := d - 1) _) (by omega) (by omega) (by omega) rfl rfl (Nat.le_of_ble_eq_true rfl) ?_
    refine sw_if_ne 47 dX12_begin_35 (by decide) (fun h35 => ?_) (fun h35 => ?_)
    · refine sw_aload_n dX12_begin_47 rfl (by first | rfl | assumption) ?_
      refine sw_iload_n dX12_begin_48 rfl ?_
      refine sw_Sv dX12_begin_49 k_X12_180 mf_X12_isName (c_X12_isName (d := d - 1) _) (by omega) (by omega) (by omega) rfl rfl (Nat.le_of_ble_eq_true rfl) ?_
      refine sw_if_eq 59 dX12_begin_52 (by decide) (fun h52 => ?_) (fun h52 => ?_)
      · exact absurd h52 (by rw [k3]; decide)
      · refine sw_iconst (x := 1) dX12_begin_55 (by decide) ?_
        refine sw_goto 60 dX12_begin_56 (by decide) ?_
        refine sw_iload_n dX12_begin_60 rfl ?_
        refine sw_Vv dX12_begin_61 k_X12_177 mf_X12_part hct rfl ⟨_, rfl, rfl⟩ (by omega) (by omega) (by omega) rfl rfl (Nat.le_of_ble_eq_true rfl) ?_
        refine sw_istore_n [(0, _), (1, _), (2, _), (3, _)] dX12_begin_64 (by decide) rfl ?_
        refine sw_aload_n dX12_begin_65 rfl (by first | rfl | assumption) ?_
        refine sw_get dX12_begin_66 fr_X12_46 rfl rfl ?_
        refine sw_iload_n dX12_begin_69 rfl ?_
        refine sw_iload_n dX12_begin_70 rfl ?_
        refine sw_Sv dX12_begin_71 k_X12_180 mf_X12_isName (c_X12_isName (d := d - 1) _) (by omega) (by omega) (by omega) rfl rfl (Nat.le_of_ble_eq_true rfl) ?_
        refine sw_if_eq 84 dX12_begin_74 (by decide) (fun h74 => ?_) (fun h74 => ?_)
        · exact absurd h74 (by rw [k3]; decide)
        · refine sw_iload_n dX12_begin_77 rfl ?_
          refine sw_bipush (x := 97) dX12_begin_78 (by decide) ?_
          refine sw_isub dX12_begin_80 ?_
          refine sw_goto 85 dX12_begin_81 (by decide) ?_
          refine sw_top (y := nI (k - 97)) (nI_sub k1) ?_
          refine m_iast (P) dX12_begin_85 ⟨by decide, by decide, rfl⟩ rfl (show P < 160 by omega) rfl ?_
          change SW l D cy mX12_begin d 0 0 0 0 86 _ _ n (md f (pS s (p) (e) (P + 1)) (u2 A1 160 P (nI (k - 97)))) _ _
          refine sw_iconst (x := 0) dX12_begin_86 (by decide) ?_
          refine sw_istore [(0, _), (1, _), (2, _), (3, _), (4, _)] dX12_begin_87 (by decide) rfl ?_
          refine sw_iload dX12_begin_89 rfl ?_
          refine sw_iconst (x := 3) dX12_begin_91 (by decide) ?_
          refine sw_icmp_ge 153 dX12_begin_92 (by decide) (fun h92 => ?_) (fun h92 => ?_)
          · exact absurd h92 (by decide)
          · refine sw_aload_n dX12_begin_95 rfl (by first | rfl | assumption) ?_
            refine sw_get dX12_begin_96 fr_X12_43 rfl rfl ?_
            refine sw_iload_n dX12_begin_99 rfl ?_
            refine sw_ialdN (P) dX12_begin_100 rfl rfl (show P < 160 by omega) (by decide) ?_
            refine sw_top (y := 1) (PT_v (by omega) hA (nI (k - 97))).2.2.1 ?_
            refine sw_if_ne 153 dX12_begin_101 (by decide) (fun h101 => ?_) (fun h101 => ?_)
            · refine sw_aload_n dX12_begin_153 rfl (by first | rfl | assumption) ?_
              refine sw_aload_n dX12_begin_154 rfl (by first | rfl | assumption) ?_
              refine sw_get dX12_begin_155 fr_X12_43 rfl rfl ?_
              refine sw_iload_n dX12_begin_158 rfl ?_
              refine sw_ialdN (P) dX12_begin_159 rfl rfl (show P < 160 by omega) (by decide) ?_
              refine sw_top (y := 1) (PT_v (by omega) hA (nI (k - 97))).2.2.1 ?_
              refine sw_iconst (x := 1) dX12_begin_160 (by decide) ?_
              refine sw_icmp_ne 173 dX12_begin_161 (by decide) (fun h161 => ?_) (fun h161 => ?_)
              · exact absurd rfl h161
              · refine sw_aload_n dX12_begin_164 rfl (by first | rfl | assumption) ?_
                refine sw_get dX12_begin_165 fr_X12_157 rfl rfl ?_
                refine sw_iconst (x := 1) dX12_begin_168 (by decide) ?_
                refine sw_iadd dX12_begin_169 ?_
                refine sw_goto 177 dX12_begin_170 (by decide) ?_
                refine sw_top (y := nI (p + 1)) (nI_1 p) ?_
                refine m_put dX12_begin_177 fl_X12_157 (by decide) (sw_fit_i _) rfl ?_
                refine sw_iconst (x := 0) dX12_begin_180 (by decide) ?_
                exact sw_iret dX12_begin_181 rfl (by first | rfl | exact bz_n _) (by omega) (by omega) ⟨rfl, rfl, by rw [pS_p]⟩
            · exact absurd h101 (by decide)
    · exact absurd h35 (by rw [k3]; decide)
  · exact absurd h8 k5
set_option maxRecDepth 100000 in
theorem l_begin {l : Launch} {D : va_G} {cy : Nat → ClassId} {d n : Nat} {f : sw_F} {s : Nat → Int32} {A : Nat → Nat → Int32} (hd : 2 ≤ d) {A1 : Nat → Nat → Int32} {T e P a : Nat} {cc : Int32} (hT : TO s A1 T) (hP : P < 160) (h0 : A1 159 P = 0) {Q : sw_Q} {QX : sw_QX} : ∀ (c k p v : Nat), k + c = 3 → p + c ≤ 100 → SW l D cy mX12_begin d 0 0 0 0 153 [(0, .ref 150), (1, .int (nI a)), (2, .int cc), (3, .int (nI P))] [] n (md f (pS s ((pN (A1 158) T c p v).2) (e) (P + 1)) (u2 A1 160 P (nI (pN (A1 158) T c p v).1))) Q QX → SW l D cy mX12_begin d 0 0 0 0 89 [(0, .ref 150), (1, .int (nI a)), (2, .int cc), (3, .int (nI P)), (4, .int (nI k))] [] n (md f (pS s (p) (e) (P + 1)) (u2 A1 160 P (nI v))) Q QX := by
  intro c
  induction c with
  | zero =>
    intro k p v hk hp K
    refine sw_iload dX12_begin_89 rfl ?_
    refine sw_iconst (x := 3) dX12_begin_91 (by decide) ?_
    refine sw_icmp_ge 153 dX12_begin_92 (by decide) (fun h92 => ?_) (fun h92 => ?_)
    · refine sw_keep [0, 1, 2, 3] rfl ?_
      exact K
    · exact absurd (show (3 : Int32) ≤ nI k by rw [show k = 3 by omega]; decide) h92
  | succ c ih =>
    intro k p v hk hp K
    have hT2 : TO s (u2 A1 160 P (nI v)) T := TO_A hT rfl
    refine sw_iload dX12_begin_89 rfl ?_
    refine sw_iconst (x := 3) dX12_begin_91 (by decide) ?_
    refine sw_icmp_ge 153 dX12_begin_92 (by decide) (fun h92 => ?_) (fun h92 => ?_)
    · refine sw_keep [0, 1, 2, 3] rfl ?_
      exact absurd h92 (by rw [nl_3, nI_leI (by omega) (by omega)]; omega)
    · refine sw_aload_n dX12_begin_95 rfl (by first | rfl | assumption) ?_
      refine sw_get dX12_begin_96 fr_X12_43 rfl rfl ?_
      refine sw_iload_n dX12_begin_99 rfl ?_
      refine sw_ialdN (P) dX12_begin_100 rfl rfl (show P < 160 by omega) (by decide) ?_
      refine sw_top (y := 0) (show u2 A1 160 P (nI v) 159 P = 0 from h0) ?_
      refine sw_if_ne 153 dX12_begin_101 (by decide) (fun h101 => ?_) (fun h101 => ?_)
      · refine sw_keep [0, 1, 2, 3] rfl ?_
        exact absurd rfl h101
      · refine sw_aload_n dX12_begin_104 rfl (by first | rfl | assumption) ?_
        refine sw_Vv dX12_begin_105 k_X12_160 mf_X12_here (q_here (d := d - 1) hT2 (by omega)) rfl ⟨_, rfl, rfl⟩ (by omega) (by omega) (by omega) rfl rfl (Nat.le_of_ble_eq_true rfl) ?_
        refine sw_top (y := hc (A1 158) T p) rfl ?_
        refine sw_Sv dX12_begin_108 k_X12_183 mf_X12_isDigit (c_X12_isDigit (d := d - 1) _) (by omega) (by omega) (by omega) rfl rfl (Nat.le_of_ble_eq_true rfl) ?_
        refine sw_if_eq 153 dX12_begin_111 (by decide) (fun h111 => ?_) (fun h111 => ?_)
        · refine sw_keep [0, 1, 2, 3] rfl ?_
          rw [pN, if_neg (by rw [bz_0.mp h111]; decide)] at K
          exact K
        · have g1 := bz_ne.mp h111
          obtain ⟨j, j1, j2, hj⟩ := r_dg_i g1
          rw [pN, if_pos g1, hj, nI_clamp (by omega)] at K
          refine sw_aload_n dX12_begin_114 rfl (by first | rfl | assumption) ?_
          refine sw_get dX12_begin_115 fr_X12_46 rfl rfl ?_
          refine sw_iload_n dX12_begin_118 rfl ?_
          refine sw_bipush (x := 10) dX12_begin_119 (by decide) ?_
          refine sw_aload_n dX12_begin_121 rfl (by first | rfl | assumption) ?_
          refine sw_get dX12_begin_122 fr_X12_46 rfl rfl ?_
          refine sw_iload_n dX12_begin_125 rfl ?_
          refine sw_ialdN (P) dX12_begin_126 rfl rfl (show P < 160 by omega) (by decide) ?_
          refine sw_top (y := nI v) (by rw [u2_at, if_pos ⟨rfl, rfl⟩]) ?_
          refine sw_imul dX12_begin_127 ?_
          refine sw_aload_n dX12_begin_128 rfl (by first | rfl | assumption) ?_
          refine sw_Vv dX12_begin_129 k_X12_160 mf_X12_here (q_here (d := d - 1) hT2 (by omega)) rfl ⟨_, rfl, rfl⟩ (by omega) (by omega) (by omega) rfl rfl (Nat.le_of_ble_eq_true rfl) ?_
          refine sw_top (y := nI j) hj ?_
          refine sw_iadd dX12_begin_132 ?_
          refine sw_bipush (x := 48) dX12_begin_133 (by decide) ?_
          refine sw_isub dX12_begin_135 ?_
          refine sw_top (y := nI (10 * v + (j - 48))) (by rw [nl_10, pk_mul, nI_add, show (48 : Int32) = nI 48 by decide, nI_sub (by omega), show 10 * v + j - 48 = 10 * v + (j - 48) by omega]) ?_
          refine m_iast (P) dX12_begin_136 ⟨by decide, by decide, rfl⟩ rfl (show P < 160 by omega) rfl ?_
          refine m_eq rfl (show _ = u2 A1 160 P (nI (10 * v + (j - 48))) from u2_u2 A1 160 P _ _) ?_
          refine sw_aload_n dX12_begin_137 rfl (by first | rfl | assumption) ?_
          refine sw_dup dX12_begin_138 rfl ?_
          refine sw_get dX12_begin_139 fr_X12_157 rfl rfl ?_
          refine sw_iconst (x := 1) dX12_begin_142 (by decide) ?_
          refine sw_iadd dX12_begin_143 ?_
          refine sw_top (y := nI (p + 1)) (nI_1 p) ?_
          refine m_put dX12_begin_144 fl_X12_157 (by decide) (sw_fit_i _) rfl ?_
          rw [pS_p]
          first | refine sw_inc1 [(0, _), (1, _), (2, _), (3, _), (4, _)] dX12_begin_147 rfl (by decide) rfl ?_ | refine sw_iinc [(0, _), (1, _), (2, _), (3, _), (4, _)] dX12_begin_147 rfl (by decide) rfl ?_
          refine sw_goto 89 dX12_begin_150 (by decide) ?_
          exact ih (k + 1) (p + 1) _ (by omega) (by omega) K
set_option maxRecDepth 100000 in
theorem c_begin_4 {l : Launch} {D : va_G} {cy : Nat → ClassId} {d n : Nat} {f : sw_F} {s : Nat → Int32} {A : Nat → Nat → Int32} (hd : 2 ≤ d) {T p e P a : Nat} (hT : TO s A T) (hp : p ≤ 72) (ha : a < P) (hP : P < 160) {o : Option Nat} (hv : PV A a P o) (h : r_dg (hc (A 158) T p) = true) : ∃ A', PT A A' P a o 0 (nI (pN (A 158) T 3 p 0).1) ∧ sw_Ct l D cy mX12_begin d 0 0 [.ref 150, .int (nI a)] n (md f (pS s (p) (e) (P)) A) (sw_D (some (.int (0))) n (md f (pS s ((pN (A 158) T 3 p 0).2) (e) (P + 1)) A')) := by
  obtain ⟨A1, hA, hct⟩ := q_part (l := l) (D := D) (cy := cy) (d := d - 1) (n := n) (f := f) (s := s) (p := p) (e := e) ha hP hv 0
  obtain ⟨k, k1, k2, hk⟩ := r_dg_i h
  obtain ⟨k3, k4, k5⟩ := r_dg_k k1 k2
  have htx : A1 158 = A 158 := hA.2.1 158 (by decide)
  have hT1 : TO s A1 T := TO_A hT htx
  refine ⟨u2 A1 160 P (nI (pN (A 158) T 3 p 0).1), PT_v (by omega) hA _, ?_⟩
  refine sw_of rfl (Nat.le_of_ble_eq_true rfl) ?_
  show SW l D cy mX12_begin d 0 0 0 0 0 [(0, .ref 150), (1, .int (nI a))] [] n (md f (pS s (p) (e) (P)) A) _ _
  refine sw_aload_n dX12_begin_0 rfl (by first | rfl | assumption) ?_
  refine sw_Vv dX12_begin_1 k_X12_160 mf_X12_here (q_here (d := d - 1) hT (by omega)) rfl ⟨_, rfl, rfl⟩ (by omega) (by omega) (by omega) rfl rfl (Nat.le_of_ble_eq_true rfl) ?_
  refine sw_top (y := nI k) hk ?_
  refine sw_istore_n [(0, _), (1, _), (2, _)] dX12_begin_4 (by decide) rfl ?_
  refine sw_iload_n dX12_begin_5 rfl ?_
  refine sw_bipush (x := 40) dX12_begin_6 (by decide) ?_
  refine sw_icmp_ne 31 dX12_begin_8 (by decide) (fun h8 => ?_) (fun h8 => ?_)
  · refine sw_iload_n dX12_begin_31 rfl ?_
    refine sw_Sv dX12_begin_32 k_X12_180 mf_X12_isName (c_X12_isName (d := d - 1) _) (by omega) (by omega) (by omega) rfl rfl (Nat.le_of_ble_eq_true rfl) ?_
    refine sw_if_ne 47 dX12_begin_35 (by decide) (fun h35 => ?_) (fun h35 => ?_)
    · exact absurd (show bz (r_nm (nI k)) = 0 by rw [k4]; rfl) h35
    · refine sw_iload_n dX12_begin_38 rfl ?_
      refine sw_Sv dX12_begin_39 k_X12_183 mf_X12_isDigit (c_X12_isDigit (d := d - 1) _) (by omega) (by omega) (by omega) rfl rfl (Nat.le_of_ble_eq_true rfl) ?_
      refine sw_if_ne 47 dX12_begin_42 (by decide) (fun h42 => ?_) (fun h42 => ?_)
      · refine sw_aload_n dX12_begin_47 rfl (by first | rfl | assumption) ?_
        refine sw_iload_n dX12_begin_48 rfl ?_
        refine sw_Sv dX12_begin_49 k_X12_180 mf_X12_isName (c_X12_isName (d := d - 1) _) (by omega) (by omega) (by omega) rfl rfl (Nat.le_of_ble_eq_true rfl) ?_
        refine sw_if_eq 59 dX12_begin_52 (by decide) (fun h52 => ?_) (fun h52 => ?_)
        · refine sw_iconst (x := 0) dX12_begin_59 (by decide) ?_
          refine sw_iload_n dX12_begin_60 rfl ?_
          refine sw_Vv dX12_begin_61 k_X12_177 mf_X12_part hct rfl ⟨_, rfl, rfl⟩ (by omega) (by omega) (by omega) rfl rfl (Nat.le_of_ble_eq_true rfl) ?_
          refine sw_istore_n [(0, _), (1, _), (2, _), (3, _)] dX12_begin_64 (by decide) rfl ?_
          refine sw_aload_n dX12_begin_65 rfl (by first | rfl | assumption) ?_
          refine sw_get dX12_begin_66 fr_X12_46 rfl rfl ?_
          refine sw_iload_n dX12_begin_69 rfl ?_
          refine sw_iload_n dX12_begin_70 rfl ?_
          refine sw_Sv dX12_begin_71 k_X12_180 mf_X12_isName (c_X12_isName (d := d - 1) _) (by omega) (by omega) (by omega) rfl rfl (Nat.le_of_ble_eq_true rfl) ?_
          refine sw_if_eq 84 dX12_begin_74 (by decide) (fun h74 => ?_) (fun h74 => ?_)
          · refine sw_iconst (x := 0) dX12_begin_84 (by decide) ?_
            refine m_iast (P) dX12_begin_85 ⟨by decide, by decide, rfl⟩ rfl (show P < 160 by omega) rfl ?_
            change SW l D cy mX12_begin d 0 0 0 0 86 _ _ n (md f (pS s (p) (e) (P + 1)) (u2 A1 160 P (nI 0))) _ _
            refine sw_iconst (x := 0) dX12_begin_86 (by decide) ?_
            refine sw_istore [(0, _), (1, _), (2, _), (3, _), (4, _)] dX12_begin_87 (by decide) rfl ?_
            refine l_begin (A := A) hd hT1 hP hA.2.2.1 3 0 p 0 (by omega) (by omega) ?_
            rw [htx]
            refine sw_aload_n dX12_begin_153 rfl (by first | rfl | assumption) ?_
            refine sw_aload_n dX12_begin_154 rfl (by first | rfl | assumption) ?_
            refine sw_get dX12_begin_155 fr_X12_43 rfl rfl ?_
            refine sw_iload_n dX12_begin_158 rfl ?_
            refine sw_ialdN (P) dX12_begin_159 rfl rfl (show P < 160 by omega) (by decide) ?_
            refine sw_top (y := 0) (PT_v (by omega) hA (nI (pN (A 158) T 3 p 0).1)).2.2.1 ?_
            refine sw_iconst (x := 1) dX12_begin_160 (by decide) ?_
            refine sw_icmp_ne 173 dX12_begin_161 (by decide) (fun h161 => ?_) (fun h161 => ?_)
            · refine sw_aload_n dX12_begin_173 rfl (by first | rfl | assumption) ?_
              refine sw_get dX12_begin_174 fr_X12_157 rfl rfl ?_
              refine sw_top (y := nI (pN (A 158) T 3 p 0).2) rfl ?_
              refine m_put dX12_begin_177 fl_X12_157 (by decide) (sw_fit_i _) rfl ?_
              refine sw_iconst (x := 0) dX12_begin_180 (by decide) ?_
              exact sw_iret dX12_begin_181 rfl (by first | rfl | exact bz_n _) (by omega) (by omega) ⟨rfl, rfl, by rw [pS_p]⟩
            · exact absurd h161 (by decide)
          · exact absurd (show bz (r_nm (nI k)) = 0 by rw [k4]; rfl) h74
        · exact absurd (show bz (r_nm (nI k)) = 0 by rw [k4]; rfl) h52
      · exact absurd h42 (by rw [k3]; decide)
  · exact absurd h8 k5
