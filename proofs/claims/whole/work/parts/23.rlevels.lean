/-! ===== THE REFERENCE: levels(n, below) ===== -/
theorem lgc {x y : Int64} : lg_cmp x y = 0 ↔ x = y := by
  unfold lg_cmp
  by_cases h1 : y < x
  · have h2 : ¬ x = y := fun h => by rw [h] at h1; exact absurd h1 (by grind)
    simp [h1, h2]
  · by_cases h2 : x = y
    · simp [h2]
    · simp [h1, h2]
theorem allF_iff {p : Nat → Bool} : ∀ {k i : Nat}, allF p i k = true ↔ ∀ j, i ≤ j → j < i + k → p j = true
  | 0, i => by simp [allF]; intro j h1 h2; omega
  | k + 1, i => by
    rw [allF, Bool.and_eq_true, allF_iff]
    constructor
    · rintro ⟨h1, h2⟩ j h3 h4
      by_cases h : j = i
      · rw [h]; exact h1
      · exact h2 j (by omega) (by omega)
    · intro h
      exact ⟨h i (Nat.le_refl i) (by omega), fun j h1 h2 => h j (by omega) (by omega)⟩
def r_nb (w : Int64) (k : Nat) : Bool := decide ((w >>> ((nI k).toInt64 &&& 63)) &&& 1 = 1)
def r_bdN (nb : Nat → Bool) (N i j : Nat) (t : Bool) : Nat := (fstF (r_isB nb N i j t) 0 N).getD 0
def r_top (nb : Nat → Bool) (N : Nat) : Nat → Nat
  | 0 => 0
  | k + 1 => r_bdN nb N (r_top nb N k) k false
def r_bot (nb : Nat → Bool) (N : Nat) : Nat → Nat
  | 0 => 0
  | k + 1 => r_bdN nb N (r_bot nb N k) k true
theorem r_lat_some {nb : Nat → Bool} {N a b : Nat} (h : r_lat nb N = true) (ha : a < N) (hb : b < N) (t : Bool) : ∃ c, c < N ∧ fstF (r_isB nb N a b t) 0 N = some c := by
  have h1 := allF_iff.mp (allF_iff.mp h a (by omega) (by omega)) b (by omega) (by omega)
  unfold r_lb at h1
  rw [Bool.and_eq_true] at h1
  cases t with
  | false =>
    obtain ⟨c, hc⟩ := Option.isSome_iff_exists.mp h1.1
    exact ⟨c, by have := (fstF_lt hc).2.1; omega, hc⟩
  | true =>
    obtain ⟨c, hc⟩ := Option.isSome_iff_exists.mp h1.2
    exact ⟨c, by have := (fstF_lt hc).2.1; omega, hc⟩
theorem r_bdN_lat {nb : Nat → Bool} {N a b : Nat} (h : r_lat nb N = true) (ha : a < N) (hb : b < N) (t : Bool) : r_bdN nb N a b t < N ∧ r_bd nb N a b t = nI (r_bdN nb N a b t) := by
  obtain ⟨c, h1, h2⟩ := r_lat_some h ha hb t
  unfold r_bdN r_bd
  rw [h2]
  exact ⟨h1, rfl⟩
theorem r_top_lt {nb : Nat → Bool} {N : Nat} (h : r_lat nb N = true) (h0 : 0 < N) : ∀ k, k ≤ N → r_top nb N k < N
  | 0, _ => h0
  | k + 1, hk => (r_bdN_lat h (r_top_lt h h0 k (by omega)) (by omega) false).1
theorem r_bot_lt {nb : Nat → Bool} {N : Nat} (h : r_lat nb N = true) (h0 : 0 < N) : ∀ k, k ≤ N → r_bot nb N k < N
  | 0, _ => h0
  | k + 1, hk => (r_bdN_lat h (r_bot_lt h h0 k (by omega)) (by omega) true).1
def r_nbF (w : Int64) (j : Nat) : Int32 := bz (r_nb w j)
def r_jnF (w : Int64) (N j : Nat) : Int32 := if j / 6 < N ∧ j % 6 < N then r_bd (r_nb w) N (j / 6) (j % 6) false else 0
set_option maxRecDepth 100000 in
theorem l_X12_lv1 {l : Launch} {D : va_G} {cy : Nat → ClassId} {d n : Nat} {f : sw_F} {s : Nat → Int32} {A : Nat → Nat → Int32} (w : Int64) (x : Int32) {Q : sw_Q} {QX : sw_QX} (K : SW l D cy mX12_levels d 0 0 0 0 39 [(0, .ref 150), (1, .int (x)), (2, .long w)] [] n (md f s (va_up A 157 (fillF (r_nbF w) (A 157) (36)))) Q QX) : ∀ (k i : Nat), i ≤ 36 → 36 < i + k → SW l D cy mX12_levels d 0 0 0 0 3 [(0, .ref 150), (1, .int (x)), (2, .long w), (4, .int (nI i))] [] n (md f s (va_up A 157 (fillF (r_nbF w) (A 157) (i)))) Q QX := by
  intro k
  induction k with
  | zero => intro i0 h1 h2; exact absurd h2 (by omega)
  | succ k ih =>
    intro i he hk
    refine sw_iload dX12_levels_3 rfl ?_
    refine sw_bipush (x := 36) dX12_levels_5 (by decide) ?_
    refine sw_icmp_ge 39 dX12_levels_7 (by decide) (fun h7 => ?_) (fun h7 => ?_)
    · refine sw_keep [0, 1, 2] rfl ?_
      rw [show i = 36 from Nat.le_antisymm he ((nI_leI (by omega) (by omega)).mp (by rw [← nl_36]; exact h7))]
      exact K
    · have e1 : i < 36 := (nI_ltI (by omega) (by omega)).mp (by rw [← nl_36]; exact i32_nle.mp h7)
      have J : SW l D cy mX12_levels d 0 0 0 0 32 [(0, .ref 150), (1, .int (x)), (2, .long w), (4, .int (nI i))] [.int (r_nbF w i), .int (nI i), .ref 157] n (md f s (va_up A 157 (fillF (r_nbF w) (A 157) (i)))) Q QX := by
        refine m_zast (i) dX12_levels_32 ⟨by decide, by decide, rfl⟩ rfl (show i < 36 by omega) (bz_vp _) ?_
        first | refine sw_inc1 [(0, _), (1, _), (2, _), (4, _)] dX12_levels_33 rfl (by decide) rfl ?_ | refine sw_iinc [(0, _), (1, _), (2, _), (4, _)] dX12_levels_33 rfl (by decide) rfl ?_
        refine sw_goto 3 dX12_levels_36 (by decide) ?_
        refine m_eq rfl ?_ (ih (i + 1) (by omega) (by omega))
        rw [vu_up, vu_at, fill_1 (h := r_nbF w) (show bz (r_nb w i) = r_nbF w i from rfl)]
      refine sw_aload_n dX12_levels_10 rfl (by first | rfl | assumption) ?_
      refine sw_get dX12_levels_11 fr_X12_33 rfl rfl ?_
      refine sw_iload dX12_levels_14 rfl ?_
      refine sw_lload_n dX12_levels_16 rfl ?_
      refine sw_iload dX12_levels_17 rfl ?_
      refine sw_lshr dX12_levels_19 ?_
      refine sw_lconst (x := 1) dX12_levels_20 (by decide) ?_
      refine sw_land dX12_levels_21 ?_
      refine sw_lconst (x := 1) dX12_levels_22 (by decide) ?_
      refine sw_lcmp dX12_levels_23 ?_
      refine sw_if_ne 31 dX12_levels_24 (by decide) (fun h24 => ?_) (fun h24 => ?_)
      · refine sw_iconst (x := 0) dX12_levels_31 (by decide) ?_
        exact sw_top (y := r_nbF w i) (by rw [lgc] at h24; simp [r_nbF, r_nb, bz, h24]) J
      · refine sw_iconst (x := 1) dX12_levels_27 (by decide) ?_
        refine sw_goto 32 dX12_levels_28 (by decide) ?_
        exact sw_top (y := r_nbF w i) (by rw [lgc] at h24; simp [r_nbF, r_nb, bz, h24]) J
set_option maxRecDepth 100000 in
theorem l_X12_lv4 {l : Launch} {D : va_G} {cy : Nat → ClassId} {d n : Nat} {f : sw_F} {s : Nat → Int32} {A : Nat → Nat → Int32} {x : Int32} {w : Int64} {bo to : Nat} (hs : s 4 = nI bo) {QX : sw_QX} : ∀ (k i : Nat), i ≤ 8 → 8 < i + k → SW l D cy mX12_levels d 0 0 0 0 237 [(0, .ref 150), (1, .int (x)), (2, .long w), (5, .int (nI to)), (6, .int (nI i))] [] n (md f s (va_up (va_up A 153 (fillF (fun _ => nI bo) (A 153) (i))) 154 (fillF (fun _ => nI to) (A 154) (i)))) (sw_D (some (.int 1)) n (md f s (va_up (va_up A 153 (fillF (fun _ => nI bo) (A 153) (8))) 154 (fillF (fun _ => nI to) (A 154) (8))))) QX := by
  intro k
  induction k with
  | zero => intro i0 h1 h2; exact absurd h2 (by omega)
  | succ k ih =>
    intro i he hk
    refine sw_iload dX12_levels_237 rfl ?_
    refine sw_bipush (x := 8) dX12_levels_239 (by decide) ?_
    refine sw_icmp_ge 270 dX12_levels_241 (by decide) (fun h241 => ?_) (fun h241 => ?_)
    · rw [show i = 8 from Nat.le_antisymm he ((nI_leI (by omega) (by omega)).mp (by rw [← nl_8]; exact h241))]
      refine sw_iconst (x := 1) dX12_levels_270 (by decide) ?_
      exact sw_iret dX12_levels_271 rfl (by first | rfl | exact bz_n _) (by omega) (by omega) ⟨rfl, rfl, rfl⟩
    · have e1 : i < 8 := (nI_ltI (by omega) (by omega)).mp (by rw [← nl_8]; exact i32_nle.mp h241)
      refine sw_aload_n dX12_levels_244 rfl (by first | rfl | assumption) ?_
      refine sw_get dX12_levels_245 fr_X12_21 rfl rfl ?_
      refine sw_iload dX12_levels_248 rfl ?_
      refine sw_aload_n dX12_levels_250 rfl (by first | rfl | assumption) ?_
      refine sw_get dX12_levels_251 fr_X12_142 rfl rfl ?_
      refine m_iast (i) dX12_levels_254 ⟨by decide, by decide, rfl⟩ rfl (show i < 8 by omega) rfl ?_
      refine sw_aload_n dX12_levels_255 rfl (by first | rfl | assumption) ?_
      refine sw_get dX12_levels_256 fr_X12_24 rfl rfl ?_
      refine sw_iload dX12_levels_259 rfl ?_
      refine sw_iload dX12_levels_261 rfl ?_
      refine m_iast (i) dX12_levels_263 ⟨by decide, by decide, rfl⟩ rfl (show i < 8 by omega) rfl ?_
      first | refine sw_inc1 [(0, _), (1, _), (2, _), (5, _), (6, _)] dX12_levels_264 rfl (by decide) rfl ?_ | refine sw_iinc [(0, _), (1, _), (2, _), (5, _), (6, _)] dX12_levels_264 rfl (by decide) rfl ?_
      refine sw_goto 237 dX12_levels_267 (by decide) ?_
      refine m_eq rfl ?_ (ih (i + 1) (by omega) (by omega))
      simp only [vu_so, vu_up, vu_at, vu_ne, fill_1 (h := fun _ => nI bo) (show s 4 = _ from hs), fill_1 (h := fun _ => nI to) (show nI to = _ from rfl), Nat.reduceLT, Nat.reduceEqDiff, not_false_eq_true]
set_option maxRecDepth 100000 in
theorem l_X12_lv3 {l : Launch} {D : va_G} {cy : Nat → ClassId} {d n : Nat} {f : sw_F} {s : Nat → Int32} {A : Nat → Nat → Int32} {w : Int64} {N : Nat} (hd : 2 ≤ d) (h0 : 0 < N) (hN : N ≤ 6) (hl : r_lat (r_nb w) N = true) (hB : ∀ k, k < 36 → A 157 k = bz (r_nb w k)) (hJ : ∀ j, j < 36 → A 152 j = r_jnF w N j) {Q : sw_Q} {QX : sw_QX} (K : SW l D cy mX12_levels d 0 0 0 0 234 [(0, .ref 150), (1, .int (nI N)), (2, .long w), (5, .int (nI (r_top (r_nb w) N N)))] [] n (md f (va_up s 4 (nI (r_bot (r_nb w) N N))) A) Q QX) : ∀ (k i : Nat), i ≤ N → N < i + k → SW l D cy mX12_levels d 0 0 0 0 191 [(0, .ref 150), (1, .int (nI N)), (2, .long w), (5, .int (nI (r_top (r_nb w) N i))), (6, .int (nI i))] [] n (md f (va_up s 4 (nI (r_bot (r_nb w) N i))) A) Q QX := by
  intro k
  induction k with
  | zero => intro i0 h1 h2; exact absurd h2 (by omega)
  | succ k ih =>
    intro i he hk
    refine sw_iload dX12_levels_191 rfl ?_
    refine sw_iload_n dX12_levels_193 rfl ?_
    refine sw_icmp_ge 234 dX12_levels_194 (by decide) (fun h194 => ?_) (fun h194 => ?_)
    · refine sw_keep [0, 1, 2, 3] rfl ?_
      rw [show i = N from Nat.le_antisymm he ((nI_leI (by omega) (by omega)).mp h194)]
      exact K
    · have e1 : i < N := (nI_ltI (by omega) (by omega)).mp (i32_nle.mp h194)
      have e2 := r_top_lt hl h0 i he
      have e3 := r_bot_lt hl h0 i he
      have e4 := r_bdN_lat hl e2 e1 false
      have e5 := r_bdN_lat hl e3 e1 true
      refine sw_aload_n dX12_levels_197 rfl (by first | rfl | assumption) ?_
      refine sw_get dX12_levels_198 fr_X12_17 rfl rfl ?_
      refine sw_bipush (x := 6) dX12_levels_201 (by decide) ?_
      refine sw_iload dX12_levels_203 rfl ?_
      refine sw_imul dX12_levels_205 ?_
      refine sw_iload dX12_levels_206 rfl ?_
      refine sw_iadd dX12_levels_208 ?_
      refine sw_ialdN (6 * r_top (r_nb w) N i + i) dX12_levels_209 rfl (by rw [nl_6, pk_mul, nI_add]) (show 6 * r_top (r_nb w) N i + i < 36 by omega) (by decide) ?_
      refine sw_top (y := nI (r_top (r_nb w) N (i + 1))) (by rw [show A 152 (6 * r_top (r_nb w) N i + i) = _ from hJ _ (by omega), r_jnF, if_pos ⟨by omega, by omega⟩, show (6 * r_top (r_nb w) N i + i) / 6 = r_top (r_nb w) N i by omega, show (6 * r_top (r_nb w) N i + i) % 6 = i by omega, e4.2]; rfl) ?_
      refine sw_istore [(0, _), (1, _), (2, _), (5, _), (6, _)] dX12_levels_210 (by decide) rfl ?_
      refine sw_aload_n dX12_levels_212 rfl (by first | rfl | assumption) ?_
      refine sw_aload_n dX12_levels_213 rfl (by first | rfl | assumption) ?_
      refine sw_iload_n dX12_levels_214 rfl ?_
      refine sw_aload_n dX12_levels_215 rfl (by first | rfl | assumption) ?_
      refine sw_get dX12_levels_216 fr_X12_142 rfl rfl ?_
      refine sw_iload dX12_levels_219 rfl ?_
      refine sw_iconst (x := 1) dX12_levels_221 (by decide) ?_
      refine sw_Vv dX12_levels_222 k_X12_131 mf_X12_bound (c_X12_bound (d := d - 1) hB hN (show r_bot (r_nb w) N i < 6 by omega) (by omega) true (by omega)) rfl ⟨_, rfl, rfl⟩ (by omega) (by omega) (by omega) rfl rfl (Nat.le_of_ble_eq_true rfl) ?_
      refine sw_top (y := nI (r_bot (r_nb w) N (i + 1))) (by rw [e5.2]; rfl) ?_
      refine m_put dX12_levels_225 fl_X12_142 (by decide) (sw_fit_i _) rfl ?_
      first | refine sw_inc1 [(0, _), (1, _), (2, _), (5, _), (6, _)] dX12_levels_228 rfl (by decide) rfl ?_ | refine sw_iinc [(0, _), (1, _), (2, _), (5, _), (6, _)] dX12_levels_228 rfl (by decide) rfl ?_
      refine sw_goto 191 dX12_levels_231 (by decide) ?_
      refine m_eq ?_ rfl (ih (i + 1) (by omega) (by omega))
      rw [vu_up]
set_option maxRecDepth 100000 in
theorem l_X12_lv2 {l : Launch} {D : va_G} {cy : Nat → ClassId} {d n : Nat} {f : sw_F} {s : Nat → Int32} {A : Nat → Nat → Int32} {w : Int64} {N : Nat} {t5 : Int32} (hd : 2 ≤ d) (hN : N ≤ 6) (hB : ∀ k, k < 36 → A 157 k = bz (r_nb w k)) {Q : sw_Q} {QX : sw_QX} (K : SW l D cy mX12_levels d 0 0 0 0 188 [(0, .ref 150), (1, .int (nI N)), (2, .long w), (5, .int t5)] [] n (md f s (va_up (va_up A 151 (fillF (r_nbF w) (A 151) (36))) 152 (fillF (r_jnF w N) (A 152) (36)))) Q QX) : ∀ (k i : Nat), i ≤ 36 → 36 < i + k → SW l D cy mX12_levels d 0 0 0 0 116 [(0, .ref 150), (1, .int (nI N)), (2, .long w), (5, .int t5), (6, .int (nI i))] [] n (md f s (va_up (va_up A 151 (fillF (r_nbF w) (A 151) (i))) 152 (fillF (r_jnF w N) (A 152) (i)))) Q QX := by
  intro k
  induction k with
  | zero => intro i0 h1 h2; exact absurd h2 (by omega)
  | succ k ih =>
    intro i he hk
    refine sw_iload dX12_levels_116 rfl ?_
    refine sw_bipush (x := 36) dX12_levels_118 (by decide) ?_
    refine sw_icmp_ge 188 dX12_levels_120 (by decide) (fun h120 => ?_) (fun h120 => ?_)
    · refine sw_keep [0, 1, 2, 3] rfl ?_
      rw [show i = 36 from Nat.le_antisymm he ((nI_leI (by omega) (by omega)).mp (by rw [← nl_36]; exact h120))]
      exact K
    · have e1 : i < 36 := (nI_ltI (by omega) (by omega)).mp (by rw [← nl_36]; exact i32_nle.mp h120)
      have e6 : nI i / 6 = nI (i / 6) := by rw [nl_6]; exact pk_div (by omega) (by omega) (by omega)
      have e7 : nI i - nI i / 6 * 6 = nI (i % 6) := by rw [nl_6]; exact pk_rem (by omega) (by omega) (by omega)
      refine sw_aload_n dX12_levels_123 rfl (by first | rfl | assumption) ?_
      refine sw_get dX12_levels_124 fr_X12_13 rfl rfl ?_
      refine sw_iload dX12_levels_127 rfl ?_
      refine sw_aload_n dX12_levels_129 rfl (by first | rfl | assumption) ?_
      refine sw_get dX12_levels_130 fr_X12_33 rfl rfl ?_
      refine sw_iload dX12_levels_133 rfl ?_
      refine sw_zaldN (i) dX12_levels_135 rfl rfl (show i < 36 by omega) (by decide) ?_
      refine sw_top (y := r_nbF w i) (hB _ (by omega)) ?_
      refine m_zast (i) dX12_levels_136 ⟨by decide, by decide, rfl⟩ rfl (show i < 36 by omega) (bz_vp _) ?_
      have J : SW l D cy mX12_levels d 0 0 0 0 181 [(0, .ref 150), (1, .int (nI N)), (2, .long w), (5, .int t5), (6, .int (nI i))] [.int (r_jnF w N i), .int (nI i), .ref 152] n (md f s (va_up (va_up (va_up A 151 (fillF (r_nbF w) (A 151) (i))) 152 (fillF (r_jnF w N) (A 152) (i))) 151 (fillF (r_nbF w) (A 151) (i + 1)))) Q QX := by
        refine m_iast (i) dX12_levels_181 ⟨by decide, by decide, rfl⟩ rfl (show i < 36 by omega) rfl ?_
        first | refine sw_inc1 [(0, _), (1, _), (2, _), (5, _), (6, _)] dX12_levels_182 rfl (by decide) rfl ?_ | refine sw_iinc [(0, _), (1, _), (2, _), (5, _), (6, _)] dX12_levels_182 rfl (by decide) rfl ?_
        refine sw_goto 116 dX12_levels_185 (by decide) ?_
        refine m_eq rfl ?_ (ih (i + 1) (by omega) (by omega))
        simp only [vu_so, vu_up, vu_at, vu_ne, fill_1 (h := r_jnF w N) (show r_jnF w N i = _ from rfl), Nat.reduceLT, Nat.reduceEqDiff, not_false_eq_true]
      refine m_eq rfl (A' := va_up (va_up (va_up A 151 (fillF (r_nbF w) (A 151) (i))) 152 (fillF (r_jnF w N) (A 152) (i))) 151 (fillF (r_nbF w) (A 151) (i + 1))) (by simp only [vu_ne, vu_at, Nat.reduceEqDiff, not_false_eq_true, fill_1 (h := r_nbF w) (show bz (r_nb w i) = _ from rfl)]) ?_
      refine sw_aload_n dX12_levels_137 rfl (by first | rfl | assumption) ?_
      refine sw_get dX12_levels_138 fr_X12_17 rfl rfl ?_
      refine sw_iload dX12_levels_141 rfl ?_
      refine sw_iload dX12_levels_143 rfl ?_
      refine sw_bipush (x := 6) dX12_levels_145 (by decide) ?_
      refine sw_idiv dX12_levels_147 (by decide) ?_
      refine sw_top e6 ?_
      refine sw_iload_n dX12_levels_148 rfl ?_
      refine sw_icmp_ge 180 dX12_levels_149 (by decide) (fun h149 => ?_) (fun h149 => ?_)
      · refine sw_iconst (x := 0) dX12_levels_180 (by decide) ?_
        exact sw_top (y := r_jnF w N i) (by first | (rw [r_jnF, if_pos ⟨(nI_ltI (by omega) (by omega)).mp (i32_nle.mp h149), (nI_ltI (by omega) (by omega)).mp (i32_nle.mp h158)⟩]; done) | (rw [r_jnF, if_neg (fun q => absurd q.1 (Nat.not_lt.mpr ((nI_leI (by omega) (by omega)).mp h149)))]; done) | rw [r_jnF, if_neg (fun q => absurd q.2 (Nat.not_lt.mpr ((nI_leI (by omega) (by omega)).mp h158)))]) J
      · refine sw_iload dX12_levels_152 rfl ?_
        refine sw_bipush (x := 6) dX12_levels_154 (by decide) ?_
        refine sw_irem dX12_levels_156 (by decide) ?_
        refine sw_top e7 ?_
        refine sw_iload_n dX12_levels_157 rfl ?_
        refine sw_icmp_ge 180 dX12_levels_158 (by decide) (fun h158 => ?_) (fun h158 => ?_)
        · refine sw_iconst (x := 0) dX12_levels_180 (by decide) ?_
          exact sw_top (y := r_jnF w N i) (by first | (rw [r_jnF, if_pos ⟨(nI_ltI (by omega) (by omega)).mp (i32_nle.mp h149), (nI_ltI (by omega) (by omega)).mp (i32_nle.mp h158)⟩]; done) | (rw [r_jnF, if_neg (fun q => absurd q.1 (Nat.not_lt.mpr ((nI_leI (by omega) (by omega)).mp h149)))]; done) | rw [r_jnF, if_neg (fun q => absurd q.2 (Nat.not_lt.mpr ((nI_leI (by omega) (by omega)).mp h158)))]) J
        · refine sw_aload_n dX12_levels_161 rfl (by first | rfl | assumption) ?_
          refine sw_iload_n dX12_levels_162 rfl ?_
          refine sw_iload dX12_levels_163 rfl ?_
          refine sw_bipush (x := 6) dX12_levels_165 (by decide) ?_
          refine sw_idiv dX12_levels_167 (by decide) ?_
          refine sw_top e6 ?_
          refine sw_iload dX12_levels_168 rfl ?_
          refine sw_bipush (x := 6) dX12_levels_170 (by decide) ?_
          refine sw_irem dX12_levels_172 (by decide) ?_
          refine sw_top e7 ?_
          refine sw_iconst (x := 0) dX12_levels_173 (by decide) ?_
          refine sw_Vv dX12_levels_174 k_X12_131 mf_X12_bound (c_X12_bound (d := d - 1) (A := va_up (va_up (va_up A 151 (fillF (r_nbF w) (A 151) (i))) 152 (fillF (r_jnF w N) (A 152) (i))) 151 (fillF (r_nbF w) (A 151) (i + 1))) hB hN (show i / 6 < 6 by omega) (show i % 6 < 6 by omega) false (by omega)) rfl ⟨_, rfl, rfl⟩ (by omega) (by omega) (by omega) rfl rfl (Nat.le_of_ble_eq_true rfl) ?_
          refine sw_goto 181 dX12_levels_177 (by decide) ?_
          exact sw_top (y := r_jnF w N i) (by first | (rw [r_jnF, if_pos ⟨(nI_ltI (by omega) (by omega)).mp (i32_nle.mp h149), (nI_ltI (by omega) (by omega)).mp (i32_nle.mp h158)⟩]; done) | (rw [r_jnF, if_neg (fun q => absurd q.1 (Nat.not_lt.mpr ((nI_leI (by omega) (by omega)).mp h149)))]; done) | rw [r_jnF, if_neg (fun q => absurd q.2 (Nat.not_lt.mpr ((nI_leI (by omega) (by omega)).mp h158)))]) J
def r_lvO (w : Int64) (x : Int32) : Bool := decide (1 ≤ x ∧ x ≤ 6) && r_ord (r_nb w) x.toNatClampNeg
def r_lvT (w : Int64) (x : Int32) : Int32 := if r_lvO w x = true then (if r_lat (r_nb w) x.toNatClampNeg = true then 0 else 2) else 1
def r_lvS (s : Nat → Int32) (w : Int64) (x : Int32) : Nat → Int32 := if r_lvT w x = 0 then va_up (va_up (va_up s 0 0) 1 x) 4 (nI (r_bot (r_nb w) x.toNatClampNeg x.toNatClampNeg)) else va_up s 0 (r_lvT w x)
def r_lvA1 (A : Nat → Nat → Int32) (w : Int64) : Nat → Nat → Int32 := va_up A 157 (fillF (r_nbF w) (A 157) 36)
def r_lvA2 (A : Nat → Nat → Int32) (w : Int64) (N : Nat) : Nat → Nat → Int32 := va_up (va_up A 151 (fillF (r_nbF w) (A 151) 36)) 152 (fillF (r_jnF w N) (A 152) 36)
def r_lvA4 (A : Nat → Nat → Int32) (bo to : Nat) : Nat → Nat → Int32 := va_up (va_up A 153 (fillF (fun _ => nI bo) (A 153) 8)) 154 (fillF (fun _ => nI to) (A 154) 8)
def r_lvA (A : Nat → Nat → Int32) (w : Int64) (x : Int32) : Nat → Nat → Int32 := if r_lvT w x = 0 then r_lvA4 (r_lvA2 (r_lvA1 A w) w x.toNatClampNeg) (r_bot (r_nb w) x.toNatClampNeg x.toNatClampNeg) (r_top (r_nb w) x.toNatClampNeg x.toNatClampNeg) else r_lvA1 A w
set_option maxRecDepth 100000 in
theorem l_X12_lv5 {l : Launch} {D : va_G} {cy : Nat → ClassId} {d n : Nat} {f : sw_F} {s : Nat → Int32} {A : Nat → Nat → Int32} {w : Int64} {N : Nat} (hd : 2 ≤ d) (h0 : 0 < N) (hN : N ≤ 6) (hl : r_lat (r_nb w) N = true) (hB : ∀ k, k < 36 → A 157 k = bz (r_nb w k)) {QX : sw_QX} : SW l D cy mX12_levels d 0 0 0 0 100 [(0, .ref 150), (1, .int (nI N)), (2, .long w)] [] n (md f s A) (sw_D (some (.int 1)) n (md f (va_up (va_up s 1 (nI N)) 4 (nI (r_bot (r_nb w) N N))) (r_lvA4 (r_lvA2 A w N) (r_bot (r_nb w) N N) (r_top (r_nb w) N N)))) QX := by
  refine sw_aload_n dX12_levels_100 rfl (by first | rfl | assumption) ?_
  refine sw_iload_n dX12_levels_101 rfl ?_
  refine m_put dX12_levels_102 fl_X12_7 (by decide) (sw_fit_i _) rfl ?_
  refine sw_iconst (x := 0) dX12_levels_105 (by decide) ?_
  refine sw_istore [(0, _), (1, _), (2, _), (5, _)] dX12_levels_106 (by decide) rfl ?_
  refine sw_aload_n dX12_levels_108 rfl (by first | rfl | assumption) ?_
  refine sw_iconst (x := 0) dX12_levels_109 (by decide) ?_
  refine m_put dX12_levels_110 fl_X12_142 (by decide) (sw_fit_i _) rfl ?_
  refine sw_iconst (x := 0) dX12_levels_113 (by decide) ?_
  refine sw_istore [(0, _), (1, _), (2, _), (5, _), (6, _)] dX12_levels_114 (by decide) rfl ?_
  refine m_eq (A' := va_up (va_up A 151 (fillF (r_nbF w) (A 151) (0))) 152 (fillF (r_jnF w N) (A 152) (0))) rfl (by simp only [fill_0, vu_id, vu_ne, Nat.reduceEqDiff, not_false_eq_true]) ?_
  refine l_X12_lv2 hd hN hB ?_ 37 0 (by omega) (by omega)
  refine sw_iconst (x := 0) dX12_levels_188 (by decide) ?_
  refine sw_istore [(0, _), (1, _), (2, _), (5, _), (6, _)] dX12_levels_189 (by decide) rfl ?_
  refine l_X12_lv3 (A := va_up (va_up A 151 (fillF (r_nbF w) (A 151) (36))) 152 (fillF (r_jnF w N) (A 152) (36))) (s := va_up (va_up s 1 (nI N)) 4 0) hd h0 hN hl (fun k hk => hB k hk) (fun j hj => (show fillF (r_jnF w N) _ 36 j = _ from if_pos hj)) ?_ (N + 1) 0 (by omega) (by omega)
  refine sw_iconst (x := 0) dX12_levels_234 (by decide) ?_
  refine sw_istore [(0, _), (1, _), (2, _), (5, _), (6, _)] dX12_levels_235 (by decide) rfl ?_
  rw [vu_up]
  refine m_eq (A' := va_up (va_up (r_lvA2 A w N) 153 (fillF (fun _ => nI (r_bot (r_nb w) N N)) (r_lvA2 A w N 153) 0)) 154 (fillF (fun _ => nI (r_top (r_nb w) N N)) (r_lvA2 A w N 154) 0)) rfl (by simp only [fill_0]; rw [vu_id]; exact (vu_id (r_lvA2 A w N) 154).symm) ?_
  exact l_X12_lv4 (A := r_lvA2 A w N) (s := va_up (va_up s 1 (nI N)) 4 (nI (r_bot (r_nb w) N N))) (bo := r_bot (r_nb w) N N) (to := r_top (r_nb w) N N) rfl 9 0 (by omega) (by omega)
theorem r_lvO_N {w : Int64} {x : Int32} (h : r_lvO w x = true) : ∃ N, 0 < N ∧ N ≤ 6 ∧ x = nI N := by
  unfold r_lvO at h
  rw [Bool.and_eq_true, decide_eq_true_iff] at h
  obtain ⟨j, hj, rfl⟩ := nI_of2 (M := 6) (n := 6) (by decide) (show ¬ x < 0 by grind) h.1.2
  refine ⟨j, ?_, hj, rfl⟩
  rcases Nat.eq_zero_or_pos j with h0 | h0
  · subst h0
    exact absurd h.1.1 (by decide)
  · exact h0
set_option maxRecDepth 100000 in
theorem c_X12_levels {l : Launch} {D : va_G} {cy : Nat → ClassId} {d n : Nat} {f : sw_F} {s : Nat → Int32} {A : Nat → Nat → Int32} (hd : 3 ≤ d) (x : Int32) (w : Int64) : sw_Ct l D cy mX12_levels d 0 0 [.ref 150, .int x, .long w] n (md f s A) (sw_D (some (.int (bz (decide (r_lvT w x = 0))))) n (md f (r_lvS s w x) (r_lvA A w x))) := by
  refine sw_of rfl (Nat.le_of_ble_eq_true rfl) ?_
  show SW l D cy mX12_levels d 0 0 0 0 0 [(0, .ref 150), (1, .int (x)), (2, .long w)] [] n (md f s A) _ _
  refine sw_iconst (x := 0) dX12_levels_0 (by decide) ?_
  refine sw_istore [(0, _), (1, _), (2, _), (4, _)] dX12_levels_1 (by decide) rfl ?_
  refine m_eq (A' := va_up A 157 (fillF (r_nbF w) (A 157) (0))) rfl (by rw [fill_0, vu_id]) ?_
  refine l_X12_lv1 w x ?_ 37 0 (by omega) (by omega)
  change SW l D cy mX12_levels d 0 0 0 0 39 [(0, .ref 150), (1, .int (x)), (2, .long w)] [] n (md f s (r_lvA1 A w)) _ _
  have J : ∀ b : Bool, b = r_lvO w x → SW l D cy mX12_levels d 0 0 0 0 63 [(0, .ref 150), (1, .int (x)), (2, .long w)] [.int (bz b)] n (md f s (r_lvA1 A w)) (sw_D (some (.int (bz (decide (r_lvT w x = 0))))) n (md f (r_lvS s w x) (r_lvA A w x))) (fun _ _ _ => False) := by
    intro b hb
    refine sw_istore [(0, _), (1, _), (2, _), (4, _)] dX12_levels_63 (by decide) rfl ?_
    refine sw_aload_n dX12_levels_65 rfl (by first | rfl | assumption) ?_
    refine sw_iload dX12_levels_66 rfl ?_
    refine sw_if_ne 75 dX12_levels_68 (by decide) (fun h68 => ?_) (fun h68 => ?_)
    · have hO : r_lvO w x = true := by rw [← hb]; exact bz_ne.mp h68
      obtain ⟨N, hN0, hN, rfl⟩ := r_lvO_N hO
      have hB : ∀ k, k < 36 → r_lvA1 A w 157 k = bz (r_nb w k) := fun k hk => if_pos hk
      refine sw_aload_n dX12_levels_75 rfl (by first | rfl | assumption) ?_
      refine sw_iload_n dX12_levels_76 rfl ?_
      refine sw_Vv dX12_levels_77 k_X12_139 mf_X12_isLattice (c_X12_isLattice (d := d - 1) hB hN (by omega)) rfl ⟨_, rfl, rfl⟩ (by omega) (by omega) (by omega) rfl rfl (Nat.le_of_ble_eq_true rfl) ?_
      refine sw_if_ne 87 dX12_levels_80 (by decide) (fun h80 => ?_) (fun h80 => ?_)
      · have hl := bz_ne.mp h80
        have hT : r_lvT w (nI N) = 0 := by rw [r_lvT, if_pos hO, nI_clamp (by omega), if_pos hl]
        refine sw_iconst (x := 0) dX12_levels_87 (by decide) ?_
        refine m_put dX12_levels_88 fl_X12_124 (by decide) (sw_fit_i _) rfl ?_
        refine sw_aload_n dX12_levels_91 rfl (by first | rfl | assumption) ?_
        refine sw_get dX12_levels_92 fr_X12_124 rfl rfl ?_
        refine sw_if_le 100 dX12_levels_95 (by decide) (fun h95 => ?_) (fun h95 => ?_)
        · refine sw_keep [0, 1, 2] rfl ?_
          first | exact absurd (show (1 : Int32) ≤ 0 from h95) (by decide) | exact absurd (show (2 : Int32) ≤ 0 from h95) (by decide) | (rw [r_lvS, r_lvA, if_pos hT, if_pos hT, hT, nI_clamp (by omega)]; exact l_X12_lv5 (by omega) hN0 hN hl hB)
        · first | exact absurd (show (0 : Int32) ≤ 0 by decide) h95 | exact (sw_iconst (x := 0) dX12_levels_98 (by decide) (sw_iret dX12_levels_99 rfl rfl (by omega) (by omega) ⟨by rw [hT]; rfl, rfl, by rw [r_lvS, r_lvA, hT, if_neg (by decide), if_neg (by decide)]⟩))
      · have hT : r_lvT w (nI N) = 2 := by rw [r_lvT, if_pos hO, nI_clamp (by omega), if_neg (by rw [bz_0.mp h80]; decide)]
        refine sw_iconst (x := 2) dX12_levels_83 (by decide) ?_
        refine sw_goto 88 dX12_levels_84 (by decide) ?_
        refine m_put dX12_levels_88 fl_X12_124 (by decide) (sw_fit_i _) rfl ?_
        refine sw_aload_n dX12_levels_91 rfl (by first | rfl | assumption) ?_
        refine sw_get dX12_levels_92 fr_X12_124 rfl rfl ?_
        refine sw_if_le 100 dX12_levels_95 (by decide) (fun h95 => ?_) (fun h95 => ?_)
        · refine sw_keep [0, 1, 2] rfl ?_
          first | exact absurd (show (1 : Int32) ≤ 0 from h95) (by decide) | exact absurd (show (2 : Int32) ≤ 0 from h95) (by decide) | (rw [r_lvS, r_lvA, if_pos hT, if_pos hT, hT, nI_clamp (by omega)]; exact l_X12_lv5 (by omega) hN0 hN hl hB)
        · first | exact absurd (show (0 : Int32) ≤ 0 by decide) h95 | exact (sw_iconst (x := 0) dX12_levels_98 (by decide) (sw_iret dX12_levels_99 rfl rfl (by omega) (by omega) ⟨by rw [hT]; rfl, rfl, by rw [r_lvS, r_lvA, hT, if_neg (by decide), if_neg (by decide)]⟩))
    · have hT : r_lvT w x = 1 := by rw [r_lvT, if_neg (by rw [← hb, bz_0.mp h68]; decide)]
      refine sw_iconst (x := 1) dX12_levels_71 (by decide) ?_
      refine sw_goto 88 dX12_levels_72 (by decide) ?_
      refine m_put dX12_levels_88 fl_X12_124 (by decide) (sw_fit_i _) rfl ?_
      refine sw_aload_n dX12_levels_91 rfl (by first | rfl | assumption) ?_
      refine sw_get dX12_levels_92 fr_X12_124 rfl rfl ?_
      refine sw_if_le 100 dX12_levels_95 (by decide) (fun h95 => ?_) (fun h95 => ?_)
      · refine sw_keep [0, 1, 2] rfl ?_
        first | exact absurd (show (1 : Int32) ≤ 0 from h95) (by decide) | exact absurd (show (2 : Int32) ≤ 0 from h95) (by decide) | (rw [r_lvS, r_lvA, if_pos hT, if_pos hT, hT, nI_clamp (by omega)]; exact l_X12_lv5 (by omega) hN0 hN hl hB)
      · first | exact absurd (show (0 : Int32) ≤ 0 by decide) h95 | exact (sw_iconst (x := 0) dX12_levels_98 (by decide) (sw_iret dX12_levels_99 rfl rfl (by omega) (by omega) ⟨by rw [hT]; rfl, rfl, by rw [r_lvS, r_lvA, hT, if_neg (by decide), if_neg (by decide)]⟩))
  refine sw_iload_n dX12_levels_39 rfl ?_
  refine sw_iconst (x := 1) dX12_levels_40 (by decide) ?_
  refine sw_icmp_lt 62 dX12_levels_41 (by decide) (fun h41 => ?_) (fun h41 => ?_)
  · refine sw_iconst (x := 0) dX12_levels_62 (by decide) ?_
    first | exact sw_top (y := bz (r_lvO w x)) (by rw [r_lvO]; grind [bz]) (J _ rfl) | exact sw_top (y := bz (r_lvO w (nI N))) (by rw [r_lvO, nI_clamp (by omega)]; grind [bz]) (J _ rfl)
  · refine sw_iload_n dX12_levels_44 rfl ?_
    refine sw_bipush (x := 6) dX12_levels_45 (by decide) ?_
    refine sw_icmp_gt 62 dX12_levels_47 (by decide) (fun h47 => ?_) (fun h47 => ?_)
    · refine sw_iconst (x := 0) dX12_levels_62 (by decide) ?_
      first | exact sw_top (y := bz (r_lvO w x)) (by rw [r_lvO]; grind [bz]) (J _ rfl) | exact sw_top (y := bz (r_lvO w (nI N))) (by rw [r_lvO, nI_clamp (by omega)]; grind [bz]) (J _ rfl)
    · obtain ⟨N, hN, rfl⟩ : ∃ N, N ≤ 6 ∧ x = nI N := by obtain ⟨j, hj, rfl⟩ := nI_of2 (M := 6) (n := 6) (by decide) (show ¬ x < 0 by grind) (show x ≤ 6 by grind); exact ⟨j, hj, rfl⟩
      refine sw_aload_n dX12_levels_50 rfl (by first | rfl | assumption) ?_
      refine sw_iload_n dX12_levels_51 rfl ?_
      refine sw_Vv dX12_levels_52 k_X12_135 mf_X12_isOrder (c_X12_isOrder (d := d - 1) (nb := r_nb w) (fun k hk => if_pos hk) hN) rfl ⟨_, rfl, rfl⟩ (by omega) (by omega) (by omega) rfl rfl (Nat.le_of_ble_eq_true rfl) ?_
      refine sw_if_eq 62 dX12_levels_55 (by decide) (fun h55 => ?_) (fun h55 => ?_)
      · refine sw_iconst (x := 0) dX12_levels_62 (by decide) ?_
        first | exact sw_top (y := bz (r_lvO w x)) (by rw [r_lvO]; grind [bz]) (J _ rfl) | exact sw_top (y := bz (r_lvO w (nI N))) (by rw [r_lvO, nI_clamp (by omega)]; grind [bz]) (J _ rfl)
      · refine sw_iconst (x := 1) dX12_levels_58 (by decide) ?_
        refine sw_goto 63 dX12_levels_59 (by decide) ?_
        first | exact sw_top (y := bz (r_lvO w x)) (by rw [r_lvO]; grind [bz]) (J _ rfl) | exact sw_top (y := bz (r_lvO w (nI N))) (by rw [r_lvO, nI_clamp (by omega)]; grind [bz]) (J _ rfl)
