/-! ===== THE CLASS: Reader, choice, loop, statement ===== -/
theorem pB_2 {TX : Nat → Int32} {T g F p : Nat} (hp : p ≤ T) : p ≤ (pB TX T g (pR TX T F (g + 1)) p).2 ∧ (pB TX T g (pR TX T F (g + 1)) p).2 ≤ T := by
  have := pB_le (TX := TX) (T := T) (d := g) (rd := pR TX T F (g + 1)) (fun p hp => pR_le F (g + 1) p hp) hp
  exact ⟨this.1, this.2.1⟩
theorem pLp_le {TX : Nat → Int32} {T g F p : Nat} (hp : p ≤ T) : (pE TX T 100 g p).2 ≤ (pLp TX T g (pR TX T F (g + 1)) p).2 ∧ (pLp TX T g (pR TX T F (g + 1)) p).2 ≤ T ∧ ∀ e q, pE TX T 100 g p = (some e, q) → (pB TX T g (pR TX T F (g + 1)) q).2 ≤ (pLp TX T g (pR TX T F (g + 1)) p).2 := by
  have l1 := pE_le (TX := TX) 100 g p hp
  unfold pLp
  generalize pE TX T 100 g p = w at l1
  obtain ⟨w, q⟩ := w
  have l2 : q ≤ T := l1.2.1
  cases w with
  | none => exact ⟨Nat.le_refl q, l2, fun e q' h => absurd (congrArg Prod.fst h) (by simp)⟩
  | some e =>
    have l3 := pB_2 (TX := TX) (T := T) (g := g) (F := F) l2
    show q ≤ (match pB TX T g (pR TX T F (g + 1)) q with | (none, q1) => (none, q1) | (some r1, q1) => (some (rLp e r1), q1) : Option (RT → RT) × Nat).2 ∧ (match pB TX T g (pR TX T F (g + 1)) q with | (none, q1) => (none, q1) | (some r1, q1) => (some (rLp e r1), q1) : Option (RT → RT) × Nat).2 ≤ T ∧ ∀ e' q', (some e, q) = (some e', q') → (pB TX T g (pR TX T F (g + 1)) q').2 ≤ (match pB TX T g (pR TX T F (g + 1)) q with | (none, q1) => (none, q1) | (some r1, q1) => (some (rLp e r1), q1) : Option (RT → RT) × Nat).2
    have hh : ∀ e' q', (some e, q) = (some e', q') → q' = q := fun e' q' h => (congrArg Prod.snd h).symm
    generalize hb : pB TX T g (pR TX T F (g + 1)) q = b at l3
    obtain ⟨b, q1⟩ := b
    cases b with
    | none => exact ⟨l3.1, l3.2, fun e' q' h => by rw [hh e' q' h, hb]; exact Nat.le_refl _⟩
    | some r => exact ⟨l3.1, l3.2, fun e' q' h => by rw [hh e' q' h, hb]; exact Nat.le_refl _⟩
theorem pCh_le {TX : Nat → Int32} {T g F p : Nat} (hp : p ≤ T) : (pE TX T 100 g p).2 ≤ (pCh TX T g (pR TX T F (g + 1)) p).2 ∧ (pCh TX T g (pR TX T F (g + 1)) p).2 ≤ T ∧ ∀ e q, pE TX T 100 g p = (some e, q) → (pB TX T g (pR TX T F (g + 1)) q).2 ≤ (pCh TX T g (pR TX T F (g + 1)) p).2 ∧ ∀ r q1, pB TX T g (pR TX T F (g + 1)) q = (some r, q1) → (pB TX T g (pR TX T F (g + 1)) q1).2 ≤ (pCh TX T g (pR TX T F (g + 1)) p).2 := by
  have l1 := pE_le (TX := TX) 100 g p hp
  unfold pCh
  generalize pE TX T 100 g p = w at l1
  obtain ⟨w, q⟩ := w
  have l2 : q ≤ T := l1.2.1
  cases w with
  | none => exact ⟨Nat.le_refl q, l2, fun e q' h => absurd (congrArg Prod.fst h) (by simp)⟩
  | some e =>
    have l3 := pB_2 (TX := TX) (T := T) (g := g) (F := F) l2
    have hh : ∀ e' q', (some e, q) = (some e', q') → q' = q := fun e' q' h => (congrArg Prod.snd h).symm
    simp only []
    generalize hb : pB TX T g (pR TX T F (g + 1)) q = b at l3
    obtain ⟨b, q1⟩ := b
    cases b with
    | none => exact ⟨l3.1, l3.2, fun e' q' h => ⟨by rw [hh e' q' h, hb]; exact Nat.le_refl _, fun r q1' h2 => by rw [hh e' q' h, hb] at h2; exact absurd (congrArg Prod.fst h2) (by simp)⟩⟩
    | some r =>
      have l4 : q1 ≤ T := l3.2
      have l5 := pB_2 (TX := TX) (T := T) (g := g) (F := F) l4
      have l6 : q ≤ q1 := l3.1
      simp only []
      generalize hb2 : pB TX T g (pR TX T F (g + 1)) q1 = b2 at l5
      obtain ⟨b2, q2⟩ := b2
      have l7 : q1 ≤ q2 := l5.1
      have l8 : q2 ≤ T := l5.2
      have fin : ∀ z : Option (RT → RT), q ≤ (z, q2).2 ∧ (z, q2).2 ≤ T ∧ ∀ e' q', (some e, q) = (some e', q') → (pB TX T g (pR TX T F (g + 1)) q').2 ≤ (z, q2).2 ∧ ∀ r' q1', pB TX T g (pR TX T F (g + 1)) q' = (some r', q1') → (pB TX T g (pR TX T F (g + 1)) q1').2 ≤ (z, q2).2 := fun z => ⟨Nat.le_trans l6 l7, l8, fun e' q' h => ⟨by rw [hh e' q' h, hb]; exact l7, fun r' q1' h2 => by
        rw [hh e' q' h, hb] at h2
        have e9 : q1 = q1' := congrArg Prod.snd h2
        rw [← e9, hb2]; exact Nat.le_refl _⟩⟩
      cases b2 with
      | none => exact fin none
      | some r2 => exact fin _
set_option maxRecDepth 100000 in
theorem c_X8_readLoop {l : Launch} {D : va_G} {cy : Nat → ClassId} {d n : Nat} {f : sw_F} {s : Nat → Int32} {A : Nat → Nat → Int32} {B : Nat → Nat → Int64} {o : Int64} {pr : Value} {T : Nat} (hT : TC s (A 7) T) {F g p M : Nat} (ih : ∀ (g p M n d : Nat) (f : sw_F), g ≤ 6 → 32 - 4 * g ≤ d → 187 ≤ n → p ≤ T → T < p + F → (pR (A 7) T F g p).2 ≤ p + M → sw_Ct l D cy mX8_readRow d M (6 * (M)) [.ref 6, .int (nI (g))] n (gd f (rS s (p) (-1)) A B o pr) (QRw n f s A B o pr (pR (A 7) T F (g) (p)))) (hg : g ≤ 6) (hd : 30 - 4 * g ≤ d) (hd2 : 4 ≤ d) (hn : 187 ≤ n) (hp : p ≤ T) (hF : T < p + 1 + F) (hM : (pLp (A 7) T g (pR (A 7) T F (g + 1)) p).2 + 1 ≤ p + M) : sw_Ct l D cy mX8_readLoop d M (6 * M) [.ref 6, .int (nI g)] n (gd f (rS s (p) (-1)) A B o pr) (QSt n f s A B o pr (pLp (A 7) T g (pR (A 7) T F (g + 1)) p)) := by
  have hT2 := hT.2.1
  refine sw_of rfl (Nat.le_of_ble_eq_true rfl) ?_
  show SW l D cy mX8_readLoop d M (6 * M) 0 0 0 [(0, .ref 6), (1, .int (nI g))] [] n (gd f (rS s (p) (-1)) A B o pr) _ _
  have l1 := pE_le (TX := A 7) 100 g p hp
  have ll := pLp_le (TX := A 7) (T := T) (g := g) (F := F) hp
  generalize w1 : pE (A 7) T 100 g p = w1'' at l1 ll
  obtain ⟨w1', q1⟩ := w1''
  have l6 : p ≤ q1 := l1.1
  have l7 : q1 ≤ T := l1.2.1
  have hMq : q1 ≤ (pLp (A 7) T g (pR (A 7) T F (g + 1)) p).2 := ll.1
  rw [← w1] at ll
  refine sw_aload_n dX8_readLoop_0 rfl (by first | rfl | assumption) ?_
  refine sw_iload_n dX8_readLoop_1 rfl ?_
  have ct1 := c_X8_readExpression (l := l) (D := D) (cy := cy) (s := s) (B := B) (o := o) (pr := pr) hT 100 g p (q1 - p) n (d - 1) f hg (by omega) hn hp (by omega) (by rw [w1]; show q1 ≤ _; omega)
  rw [w1] at ct1
  refine sw_callV dX8_readLoop_2 k_X8_65 mf_X8_readExpression ⟨_, rfl, rfl⟩ rfl ct1 (by omega) ⟨by omega, by omega⟩ rfl rfl (Nat.le_of_ble_eq_true rfl) (fun r' n1 f' hq hle => ?_)
  obtain ⟨hle1, hq⟩ := hq
  rcases hq with ⟨e, np1, f2, e4, hr', hf', fr1, nd1⟩ | ⟨f2, e4, hr', hf', fr1⟩
  · subst hr'
    subst hf'
    have e4 : w1' = some e := e4
    subst e4
    have b1 := pB_2 (TX := A 7) (T := T) (g := g) (F := F) l7
    have hM2 := ll.2.2 e q1 w1
    generalize w2e : pB (A 7) T g (pR (A 7) T F (g + 1)) q1 = w2' at b1 hM2
    obtain ⟨w2, q2⟩ := w2'
    have l8 : q1 ≤ q2 := b1.1
    have l9 : q2 ≤ T := b1.2
    have hM2 : q2 ≤ (pLp (A 7) T g (pR (A 7) T F (g + 1)) p).2 := hM2
    show SW l D cy mX8_readLoop d M (6 * M) (0 + (q1 - p)) (0 + 6 * (q1 - p)) 5 [(0, .ref 6), (1, .int (nI g))] [.ref np1] n1 (gd f2 (rS s q1 (-1)) A B o pr) _ _
    refine sw_astore_n [(0, _), (1, _), (2, _)] dX8_readLoop_5 rfl (by decide) rfl ?_
    refine sw_aload_n dX8_readLoop_6 rfl rfl ?_
    refine sw_ifnonnullR 12 dX8_readLoop_7 (by decide) ?_
    refine sw_aload_n dX8_readLoop_12 rfl (by first | rfl | assumption) ?_
    refine sw_iload_n dX8_readLoop_13 rfl ?_
    refine sw_iconst (x := 1) dX8_readLoop_14 (by decide) ?_
    refine sw_iadd dX8_readLoop_15 ?_
    refine sw_top (y := nI (g + 1)) (nI_1 g) ?_
    have ctq2 := c_X8_readBlock (l := l) (D := D) (cy := cy) (d := d - 1) (n := n1) (f := f2) (s := s) (B := B) (o := o) (pr := pr) (M := q2 - q1) hT ih hg (by omega) (by omega) (by omega) (p := q1) (by omega) (by omega) (by rw [w2e]; show q2 ≤ _; omega)
    rw [w2e] at ctq2
    refine sw_callV dX8_readLoop_16 k_X8_71 mf_X8_readBlock ⟨_, rfl, rfl⟩ rfl ctq2 (by omega) ⟨by omega, by omega⟩ rfl rfl (Nat.le_of_ble_eq_true rfl) (fun r' n2 f' hq hle => ?_)
    obtain ⟨hle2, hq⟩ := hq
    rcases hq with ⟨t1, v1, f3, e5, hr', hf', fr2, nd2⟩ | ⟨f3, e5, hr', hf', fr2⟩
    · subst hr'
      subst hf'
      have e5 : w2 = some t1 := e5
      subst e5
      have hv1 := ndR_r t1 v1 nd2
      have ew : (pLp (A 7) T g (pR (A 7) T F (g + 1)) p) = (some (rLp e t1), q2) := by rw [pLp, w1]; show (match pB (A 7) T g (pR (A 7) T F (g + 1)) q1 with | (none, q1) => (none, q1) | (some r1, q1) => _ : Option (RT → RT) × Nat) = _; rw [w2e]
      show SW l D cy mX8_readLoop d M (6 * M) (0 + (q1 - p) + (q2 - q1)) (0 + 6 * (q1 - p) + 6 * (q2 - q1)) 19 [(0, .ref 6), (1, .int (nI g)), (2, .ref np1)] [v1] n2 (gd f3 (rS s q2 (-1)) A B o pr) _ _
      refine sw_astore_n [(0, _), (1, _), (2, _), (3, _)] dX8_readLoop_19 (by first | rfl | assumption) (by decide) rfl ?_
      refine sw_aload_n dX8_readLoop_20 rfl (by first | rfl | assumption) ?_
      refine sw_get dX8_readLoop_21 fr_X8_22 rfl rfl ?_
      refine sw_top (y := -1) rfl ?_
      refine sw_iconst (x := (-1)) dX8_readLoop_24 (by decide) ?_
      refine sw_icmp_ne 43 dX8_readLoop_25 (by decide) (fun h25 => ?_) (fun h25 => ?_)
      · exact absurd rfl h25
      · refine sw_new dX8_readLoop_28 nf_X8_47 (by omega) (by omega) ?_
        rw [gd_x _ _ _ _ _ _ (show 150 ≤ n2 by omega)]
        refine sw_dup dX8_readLoop_31 rfl ?_
        refine sw_iconst (x := 5) dX8_readLoop_32 (by decide) ?_
        refine sw_iconst (x := 0) dX8_readLoop_33 (by decide) ?_
        refine sw_aload_n dX8_readLoop_34 rfl rfl ?_
        refine sw_aload_n dX8_readLoop_35 rfl hv1 ?_
        refine sw_null dX8_readLoop_36 ?_
        refine sw_callI dX8_readLoop_37 k_X8_68 mf_X6_init (c_X6_init (d := d - 1) (by omega) (show 150 ≤ n2 by omega) (vu_at _ _ _) 5 0 (x := .ref np1) rfl (y := v1) hv1 (z := .null) rfl) (by omega) ⟨by omega, by omega⟩ rfl rfl (Nat.le_of_ble_eq_true rfl) (fun r' n' f' hq hle => ?_)
        obtain ⟨hr', hn', hf'⟩ := hq
        subst hr'
        have hn' := hn'.symm
        subst hn'
        subst hf'
        rw [vu_up]
        show SW l D cy mX8_readLoop d M (6 * M) (0 + (q1 - p) + (q2 - q1) + 1 + 0) (0 + 6 * (q1 - p) + 6 * (q2 - q1) + 6 + 0) 40 [(0, .ref 6), (1, .int (nI g)), (2, .ref np1), (3, v1)] [.ref n2] (n2 + 1) (gd (va_up f3 n2 (nd 5 0 (.ref np1) v1 .null .null)) (rS s q2 (-1)) A B o pr) _ _
        refine sw_goto 44 dX8_readLoop_40 (by decide) ?_
        refine sw_aret dX8_readLoop_44 rfl rfl (by omega) (by omega) ⟨by omega, Or.inl ⟨_, n2, _, by rw [ew], rfl, by rw [ew], fun i hi => ?_, ?_⟩⟩
        · rw [vu_ne _ (show ¬ i = n2 by omega), fr2 i (by omega), fr1 i hi]
        · refine ⟨⟨by omega, by omega⟩, 5, 0, .ref np1, v1, .null, vu_at _ _ _, fun f' m n' R nx h1 h2 h3 h4 h5 => ?_⟩
          exact ⟨n2, np1, v1, nx, rfl, ⟨by omega, by omega⟩, h4, ndE_x h1 (by omega) (fun i i1 i2 => by rw [h3 i i1 (by omega) (by omega), vu_ne _ (show ¬ i = n2 by omega), fr2 i i2]) e np1 nd1, ndR_x (show m ≤ n1 by omega) (by omega) (fun i i1 i2 => by rw [h3 i (by omega) (by omega) (by omega), vu_ne _ (show ¬ i = n2 by omega)]) t1 v1 nd2, h5⟩
    · subst hr'
      subst hf'
      have e5 : w2 = none := e5
      subst e5
      have ew : (pLp (A 7) T g (pR (A 7) T F (g + 1)) p) = (none, q2) := by rw [pLp, w1]; show (match pB (A 7) T g (pR (A 7) T F (g + 1)) q1 with | (none, q1) => (none, q1) | (some r1, q1) => _ : Option (RT → RT) × Nat) = _; rw [w2e]
      show SW l D cy mX8_readLoop d M (6 * M) (0 + (q1 - p) + (q2 - q1)) (0 + 6 * (q1 - p) + 6 * (q2 - q1)) 19 [(0, .ref 6), (1, .int (nI g)), (2, .ref np1)] [.null] n2 (gd f3 (rS s q2 (nI q2)) A B o pr) _ _
      refine sw_astore_n [(0, _), (1, _), (2, _), (3, _)] dX8_readLoop_19 (by first | rfl | assumption) (by decide) rfl ?_
      refine sw_aload_n dX8_readLoop_20 rfl (by first | rfl | assumption) ?_
      refine sw_get dX8_readLoop_21 fr_X8_22 rfl rfl ?_
      refine sw_top (y := nI q2) rfl ?_
      refine sw_iconst (x := (-1)) dX8_readLoop_24 (by decide) ?_
      refine sw_icmp_ne 43 dX8_readLoop_25 (by decide) (fun h25 => ?_) (fun h25 => ?_)
      · refine sw_null dX8_readLoop_43 ?_
        exact sw_aret dX8_readLoop_44 rfl (by first | rfl | assumption) (by omega) (by omega) ⟨by omega, Or.inr ⟨f3, by rw [ew], rfl, by rw [ew], fun i hi => by rw [fr2 i (by omega), fr1 i hi]⟩⟩
      · exact absurd (show nI q2 < 0 by rw [h25]; decide) (i32_nlt0 (by omega))
  · subst hr'
    subst hf'
    have e4 : w1' = none := e4
    subst e4
    have ew : (pLp (A 7) T g (pR (A 7) T F (g + 1)) p) = (none, q1) := by rw [pLp, w1]
    show SW l D cy mX8_readLoop d M (6 * M) (0 + (q1 - p)) (0 + 6 * (q1 - p)) 5 [(0, .ref 6), (1, .int (nI g))] [.null] n1 (gd f2 (rS s q1 (nI q1)) A B o pr) _ _
    refine sw_astore_n [(0, _), (1, _), (2, _)] dX8_readLoop_5 rfl (by decide) rfl ?_
    refine sw_aload_n dX8_readLoop_6 rfl rfl ?_
    refine sw_ifnonnullN dX8_readLoop_7 ?_
    refine sw_null dX8_readLoop_10 ?_
    exact sw_aret dX8_readLoop_11 rfl (by first | rfl | assumption) (by omega) (by omega) ⟨by omega, Or.inr ⟨f2, by rw [ew], rfl, by rw [ew], fr1⟩⟩
set_option maxRecDepth 100000 in
theorem c_X8_readChoice {l : Launch} {D : va_G} {cy : Nat → ClassId} {d n : Nat} {f : sw_F} {s : Nat → Int32} {A : Nat → Nat → Int32} {B : Nat → Nat → Int64} {o : Int64} {pr : Value} {T : Nat} (hT : TC s (A 7) T) {F g p M : Nat} (ih : ∀ (g p M n d : Nat) (f : sw_F), g ≤ 6 → 32 - 4 * g ≤ d → 187 ≤ n → p ≤ T → T < p + F → (pR (A 7) T F g p).2 ≤ p + M → sw_Ct l D cy mX8_readRow d M (6 * (M)) [.ref 6, .int (nI (g))] n (gd f (rS s (p) (-1)) A B o pr) (QRw n f s A B o pr (pR (A 7) T F (g) (p)))) (hg : g ≤ 6) (hd : 30 - 4 * g ≤ d) (hd2 : 4 ≤ d) (hn : 187 ≤ n) (hp : p ≤ T) (hF : T < p + 1 + F) (hM : (pCh (A 7) T g (pR (A 7) T F (g + 1)) p).2 + 1 ≤ p + M) : sw_Ct l D cy mX8_readChoice d M (6 * M) [.ref 6, .int (nI g)] n (gd f (rS s (p) (-1)) A B o pr) (QSt n f s A B o pr (pCh (A 7) T g (pR (A 7) T F (g + 1)) p)) := by
  have hT2 := hT.2.1
  refine sw_of rfl (Nat.le_of_ble_eq_true rfl) ?_
  show SW l D cy mX8_readChoice d M (6 * M) 0 0 0 [(0, .ref 6), (1, .int (nI g))] [] n (gd f (rS s (p) (-1)) A B o pr) _ _
  have l1 := pE_le (TX := A 7) 100 g p hp
  have ll := pCh_le (TX := A 7) (T := T) (g := g) (F := F) hp
  generalize w1 : pE (A 7) T 100 g p = w1'' at l1 ll
  obtain ⟨w1', q1⟩ := w1''
  have l6 : p ≤ q1 := l1.1
  have l7 : q1 ≤ T := l1.2.1
  have hMq : q1 ≤ (pCh (A 7) T g (pR (A 7) T F (g + 1)) p).2 := ll.1
  rw [← w1] at ll
  refine sw_aload_n dX8_readChoice_0 rfl (by first | rfl | assumption) ?_
  refine sw_iload_n dX8_readChoice_1 rfl ?_
  have ct1 := c_X8_readExpression (l := l) (D := D) (cy := cy) (s := s) (B := B) (o := o) (pr := pr) hT 100 g p (q1 - p) n (d - 1) f hg (by omega) hn hp (by omega) (by rw [w1]; show q1 ≤ _; omega)
  rw [w1] at ct1
  refine sw_callV dX8_readChoice_2 k_X8_65 mf_X8_readExpression ⟨_, rfl, rfl⟩ rfl ct1 (by omega) ⟨by omega, by omega⟩ rfl rfl (Nat.le_of_ble_eq_true rfl) (fun r' n1 f' hq hle => ?_)
  obtain ⟨hle1, hq⟩ := hq
  rcases hq with ⟨e, np1, f2, e4, hr', hf', fr1, nd1⟩ | ⟨f2, e4, hr', hf', fr1⟩
  · subst hr'
    subst hf'
    have e4 : w1' = some e := e4
    subst e4
    have b1 := pB_2 (TX := A 7) (T := T) (g := g) (F := F) l7
    have hM2 := (ll.2.2 e q1 w1).1
    generalize w2e : pB (A 7) T g (pR (A 7) T F (g + 1)) q1 = w2' at b1 hM2
    obtain ⟨w2, q2⟩ := w2'
    have l8 : q1 ≤ q2 := b1.1
    have l9 : q2 ≤ T := b1.2
    have hM2 : q2 ≤ (pCh (A 7) T g (pR (A 7) T F (g + 1)) p).2 := hM2
    show SW l D cy mX8_readChoice d M (6 * M) (0 + (q1 - p)) (0 + 6 * (q1 - p)) 5 [(0, .ref 6), (1, .int (nI g))] [.ref np1] n1 (gd f2 (rS s q1 (-1)) A B o pr) _ _
    refine sw_astore_n [(0, _), (1, _), (2, _)] dX8_readChoice_5 rfl (by decide) rfl ?_
    refine sw_aload_n dX8_readChoice_6 rfl rfl ?_
    refine sw_ifnonnullR 12 dX8_readChoice_7 (by decide) ?_
    refine sw_aload_n dX8_readChoice_12 rfl (by first | rfl | assumption) ?_
    refine sw_iload_n dX8_readChoice_13 rfl ?_
    refine sw_iconst (x := 1) dX8_readChoice_14 (by decide) ?_
    refine sw_iadd dX8_readChoice_15 ?_
    refine sw_top (y := nI (g + 1)) (nI_1 g) ?_
    have ctq2 := c_X8_readBlock (l := l) (D := D) (cy := cy) (d := d - 1) (n := n1) (f := f2) (s := s) (B := B) (o := o) (pr := pr) (M := q2 - q1) hT ih hg (by omega) (by omega) (by omega) (p := q1) (by omega) (by omega) (by rw [w2e]; show q2 ≤ _; omega)
    rw [w2e] at ctq2
    refine sw_callV dX8_readChoice_16 k_X8_71 mf_X8_readBlock ⟨_, rfl, rfl⟩ rfl ctq2 (by omega) ⟨by omega, by omega⟩ rfl rfl (Nat.le_of_ble_eq_true rfl) (fun r' n2 f' hq hle => ?_)
    obtain ⟨hle2, hq⟩ := hq
    rcases hq with ⟨t1, v1, f3, e5, hr', hf', fr2, nd2⟩ | ⟨f3, e5, hr', hf', fr2⟩
    · subst hr'
      subst hf'
      have e5 : w2 = some t1 := e5
      subst e5
      have hv1 := ndR_r t1 v1 nd2
      have b3 := pB_2 (TX := A 7) (T := T) (g := g) (F := F) l9
      have hM3 := (ll.2.2 e q1 w1).2 t1 q2 w2e
      generalize w3e : pB (A 7) T g (pR (A 7) T F (g + 1)) q2 = w3' at b3 hM3
      obtain ⟨w3, q3⟩ := w3'
      have b4 : q2 ≤ q3 := b3.1
      have b5 : q3 ≤ T := b3.2
      have hM3 : q3 ≤ (pCh (A 7) T g (pR (A 7) T F (g + 1)) p).2 := hM3
      show SW l D cy mX8_readChoice d M (6 * M) (0 + (q1 - p) + (q2 - q1)) (0 + 6 * (q1 - p) + 6 * (q2 - q1)) 19 [(0, .ref 6), (1, .int (nI g)), (2, .ref np1)] [v1] n2 (gd f3 (rS s q2 (-1)) A B o pr) _ _
      refine sw_astore_n [(0, _), (1, _), (2, _), (3, _)] dX8_readChoice_19 (by first | rfl | assumption) (by decide) rfl ?_
      refine sw_aload_n dX8_readChoice_20 rfl (by first | rfl | assumption) ?_
      refine sw_get dX8_readChoice_21 fr_X8_22 rfl rfl ?_
      refine sw_top (y := -1) rfl ?_
      refine sw_iconst (x := (-1)) dX8_readChoice_24 (by decide) ?_
      refine sw_icmp_eq 30 dX8_readChoice_25 (by decide) (fun h25 => ?_) (fun h25 => ?_)
      · refine sw_aload_n dX8_readChoice_30 rfl (by first | rfl | assumption) ?_
        refine sw_iload_n dX8_readChoice_31 rfl ?_
        refine sw_iconst (x := 1) dX8_readChoice_32 (by decide) ?_
        refine sw_iadd dX8_readChoice_33 ?_
        refine sw_top (y := nI (g + 1)) (nI_1 g) ?_
        have ctq3 := c_X8_readBlock (l := l) (D := D) (cy := cy) (d := d - 1) (n := n2) (f := f3) (s := s) (B := B) (o := o) (pr := pr) (M := q3 - q2) hT ih hg (by omega) (by omega) (by omega) (p := q2) (by omega) (by omega) (by rw [w3e]; show q3 ≤ _; omega)
        rw [w3e] at ctq3
        refine sw_callV dX8_readChoice_34 k_X8_71 mf_X8_readBlock ⟨_, rfl, rfl⟩ rfl ctq3 (by omega) ⟨by omega, by omega⟩ rfl rfl (Nat.le_of_ble_eq_true rfl) (fun r' n3 f' hq hle => ?_)
        obtain ⟨hle3, hq⟩ := hq
        rcases hq with ⟨t2, v2, f4, e6, hr', hf', fr3, nd3⟩ | ⟨f4, e6, hr', hf', fr3⟩
        · subst hr'
          subst hf'
          have e6 : w3 = some t2 := e6
          subst e6
          have hv2 := ndR_r t2 v2 nd3
          have ew : (pCh (A 7) T g (pR (A 7) T F (g + 1)) p) = (some (rCh e t1 t2), q3) := by rw [pCh, w1]; show (match pB (A 7) T g (pR (A 7) T F (g + 1)) q1 with | (none, q1) => (none, q1) | (some r1, q1) => _ : Option (RT → RT) × Nat) = _; rw [w2e]; show (match pB (A 7) T g (pR (A 7) T F (g + 1)) q2 with | (none, q2) => (none, q2) | (some r2, q2) => _ : Option (RT → RT) × Nat) = _; rw [w3e]
          show SW l D cy mX8_readChoice d M (6 * M) (0 + (q1 - p) + (q2 - q1) + (q3 - q2)) (0 + 6 * (q1 - p) + 6 * (q2 - q1) + 6 * (q3 - q2)) 37 [(0, .ref 6), (1, .int (nI g)), (2, .ref np1), (3, v1)] [v2] n3 (gd f4 (rS s q3 (-1)) A B o pr) _ _
          refine sw_astore [(0, .ref 6), (1, .int (nI g)), (2, .ref np1), (3, v1), (4, v2)] dX8_readChoice_37 (by first | rfl | assumption) (by decide) (by rcases isR_c hv1 with rfl | ⟨_, rfl⟩ <;> rfl) ?_
          refine sw_aload_n dX8_readChoice_39 rfl (by first | rfl | assumption) ?_
          refine sw_get dX8_readChoice_40 fr_X8_22 rfl rfl ?_
          refine sw_top (y := -1) rfl ?_
          refine sw_iconst (x := (-1)) dX8_readChoice_43 (by decide) ?_
          refine sw_icmp_ne 63 dX8_readChoice_44 (by decide) (fun h44 => ?_) (fun h44 => ?_)
          · exact absurd rfl h44
          · refine sw_new dX8_readChoice_47 nf_X8_47 (by omega) (by omega) ?_
            rw [gd_x _ _ _ _ _ _ (show 150 ≤ n3 by omega)]
            refine sw_dup dX8_readChoice_50 rfl ?_
            refine sw_iconst (x := 4) dX8_readChoice_51 (by decide) ?_
            refine sw_iconst (x := 0) dX8_readChoice_52 (by decide) ?_
            refine sw_aload_n dX8_readChoice_53 rfl rfl ?_
            refine sw_aload_n dX8_readChoice_54 rfl hv1 ?_
            refine sw_aload dX8_readChoice_55 rfl hv2 ?_
            refine sw_callI dX8_readChoice_57 k_X8_68 mf_X6_init (c_X6_init (d := d - 1) (by omega) (show 150 ≤ n3 by omega) (vu_at _ _ _) 4 0 (x := .ref np1) rfl (y := v1) hv1 (z := v2) hv2) (by omega) ⟨by omega, by omega⟩ rfl rfl (Nat.le_of_ble_eq_true rfl) (fun r' n' f' hq hle => ?_)
            obtain ⟨hr', hn', hf'⟩ := hq
            subst hr'
            have hn' := hn'.symm
            subst hn'
            subst hf'
            rw [vu_up]
            show SW l D cy mX8_readChoice d M (6 * M) (0 + (q1 - p) + (q2 - q1) + (q3 - q2) + 1 + 0) (0 + 6 * (q1 - p) + 6 * (q2 - q1) + 6 * (q3 - q2) + 6 + 0) 60 [(0, .ref 6), (1, .int (nI g)), (2, .ref np1), (3, v1), (4, v2)] [.ref n3] (n3 + 1) (gd (va_up f4 n3 (nd 4 0 (.ref np1) v1 v2 .null)) (rS s q3 (-1)) A B o pr) _ _
            refine sw_goto 64 dX8_readChoice_60 (by decide) ?_
            refine sw_aret dX8_readChoice_64 rfl rfl (by omega) (by omega) ⟨by omega, Or.inl ⟨_, n3, _, by rw [ew], rfl, by rw [ew], fun i hi => ?_, ?_⟩⟩
            · rw [vu_ne _ (show ¬ i = n3 by omega), fr3 i (by omega), fr2 i (by omega), fr1 i hi]
            · refine ⟨⟨by omega, by omega⟩, 4, 0, .ref np1, v1, v2, vu_at _ _ _, fun f' m n' R nx h1 h2 h3 h4 h5 => ?_⟩
              exact ⟨n3, np1, v1, v2, nx, rfl, ⟨by omega, by omega⟩, h4, ndE_x h1 (by omega) (fun i i1 i2 => by rw [h3 i i1 (by omega) (by omega), vu_ne _ (show ¬ i = n3 by omega), fr3 i (by omega), fr2 i i2]) e np1 nd1, ndR_x (show m ≤ n1 by omega) (by omega) (fun i i1 i2 => by rw [h3 i (by omega) (by omega) (by omega), vu_ne _ (show ¬ i = n3 by omega), fr3 i i2]) t1 v1 nd2, ndR_x (show m ≤ n2 by omega) (by omega) (fun i i1 i2 => by rw [h3 i (by omega) (by omega) (by omega), vu_ne _ (show ¬ i = n3 by omega)]) t2 v2 nd3, h5⟩
        · subst hr'
          subst hf'
          have e6 : w3 = none := e6
          subst e6
          have ew : (pCh (A 7) T g (pR (A 7) T F (g + 1)) p) = (none, q3) := by rw [pCh, w1]; show (match pB (A 7) T g (pR (A 7) T F (g + 1)) q1 with | (none, q1) => (none, q1) | (some r1, q1) => _ : Option (RT → RT) × Nat) = _; rw [w2e]; show (match pB (A 7) T g (pR (A 7) T F (g + 1)) q2 with | (none, q2) => (none, q2) | (some r2, q2) => _ : Option (RT → RT) × Nat) = _; rw [w3e]
          show SW l D cy mX8_readChoice d M (6 * M) (0 + (q1 - p) + (q2 - q1) + (q3 - q2)) (0 + 6 * (q1 - p) + 6 * (q2 - q1) + 6 * (q3 - q2)) 37 [(0, .ref 6), (1, .int (nI g)), (2, .ref np1), (3, v1)] [.null] n3 (gd f4 (rS s q3 (nI q3)) A B o pr) _ _
          refine sw_astore [(0, .ref 6), (1, .int (nI g)), (2, .ref np1), (3, v1), (4, .null)] dX8_readChoice_37 (by first | rfl | assumption) (by decide) (by rcases isR_c hv1 with rfl | ⟨_, rfl⟩ <;> rfl) ?_
          refine sw_aload_n dX8_readChoice_39 rfl (by first | rfl | assumption) ?_
          refine sw_get dX8_readChoice_40 fr_X8_22 rfl rfl ?_
          refine sw_top (y := nI q3) rfl ?_
          refine sw_iconst (x := (-1)) dX8_readChoice_43 (by decide) ?_
          refine sw_icmp_ne 63 dX8_readChoice_44 (by decide) (fun h44 => ?_) (fun h44 => ?_)
          · refine sw_null dX8_readChoice_63 ?_
            exact sw_aret dX8_readChoice_64 rfl (by first | rfl | assumption) (by omega) (by omega) ⟨by omega, Or.inr ⟨f4, by rw [ew], rfl, by rw [ew], fun i hi => by rw [fr3 i (by omega), fr2 i (by omega), fr1 i hi]⟩⟩
          · exact absurd (show nI q3 < 0 by rw [h44]; decide) (i32_nlt0 (by omega))
      · exact absurd rfl h25
    · subst hr'
      subst hf'
      have e5 : w2 = none := e5
      subst e5
      have ew : (pCh (A 7) T g (pR (A 7) T F (g + 1)) p) = (none, q2) := by rw [pCh, w1]; show (match pB (A 7) T g (pR (A 7) T F (g + 1)) q1 with | (none, q1) => (none, q1) | (some r1, q1) => _ : Option (RT → RT) × Nat) = _; rw [w2e]
      show SW l D cy mX8_readChoice d M (6 * M) (0 + (q1 - p) + (q2 - q1)) (0 + 6 * (q1 - p) + 6 * (q2 - q1)) 19 [(0, .ref 6), (1, .int (nI g)), (2, .ref np1)] [.null] n2 (gd f3 (rS s q2 (nI q2)) A B o pr) _ _
      refine sw_astore_n [(0, _), (1, _), (2, _), (3, _)] dX8_readChoice_19 (by first | rfl | assumption) (by decide) rfl ?_
      refine sw_aload_n dX8_readChoice_20 rfl (by first | rfl | assumption) ?_
      refine sw_get dX8_readChoice_21 fr_X8_22 rfl rfl ?_
      refine sw_top (y := nI q2) rfl ?_
      refine sw_iconst (x := (-1)) dX8_readChoice_24 (by decide) ?_
      refine sw_icmp_eq 30 dX8_readChoice_25 (by decide) (fun h25 => ?_) (fun h25 => ?_)
      · exact absurd (show nI q2 < 0 by rw [h25]; decide) (i32_nlt0 (by omega))
      · refine sw_null dX8_readChoice_28 ?_
        exact sw_aret dX8_readChoice_29 rfl (by first | rfl | assumption) (by omega) (by omega) ⟨by omega, Or.inr ⟨f3, by rw [ew], rfl, by rw [ew], fun i hi => by rw [fr2 i (by omega), fr1 i hi]⟩⟩
  · subst hr'
    subst hf'
    have e4 : w1' = none := e4
    subst e4
    have ew : (pCh (A 7) T g (pR (A 7) T F (g + 1)) p) = (none, q1) := by rw [pCh, w1]
    show SW l D cy mX8_readChoice d M (6 * M) (0 + (q1 - p)) (0 + 6 * (q1 - p)) 5 [(0, .ref 6), (1, .int (nI g))] [.null] n1 (gd f2 (rS s q1 (nI q1)) A B o pr) _ _
    refine sw_astore_n [(0, _), (1, _), (2, _)] dX8_readChoice_5 rfl (by decide) rfl ?_
    refine sw_aload_n dX8_readChoice_6 rfl rfl ?_
    refine sw_ifnonnullN dX8_readChoice_7 ?_
    refine sw_null dX8_readChoice_10 ?_
    exact sw_aret dX8_readChoice_11 rfl (by first | rfl | assumption) (by omega) (by omega) ⟨by omega, Or.inr ⟨f2, by rw [ew], rfl, by rw [ew], fr1⟩⟩
