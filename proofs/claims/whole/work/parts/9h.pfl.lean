/-! ===== rows of labels, ordered; the flow grows ===== -/
def le8 (J : Int32 → Int32 → Int32) (V W : Nat → Int32) : Prop := ∀ v, v < 8 → jle J (V v) (W v)
section LE8
variable {N : Nat} {J : Int32 → Int32 → Int32} {bo : Int32}
theorem le8_rfl (h : SL N J) {V : Nat → Int32} (hV : lv8 N V) : le8 J V V := fun v hv => jle_rfl h (hV v hv)
theorem le8_tr (h : SL N J) {U V W : Nat → Int32} (hU : lv8 N U) (hV : lv8 N V) (hW : lv8 N W) (h1 : le8 J U V) (h2 : le8 J V W) : le8 J U W := fun v hv => jle_tr h (hU v hv) (hV v hv) (hW v hv) (h1 v hv) (h2 v hv)
theorem le8_e (h : SL N J) {V W : Nat → Int32} (hV : lv8 N V) (e : e8 V W) : le8 J V W := fun v hv => by rw [← e v hv]; exact jle_rfl h (hV v hv)
theorem le8_as (h : SL N J) {V W : Nat → Int32} (hV : lv8 N V) (hW : lv8 N W) (h1 : le8 J V W) (h2 : le8 J W V) : e8 V W := fun v hv => jle_as h (hV v hv) (hW v hv) (h1 v hv) (h2 v hv)
theorem e8_s {V W : Nat → Int32} (h : e8 V W) : e8 W V := fun v hv => (h v hv).symm
theorem rj_l (h : SL N J) {X Y : Nat → Int32} (hX : lv8 N X) (hY : lv8 N Y) : le8 J X (rj J X Y) := fun v hv => jle_l h (hX v hv) (hY v hv)
theorem rj_r (h : SL N J) {X Y : Nat → Int32} (hX : lv8 N X) (hY : lv8 N Y) : le8 J Y (rj J X Y) := fun v hv => jle_r h (hX v hv) (hY v hv)
theorem rj_j (h : SL N J) {X Y Z : Nat → Int32} (hX : lv8 N X) (hY : lv8 N Y) (hZ : lv8 N Z) (h1 : le8 J X Z) (h2 : le8 J Y Z) : le8 J (rj J X Y) Z := fun v hv => jle_j h (hX v hv) (hY v hv) (hZ v hv) (h1 v hv) (h2 v hv)
theorem rj_m (h : SL N J) {X Y X' Y' : Nat → Int32} (hX : lv8 N X) (hY : lv8 N Y) (hX' : lv8 N X') (hY' : lv8 N Y') (h1 : le8 J X X') (h2 : le8 J Y Y') : le8 J (rj J X Y) (rj J X' Y') := fun v hv => jle_m h (hX v hv) (hY v hv) (hX' v hv) (hY' v hv) (h1 v hv) (h2 v hv)
theorem up_m8 {V W : Nat → Int32} {x y : Int32} (v : Nat) (h1 : le8 J V W) (h2 : jle J x y) : le8 J (upd V v x) (upd W v y) := fun i hi => by
  by_cases c : i = v
  · rw [c, upd_at, upd_at]; exact h2
  · rw [upd_ne _ _ c, upd_ne _ _ c]; exact h1 i hi
theorem lbE_m (h : SL N J) (hb : lv N bo) {V W : Nat → Int32} (hV : lv8 N V) (hW : lv8 N W) (hl : le8 J V W) : ∀ (e : ET), wfE e → jle J (lbE J bo V e) (lbE J bo W e)
  | .leaf x, w => by
    unfold lbE
    split
    · rename_i c
      rcases w with w | w
      · exact absurd c (by rw [w.1]; decide)
      · exact hl _ w.2
    · exact jle_rfl h hb
  | .branch _ a b, w => jle_m h (lbE_lv h hb hV a w.2.1) (lbE_lv h hb hV b w.2.2) (lbE_lv h hb hW a w.2.1) (lbE_lv h hb hW b w.2.2) (lbE_m h hb hV hW hl a w.2.1) (lbE_m h hb hV hW hl b w.2.2)
theorem flL_ge (h : SL N J) {stp : (Nat → Int32) → Nat → Int32} (hs : ∀ V, lv8 N V → lv8 N (stp V)) (hi : ∀ V, lv8 N V → le8 J V (stp V)) : ∀ k V, lv8 N V → le8 J V (flL stp k V)
  | 0, V, hV => le8_rfl h hV
  | k + 1, V, hV => by
    unfold flL
    split
    · exact hi V hV
    · exact le8_tr h hV (hs V hV) (flL_lv hs k _ (hs V hV)) (hi V hV) (flL_ge h hs hi k _ (hs V hV))
theorem flL_le (h : SL N J) {stp : (Nat → Int32) → Nat → Int32} (hs : ∀ V, lv8 N V → lv8 N (stp V)) (hm : ∀ V W, lv8 N V → lv8 N W → le8 J V W → le8 J (stp V) (stp W)) {Z : Nat → Int32} (hZ : lv8 N Z) (hc : le8 J (stp Z) Z) : ∀ k V, lv8 N V → le8 J V Z → le8 J (flL stp k V) Z
  | 0, V, hV, hl => hl
  | k + 1, V, hV, hl => by
    have q : le8 J (stp V) Z := le8_tr h (hs V hV) (hs Z hZ) hZ (hm V Z hV hZ hl) hc
    unfold flL
    split
    · exact q
    · exact flL_le h hs hm hZ hc k _ (hs V hV) q
theorem flL_cl (h : SL N J) (hN : N ≤ 6) {stp : (Nat → Int32) → Nat → Int32} (hs : ∀ V, lv8 N V → lv8 N (stp V)) (hi : ∀ V, lv8 N V → le8 J V (stp V)) (hc : ∀ V W, e8 V W → e8 (stp V) (stp W)) : ∀ k V, lv8 N V → ph8 N J V < k → e8 (stp (flL stp k V)) (flL stp k V)
  | 0, V, hV, hk => absurd hk (Nat.not_lt_zero _)
  | k + 1, V, hV, hk => by
    unfold flL
    by_cases c : allF (fun v => decide (stp V v = V v)) 0 8 = true
    · rw [if_pos c]
      exact hc _ _ (al_e8.mp c)
    · rw [if_neg c]
      have := ph8_lt h hN hV (hs V hV) (hi V hV) (fun z => c (al_e8.mpr z))
      exact flL_cl h hN hs hi hc k _ (hs V hV) (by omega)
/-- one round of a loop -/
def stL (J : Int32 → Int32 → Int32) (bo : Int32) (r : RT) (e : ET) (u : Int32) : (Nat → Int32) → Nat → Int32 := fun W => rj J (flR J bo r (J u (lbE J bo W e)) W) W
theorem stL_lv (h : SL N J) (hb : lv N bo) {r : RT} {e : ET} {u : Int32} (wr : wfR r) (we : wfE e) (hu : lv N u) (W : Nat → Int32) (hW : lv8 N W) : lv8 N (stL J bo r e u W) := rj_lv h (flR_lv h hb r _ W wr (h.1 _ _ hu (lbE_lv h hb hW e we)) hW) hW
theorem stL_i (h : SL N J) (hb : lv N bo) {r : RT} {e : ET} {u : Int32} (wr : wfR r) (we : wfE e) (hu : lv N u) (W : Nat → Int32) (hW : lv8 N W) : le8 J W (stL J bo r e u W) := rj_r h (flR_lv h hb r _ W wr (h.1 _ _ hu (lbE_lv h hb hW e we)) hW) hW
theorem stL_c {r : RT} {e : ET} {u : Int32} (wr : wfR r) (we : wfE e) (V W : Nat → Int32) (q : e8 V W) : e8 (stL J bo r e u V) (stL J bo r e u W) := fun v hv => by
  show J _ (V v) = J _ (W v)
  rw [q v hv, lbE_cg q e we, flR_cg r _ V W wr q v hv]
/-- what a loop comes to -/
theorem lpF (h : SL N J) (hN : N ≤ 6) (hb : lv N bo) {r : RT} {e : ET} {u : Int32} (wr : wfR r) (we : wfE e) (hu : lv N u) {V : Nat → Int32} (hV : lv8 N V) : lv8 N (flL (stL J bo r e u) 100 V) ∧ le8 J V (flL (stL J bo r e u) 100 V) ∧ le8 J (stL J bo r e u (flL (stL J bo r e u) 100 V)) (flL (stL J bo r e u) 100 V) := by
  have l1 := flL_lv (stL_lv h hb wr we hu) 100 V hV
  refine ⟨l1, flL_ge h (stL_lv h hb wr we hu) (stL_i h hb wr we hu) 100 V hV, le8_e h (stL_lv h hb wr we hu _ l1) (flL_cl h hN (stL_lv h hb wr we hu) (stL_i h hb wr we hu) (stL_c wr we) 100 V hV ?_)⟩
  have := ph8_max (N := N) (J := J) V
  omega
theorem flR_mo (h : SL N J) (hN : N ≤ 6) (hb : lv N bo) : ∀ (t : RT) (u w : Int32) (V W : Nat → Int32), wfR t → lv N u → lv N w → lv8 N V → lv8 N W → jle J u w → le8 J V W → le8 J (flR J bo t u V) (flR J bo t w W)
  | .leaf _, u, w, V, W, wf, hu, hw, hV, hW, h1, h2 => h2
  | .branch v (.leaf e) R, u, w, V, W, wf, hu, hw, hV, hW, h1, h2 => by
    rw [flR, flR]
    have l1 := lbE_lv h hb hV e wf.2.1
    have l2 := lbE_lv h hb hW e wf.2.1
    exact flR_mo h hN hb R u w _ _ wf.2.2 hu hw (up_lv hV (h.1 _ _ hu l1)) (up_lv hW (h.1 _ _ hw l2)) h1 (up_m8 v h2 (jle_m h hu l1 hw l2 h1 (lbE_m h hb hV hW h2 e wf.2.1)))
  | .branch _ (.branch _ (.leaf e) r) R, u, w, V, W, wf, hu, hw, hV, hW, h1, h2 => by
    rw [flR, flR]
    show le8 J (flR J bo R u (flL (stL J bo r e u) 100 V)) (flR J bo R w (flL (stL J bo r e w) 100 W))
    have mo : ∀ (x y : Int32) (X Y : Nat → Int32), lv N x → lv N y → lv8 N X → lv8 N Y → jle J x y → le8 J X Y → le8 J (stL J bo r e x X) (stL J bo r e y Y) := fun x y X Y hx hy hX hY q1 q2 => by
      have a1 := h.1 _ _ hx (lbE_lv h hb hX e wf.1)
      have a2 := h.1 _ _ hy (lbE_lv h hb hY e wf.1)
      exact rj_m h (flR_lv h hb r _ X wf.2.1 a1 hX) hX (flR_lv h hb r _ Y wf.2.1 a2 hY) hY (flR_mo h hN hb r _ _ X Y wf.2.1 a1 a2 hX hY (jle_m h hx (lbE_lv h hb hX e wf.1) hy (lbE_lv h hb hY e wf.1) q1 (lbE_m h hb hX hY q2 e wf.1)) q2) q2
    obtain ⟨l2, g2, c2⟩ := lpF h hN hb wf.2.1 wf.1 hw hW
    have l1 := flL_lv (stL_lv h hb wf.2.1 wf.1 hu) 100 V hV
    exact flR_mo h hN hb R u w _ _ wf.2.2 hu hw l1 l2 h1 (flL_le h (stL_lv h hb wf.2.1 wf.1 hu) (fun X Y hX hY q => mo u u X Y hu hu hX hY (jle_rfl h hu) q) l2 (le8_tr h (stL_lv h hb wf.2.1 wf.1 hu _ l2) (stL_lv h hb wf.2.1 wf.1 hw _ l2) l2 (mo u w _ _ hu hw l2 l2 h1 (le8_rfl h l2)) c2) 100 V hV (le8_tr h hV hW l2 h2 g2))
  | .branch _ (.branch _ (.branch _ (.leaf e) r1) r2) R, u, w, V, W, wf, hu, hw, hV, hW, h1, h2 => by
    rw [flR, flR]
    have a1 := h.1 _ _ hu (lbE_lv h hb hV e wf.1)
    have a2 := h.1 _ _ hw (lbE_lv h hb hW e wf.1)
    have a3 := jle_m h hu (lbE_lv h hb hV e wf.1) hw (lbE_lv h hb hW e wf.1) h1 (lbE_m h hb hV hW h2 e wf.1)
    have b1 := flR_lv h hb r1 _ V wf.2.1 a1 hV
    have b2 := flR_lv h hb r2 _ V wf.2.2.1 a1 hV
    have c1 := flR_lv h hb r1 _ W wf.2.1 a2 hW
    have c2 := flR_lv h hb r2 _ W wf.2.2.1 a2 hW
    exact flR_mo h hN hb R u w _ _ wf.2.2.2 hu hw (rj_lv h b2 b1) (rj_lv h c2 c1) h1 (rj_m h b2 b1 c2 c1 (flR_mo h hN hb r2 _ _ V W wf.2.2.1 a1 a2 hV hW a3 h2) (flR_mo h hN hb r1 _ _ V W wf.2.1 a1 a2 hV hW a3 h2))
  | .branch _ (.branch _ (.branch _ (.branch _ _ _) _) _) _, u, w, V, W, wf, hu, hw, hV, hW, h1, h2 => wf.elim
end LE8
