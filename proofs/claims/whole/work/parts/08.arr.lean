/-! ===== THE LOGIC, 7: arrays by numbers ===== -/
section SWH
variable {EE : sw_E} {l : Launch} {D : va_G} {cy : Nat → ClassId} {M : sw_MD} {d mc ms cells slots pc : Nat} {L : sw_L} {st : List Value} {n : Nat} {f : sw_F} {Q : sw_Q} {QX : sw_QX}
theorem sw_ialdN {a N : Nat} {g : Nat → Int32} {i : Int32} (k : Nat) (hd : decode M.2.1 pc = .ok (.iaload, 1)) (ha : f a = .inl (0, N, .inl g)) (hi : i = nI k) (hk : k < N) (hN : N < 2147483648) (kk : SWr EE l D cy M d mc ms cells slots (pc + 1) L (.int (g k) :: st) n f Q QX) : SWr EE l D cy M d mc ms cells slots pc L (.int i :: .ref a :: st) n f Q QX := by
  subst hi
  refine sw_iald hd ha (vp_in_nI hk hN) ?_
  rw [nI_clamp (Nat.lt_trans hk hN)]
  exact kk
theorem sw_zaldN {a N : Nat} {g : Nat → Int32} {i : Int32} (k : Nat) (hd : decode M.2.1 pc = .ok (.baload, 1)) (ha : f a = .inl (2, N, .inl g)) (hi : i = nI k) (hk : k < N) (hN : N < 2147483648) (kk : SWr EE l D cy M d mc ms cells slots (pc + 1) L (.int (g k) :: st) n f Q QX) : SWr EE l D cy M d mc ms cells slots pc L (.int i :: .ref a :: st) n f Q QX := by
  subst hi
  refine sw_zald hd ha (vp_in_nI hk hN) ?_
  rw [nI_clamp (Nat.lt_trans hk hN)]
  exact kk
theorem sw_caldN {a N : Nat} {g : Nat → Int32} {i : Int32} (k : Nat) (hd : decode M.2.1 pc = .ok (.caload, 1)) (ha : f a = .inl (3, N, .inl g)) (hi : i = nI k) (hk : k < N) (hN : N < 2147483648) (kk : SWr EE l D cy M d mc ms cells slots (pc + 1) L (.int (g k) :: st) n f Q QX) : SWr EE l D cy M d mc ms cells slots pc L (.int i :: .ref a :: st) n f Q QX := by
  subst hi
  refine sw_cald hd ha (vp_in_nI hk hN) ?_
  rw [nI_clamp (Nat.lt_trans hk hN)]
  exact kk
theorem sw_laldN {a N : Nat} {g : Nat → Int64} {i : Int32} (k : Nat) (hd : decode M.2.1 pc = .ok (.laload, 1)) (ha : f a = .inl (1, N, .inr (.inl g))) (hi : i = nI k) (hk : k < N) (hN : N < 2147483648) (kk : SWr EE l D cy M d mc ms cells slots (pc + 1) L (.long (g k) :: st) n f Q QX) : SWr EE l D cy M d mc ms cells slots pc L (.int i :: .ref a :: st) n f Q QX := by
  subst hi
  refine sw_lald hd ha (vp_in_nI hk hN) ?_
  rw [nI_clamp (Nat.lt_trans hk hN)]
  exact kk
theorem sw_inc1 {i e : Nat} (L' : sw_L) (hd : decode M.2.1 pc = .ok (.iinc i 1, 3)) (hv : L.lookup i = some (.int (nI e))) (hi : i < M.2.2.1) (he : sw_in i (.int (nI (e + 1))) (L.filter (sw_p1 i)) = L') (k : SWr EE l D cy M d mc ms cells slots (pc + 3) L' st n f Q QX) : SWr EE l D cy M d mc ms cells slots pc L st n f Q QX := by
  refine sw_iinc L' hd hv hi ?_ k
  rw [show nI e + Int32.ofInt 1 = nI (e + 1) from nI_1 e]
  exact he
theorem sw_dec1 {i e : Nat} (L' : sw_L) (hd : decode M.2.1 pc = .ok (.iinc i (-1), 3)) (hv : L.lookup i = some (.int (nI e))) (hp : 0 < e) (hi : i < M.2.2.1) (he : sw_in i (.int (nI (e - 1))) (L.filter (sw_p1 i)) = L') (k : SWr EE l D cy M d mc ms cells slots (pc + 3) L' st n f Q QX) : SWr EE l D cy M d mc ms cells slots pc L st n f Q QX := by
  refine sw_iinc L' hd hv hi ?_ k
  rw [show nI e + Int32.ofInt (-1) = nI (e - 1) from sb_m1 hp]
  exact he
end SWH
theorem nl_0 : (0 : Int32) = nI 0 := by decide
theorem nl_1 : (1 : Int32) = nI 1 := by decide
theorem nl_2 : (2 : Int32) = nI 2 := by decide
theorem nl_3 : (3 : Int32) = nI 3 := by decide
theorem nl_4 : (4 : Int32) = nI 4 := by decide
theorem nl_5 : (5 : Int32) = nI 5 := by decide
theorem nl_6 : (6 : Int32) = nI 6 := by decide
theorem nl_7 : (7 : Int32) = nI 7 := by decide
theorem nl_8 : (8 : Int32) = nI 8 := by decide
theorem nl_9 : (9 : Int32) = nI 9 := by decide
theorem nl_10 : (10 : Int32) = nI 10 := by decide
theorem nl_11 : (11 : Int32) = nI 11 := by decide
theorem nl_12 : (12 : Int32) = nI 12 := by decide
theorem nl_13 : (13 : Int32) = nI 13 := by decide
theorem nl_14 : (14 : Int32) = nI 14 := by decide
theorem nl_15 : (15 : Int32) = nI 15 := by decide
theorem nl_16 : (16 : Int32) = nI 16 := by decide
theorem nl_17 : (17 : Int32) = nI 17 := by decide
theorem nl_18 : (18 : Int32) = nI 18 := by decide
theorem nl_19 : (19 : Int32) = nI 19 := by decide
theorem nl_20 : (20 : Int32) = nI 20 := by decide
theorem nl_21 : (21 : Int32) = nI 21 := by decide
theorem nl_22 : (22 : Int32) = nI 22 := by decide
theorem nl_23 : (23 : Int32) = nI 23 := by decide
theorem nl_24 : (24 : Int32) = nI 24 := by decide
theorem nl_25 : (25 : Int32) = nI 25 := by decide
theorem nl_26 : (26 : Int32) = nI 26 := by decide
theorem nl_27 : (27 : Int32) = nI 27 := by decide
theorem nl_28 : (28 : Int32) = nI 28 := by decide
theorem nl_29 : (29 : Int32) = nI 29 := by decide
theorem nl_30 : (30 : Int32) = nI 30 := by decide
theorem nl_31 : (31 : Int32) = nI 31 := by decide
theorem nl_32 : (32 : Int32) = nI 32 := by decide
theorem nl_33 : (33 : Int32) = nI 33 := by decide
theorem nl_34 : (34 : Int32) = nI 34 := by decide
theorem nl_35 : (35 : Int32) = nI 35 := by decide
theorem nl_36 : (36 : Int32) = nI 36 := by decide
theorem nl_56 : (56 : Int32) = nI 56 := by decide
theorem nl_72 : (72 : Int32) = nI 72 := by decide
theorem nl_97 : (97 : Int32) = nI 97 := by decide
theorem nl_99 : (99 : Int32) = nI 99 := by decide
theorem nl_100 : (100 : Int32) = nI 100 := by decide
theorem nl_126 : (126 : Int32) = nI 126 := by decide
theorem nl_160 : (160 : Int32) = nI 160 := by decide
theorem nl_220 : (220 : Int32) = nI 220 := by decide
theorem nl_255 : (255 : Int32) = nI 255 := by decide
theorem nl_500 : (500 : Int32) = nI 500 := by decide
theorem nl_1000 : (1000 : Int32) = nI 1000 := by decide
theorem nl_1280 : (1280 : Int32) = nI 1280 := by decide
theorem nl_1600 : (1600 : Int32) = nI 1600 := by decide
theorem nl_2000 : (2000 : Int32) = nI 2000 := by decide
theorem nl_5000 : (5000 : Int32) = nI 5000 := by decide
theorem nl_10000 : (10000 : Int32) = nI 10000 := by decide
theorem nl_100000 : (100000 : Int32) = nI 100000 := by decide
theorem vu_up {α : Type} (X : Nat → α) (p : Nat) (g h : α) : va_up (va_up X p g) p h = va_up X p h := bx_uu X p g h
theorem vu_so {α : Type} (X : Nat → α) {p q : Nat} (hpq : p < q) (g h : α) : va_up (va_up X q g) p h = va_up (va_up X p h) q g := by
  funext j
  unfold va_up
  by_cases h1 : j = p
  · subst h1
    simp [Nat.ne_of_lt hpq]
  · simp [h1]
theorem vu_at {α : Type} (X : Nat → α) (p : Nat) (g : α) : va_up X p g p = g := va_up_self X p g
theorem vu_ne {α : Type} (X : Nat → α) {p q : Nat} (h : ¬ q = p) (g : α) : va_up X p g q = X q := va_up_ne X g h
theorem vu_id {α : Type} (f : Nat → α) (k : Nat) : va_up f k (f k) = f := by
  funext j
  unfold va_up
  by_cases h : j = k
  · rw [if_pos h, h]
  · rw [if_neg h]
def fillF (h g : Nat → Int32) (k : Nat) : Nat → Int32 := fun j => if j < k then h j else g j
theorem fill_0 (h g : Nat → Int32) : fillF h g 0 = g := by
  funext j
  simp [fillF]
theorem fill_1 {h g : Nat → Int32} {k : Nat} {y : Int32} (hy : y = h k) : upd (fillF h g k) k y = fillF h g (k + 1) := by
  subst hy
  funext j
  unfold upd fillF
  by_cases h1 : j = k
  · subst h1
    simp
  · rw [if_neg h1]
    by_cases h2 : j < k
    · rw [if_pos h2, if_pos (by omega)]
    · rw [if_neg h2, if_neg (by omega)]
