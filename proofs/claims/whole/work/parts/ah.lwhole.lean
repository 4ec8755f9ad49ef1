/-! ===== THE CLAIM: the tables' classes ===== -/
section WK
variable {s : State} {args : Array Value}
theorem kn_of (hw : ∀ w ∈ sw_lwg, w.before args s = true) {own : String} {idx ci N : Nat} {fs : List Value} (h : sw_nf own idx ci N fs) : ∃ (cC : ClassId) (iS : Nat → Nat), ∀ q : vw_C, sw_cls[ci]? = some q → u_Kn s q.1 q.2.1 q.2.2 cC iS := by
  obtain ⟨C, T, ty, ⟨hcl, hin, -, -⟩, hty, h1, h2, h3, h4, h5⟩ := h
  obtain ⟨cC, iS, hk⟩ := u_known hw hin (hw _ h2)
  refine ⟨cC, iS, fun q hq => ?_⟩
  cases Option.some.inj (hq.symm.trans hcl)
  exact hk
theorem arr_of {ty : FieldType} (h : (Cond.arrayClass ty).before args s = true) : ∃ cA : ClassId, ArrOfT s cA ty ∧ s.vm.findClass ("[" ++ ty.toString) = some cA := by
  obtain ⟨c, k, comp, h1, h2, h3⟩ := Cond.arrayClass_spec h
  exact ⟨c, fun N9 z9 => ⟨(fun q hq => by cases hq), k, h2, comp, h3⟩, h1⟩
theorem kn_all (hw : ∀ w ∈ sw_lwg, w.before args s = true) : ∀ c : Nat, ∃ (cC : ClassId) (iS : Nat → Nat), ∀ q : vw_C, sw_cls[c]? = some q → u_Kn s q.1 q.2.1 q.2.2 cC iS
  | 0 => kn_of hw nf_X11_49
  | 1 => kn_of hw nf_X11_74
  | 2 => kn_of hw nf_X11_42
  | 3 => kn_of hw nf_X11_7
  | 4 => kn_of hw nf_X11_83
  | 5 => kn_of hw nf_X9_9
  | 6 => kn_of hw nf_X8_47
  | 7 => kn_of hw nf_X11_33
  | 8 => kn_of hw nf_X11_26
  | 9 => kn_of hw nf_X11_65
  | 10 => kn_of hw nf_X11_56
  | 11 => kn_of hw nf_L_8
  | 12 => kn_of hw nf_L_29
  | _ + 13 => ⟨0, fun _ => 0, fun q hq => by cases hq⟩
theorem ao_of {t : FieldType} (h : va_AOA t s) : ∃ cA : ClassId, ArrOfT s cA (.array t) ∧ s.vm.findClass ("[" ++ (FieldType.array t).toString) = some cA := by
  have h : (Cond.arrayOver (.array t)).holds #[] s none s [] = true := h
  simp only [Cond.holds, Cond.value, beq_iff_eq] at h
  cases hc : s.vm.findClass (FieldType.array t).toString with
  | none => simp [hc] at h
  | some comp =>
    simp only [hc, Option.bind_some, Option.bind_eq_some_iff, Option.map_eq_some_iff] at h
    obtain ⟨c, hi, k, hk, hb⟩ := h
    cases hkind : k.kind with
    | array component ty =>
      rw [hkind] at hb
      simp only [Bool.and_eq_true, decide_eq_true_eq] at hb
      exact ⟨c, fun N9 z9 => ⟨(fun q hq => by cases hq), k, hk, component, by rw [hkind, hb.1]⟩, hb.2⟩
    | _ => rw [hkind] at hb; simp at hb
/-- the places of the classes' fields, the arrays' classes -/
theorem law_K (hw : ∀ w ∈ sw_lwg, w.before args s = true) (hn : ∀ w ∈ sw_nest, va_Nw w s) : ∃ (D : va_G) (cy : Nat → ClassId), va_K D sw_cls (sw_tys cy) s := by
  obtain ⟨c0, a0, b0⟩ := arr_of (hw _ k_arr_int)
  obtain ⟨c1, a1, b1⟩ := arr_of (hw _ k_arr_long)
  obtain ⟨c2, a2, b2⟩ := arr_of (hw _ k_arr_boolean)
  obtain ⟨c3, a3, b3⟩ := arr_of (hw _ k_arr_char)
  obtain ⟨c4, a4, b4⟩ := ao_of (t := .int) (hn _ k_aoI)
  refine ⟨(fun c => (kn_all hw c).choose, fun c => (kn_all hw c).choose_spec.choose), fun i => match i with | 0 => c0 | 1 => c1 | 2 => c2 | 3 => c3 | _ => c4, fun c q hq => (kn_all hw c).choose_spec.choose_spec q hq, fun k q hq => ?_⟩
  match k, hq with
  | 0, hq => cases hq; exact ⟨a0, b0⟩
  | 1, hq => cases hq; exact ⟨a1, b1⟩
  | 2, hq => cases hq; exact ⟨a2, b2⟩
  | 3, hq => cases hq; exact ⟨a3, b3⟩
  | 4, hq => cases hq; exact ⟨a4, b4⟩
end WK
/-! ===== THE CLAIM: what throws ask for, at the start ===== -/
theorem ex_ref {t : Term} {C : String} {args : Array Value} {s : State} (h : (Cond.exactly t C).before args s = true) : ∃ a, t.eval args s none [] s = some (.ref a) := by
  obtain ⟨a, c, cell, k, q1, -⟩ := Cond.exactly_spec h
  exact ⟨a, q1⟩
theorem law_st {b : Nat} {s : State} (hts : ∀ w ∈ lw_tbl, w.before #[Value.ref b] s = true) (hg : (Jvm.Cond.and given_1 narrow_1).before #[Value.ref b] s = true) : sw_st (fun q => s.heap.size ≤ q) s := by
  have hs := flat_of_before _ hg
  refine ⟨vx_Zqof (hts _ (by decide +kernel)) (hts _ (by decide +kernel)) (hs _ (by decide +kernel)) (fun a h z => absurd z (by omega)), vx_Zqof (hts _ (by decide +kernel)) (hts _ (by decide +kernel)) (hs _ (by decide +kernel)) (fun a h z => absurd z (by omega)), fun q hq => ?_, va_Nc.of (hs (.not (.castable xIA xIS)) (by decide +kernel)), va_Nc.of (hs (.not (.castable xIS xIA)) (by decide +kernel)), fun w hw => ?_⟩
  · simp only [sw_str, List.mem_cons, List.not_mem_nil, or_false] at hq
    rcases hq with rfl | rfl | rfl | rfl | rfl | rfl | rfl | rfl | rfl
    · obtain ⟨a, ha⟩ := ex_ref (hs (.exactly (.string "LabelGuard" 110) "java/lang/String") (by decide +kernel))
      exact ⟨a, vk_R.of (hts _ (by decide +kernel)) ha⟩
    · obtain ⟨a, ha⟩ := ex_ref (hs (.exactly (.string "LabelGuard" 119) "java/lang/String") (by decide +kernel))
      exact ⟨a, vk_R.of (hts _ (by decide +kernel)) ha⟩
    · obtain ⟨a, ha⟩ := ex_ref (hs (.exactly (.string "LabelGuard" 126) "java/lang/String") (by decide +kernel))
      exact ⟨a, vk_R.of (hts _ (by decide +kernel)) ha⟩
    · obtain ⟨a, ha⟩ := ex_ref (hs (.exactly (.string "LabelGuard" 162) "java/lang/String") (by decide +kernel))
      exact ⟨a, vk_R.of (hts _ (by decide +kernel)) ha⟩
    · obtain ⟨a, ha⟩ := ex_ref (hs (.exactly (.string "LabelGuard" 172) "java/lang/String") (by decide +kernel))
      exact ⟨a, vk_R.of (hts _ (by decide +kernel)) ha⟩
    · obtain ⟨a, ha⟩ := ex_ref (hs (.exactly (.string "LabelGuard" 205) "java/lang/String") (by decide +kernel))
      exact ⟨a, vk_R.of (hts _ (by decide +kernel)) ha⟩
    · obtain ⟨a, ha⟩ := ex_ref (hs (.exactly (.string "LabelGuard" 213) "java/lang/String") (by decide +kernel))
      exact ⟨a, vk_R.of (hts _ (by decide +kernel)) ha⟩
    · obtain ⟨a, ha⟩ := ex_ref (hs (.exactly (.string "LabelGuard" 221) "java/lang/String") (by decide +kernel))
      exact ⟨a, vk_R.of (hts _ (by decide +kernel)) ha⟩
    · obtain ⟨a, ha⟩ := ex_ref (hs (.exactly (.string "LabelGuard" 223) "java/lang/String") (by decide +kernel))
      exact ⟨a, vk_R.of (hts _ (by decide +kernel)) ha⟩
  · have hm : w ∈ lw_tbl := by
      have h : sw_xw.all (fun w => decide (w ∈ lw_tbl)) = true := by decide +kernel
      exact of_decide_eq_true (List.all_eq_true.mp h w hw)
    exact va_tabs (sw_xw_t hw) rfl (hts w hm)
