/-! ===== THE CLAIM: the tables' classes ===== -/
section WK
variable {s : State} {args : Array Value}
theorem kn_of (hw : ∀ w ∈ sw_lwg, w.before args s = true) {own : String} {idx ci N : Nat} {fs : List Value} (h : sw_nf own idx ci N fs) : ∃ (cC : ClassId) (iS : Nat → Nat), ∀ q : vw_C, sw_cls[ci]? = some q → u_Kn s q.1 q.2.1 q.2.2 cC iS := by
  obtain ⟨C, T, ty, ⟨hcl, hin, -, -⟩, hty, h1, h2, h3, h4, h5⟩ := h
  obtain ⟨cC, iS, hk⟩ := u_known hw hin (hw _ h2)
  refine ⟨cC, iS, fun q hq => ?_⟩
  cases Option.some.inj (hq.symm.trans hcl)
  exact hk
theorem arr_of {ty : FieldType} (h : (Cond.arrayClass ty).before args s = true) : ∃ cA : ClassId, ArrOfT s cA ty ∧ s.vm.findClass ("[" ++ ty.toString) = some cA := by
  obtain ⟨c, k, comp, h1, h2, h3⟩ := Cond.arrayClass_spec h
  exact ⟨c, fun N9 z9 => ⟨(fun q hq => by cases hq), k, h2, comp, h3⟩, h1⟩
theorem kn_all (hw : ∀ w ∈ sw_lwg, w.before args s = true) : ∀ c : Nat, ∃ (cC : ClassId) (iS : Nat → Nat), ∀ q : vw_C, sw_cls[c]? = some q → u_Kn s q.1 q.2.1 q.2.2 cC iS
  | 0 => kn_of hw nf_X11_49
  | 1 => kn_of hw nf_X11_74
  | 2 => kn_of hw nf_X11_42
  | 3 => kn_of hw nf_X11_7
  | 4 => kn_of hw nf_X11_83
  | 5 => kn_of hw nf_X9_9
  | 6 => kn_of hw nf_X8_47
  | 7 => kn_of hw nf_X11_33
  | 8 => kn_of hw nf_X11_26
  | 9 => kn_of hw nf_X11_65
  | 10 => kn_of hw nf_X11_56
  | 11 => kn_of hw nf_L_8
  | 12 => kn_of hw nf_L_29
  | _ + 13 => ⟨0, fun _ => 0, fun q hq => by cases hq⟩
end WK
