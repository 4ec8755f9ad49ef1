/-! ===== FACTS out of the tables: methods ===== -/
theorem sw_m {w : Cond} (i : Nat) (h : lw_tbl[i]? = some w) (hg : goodWord w = true) : w ∈ sw_lwg := List.mem_filter.mpr ⟨List.mem_of_getElem? h, hg⟩
theorem sw_mN {w : Cond} (i : Nat) (h : lw_tbl[i]? = some w) (hg : sw_isN w = true) : w ∈ sw_nest := List.mem_filter.mpr ⟨List.mem_of_getElem? h, hg⟩
theorem ini_L : Cond.initialized RL ∈ sw_lwg := sw_m 89 (by decide +kernel) (by decide +kernel)
theorem ini_X0 : Cond.initialized RX0 ∈ sw_lwg := sw_m 95 (by decide +kernel) (by decide +kernel)
theorem ini_X1 : Cond.initialized RX1 ∈ sw_lwg := sw_m 99 (by decide +kernel) (by decide +kernel)
theorem ini_X2 : Cond.initialized RX2 ∈ sw_lwg := sw_m 94 (by decide +kernel) (by decide +kernel)
theorem ini_X3 : Cond.initialized RX3 ∈ sw_lwg := sw_m 91 (by decide +kernel) (by decide +kernel)
theorem ini_X4 : Cond.initialized RX4 ∈ sw_lwg := sw_m 100 (by decide +kernel) (by decide +kernel)
theorem ini_X5 : Cond.initialized RX5 ∈ sw_lwg := sw_m 98 (by decide +kernel) (by decide +kernel)
theorem ini_X6 : Cond.initialized RX6 ∈ sw_lwg := sw_m 107 (by decide +kernel) (by decide +kernel)
theorem ini_X7 : Cond.initialized RX7 ∈ sw_lwg := sw_m 93 (by decide +kernel) (by decide +kernel)
theorem ini_X8 : Cond.initialized RX8 ∈ sw_lwg := sw_m 92 (by decide +kernel) (by decide +kernel)
theorem ini_X9 : Cond.initialized RX9 ∈ sw_lwg := sw_m 97 (by decide +kernel) (by decide +kernel)
theorem ini_X10 : Cond.initialized RX10 ∈ sw_lwg := sw_m 96 (by decide +kernel) (by decide +kernel)
theorem ini_X11 : Cond.initialized RX11 ∈ sw_lwg := sw_m 90 (by decide +kernel) (by decide +kernel)
theorem ini_X12 : Cond.initialized RX12 ∈ sw_lwg := sw_m 101 (by decide +kernel) (by decide +kernel)
abbrev mX0_init : sw_MD := (yX0_init, cX0_init, 1, none)
set_option maxRecDepth 30000 in
theorem mf_X0_init : sw_mf mX0_init 0 := ⟨ini_X0, sw_m 200 rfl (by decide +kernel), by decide +kernel, by decide +kernel⟩
abbrev mX0_clear : sw_MD := (yX0_clear, cX0_clear, 1, none)
set_option maxRecDepth 30000 in
theorem mf_X0_clear : sw_mf mX0_clear 0 := ⟨ini_X0, sw_m 444 rfl (by decide +kernel), by decide +kernel, by decide +kernel⟩
abbrev mX0_add : sw_MD := (yX0_add, cX0_add, 3, (some .boolean))
set_option maxRecDepth 30000 in
theorem mf_X0_add : sw_mf mX0_add 2 := ⟨ini_X0, sw_m 456 rfl (by decide +kernel), by decide +kernel, by decide +kernel⟩
abbrev mX0_size : sw_MD := (yX0_size, cX0_size, 1, (some .int))
set_option maxRecDepth 30000 in
theorem mf_X0_size : sw_mf mX0_size 0 := ⟨ini_X0, sw_m 423 rfl (by decide +kernel), by decide +kernel, by decide +kernel⟩
abbrev mX0_has : sw_MD := (yX0_has, cX0_has, 2, (some .boolean))
set_option maxRecDepth 30000 in
theorem mf_X0_has : sw_mf mX0_has 1 := ⟨ini_X0, sw_m 427 rfl (by decide +kernel), by decide +kernel, by decide +kernel⟩
abbrev mX0_kindAt : sw_MD := (yX0_kindAt, cX0_kindAt, 2, (some .int))
set_option maxRecDepth 30000 in
theorem mf_X0_kindAt : sw_mf mX0_kindAt 1 := ⟨ini_X0, sw_m 431 rfl (by decide +kernel), by decide +kernel, by decide +kernel⟩
abbrev mX0_argumentAt : sw_MD := (yX0_argumentAt, cX0_argumentAt, 2, (some .int))
set_option maxRecDepth 30000 in
theorem mf_X0_argumentAt : sw_mf mX0_argumentAt 1 := ⟨ini_X0, sw_m 436 rfl (by decide +kernel), by decide +kernel, by decide +kernel⟩
abbrev mX0_nextOf : sw_MD := (yX0_nextOf, cX0_nextOf, 5, (some .int))
set_option maxRecDepth 30000 in
theorem mf_X0_nextOf : sw_mf mX0_nextOf 2 := ⟨ini_X0, sw_m 870 rfl (by decide +kernel), by decide +kernel, by decide +kernel⟩
abbrev mX0_become : sw_MD := (yX0_become, cX0_become, 2, none)
set_option maxRecDepth 30000 in
theorem mf_X0_become : sw_mf mX0_become 1 := ⟨ini_X0, sw_m 808 rfl (by decide +kernel), by decide +kernel, by decide +kernel⟩
abbrev mX0_addRow : sw_MD := (yX0_addRow, cX0_addRow, 5, none)
set_option maxRecDepth 30000 in
theorem mf_X0_addRow : sw_mf mX0_addRow 2 := ⟨ini_X0, sw_m 813 rfl (by decide +kernel), by decide +kernel, by decide +kernel⟩
abbrev mX0_addChoice : sw_MD := (yX0_addChoice, cX0_addChoice, 5, none)
set_option maxRecDepth 30000 in
theorem mf_X0_addChoice : sw_mf mX0_addChoice 2 := ⟨ini_X0, sw_m 822 rfl (by decide +kernel), by decide +kernel, by decide +kernel⟩
abbrev mX0_addLoop : sw_MD := (yX0_addLoop, cX0_addLoop, 5, none)
set_option maxRecDepth 30000 in
theorem mf_X0_addLoop : sw_mf mX0_addLoop 3 := ⟨ini_X0, sw_m 830 rfl (by decide +kernel), by decide +kernel, by decide +kernel⟩
abbrev mX0_aimHere : sw_MD := (yX0_aimHere, cX0_aimHere, 2, none)
set_option maxRecDepth 30000 in
theorem mf_X0_aimHere : sw_mf mX0_aimHere 1 := ⟨ini_X0, sw_m 826 rfl (by decide +kernel), by decide +kernel, by decide +kernel⟩
abbrev mX0_addExpression : sw_MD := (yX0_addExpression, cX0_addExpression, 3, none)
set_option maxRecDepth 30000 in
theorem mf_X0_addExpression : sw_mf mX0_addExpression 2 := ⟨ini_X0, sw_m 817 rfl (by decide +kernel), by decide +kernel, by decide +kernel⟩
abbrev mX1_init : sw_MD := (yX1_init, cX1_init, 5, none)
set_option maxRecDepth 30000 in
theorem mf_X1_init : sw_mf mX1_init 4 := ⟨ini_X1, sw_m 278 rfl (by decide +kernel), by decide +kernel, by decide +kernel⟩
abbrev mX1_workOut : sw_MD := (yX1_workOut, cX1_workOut, 5, none)
set_option maxRecDepth 30000 in
theorem mf_X1_workOut : sw_mf mX1_workOut 1 := ⟨ini_X1, sw_m 951 rfl (by decide +kernel), by decide +kernel, by decide +kernel⟩
abbrev mX1_keepTo : sw_MD := (yX1_keepTo, cX1_keepTo, 5, (some .boolean))
set_option maxRecDepth 30000 in
theorem mf_X1_keepTo : sw_mf mX1_keepTo 1 := ⟨ini_X1, sw_m 990 rfl (by decide +kernel), by decide +kernel, by decide +kernel⟩
abbrev mX1_labelAt : sw_MD := (yX1_labelAt, cX1_labelAt, 4, (some .int))
set_option maxRecDepth 30000 in
theorem mf_X1_labelAt : sw_mf mX1_labelAt 2 := ⟨ini_X1, sw_m 464 rfl (by decide +kernel), by decide +kernel, by decide +kernel⟩
abbrev mX1_pass : sw_MD := (yX1_pass, cX1_pass, 2, none)
set_option maxRecDepth 30000 in
theorem mf_X1_pass : sw_mf mX1_pass 1 := ⟨ini_X1, sw_m 963 rfl (by decide +kernel), by decide +kernel, by decide +kernel⟩
abbrev mX1_change : sw_MD := (yX1_change, cX1_change, 7, none)
set_option maxRecDepth 30000 in
theorem mf_X1_change : sw_mf mX1_change 3 := ⟨ini_X1, sw_m 970 rfl (by decide +kernel), by decide +kernel, by decide +kernel⟩
abbrev mX1_raiseRegion : sw_MD := (yX1_raiseRegion, cX1_raiseRegion, 5, none)
set_option maxRecDepth 30000 in
theorem mf_X1_raiseRegion : sw_mf mX1_raiseRegion 1 := ⟨ini_X1, sw_m 976 rfl (by decide +kernel), by decide +kernel, by decide +kernel⟩
abbrev mX1_comeTo : sw_MD := (yX1_comeTo, cX1_comeTo, 4, none)
set_option maxRecDepth 30000 in
theorem mf_X1_comeTo : sw_mf mX1_comeTo 1 := ⟨ini_X1, sw_m 985 rfl (by decide +kernel), by decide +kernel, by decide +kernel⟩
abbrev mX1_raise : sw_MD := (yX1_raise, cX1_raise, 5, none)
set_option maxRecDepth 30000 in
theorem mf_X1_raise : sw_mf mX1_raise 3 := ⟨ini_X1, sw_m 957 rfl (by decide +kernel), by decide +kernel, by decide +kernel⟩
abbrev mX2_init : sw_MD := (yX2_init, cX2_init, 1, none)
set_option maxRecDepth 30000 in
theorem mf_X2_init : sw_mf mX2_init 0 := ⟨ini_X2, sw_m 184 rfl (by decide +kernel), by decide +kernel, by decide +kernel⟩
abbrev mX2_execute : sw_MD := (yX2_execute, cX2_execute, 4, (some .int))
set_option maxRecDepth 30000 in
theorem mf_X2_execute : sw_mf mX2_execute 3 := ⟨ini_X2, sw_m 485 rfl (by decide +kernel), by decide +kernel, by decide +kernel⟩
abbrev mX2_makeRow : sw_MD := (yX2_makeRow, cX2_makeRow, 4, (some .boolean))
set_option maxRecDepth 30000 in
theorem mf_X2_makeRow : sw_mf mX2_makeRow 2 := ⟨ini_X2, sw_m 492 rfl (by decide +kernel), by decide +kernel, by decide +kernel⟩
abbrev mX2_makeStatement : sw_MD := (yX2_makeStatement, cX2_makeStatement, 3, (some .boolean))
set_option maxRecDepth 30000 in
theorem mf_X2_makeStatement : sw_mf mX2_makeStatement 2 := ⟨ini_X2, sw_m 496 rfl (by decide +kernel), by decide +kernel, by decide +kernel⟩
abbrev mX2_makeChoice : sw_MD := (yX2_makeChoice, cX2_makeChoice, 3, (some .boolean))
set_option maxRecDepth 30000 in
theorem mf_X2_makeChoice : sw_mf mX2_makeChoice 2 := ⟨ini_X2, sw_m 500 rfl (by decide +kernel), by decide +kernel, by decide +kernel⟩
abbrev mX2_makeLoop : sw_MD := (yX2_makeLoop, cX2_makeLoop, 3, (some .boolean))
set_option maxRecDepth 30000 in
theorem mf_X2_makeLoop : sw_mf mX2_makeLoop 2 := ⟨ini_X2, sw_m 512 rfl (by decide +kernel), by decide +kernel, by decide +kernel⟩
abbrev mX2_valueOf : sw_MD := (yX2_valueOf, cX2_valueOf, 3, (some .int))
set_option maxRecDepth 30000 in
theorem mf_X2_valueOf : sw_mf mX2_valueOf 2 := ⟨ini_X2, sw_m 504 rfl (by decide +kernel), by decide +kernel, by decide +kernel⟩
abbrev mX3_init : sw_MD := (yX3_init, cX3_init, 1, none)
set_option maxRecDepth 30000 in
theorem mf_X3_init : sw_mf mX3_init 0 := ⟨ini_X3, sw_m 121 rfl (by decide +kernel), by decide +kernel, by decide +kernel⟩
abbrev mX3_holds : sw_MD := (yX3_holds, cX3_holds, 4, (some .boolean))
set_option maxRecDepth 30000 in
theorem mf_X3_holds : sw_mf mX3_holds 3 := ⟨ini_X3, sw_m 594 rfl (by decide +kernel), by decide +kernel, by decide +kernel⟩
abbrev mX3_isOrder : sw_MD := (yX3_isOrder, cX3_isOrder, 5, (some .boolean))
set_option maxRecDepth 30000 in
theorem mf_X3_isOrder : sw_mf mX3_isOrder 2 := ⟨ini_X3, sw_m 591 rfl (by decide +kernel), by decide +kernel, by decide +kernel⟩
abbrev mX3_passesOn : sw_MD := (yX3_passesOn, cX3_passesOn, 6, (some .boolean))
set_option maxRecDepth 30000 in
theorem mf_X3_passesOn : sw_mf mX3_passesOn 4 := ⟨ini_X3, sw_m 597 rfl (by decide +kernel), by decide +kernel, by decide +kernel⟩
abbrev mX3_hasAllBounds : sw_MD := (yX3_hasAllBounds, cX3_hasAllBounds, 7, (some .boolean))
set_option maxRecDepth 30000 in
theorem mf_X3_hasAllBounds : sw_mf mX3_hasAllBounds 2 := ⟨ini_X3, sw_m 601 rfl (by decide +kernel), by decide +kernel, by decide +kernel⟩
abbrev mX3_turned : sw_MD := (yX3_turned, cX3_turned, 7, (some .long))
set_option maxRecDepth 30000 in
theorem mf_X3_turned : sw_mf mX3_turned 2 := ⟨ini_X3, sw_m 604 rfl (by decide +kernel), by decide +kernel, by decide +kernel⟩
abbrev mX3_leastAbove : sw_MD := (yX3_leastAbove, cX3_leastAbove, 6, (some .int))
set_option maxRecDepth 30000 in
theorem mf_X3_leastAbove : sw_mf mX3_leastAbove 4 := ⟨ini_X3, sw_m 607 rfl (by decide +kernel), by decide +kernel, by decide +kernel⟩
abbrev mX3_isAboveBoth : sw_MD := (yX3_isAboveBoth, cX3_isAboveBoth, 5, (some .boolean))
set_option maxRecDepth 30000 in
theorem mf_X3_isAboveBoth : sw_mf mX3_isAboveBoth 4 := ⟨ini_X3, sw_m 610 rfl (by decide +kernel), by decide +kernel, by decide +kernel⟩
abbrev mX3_isLeast : sw_MD := (yX3_isLeast, cX3_isLeast, 7, (some .boolean))
set_option maxRecDepth 30000 in
theorem mf_X3_isLeast : sw_mf mX3_isLeast 5 := ⟨ini_X3, sw_m 613 rfl (by decide +kernel), by decide +kernel, by decide +kernel⟩
abbrev mX3_become : sw_MD := (yX3_become, cX3_become, 6, none)
set_option maxRecDepth 30000 in
theorem mf_X3_become : sw_mf mX3_become 2 := ⟨ini_X3, sw_m 633 rfl (by decide +kernel), by decide +kernel, by decide +kernel⟩
abbrev mX3_has : sw_MD := (yX3_has, cX3_has, 2, (some .boolean))
set_option maxRecDepth 30000 in
theorem mf_X3_has : sw_mf mX3_has 1 := ⟨ini_X3, sw_m 385 rfl (by decide +kernel), by decide +kernel, by decide +kernel⟩
abbrev mX3_bottom : sw_MD := (yX3_bottom, cX3_bottom, 1, (some .int))
set_option maxRecDepth 30000 in
theorem mf_X3_bottom : sw_mf mX3_bottom 0 := ⟨ini_X3, sw_m 637 rfl (by decide +kernel), by decide +kernel, by decide +kernel⟩
abbrev mX3_top : sw_MD := (yX3_top, cX3_top, 1, (some .int))
set_option maxRecDepth 30000 in
theorem mf_X3_top : sw_mf mX3_top 0 := ⟨ini_X3, sw_m 641 rfl (by decide +kernel), by decide +kernel, by decide +kernel⟩
abbrev mX3_allows : sw_MD := (yX3_allows, cX3_allows, 3, (some .boolean))
set_option maxRecDepth 30000 in
theorem mf_X3_allows : sw_mf mX3_allows 2 := ⟨ini_X3, sw_m 803 rfl (by decide +kernel), by decide +kernel, by decide +kernel⟩
abbrev mX3_joined : sw_MD := (yX3_joined, cX3_joined, 3, (some .int))
set_option maxRecDepth 30000 in
theorem mf_X3_joined : sw_mf mX3_joined 2 := ⟨ini_X3, sw_m 381 rfl (by decide +kernel), by decide +kernel, by decide +kernel⟩
abbrev mX4_init : sw_MD := (yX4_init, cX4_init, 2, none)
set_option maxRecDepth 30000 in
theorem mf_X4_init : sw_mf mX4_init 1 := ⟨ini_X4, sw_m 307 rfl (by decide +kernel), by decide +kernel, by decide +kernel⟩
abbrev mX4_execute : sw_MD := (yX4_execute, cX4_execute, 5, (some .int))
set_option maxRecDepth 30000 in
theorem mf_X4_execute : sw_mf mX4_execute 2 := ⟨ini_X4, sw_m 1009 rfl (by decide +kernel), by decide +kernel, by decide +kernel⟩
abbrev mX4_step : sw_MD := (yX4_step, cX4_step, 6, (some .int))
set_option maxRecDepth 30000 in
theorem mf_X4_step : sw_mf mX4_step 1 := ⟨ini_X4, sw_m 1015 rfl (by decide +kernel), by decide +kernel, by decide +kernel⟩
abbrev mX4_push : sw_MD := (yX4_push, cX4_push, 2, none)
set_option maxRecDepth 30000 in
theorem mf_X4_push : sw_mf mX4_push 1 := ⟨ini_X4, sw_m 1020 rfl (by decide +kernel), by decide +kernel, by decide +kernel⟩
abbrev mX4_pop : sw_MD := (yX4_pop, cX4_pop, 1, (some .int))
set_option maxRecDepth 30000 in
theorem mf_X4_pop : sw_mf mX4_pop 0 := ⟨ini_X4, sw_m 1025 rfl (by decide +kernel), by decide +kernel, by decide +kernel⟩
abbrev mX5_init : sw_MD := (yX5_init, cX5_init, 1, none)
set_option maxRecDepth 30000 in
theorem mf_X5_init : sw_mf mX5_init 0 := ⟨ini_X5, sw_m 245 rfl (by decide +kernel), by decide +kernel, by decide +kernel⟩
abbrev mX5_lowBit : sw_MD := (yX5_lowBit, cX5_lowBit, 1, (some .long))
set_option maxRecDepth 30000 in
theorem mf_X5_lowBit : sw_mf mX5_lowBit 1 := ⟨ini_X5, sw_m 916 rfl (by decide +kernel), by decide +kernel, by decide +kernel⟩
abbrev mX5_highBit : sw_MD := (yX5_highBit, cX5_highBit, 1, (some .long))
set_option maxRecDepth 30000 in
theorem mf_X5_highBit : sw_mf mX5_highBit 1 := ⟨ini_X5, sw_m 919 rfl (by decide +kernel), by decide +kernel, by decide +kernel⟩
abbrev mX5_isPlace : sw_MD := (yX5_isPlace, cX5_isPlace, 1, (some .boolean))
set_option maxRecDepth 30000 in
theorem mf_X5_isPlace : sw_mf mX5_isPlace 1 := ⟨ini_X5, sw_m 908 rfl (by decide +kernel), by decide +kernel, by decide +kernel⟩
abbrev mX5_has : sw_MD := (yX5_has, cX5_has, 3, (some .boolean))
set_option maxRecDepth 30000 in
theorem mf_X5_has : sw_mf mX5_has 2 := ⟨ini_X5, sw_m 947 rfl (by decide +kernel), by decide +kernel, by decide +kernel⟩
abbrev mX5_add : sw_MD := (yX5_add, cX5_add, 3, none)
set_option maxRecDepth 30000 in
theorem mf_X5_add : sw_mf mX5_add 2 := ⟨ini_X5, sw_m 913 rfl (by decide +kernel), by decide +kernel, by decide +kernel⟩
abbrev mX5_refill : sw_MD := (yX5_refill, cX5_refill, 3, none)
set_option maxRecDepth 30000 in
theorem mf_X5_refill : sw_mf mX5_refill 2 := ⟨ini_X5, sw_m 905 rfl (by decide +kernel), by decide +kernel, by decide +kernel⟩
abbrev mX5_narrow : sw_MD := (yX5_narrow, cX5_narrow, 8, (some .boolean))
set_option maxRecDepth 30000 in
theorem mf_X5_narrow : sw_mf mX5_narrow 2 := ⟨ini_X5, sw_m 930 rfl (by decide +kernel), by decide +kernel, by decide +kernel⟩
abbrev mX6_init : sw_MD := (yX6_init, cX6_init, 6, none)
set_option maxRecDepth 30000 in
theorem mf_X6_init : sw_mf mX6_init 5 := ⟨ini_X6, sw_m 691 rfl (by decide +kernel), by decide +kernel, by decide +kernel⟩
abbrev mX7_init : sw_MD := (yX7_init, cX7_init, 2, none)
set_option maxRecDepth 30000 in
theorem mf_X7_init : sw_mf mX7_init 1 := ⟨ini_X7, sw_m 163 rfl (by decide +kernel), by decide +kernel, by decide +kernel⟩
abbrev mX7_workOut : sw_MD := (yX7_workOut, cX7_workOut, 3, none)
set_option maxRecDepth 30000 in
theorem mf_X7_workOut : sw_mf mX7_workOut 2 := ⟨ini_X7, sw_m 767 rfl (by decide +kernel), by decide +kernel, by decide +kernel⟩
abbrev mX7_keepTo : sw_MD := (yX7_keepTo, cX7_keepTo, 3, (some .boolean))
set_option maxRecDepth 30000 in
theorem mf_X7_keepTo : sw_mf mX7_keepTo 1 := ⟨ini_X7, sw_m 799 rfl (by decide +kernel), by decide +kernel, by decide +kernel⟩
abbrev mX7_exitOf : sw_MD := (yX7_exitOf, cX7_exitOf, 2, (some .int))
set_option maxRecDepth 30000 in
theorem mf_X7_exitOf : sw_mf mX7_exitOf 1 := ⟨ini_X7, sw_m 414 rfl (by decide +kernel), by decide +kernel, by decide +kernel⟩
abbrev mX7_flowRow : sw_MD := (yX7_flowRow, cX7_flowRow, 5, none)
set_option maxRecDepth 30000 in
theorem mf_X7_flowRow : sw_mf mX7_flowRow 3 := ⟨ini_X7, sw_m 773 rfl (by decide +kernel), by decide +kernel, by decide +kernel⟩
abbrev mX7_flowChoice : sw_MD := (yX7_flowChoice, cX7_flowChoice, 5, none)
set_option maxRecDepth 30000 in
theorem mf_X7_flowChoice : sw_mf mX7_flowChoice 3 := ⟨ini_X7, sw_m 777 rfl (by decide +kernel), by decide +kernel, by decide +kernel⟩
abbrev mX7_flowLoop : sw_MD := (yX7_flowLoop, cX7_flowLoop, 6, none)
set_option maxRecDepth 30000 in
theorem mf_X7_flowLoop : sw_mf mX7_flowLoop 3 := ⟨ini_X7, sw_m 790 rfl (by decide +kernel), by decide +kernel, by decide +kernel⟩
abbrev mX7_raiseBy : sw_MD := (yX7_raiseBy, cX7_raiseBy, 3, none)
set_option maxRecDepth 30000 in
theorem mf_X7_raiseBy : sw_mf mX7_raiseBy 1 := ⟨ini_X7, sw_m 786 rfl (by decide +kernel), by decide +kernel, by decide +kernel⟩
abbrev mX7_areLabels : sw_MD := (yX7_areLabels, cX7_areLabels, 3, (some .boolean))
set_option maxRecDepth 30000 in
theorem mf_X7_areLabels : sw_mf mX7_areLabels 1 := ⟨ini_X7, sw_m 795 rfl (by decide +kernel), by decide +kernel, by decide +kernel⟩
abbrev mX7_labelOf : sw_MD := (yX7_labelOf, cX7_labelOf, 3, (some .int))
set_option maxRecDepth 30000 in
theorem mf_X7_labelOf : sw_mf mX7_labelOf 2 := ⟨ini_X7, sw_m 781 rfl (by decide +kernel), by decide +kernel, by decide +kernel⟩
abbrev mX8_init : sw_MD := (yX8_init, cX8_init, 1, none)
set_option maxRecDepth 30000 in
theorem mf_X8_init : sw_mf mX8_init 0 := ⟨ini_X8, sw_m 144 rfl (by decide +kernel), by decide +kernel, by decide +kernel⟩
abbrev mX8_append : sw_MD := (yX8_append, cX8_append, 6, (some .boolean))
set_option maxRecDepth 30000 in
theorem mf_X8_append : sw_mf mX8_append 1 := ⟨ini_X8, sw_m 401 rfl (by decide +kernel), by decide +kernel, by decide +kernel⟩
abbrev mX8_takeProgram : sw_MD := (yX8_takeProgram, cX8_takeProgram, 2, (some (.object "LabelGuard$Node")))
set_option maxRecDepth 30000 in
theorem mf_X8_takeProgram : sw_mf mX8_takeProgram 0 := ⟨ini_X8, sw_m 652 rfl (by decide +kernel), by decide +kernel, by decide +kernel⟩
abbrev mX8_error : sw_MD := (yX8_error, cX8_error, 1, (some .int))
set_option maxRecDepth 30000 in
theorem mf_X8_error : sw_mf mX8_error 0 := ⟨ini_X8, sw_m 762 rfl (by decide +kernel), by decide +kernel, by decide +kernel⟩
abbrev mX8_current : sw_MD := (yX8_current, cX8_current, 1, (some .int))
set_option maxRecDepth 30000 in
theorem mf_X8_current : sw_mf mX8_current 0 := ⟨ini_X8, sw_m 664 rfl (by decide +kernel), by decide +kernel, by decide +kernel⟩
abbrev mX8_skip : sw_MD := (yX8_skip, cX8_skip, 2, (some .boolean))
set_option maxRecDepth 30000 in
theorem mf_X8_skip : sw_mf mX8_skip 1 := ⟨ini_X8, sw_m 746 rfl (by decide +kernel), by decide +kernel, by decide +kernel⟩
abbrev mX8_open : sw_MD := (yX8_open, cX8_open, 3, (some .boolean))
set_option maxRecDepth 30000 in
theorem mf_X8_open : sw_mf mX8_open 2 := ⟨ini_X8, sw_m 738 rfl (by decide +kernel), by decide +kernel, by decide +kernel⟩
abbrev mX8_isName : sw_MD := (yX8_isName, cX8_isName, 1, (some .boolean))
set_option maxRecDepth 30000 in
theorem mf_X8_isName : sw_mf mX8_isName 1 := ⟨ini_X8, sw_m 667 rfl (by decide +kernel), by decide +kernel, by decide +kernel⟩
abbrev mX8_isDigit : sw_MD := (yX8_isDigit, cX8_isDigit, 1, (some .boolean))
set_option maxRecDepth 30000 in
theorem mf_X8_isDigit : sw_mf mX8_isDigit 1 := ⟨ini_X8, sw_m 682 rfl (by decide +kernel), by decide +kernel, by decide +kernel⟩
abbrev mX8_atStatement : sw_MD := (yX8_atStatement, cX8_atStatement, 2, (some .boolean))
set_option maxRecDepth 30000 in
theorem mf_X8_atStatement : sw_mf mX8_atStatement 0 := ⟨ini_X8, sw_m 660 rfl (by decide +kernel), by decide +kernel, by decide +kernel⟩
abbrev mX8_readRow : sw_MD := (yX8_readRow, cX8_readRow, 6, (some (.object "LabelGuard$Node")))
set_option maxRecDepth 30000 in
theorem mf_X8_readRow : sw_mf mX8_readRow 1 := ⟨ini_X8, sw_m 656 rfl (by decide +kernel), by decide +kernel, by decide +kernel⟩
abbrev mX8_readStatement : sw_MD := (yX8_readStatement, cX8_readStatement, 3, (some (.object "LabelGuard$Node")))
set_option maxRecDepth 30000 in
theorem mf_X8_readStatement : sw_mf mX8_readStatement 1 := ⟨ini_X8, sw_m 671 rfl (by decide +kernel), by decide +kernel, by decide +kernel⟩
abbrev mX8_readAssignment : sw_MD := (yX8_readAssignment, cX8_readAssignment, 4, (some (.object "LabelGuard$Node")))
set_option maxRecDepth 30000 in
theorem mf_X8_readAssignment : sw_mf mX8_readAssignment 2 := ⟨ini_X8, sw_m 758 rfl (by decide +kernel), by decide +kernel, by decide +kernel⟩
abbrev mX8_readChoice : sw_MD := (yX8_readChoice, cX8_readChoice, 5, (some (.object "LabelGuard$Node")))
set_option maxRecDepth 30000 in
theorem mf_X8_readChoice : sw_mf mX8_readChoice 1 := ⟨ini_X8, sw_m 675 rfl (by decide +kernel), by decide +kernel, by decide +kernel⟩
abbrev mX8_readLoop : sw_MD := (yX8_readLoop, cX8_readLoop, 4, (some (.object "LabelGuard$Node")))
set_option maxRecDepth 30000 in
theorem mf_X8_readLoop : sw_mf mX8_readLoop 1 := ⟨ini_X8, sw_m 754 rfl (by decide +kernel), by decide +kernel, by decide +kernel⟩
abbrev mX8_readBlock : sw_MD := (yX8_readBlock, cX8_readBlock, 3, (some (.object "LabelGuard$Node")))
set_option maxRecDepth 30000 in
theorem mf_X8_readBlock : sw_mf mX8_readBlock 1 := ⟨ini_X8, sw_m 750 rfl (by decide +kernel), by decide +kernel, by decide +kernel⟩
abbrev mX8_readExpression : sw_MD := (yX8_readExpression, cX8_readExpression, 3, (some (.object "LabelGuard$Node")))
set_option maxRecDepth 30000 in
theorem mf_X8_readExpression : sw_mf mX8_readExpression 1 := ⟨ini_X8, sw_m 679 rfl (by decide +kernel), by decide +kernel, by decide +kernel⟩
abbrev mX8_readNumber : sw_MD := (yX8_readNumber, cX8_readNumber, 3, (some (.object "LabelGuard$Node")))
set_option maxRecDepth 30000 in
theorem mf_X8_readNumber : sw_mf mX8_readNumber 0 := ⟨ini_X8, sw_m 686 rfl (by decide +kernel), by decide +kernel, by decide +kernel⟩
abbrev mX8_readBrackets : sw_MD := (yX8_readBrackets, cX8_readBrackets, 5, (some (.object "LabelGuard$Node")))
set_option maxRecDepth 30000 in
theorem mf_X8_readBrackets : sw_mf mX8_readBrackets 1 := ⟨ini_X8, sw_m 734 rfl (by decide +kernel), by decide +kernel, by decide +kernel⟩
abbrev mX8_readOperation : sw_MD := (yX8_readOperation, cX8_readOperation, 2, (some .int))
set_option maxRecDepth 30000 in
theorem mf_X8_readOperation : sw_mf mX8_readOperation 0 := ⟨ini_X8, sw_m 742 rfl (by decide +kernel), by decide +kernel, by decide +kernel⟩
abbrev mX9_init : sw_MD := (yX9_init, cX9_init, 3, none)
set_option maxRecDepth 30000 in
theorem mf_X9_init : sw_mf mX9_init 2 := ⟨ini_X9, sw_m 239 rfl (by decide +kernel), by decide +kernel, by decide +kernel⟩
abbrev mX9_workOut : sw_MD := (yX9_workOut, cX9_workOut, 2, none)
set_option maxRecDepth 30000 in
theorem mf_X9_workOut : sw_mf mX9_workOut 0 := ⟨ini_X9, sw_m 895 rfl (by decide +kernel), by decide +kernel, by decide +kernel⟩
abbrev mX9_has : sw_MD := (yX9_has, cX9_has, 3, (some .boolean))
set_option maxRecDepth 30000 in
theorem mf_X9_has : sw_mf mX9_has 2 := ⟨ini_X9, sw_m 980 rfl (by decide +kernel), by decide +kernel, by decide +kernel⟩
abbrev mX9_findPassed : sw_MD := (yX9_findPassed, cX9_findPassed, 3, none)
set_option maxRecDepth 30000 in
theorem mf_X9_findPassed : sw_mf mX9_findPassed 0 := ⟨ini_X9, sw_m 899 rfl (by decide +kernel), by decide +kernel, by decide +kernel⟩
abbrev mX9_narrowAll : sw_MD := (yX9_narrowAll, cX9_narrowAll, 3, (some .boolean))
set_option maxRecDepth 30000 in
theorem mf_X9_narrowAll : sw_mf mX9_narrowAll 0 := ⟨ini_X9, sw_m 924 rfl (by decide +kernel), by decide +kernel, by decide +kernel⟩
abbrev mX9_collect : sw_MD := (yX9_collect, cX9_collect, 3, none)
set_option maxRecDepth 30000 in
theorem mf_X9_collect : sw_mf mX9_collect 1 := ⟨ini_X9, sw_m 934 rfl (by decide +kernel), by decide +kernel, by decide +kernel⟩
abbrev mX9_visitNext : sw_MD := (yX9_visitNext, cX9_visitNext, 3, none)
set_option maxRecDepth 30000 in
theorem mf_X9_visitNext : sw_mf mX9_visitNext 2 := ⟨ini_X9, sw_m 938 rfl (by decide +kernel), by decide +kernel, by decide +kernel⟩
abbrev mX9_visit : sw_MD := (yX9_visit, cX9_visit, 3, none)
set_option maxRecDepth 30000 in
theorem mf_X9_visit : sw_mf mX9_visit 2 := ⟨ini_X9, sw_m 942 rfl (by decide +kernel), by decide +kernel, by decide +kernel⟩
abbrev mX10_init : sw_MD := (yX10_init, cX10_init, 2, none)
set_option maxRecDepth 30000 in
theorem mf_X10_init : sw_mf mX10_init 1 := ⟨ini_X10, sw_m 216 rfl (by decide +kernel), by decide +kernel, by decide +kernel⟩
abbrev mX10_fits : sw_MD := (yX10_fits, cX10_fits, 1, (some .boolean))
set_option maxRecDepth 30000 in
theorem mf_X10_fits : sw_mf mX10_fits 0 := ⟨ini_X10, sw_m 841 rfl (by decide +kernel), by decide +kernel, by decide +kernel⟩
abbrev mX10_reachedCount : sw_MD := (yX10_reachedCount, cX10_reachedCount, 1, (some .int))
set_option maxRecDepth 30000 in
theorem mf_X10_reachedCount : sw_mf mX10_reachedCount 0 := ⟨ini_X10, sw_m 996 rfl (by decide +kernel), by decide +kernel, by decide +kernel⟩
abbrev mX10_heightAt : sw_MD := (yX10_heightAt, cX10_heightAt, 2, (some .int))
set_option maxRecDepth 30000 in
theorem mf_X10_heightAt : sw_mf mX10_heightAt 1 := ⟨ini_X10, sw_m 468 rfl (by decide +kernel), by decide +kernel, by decide +kernel⟩
abbrev mX10_partsFit : sw_MD := (yX10_partsFit, cX10_partsFit, 4, (some .boolean))
set_option maxRecDepth 30000 in
theorem mf_X10_partsFit : sw_mf mX10_partsFit 0 := ⟨ini_X10, sw_m 846 rfl (by decide +kernel), by decide +kernel, by decide +kernel⟩
abbrev mX10_waysFit : sw_MD := (yX10_waysFit, cX10_waysFit, 2, (some .boolean))
set_option maxRecDepth 30000 in
theorem mf_X10_waysFit : sw_mf mX10_waysFit 0 := ⟨ini_X10, sw_m 853 rfl (by decide +kernel), by decide +kernel, by decide +kernel⟩
abbrev mX10_goesOnWell : sw_MD := (yX10_goesOnWell, cX10_goesOnWell, 4, (some .boolean))
set_option maxRecDepth 30000 in
theorem mf_X10_goesOnWell : sw_mf mX10_goesOnWell 1 := ⟨ini_X10, sw_m 857 rfl (by decide +kernel), by decide +kernel, by decide +kernel⟩
abbrev mX10_comesTo : sw_MD := (yX10_comesTo, cX10_comesTo, 3, (some .boolean))
set_option maxRecDepth 30000 in
theorem mf_X10_comesTo : sw_mf mX10_comesTo 2 := ⟨ini_X10, sw_m 874 rfl (by decide +kernel), by decide +kernel, by decide +kernel⟩
abbrev mX10_taken : sw_MD := (yX10_taken, cX10_taken, 1, (some .int))
set_option maxRecDepth 30000 in
theorem mf_X10_taken : sw_mf mX10_taken 1 := ⟨ini_X10, sw_m 860 rfl (by decide +kernel), by decide +kernel, by decide +kernel⟩
abbrev mX10_given : sw_MD := (yX10_given, cX10_given, 1, (some .int))
set_option maxRecDepth 30000 in
theorem mf_X10_given : sw_mf mX10_given 1 := ⟨ini_X10, sw_m 866 rfl (by decide +kernel), by decide +kernel, by decide +kernel⟩
abbrev mX10_allCanEnd : sw_MD := (yX10_allCanEnd, cX10_allCanEnd, 4, (some .boolean))
set_option maxRecDepth 30000 in
theorem mf_X10_allCanEnd : sw_mf mX10_allCanEnd 0 := ⟨ini_X10, sw_m 878 rfl (by decide +kernel), by decide +kernel, by decide +kernel⟩
abbrev mX10_findEnding : sw_MD := (yX10_findEnding, cX10_findEnding, 3, (some .int))
set_option maxRecDepth 30000 in
theorem mf_X10_findEnding : sw_mf mX10_findEnding 0 := ⟨ini_X10, sw_m 882 rfl (by decide +kernel), by decide +kernel, by decide +kernel⟩
abbrev mX10_canEnd : sw_MD := (yX10_canEnd, cX10_canEnd, 2, (some .boolean))
set_option maxRecDepth 30000 in
theorem mf_X10_canEnd : sw_mf mX10_canEnd 1 := ⟨ini_X10, sw_m 886 rfl (by decide +kernel), by decide +kernel, by decide +kernel⟩
abbrev mX10_isEnding : sw_MD := (yX10_isEnding, cX10_isEnding, 2, (some .boolean))
set_option maxRecDepth 30000 in
theorem mf_X10_isEnding : sw_mf mX10_isEnding 1 := ⟨ini_X10, sw_m 890 rfl (by decide +kernel), by decide +kernel, by decide +kernel⟩
abbrev mX11_init : sw_MD := (yX11_init, cX11_init, 1, none)
set_option maxRecDepth 30000 in
theorem mf_X11_init : sw_mf mX11_init 0 := ⟨ini_X11, sw_m 113 rfl (by decide +kernel), by decide +kernel, by decide +kernel⟩
abbrev mX11_levels : sw_MD := (yX11_levels, cX11_levels, 5, (some .boolean))
set_option maxRecDepth 30000 in
theorem mf_X11_levels : sw_mf mX11_levels 2 := ⟨ini_X11, sw_m 521 rfl (by decide +kernel), by decide +kernel, by decide +kernel⟩
abbrev mX11_join : sw_MD := (yX11_join, cX11_join, 3, (some .int))
set_option maxRecDepth 30000 in
theorem mf_X11_join : sw_mf mX11_join 2 := ⟨ini_X11, sw_m 377 rfl (by decide +kernel), by decide +kernel, by decide +kernel⟩
abbrev mX11_label : sw_MD := (yX11_label, cX11_label, 4, (some .boolean))
set_option maxRecDepth 30000 in
theorem mf_X11_label : sw_mf mX11_label 3 := ⟨ini_X11, sw_m 389 rfl (by decide +kernel), by decide +kernel, by decide +kernel⟩
abbrev mX11_write : sw_MD := (yX11_write, cX11_write, 3, (some .boolean))
set_option maxRecDepth 30000 in
theorem mf_X11_write : sw_mf mX11_write 1 := ⟨ini_X11, sw_m 397 rfl (by decide +kernel), by decide +kernel, by decide +kernel⟩
abbrev mX11_compile : sw_MD := (yX11_compile, cX11_compile, 2, (some .int))
set_option maxRecDepth 30000 in
theorem mf_X11_compile : sw_mf mX11_compile 0 := ⟨ini_X11, sw_m 648 rfl (by decide +kernel), by decide +kernel, by decide +kernel⟩
abbrev mX11_position : sw_MD := (yX11_position, cX11_position, 1, (some .int))
set_option maxRecDepth 30000 in
theorem mf_X11_position : sw_mf mX11_position 0 := ⟨ini_X11, sw_m 406 rfl (by decide +kernel), by decide +kernel, by decide +kernel⟩
abbrev mX11_exit : sw_MD := (yX11_exit, cX11_exit, 2, (some .int))
set_option maxRecDepth 30000 in
theorem mf_X11_exit : sw_mf mX11_exit 1 := ⟨ini_X11, sw_m 410 rfl (by decide +kernel), by decide +kernel, by decide +kernel⟩
abbrev mX11_code : sw_MD := (yX11_code, cX11_code, 3, (some .int))
set_option maxRecDepth 30000 in
theorem mf_X11_code : sw_mf mX11_code 2 := ⟨ini_X11, sw_m 419 rfl (by decide +kernel), by decide +kernel, by decide +kernel⟩
abbrev mX11_empty : sw_MD := (yX11_empty, cX11_empty, 1, none)
set_option maxRecDepth 30000 in
theorem mf_X11_empty : sw_mf mX11_empty 0 := ⟨ini_X11, sw_m 440 rfl (by decide +kernel), by decide +kernel, by decide +kernel⟩
abbrev mX11_put : sw_MD := (yX11_put, cX11_put, 3, (some .boolean))
set_option maxRecDepth 30000 in
theorem mf_X11_put : sw_mf mX11_put 2 := ⟨ini_X11, sw_m 452 rfl (by decide +kernel), by decide +kernel, by decide +kernel⟩
abbrev mX11_verify : sw_MD := (yX11_verify, cX11_verify, 1, (some .int))
set_option maxRecDepth 30000 in
theorem mf_X11_verify : sw_mf mX11_verify 0 := ⟨ini_X11, sw_m 837 rfl (by decide +kernel), by decide +kernel, by decide +kernel⟩
abbrev mX11_found : sw_MD := (yX11_found, cX11_found, 3, (some .int))
set_option maxRecDepth 30000 in
theorem mf_X11_found : sw_mf mX11_found 2 := ⟨ini_X11, sw_m 460 rfl (by decide +kernel), by decide +kernel, by decide +kernel⟩
abbrev mX11_set : sw_MD := (yX11_set, cX11_set, 3, (some .boolean))
set_option maxRecDepth 30000 in
theorem mf_X11_set : sw_mf mX11_set 2 := ⟨ini_X11, sw_m 473 rfl (by decide +kernel), by decide +kernel, by decide +kernel⟩
abbrev mX11_get : sw_MD := (yX11_get, cX11_get, 2, (some .int))
set_option maxRecDepth 30000 in
theorem mf_X11_get : sw_mf mX11_get 1 := ⟨ini_X11, sw_m 477 rfl (by decide +kernel), by decide +kernel, by decide +kernel⟩
abbrev mX11_run : sw_MD := (yX11_run, cX11_run, 2, (some .int))
set_option maxRecDepth 30000 in
theorem mf_X11_run : sw_mf mX11_run 1 := ⟨ini_X11, sw_m 1003 rfl (by decide +kernel), by decide +kernel, by decide +kernel⟩
abbrev mX11_follow : sw_MD := (yX11_follow, cX11_follow, 2, (some .int))
set_option maxRecDepth 30000 in
theorem mf_X11_follow : sw_mf mX11_follow 1 := ⟨ini_X11, sw_m 481 rfl (by decide +kernel), by decide +kernel, by decide +kernel⟩
abbrev mX11_forgetChecks : sw_MD := (yX11_forgetChecks, cX11_forgetChecks, 1, none)
set_option maxRecDepth 30000 in
theorem mf_X11_forgetChecks : sw_mf mX11_forgetChecks 0 := ⟨ini_X11, sw_m 448 rfl (by decide +kernel), by decide +kernel, by decide +kernel⟩
abbrev mX11_isVariable : sw_MD := (yX11_isVariable, cX11_isVariable, 1, (some .boolean))
set_option maxRecDepth 30000 in
theorem mf_X11_isVariable : sw_mf mX11_isVariable 1 := ⟨ini_X11, sw_m 392 rfl (by decide +kernel), by decide +kernel, by decide +kernel⟩
abbrev mX11_isOperation : sw_MD := (yX11_isOperation, cX11_isOperation, 1, (some .boolean))
set_option maxRecDepth 30000 in
theorem mf_X11_isOperation : sw_mf mX11_isOperation 1 := ⟨ini_X11, sw_m 863 rfl (by decide +kernel), by decide +kernel, by decide +kernel⟩
abbrev mX11_operate : sw_MD := (yX11_operate, cX11_operate, 3, (some .int))
set_option maxRecDepth 30000 in
theorem mf_X11_operate : sw_mf mX11_operate 3 := ⟨ini_X11, sw_m 508 rfl (by decide +kernel), by decide +kernel, by decide +kernel⟩
abbrev mX12_init : sw_MD := (yX12_init, cX12_init, 1, none)
set_option maxRecDepth 30000 in
theorem mf_X12_init : sw_mf mX12_init 0 := ⟨ini_X12, sw_m 1033 rfl (by decide +kernel), by decide +kernel, by decide +kernel⟩
abbrev mX12_thrown : sw_MD := (yX12_thrown, cX12_thrown, 1, (some .int))
set_option maxRecDepth 30000 in
theorem mf_X12_thrown : sw_mf mX12_thrown 0 := ⟨ini_X12, sw_m 1190 rfl (by decide +kernel), by decide +kernel, by decide +kernel⟩
abbrev mX12_isLevel : sw_MD := (yX12_isLevel, cX12_isLevel, 2, (some .boolean))
set_option maxRecDepth 30000 in
theorem mf_X12_isLevel : sw_mf mX12_isLevel 1 := ⟨ini_X12, sw_m 1218 rfl (by decide +kernel), by decide +kernel, by decide +kernel⟩
abbrev mX12_bound : sw_MD := (yX12_bound, cX12_bound, 8, (some .int))
set_option maxRecDepth 30000 in
theorem mf_X12_bound : sw_mf mX12_bound 4 := ⟨ini_X12, sw_m 1206 rfl (by decide +kernel), by decide +kernel, by decide +kernel⟩
abbrev mX12_fits : sw_MD := (yX12_fits, cX12_fits, 4, (some .boolean))
set_option maxRecDepth 30000 in
theorem mf_X12_fits : sw_mf mX12_fits 3 := ⟨ini_X12, sw_m 1210 rfl (by decide +kernel), by decide +kernel, by decide +kernel⟩
abbrev mX12_isOrder : sw_MD := (yX12_isOrder, cX12_isOrder, 6, (some .boolean))
set_option maxRecDepth 30000 in
theorem mf_X12_isOrder : sw_mf mX12_isOrder 1 := ⟨ini_X12, sw_m 1198 rfl (by decide +kernel), by decide +kernel, by decide +kernel⟩
abbrev mX12_isLattice : sw_MD := (yX12_isLattice, cX12_isLattice, 5, (some .boolean))
set_option maxRecDepth 30000 in
theorem mf_X12_isLattice : sw_mf mX12_isLattice 1 := ⟨ini_X12, sw_m 1202 rfl (by decide +kernel), by decide +kernel, by decide +kernel⟩
abbrev mX12_levels : sw_MD := (yX12_levels, cX12_levels, 7, (some .boolean))
set_option maxRecDepth 30000 in
theorem mf_X12_levels : sw_mf mX12_levels 2 := ⟨ini_X12, sw_m 1194 rfl (by decide +kernel), by decide +kernel, by decide +kernel⟩
abbrev mX12_joined : sw_MD := (yX12_joined, cX12_joined, 3, (some .int))
set_option maxRecDepth 30000 in
theorem mf_X12_joined : sw_mf mX12_joined 2 := ⟨ini_X12, sw_m 1222 rfl (by decide +kernel), by decide +kernel, by decide +kernel⟩
abbrev mX12_join : sw_MD := (yX12_join, cX12_join, 3, (some .int))
set_option maxRecDepth 30000 in
theorem mf_X12_join : sw_mf mX12_join 2 := ⟨ini_X12, sw_m 1214 rfl (by decide +kernel), by decide +kernel, by decide +kernel⟩
abbrev mX12_label : sw_MD := (yX12_label, cX12_label, 4, (some .boolean))
set_option maxRecDepth 30000 in
theorem mf_X12_label : sw_mf mX12_label 3 := ⟨ini_X12, sw_m 1226 rfl (by decide +kernel), by decide +kernel, by decide +kernel⟩
abbrev mX12_write : sw_MD := (yX12_write, cX12_write, 6, (some .boolean))
set_option maxRecDepth 30000 in
theorem mf_X12_write : sw_mf mX12_write 1 := ⟨ini_X12, sw_m 1230 rfl (by decide +kernel), by decide +kernel, by decide +kernel⟩
abbrev mX12_here : sw_MD := (yX12_here, cX12_here, 1, (some .char))
set_option maxRecDepth 30000 in
theorem mf_X12_here : sw_mf mX12_here 0 := ⟨ini_X12, sw_m 1247 rfl (by decide +kernel), by decide +kernel, by decide +kernel⟩
abbrev mX12_takes : sw_MD := (yX12_takes, cX12_takes, 3, (some .boolean))
set_option maxRecDepth 30000 in
theorem mf_X12_takes : sw_mf mX12_takes 1 := ⟨ini_X12, sw_m 1254 rfl (by decide +kernel), by decide +kernel, by decide +kernel⟩
abbrev mX12_opens : sw_MD := (yX12_opens, cX12_opens, 2, (some .boolean))
set_option maxRecDepth 30000 in
theorem mf_X12_opens : sw_mf mX12_opens 1 := ⟨ini_X12, sw_m 1266 rfl (by decide +kernel), by decide +kernel, by decide +kernel⟩
abbrev mX12_closes : sw_MD := (yX12_closes, cX12_closes, 3, (some .boolean))
set_option maxRecDepth 30000 in
theorem mf_X12_closes : sw_mf mX12_closes 1 := ⟨ini_X12, sw_m 1276 rfl (by decide +kernel), by decide +kernel, by decide +kernel⟩
abbrev mX12_isName : sw_MD := (yX12_isName, cX12_isName, 1, (some .boolean))
set_option maxRecDepth 30000 in
theorem mf_X12_isName : sw_mf mX12_isName 1 := ⟨ini_X12, sw_m 1250 rfl (by decide +kernel), by decide +kernel, by decide +kernel⟩
abbrev mX12_isDigit : sw_MD := (yX12_isDigit, cX12_isDigit, 1, (some .boolean))
set_option maxRecDepth 30000 in
theorem mf_X12_isDigit : sw_mf mX12_isDigit 1 := ⟨ini_X12, sw_m 1269 rfl (by decide +kernel), by decide +kernel, by decide +kernel⟩
abbrev mX12_part : sw_MD := (yX12_part, cX12_part, 4, (some .int))
set_option maxRecDepth 30000 in
theorem mf_X12_part : sw_mf mX12_part 2 := ⟨ini_X12, sw_m 1243 rfl (by decide +kernel), by decide +kernel, by decide +kernel⟩
abbrev mX12_operation : sw_MD := (yX12_operation, cX12_operation, 1, (some .int))
set_option maxRecDepth 30000 in
theorem mf_X12_operation : sw_mf mX12_operation 1 := ⟨ini_X12, sw_m 1272 rfl (by decide +kernel), by decide +kernel, by decide +kernel⟩
abbrev mX12_begin : sw_MD := (yX12_begin, cX12_begin, 5, (some .int))
set_option maxRecDepth 30000 in
theorem mf_X12_begin : sw_mf mX12_begin 1 := ⟨ini_X12, sw_m 1262 rfl (by decide +kernel), by decide +kernel, by decide +kernel⟩
abbrev mX12_expression : sw_MD := (yX12_expression, cX12_expression, 5, (some .boolean))
set_option maxRecDepth 30000 in
theorem mf_X12_expression : sw_mf mX12_expression 1 := ⟨ini_X12, sw_m 1258 rfl (by decide +kernel), by decide +kernel, by decide +kernel⟩
abbrev mX12_read : sw_MD := (yX12_read, cX12_read, 5, (some .boolean))
set_option maxRecDepth 30000 in
theorem mf_X12_read : sw_mf mX12_read 0 := ⟨ini_X12, sw_m 1239 rfl (by decide +kernel), by decide +kernel, by decide +kernel⟩
abbrev mX12_measure : sw_MD := (yX12_measure, cX12_measure, 4, none)
set_option maxRecDepth 30000 in
theorem mf_X12_measure : sw_mf mX12_measure 0 := ⟨ini_X12, sw_m 1280 rfl (by decide +kernel), by decide +kernel, by decide +kernel⟩
abbrev mX12_say : sw_MD := (yX12_say, cX12_say, 4, none)
set_option maxRecDepth 30000 in
theorem mf_X12_say : sw_mf mX12_say 3 := ⟨ini_X12, sw_m 1288 rfl (by decide +kernel), by decide +kernel, by decide +kernel⟩
abbrev mX12_lay : sw_MD := (yX12_lay, cX12_lay, 7, none)
set_option maxRecDepth 30000 in
theorem mf_X12_lay : sw_mf mX12_lay 0 := ⟨ini_X12, sw_m 1284 rfl (by decide +kernel), by decide +kernel, by decide +kernel⟩
abbrev mX12_labelOf : sw_MD := (yX12_labelOf, cX12_labelOf, 5, (some .int))
set_option maxRecDepth 30000 in
theorem mf_X12_labelOf : sw_mf mX12_labelOf 1 := ⟨ini_X12, sw_m 1312 rfl (by decide +kernel), by decide +kernel, by decide +kernel⟩
abbrev mX12_setIn : sw_MD := (yX12_setIn, cX12_setIn, 4, none)
set_option maxRecDepth 30000 in
theorem mf_X12_setIn : sw_mf mX12_setIn 2 := ⟨ini_X12, sw_m 1296 rfl (by decide +kernel), by decide +kernel, by decide +kernel⟩
abbrev mX12_setOut : sw_MD := (yX12_setOut, cX12_setOut, 3, none)
set_option maxRecDepth 30000 in
theorem mf_X12_setOut : sw_mf mX12_setOut 1 := ⟨ini_X12, sw_m 1320 rfl (by decide +kernel), by decide +kernel, by decide +kernel⟩
abbrev mX12_take : sw_MD := (yX12_take, cX12_take, 4, none)
set_option maxRecDepth 30000 in
theorem mf_X12_take : sw_mf mX12_take 2 := ⟨ini_X12, sw_m 1304 rfl (by decide +kernel), by decide +kernel, by decide +kernel⟩
abbrev mX12_joinOut : sw_MD := (yX12_joinOut, cX12_joinOut, 3, none)
set_option maxRecDepth 30000 in
theorem mf_X12_joinOut : sw_mf mX12_joinOut 1 := ⟨ini_X12, sw_m 1316 rfl (by decide +kernel), by decide +kernel, by decide +kernel⟩
abbrev mX12_statement : sw_MD := (yX12_statement, cX12_statement, 5, none)
set_option maxRecDepth 30000 in
theorem mf_X12_statement : sw_mf mX12_statement 1 := ⟨ini_X12, sw_m 1308 rfl (by decide +kernel), by decide +kernel, by decide +kernel⟩
abbrev mX12_row : sw_MD := (yX12_row, cX12_row, 3, none)
set_option maxRecDepth 30000 in
theorem mf_X12_row : sw_mf mX12_row 1 := ⟨ini_X12, sw_m 1300 rfl (by decide +kernel), by decide +kernel, by decide +kernel⟩
abbrev mX12_labelProgram : sw_MD := (yX12_labelProgram, cX12_labelProgram, 3, none)
set_option maxRecDepth 30000 in
theorem mf_X12_labelProgram : sw_mf mX12_labelProgram 0 := ⟨ini_X12, sw_m 1292 rfl (by decide +kernel), by decide +kernel, by decide +kernel⟩
abbrev mX12_compile : sw_MD := (yX12_compile, cX12_compile, 4, (some .int))
set_option maxRecDepth 30000 in
theorem mf_X12_compile : sw_mf mX12_compile 0 := ⟨ini_X12, sw_m 1235 rfl (by decide +kernel), by decide +kernel, by decide +kernel⟩
abbrev mX12_position : sw_MD := (yX12_position, cX12_position, 1, (some .int))
set_option maxRecDepth 30000 in
theorem mf_X12_position : sw_mf mX12_position 0 := ⟨ini_X12, sw_m 1324 rfl (by decide +kernel), by decide +kernel, by decide +kernel⟩
abbrev mX12_exit : sw_MD := (yX12_exit, cX12_exit, 2, (some .int))
set_option maxRecDepth 30000 in
theorem mf_X12_exit : sw_mf mX12_exit 1 := ⟨ini_X12, sw_m 1328 rfl (by decide +kernel), by decide +kernel, by decide +kernel⟩
abbrev mX12_code : sw_MD := (yX12_code, cX12_code, 3, (some .int))
set_option maxRecDepth 30000 in
theorem mf_X12_code : sw_mf mX12_code 2 := ⟨ini_X12, sw_m 1332 rfl (by decide +kernel), by decide +kernel, by decide +kernel⟩
abbrev mX12_empty : sw_MD := (yX12_empty, cX12_empty, 1, none)
set_option maxRecDepth 30000 in
theorem mf_X12_empty : sw_mf mX12_empty 0 := ⟨ini_X12, sw_m 1336 rfl (by decide +kernel), by decide +kernel, by decide +kernel⟩
abbrev mX12_put : sw_MD := (yX12_put, cX12_put, 3, (some .boolean))
set_option maxRecDepth 30000 in
theorem mf_X12_put : sw_mf mX12_put 2 := ⟨ini_X12, sw_m 1340 rfl (by decide +kernel), by decide +kernel, by decide +kernel⟩
abbrev mX12_plain : sw_MD := (yX12_plain, cX12_plain, 5, (some .boolean))
set_option maxRecDepth 30000 in
theorem mf_X12_plain : sw_mf mX12_plain 0 := ⟨ini_X12, sw_m 1352 rfl (by decide +kernel), by decide +kernel, by decide +kernel⟩
abbrev mX12_takenBy : sw_MD := (yX12_takenBy, cX12_takenBy, 1, (some .int))
set_option maxRecDepth 30000 in
theorem mf_X12_takenBy : sw_mf mX12_takenBy 1 := ⟨ini_X12, sw_m 1359 rfl (by decide +kernel), by decide +kernel, by decide +kernel⟩
abbrev mX12_givenBy : sw_MD := (yX12_givenBy, cX12_givenBy, 1, (some .int))
set_option maxRecDepth 30000 in
theorem mf_X12_givenBy : sw_mf mX12_givenBy 1 := ⟨ini_X12, sw_m 1362 rfl (by decide +kernel), by decide +kernel, by decide +kernel⟩
abbrev mX12_nextOf : sw_MD := (yX12_nextOf, cX12_nextOf, 4, (some .int))
set_option maxRecDepth 30000 in
theorem mf_X12_nextOf : sw_mf mX12_nextOf 2 := ⟨ini_X12, sw_m 1366 rfl (by decide +kernel), by decide +kernel, by decide +kernel⟩
abbrev mX12_heights : sw_MD := (yX12_heights, cX12_heights, 6, (some .boolean))
set_option maxRecDepth 30000 in
theorem mf_X12_heights : sw_mf mX12_heights 0 := ⟨ini_X12, sw_m 1356 rfl (by decide +kernel), by decide +kernel, by decide +kernel⟩
abbrev mX12_comesToEnd : sw_MD := (yX12_comesToEnd, cX12_comesToEnd, 7, (some .boolean))
set_option maxRecDepth 30000 in
theorem mf_X12_comesToEnd : sw_mf mX12_comesToEnd 2 := ⟨ini_X12, sw_m 1370 rfl (by decide +kernel), by decide +kernel, by decide +kernel⟩
abbrev mX12_shape : sw_MD := (yX12_shape, cX12_shape, 3, (some .boolean))
set_option maxRecDepth 30000 in
theorem mf_X12_shape : sw_mf mX12_shape 0 := ⟨ini_X12, sw_m 1348 rfl (by decide +kernel), by decide +kernel, by decide +kernel⟩
abbrev mX12_findRegion : sw_MD := (yX12_findRegion, cX12_findRegion, 6, none)
set_option maxRecDepth 30000 in
theorem mf_X12_findRegion : sw_mf mX12_findRegion 1 := ⟨ini_X12, sw_m 1378 rfl (by decide +kernel), by decide +kernel, by decide +kernel⟩
abbrev mX12_come : sw_MD := (yX12_come, cX12_come, 4, none)
set_option maxRecDepth 30000 in
theorem mf_X12_come : sw_mf mX12_come 2 := ⟨ini_X12, sw_m 1382 rfl (by decide +kernel), by decide +kernel, by decide +kernel⟩
abbrev mX12_findContext : sw_MD := (yX12_findContext, cX12_findContext, 4, none)
set_option maxRecDepth 30000 in
theorem mf_X12_findContext : sw_mf mX12_findContext 1 := ⟨ini_X12, sw_m 1386 rfl (by decide +kernel), by decide +kernel, by decide +kernel⟩
abbrev mX12_leave : sw_MD := (yX12_leave, cX12_leave, 9, none)
set_option maxRecDepth 30000 in
theorem mf_X12_leave : sw_mf mX12_leave 1 := ⟨ini_X12, sw_m 1390 rfl (by decide +kernel), by decide +kernel, by decide +kernel⟩
abbrev mX12_labelCode : sw_MD := (yX12_labelCode, cX12_labelCode, 3, none)
set_option maxRecDepth 30000 in
theorem mf_X12_labelCode : sw_mf mX12_labelCode 0 := ⟨ini_X12, sw_m 1374 rfl (by decide +kernel), by decide +kernel, by decide +kernel⟩
abbrev mX12_verify : sw_MD := (yX12_verify, cX12_verify, 5, (some .int))
set_option maxRecDepth 30000 in
theorem mf_X12_verify : sw_mf mX12_verify 0 := ⟨ini_X12, sw_m 1344 rfl (by decide +kernel), by decide +kernel, by decide +kernel⟩
abbrev mX12_found : sw_MD := (yX12_found, cX12_found, 3, (some .int))
set_option maxRecDepth 30000 in
theorem mf_X12_found : sw_mf mX12_found 2 := ⟨ini_X12, sw_m 1394 rfl (by decide +kernel), by decide +kernel, by decide +kernel⟩
abbrev mX12_set : sw_MD := (yX12_set, cX12_set, 3, (some .boolean))
set_option maxRecDepth 30000 in
theorem mf_X12_set : sw_mf mX12_set 2 := ⟨ini_X12, sw_m 1398 rfl (by decide +kernel), by decide +kernel, by decide +kernel⟩
abbrev mX12_get : sw_MD := (yX12_get, cX12_get, 2, (some .int))
set_option maxRecDepth 30000 in
theorem mf_X12_get : sw_mf mX12_get 1 := ⟨ini_X12, sw_m 1402 rfl (by decide +kernel), by decide +kernel, by decide +kernel⟩
abbrev mX12_worked : sw_MD := (yX12_worked, cX12_worked, 3, (some .int))
set_option maxRecDepth 30000 in
theorem mf_X12_worked : sw_mf mX12_worked 3 := ⟨ini_X12, sw_m 1413 rfl (by decide +kernel), by decide +kernel, by decide +kernel⟩
abbrev mX12_goOver : sw_MD := (yX12_goOver, cX12_goOver, 10, (some .int))
set_option maxRecDepth 30000 in
theorem mf_X12_goOver : sw_mf mX12_goOver 4 := ⟨ini_X12, sw_m 1410 rfl (by decide +kernel), by decide +kernel, by decide +kernel⟩
abbrev mX12_run : sw_MD := (yX12_run, cX12_run, 2, (some .int))
set_option maxRecDepth 30000 in
theorem mf_X12_run : sw_mf mX12_run 1 := ⟨ini_X12, sw_m 1406 rfl (by decide +kernel), by decide +kernel, by decide +kernel⟩
abbrev mX12_follow : sw_MD := (yX12_follow, cX12_follow, 3, (some .int))
set_option maxRecDepth 30000 in
theorem mf_X12_follow : sw_mf mX12_follow 1 := ⟨ini_X12, sw_m 1417 rfl (by decide +kernel), by decide +kernel, by decide +kernel⟩
