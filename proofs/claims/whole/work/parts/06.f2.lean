/-! ===== FACTS out of the tables: classes and fields ===== -/
theorem sw_uX0 : ∀ w ∈ u_ws RX0 TX0 3, w ∈ sw_lwg := fun w h => List.mem_filter.mpr ⟨(show ∀ w ∈ u_ws RX0 TX0 3, w ∈ lw_tbl by decide +kernel) w h, (show ∀ w ∈ u_ws RX0 TX0 3, goodWord w = true by decide +kernel) w h⟩
theorem cf_X0 : sw_cf 0 RX0 TX0 3 := ⟨rfl, sw_uX0, ⟨tyX0, tyX0_ok⟩, nmX0⟩
theorem sw_uX1 : ∀ w ∈ u_ws RX1 TX1 7, w ∈ sw_lwg := fun w h => List.mem_filter.mpr ⟨(show ∀ w ∈ u_ws RX1 TX1 7, w ∈ lw_tbl by decide +kernel) w h, (show ∀ w ∈ u_ws RX1 TX1 7, goodWord w = true by decide +kernel) w h⟩
theorem cf_X1 : sw_cf 1 RX1 TX1 7 := ⟨rfl, sw_uX1, ⟨tyX1, tyX1_ok⟩, nmX1⟩
theorem sw_uX2 : ∀ w ∈ u_ws RX2 TX2 3, w ∈ sw_lwg := fun w h => List.mem_filter.mpr ⟨(show ∀ w ∈ u_ws RX2 TX2 3, w ∈ lw_tbl by decide +kernel) w h, (show ∀ w ∈ u_ws RX2 TX2 3, goodWord w = true by decide +kernel) w h⟩
theorem cf_X2 : sw_cf 2 RX2 TX2 3 := ⟨rfl, sw_uX2, ⟨tyX2, tyX2_ok⟩, nmX2⟩
theorem sw_uX3 : ∀ w ∈ u_ws RX3 TX3 5, w ∈ sw_lwg := fun w h => List.mem_filter.mpr ⟨(show ∀ w ∈ u_ws RX3 TX3 5, w ∈ lw_tbl by decide +kernel) w h, (show ∀ w ∈ u_ws RX3 TX3 5, goodWord w = true by decide +kernel) w h⟩
theorem cf_X3 : sw_cf 3 RX3 TX3 5 := ⟨rfl, sw_uX3, ⟨tyX3, tyX3_ok⟩, nmX3⟩
theorem sw_uX4 : ∀ w ∈ u_ws RX4 TX4 4, w ∈ sw_lwg := fun w h => List.mem_filter.mpr ⟨(show ∀ w ∈ u_ws RX4 TX4 4, w ∈ lw_tbl by decide +kernel) w h, (show ∀ w ∈ u_ws RX4 TX4 4, goodWord w = true by decide +kernel) w h⟩
theorem cf_X4 : sw_cf 4 RX4 TX4 4 := ⟨rfl, sw_uX4, ⟨tyX4, tyX4_ok⟩, nmX4⟩
theorem sw_uX5 : ∀ w ∈ u_ws RX5 TX5 2, w ∈ sw_lwg := fun w h => List.mem_filter.mpr ⟨(show ∀ w ∈ u_ws RX5 TX5 2, w ∈ lw_tbl by decide +kernel) w h, (show ∀ w ∈ u_ws RX5 TX5 2, goodWord w = true by decide +kernel) w h⟩
theorem cf_X5 : sw_cf 5 RX5 TX5 2 := ⟨rfl, sw_uX5, ⟨tyX5, tyX5_ok⟩, nmX5⟩
theorem sw_uX6 : ∀ w ∈ u_ws RX6 TX6 6, w ∈ sw_lwg := fun w h => List.mem_filter.mpr ⟨(show ∀ w ∈ u_ws RX6 TX6 6, w ∈ lw_tbl by decide +kernel) w h, (show ∀ w ∈ u_ws RX6 TX6 6, goodWord w = true by decide +kernel) w h⟩
theorem cf_X6 : sw_cf 6 RX6 TX6 6 := ⟨rfl, sw_uX6, ⟨tyX6, tyX6_ok⟩, nmX6⟩
theorem sw_uX7 : ∀ w ∈ u_ws RX7 TX7 4, w ∈ sw_lwg := fun w h => List.mem_filter.mpr ⟨(show ∀ w ∈ u_ws RX7 TX7 4, w ∈ lw_tbl by decide +kernel) w h, (show ∀ w ∈ u_ws RX7 TX7 4, goodWord w = true by decide +kernel) w h⟩
theorem cf_X7 : sw_cf 7 RX7 TX7 4 := ⟨rfl, sw_uX7, ⟨tyX7, tyX7_ok⟩, nmX7⟩
theorem sw_uX8 : ∀ w ∈ u_ws RX8 TX8 4, w ∈ sw_lwg := fun w h => List.mem_filter.mpr ⟨(show ∀ w ∈ u_ws RX8 TX8 4, w ∈ lw_tbl by decide +kernel) w h, (show ∀ w ∈ u_ws RX8 TX8 4, goodWord w = true by decide +kernel) w h⟩
theorem cf_X8 : sw_cf 8 RX8 TX8 4 := ⟨rfl, sw_uX8, ⟨tyX8, tyX8_ok⟩, nmX8⟩
theorem sw_uX9 : ∀ w ∈ u_ws RX9 TX9 6, w ∈ sw_lwg := fun w h => List.mem_filter.mpr ⟨(show ∀ w ∈ u_ws RX9 TX9 6, w ∈ lw_tbl by decide +kernel) w h, (show ∀ w ∈ u_ws RX9 TX9 6, goodWord w = true by decide +kernel) w h⟩
theorem cf_X9 : sw_cf 9 RX9 TX9 6 := ⟨rfl, sw_uX9, ⟨tyX9, tyX9_ok⟩, nmX9⟩
theorem sw_uX10 : ∀ w ∈ u_ws RX10 TX10 5, w ∈ sw_lwg := fun w h => List.mem_filter.mpr ⟨(show ∀ w ∈ u_ws RX10 TX10 5, w ∈ lw_tbl by decide +kernel) w h, (show ∀ w ∈ u_ws RX10 TX10 5, goodWord w = true by decide +kernel) w h⟩
theorem cf_X10 : sw_cf 10 RX10 TX10 5 := ⟨rfl, sw_uX10, ⟨tyX10, tyX10_ok⟩, nmX10⟩
theorem sw_uX11 : ∀ w ∈ u_ws RX11 TX11 17, w ∈ sw_lwg := fun w h => List.mem_filter.mpr ⟨(show ∀ w ∈ u_ws RX11 TX11 17, w ∈ lw_tbl by decide +kernel) w h, (show ∀ w ∈ u_ws RX11 TX11 17, goodWord w = true by decide +kernel) w h⟩
theorem cf_X11 : sw_cf 11 RX11 TX11 17 := ⟨rfl, sw_uX11, ⟨tyX11, tyX11_ok⟩, nmX11⟩
theorem sw_uX12 : ∀ w ∈ u_ws RX12 TX12 50, w ∈ sw_lwg := fun w h => List.mem_filter.mpr ⟨(show ∀ w ∈ u_ws RX12 TX12 50, w ∈ lw_tbl by decide +kernel) w h, (show ∀ w ∈ u_ws RX12 TX12 50, goodWord w = true by decide +kernel) w h⟩
theorem cf_X12 : sw_cf 12 RX12 TX12 50 := ⟨rfl, sw_uX12, ⟨tyX12, tyX12_ok⟩, nmX12⟩
theorem fl_X3_9 : sw_fl RX3 9 3 0 (.array .int) true := ⟨RX3, TX3, 5, cf_X3, by decide, sw_m 123 (by decide +kernel) (by decide +kernel), rfl, by decide +kernel, fun _ => rfl⟩
theorem fr_X3_9 : sw_fr RX3 9 3 0 := fl_X3_9.r
theorem fl_X3_15 : sw_fl RX3 15 3 1 .int false := ⟨RX3, TX3, 5, cf_X3, by decide, sw_m 124 (by decide +kernel) (by decide +kernel), rfl, by decide +kernel, fun h => by cases h⟩
theorem fr_X3_15 : sw_fr RX3 15 3 1 := fl_X3_15.r
theorem fl_X3_19 : sw_fl RX3 19 3 2 .long false := ⟨RX3, TX3, 5, cf_X3, by decide, sw_m 125 (by decide +kernel) (by decide +kernel), rfl, by decide +kernel, fun h => by cases h⟩
theorem fr_X3_19 : sw_fr RX3 19 3 2 := fl_X3_19.r
theorem fl_X3_23 : sw_fl RX3 23 3 3 .int false := ⟨RX3, TX3, 5, cf_X3, by decide, sw_m 126 (by decide +kernel) (by decide +kernel), rfl, by decide +kernel, fun h => by cases h⟩
theorem fr_X3_23 : sw_fr RX3 23 3 3 := fl_X3_23.r
theorem fl_X3_26 : sw_fl RX3 26 3 4 .int false := ⟨RX3, TX3, 5, cf_X3, by decide, sw_m 127 (by decide +kernel) (by decide +kernel), rfl, by decide +kernel, fun h => by cases h⟩
theorem fr_X3_26 : sw_fr RX3 26 3 4 := fl_X3_26.r
theorem fl_X8_9 : sw_fl RX8 9 8 0 (.array .int) true := ⟨RX8, TX8, 4, cf_X8, by decide, sw_m 146 (by decide +kernel) (by decide +kernel), rfl, by decide +kernel, fun _ => rfl⟩
theorem fr_X8_9 : sw_fr RX8 9 8 0 := fl_X8_9.r
theorem fl_X8_15 : sw_fl RX8 15 8 1 .int false := ⟨RX8, TX8, 4, cf_X8, by decide, sw_m 147 (by decide +kernel) (by decide +kernel), rfl, by decide +kernel, fun h => by cases h⟩
theorem fr_X8_15 : sw_fr RX8 15 8 1 := fl_X8_15.r
theorem fl_X8_19 : sw_fl RX8 19 8 2 .int false := ⟨RX8, TX8, 4, cf_X8, by decide, sw_m 148 (by decide +kernel) (by decide +kernel), rfl, by decide +kernel, fun h => by cases h⟩
theorem fr_X8_19 : sw_fr RX8 19 8 2 := fl_X8_19.r
theorem fl_X8_22 : sw_fl RX8 22 8 3 .int false := ⟨RX8, TX8, 4, cf_X8, by decide, sw_m 149 (by decide +kernel) (by decide +kernel), rfl, by decide +kernel, fun h => by cases h⟩
theorem fr_X8_22 : sw_fr RX8 22 8 3 := fl_X8_22.r
theorem fl_X7_23 : sw_fl RX7 23 7 0 (.object "LabelGuard$Lattice") true := ⟨RX7, TX7, 4, cf_X7, by decide, sw_m 167 (by decide +kernel) (by decide +kernel), rfl, by decide +kernel, fun _ => rfl⟩
theorem fr_X7_23 : sw_fr RX7 23 7 0 := fl_X7_23.r
theorem fl_X7_9 : sw_fl RX7 9 7 1 (.array .int) true := ⟨RX7, TX7, 4, cf_X7, by decide, sw_m 168 (by decide +kernel) (by decide +kernel), rfl, by decide +kernel, fun _ => rfl⟩
theorem fr_X7_9 : sw_fr RX7 9 7 1 := fl_X7_9.r
theorem fl_X7_17 : sw_fl RX7 17 7 2 (.array (.array .int)) true := ⟨RX7, TX7, 4, cf_X7, by decide, sw_m 169 (by decide +kernel) (by decide +kernel), rfl, by decide +kernel, fun _ => rfl⟩
theorem fr_X7_17 : sw_fr RX7 17 7 2 := fl_X7_17.r
theorem fl_X7_20 : sw_fl RX7 20 7 3 (.array (.array .int)) true := ⟨RX7, TX7, 4, cf_X7, by decide, sw_m 170 (by decide +kernel) (by decide +kernel), rfl, by decide +kernel, fun _ => rfl⟩
theorem fr_X7_20 : sw_fr RX7 20 7 3 := fl_X7_20.r
theorem fl_X2_9 : sw_fl RX2 9 2 0 (.array .int) true := ⟨RX2, TX2, 3, cf_X2, by decide, sw_m 186 (by decide +kernel) (by decide +kernel), rfl, by decide +kernel, fun _ => rfl⟩
theorem fr_X2_9 : sw_fr RX2 9 2 0 := fl_X2_9.r
theorem fl_X2_15 : sw_fl RX2 15 2 1 .int false := ⟨RX2, TX2, 3, cf_X2, by decide, sw_m 187 (by decide +kernel) (by decide +kernel), rfl, by decide +kernel, fun h => by cases h⟩
theorem fr_X2_15 : sw_fr RX2 15 2 1 := fl_X2_15.r
theorem fl_X2_19 : sw_fl RX2 19 2 2 .int false := ⟨RX2, TX2, 3, cf_X2, by decide, sw_m 188 (by decide +kernel) (by decide +kernel), rfl, by decide +kernel, fun h => by cases h⟩
theorem fr_X2_19 : sw_fr RX2 19 2 2 := fl_X2_19.r
theorem fl_X0_9 : sw_fl RX0 9 0 0 (.array .int) true := ⟨RX0, TX0, 3, cf_X0, by decide, sw_m 202 (by decide +kernel) (by decide +kernel), rfl, by decide +kernel, fun _ => rfl⟩
theorem fr_X0_9 : sw_fr RX0 9 0 0 := fl_X0_9.r
theorem fl_X0_15 : sw_fl RX0 15 0 1 (.array .int) true := ⟨RX0, TX0, 3, cf_X0, by decide, sw_m 203 (by decide +kernel) (by decide +kernel), rfl, by decide +kernel, fun _ => rfl⟩
theorem fr_X0_15 : sw_fr RX0 15 0 1 := fl_X0_15.r
theorem fl_X0_18 : sw_fl RX0 18 0 2 .int false := ⟨RX0, TX0, 3, cf_X0, by decide, sw_m 204 (by decide +kernel) (by decide +kernel), rfl, by decide +kernel, fun h => by cases h⟩
theorem fr_X0_18 : sw_fr RX0 18 0 2 := fl_X0_18.r
theorem fl_X10_26 : sw_fl RX10 26 10 0 (.object "LabelGuard$Code") true := ⟨RX10, TX10, 5, cf_X10, by decide, sw_m 218 (by decide +kernel) (by decide +kernel), rfl, by decide +kernel, fun _ => rfl⟩
theorem fr_X10_26 : sw_fr RX10 26 10 0 := fl_X10_26.r
theorem fl_X10_9 : sw_fl RX10 9 10 1 (.array .int) true := ⟨RX10, TX10, 5, cf_X10, by decide, sw_m 219 (by decide +kernel) (by decide +kernel), rfl, by decide +kernel, fun _ => rfl⟩
theorem fr_X10_9 : sw_fr RX10 9 10 1 := fl_X10_9.r
theorem fl_X10_15 : sw_fl RX10 15 10 2 (.array .int) true := ⟨RX10, TX10, 5, cf_X10, by decide, sw_m 220 (by decide +kernel) (by decide +kernel), rfl, by decide +kernel, fun _ => rfl⟩
theorem fr_X10_15 : sw_fr RX10 15 10 2 := fl_X10_15.r
theorem fl_X10_18 : sw_fl RX10 18 10 3 (.array .boolean) true := ⟨RX10, TX10, 5, cf_X10, by decide, sw_m 221 (by decide +kernel) (by decide +kernel), rfl, by decide +kernel, fun _ => rfl⟩
theorem fr_X10_18 : sw_fr RX10 18 10 3 := fl_X10_18.r
theorem fl_X10_22 : sw_fl RX10 22 10 4 .int false := ⟨RX10, TX10, 5, cf_X10, by decide, sw_m 222 (by decide +kernel) (by decide +kernel), rfl, by decide +kernel, fun h => by cases h⟩
theorem fr_X10_22 : sw_fr RX10 22 10 4 := fl_X10_22.r
theorem fl_X5_9 : sw_fl RX5 9 5 0 (.array .long) true := ⟨RX5, TX5, 2, cf_X5, by decide, sw_m 247 (by decide +kernel) (by decide +kernel), rfl, by decide +kernel, fun _ => rfl⟩
theorem fr_X5_9 : sw_fr RX5 9 5 0 := fl_X5_9.r
theorem fl_X5_15 : sw_fl RX5 15 5 1 (.array .long) true := ⟨RX5, TX5, 2, cf_X5, by decide, sw_m 248 (by decide +kernel) (by decide +kernel), rfl, by decide +kernel, fun _ => rfl⟩
theorem fr_X5_15 : sw_fr RX5 15 5 1 := fl_X5_15.r
theorem fl_X9_29 : sw_fl RX9 29 9 0 (.object "LabelGuard$Code") true := ⟨RX9, TX9, 6, cf_X9, by decide, sw_m 255 (by decide +kernel) (by decide +kernel), rfl, by decide +kernel, fun _ => rfl⟩
theorem fr_X9_29 : sw_fr RX9 29 9 0 := fl_X9_29.r
theorem fl_X9_33 : sw_fl RX9 33 9 1 (.object "LabelGuard$Shape") true := ⟨RX9, TX9, 6, cf_X9, by decide, sw_m 256 (by decide +kernel) (by decide +kernel), rfl, by decide +kernel, fun _ => rfl⟩
theorem fr_X9_33 : sw_fr RX9 33 9 1 := fl_X9_33.r
theorem fl_X9_12 : sw_fl RX9 12 9 2 (.object "LabelGuard$Marks") true := ⟨RX9, TX9, 6, cf_X9, by decide, sw_m 257 (by decide +kernel) (by decide +kernel), rfl, by decide +kernel, fun _ => rfl⟩
theorem fr_X9_12 : sw_fr RX9 12 9 2 := fl_X9_12.r
theorem fl_X9_18 : sw_fl RX9 18 9 3 (.object "LabelGuard$Marks") true := ⟨RX9, TX9, 6, cf_X9, by decide, sw_m 258 (by decide +kernel) (by decide +kernel), rfl, by decide +kernel, fun _ => rfl⟩
theorem fr_X9_18 : sw_fr RX9 18 9 3 := fl_X9_18.r
theorem fl_X9_21 : sw_fl RX9 21 9 4 (.array .int) true := ⟨RX9, TX9, 6, cf_X9, by decide, sw_m 259 (by decide +kernel) (by decide +kernel), rfl, by decide +kernel, fun _ => rfl⟩
theorem fr_X9_21 : sw_fr RX9 21 9 4 := fl_X9_21.r
theorem fl_X9_25 : sw_fl RX9 25 9 5 .int false := ⟨RX9, TX9, 6, cf_X9, by decide, sw_m 260 (by decide +kernel) (by decide +kernel), rfl, by decide +kernel, fun h => by cases h⟩
theorem fr_X9_25 : sw_fr RX9 25 9 5 := fl_X9_25.r
theorem fl_X1_24 : sw_fl RX1 24 1 0 (.object "LabelGuard$Code") true := ⟨RX1, TX1, 7, cf_X1, by decide, sw_m 281 (by decide +kernel) (by decide +kernel), rfl, by decide +kernel, fun _ => rfl⟩
theorem fr_X1_24 : sw_fr RX1 24 1 0 := fl_X1_24.r
theorem fl_X1_28 : sw_fl RX1 28 1 1 (.object "LabelGuard$Shape") true := ⟨RX1, TX1, 7, cf_X1, by decide, sw_m 282 (by decide +kernel) (by decide +kernel), rfl, by decide +kernel, fun _ => rfl⟩
theorem fr_X1_28 : sw_fr RX1 28 1 1 := fl_X1_28.r
theorem fl_X1_32 : sw_fl RX1 32 1 2 (.object "LabelGuard$Regions") true := ⟨RX1, TX1, 7, cf_X1, by decide, sw_m 283 (by decide +kernel) (by decide +kernel), rfl, by decide +kernel, fun _ => rfl⟩
theorem fr_X1_32 : sw_fr RX1 32 1 2 := fl_X1_32.r
theorem fl_X1_36 : sw_fl RX1 36 1 3 (.object "LabelGuard$Lattice") true := ⟨RX1, TX1, 7, cf_X1, by decide, sw_m 284 (by decide +kernel) (by decide +kernel), rfl, by decide +kernel, fun _ => rfl⟩
theorem fr_X1_36 : sw_fr RX1 36 1 3 := fl_X1_36.r
theorem fl_X1_13 : sw_fl RX1 13 1 4 (.array (.array .int)) true := ⟨RX1, TX1, 7, cf_X1, by decide, sw_m 285 (by decide +kernel) (by decide +kernel), rfl, by decide +kernel, fun _ => rfl⟩
theorem fr_X1_13 : sw_fr RX1 13 1 4 := fl_X1_13.r
theorem fl_X1_16 : sw_fl RX1 16 1 5 (.array .boolean) true := ⟨RX1, TX1, 7, cf_X1, by decide, sw_m 286 (by decide +kernel) (by decide +kernel), rfl, by decide +kernel, fun _ => rfl⟩
theorem fr_X1_16 : sw_fr RX1 16 1 5 := fl_X1_16.r
theorem fl_X1_20 : sw_fl RX1 20 1 6 (.array .int) true := ⟨RX1, TX1, 7, cf_X1, by decide, sw_m 287 (by decide +kernel) (by decide +kernel), rfl, by decide +kernel, fun _ => rfl⟩
theorem fr_X1_20 : sw_fr RX1 20 1 6 := fl_X1_20.r
theorem fl_X4_22 : sw_fl RX4 22 4 0 (.object "LabelGuard$Code") true := ⟨RX4, TX4, 4, cf_X4, by decide, sw_m 309 (by decide +kernel) (by decide +kernel), rfl, by decide +kernel, fun _ => rfl⟩
theorem fr_X4_22 : sw_fr RX4 22 4 0 := fl_X4_22.r
theorem fl_X4_9 : sw_fl RX4 9 4 1 (.array .int) true := ⟨RX4, TX4, 4, cf_X4, by decide, sw_m 310 (by decide +kernel) (by decide +kernel), rfl, by decide +kernel, fun _ => rfl⟩
theorem fr_X4_9 : sw_fr RX4 9 4 1 := fl_X4_9.r
theorem fl_X4_15 : sw_fl RX4 15 4 2 (.array .int) true := ⟨RX4, TX4, 4, cf_X4, by decide, sw_m 311 (by decide +kernel) (by decide +kernel), rfl, by decide +kernel, fun _ => rfl⟩
theorem fr_X4_15 : sw_fr RX4 15 4 2 := fl_X4_15.r
theorem fl_X4_18 : sw_fl RX4 18 4 3 .int false := ⟨RX4, TX4, 4, cf_X4, by decide, sw_m 312 (by decide +kernel) (by decide +kernel), rfl, by decide +kernel, fun h => by cases h⟩
theorem fr_X4_18 : sw_fr RX4 18 4 3 := fl_X4_18.r
theorem fl_X11_10 : sw_fl RX11 10 11 0 (.object "LabelGuard$Lattice") true := ⟨RX11, TX11, 17, cf_X11, by decide, sw_m 322 (by decide +kernel) (by decide +kernel), rfl, by decide +kernel, fun _ => rfl⟩
theorem fr_X11_10 : sw_fr RX11 10 11 0 := fl_X11_10.r
theorem fl_X11_16 : sw_fl RX11 16 11 1 (.array .int) true := ⟨RX11, TX11, 17, cf_X11, by decide, sw_m 323 (by decide +kernel) (by decide +kernel), rfl, by decide +kernel, fun _ => rfl⟩
theorem fr_X11_16 : sw_fr RX11 16 11 1 := fl_X11_16.r
theorem fl_X11_20 : sw_fl RX11 20 11 2 (.array .int) true := ⟨RX11, TX11, 17, cf_X11, by decide, sw_m 324 (by decide +kernel) (by decide +kernel), rfl, by decide +kernel, fun _ => rfl⟩
theorem fr_X11_20 : sw_fr RX11 20 11 2 := fl_X11_20.r
theorem fl_X11_23 : sw_fl RX11 23 11 3 (.array .int) true := ⟨RX11, TX11, 17, cf_X11, by decide, sw_m 325 (by decide +kernel) (by decide +kernel), rfl, by decide +kernel, fun _ => rfl⟩
theorem fr_X11_23 : sw_fr RX11 23 11 3 := fl_X11_23.r
theorem fl_X11_29 : sw_fl RX11 29 11 4 (.object "LabelGuard$Reader") true := ⟨RX11, TX11, 17, cf_X11, by decide, sw_m 326 (by decide +kernel) (by decide +kernel), rfl, by decide +kernel, fun _ => rfl⟩
theorem fr_X11_29 : sw_fr RX11 29 11 4 := fl_X11_29.r
theorem fl_X11_38 : sw_fl RX11 38 11 5 (.object "LabelGuard$ProgramLabels") true := ⟨RX11, TX11, 17, cf_X11, by decide, sw_m 327 (by decide +kernel) (by decide +kernel), rfl, by decide +kernel, fun _ => rfl⟩
theorem fr_X11_38 : sw_fr RX11 38 11 5 := fl_X11_38.r
theorem fl_X11_45 : sw_fl RX11 45 11 6 (.object "LabelGuard$Follower") true := ⟨RX11, TX11, 17, cf_X11, by decide, sw_m 328 (by decide +kernel) (by decide +kernel), rfl, by decide +kernel, fun _ => rfl⟩
theorem fr_X11_45 : sw_fr RX11 45 11 6 := fl_X11_45.r
theorem fl_X11_52 : sw_fl RX11 52 11 7 (.object "LabelGuard$Code") true := ⟨RX11, TX11, 17, cf_X11, by decide, sw_m 329 (by decide +kernel) (by decide +kernel), rfl, by decide +kernel, fun _ => rfl⟩
theorem fr_X11_52 : sw_fr RX11 52 11 7 := fl_X11_52.r
theorem fl_X11_61 : sw_fl RX11 61 11 8 (.object "LabelGuard$Shape") true := ⟨RX11, TX11, 17, cf_X11, by decide, sw_m 330 (by decide +kernel) (by decide +kernel), rfl, by decide +kernel, fun _ => rfl⟩
theorem fr_X11_61 : sw_fr RX11 61 11 8 := fl_X11_61.r
theorem fl_X11_70 : sw_fl RX11 70 11 9 (.object "LabelGuard$Regions") true := ⟨RX11, TX11, 17, cf_X11, by decide, sw_m 331 (by decide +kernel) (by decide +kernel), rfl, by decide +kernel, fun _ => rfl⟩
theorem fr_X11_70 : sw_fr RX11 70 11 9 := fl_X11_70.r
theorem fl_X11_79 : sw_fl RX11 79 11 10 (.object "LabelGuard$CodeLabels") true := ⟨RX11, TX11, 17, cf_X11, by decide, sw_m 332 (by decide +kernel) (by decide +kernel), rfl, by decide +kernel, fun _ => rfl⟩
theorem fr_X11_79 : sw_fr RX11 79 11 10 := fl_X11_79.r
theorem fl_X11_86 : sw_fl RX11 86 11 11 (.object "LabelGuard$Machine") true := ⟨RX11, TX11, 17, cf_X11, by decide, sw_m 333 (by decide +kernel) (by decide +kernel), rfl, by decide +kernel, fun _ => rfl⟩
theorem fr_X11_86 : sw_fr RX11 86 11 11 := fl_X11_86.r
theorem fl_X11_90 : sw_fl RX11 90 11 12 (.object "LabelGuard$Node") false := ⟨RX11, TX11, 17, cf_X11, by decide, sw_m 334 (by decide +kernel) (by decide +kernel), rfl, by decide +kernel, fun h => by cases h⟩
theorem fr_X11_90 : sw_fr RX11 90 11 12 := fl_X11_90.r
theorem fl_X11_94 : sw_fl RX11 94 11 13 .boolean false := ⟨RX11, TX11, 17, cf_X11, by decide, sw_m 335 (by decide +kernel) (by decide +kernel), rfl, by decide +kernel, fun h => by cases h⟩
theorem fr_X11_94 : sw_fr RX11 94 11 13 := fl_X11_94.r
theorem fl_X11_98 : sw_fl RX11 98 11 14 .int false := ⟨RX11, TX11, 17, cf_X11, by decide, sw_m 336 (by decide +kernel) (by decide +kernel), rfl, by decide +kernel, fun h => by cases h⟩
theorem fr_X11_98 : sw_fr RX11 98 11 14 := fl_X11_98.r
theorem fl_X11_102 : sw_fl RX11 102 11 15 .boolean false := ⟨RX11, TX11, 17, cf_X11, by decide, sw_m 337 (by decide +kernel) (by decide +kernel), rfl, by decide +kernel, fun h => by cases h⟩
theorem fr_X11_102 : sw_fr RX11 102 11 15 := fl_X11_102.r
theorem fl_X11_105 : sw_fl RX11 105 11 16 .boolean false := ⟨RX11, TX11, 17, cf_X11, by decide, sw_m 338 (by decide +kernel) (by decide +kernel), rfl, by decide +kernel, fun h => by cases h⟩
theorem fr_X11_105 : sw_fr RX11 105 11 16 := fl_X11_105.r
theorem fl_X6_13 : sw_fl RX6 13 6 0 .int true := ⟨RX6, TX6, 6, cf_X6, by decide, sw_m 693 (by decide +kernel) (by decide +kernel), rfl, by decide +kernel, fun _ => rfl⟩
theorem fr_X6_13 : sw_fr RX6 13 6 0 := fl_X6_13.r
theorem fr_X2_41 : sw_fr RX2 41 6 0 := ⟨RX6, TX6, 6, cf_X6, by decide, sw_m 694 (by decide +kernel) (by decide +kernel)⟩
theorem fr_X7_51 : sw_fr RX7 51 6 0 := ⟨RX6, TX6, 6, cf_X6, by decide, sw_m 695 (by decide +kernel) (by decide +kernel)⟩
theorem fr_X0_46 : sw_fr RX0 46 6 0 := ⟨RX6, TX6, 6, cf_X6, by decide, sw_m 696 (by decide +kernel) (by decide +kernel)⟩
theorem fl_X6_17 : sw_fl RX6 17 6 1 .int true := ⟨RX6, TX6, 6, cf_X6, by decide, sw_m 697 (by decide +kernel) (by decide +kernel), rfl, by decide +kernel, fun _ => rfl⟩
theorem fr_X6_17 : sw_fr RX6 17 6 1 := fl_X6_17.r
theorem fr_X2_50 : sw_fr RX2 50 6 1 := ⟨RX6, TX6, 6, cf_X6, by decide, sw_m 698 (by decide +kernel) (by decide +kernel)⟩
theorem fr_X7_63 : sw_fr RX7 63 6 1 := ⟨RX6, TX6, 6, cf_X6, by decide, sw_m 699 (by decide +kernel) (by decide +kernel)⟩
theorem fr_X0_56 : sw_fr RX0 56 6 1 := ⟨RX6, TX6, 6, cf_X6, by decide, sw_m 700 (by decide +kernel) (by decide +kernel)⟩
theorem fl_X6_20 : sw_fl RX6 20 6 2 (.object "LabelGuard$Node") true := ⟨RX6, TX6, 6, cf_X6, by decide, sw_m 701 (by decide +kernel) (by decide +kernel), rfl, by decide +kernel, fun _ => rfl⟩
theorem fr_X6_20 : sw_fr RX6 20 6 2 := fl_X6_20.r
theorem fr_X2_57 : sw_fr RX2 57 6 2 := ⟨RX6, TX6, 6, cf_X6, by decide, sw_m 702 (by decide +kernel) (by decide +kernel)⟩
theorem fr_X7_66 : sw_fr RX7 66 6 2 := ⟨RX6, TX6, 6, cf_X6, by decide, sw_m 703 (by decide +kernel) (by decide +kernel)⟩
theorem fr_X0_37 : sw_fr RX0 37 6 2 := ⟨RX6, TX6, 6, cf_X6, by decide, sw_m 704 (by decide +kernel) (by decide +kernel)⟩
theorem fl_X6_23 : sw_fl RX6 23 6 3 (.object "LabelGuard$Node") true := ⟨RX6, TX6, 6, cf_X6, by decide, sw_m 705 (by decide +kernel) (by decide +kernel), rfl, by decide +kernel, fun _ => rfl⟩
theorem fr_X6_23 : sw_fr RX6 23 6 3 := fl_X6_23.r
theorem fr_X2_64 : sw_fr RX2 64 6 3 := ⟨RX6, TX6, 6, cf_X6, by decide, sw_m 706 (by decide +kernel) (by decide +kernel)⟩
theorem fr_X7_81 : sw_fr RX7 81 6 3 := ⟨RX6, TX6, 6, cf_X6, by decide, sw_m 707 (by decide +kernel) (by decide +kernel)⟩
theorem fr_X0_62 : sw_fr RX0 62 6 3 := ⟨RX6, TX6, 6, cf_X6, by decide, sw_m 708 (by decide +kernel) (by decide +kernel)⟩
theorem fl_X6_26 : sw_fl RX6 26 6 4 (.object "LabelGuard$Node") true := ⟨RX6, TX6, 6, cf_X6, by decide, sw_m 709 (by decide +kernel) (by decide +kernel), rfl, by decide +kernel, fun _ => rfl⟩
theorem fr_X6_26 : sw_fr RX6 26 6 4 := fl_X6_26.r
theorem fr_X2_67 : sw_fr RX2 67 6 4 := ⟨RX6, TX6, 6, cf_X6, by decide, sw_m 710 (by decide +kernel) (by decide +kernel)⟩
theorem fr_X7_84 : sw_fr RX7 84 6 4 := ⟨RX6, TX6, 6, cf_X6, by decide, sw_m 711 (by decide +kernel) (by decide +kernel)⟩
theorem fr_X0_69 : sw_fr RX0 69 6 4 := ⟨RX6, TX6, 6, cf_X6, by decide, sw_m 712 (by decide +kernel) (by decide +kernel)⟩
theorem fl_X6_7 : sw_fl RX6 7 6 5 (.object "LabelGuard$Node") false := ⟨RX6, TX6, 6, cf_X6, by decide, sw_m 713 (by decide +kernel) (by decide +kernel), rfl, by decide +kernel, fun h => by cases h⟩
theorem fr_X6_7 : sw_fr RX6 7 6 5 := fl_X6_7.r
theorem fl_X2_35 : sw_fl RX2 35 6 5 (.object "LabelGuard$Node") false := ⟨RX6, TX6, 6, cf_X6, by decide, sw_m 714 (by decide +kernel) (by decide +kernel), rfl, by decide +kernel, fun h => by cases h⟩
theorem fr_X2_35 : sw_fr RX2 35 6 5 := fl_X2_35.r
theorem fl_X7_78 : sw_fl RX7 78 6 5 (.object "LabelGuard$Node") false := ⟨RX6, TX6, 6, cf_X6, by decide, sw_m 715 (by decide +kernel) (by decide +kernel), rfl, by decide +kernel, fun h => by cases h⟩
theorem fr_X7_78 : sw_fr RX7 78 6 5 := fl_X7_78.r
theorem fl_X0_59 : sw_fl RX0 59 6 5 (.object "LabelGuard$Node") false := ⟨RX6, TX6, 6, cf_X6, by decide, sw_m 716 (by decide +kernel) (by decide +kernel), rfl, by decide +kernel, fun h => by cases h⟩
theorem fr_X0_59 : sw_fr RX0 59 6 5 := fl_X0_59.r
theorem fl_X8_46 : sw_fl RX8 46 6 5 (.object "LabelGuard$Node") false := ⟨RX6, TX6, 6, cf_X6, by decide, sw_m 717 (by decide +kernel) (by decide +kernel), rfl, by decide +kernel, fun h => by cases h⟩
theorem fr_X8_46 : sw_fr RX8 46 6 5 := fl_X8_46.r
theorem fl_X12_124 : sw_fl RX12 124 12 0 .int false := ⟨RX12, TX12, 50, cf_X12, by decide, sw_m 1035 (by decide +kernel) (by decide +kernel), rfl, by decide +kernel, fun h => by cases h⟩
theorem fr_X12_124 : sw_fr RX12 124 12 0 := fl_X12_124.r
theorem fl_X12_7 : sw_fl RX12 7 12 1 .int false := ⟨RX12, TX12, 50, cf_X12, by decide, sw_m 1036 (by decide +kernel) (by decide +kernel), rfl, by decide +kernel, fun h => by cases h⟩
theorem fr_X12_7 : sw_fr RX12 7 12 1 := fl_X12_7.r
theorem fl_X12_13 : sw_fl RX12 13 12 2 (.array .boolean) true := ⟨RX12, TX12, 50, cf_X12, by decide, sw_m 1037 (by decide +kernel) (by decide +kernel), rfl, by decide +kernel, fun _ => rfl⟩
theorem fr_X12_13 : sw_fr RX12 13 12 2 := fl_X12_13.r
theorem fl_X12_17 : sw_fl RX12 17 12 3 (.array .int) true := ⟨RX12, TX12, 50, cf_X12, by decide, sw_m 1038 (by decide +kernel) (by decide +kernel), rfl, by decide +kernel, fun _ => rfl⟩
theorem fr_X12_17 : sw_fr RX12 17 12 3 := fl_X12_17.r
theorem fl_X12_142 : sw_fl RX12 142 12 4 .int false := ⟨RX12, TX12, 50, cf_X12, by decide, sw_m 1039 (by decide +kernel) (by decide +kernel), rfl, by decide +kernel, fun h => by cases h⟩
theorem fr_X12_142 : sw_fr RX12 142 12 4 := fl_X12_142.r
theorem fl_X12_21 : sw_fl RX12 21 12 5 (.array .int) true := ⟨RX12, TX12, 50, cf_X12, by decide, sw_m 1040 (by decide +kernel) (by decide +kernel), rfl, by decide +kernel, fun _ => rfl⟩
theorem fr_X12_21 : sw_fr RX12 21 12 5 := fl_X12_21.r
theorem fl_X12_24 : sw_fl RX12 24 12 6 (.array .int) true := ⟨RX12, TX12, 50, cf_X12, by decide, sw_m 1041 (by decide +kernel) (by decide +kernel), rfl, by decide +kernel, fun _ => rfl⟩
theorem fr_X12_24 : sw_fr RX12 24 12 6 := fl_X12_24.r
theorem fl_X12_27 : sw_fl RX12 27 12 7 (.array .int) true := ⟨RX12, TX12, 50, cf_X12, by decide, sw_m 1042 (by decide +kernel) (by decide +kernel), rfl, by decide +kernel, fun _ => rfl⟩
theorem fr_X12_27 : sw_fr RX12 27 12 7 := fl_X12_27.r
theorem fl_X12_30 : sw_fl RX12 30 12 8 (.array .int) true := ⟨RX12, TX12, 50, cf_X12, by decide, sw_m 1043 (by decide +kernel) (by decide +kernel), rfl, by decide +kernel, fun _ => rfl⟩
theorem fr_X12_30 : sw_fr RX12 30 12 8 := fl_X12_30.r
theorem fl_X12_33 : sw_fl RX12 33 12 9 (.array .boolean) true := ⟨RX12, TX12, 50, cf_X12, by decide, sw_m 1044 (by decide +kernel) (by decide +kernel), rfl, by decide +kernel, fun _ => rfl⟩
theorem fr_X12_33 : sw_fr RX12 33 12 9 := fl_X12_33.r
theorem fl_X12_154 : sw_fl RX12 154 12 10 .int false := ⟨RX12, TX12, 50, cf_X12, by decide, sw_m 1045 (by decide +kernel) (by decide +kernel), rfl, by decide +kernel, fun h => by cases h⟩
theorem fr_X12_154 : sw_fr RX12 154 12 10 := fl_X12_154.r
theorem fl_X12_36 : sw_fl RX12 36 12 11 (.array .char) true := ⟨RX12, TX12, 50, cf_X12, by decide, sw_m 1046 (by decide +kernel) (by decide +kernel), rfl, by decide +kernel, fun _ => rfl⟩
theorem fr_X12_36 : sw_fr RX12 36 12 11 := fl_X12_36.r
theorem fl_X12_157 : sw_fl RX12 157 12 12 .int false := ⟨RX12, TX12, 50, cf_X12, by decide, sw_m 1047 (by decide +kernel) (by decide +kernel), rfl, by decide +kernel, fun h => by cases h⟩
theorem fr_X12_157 : sw_fr RX12 157 12 12 := fl_X12_157.r
theorem fl_X12_164 : sw_fl RX12 164 12 13 .int false := ⟨RX12, TX12, 50, cf_X12, by decide, sw_m 1048 (by decide +kernel) (by decide +kernel), rfl, by decide +kernel, fun h => by cases h⟩
theorem fr_X12_164 : sw_fr RX12 164 12 13 := fl_X12_164.r
theorem fl_X12_40 : sw_fl RX12 40 12 14 .int false := ⟨RX12, TX12, 50, cf_X12, by decide, sw_m 1049 (by decide +kernel) (by decide +kernel), rfl, by decide +kernel, fun h => by cases h⟩
theorem fr_X12_40 : sw_fr RX12 40 12 14 := fl_X12_40.r
theorem fl_X12_171 : sw_fl RX12 171 12 15 .int false := ⟨RX12, TX12, 50, cf_X12, by decide, sw_m 1050 (by decide +kernel) (by decide +kernel), rfl, by decide +kernel, fun h => by cases h⟩
theorem fr_X12_171 : sw_fr RX12 171 12 15 := fl_X12_171.r
theorem fl_X12_43 : sw_fl RX12 43 12 16 (.array .int) true := ⟨RX12, TX12, 50, cf_X12, by decide, sw_m 1051 (by decide +kernel) (by decide +kernel), rfl, by decide +kernel, fun _ => rfl⟩
theorem fr_X12_43 : sw_fr RX12 43 12 16 := fl_X12_43.r
theorem fl_X12_46 : sw_fl RX12 46 12 17 (.array .int) true := ⟨RX12, TX12, 50, cf_X12, by decide, sw_m 1052 (by decide +kernel) (by decide +kernel), rfl, by decide +kernel, fun _ => rfl⟩
theorem fr_X12_46 : sw_fr RX12 46 12 17 := fl_X12_46.r
theorem fl_X12_49 : sw_fl RX12 49 12 18 (.array .int) true := ⟨RX12, TX12, 50, cf_X12, by decide, sw_m 1053 (by decide +kernel) (by decide +kernel), rfl, by decide +kernel, fun _ => rfl⟩
theorem fr_X12_49 : sw_fr RX12 49 12 18 := fl_X12_49.r
theorem fl_X12_52 : sw_fl RX12 52 12 19 (.array .int) true := ⟨RX12, TX12, 50, cf_X12, by decide, sw_m 1054 (by decide +kernel) (by decide +kernel), rfl, by decide +kernel, fun _ => rfl⟩
theorem fr_X12_52 : sw_fr RX12 52 12 19 := fl_X12_52.r
theorem fl_X12_55 : sw_fl RX12 55 12 20 (.array .int) true := ⟨RX12, TX12, 50, cf_X12, by decide, sw_m 1055 (by decide +kernel) (by decide +kernel), rfl, by decide +kernel, fun _ => rfl⟩
theorem fr_X12_55 : sw_fr RX12 55 12 20 := fl_X12_55.r
theorem fl_X12_58 : sw_fl RX12 58 12 21 (.array .int) true := ⟨RX12, TX12, 50, cf_X12, by decide, sw_m 1056 (by decide +kernel) (by decide +kernel), rfl, by decide +kernel, fun _ => rfl⟩
theorem fr_X12_58 : sw_fr RX12 58 12 21 := fl_X12_58.r
theorem fl_X12_61 : sw_fl RX12 61 12 22 (.array .int) true := ⟨RX12, TX12, 50, cf_X12, by decide, sw_m 1057 (by decide +kernel) (by decide +kernel), rfl, by decide +kernel, fun _ => rfl⟩
theorem fr_X12_61 : sw_fr RX12 61 12 22 := fl_X12_61.r
theorem fl_X12_64 : sw_fl RX12 64 12 23 (.array .int) true := ⟨RX12, TX12, 50, cf_X12, by decide, sw_m 1058 (by decide +kernel) (by decide +kernel), rfl, by decide +kernel, fun _ => rfl⟩
theorem fr_X12_64 : sw_fr RX12 64 12 23 := fl_X12_64.r
theorem fl_X12_67 : sw_fl RX12 67 12 24 (.array .int) true := ⟨RX12, TX12, 50, cf_X12, by decide, sw_m 1059 (by decide +kernel) (by decide +kernel), rfl, by decide +kernel, fun _ => rfl⟩
theorem fr_X12_67 : sw_fr RX12 67 12 24 := fl_X12_67.r
theorem fl_X12_70 : sw_fl RX12 70 12 25 (.array .int) true := ⟨RX12, TX12, 50, cf_X12, by decide, sw_m 1060 (by decide +kernel) (by decide +kernel), rfl, by decide +kernel, fun _ => rfl⟩
theorem fr_X12_70 : sw_fr RX12 70 12 25 := fl_X12_70.r
theorem fl_X12_73 : sw_fl RX12 73 12 26 (.array .int) true := ⟨RX12, TX12, 50, cf_X12, by decide, sw_m 1061 (by decide +kernel) (by decide +kernel), rfl, by decide +kernel, fun _ => rfl⟩
theorem fr_X12_73 : sw_fr RX12 73 12 26 := fl_X12_73.r
theorem fl_X12_76 : sw_fl RX12 76 12 27 (.array .int) true := ⟨RX12, TX12, 50, cf_X12, by decide, sw_m 1062 (by decide +kernel) (by decide +kernel), rfl, by decide +kernel, fun _ => rfl⟩
theorem fr_X12_76 : sw_fr RX12 76 12 27 := fl_X12_76.r
theorem fl_X12_79 : sw_fl RX12 79 12 28 (.array .int) true := ⟨RX12, TX12, 50, cf_X12, by decide, sw_m 1063 (by decide +kernel) (by decide +kernel), rfl, by decide +kernel, fun _ => rfl⟩
theorem fr_X12_79 : sw_fr RX12 79 12 28 := fl_X12_79.r
theorem fl_X12_82 : sw_fl RX12 82 12 29 (.array .int) true := ⟨RX12, TX12, 50, cf_X12, by decide, sw_m 1064 (by decide +kernel) (by decide +kernel), rfl, by decide +kernel, fun _ => rfl⟩
theorem fr_X12_82 : sw_fr RX12 82 12 29 := fl_X12_82.r
theorem fl_X12_207 : sw_fl RX12 207 12 30 .boolean false := ⟨RX12, TX12, 50, cf_X12, by decide, sw_m 1065 (by decide +kernel) (by decide +kernel), rfl, by decide +kernel, fun h => by cases h⟩
theorem fr_X12_207 : sw_fr RX12 207 12 30 := fl_X12_207.r
theorem fl_X12_248 : sw_fl RX12 248 12 31 .boolean false := ⟨RX12, TX12, 50, cf_X12, by decide, sw_m 1066 (by decide +kernel) (by decide +kernel), rfl, by decide +kernel, fun h => by cases h⟩
theorem fr_X12_248 : sw_fr RX12 248 12 31 := fl_X12_248.r
theorem fl_X12_200 : sw_fl RX12 200 12 32 .int false := ⟨RX12, TX12, 50, cf_X12, by decide, sw_m 1067 (by decide +kernel) (by decide +kernel), rfl, by decide +kernel, fun h => by cases h⟩
theorem fr_X12_200 : sw_fr RX12 200 12 32 := fl_X12_200.r
theorem fl_X12_85 : sw_fl RX12 85 12 33 (.array .int) true := ⟨RX12, TX12, 50, cf_X12, by decide, sw_m 1068 (by decide +kernel) (by decide +kernel), rfl, by decide +kernel, fun _ => rfl⟩
theorem fr_X12_85 : sw_fr RX12 85 12 33 := fl_X12_85.r
theorem fl_X12_88 : sw_fl RX12 88 12 34 (.array .int) true := ⟨RX12, TX12, 50, cf_X12, by decide, sw_m 1069 (by decide +kernel) (by decide +kernel), rfl, by decide +kernel, fun _ => rfl⟩
theorem fr_X12_88 : sw_fr RX12 88 12 34 := fl_X12_88.r
theorem fl_X12_91 : sw_fl RX12 91 12 35 (.array .int) true := ⟨RX12, TX12, 50, cf_X12, by decide, sw_m 1070 (by decide +kernel) (by decide +kernel), rfl, by decide +kernel, fun _ => rfl⟩
theorem fr_X12_91 : sw_fr RX12 91 12 35 := fl_X12_91.r
theorem fl_X12_251 : sw_fl RX12 251 12 36 .int false := ⟨RX12, TX12, 50, cf_X12, by decide, sw_m 1071 (by decide +kernel) (by decide +kernel), rfl, by decide +kernel, fun h => by cases h⟩
theorem fr_X12_251 : sw_fr RX12 251 12 36 := fl_X12_251.r
theorem fl_X12_94 : sw_fl RX12 94 12 37 (.array .int) true := ⟨RX12, TX12, 50, cf_X12, by decide, sw_m 1072 (by decide +kernel) (by decide +kernel), rfl, by decide +kernel, fun _ => rfl⟩
theorem fr_X12_94 : sw_fr RX12 94 12 37 := fl_X12_94.r
theorem fl_X12_97 : sw_fl RX12 97 12 38 (.array .int) true := ⟨RX12, TX12, 50, cf_X12, by decide, sw_m 1073 (by decide +kernel) (by decide +kernel), rfl, by decide +kernel, fun _ => rfl⟩
theorem fr_X12_97 : sw_fr RX12 97 12 38 := fl_X12_97.r
theorem fl_X12_254 : sw_fl RX12 254 12 39 .boolean false := ⟨RX12, TX12, 50, cf_X12, by decide, sw_m 1074 (by decide +kernel) (by decide +kernel), rfl, by decide +kernel, fun h => by cases h⟩
theorem fr_X12_254 : sw_fr RX12 254 12 39 := fl_X12_254.r
theorem fl_X12_257 : sw_fl RX12 257 12 40 .boolean false := ⟨RX12, TX12, 50, cf_X12, by decide, sw_m 1075 (by decide +kernel) (by decide +kernel), rfl, by decide +kernel, fun h => by cases h⟩
theorem fr_X12_257 : sw_fr RX12 257 12 40 := fl_X12_257.r
theorem fl_X12_100 : sw_fl RX12 100 12 41 (.array .int) true := ⟨RX12, TX12, 50, cf_X12, by decide, sw_m 1076 (by decide +kernel) (by decide +kernel), rfl, by decide +kernel, fun _ => rfl⟩
theorem fr_X12_100 : sw_fr RX12 100 12 41 := fl_X12_100.r
theorem fl_X12_103 : sw_fl RX12 103 12 42 (.array .boolean) true := ⟨RX12, TX12, 50, cf_X12, by decide, sw_m 1077 (by decide +kernel) (by decide +kernel), rfl, by decide +kernel, fun _ => rfl⟩
theorem fr_X12_103 : sw_fr RX12 103 12 42 := fl_X12_103.r
theorem fl_X12_106 : sw_fl RX12 106 12 43 (.array .int) true := ⟨RX12, TX12, 50, cf_X12, by decide, sw_m 1078 (by decide +kernel) (by decide +kernel), rfl, by decide +kernel, fun _ => rfl⟩
theorem fr_X12_106 : sw_fr RX12 106 12 43 := fl_X12_106.r
theorem fl_X12_109 : sw_fl RX12 109 12 44 (.array .boolean) true := ⟨RX12, TX12, 50, cf_X12, by decide, sw_m 1079 (by decide +kernel) (by decide +kernel), rfl, by decide +kernel, fun _ => rfl⟩
theorem fr_X12_109 : sw_fr RX12 109 12 44 := fl_X12_109.r
theorem fl_X12_112 : sw_fl RX12 112 12 45 (.array .boolean) true := ⟨RX12, TX12, 50, cf_X12, by decide, sw_m 1080 (by decide +kernel) (by decide +kernel), rfl, by decide +kernel, fun _ => rfl⟩
theorem fr_X12_112 : sw_fr RX12 112 12 45 := fl_X12_112.r
theorem fl_X12_115 : sw_fl RX12 115 12 46 (.array .int) true := ⟨RX12, TX12, 50, cf_X12, by decide, sw_m 1081 (by decide +kernel) (by decide +kernel), rfl, by decide +kernel, fun _ => rfl⟩
theorem fr_X12_115 : sw_fr RX12 115 12 46 := fl_X12_115.r
theorem fl_X12_118 : sw_fl RX12 118 12 47 (.array .int) true := ⟨RX12, TX12, 50, cf_X12, by decide, sw_m 1082 (by decide +kernel) (by decide +kernel), rfl, by decide +kernel, fun _ => rfl⟩
theorem fr_X12_118 : sw_fr RX12 118 12 47 := fl_X12_118.r
theorem fl_X12_121 : sw_fl RX12 121 12 48 (.array .int) true := ⟨RX12, TX12, 50, cf_X12, by decide, sw_m 1083 (by decide +kernel) (by decide +kernel), rfl, by decide +kernel, fun _ => rfl⟩
theorem fr_X12_121 : sw_fr RX12 121 12 48 := fl_X12_121.r
theorem fl_X12_297 : sw_fl RX12 297 12 49 .int false := ⟨RX12, TX12, 50, cf_X12, by decide, sw_m 1084 (by decide +kernel) (by decide +kernel), rfl, by decide +kernel, fun h => by cases h⟩
theorem fr_X12_297 : sw_fr RX12 297 12 49 := fl_X12_297.r
