/-! ===== THE REFERENCE: its constructor ===== -/
def s0M : Nat → Int32 := fun i => if i = 1 then 1 else if i = 14 then -1 else 0
def A0M : Nat → Nat → Int32 := fun q => if q = 151 then upd (fun _ => 0) 0 1 else fun _ => 0
set_option maxRecDepth 100000 in
theorem c_X12_init {l : Launch} {D : va_G} {cy : Nat → ClassId} {d : Nat} {f : sw_F} (hd : 1 ≤ d) (h : f 150 = .inr (12, [.int 0, .int 0, .null, .null, .int 0, .null, .null, .null, .null, .null, .int 0, .null, .int 0, .int 0, .int 0, .int 0, .null, .null, .null, .null, .null, .null, .null, .null, .null, .null, .null, .null, .null, .null, .int 0, .int 0, .int 0, .null, .null, .null, .int 0, .null, .null, .int 0, .int 0, .null, .null, .null, .null, .null, .null, .null, .null, .int 0])) : sw_Ct l D cy mX12_init d 35 17180 [.ref 150] 151 f (fun r n' f' => r = none ∧ n' = 186 ∧ (∀ i, i < 150 → f' i = f i) ∧ f' = md f' s0M A0M) := by
  refine sw_of rfl (Nat.le_of_ble_eq_true rfl) ?_
  show SW l D cy mX12_init d 35 17180 0 0 0 [(0, .ref 150)] [] 151 f _ _
  refine sw_aload_n dX12_init_0 rfl (by first | rfl | assumption) ?_
  refine sw_obj dX12_init_1 k_X12_1 k_obj2 k_obj3 (by omega) (Nat.le_of_ble_eq_true rfl) ?_
  refine sw_aload_n dX12_init_4 rfl (by first | rfl | assumption) ?_
  refine sw_iconst (x := 1) dX12_init_5 (by decide) ?_
  refine sw_put dX12_init_6 fl_X12_7 (by first | exact h | rfl) (by decide) (sw_fit_i _) ?_
  refine sw_aload_n dX12_init_9 rfl (by first | rfl | assumption) ?_
  refine sw_bipush (x := 36) dX12_init_10 (by decide) ?_
  refine sw_newZ 36 dX12_init_12 k_arr_boolean (by decide) (by decide) (by decide) (by omega) (by omega) ?_
  refine sw_putF dX12_init_14 fl_X12_13 rfl (by first | exact h | rfl) (by decide) (sw_fit_ar rfl) ?_
  refine sw_aload_n dX12_init_17 rfl (by first | rfl | assumption) ?_
  refine sw_bipush (x := 36) dX12_init_18 (by decide) ?_
  refine sw_newI 36 dX12_init_20 k_arr_int (by decide) (by decide) (by decide) (by omega) (by omega) ?_
  refine sw_putF dX12_init_22 fl_X12_17 rfl (by first | exact h | rfl) (by decide) (sw_fit_ar rfl) ?_
  refine sw_aload_n dX12_init_25 rfl (by first | rfl | assumption) ?_
  refine sw_bipush (x := 8) dX12_init_26 (by decide) ?_
  refine sw_newI 8 dX12_init_28 k_arr_int (by decide) (by decide) (by decide) (by omega) (by omega) ?_
  refine sw_putF dX12_init_30 fl_X12_21 rfl (by first | exact h | rfl) (by decide) (sw_fit_ar rfl) ?_
  refine sw_aload_n dX12_init_33 rfl (by first | rfl | assumption) ?_
  refine sw_bipush (x := 8) dX12_init_34 (by decide) ?_
  refine sw_newI 8 dX12_init_36 k_arr_int (by decide) (by decide) (by decide) (by omega) (by omega) ?_
  refine sw_putF dX12_init_38 fl_X12_24 rfl (by first | exact h | rfl) (by decide) (sw_fit_ar rfl) ?_
  refine sw_aload_n dX12_init_41 rfl (by first | rfl | assumption) ?_
  refine sw_bipush (x := 8) dX12_init_42 (by decide) ?_
  refine sw_newI 8 dX12_init_44 k_arr_int (by decide) (by decide) (by decide) (by omega) (by omega) ?_
  refine sw_putF dX12_init_46 fl_X12_27 rfl (by first | exact h | rfl) (by decide) (sw_fit_ar rfl) ?_
  refine sw_aload_n dX12_init_49 rfl (by first | rfl | assumption) ?_
  refine sw_bipush (x := 8) dX12_init_50 (by decide) ?_
  refine sw_newI 8 dX12_init_52 k_arr_int (by decide) (by decide) (by decide) (by omega) (by omega) ?_
  refine sw_putF dX12_init_54 fl_X12_30 rfl (by first | exact h | rfl) (by decide) (sw_fit_ar rfl) ?_
  refine sw_aload_n dX12_init_57 rfl (by first | rfl | assumption) ?_
  refine sw_bipush (x := 36) dX12_init_58 (by decide) ?_
  refine sw_newZ 36 dX12_init_60 k_arr_boolean (by decide) (by decide) (by decide) (by omega) (by omega) ?_
  refine sw_putF dX12_init_62 fl_X12_33 rfl (by first | exact h | rfl) (by decide) (sw_fit_ar rfl) ?_
  refine sw_aload_n dX12_init_65 rfl (by first | rfl | assumption) ?_
  refine sw_bipush (x := 72) dX12_init_66 (by decide) ?_
  refine sw_newC 72 dX12_init_68 k_arr_char (by decide) (by decide) (by decide) (by omega) (by omega) ?_
  refine sw_putF dX12_init_70 fl_X12_36 rfl (by first | exact h | rfl) (by decide) (sw_fit_ar rfl) ?_
  refine sw_aload_n dX12_init_73 rfl (by first | rfl | assumption) ?_
  refine sw_iconst (x := (-1)) dX12_init_74 (by decide) ?_
  refine sw_put dX12_init_75 fl_X12_40 (by first | exact h | rfl) (by decide) (sw_fit_i _) ?_
  refine sw_aload_n dX12_init_78 rfl (by first | rfl | assumption) ?_
  refine sw_sipush (x := 160) dX12_init_79 (by decide) ?_
  refine sw_newI 160 dX12_init_82 k_arr_int (by decide) (by decide) (by decide) (by omega) (by omega) ?_
  refine sw_putF dX12_init_84 fl_X12_43 rfl (by first | exact h | rfl) (by decide) (sw_fit_ar rfl) ?_
  refine sw_aload_n dX12_init_87 rfl (by first | rfl | assumption) ?_
  refine sw_sipush (x := 160) dX12_init_88 (by decide) ?_
  refine sw_newI 160 dX12_init_91 k_arr_int (by decide) (by decide) (by decide) (by omega) (by omega) ?_
  refine sw_putF dX12_init_93 fl_X12_46 rfl (by first | exact h | rfl) (by decide) (sw_fit_ar rfl) ?_
  refine sw_aload_n dX12_init_96 rfl (by first | rfl | assumption) ?_
  refine sw_sipush (x := 160) dX12_init_97 (by decide) ?_
  refine sw_newI 160 dX12_init_100 k_arr_int (by decide) (by decide) (by decide) (by omega) (by omega) ?_
  refine sw_putF dX12_init_102 fl_X12_49 rfl (by first | exact h | rfl) (by decide) (sw_fit_ar rfl) ?_
  refine sw_aload_n dX12_init_105 rfl (by first | rfl | assumption) ?_
  refine sw_sipush (x := 160) dX12_init_106 (by decide) ?_
  refine sw_newI 160 dX12_init_109 k_arr_int (by decide) (by decide) (by decide) (by omega) (by omega) ?_
  refine sw_putF dX12_init_111 fl_X12_52 rfl (by first | exact h | rfl) (by decide) (sw_fit_ar rfl) ?_
  refine sw_aload_n dX12_init_114 rfl (by first | rfl | assumption) ?_
  refine sw_sipush (x := 160) dX12_init_115 (by decide) ?_
  refine sw_newI 160 dX12_init_118 k_arr_int (by decide) (by decide) (by decide) (by omega) (by omega) ?_
  refine sw_putF dX12_init_120 fl_X12_55 rfl (by first | exact h | rfl) (by decide) (sw_fit_ar rfl) ?_
  refine sw_aload_n dX12_init_123 rfl (by first | rfl | assumption) ?_
  refine sw_sipush (x := 160) dX12_init_124 (by decide) ?_
  refine sw_newI 160 dX12_init_127 k_arr_int (by decide) (by decide) (by decide) (by omega) (by omega) ?_
  refine sw_putF dX12_init_129 fl_X12_58 rfl (by first | exact h | rfl) (by decide) (sw_fit_ar rfl) ?_
  refine sw_aload_n dX12_init_132 rfl (by first | rfl | assumption) ?_
  refine sw_sipush (x := 160) dX12_init_133 (by decide) ?_
  refine sw_newI 160 dX12_init_136 k_arr_int (by decide) (by decide) (by decide) (by omega) (by omega) ?_
  refine sw_putF dX12_init_138 fl_X12_61 rfl (by first | exact h | rfl) (by decide) (sw_fit_ar rfl) ?_
  refine sw_aload_n dX12_init_141 rfl (by first | rfl | assumption) ?_
  refine sw_sipush (x := 160) dX12_init_142 (by decide) ?_
  refine sw_newI 160 dX12_init_145 k_arr_int (by decide) (by decide) (by decide) (by omega) (by omega) ?_
  refine sw_putF dX12_init_147 fl_X12_64 rfl (by first | exact h | rfl) (by decide) (sw_fit_ar rfl) ?_
  refine sw_aload_n dX12_init_150 rfl (by first | rfl | assumption) ?_
  refine sw_sipush (x := 160) dX12_init_151 (by decide) ?_
  refine sw_newI 160 dX12_init_154 k_arr_int (by decide) (by decide) (by decide) (by omega) (by omega) ?_
  refine sw_putF dX12_init_156 fl_X12_67 rfl (by first | exact h | rfl) (by decide) (sw_fit_ar rfl) ?_
  refine sw_aload_n dX12_init_159 rfl (by first | rfl | assumption) ?_
  refine sw_sipush (x := 160) dX12_init_160 (by decide) ?_
  refine sw_newI 160 dX12_init_163 k_arr_int (by decide) (by decide) (by decide) (by omega) (by omega) ?_
  refine sw_putF dX12_init_165 fl_X12_70 rfl (by first | exact h | rfl) (by decide) (sw_fit_ar rfl) ?_
  refine sw_aload_n dX12_init_168 rfl (by first | rfl | assumption) ?_
  refine sw_sipush (x := 1280) dX12_init_169 (by decide) ?_
  refine sw_newI 1280 dX12_init_172 k_arr_int (by decide) (by decide) (by decide) (by omega) (by omega) ?_
  refine sw_putF dX12_init_174 fl_X12_73 rfl (by first | exact h | rfl) (by decide) (sw_fit_ar rfl) ?_
  refine sw_aload_n dX12_init_177 rfl (by first | rfl | assumption) ?_
  refine sw_sipush (x := 1280) dX12_init_178 (by decide) ?_
  refine sw_newI 1280 dX12_init_181 k_arr_int (by decide) (by decide) (by decide) (by omega) (by omega) ?_
  refine sw_putF dX12_init_183 fl_X12_76 rfl (by first | exact h | rfl) (by decide) (sw_fit_ar rfl) ?_
  refine sw_aload_n dX12_init_186 rfl (by first | rfl | assumption) ?_
  refine sw_sipush (x := 160) dX12_init_187 (by decide) ?_
  refine sw_newI 160 dX12_init_190 k_arr_int (by decide) (by decide) (by decide) (by omega) (by omega) ?_
  refine sw_putF dX12_init_192 fl_X12_79 rfl (by first | exact h | rfl) (by decide) (sw_fit_ar rfl) ?_
  refine sw_aload_n dX12_init_195 rfl (by first | rfl | assumption) ?_
  refine sw_bipush (x := 8) dX12_init_196 (by decide) ?_
  refine sw_newI 8 dX12_init_198 k_arr_int (by decide) (by decide) (by decide) (by omega) (by omega) ?_
  refine sw_putF dX12_init_200 fl_X12_82 rfl (by first | exact h | rfl) (by decide) (sw_fit_ar rfl) ?_
  refine sw_aload_n dX12_init_203 rfl (by first | rfl | assumption) ?_
  refine sw_bipush (x := 100) dX12_init_204 (by decide) ?_
  refine sw_newI 100 dX12_init_206 k_arr_int (by decide) (by decide) (by decide) (by omega) (by omega) ?_
  refine sw_putF dX12_init_208 fl_X12_85 rfl (by first | exact h | rfl) (by decide) (sw_fit_ar rfl) ?_
  refine sw_aload_n dX12_init_211 rfl (by first | rfl | assumption) ?_
  refine sw_bipush (x := 100) dX12_init_212 (by decide) ?_
  refine sw_newI 100 dX12_init_214 k_arr_int (by decide) (by decide) (by decide) (by omega) (by omega) ?_
  refine sw_putF dX12_init_216 fl_X12_88 rfl (by first | exact h | rfl) (by decide) (sw_fit_ar rfl) ?_
  refine sw_aload_n dX12_init_219 rfl (by first | rfl | assumption) ?_
  refine sw_bipush (x := 8) dX12_init_220 (by decide) ?_
  refine sw_newI 8 dX12_init_222 k_arr_int (by decide) (by decide) (by decide) (by omega) (by omega) ?_
  refine sw_putF dX12_init_224 fl_X12_91 rfl (by first | exact h | rfl) (by decide) (sw_fit_ar rfl) ?_
  refine sw_aload_n dX12_init_227 rfl (by first | rfl | assumption) ?_
  refine sw_bipush (x := 100) dX12_init_228 (by decide) ?_
  refine sw_newI 100 dX12_init_230 k_arr_int (by decide) (by decide) (by decide) (by omega) (by omega) ?_
  refine sw_putF dX12_init_232 fl_X12_94 rfl (by first | exact h | rfl) (by decide) (sw_fit_ar rfl) ?_
  refine sw_aload_n dX12_init_235 rfl (by first | rfl | assumption) ?_
  refine sw_bipush (x := 100) dX12_init_236 (by decide) ?_
  refine sw_newI 100 dX12_init_238 k_arr_int (by decide) (by decide) (by decide) (by omega) (by omega) ?_
  refine sw_putF dX12_init_240 fl_X12_97 rfl (by first | exact h | rfl) (by decide) (sw_fit_ar rfl) ?_
  refine sw_aload_n dX12_init_243 rfl (by first | rfl | assumption) ?_
  refine sw_bipush (x := 100) dX12_init_244 (by decide) ?_
  refine sw_newI 100 dX12_init_246 k_arr_int (by decide) (by decide) (by decide) (by omega) (by omega) ?_
  refine sw_putF dX12_init_248 fl_X12_100 rfl (by first | exact h | rfl) (by decide) (sw_fit_ar rfl) ?_
  refine sw_aload_n dX12_init_251 rfl (by first | rfl | assumption) ?_
  refine sw_bipush (x := 100) dX12_init_252 (by decide) ?_
  refine sw_newZ 100 dX12_init_254 k_arr_boolean (by decide) (by decide) (by decide) (by omega) (by omega) ?_
  refine sw_putF dX12_init_256 fl_X12_103 rfl (by first | exact h | rfl) (by decide) (sw_fit_ar rfl) ?_
  refine sw_aload_n dX12_init_259 rfl (by first | rfl | assumption) ?_
  refine sw_sipush (x := 220) dX12_init_260 (by decide) ?_
  refine sw_newI 220 dX12_init_263 k_arr_int (by decide) (by decide) (by decide) (by omega) (by omega) ?_
  refine sw_putF dX12_init_265 fl_X12_106 rfl (by first | exact h | rfl) (by decide) (sw_fit_ar rfl) ?_
  refine sw_aload_n dX12_init_268 rfl (by first | rfl | assumption) ?_
  refine sw_sipush (x := 10000) dX12_init_269 (by decide) ?_
  refine sw_newZ 10000 dX12_init_272 k_arr_boolean (by decide) (by decide) (by decide) (by omega) (by omega) ?_
  refine sw_putF dX12_init_274 fl_X12_109 rfl (by first | exact h | rfl) (by decide) (sw_fit_ar rfl) ?_
  refine sw_aload_n dX12_init_277 rfl (by first | rfl | assumption) ?_
  refine sw_bipush (x := 100) dX12_init_278 (by decide) ?_
  refine sw_newZ 100 dX12_init_280 k_arr_boolean (by decide) (by decide) (by decide) (by omega) (by omega) ?_
  refine sw_putF dX12_init_282 fl_X12_112 rfl (by first | exact h | rfl) (by decide) (sw_fit_ar rfl) ?_
  refine sw_aload_n dX12_init_285 rfl (by first | rfl | assumption) ?_
  refine sw_sipush (x := 1600) dX12_init_286 (by decide) ?_
  refine sw_newI 1600 dX12_init_289 k_arr_int (by decide) (by decide) (by decide) (by omega) (by omega) ?_
  refine sw_putF dX12_init_291 fl_X12_115 rfl (by first | exact h | rfl) (by decide) (sw_fit_ar rfl) ?_
  refine sw_aload_n dX12_init_294 rfl (by first | rfl | assumption) ?_
  refine sw_bipush (x := 100) dX12_init_295 (by decide) ?_
  refine sw_newI 100 dX12_init_297 k_arr_int (by decide) (by decide) (by decide) (by omega) (by omega) ?_
  refine sw_putF dX12_init_299 fl_X12_118 rfl (by first | exact h | rfl) (by decide) (sw_fit_ar rfl) ?_
  refine sw_aload_n dX12_init_302 rfl (by first | rfl | assumption) ?_
  refine sw_bipush (x := 12) dX12_init_303 (by decide) ?_
  refine sw_newI 12 dX12_init_305 k_arr_int (by decide) (by decide) (by decide) (by omega) (by omega) ?_
  refine sw_putF dX12_init_307 fl_X12_121 rfl (by first | exact h | rfl) (by decide) (sw_fit_ar rfl) ?_
  refine sw_aload_n dX12_init_310 rfl (by first | rfl | assumption) ?_
  refine sw_get dX12_init_311 fr_X12_13 (by first | exact h | rfl) rfl ?_
  refine sw_iconst (x := 0) dX12_init_314 (by decide) ?_
  refine sw_iconst (x := 1) dX12_init_315 (by decide) ?_
  refine sw_zast dX12_init_316 (by first | exact h | rfl) (by unfold vp_in; decide) ?_
  refine sw_vret dX12_init_317 rfl (by omega) (by omega) ?_
  refine ⟨rfl, rfl, ?_, ?_⟩
  · repeat (first | exact fun _ _ => rfl | refine fr_up ?_ (by omega))
  · funext i
    by_cases c : 150 ≤ i ∧ i ≤ 185
    · rcases (show i = 150 ∨ i = 151 ∨ i = 152 ∨ i = 153 ∨ i = 154 ∨ i = 155 ∨ i = 156 ∨ i = 157 ∨ i = 158 ∨ i = 159 ∨ i = 160 ∨ i = 161 ∨ i = 162 ∨ i = 163 ∨ i = 164 ∨ i = 165 ∨ i = 166 ∨ i = 167 ∨ i = 168 ∨ i = 169 ∨ i = 170 ∨ i = 171 ∨ i = 172 ∨ i = 173 ∨ i = 174 ∨ i = 175 ∨ i = 176 ∨ i = 177 ∨ i = 178 ∨ i = 179 ∨ i = 180 ∨ i = 181 ∨ i = 182 ∨ i = 183 ∨ i = 184 ∨ i = 185 by omega) with rfl | rfl | rfl | rfl | rfl | rfl | rfl | rfl | rfl | rfl | rfl | rfl | rfl | rfl | rfl | rfl | rfl | rfl | rfl | rfl | rfl | rfl | rfl | rfl | rfl | rfl | rfl | rfl | rfl | rfl | rfl | rfl | rfl | rfl | rfl | rfl <;> rfl
    · unfold md
      rw [if_neg (by omega), if_neg (by omega)]
