set_option maxRecDepth 100000 in
theorem okq_222_0 : ((pk222.drop 0).take 24).all (okQ 222) = true := by decide +kernel
set_option maxRecDepth 100000 in
theorem okq_222_1 : ((pk222.drop 24).take 24).all (okQ 222) = true := by decide +kernel
set_option maxRecDepth 100000 in
theorem okm_222 : okM 222 = true := okM_of (k := 2) (tb := pk222) rfl (by decide +kernel) (fun i hi => by
  by_cases h0 : i = 0
  · subst h0; exact okq_222_0
  by_cases h1 : i = 1
  · subst h1; exact okq_222_1
  omega) (Nat.le_of_ble_eq_true rfl)
set_option maxRecDepth 100000 in
theorem okq_223_0 : ((pk223.drop 0).take 24).all (okQ 223) = true := by decide +kernel
set_option maxRecDepth 100000 in
theorem okm_223 : okM 223 = true := okM_of (k := 1) (tb := pk223) rfl (by decide +kernel) (fun i hi => by
  by_cases h0 : i = 0
  · subst h0; exact okq_223_0
  omega) (Nat.le_of_ble_eq_true rfl)
set_option maxRecDepth 100000 in
theorem okq_224_0 : ((pk224.drop 0).take 24).all (okQ 224) = true := by decide +kernel
set_option maxRecDepth 100000 in
theorem okq_224_1 : ((pk224.drop 24).take 24).all (okQ 224) = true := by decide +kernel
set_option maxRecDepth 100000 in
theorem okm_224 : okM 224 = true := okM_of (k := 2) (tb := pk224) rfl (by decide +kernel) (fun i hi => by
  by_cases h0 : i = 0
  · subst h0; exact okq_224_0
  by_cases h1 : i = 1
  · subst h1; exact okq_224_1
  omega) (Nat.le_of_ble_eq_true rfl)
set_option maxRecDepth 100000 in
theorem okq_225_0 : ((pk225.drop 0).take 24).all (okQ 225) = true := by decide +kernel
set_option maxRecDepth 100000 in
theorem okq_225_1 : ((pk225.drop 24).take 24).all (okQ 225) = true := by decide +kernel
set_option maxRecDepth 100000 in
theorem okq_225_2 : ((pk225.drop 48).take 24).all (okQ 225) = true := by decide +kernel
set_option maxRecDepth 100000 in
theorem okq_225_3 : ((pk225.drop 72).take 24).all (okQ 225) = true := by decide +kernel
set_option maxRecDepth 100000 in
theorem okm_225 : okM 225 = true := okM_of (k := 4) (tb := pk225) rfl (by decide +kernel) (fun i hi => by
  by_cases h0 : i = 0
  · subst h0; exact okq_225_0
  by_cases h1 : i = 1
  · subst h1; exact okq_225_1
  by_cases h2 : i = 2
  · subst h2; exact okq_225_2
  by_cases h3 : i = 3
  · subst h3; exact okq_225_3
  omega) (Nat.le_of_ble_eq_true rfl)
set_option maxRecDepth 100000 in
theorem okq_226_0 : ((pk226.drop 0).take 24).all (okQ 226) = true := by decide +kernel
set_option maxRecDepth 100000 in
theorem okq_226_1 : ((pk226.drop 24).take 24).all (okQ 226) = true := by decide +kernel
set_option maxRecDepth 100000 in
theorem okm_226 : okM 226 = true := okM_of (k := 2) (tb := pk226) rfl (by decide +kernel) (fun i hi => by
  by_cases h0 : i = 0
  · subst h0; exact okq_226_0
  by_cases h1 : i = 1
  · subst h1; exact okq_226_1
  omega) (Nat.le_of_ble_eq_true rfl)
set_option maxRecDepth 100000 in
theorem okq_227_0 : ((pk227.drop 0).take 24).all (okQ 227) = true := by decide +kernel
set_option maxRecDepth 100000 in
theorem okm_227 : okM 227 = true := okM_of (k := 1) (tb := pk227) rfl (by decide +kernel) (fun i hi => by
  by_cases h0 : i = 0
  · subst h0; exact okq_227_0
  omega) (Nat.le_of_ble_eq_true rfl)
set_option maxRecDepth 100000 in
theorem okq_228_0 : ((pk228.drop 0).take 24).all (okQ 228) = true := by decide +kernel
set_option maxRecDepth 100000 in
theorem okq_228_1 : ((pk228.drop 24).take 24).all (okQ 228) = true := by decide +kernel
set_option maxRecDepth 100000 in
theorem okq_228_2 : ((pk228.drop 48).take 24).all (okQ 228) = true := by decide +kernel
set_option maxRecDepth 100000 in
theorem okq_228_3 : ((pk228.drop 72).take 24).all (okQ 228) = true := by decide +kernel
set_option maxRecDepth 100000 in
theorem okq_228_4 : ((pk228.drop 96).take 24).all (okQ 228) = true := by decide +kernel
set_option maxRecDepth 100000 in
theorem okq_228_5 : ((pk228.drop 120).take 24).all (okQ 228) = true := by decide +kernel
set_option maxRecDepth 100000 in
theorem okq_228_6 : ((pk228.drop 144).take 24).all (okQ 228) = true := by decide +kernel
set_option maxRecDepth 100000 in
theorem okq_228_7 : ((pk228.drop 168).take 24).all (okQ 228) = true := by decide +kernel
set_option maxRecDepth 100000 in
theorem okq_228_8 : ((pk228.drop 192).take 24).all (okQ 228) = true := by decide +kernel
set_option maxRecDepth 100000 in
theorem okq_228_9 : ((pk228.drop 216).take 24).all (okQ 228) = true := by decide +kernel
set_option maxRecDepth 100000 in
theorem okq_228_10 : ((pk228.drop 240).take 24).all (okQ 228) = true := by decide +kernel
set_option maxRecDepth 100000 in
theorem okq_228_11 : ((pk228.drop 264).take 24).all (okQ 228) = true := by decide +kernel
set_option maxRecDepth 100000 in
theorem okm_228 : okM 228 = true := okM_of (k := 12) (tb := pk228) rfl (by decide +kernel) (fun i hi => by
  by_cases h0 : i = 0
  · subst h0; exact okq_228_0
  by_cases h1 : i = 1
  · subst h1; exact okq_228_1
  by_cases h2 : i = 2
  · subst h2; exact okq_228_2
  by_cases h3 : i = 3
  · subst h3; exact okq_228_3
  by_cases h4 : i = 4
  · subst h4; exact okq_228_4
  by_cases h5 : i = 5
  · subst h5; exact okq_228_5
  by_cases h6 : i = 6
  · subst h6; exact okq_228_6
  by_cases h7 : i = 7
  · subst h7; exact okq_228_7
  by_cases h8 : i = 8
  · subst h8; exact okq_228_8
  by_cases h9 : i = 9
  · subst h9; exact okq_228_9
  by_cases h10 : i = 10
  · subst h10; exact okq_228_10
  by_cases h11 : i = 11
  · subst h11; exact okq_228_11
  omega) (Nat.le_of_ble_eq_true rfl)
set_option maxRecDepth 100000 in
theorem okq_229_0 : ((pk229.drop 0).take 24).all (okQ 229) = true := by decide +kernel
set_option maxRecDepth 100000 in
theorem okm_229 : okM 229 = true := okM_of (k := 1) (tb := pk229) rfl (by decide +kernel) (fun i hi => by
  by_cases h0 : i = 0
  · subst h0; exact okq_229_0
  omega) (Nat.le_of_ble_eq_true rfl)
set_option maxRecDepth 100000 in
theorem okq_230_0 : ((pk230.drop 0).take 24).all (okQ 230) = true := by decide +kernel
set_option maxRecDepth 100000 in
theorem okm_230 : okM 230 = true := okM_of (k := 1) (tb := pk230) rfl (by decide +kernel) (fun i hi => by
  by_cases h0 : i = 0
  · subst h0; exact okq_230_0
  omega) (Nat.le_of_ble_eq_true rfl)
set_option maxRecDepth 100000 in
theorem okq_231_0 : ((pk231.drop 0).take 24).all (okQ 231) = true := by decide +kernel
set_option maxRecDepth 100000 in
theorem okm_231 : okM 231 = true := okM_of (k := 1) (tb := pk231) rfl (by decide +kernel) (fun i hi => by
  by_cases h0 : i = 0
  · subst h0; exact okq_231_0
  omega) (Nat.le_of_ble_eq_true rfl)
set_option maxRecDepth 100000 in
theorem okq_232_0 : ((pk232.drop 0).take 24).all (okQ 232) = true := by decide +kernel
set_option maxRecDepth 100000 in
theorem okm_232 : okM 232 = true := okM_of (k := 1) (tb := pk232) rfl (by decide +kernel) (fun i hi => by
  by_cases h0 : i = 0
  · subst h0; exact okq_232_0
  omega) (Nat.le_of_ble_eq_true rfl)
set_option maxRecDepth 100000 in
theorem okq_233_0 : ((pk233.drop 0).take 24).all (okQ 233) = true := by decide +kernel
set_option maxRecDepth 100000 in
theorem okm_233 : okM 233 = true := okM_of (k := 1) (tb := pk233) rfl (by decide +kernel) (fun i hi => by
  by_cases h0 : i = 0
  · subst h0; exact okq_233_0
  omega) (Nat.le_of_ble_eq_true rfl)
set_option maxRecDepth 100000 in
theorem okq_234_0 : ((pk234.drop 0).take 24).all (okQ 234) = true := by decide +kernel
set_option maxRecDepth 100000 in
theorem okm_234 : okM 234 = true := okM_of (k := 1) (tb := pk234) rfl (by decide +kernel) (fun i hi => by
  by_cases h0 : i = 0
  · subst h0; exact okq_234_0
  omega) (Nat.le_of_ble_eq_true rfl)
set_option maxRecDepth 100000 in
theorem okq_235_0 : ((pk235.drop 0).take 24).all (okQ 235) = true := by decide +kernel
set_option maxRecDepth 100000 in
theorem okm_235 : okM 235 = true := okM_of (k := 1) (tb := pk235) rfl (by decide +kernel) (fun i hi => by
  by_cases h0 : i = 0
  · subst h0; exact okq_235_0
  omega) (Nat.le_of_ble_eq_true rfl)
set_option maxRecDepth 100000 in
theorem okq_236_0 : ((pk236.drop 0).take 24).all (okQ 236) = true := by decide +kernel
set_option maxRecDepth 100000 in
theorem okm_236 : okM 236 = true := okM_of (k := 1) (tb := pk236) rfl (by decide +kernel) (fun i hi => by
  by_cases h0 : i = 0
  · subst h0; exact okq_236_0
  omega) (Nat.le_of_ble_eq_true rfl)
set_option maxRecDepth 100000 in
theorem okq_237_0 : ((pk237.drop 0).take 24).all (okQ 237) = true := by decide +kernel
set_option maxRecDepth 100000 in
theorem okm_237 : okM 237 = true := okM_of (k := 1) (tb := pk237) rfl (by decide +kernel) (fun i hi => by
  by_cases h0 : i = 0
  · subst h0; exact okq_237_0
  omega) (Nat.le_of_ble_eq_true rfl)
set_option maxRecDepth 100000 in
theorem okq_238_0 : ((pk238.drop 0).take 24).all (okQ 238) = true := by decide +kernel
set_option maxRecDepth 100000 in
theorem okq_238_1 : ((pk238.drop 24).take 24).all (okQ 238) = true := by decide +kernel
set_option maxRecDepth 100000 in
theorem okm_238 : okM 238 = true := okM_of (k := 2) (tb := pk238) rfl (by decide +kernel) (fun i hi => by
  by_cases h0 : i = 0
  · subst h0; exact okq_238_0
  by_cases h1 : i = 1
  · subst h1; exact okq_238_1
  omega) (Nat.le_of_ble_eq_true rfl)
set_option maxRecDepth 100000 in
theorem okq_239_0 : ((pk239.drop 0).take 24).all (okQ 239) = true := by decide +kernel
set_option maxRecDepth 100000 in
theorem okm_239 : okM 239 = true := okM_of (k := 1) (tb := pk239) rfl (by decide +kernel) (fun i hi => by
  by_cases h0 : i = 0
  · subst h0; exact okq_239_0
  omega) (Nat.le_of_ble_eq_true rfl)
set_option maxRecDepth 100000 in
theorem okq_240_0 : ((pk240.drop 0).take 24).all (okQ 240) = true := by decide +kernel
set_option maxRecDepth 100000 in
theorem okm_240 : okM 240 = true := okM_of (k := 1) (tb := pk240) rfl (by decide +kernel) (fun i hi => by
  by_cases h0 : i = 0
  · subst h0; exact okq_240_0
  omega) (Nat.le_of_ble_eq_true rfl)
set_option maxRecDepth 100000 in
theorem okq_241_0 : ((pk241.drop 0).take 24).all (okQ 241) = true := by decide +kernel
set_option maxRecDepth 100000 in
theorem okm_241 : okM 241 = true := okM_of (k := 1) (tb := pk241) rfl (by decide +kernel) (fun i hi => by
  by_cases h0 : i = 0
  · subst h0; exact okq_241_0
  omega) (Nat.le_of_ble_eq_true rfl)
set_option maxRecDepth 100000 in
theorem okq_242_0 : ((pk242.drop 0).take 24).all (okQ 242) = true := by decide +kernel
set_option maxRecDepth 100000 in
theorem okm_242 : okM 242 = true := okM_of (k := 1) (tb := pk242) rfl (by decide +kernel) (fun i hi => by
  by_cases h0 : i = 0
  · subst h0; exact okq_242_0
  omega) (Nat.le_of_ble_eq_true rfl)
set_option maxRecDepth 100000 in
theorem okq_243_0 : ((pk243.drop 0).take 24).all (okQ 243) = true := by decide +kernel
set_option maxRecDepth 100000 in
theorem okm_243 : okM 243 = true := okM_of (k := 1) (tb := pk243) rfl (by decide +kernel) (fun i hi => by
  by_cases h0 : i = 0
  · subst h0; exact okq_243_0
  omega) (Nat.le_of_ble_eq_true rfl)
set_option maxRecDepth 100000 in
theorem okq_244_0 : ((pk244.drop 0).take 24).all (okQ 244) = true := by decide +kernel
set_option maxRecDepth 100000 in
theorem okm_244 : okM 244 = true := okM_of (k := 1) (tb := pk244) rfl (by decide +kernel) (fun i hi => by
  by_cases h0 : i = 0
  · subst h0; exact okq_244_0
  omega) (Nat.le_of_ble_eq_true rfl)
set_option maxRecDepth 100000 in
theorem okq_245_0 : ((pk245.drop 0).take 24).all (okQ 245) = true := by decide +kernel
set_option maxRecDepth 100000 in
theorem okm_245 : okM 245 = true := okM_of (k := 1) (tb := pk245) rfl (by decide +kernel) (fun i hi => by
  by_cases h0 : i = 0
  · subst h0; exact okq_245_0
  omega) (Nat.le_of_ble_eq_true rfl)
set_option maxRecDepth 100000 in
theorem okq_246_0 : ((pk246.drop 0).take 24).all (okQ 246) = true := by decide +kernel
set_option maxRecDepth 100000 in
theorem okm_246 : okM 246 = true := okM_of (k := 1) (tb := pk246) rfl (by decide +kernel) (fun i hi => by
  by_cases h0 : i = 0
  · subst h0; exact okq_246_0
  omega) (Nat.le_of_ble_eq_true rfl)
set_option maxRecDepth 100000 in
theorem okq_247_0 : ((pk247.drop 0).take 24).all (okQ 247) = true := by decide +kernel
set_option maxRecDepth 100000 in
theorem okm_247 : okM 247 = true := okM_of (k := 1) (tb := pk247) rfl (by decide +kernel) (fun i hi => by
  by_cases h0 : i = 0
  · subst h0; exact okq_247_0
  omega) (Nat.le_of_ble_eq_true rfl)
set_option maxRecDepth 100000 in
theorem okq_248_0 : ((pk248.drop 0).take 24).all (okQ 248) = true := by decide +kernel
set_option maxRecDepth 100000 in
theorem okm_248 : okM 248 = true := okM_of (k := 1) (tb := pk248) rfl (by decide +kernel) (fun i hi => by
  by_cases h0 : i = 0
  · subst h0; exact okq_248_0
  omega) (Nat.le_of_ble_eq_true rfl)
set_option maxRecDepth 100000 in
theorem okq_249_0 : ((pk249.drop 0).take 24).all (okQ 249) = true := by decide +kernel
set_option maxRecDepth 100000 in
theorem okm_249 : okM 249 = true := okM_of (k := 1) (tb := pk249) rfl (by decide +kernel) (fun i hi => by
  by_cases h0 : i = 0
  · subst h0; exact okq_249_0
  omega) (Nat.le_of_ble_eq_true rfl)
set_option maxRecDepth 100000 in
theorem okq_250_0 : ((pk250.drop 0).take 24).all (okQ 250) = true := by decide +kernel
set_option maxRecDepth 100000 in
theorem okm_250 : okM 250 = true := okM_of (k := 1) (tb := pk250) rfl (by decide +kernel) (fun i hi => by
  by_cases h0 : i = 0
  · subst h0; exact okq_250_0
  omega) (Nat.le_of_ble_eq_true rfl)
set_option maxRecDepth 100000 in
theorem okq_251_0 : ((pk251.drop 0).take 24).all (okQ 251) = true := by decide +kernel
set_option maxRecDepth 100000 in
theorem okm_251 : okM 251 = true := okM_of (k := 1) (tb := pk251) rfl (by decide +kernel) (fun i hi => by
  by_cases h0 : i = 0
  · subst h0; exact okq_251_0
  omega) (Nat.le_of_ble_eq_true rfl)
set_option maxRecDepth 100000 in
theorem okq_252_0 : ((pk252.drop 0).take 24).all (okQ 252) = true := by decide +kernel
set_option maxRecDepth 100000 in
theorem okm_252 : okM 252 = true := okM_of (k := 1) (tb := pk252) rfl (by decide +kernel) (fun i hi => by
  by_cases h0 : i = 0
  · subst h0; exact okq_252_0
  omega) (Nat.le_of_ble_eq_true rfl)
set_option maxRecDepth 100000 in
theorem okq_253_0 : ((pk253.drop 0).take 24).all (okQ 253) = true := by decide +kernel
set_option maxRecDepth 100000 in
theorem okm_253 : okM 253 = true := okM_of (k := 1) (tb := pk253) rfl (by decide +kernel) (fun i hi => by
  by_cases h0 : i = 0
  · subst h0; exact okq_253_0
  omega) (Nat.le_of_ble_eq_true rfl)
set_option maxRecDepth 100000 in
theorem okq_254_0 : ((pk254.drop 0).take 24).all (okQ 254) = true := by decide +kernel
set_option maxRecDepth 100000 in
theorem okm_254 : okM 254 = true := okM_of (k := 1) (tb := pk254) rfl (by decide +kernel) (fun i hi => by
  by_cases h0 : i = 0
  · subst h0; exact okq_254_0
  omega) (Nat.le_of_ble_eq_true rfl)
set_option maxRecDepth 100000 in
theorem okq_255_0 : ((pk255.drop 0).take 24).all (okQ 255) = true := by decide +kernel
set_option maxRecDepth 100000 in
theorem okm_255 : okM 255 = true := okM_of (k := 1) (tb := pk255) rfl (by decide +kernel) (fun i hi => by
  by_cases h0 : i = 0
  · subst h0; exact okq_255_0
  omega) (Nat.le_of_ble_eq_true rfl)
set_option maxRecDepth 100000 in
theorem okq_256_0 : ((pk256.drop 0).take 24).all (okQ 256) = true := by decide +kernel
set_option maxRecDepth 100000 in
theorem okm_256 : okM 256 = true := okM_of (k := 1) (tb := pk256) rfl (by decide +kernel) (fun i hi => by
  by_cases h0 : i = 0
  · subst h0; exact okq_256_0
  omega) (Nat.le_of_ble_eq_true rfl)
set_option maxRecDepth 100000 in
theorem okq_257_0 : ((pk257.drop 0).take 24).all (okQ 257) = true := by decide +kernel
set_option maxRecDepth 100000 in
theorem okm_257 : okM 257 = true := okM_of (k := 1) (tb := pk257) rfl (by decide +kernel) (fun i hi => by
  by_cases h0 : i = 0
  · subst h0; exact okq_257_0
  omega) (Nat.le_of_ble_eq_true rfl)
set_option maxRecDepth 100000 in
theorem okq_258_0 : ((pk258.drop 0).take 24).all (okQ 258) = true := by decide +kernel
set_option maxRecDepth 100000 in
theorem okm_258 : okM 258 = true := okM_of (k := 1) (tb := pk258) rfl (by decide +kernel) (fun i hi => by
  by_cases h0 : i = 0
  · subst h0; exact okq_258_0
  omega) (Nat.le_of_ble_eq_true rfl)
set_option maxRecDepth 100000 in
theorem okq_259_0 : ((pk259.drop 0).take 24).all (okQ 259) = true := by decide +kernel
set_option maxRecDepth 100000 in
theorem okm_259 : okM 259 = true := okM_of (k := 1) (tb := pk259) rfl (by decide +kernel) (fun i hi => by
  by_cases h0 : i = 0
  · subst h0; exact okq_259_0
  omega) (Nat.le_of_ble_eq_true rfl)
set_option maxRecDepth 100000 in
theorem okq_260_0 : ((pk260.drop 0).take 24).all (okQ 260) = true := by decide +kernel
set_option maxRecDepth 100000 in
theorem okm_260 : okM 260 = true := okM_of (k := 1) (tb := pk260) rfl (by decide +kernel) (fun i hi => by
  by_cases h0 : i = 0
  · subst h0; exact okq_260_0
  omega) (Nat.le_of_ble_eq_true rfl)
set_option maxRecDepth 100000 in
theorem okq_261_0 : ((pk261.drop 0).take 24).all (okQ 261) = true := by decide +kernel
set_option maxRecDepth 100000 in
theorem okm_261 : okM 261 = true := okM_of (k := 1) (tb := pk261) rfl (by decide +kernel) (fun i hi => by
  by_cases h0 : i = 0
  · subst h0; exact okq_261_0
  omega) (Nat.le_of_ble_eq_true rfl)
set_option maxRecDepth 100000 in
theorem okq_262_0 : ((pk262.drop 0).take 24).all (okQ 262) = true := by decide +kernel
set_option maxRecDepth 100000 in
theorem okm_262 : okM 262 = true := okM_of (k := 1) (tb := pk262) rfl (by decide +kernel) (fun i hi => by
  by_cases h0 : i = 0
  · subst h0; exact okq_262_0
  omega) (Nat.le_of_ble_eq_true rfl)
set_option maxRecDepth 100000 in
theorem okq_263_0 : ((pk263.drop 0).take 24).all (okQ 263) = true := by decide +kernel
set_option maxRecDepth 100000 in
theorem okm_263 : okM 263 = true := okM_of (k := 1) (tb := pk263) rfl (by decide +kernel) (fun i hi => by
  by_cases h0 : i = 0
  · subst h0; exact okq_263_0
  omega) (Nat.le_of_ble_eq_true rfl)
set_option maxRecDepth 100000 in
theorem okq_264_0 : ((pk264.drop 0).take 24).all (okQ 264) = true := by decide +kernel
set_option maxRecDepth 100000 in
theorem okm_264 : okM 264 = true := okM_of (k := 1) (tb := pk264) rfl (by decide +kernel) (fun i hi => by
  by_cases h0 : i = 0
  · subst h0; exact okq_264_0
  omega) (Nat.le_of_ble_eq_true rfl)
set_option maxRecDepth 100000 in
theorem okq_265_0 : ((pk265.drop 0).take 24).all (okQ 265) = true := by decide +kernel
set_option maxRecDepth 100000 in
theorem okm_265 : okM 265 = true := okM_of (k := 1) (tb := pk265) rfl (by decide +kernel) (fun i hi => by
  by_cases h0 : i = 0
  · subst h0; exact okq_265_0
  omega) (Nat.le_of_ble_eq_true rfl)
set_option maxRecDepth 100000 in
theorem okq_266_0 : ((pk266.drop 0).take 24).all (okQ 266) = true := by decide +kernel
set_option maxRecDepth 100000 in
theorem okm_266 : okM 266 = true := okM_of (k := 1) (tb := pk266) rfl (by decide +kernel) (fun i hi => by
  by_cases h0 : i = 0
  · subst h0; exact okq_266_0
  omega) (Nat.le_of_ble_eq_true rfl)
set_option maxRecDepth 100000 in
theorem okq_267_0 : ((pk267.drop 0).take 24).all (okQ 267) = true := by decide +kernel
set_option maxRecDepth 100000 in
theorem okm_267 : okM 267 = true := okM_of (k := 1) (tb := pk267) rfl (by decide +kernel) (fun i hi => by
  by_cases h0 : i = 0
  · subst h0; exact okq_267_0
  omega) (Nat.le_of_ble_eq_true rfl)
set_option maxRecDepth 100000 in
theorem okq_268_0 : ((pk268.drop 0).take 24).all (okQ 268) = true := by decide +kernel
set_option maxRecDepth 100000 in
theorem okq_268_1 : ((pk268.drop 24).take 24).all (okQ 268) = true := by decide +kernel
set_option maxRecDepth 100000 in
theorem okq_268_2 : ((pk268.drop 48).take 24).all (okQ 268) = true := by decide +kernel
set_option maxRecDepth 100000 in
theorem okq_268_3 : ((pk268.drop 72).take 24).all (okQ 268) = true := by decide +kernel
set_option maxRecDepth 100000 in
theorem okq_268_4 : ((pk268.drop 96).take 24).all (okQ 268) = true := by decide +kernel
set_option maxRecDepth 100000 in
theorem okq_268_5 : ((pk268.drop 120).take 24).all (okQ 268) = true := by decide +kernel
set_option maxRecDepth 100000 in
theorem okq_268_6 : ((pk268.drop 144).take 24).all (okQ 268) = true := by decide +kernel
set_option maxRecDepth 100000 in
theorem okq_268_7 : ((pk268.drop 168).take 24).all (okQ 268) = true := by decide +kernel
set_option maxRecDepth 100000 in
theorem okq_268_8 : ((pk268.drop 192).take 24).all (okQ 268) = true := by decide +kernel
set_option maxRecDepth 100000 in
theorem okq_268_9 : ((pk268.drop 216).take 24).all (okQ 268) = true := by decide +kernel
set_option maxRecDepth 100000 in
theorem okq_268_10 : ((pk268.drop 240).take 24).all (okQ 268) = true := by decide +kernel
set_option maxRecDepth 100000 in
theorem okq_268_11 : ((pk268.drop 264).take 24).all (okQ 268) = true := by decide +kernel
set_option maxRecDepth 100000 in
theorem okq_268_12 : ((pk268.drop 288).take 24).all (okQ 268) = true := by decide +kernel
set_option maxRecDepth 100000 in
theorem okq_268_13 : ((pk268.drop 312).take 24).all (okQ 268) = true := by decide +kernel
set_option maxRecDepth 100000 in
theorem okq_268_14 : ((pk268.drop 336).take 24).all (okQ 268) = true := by decide +kernel
set_option maxRecDepth 100000 in
theorem okq_268_15 : ((pk268.drop 360).take 24).all (okQ 268) = true := by decide +kernel
set_option maxRecDepth 100000 in
theorem okq_268_16 : ((pk268.drop 384).take 24).all (okQ 268) = true := by decide +kernel
set_option maxRecDepth 100000 in
theorem okq_268_17 : ((pk268.drop 408).take 24).all (okQ 268) = true := by decide +kernel
set_option maxRecDepth 100000 in
theorem okq_268_18 : ((pk268.drop 432).take 24).all (okQ 268) = true := by decide +kernel
set_option maxRecDepth 100000 in
theorem okq_268_19 : ((pk268.drop 456).take 24).all (okQ 268) = true := by decide +kernel
set_option maxRecDepth 100000 in
theorem okq_268_20 : ((pk268.drop 480).take 24).all (okQ 268) = true := by decide +kernel
set_option maxRecDepth 100000 in
theorem okq_268_21 : ((pk268.drop 504).take 24).all (okQ 268) = true := by decide +kernel
set_option maxRecDepth 100000 in
theorem okq_268_22 : ((pk268.drop 528).take 24).all (okQ 268) = true := by decide +kernel
set_option maxRecDepth 100000 in
theorem okq_268_23 : ((pk268.drop 552).take 24).all (okQ 268) = true := by decide +kernel
set_option maxRecDepth 100000 in
theorem okq_268_24 : ((pk268.drop 576).take 24).all (okQ 268) = true := by decide +kernel
set_option maxRecDepth 100000 in
theorem okq_268_25 : ((pk268.drop 600).take 24).all (okQ 268) = true := by decide +kernel
set_option maxRecDepth 100000 in
theorem okq_268_26 : ((pk268.drop 624).take 24).all (okQ 268) = true := by decide +kernel
set_option maxRecDepth 100000 in
theorem okq_268_27 : ((pk268.drop 648).take 24).all (okQ 268) = true := by decide +kernel
set_option maxRecDepth 100000 in
theorem okq_268_28 : ((pk268.drop 672).take 24).all (okQ 268) = true := by decide +kernel
set_option maxRecDepth 100000 in
theorem okq_268_29 : ((pk268.drop 696).take 24).all (okQ 268) = true := by decide +kernel
set_option maxRecDepth 100000 in
theorem okq_268_30 : ((pk268.drop 720).take 24).all (okQ 268) = true := by decide +kernel
set_option maxRecDepth 100000 in
theorem okq_268_31 : ((pk268.drop 744).take 24).all (okQ 268) = true := by decide +kernel
set_option maxRecDepth 100000 in
theorem okq_268_32 : ((pk268.drop 768).take 24).all (okQ 268) = true := by decide +kernel
set_option maxRecDepth 100000 in
theorem okq_268_33 : ((pk268.drop 792).take 24).all (okQ 268) = true := by decide +kernel
set_option maxRecDepth 100000 in
theorem okq_268_34 : ((pk268.drop 816).take 24).all (okQ 268) = true := by decide +kernel
set_option maxRecDepth 100000 in
theorem okq_268_35 : ((pk268.drop 840).take 24).all (okQ 268) = true := by decide +kernel
set_option maxRecDepth 100000 in
theorem okq_268_36 : ((pk268.drop 864).take 24).all (okQ 268) = true := by decide +kernel
set_option maxRecDepth 100000 in
theorem okq_268_37 : ((pk268.drop 888).take 24).all (okQ 268) = true := by decide +kernel
set_option maxRecDepth 100000 in
theorem okq_268_38 : ((pk268.drop 912).take 24).all (okQ 268) = true := by decide +kernel
set_option maxRecDepth 100000 in
theorem okq_268_39 : ((pk268.drop 936).take 24).all (okQ 268) = true := by decide +kernel
set_option maxRecDepth 100000 in
theorem okq_268_40 : ((pk268.drop 960).take 24).all (okQ 268) = true := by decide +kernel
set_option maxRecDepth 100000 in
theorem okq_268_41 : ((pk268.drop 984).take 24).all (okQ 268) = true := by decide +kernel
set_option maxRecDepth 100000 in
theorem okq_268_42 : ((pk268.drop 1008).take 24).all (okQ 268) = true := by decide +kernel
set_option maxRecDepth 100000 in
theorem okq_268_43 : ((pk268.drop 1032).take 24).all (okQ 268) = true := by decide +kernel
set_option maxRecDepth 100000 in
theorem okq_268_44 : ((pk268.drop 1056).take 24).all (okQ 268) = true := by decide +kernel
set_option maxRecDepth 100000 in
theorem okq_268_45 : ((pk268.drop 1080).take 24).all (okQ 268) = true := by decide +kernel
set_option maxRecDepth 100000 in
theorem okq_268_46 : ((pk268.drop 1104).take 24).all (okQ 268) = true := by decide +kernel
set_option maxRecDepth 100000 in
theorem okq_268_47 : ((pk268.drop 1128).take 24).all (okQ 268) = true := by decide +kernel
set_option maxRecDepth 100000 in
theorem okq_268_48 : ((pk268.drop 1152).take 24).all (okQ 268) = true := by decide +kernel
set_option maxRecDepth 100000 in
theorem okq_268_49 : ((pk268.drop 1176).take 24).all (okQ 268) = true := by decide +kernel
set_option maxRecDepth 100000 in
theorem okq_268_50 : ((pk268.drop 1200).take 24).all (okQ 268) = true := by decide +kernel
set_option maxRecDepth 100000 in
theorem okm_268 : okM 268 = true := okM_of (k := 51) (tb := pk268) rfl (by decide +kernel) (fun i hi => by
  by_cases h0 : i = 0
  · subst h0; exact okq_268_0
  by_cases h1 : i = 1
  · subst h1; exact okq_268_1
  by_cases h2 : i = 2
  · subst h2; exact okq_268_2
  by_cases h3 : i = 3
  · subst h3; exact okq_268_3
  by_cases h4 : i = 4
  · subst h4; exact okq_268_4
  by_cases h5 : i = 5
  · subst h5; exact okq_268_5
  by_cases h6 : i = 6
  · subst h6; exact okq_268_6
  by_cases h7 : i = 7
  · subst h7; exact okq_268_7
  by_cases h8 : i = 8
  · subst h8; exact okq_268_8
  by_cases h9 : i = 9
  · subst h9; exact okq_268_9
  by_cases h10 : i = 10
  · subst h10; exact okq_268_10
  by_cases h11 : i = 11
  · subst h11; exact okq_268_11
  by_cases h12 : i = 12
  · subst h12; exact okq_268_12
  by_cases h13 : i = 13
  · subst h13; exact okq_268_13
  by_cases h14 : i = 14
  · subst h14; exact okq_268_14
  by_cases h15 : i = 15
  · subst h15; exact okq_268_15
  by_cases h16 : i = 16
  · subst h16; exact okq_268_16
  by_cases h17 : i = 17
  · subst h17; exact okq_268_17
  by_cases h18 : i = 18
  · subst h18; exact okq_268_18
  by_cases h19 : i = 19
  · subst h19; exact okq_268_19
  by_cases h20 : i = 20
  · subst h20; exact okq_268_20
  by_cases h21 : i = 21
  · subst h21; exact okq_268_21
  by_cases h22 : i = 22
  · subst h22; exact okq_268_22
  by_cases h23 : i = 23
  · subst h23; exact okq_268_23
  by_cases h24 : i = 24
  · subst h24; exact okq_268_24
  by_cases h25 : i = 25
  · subst h25; exact okq_268_25
  by_cases h26 : i = 26
  · subst h26; exact okq_268_26
  by_cases h27 : i = 27
  · subst h27; exact okq_268_27
  by_cases h28 : i = 28
  · subst h28; exact okq_268_28
  by_cases h29 : i = 29
  · subst h29; exact okq_268_29
  by_cases h30 : i = 30
  · subst h30; exact okq_268_30
  by_cases h31 : i = 31
  · subst h31; exact okq_268_31
  by_cases h32 : i = 32
  · subst h32; exact okq_268_32
  by_cases h33 : i = 33
  · subst h33; exact okq_268_33
  by_cases h34 : i = 34
  · subst h34; exact okq_268_34
  by_cases h35 : i = 35
  · subst h35; exact okq_268_35
  by_cases h36 : i = 36
  · subst h36; exact okq_268_36
  by_cases h37 : i = 37
  · subst h37; exact okq_268_37
  by_cases h38 : i = 38
  · subst h38; exact okq_268_38
  by_cases h39 : i = 39
  · subst h39; exact okq_268_39
  by_cases h40 : i = 40
  · subst h40; exact okq_268_40
  by_cases h41 : i = 41
  · subst h41; exact okq_268_41
  by_cases h42 : i = 42
  · subst h42; exact okq_268_42
  by_cases h43 : i = 43
  · subst h43; exact okq_268_43
  by_cases h44 : i = 44
  · subst h44; exact okq_268_44
  by_cases h45 : i = 45
  · subst h45; exact okq_268_45
  by_cases h46 : i = 46
  · subst h46; exact okq_268_46
  by_cases h47 : i = 47
  · subst h47; exact okq_268_47
  by_cases h48 : i = 48
  · subst h48; exact okq_268_48
  by_cases h49 : i = 49
  · subst h49; exact okq_268_49
  by_cases h50 : i = 50
  · subst h50; exact okq_268_50
  omega) (Nat.le_of_ble_eq_true rfl)
theorem okAll {j : Nat} (hj : j < 269) : okM j = true := by
  match j, hj with
  | 0, _ => exact okm_0
  | 1, _ => exact okm_1
  | 2, _ => exact okm_2
  | 3, _ => exact okm_3
  | 4, _ => exact okm_4
  | 5, _ => exact okm_5
  | 6, _ => exact okm_6
  | 7, _ => exact okm_7
  | 8, _ => exact okm_8
  | 9, _ => exact okm_9
  | 10, _ => exact okm_10
  | 11, _ => exact okm_11
  | 12, _ => exact okm_12
  | 13, _ => exact okm_13
  | 14, _ => exact okm_14
  | 15, _ => exact okm_15
  | 16, _ => exact okm_16
  | 17, _ => exact okm_17
  | 18, _ => exact okm_18
  | 19, _ => exact okm_19
  | 20, _ => exact okm_20
  | 21, _ => exact okm_21
  | 22, _ => exact okm_22
  | 23, _ => exact okm_23
  | 24, _ => exact okm_24
  | 25, _ => exact okm_25
  | 26, _ => exact okm_26
  | 27, _ => exact okm_27
  | 28, _ => exact okm_28
  | 29, _ => exact okm_29
  | 30, _ => exact okm_30
  | 31, _ => exact okm_31
  | 32, _ => exact okm_32
  | 33, _ => exact okm_33
  | 34, _ => exact okm_34
  | 35, _ => exact okm_35
  | 36, _ => exact okm_36
  | 37, _ => exact okm_37
  | 38, _ => exact okm_38
  | 39, _ => exact okm_39
  | 40, _ => exact okm_40
  | 41, _ => exact okm_41
  | 42, _ => exact okm_42
  | 43, _ => exact okm_43
  | 44, _ => exact okm_44
  | 45, _ => exact okm_45
  | 46, _ => exact okm_46
  | 47, _ => exact okm_47
  | 48, _ => exact okm_48
  | 49, _ => exact okm_49
  | 50, _ => exact okm_50
  | 51, _ => exact okm_51
  | 52, _ => exact okm_52
  | 53, _ => exact okm_53
  | 54, _ => exact okm_54
  | 55, _ => exact okm_55
  | 56, _ => exact okm_56
  | 57, _ => exact okm_57
  | 58, _ => exact okm_58
  | 59, _ => exact okm_59
  | 60, _ => exact okm_60
  | 61, _ => exact okm_61
  | 62, _ => exact okm_62
  | 63, _ => exact okm_63
  | 64, _ => exact okm_64
  | 65, _ => exact okm_65
  | 66, _ => exact okm_66
  | 67, _ => exact okm_67
  | 68, _ => exact okm_68
  | 69, _ => exact okm_69
  | 70, _ => exact okm_70
  | 71, _ => exact okm_71
  | 72, _ => exact okm_72
  | 73, _ => exact okm_73
  | 74, _ => exact okm_74
  | 75, _ => exact okm_75
  | 76, _ => exact okm_76
  | 77, _ => exact okm_77
  | 78, _ => exact okm_78
  | 79, _ => exact okm_79
  | 80, _ => exact okm_80
  | 81, _ => exact okm_81
  | 82, _ => exact okm_82
  | 83, _ => exact okm_83
  | 84, _ => exact okm_84
  | 85, _ => exact okm_85
  | 86, _ => exact okm_86
  | 87, _ => exact okm_87
  | 88, _ => exact okm_88
  | 89, _ => exact okm_89
  | 90, _ => exact okm_90
  | 91, _ => exact okm_91
  | 92, _ => exact okm_92
  | 93, _ => exact okm_93
  | 94, _ => exact okm_94
  | 95, _ => exact okm_95
  | 96, _ => exact okm_96
  | 97, _ => exact okm_97
  | 98, _ => exact okm_98
  | 99, _ => exact okm_99
  | 100, _ => exact okm_100
  | 101, _ => exact okm_101
  | 102, _ => exact okm_102
  | 103, _ => exact okm_103
  | 104, _ => exact okm_104
  | 105, _ => exact okm_105
  | 106, _ => exact okm_106
  | 107, _ => exact okm_107
  | 108, _ => exact okm_108
  | 109, _ => exact okm_109
  | 110, _ => exact okm_110
  | 111, _ => exact okm_111
  | 112, _ => exact okm_112
  | 113, _ => exact okm_113
  | 114, _ => exact okm_114
  | 115, _ => exact okm_115
  | 116, _ => exact okm_116
  | 117, _ => exact okm_117
  | 118, _ => exact okm_118
  | 119, _ => exact okm_119
  | 120, _ => exact okm_120
  | 121, _ => exact okm_121
  | 122, _ => exact okm_122
  | 123, _ => exact okm_123
  | 124, _ => exact okm_124
  | 125, _ => exact okm_125
  | 126, _ => exact okm_126
  | 127, _ => exact okm_127
  | 128, _ => exact okm_128
  | 129, _ => exact okm_129
  | 130, _ => exact okm_130
  | 131, _ => exact okm_131
  | 132, _ => exact okm_132
  | 133, _ => exact okm_133
  | 134, _ => exact okm_134
  | 135, _ => exact okm_135
  | 136, _ => exact okm_136
  | 137, _ => exact okm_137
  | 138, _ => exact okm_138
  | 139, _ => exact okm_139
  | 140, _ => exact okm_140
  | 141, _ => exact okm_141
  | 142, _ => exact okm_142
  | 143, _ => exact okm_143
  | 144, _ => exact okm_144
  | 145, _ => exact okm_145
  | 146, _ => exact okm_146
  | 147, _ => exact okm_147
  | 148, _ => exact okm_148
  | 149, _ => exact okm_149
  | 150, _ => exact okm_150
  | 151, _ => exact okm_151
  | 152, _ => exact okm_152
  | 153, _ => exact okm_153
  | 154, _ => exact okm_154
  | 155, _ => exact okm_155
  | 156, _ => exact okm_156
  | 157, _ => exact okm_157
  | 158, _ => exact okm_158
  | 159, _ => exact okm_159
  | 160, _ => exact okm_160
  | 161, _ => exact okm_161
  | 162, _ => exact okm_162
  | 163, _ => exact okm_163
  | 164, _ => exact okm_164
  | 165, _ => exact okm_165
  | 166, _ => exact okm_166
  | 167, _ => exact okm_167
  | 168, _ => exact okm_168
  | 169, _ => exact okm_169
  | 170, _ => exact okm_170
  | 171, _ => exact okm_171
  | 172, _ => exact okm_172
  | 173, _ => exact okm_173
  | 174, _ => exact okm_174
  | 175, _ => exact okm_175
  | 176, _ => exact okm_176
  | 177, _ => exact okm_177
  | 178, _ => exact okm_178
  | 179, _ => exact okm_179
  | 180, _ => exact okm_180
  | 181, _ => exact okm_181
  | 182, _ => exact okm_182
  | 183, _ => exact okm_183
  | 184, _ => exact okm_184
  | 185, _ => exact okm_185
  | 186, _ => exact okm_186
  | 187, _ => exact okm_187
  | 188, _ => exact okm_188
  | 189, _ => exact okm_189
  | 190, _ => exact okm_190
  | 191, _ => exact okm_191
  | 192, _ => exact okm_192
  | 193, _ => exact okm_193
  | 194, _ => exact okm_194
  | 195, _ => exact okm_195
  | 196, _ => exact okm_196
  | 197, _ => exact okm_197
  | 198, _ => exact okm_198
  | 199, _ => exact okm_199
  | 200, _ => exact okm_200
  | 201, _ => exact okm_201
  | 202, _ => exact okm_202
  | 203, _ => exact okm_203
  | 204, _ => exact okm_204
  | 205, _ => exact okm_205
  | 206, _ => exact okm_206
  | 207, _ => exact okm_207
  | 208, _ => exact okm_208
  | 209, _ => exact okm_209
  | 210, _ => exact okm_210
  | 211, _ => exact okm_211
  | 212, _ => exact okm_212
  | 213, _ => exact okm_213
  | 214, _ => exact okm_214
  | 215, _ => exact okm_215
  | 216, _ => exact okm_216
  | 217, _ => exact okm_217
  | 218, _ => exact okm_218
  | 219, _ => exact okm_219
  | 220, _ => exact okm_220
  | 221, _ => exact okm_221
  | 222, _ => exact okm_222
  | 223, _ => exact okm_223
  | 224, _ => exact okm_224
  | 225, _ => exact okm_225
  | 226, _ => exact okm_226
  | 227, _ => exact okm_227
  | 228, _ => exact okm_228
  | 229, _ => exact okm_229
  | 230, _ => exact okm_230
  | 231, _ => exact okm_231
  | 232, _ => exact okm_232
  | 233, _ => exact okm_233
  | 234, _ => exact okm_234
  | 235, _ => exact okm_235
  | 236, _ => exact okm_236
  | 237, _ => exact okm_237
  | 238, _ => exact okm_238
  | 239, _ => exact okm_239
  | 240, _ => exact okm_240
  | 241, _ => exact okm_241
  | 242, _ => exact okm_242
  | 243, _ => exact okm_243
  | 244, _ => exact okm_244
  | 245, _ => exact okm_245
  | 246, _ => exact okm_246
  | 247, _ => exact okm_247
  | 248, _ => exact okm_248
  | 249, _ => exact okm_249
  | 250, _ => exact okm_250
  | 251, _ => exact okm_251
  | 252, _ => exact okm_252
  | 253, _ => exact okm_253
  | 254, _ => exact okm_254
  | 255, _ => exact okm_255
  | 256, _ => exact okm_256
  | 257, _ => exact okm_257
  | 258, _ => exact okm_258
  | 259, _ => exact okm_259
  | 260, _ => exact okm_260
  | 261, _ => exact okm_261
  | 262, _ => exact okm_262
  | 263, _ => exact okm_263
  | 264, _ => exact okm_264
  | 265, _ => exact okm_265
  | 266, _ => exact okm_266
  | 267, _ => exact okm_267
  | 268, _ => exact okm_268
  | k + 269, h => omega
