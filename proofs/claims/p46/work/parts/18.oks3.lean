set_option maxRecDepth 100000 in
theorem okq_165_0 : ((pk165.drop 0).take 24).all (okQ 165) = true := by decide +kernel
set_option maxRecDepth 100000 in
theorem okm_165 : okM 165 = true := okM_of (k := 1) (tb := pk165) rfl (by decide +kernel) (fun i hi => by
  by_cases h0 : i = 0
  · subst h0; exact okq_165_0
  omega) (Nat.le_of_ble_eq_true rfl)
set_option maxRecDepth 100000 in
theorem okq_166_0 : ((pk166.drop 0).take 24).all (okQ 166) = true := by decide +kernel
set_option maxRecDepth 100000 in
theorem okm_166 : okM 166 = true := okM_of (k := 1) (tb := pk166) rfl (by decide +kernel) (fun i hi => by
  by_cases h0 : i = 0
  · subst h0; exact okq_166_0
  omega) (Nat.le_of_ble_eq_true rfl)
set_option maxRecDepth 100000 in
theorem okq_167_0 : ((pk167.drop 0).take 24).all (okQ 167) = true := by decide +kernel
set_option maxRecDepth 100000 in
theorem okm_167 : okM 167 = true := okM_of (k := 1) (tb := pk167) rfl (by decide +kernel) (fun i hi => by
  by_cases h0 : i = 0
  · subst h0; exact okq_167_0
  omega) (Nat.le_of_ble_eq_true rfl)
set_option maxRecDepth 100000 in
theorem okq_168_0 : ((pk168.drop 0).take 24).all (okQ 168) = true := by decide +kernel
set_option maxRecDepth 100000 in
theorem okm_168 : okM 168 = true := okM_of (k := 1) (tb := pk168) rfl (by decide +kernel) (fun i hi => by
  by_cases h0 : i = 0
  · subst h0; exact okq_168_0
  omega) (Nat.le_of_ble_eq_true rfl)
set_option maxRecDepth 100000 in
theorem okq_169_0 : ((pk169.drop 0).take 24).all (okQ 169) = true := by decide +kernel
set_option maxRecDepth 100000 in
theorem okm_169 : okM 169 = true := okM_of (k := 1) (tb := pk169) rfl (by decide +kernel) (fun i hi => by
  by_cases h0 : i = 0
  · subst h0; exact okq_169_0
  omega) (Nat.le_of_ble_eq_true rfl)
set_option maxRecDepth 100000 in
theorem okq_170_0 : ((pk170.drop 0).take 24).all (okQ 170) = true := by decide +kernel
set_option maxRecDepth 100000 in
theorem okm_170 : okM 170 = true := okM_of (k := 1) (tb := pk170) rfl (by decide +kernel) (fun i hi => by
  by_cases h0 : i = 0
  · subst h0; exact okq_170_0
  omega) (Nat.le_of_ble_eq_true rfl)
set_option maxRecDepth 100000 in
theorem okq_171_0 : ((pk171.drop 0).take 24).all (okQ 171) = true := by decide +kernel
set_option maxRecDepth 100000 in
theorem okm_171 : okM 171 = true := okM_of (k := 1) (tb := pk171) rfl (by decide +kernel) (fun i hi => by
  by_cases h0 : i = 0
  · subst h0; exact okq_171_0
  omega) (Nat.le_of_ble_eq_true rfl)
set_option maxRecDepth 100000 in
theorem okq_172_0 : ((pk172.drop 0).take 24).all (okQ 172) = true := by decide +kernel
set_option maxRecDepth 100000 in
theorem okm_172 : okM 172 = true := okM_of (k := 1) (tb := pk172) rfl (by decide +kernel) (fun i hi => by
  by_cases h0 : i = 0
  · subst h0; exact okq_172_0
  omega) (Nat.le_of_ble_eq_true rfl)
set_option maxRecDepth 100000 in
theorem okq_173_0 : ((pk173.drop 0).take 24).all (okQ 173) = true := by decide +kernel
set_option maxRecDepth 100000 in
theorem okq_173_1 : ((pk173.drop 24).take 24).all (okQ 173) = true := by decide +kernel
set_option maxRecDepth 100000 in
theorem okm_173 : okM 173 = true := okM_of (k := 2) (tb := pk173) rfl (by decide +kernel) (fun i hi => by
  by_cases h0 : i = 0
  · subst h0; exact okq_173_0
  by_cases h1 : i = 1
  · subst h1; exact okq_173_1
  omega) (Nat.le_of_ble_eq_true rfl)
set_option maxRecDepth 100000 in
theorem okq_174_0 : ((pk174.drop 0).take 24).all (okQ 174) = true := by decide +kernel
set_option maxRecDepth 100000 in
theorem okm_174 : okM 174 = true := okM_of (k := 1) (tb := pk174) rfl (by decide +kernel) (fun i hi => by
  by_cases h0 : i = 0
  · subst h0; exact okq_174_0
  omega) (Nat.le_of_ble_eq_true rfl)
set_option maxRecDepth 100000 in
theorem okq_175_0 : ((pk175.drop 0).take 24).all (okQ 175) = true := by decide +kernel
set_option maxRecDepth 100000 in
theorem okm_175 : okM 175 = true := okM_of (k := 1) (tb := pk175) rfl (by decide +kernel) (fun i hi => by
  by_cases h0 : i = 0
  · subst h0; exact okq_175_0
  omega) (Nat.le_of_ble_eq_true rfl)
set_option maxRecDepth 100000 in
theorem okq_176_0 : ((pk176.drop 0).take 24).all (okQ 176) = true := by decide +kernel
set_option maxRecDepth 100000 in
theorem okm_176 : okM 176 = true := okM_of (k := 1) (tb := pk176) rfl (by decide +kernel) (fun i hi => by
  by_cases h0 : i = 0
  · subst h0; exact okq_176_0
  omega) (Nat.le_of_ble_eq_true rfl)
set_option maxRecDepth 100000 in
theorem okq_177_0 : ((pk177.drop 0).take 24).all (okQ 177) = true := by decide +kernel
set_option maxRecDepth 100000 in
theorem okm_177 : okM 177 = true := okM_of (k := 1) (tb := pk177) rfl (by decide +kernel) (fun i hi => by
  by_cases h0 : i = 0
  · subst h0; exact okq_177_0
  omega) (Nat.le_of_ble_eq_true rfl)
set_option maxRecDepth 100000 in
theorem okq_178_0 : ((pk178.drop 0).take 24).all (okQ 178) = true := by decide +kernel
set_option maxRecDepth 100000 in
theorem okm_178 : okM 178 = true := okM_of (k := 1) (tb := pk178) rfl (by decide +kernel) (fun i hi => by
  by_cases h0 : i = 0
  · subst h0; exact okq_178_0
  omega) (Nat.le_of_ble_eq_true rfl)
set_option maxRecDepth 100000 in
theorem okq_179_0 : ((pk179.drop 0).take 24).all (okQ 179) = true := by decide +kernel
set_option maxRecDepth 100000 in
theorem okm_179 : okM 179 = true := okM_of (k := 1) (tb := pk179) rfl (by decide +kernel) (fun i hi => by
  by_cases h0 : i = 0
  · subst h0; exact okq_179_0
  omega) (Nat.le_of_ble_eq_true rfl)
set_option maxRecDepth 100000 in
theorem okq_180_0 : ((pk180.drop 0).take 24).all (okQ 180) = true := by decide +kernel
set_option maxRecDepth 100000 in
theorem okq_180_1 : ((pk180.drop 24).take 24).all (okQ 180) = true := by decide +kernel
set_option maxRecDepth 100000 in
theorem okm_180 : okM 180 = true := okM_of (k := 2) (tb := pk180) rfl (by decide +kernel) (fun i hi => by
  by_cases h0 : i = 0
  · subst h0; exact okq_180_0
  by_cases h1 : i = 1
  · subst h1; exact okq_180_1
  omega) (Nat.le_of_ble_eq_true rfl)
set_option maxRecDepth 100000 in
theorem okq_181_0 : ((pk181.drop 0).take 24).all (okQ 181) = true := by decide +kernel
set_option maxRecDepth 100000 in
theorem okm_181 : okM 181 = true := okM_of (k := 1) (tb := pk181) rfl (by decide +kernel) (fun i hi => by
  by_cases h0 : i = 0
  · subst h0; exact okq_181_0
  omega) (Nat.le_of_ble_eq_true rfl)
set_option maxRecDepth 100000 in
theorem okq_182_0 : ((pk182.drop 0).take 24).all (okQ 182) = true := by decide +kernel
set_option maxRecDepth 100000 in
theorem okm_182 : okM 182 = true := okM_of (k := 1) (tb := pk182) rfl (by decide +kernel) (fun i hi => by
  by_cases h0 : i = 0
  · subst h0; exact okq_182_0
  omega) (Nat.le_of_ble_eq_true rfl)
set_option maxRecDepth 100000 in
theorem okq_183_0 : ((pk183.drop 0).take 24).all (okQ 183) = true := by decide +kernel
set_option maxRecDepth 100000 in
theorem okm_183 : okM 183 = true := okM_of (k := 1) (tb := pk183) rfl (by decide +kernel) (fun i hi => by
  by_cases h0 : i = 0
  · subst h0; exact okq_183_0
  omega) (Nat.le_of_ble_eq_true rfl)
set_option maxRecDepth 100000 in
theorem okq_184_0 : ((pk184.drop 0).take 24).all (okQ 184) = true := by decide +kernel
set_option maxRecDepth 100000 in
theorem okq_184_1 : ((pk184.drop 24).take 24).all (okQ 184) = true := by decide +kernel
set_option maxRecDepth 100000 in
theorem okq_184_2 : ((pk184.drop 48).take 24).all (okQ 184) = true := by decide +kernel
set_option maxRecDepth 100000 in
theorem okq_184_3 : ((pk184.drop 72).take 24).all (okQ 184) = true := by decide +kernel
set_option maxRecDepth 100000 in
theorem okm_184 : okM 184 = true := okM_of (k := 4) (tb := pk184) rfl (by decide +kernel) (fun i hi => by
  by_cases h0 : i = 0
  · subst h0; exact okq_184_0
  by_cases h1 : i = 1
  · subst h1; exact okq_184_1
  by_cases h2 : i = 2
  · subst h2; exact okq_184_2
  by_cases h3 : i = 3
  · subst h3; exact okq_184_3
  omega) (Nat.le_of_ble_eq_true rfl)
set_option maxRecDepth 100000 in
theorem okq_185_0 : ((pk185.drop 0).take 24).all (okQ 185) = true := by decide +kernel
set_option maxRecDepth 100000 in
theorem okm_185 : okM 185 = true := okM_of (k := 1) (tb := pk185) rfl (by decide +kernel) (fun i hi => by
  by_cases h0 : i = 0
  · subst h0; exact okq_185_0
  omega) (Nat.le_of_ble_eq_true rfl)
set_option maxRecDepth 100000 in
theorem okq_186_0 : ((pk186.drop 0).take 24).all (okQ 186) = true := by decide +kernel
set_option maxRecDepth 100000 in
theorem okm_186 : okM 186 = true := okM_of (k := 1) (tb := pk186) rfl (by decide +kernel) (fun i hi => by
  by_cases h0 : i = 0
  · subst h0; exact okq_186_0
  omega) (Nat.le_of_ble_eq_true rfl)
set_option maxRecDepth 100000 in
theorem okq_187_0 : ((pk187.drop 0).take 24).all (okQ 187) = true := by decide +kernel
set_option maxRecDepth 100000 in
theorem okq_187_1 : ((pk187.drop 24).take 24).all (okQ 187) = true := by decide +kernel
set_option maxRecDepth 100000 in
theorem okq_187_2 : ((pk187.drop 48).take 24).all (okQ 187) = true := by decide +kernel
set_option maxRecDepth 100000 in
theorem okq_187_3 : ((pk187.drop 72).take 24).all (okQ 187) = true := by decide +kernel
set_option maxRecDepth 100000 in
theorem okq_187_4 : ((pk187.drop 96).take 24).all (okQ 187) = true := by decide +kernel
set_option maxRecDepth 100000 in
theorem okq_187_5 : ((pk187.drop 120).take 24).all (okQ 187) = true := by decide +kernel
set_option maxRecDepth 100000 in
theorem okq_187_6 : ((pk187.drop 144).take 24).all (okQ 187) = true := by decide +kernel
set_option maxRecDepth 100000 in
theorem okq_187_7 : ((pk187.drop 168).take 24).all (okQ 187) = true := by decide +kernel
set_option maxRecDepth 100000 in
theorem okq_187_8 : ((pk187.drop 192).take 24).all (okQ 187) = true := by decide +kernel
set_option maxRecDepth 100000 in
theorem okq_187_9 : ((pk187.drop 216).take 24).all (okQ 187) = true := by decide +kernel
set_option maxRecDepth 100000 in
theorem okq_187_10 : ((pk187.drop 240).take 24).all (okQ 187) = true := by decide +kernel
set_option maxRecDepth 100000 in
theorem okq_187_11 : ((pk187.drop 264).take 24).all (okQ 187) = true := by decide +kernel
set_option maxRecDepth 100000 in
theorem okq_187_12 : ((pk187.drop 288).take 24).all (okQ 187) = true := by decide +kernel
set_option maxRecDepth 100000 in
theorem okq_187_13 : ((pk187.drop 312).take 24).all (okQ 187) = true := by decide +kernel
set_option maxRecDepth 100000 in
theorem okq_187_14 : ((pk187.drop 336).take 24).all (okQ 187) = true := by decide +kernel
set_option maxRecDepth 100000 in
theorem okm_187 : okM 187 = true := okM_of (k := 15) (tb := pk187) rfl (by decide +kernel) (fun i hi => by
  by_cases h0 : i = 0
  · subst h0; exact okq_187_0
  by_cases h1 : i = 1
  · subst h1; exact okq_187_1
  by_cases h2 : i = 2
  · subst h2; exact okq_187_2
  by_cases h3 : i = 3
  · subst h3; exact okq_187_3
  by_cases h4 : i = 4
  · subst h4; exact okq_187_4
  by_cases h5 : i = 5
  · subst h5; exact okq_187_5
  by_cases h6 : i = 6
  · subst h6; exact okq_187_6
  by_cases h7 : i = 7
  · subst h7; exact okq_187_7
  by_cases h8 : i = 8
  · subst h8; exact okq_187_8
  by_cases h9 : i = 9
  · subst h9; exact okq_187_9
  by_cases h10 : i = 10
  · subst h10; exact okq_187_10
  by_cases h11 : i = 11
  · subst h11; exact okq_187_11
  by_cases h12 : i = 12
  · subst h12; exact okq_187_12
  by_cases h13 : i = 13
  · subst h13; exact okq_187_13
  by_cases h14 : i = 14
  · subst h14; exact okq_187_14
  omega) (Nat.le_of_ble_eq_true rfl)
set_option maxRecDepth 100000 in
theorem okq_188_0 : ((pk188.drop 0).take 24).all (okQ 188) = true := by decide +kernel
set_option maxRecDepth 100000 in
theorem okq_188_1 : ((pk188.drop 24).take 24).all (okQ 188) = true := by decide +kernel
set_option maxRecDepth 100000 in
theorem okq_188_2 : ((pk188.drop 48).take 24).all (okQ 188) = true := by decide +kernel
set_option maxRecDepth 100000 in
theorem okq_188_3 : ((pk188.drop 72).take 24).all (okQ 188) = true := by decide +kernel
set_option maxRecDepth 100000 in
theorem okq_188_4 : ((pk188.drop 96).take 24).all (okQ 188) = true := by decide +kernel
set_option maxRecDepth 100000 in
theorem okq_188_5 : ((pk188.drop 120).take 24).all (okQ 188) = true := by decide +kernel
set_option maxRecDepth 100000 in
theorem okq_188_6 : ((pk188.drop 144).take 24).all (okQ 188) = true := by decide +kernel
set_option maxRecDepth 100000 in
theorem okm_188 : okM 188 = true := okM_of (k := 7) (tb := pk188) rfl (by decide +kernel) (fun i hi => by
  by_cases h0 : i = 0
  · subst h0; exact okq_188_0
  by_cases h1 : i = 1
  · subst h1; exact okq_188_1
  by_cases h2 : i = 2
  · subst h2; exact okq_188_2
  by_cases h3 : i = 3
  · subst h3; exact okq_188_3
  by_cases h4 : i = 4
  · subst h4; exact okq_188_4
  by_cases h5 : i = 5
  · subst h5; exact okq_188_5
  by_cases h6 : i = 6
  · subst h6; exact okq_188_6
  omega) (Nat.le_of_ble_eq_true rfl)
set_option maxRecDepth 100000 in
theorem okq_189_0 : ((pk189.drop 0).take 24).all (okQ 189) = true := by decide +kernel
set_option maxRecDepth 100000 in
theorem okq_189_1 : ((pk189.drop 24).take 24).all (okQ 189) = true := by decide +kernel
set_option maxRecDepth 100000 in
theorem okq_189_2 : ((pk189.drop 48).take 24).all (okQ 189) = true := by decide +kernel
set_option maxRecDepth 100000 in
theorem okq_189_3 : ((pk189.drop 72).take 24).all (okQ 189) = true := by decide +kernel
set_option maxRecDepth 100000 in
theorem okq_189_4 : ((pk189.drop 96).take 24).all (okQ 189) = true := by decide +kernel
set_option maxRecDepth 100000 in
theorem okq_189_5 : ((pk189.drop 120).take 24).all (okQ 189) = true := by decide +kernel
set_option maxRecDepth 100000 in
theorem okq_189_6 : ((pk189.drop 144).take 24).all (okQ 189) = true := by decide +kernel
set_option maxRecDepth 100000 in
theorem okq_189_7 : ((pk189.drop 168).take 24).all (okQ 189) = true := by decide +kernel
set_option maxRecDepth 100000 in
theorem okq_189_8 : ((pk189.drop 192).take 24).all (okQ 189) = true := by decide +kernel
set_option maxRecDepth 100000 in
theorem okq_189_9 : ((pk189.drop 216).take 24).all (okQ 189) = true := by decide +kernel
set_option maxRecDepth 100000 in
theorem okq_189_10 : ((pk189.drop 240).take 24).all (okQ 189) = true := by decide +kernel
set_option maxRecDepth 100000 in
theorem okq_189_11 : ((pk189.drop 264).take 24).all (okQ 189) = true := by decide +kernel
set_option maxRecDepth 100000 in
theorem okq_189_12 : ((pk189.drop 288).take 24).all (okQ 189) = true := by decide +kernel
set_option maxRecDepth 100000 in
theorem okm_189 : okM 189 = true := okM_of (k := 13) (tb := pk189) rfl (by decide +kernel) (fun i hi => by
  by_cases h0 : i = 0
  · subst h0; exact okq_189_0
  by_cases h1 : i = 1
  · subst h1; exact okq_189_1
  by_cases h2 : i = 2
  · subst h2; exact okq_189_2
  by_cases h3 : i = 3
  · subst h3; exact okq_189_3
  by_cases h4 : i = 4
  · subst h4; exact okq_189_4
  by_cases h5 : i = 5
  · subst h5; exact okq_189_5
  by_cases h6 : i = 6
  · subst h6; exact okq_189_6
  by_cases h7 : i = 7
  · subst h7; exact okq_189_7
  by_cases h8 : i = 8
  · subst h8; exact okq_189_8
  by_cases h9 : i = 9
  · subst h9; exact okq_189_9
  by_cases h10 : i = 10
  · subst h10; exact okq_189_10
  by_cases h11 : i = 11
  · subst h11; exact okq_189_11
  by_cases h12 : i = 12
  · subst h12; exact okq_189_12
  omega) (Nat.le_of_ble_eq_true rfl)
set_option maxRecDepth 100000 in
theorem okq_190_0 : ((pk190.drop 0).take 24).all (okQ 190) = true := by decide +kernel
set_option maxRecDepth 100000 in
theorem okq_190_1 : ((pk190.drop 24).take 24).all (okQ 190) = true := by decide +kernel
set_option maxRecDepth 100000 in
theorem okq_190_2 : ((pk190.drop 48).take 24).all (okQ 190) = true := by decide +kernel
set_option maxRecDepth 100000 in
theorem okq_190_3 : ((pk190.drop 72).take 24).all (okQ 190) = true := by decide +kernel
set_option maxRecDepth 100000 in
theorem okq_190_4 : ((pk190.drop 96).take 24).all (okQ 190) = true := by decide +kernel
set_option maxRecDepth 100000 in
theorem okq_190_5 : ((pk190.drop 120).take 24).all (okQ 190) = true := by decide +kernel
set_option maxRecDepth 100000 in
theorem okq_190_6 : ((pk190.drop 144).take 24).all (okQ 190) = true := by decide +kernel
set_option maxRecDepth 100000 in
theorem okq_190_7 : ((pk190.drop 168).take 24).all (okQ 190) = true := by decide +kernel
set_option maxRecDepth 100000 in
theorem okq_190_8 : ((pk190.drop 192).take 24).all (okQ 190) = true := by decide +kernel
set_option maxRecDepth 100000 in
theorem okq_190_9 : ((pk190.drop 216).take 24).all (okQ 190) = true := by decide +kernel
set_option maxRecDepth 100000 in
theorem okq_190_10 : ((pk190.drop 240).take 24).all (okQ 190) = true := by decide +kernel
set_option maxRecDepth 100000 in
theorem okq_190_11 : ((pk190.drop 264).take 24).all (okQ 190) = true := by decide +kernel
set_option maxRecDepth 100000 in
theorem okq_190_12 : ((pk190.drop 288).take 24).all (okQ 190) = true := by decide +kernel
set_option maxRecDepth 100000 in
theorem okq_190_13 : ((pk190.drop 312).take 24).all (okQ 190) = true := by decide +kernel
set_option maxRecDepth 100000 in
theorem okq_190_14 : ((pk190.drop 336).take 24).all (okQ 190) = true := by decide +kernel
set_option maxRecDepth 100000 in
theorem okq_190_15 : ((pk190.drop 360).take 24).all (okQ 190) = true := by decide +kernel
set_option maxRecDepth 100000 in
theorem okq_190_16 : ((pk190.drop 384).take 24).all (okQ 190) = true := by decide +kernel
set_option maxRecDepth 100000 in
theorem okq_190_17 : ((pk190.drop 408).take 24).all (okQ 190) = true := by decide +kernel
set_option maxRecDepth 100000 in
theorem okq_190_18 : ((pk190.drop 432).take 24).all (okQ 190) = true := by decide +kernel
set_option maxRecDepth 100000 in
theorem okq_190_19 : ((pk190.drop 456).take 24).all (okQ 190) = true := by decide +kernel
set_option maxRecDepth 100000 in
theorem okq_190_20 : ((pk190.drop 480).take 24).all (okQ 190) = true := by decide +kernel
set_option maxRecDepth 100000 in
theorem okq_190_21 : ((pk190.drop 504).take 24).all (okQ 190) = true := by decide +kernel
set_option maxRecDepth 100000 in
theorem okq_190_22 : ((pk190.drop 528).take 24).all (okQ 190) = true := by decide +kernel
set_option maxRecDepth 100000 in
theorem okm_190 : okM 190 = true := okM_of (k := 23) (tb := pk190) rfl (by decide +kernel) (fun i hi => by
  by_cases h0 : i = 0
  · subst h0; exact okq_190_0
  by_cases h1 : i = 1
  · subst h1; exact okq_190_1
  by_cases h2 : i = 2
  · subst h2; exact okq_190_2
  by_cases h3 : i = 3
  · subst h3; exact okq_190_3
  by_cases h4 : i = 4
  · subst h4; exact okq_190_4
  by_cases h5 : i = 5
  · subst h5; exact okq_190_5
  by_cases h6 : i = 6
  · subst h6; exact okq_190_6
  by_cases h7 : i = 7
  · subst h7; exact okq_190_7
  by_cases h8 : i = 8
  · subst h8; exact okq_190_8
  by_cases h9 : i = 9
  · subst h9; exact okq_190_9
  by_cases h10 : i = 10
  · subst h10; exact okq_190_10
  by_cases h11 : i = 11
  · subst h11; exact okq_190_11
  by_cases h12 : i = 12
  · subst h12; exact okq_190_12
  by_cases h13 : i = 13
  · subst h13; exact okq_190_13
  by_cases h14 : i = 14
  · subst h14; exact okq_190_14
  by_cases h15 : i = 15
  · subst h15; exact okq_190_15
  by_cases h16 : i = 16
  · subst h16; exact okq_190_16
  by_cases h17 : i = 17
  · subst h17; exact okq_190_17
  by_cases h18 : i = 18
  · subst h18; exact okq_190_18
  by_cases h19 : i = 19
  · subst h19; exact okq_190_19
  by_cases h20 : i = 20
  · subst h20; exact okq_190_20
  by_cases h21 : i = 21
  · subst h21; exact okq_190_21
  by_cases h22 : i = 22
  · subst h22; exact okq_190_22
  omega) (Nat.le_of_ble_eq_true rfl)
theorem okAll {j : Nat} (hj : j < 191) : okM j = true := by
  match j, hj with
  | 0, _ => exact okm_0
  | 1, _ => exact okm_1
  | 2, _ => exact okm_2
  | 3, _ => exact okm_3
  | 4, _ => exact okm_4
  | 5, _ => exact okm_5
  | 6, _ => exact okm_6
  | 7, _ => exact okm_7
  | 8, _ => exact okm_8
  | 9, _ => exact okm_9
  | 10, _ => exact okm_10
  | 11, _ => exact okm_11
  | 12, _ => exact okm_12
  | 13, _ => exact okm_13
  | 14, _ => exact okm_14
  | 15, _ => exact okm_15
  | 16, _ => exact okm_16
  | 17, _ => exact okm_17
  | 18, _ => exact okm_18
  | 19, _ => exact okm_19
  | 20, _ => exact okm_20
  | 21, _ => exact okm_21
  | 22, _ => exact okm_22
  | 23, _ => exact okm_23
  | 24, _ => exact okm_24
  | 25, _ => exact okm_25
  | 26, _ => exact okm_26
  | 27, _ => exact okm_27
  | 28, _ => exact okm_28
  | 29, _ => exact okm_29
  | 30, _ => exact okm_30
  | 31, _ => exact okm_31
  | 32, _ => exact okm_32
  | 33, _ => exact okm_33
  | 34, _ => exact okm_34
  | 35, _ => exact okm_35
  | 36, _ => exact okm_36
  | 37, _ => exact okm_37
  | 38, _ => exact okm_38
  | 39, _ => exact okm_39
  | 40, _ => exact okm_40
  | 41, _ => exact okm_41
  | 42, _ => exact okm_42
  | 43, _ => exact okm_43
  | 44, _ => exact okm_44
  | 45, _ => exact okm_45
  | 46, _ => exact okm_46
  | 47, _ => exact okm_47
  | 48, _ => exact okm_48
  | 49, _ => exact okm_49
  | 50, _ => exact okm_50
  | 51, _ => exact okm_51
  | 52, _ => exact okm_52
  | 53, _ => exact okm_53
  | 54, _ => exact okm_54
  | 55, _ => exact okm_55
  | 56, _ => exact okm_56
  | 57, _ => exact okm_57
  | 58, _ => exact okm_58
  | 59, _ => exact okm_59
  | 60, _ => exact okm_60
  | 61, _ => exact okm_61
  | 62, _ => exact okm_62
  | 63, _ => exact okm_63
  | 64, _ => exact okm_64
  | 65, _ => exact okm_65
  | 66, _ => exact okm_66
  | 67, _ => exact okm_67
  | 68, _ => exact okm_68
  | 69, _ => exact okm_69
  | 70, _ => exact okm_70
  | 71, _ => exact okm_71
  | 72, _ => exact okm_72
  | 73, _ => exact okm_73
  | 74, _ => exact okm_74
  | 75, _ => exact okm_75
  | 76, _ => exact okm_76
  | 77, _ => exact okm_77
  | 78, _ => exact okm_78
  | 79, _ => exact okm_79
  | 80, _ => exact okm_80
  | 81, _ => exact okm_81
  | 82, _ => exact okm_82
  | 83, _ => exact okm_83
  | 84, _ => exact okm_84
  | 85, _ => exact okm_85
  | 86, _ => exact okm_86
  | 87, _ => exact okm_87
  | 88, _ => exact okm_88
  | 89, _ => exact okm_89
  | 90, _ => exact okm_90
  | 91, _ => exact okm_91
  | 92, _ => exact okm_92
  | 93, _ => exact okm_93
  | 94, _ => exact okm_94
  | 95, _ => exact okm_95
  | 96, _ => exact okm_96
  | 97, _ => exact okm_97
  | 98, _ => exact okm_98
  | 99, _ => exact okm_99
  | 100, _ => exact okm_100
  | 101, _ => exact okm_101
  | 102, _ => exact okm_102
  | 103, _ => exact okm_103
  | 104, _ => exact okm_104
  | 105, _ => exact okm_105
  | 106, _ => exact okm_106
  | 107, _ => exact okm_107
  | 108, _ => exact okm_108
  | 109, _ => exact okm_109
  | 110, _ => exact okm_110
  | 111, _ => exact okm_111
  | 112, _ => exact okm_112
  | 113, _ => exact okm_113
  | 114, _ => exact okm_114
  | 115, _ => exact okm_115
  | 116, _ => exact okm_116
  | 117, _ => exact okm_117
  | 118, _ => exact okm_118
  | 119, _ => exact okm_119
  | 120, _ => exact okm_120
  | 121, _ => exact okm_121
  | 122, _ => exact okm_122
  | 123, _ => exact okm_123
  | 124, _ => exact okm_124
  | 125, _ => exact okm_125
  | 126, _ => exact okm_126
  | 127, _ => exact okm_127
  | 128, _ => exact okm_128
  | 129, _ => exact okm_129
  | 130, _ => exact okm_130
  | 131, _ => exact okm_131
  | 132, _ => exact okm_132
  | 133, _ => exact okm_133
  | 134, _ => exact okm_134
  | 135, _ => exact okm_135
  | 136, _ => exact okm_136
  | 137, _ => exact okm_137
  | 138, _ => exact okm_138
  | 139, _ => exact okm_139
  | 140, _ => exact okm_140
  | 141, _ => exact okm_141
  | 142, _ => exact okm_142
  | 143, _ => exact okm_143
  | 144, _ => exact okm_144
  | 145, _ => exact okm_145
  | 146, _ => exact okm_146
  | 147, _ => exact okm_147
  | 148, _ => exact okm_148
  | 149, _ => exact okm_149
  | 150, _ => exact okm_150
  | 151, _ => exact okm_151
  | 152, _ => exact okm_152
  | 153, _ => exact okm_153
  | 154, _ => exact okm_154
  | 155, _ => exact okm_155
  | 156, _ => exact okm_156
  | 157, _ => exact okm_157
  | 158, _ => exact okm_158
  | 159, _ => exact okm_159
  | 160, _ => exact okm_160
  | 161, _ => exact okm_161
  | 162, _ => exact okm_162
  | 163, _ => exact okm_163
  | 164, _ => exact okm_164
  | 165, _ => exact okm_165
  | 166, _ => exact okm_166
  | 167, _ => exact okm_167
  | 168, _ => exact okm_168
  | 169, _ => exact okm_169
  | 170, _ => exact okm_170
  | 171, _ => exact okm_171
  | 172, _ => exact okm_172
  | 173, _ => exact okm_173
  | 174, _ => exact okm_174
  | 175, _ => exact okm_175
  | 176, _ => exact okm_176
  | 177, _ => exact okm_177
  | 178, _ => exact okm_178
  | 179, _ => exact okm_179
  | 180, _ => exact okm_180
  | 181, _ => exact okm_181
  | 182, _ => exact okm_182
  | 183, _ => exact okm_183
  | 184, _ => exact okm_184
  | 185, _ => exact okm_185
  | 186, _ => exact okm_186
  | 187, _ => exact okm_187
  | 188, _ => exact okm_188
  | 189, _ => exact okm_189
  | 190, _ => exact okm_190
  | k + 191, h => omega
