set_option maxRecDepth 100000 in
theorem okq_140_0 : ((pk140.drop 0).take 24).all (okQ 140) = true := by decide +kernel
set_option maxRecDepth 100000 in
theorem okq_140_1 : ((pk140.drop 24).take 24).all (okQ 140) = true := by decide +kernel
set_option maxRecDepth 100000 in
theorem okm_140 : okM 140 = true := okM_of (k := 2) (tb := pk140) rfl (by decide +kernel) (fun i hi => by
  by_cases h0 : i = 0
  · subst h0; exact okq_140_0
  by_cases h1 : i = 1
  · subst h1; exact okq_140_1
  omega) (Nat.le_of_ble_eq_true rfl)
set_option maxRecDepth 100000 in
theorem okq_141_0 : ((pk141.drop 0).take 24).all (okQ 141) = true := by decide +kernel
set_option maxRecDepth 100000 in
theorem okq_141_1 : ((pk141.drop 24).take 24).all (okQ 141) = true := by decide +kernel
set_option maxRecDepth 100000 in
theorem okq_141_2 : ((pk141.drop 48).take 24).all (okQ 141) = true := by decide +kernel
set_option maxRecDepth 100000 in
theorem okm_141 : okM 141 = true := okM_of (k := 3) (tb := pk141) rfl (by decide +kernel) (fun i hi => by
  by_cases h0 : i = 0
  · subst h0; exact okq_141_0
  by_cases h1 : i = 1
  · subst h1; exact okq_141_1
  by_cases h2 : i = 2
  · subst h2; exact okq_141_2
  omega) (Nat.le_of_ble_eq_true rfl)
set_option maxRecDepth 100000 in
theorem okq_142_0 : ((pk142.drop 0).take 24).all (okQ 142) = true := by decide +kernel
set_option maxRecDepth 100000 in
theorem okq_142_1 : ((pk142.drop 24).take 24).all (okQ 142) = true := by decide +kernel
set_option maxRecDepth 100000 in
theorem okq_142_2 : ((pk142.drop 48).take 24).all (okQ 142) = true := by decide +kernel
set_option maxRecDepth 100000 in
theorem okq_142_3 : ((pk142.drop 72).take 24).all (okQ 142) = true := by decide +kernel
set_option maxRecDepth 100000 in
theorem okm_142 : okM 142 = true := okM_of (k := 4) (tb := pk142) rfl (by decide +kernel) (fun i hi => by
  by_cases h0 : i = 0
  · subst h0; exact okq_142_0
  by_cases h1 : i = 1
  · subst h1; exact okq_142_1
  by_cases h2 : i = 2
  · subst h2; exact okq_142_2
  by_cases h3 : i = 3
  · subst h3; exact okq_142_3
  omega) (Nat.le_of_ble_eq_true rfl)
set_option maxRecDepth 100000 in
theorem okq_143_0 : ((pk143.drop 0).take 24).all (okQ 143) = true := by decide +kernel
set_option maxRecDepth 100000 in
theorem okm_143 : okM 143 = true := okM_of (k := 1) (tb := pk143) rfl (by decide +kernel) (fun i hi => by
  by_cases h0 : i = 0
  · subst h0; exact okq_143_0
  omega) (Nat.le_of_ble_eq_true rfl)
set_option maxRecDepth 100000 in
theorem okq_144_0 : ((pk144.drop 0).take 24).all (okQ 144) = true := by decide +kernel
set_option maxRecDepth 100000 in
theorem okq_144_1 : ((pk144.drop 24).take 24).all (okQ 144) = true := by decide +kernel
set_option maxRecDepth 100000 in
theorem okq_144_2 : ((pk144.drop 48).take 24).all (okQ 144) = true := by decide +kernel
set_option maxRecDepth 100000 in
theorem okm_144 : okM 144 = true := okM_of (k := 3) (tb := pk144) rfl (by decide +kernel) (fun i hi => by
  by_cases h0 : i = 0
  · subst h0; exact okq_144_0
  by_cases h1 : i = 1
  · subst h1; exact okq_144_1
  by_cases h2 : i = 2
  · subst h2; exact okq_144_2
  omega) (Nat.le_of_ble_eq_true rfl)
set_option maxRecDepth 100000 in
theorem okq_145_0 : ((pk145.drop 0).take 24).all (okQ 145) = true := by decide +kernel
set_option maxRecDepth 100000 in
theorem okm_145 : okM 145 = true := okM_of (k := 1) (tb := pk145) rfl (by decide +kernel) (fun i hi => by
  by_cases h0 : i = 0
  · subst h0; exact okq_145_0
  omega) (Nat.le_of_ble_eq_true rfl)
set_option maxRecDepth 100000 in
theorem okq_146_0 : ((pk146.drop 0).take 24).all (okQ 146) = true := by decide +kernel
set_option maxRecDepth 100000 in
theorem okm_146 : okM 146 = true := okM_of (k := 1) (tb := pk146) rfl (by decide +kernel) (fun i hi => by
  by_cases h0 : i = 0
  · subst h0; exact okq_146_0
  omega) (Nat.le_of_ble_eq_true rfl)
set_option maxRecDepth 100000 in
theorem okq_147_0 : ((pk147.drop 0).take 24).all (okQ 147) = true := by decide +kernel
set_option maxRecDepth 100000 in
theorem okm_147 : okM 147 = true := okM_of (k := 1) (tb := pk147) rfl (by decide +kernel) (fun i hi => by
  by_cases h0 : i = 0
  · subst h0; exact okq_147_0
  omega) (Nat.le_of_ble_eq_true rfl)
set_option maxRecDepth 100000 in
theorem okq_148_0 : ((pk148.drop 0).take 24).all (okQ 148) = true := by decide +kernel
set_option maxRecDepth 100000 in
theorem okm_148 : okM 148 = true := okM_of (k := 1) (tb := pk148) rfl (by decide +kernel) (fun i hi => by
  by_cases h0 : i = 0
  · subst h0; exact okq_148_0
  omega) (Nat.le_of_ble_eq_true rfl)
set_option maxRecDepth 100000 in
theorem okq_149_0 : ((pk149.drop 0).take 24).all (okQ 149) = true := by decide +kernel
set_option maxRecDepth 100000 in
theorem okm_149 : okM 149 = true := okM_of (k := 1) (tb := pk149) rfl (by decide +kernel) (fun i hi => by
  by_cases h0 : i = 0
  · subst h0; exact okq_149_0
  omega) (Nat.le_of_ble_eq_true rfl)
set_option maxRecDepth 100000 in
theorem okq_150_0 : ((pk150.drop 0).take 24).all (okQ 150) = true := by decide +kernel
set_option maxRecDepth 100000 in
theorem okm_150 : okM 150 = true := okM_of (k := 1) (tb := pk150) rfl (by decide +kernel) (fun i hi => by
  by_cases h0 : i = 0
  · subst h0; exact okq_150_0
  omega) (Nat.le_of_ble_eq_true rfl)
set_option maxRecDepth 100000 in
theorem okq_151_0 : ((pk151.drop 0).take 24).all (okQ 151) = true := by decide +kernel
set_option maxRecDepth 100000 in
theorem okm_151 : okM 151 = true := okM_of (k := 1) (tb := pk151) rfl (by decide +kernel) (fun i hi => by
  by_cases h0 : i = 0
  · subst h0; exact okq_151_0
  omega) (Nat.le_of_ble_eq_true rfl)
set_option maxRecDepth 100000 in
theorem okq_152_0 : ((pk152.drop 0).take 24).all (okQ 152) = true := by decide +kernel
set_option maxRecDepth 100000 in
theorem okm_152 : okM 152 = true := okM_of (k := 1) (tb := pk152) rfl (by decide +kernel) (fun i hi => by
  by_cases h0 : i = 0
  · subst h0; exact okq_152_0
  omega) (Nat.le_of_ble_eq_true rfl)
set_option maxRecDepth 100000 in
theorem okq_153_0 : ((pk153.drop 0).take 24).all (okQ 153) = true := by decide +kernel
set_option maxRecDepth 100000 in
theorem okm_153 : okM 153 = true := okM_of (k := 1) (tb := pk153) rfl (by decide +kernel) (fun i hi => by
  by_cases h0 : i = 0
  · subst h0; exact okq_153_0
  omega) (Nat.le_of_ble_eq_true rfl)
set_option maxRecDepth 100000 in
theorem okq_154_0 : ((pk154.drop 0).take 24).all (okQ 154) = true := by decide +kernel
set_option maxRecDepth 100000 in
theorem okq_154_1 : ((pk154.drop 24).take 24).all (okQ 154) = true := by decide +kernel
set_option maxRecDepth 100000 in
theorem okq_154_2 : ((pk154.drop 48).take 24).all (okQ 154) = true := by decide +kernel
set_option maxRecDepth 100000 in
theorem okq_154_3 : ((pk154.drop 72).take 24).all (okQ 154) = true := by decide +kernel
set_option maxRecDepth 100000 in
theorem okm_154 : okM 154 = true := okM_of (k := 4) (tb := pk154) rfl (by decide +kernel) (fun i hi => by
  by_cases h0 : i = 0
  · subst h0; exact okq_154_0
  by_cases h1 : i = 1
  · subst h1; exact okq_154_1
  by_cases h2 : i = 2
  · subst h2; exact okq_154_2
  by_cases h3 : i = 3
  · subst h3; exact okq_154_3
  omega) (Nat.le_of_ble_eq_true rfl)
set_option maxRecDepth 100000 in
theorem okq_155_0 : ((pk155.drop 0).take 24).all (okQ 155) = true := by decide +kernel
set_option maxRecDepth 100000 in
theorem okq_155_1 : ((pk155.drop 24).take 24).all (okQ 155) = true := by decide +kernel
set_option maxRecDepth 100000 in
theorem okq_155_2 : ((pk155.drop 48).take 24).all (okQ 155) = true := by decide +kernel
set_option maxRecDepth 100000 in
theorem okm_155 : okM 155 = true := okM_of (k := 3) (tb := pk155) rfl (by decide +kernel) (fun i hi => by
  by_cases h0 : i = 0
  · subst h0; exact okq_155_0
  by_cases h1 : i = 1
  · subst h1; exact okq_155_1
  by_cases h2 : i = 2
  · subst h2; exact okq_155_2
  omega) (Nat.le_of_ble_eq_true rfl)
set_option maxRecDepth 100000 in
theorem okq_156_0 : ((pk156.drop 0).take 24).all (okQ 156) = true := by decide +kernel
set_option maxRecDepth 100000 in
theorem okq_156_1 : ((pk156.drop 24).take 24).all (okQ 156) = true := by decide +kernel
set_option maxRecDepth 100000 in
theorem okq_156_2 : ((pk156.drop 48).take 24).all (okQ 156) = true := by decide +kernel
set_option maxRecDepth 100000 in
theorem okm_156 : okM 156 = true := okM_of (k := 3) (tb := pk156) rfl (by decide +kernel) (fun i hi => by
  by_cases h0 : i = 0
  · subst h0; exact okq_156_0
  by_cases h1 : i = 1
  · subst h1; exact okq_156_1
  by_cases h2 : i = 2
  · subst h2; exact okq_156_2
  omega) (Nat.le_of_ble_eq_true rfl)
set_option maxRecDepth 100000 in
theorem okq_157_0 : ((pk157.drop 0).take 24).all (okQ 157) = true := by decide +kernel
set_option maxRecDepth 100000 in
theorem okm_157 : okM 157 = true := okM_of (k := 1) (tb := pk157) rfl (by decide +kernel) (fun i hi => by
  by_cases h0 : i = 0
  · subst h0; exact okq_157_0
  omega) (Nat.le_of_ble_eq_true rfl)
set_option maxRecDepth 100000 in
theorem okq_158_0 : ((pk158.drop 0).take 24).all (okQ 158) = true := by decide +kernel
set_option maxRecDepth 100000 in
theorem okm_158 : okM 158 = true := okM_of (k := 1) (tb := pk158) rfl (by decide +kernel) (fun i hi => by
  by_cases h0 : i = 0
  · subst h0; exact okq_158_0
  omega) (Nat.le_of_ble_eq_true rfl)
set_option maxRecDepth 100000 in
theorem okq_159_0 : ((pk159.drop 0).take 24).all (okQ 159) = true := by decide +kernel
set_option maxRecDepth 100000 in
theorem okm_159 : okM 159 = true := okM_of (k := 1) (tb := pk159) rfl (by decide +kernel) (fun i hi => by
  by_cases h0 : i = 0
  · subst h0; exact okq_159_0
  omega) (Nat.le_of_ble_eq_true rfl)
set_option maxRecDepth 100000 in
theorem okq_160_0 : ((pk160.drop 0).take 24).all (okQ 160) = true := by decide +kernel
set_option maxRecDepth 100000 in
theorem okm_160 : okM 160 = true := okM_of (k := 1) (tb := pk160) rfl (by decide +kernel) (fun i hi => by
  by_cases h0 : i = 0
  · subst h0; exact okq_160_0
  omega) (Nat.le_of_ble_eq_true rfl)
set_option maxRecDepth 100000 in
theorem okq_161_0 : ((pk161.drop 0).take 24).all (okQ 161) = true := by decide +kernel
set_option maxRecDepth 100000 in
theorem okm_161 : okM 161 = true := okM_of (k := 1) (tb := pk161) rfl (by decide +kernel) (fun i hi => by
  by_cases h0 : i = 0
  · subst h0; exact okq_161_0
  omega) (Nat.le_of_ble_eq_true rfl)
set_option maxRecDepth 100000 in
theorem okq_162_0 : ((pk162.drop 0).take 24).all (okQ 162) = true := by decide +kernel
set_option maxRecDepth 100000 in
theorem okq_162_1 : ((pk162.drop 24).take 24).all (okQ 162) = true := by decide +kernel
set_option maxRecDepth 100000 in
theorem okq_162_2 : ((pk162.drop 48).take 24).all (okQ 162) = true := by decide +kernel
set_option maxRecDepth 100000 in
theorem okq_162_3 : ((pk162.drop 72).take 24).all (okQ 162) = true := by decide +kernel
set_option maxRecDepth 100000 in
theorem okm_162 : okM 162 = true := okM_of (k := 4) (tb := pk162) rfl (by decide +kernel) (fun i hi => by
  by_cases h0 : i = 0
  · subst h0; exact okq_162_0
  by_cases h1 : i = 1
  · subst h1; exact okq_162_1
  by_cases h2 : i = 2
  · subst h2; exact okq_162_2
  by_cases h3 : i = 3
  · subst h3; exact okq_162_3
  omega) (Nat.le_of_ble_eq_true rfl)
set_option maxRecDepth 100000 in
theorem okq_163_0 : ((pk163.drop 0).take 24).all (okQ 163) = true := by decide +kernel
set_option maxRecDepth 100000 in
theorem okq_163_1 : ((pk163.drop 24).take 24).all (okQ 163) = true := by decide +kernel
set_option maxRecDepth 100000 in
theorem okq_163_2 : ((pk163.drop 48).take 24).all (okQ 163) = true := by decide +kernel
set_option maxRecDepth 100000 in
theorem okq_163_3 : ((pk163.drop 72).take 24).all (okQ 163) = true := by decide +kernel
set_option maxRecDepth 100000 in
theorem okm_163 : okM 163 = true := okM_of (k := 4) (tb := pk163) rfl (by decide +kernel) (fun i hi => by
  by_cases h0 : i = 0
  · subst h0; exact okq_163_0
  by_cases h1 : i = 1
  · subst h1; exact okq_163_1
  by_cases h2 : i = 2
  · subst h2; exact okq_163_2
  by_cases h3 : i = 3
  · subst h3; exact okq_163_3
  omega) (Nat.le_of_ble_eq_true rfl)
set_option maxRecDepth 100000 in
theorem okq_164_0 : ((pk164.drop 0).take 24).all (okQ 164) = true := by decide +kernel
set_option maxRecDepth 100000 in
theorem okq_164_1 : ((pk164.drop 24).take 24).all (okQ 164) = true := by decide +kernel
set_option maxRecDepth 100000 in
theorem okq_164_2 : ((pk164.drop 48).take 24).all (okQ 164) = true := by decide +kernel
set_option maxRecDepth 100000 in
theorem okq_164_3 : ((pk164.drop 72).take 24).all (okQ 164) = true := by decide +kernel
set_option maxRecDepth 100000 in
theorem okq_164_4 : ((pk164.drop 96).take 24).all (okQ 164) = true := by decide +kernel
set_option maxRecDepth 100000 in
theorem okq_164_5 : ((pk164.drop 120).take 24).all (okQ 164) = true := by decide +kernel
set_option maxRecDepth 100000 in
theorem okm_164 : okM 164 = true := okM_of (k := 6) (tb := pk164) rfl (by decide +kernel) (fun i hi => by
  by_cases h0 : i = 0
  · subst h0; exact okq_164_0
  by_cases h1 : i = 1
  · subst h1; exact okq_164_1
  by_cases h2 : i = 2
  · subst h2; exact okq_164_2
  by_cases h3 : i = 3
  · subst h3; exact okq_164_3
  by_cases h4 : i = 4
  · subst h4; exact okq_164_4
  by_cases h5 : i = 5
  · subst h5; exact okq_164_5
  omega) (Nat.le_of_ble_eq_true rfl)
set_option maxRecDepth 100000 in
theorem okq_165_0 : ((pk165.drop 0).take 24).all (okQ 165) = true := by decide +kernel
set_option maxRecDepth 100000 in
theorem okm_165 : okM 165 = true := okM_of (k := 1) (tb := pk165) rfl (by decide +kernel) (fun i hi => by
  by_cases h0 : i = 0
  · subst h0; exact okq_165_0
  omega) (Nat.le_of_ble_eq_true rfl)
set_option maxRecDepth 100000 in
theorem okq_166_0 : ((pk166.drop 0).take 24).all (okQ 166) = true := by decide +kernel
set_option maxRecDepth 100000 in
theorem okq_166_1 : ((pk166.drop 24).take 24).all (okQ 166) = true := by decide +kernel
set_option maxRecDepth 100000 in
theorem okq_166_2 : ((pk166.drop 48).take 24).all (okQ 166) = true := by decide +kernel
set_option maxRecDepth 100000 in
theorem okm_166 : okM 166 = true := okM_of (k := 3) (tb := pk166) rfl (by decide +kernel) (fun i hi => by
  by_cases h0 : i = 0
  · subst h0; exact okq_166_0
  by_cases h1 : i = 1
  · subst h1; exact okq_166_1
  by_cases h2 : i = 2
  · subst h2; exact okq_166_2
  omega) (Nat.le_of_ble_eq_true rfl)
set_option maxRecDepth 100000 in
theorem okq_167_0 : ((pk167.drop 0).take 24).all (okQ 167) = true := by decide +kernel
set_option maxRecDepth 100000 in
theorem okq_167_1 : ((pk167.drop 24).take 24).all (okQ 167) = true := by decide +kernel
set_option maxRecDepth 100000 in
theorem okq_167_2 : ((pk167.drop 48).take 24).all (okQ 167) = true := by decide +kernel
set_option maxRecDepth 100000 in
theorem okq_167_3 : ((pk167.drop 72).take 24).all (okQ 167) = true := by decide +kernel
set_option maxRecDepth 100000 in
theorem okm_167 : okM 167 = true := okM_of (k := 4) (tb := pk167) rfl (by decide +kernel) (fun i hi => by
  by_cases h0 : i = 0
  · subst h0; exact okq_167_0
  by_cases h1 : i = 1
  · subst h1; exact okq_167_1
  by_cases h2 : i = 2
  · subst h2; exact okq_167_2
  by_cases h3 : i = 3
  · subst h3; exact okq_167_3
  omega) (Nat.le_of_ble_eq_true rfl)
set_option maxRecDepth 100000 in
theorem okq_168_0 : ((pk168.drop 0).take 24).all (okQ 168) = true := by decide +kernel
set_option maxRecDepth 100000 in
theorem okq_168_1 : ((pk168.drop 24).take 24).all (okQ 168) = true := by decide +kernel
set_option maxRecDepth 100000 in
theorem okm_168 : okM 168 = true := okM_of (k := 2) (tb := pk168) rfl (by decide +kernel) (fun i hi => by
  by_cases h0 : i = 0
  · subst h0; exact okq_168_0
  by_cases h1 : i = 1
  · subst h1; exact okq_168_1
  omega) (Nat.le_of_ble_eq_true rfl)
set_option maxRecDepth 100000 in
theorem okq_169_0 : ((pk169.drop 0).take 24).all (okQ 169) = true := by decide +kernel
set_option maxRecDepth 100000 in
theorem okm_169 : okM 169 = true := okM_of (k := 1) (tb := pk169) rfl (by decide +kernel) (fun i hi => by
  by_cases h0 : i = 0
  · subst h0; exact okq_169_0
  omega) (Nat.le_of_ble_eq_true rfl)
set_option maxRecDepth 100000 in
theorem okq_170_0 : ((pk170.drop 0).take 24).all (okQ 170) = true := by decide +kernel
set_option maxRecDepth 100000 in
theorem okq_170_1 : ((pk170.drop 24).take 24).all (okQ 170) = true := by decide +kernel
set_option maxRecDepth 100000 in
theorem okm_170 : okM 170 = true := okM_of (k := 2) (tb := pk170) rfl (by decide +kernel) (fun i hi => by
  by_cases h0 : i = 0
  · subst h0; exact okq_170_0
  by_cases h1 : i = 1
  · subst h1; exact okq_170_1
  omega) (Nat.le_of_ble_eq_true rfl)
set_option maxRecDepth 100000 in
theorem okq_171_0 : ((pk171.drop 0).take 24).all (okQ 171) = true := by decide +kernel
set_option maxRecDepth 100000 in
theorem okq_171_1 : ((pk171.drop 24).take 24).all (okQ 171) = true := by decide +kernel
set_option maxRecDepth 100000 in
theorem okm_171 : okM 171 = true := okM_of (k := 2) (tb := pk171) rfl (by decide +kernel) (fun i hi => by
  by_cases h0 : i = 0
  · subst h0; exact okq_171_0
  by_cases h1 : i = 1
  · subst h1; exact okq_171_1
  omega) (Nat.le_of_ble_eq_true rfl)
set_option maxRecDepth 100000 in
theorem okq_172_0 : ((pk172.drop 0).take 24).all (okQ 172) = true := by decide +kernel
set_option maxRecDepth 100000 in
theorem okq_172_1 : ((pk172.drop 24).take 24).all (okQ 172) = true := by decide +kernel
set_option maxRecDepth 100000 in
theorem okm_172 : okM 172 = true := okM_of (k := 2) (tb := pk172) rfl (by decide +kernel) (fun i hi => by
  by_cases h0 : i = 0
  · subst h0; exact okq_172_0
  by_cases h1 : i = 1
  · subst h1; exact okq_172_1
  omega) (Nat.le_of_ble_eq_true rfl)
set_option maxRecDepth 100000 in
theorem okq_173_0 : ((pk173.drop 0).take 24).all (okQ 173) = true := by decide +kernel
set_option maxRecDepth 100000 in
theorem okm_173 : okM 173 = true := okM_of (k := 1) (tb := pk173) rfl (by decide +kernel) (fun i hi => by
  by_cases h0 : i = 0
  · subst h0; exact okq_173_0
  omega) (Nat.le_of_ble_eq_true rfl)
set_option maxRecDepth 100000 in
theorem okq_174_0 : ((pk174.drop 0).take 24).all (okQ 174) = true := by decide +kernel
set_option maxRecDepth 100000 in
theorem okm_174 : okM 174 = true := okM_of (k := 1) (tb := pk174) rfl (by decide +kernel) (fun i hi => by
  by_cases h0 : i = 0
  · subst h0; exact okq_174_0
  omega) (Nat.le_of_ble_eq_true rfl)
set_option maxRecDepth 100000 in
theorem okq_175_0 : ((pk175.drop 0).take 24).all (okQ 175) = true := by decide +kernel
set_option maxRecDepth 100000 in
theorem okm_175 : okM 175 = true := okM_of (k := 1) (tb := pk175) rfl (by decide +kernel) (fun i hi => by
  by_cases h0 : i = 0
  · subst h0; exact okq_175_0
  omega) (Nat.le_of_ble_eq_true rfl)
set_option maxRecDepth 100000 in
theorem okq_176_0 : ((pk176.drop 0).take 24).all (okQ 176) = true := by decide +kernel
set_option maxRecDepth 100000 in
theorem okm_176 : okM 176 = true := okM_of (k := 1) (tb := pk176) rfl (by decide +kernel) (fun i hi => by
  by_cases h0 : i = 0
  · subst h0; exact okq_176_0
  omega) (Nat.le_of_ble_eq_true rfl)
set_option maxRecDepth 100000 in
theorem okq_177_0 : ((pk177.drop 0).take 24).all (okQ 177) = true := by decide +kernel
set_option maxRecDepth 100000 in
theorem okq_177_1 : ((pk177.drop 24).take 24).all (okQ 177) = true := by decide +kernel
set_option maxRecDepth 100000 in
theorem okm_177 : okM 177 = true := okM_of (k := 2) (tb := pk177) rfl (by decide +kernel) (fun i hi => by
  by_cases h0 : i = 0
  · subst h0; exact okq_177_0
  by_cases h1 : i = 1
  · subst h1; exact okq_177_1
  omega) (Nat.le_of_ble_eq_true rfl)
set_option maxRecDepth 100000 in
theorem okq_178_0 : ((pk178.drop 0).take 24).all (okQ 178) = true := by decide +kernel
set_option maxRecDepth 100000 in
theorem okm_178 : okM 178 = true := okM_of (k := 1) (tb := pk178) rfl (by decide +kernel) (fun i hi => by
  by_cases h0 : i = 0
  · subst h0; exact okq_178_0
  omega) (Nat.le_of_ble_eq_true rfl)
set_option maxRecDepth 100000 in
theorem okq_179_0 : ((pk179.drop 0).take 24).all (okQ 179) = true := by decide +kernel
set_option maxRecDepth 100000 in
theorem okq_179_1 : ((pk179.drop 24).take 24).all (okQ 179) = true := by decide +kernel
set_option maxRecDepth 100000 in
theorem okq_179_2 : ((pk179.drop 48).take 24).all (okQ 179) = true := by decide +kernel
set_option maxRecDepth 100000 in
theorem okm_179 : okM 179 = true := okM_of (k := 3) (tb := pk179) rfl (by decide +kernel) (fun i hi => by
  by_cases h0 : i = 0
  · subst h0; exact okq_179_0
  by_cases h1 : i = 1
  · subst h1; exact okq_179_1
  by_cases h2 : i = 2
  · subst h2; exact okq_179_2
  omega) (Nat.le_of_ble_eq_true rfl)
set_option maxRecDepth 100000 in
theorem okq_180_0 : ((pk180.drop 0).take 24).all (okQ 180) = true := by decide +kernel
set_option maxRecDepth 100000 in
theorem okq_180_1 : ((pk180.drop 24).take 24).all (okQ 180) = true := by decide +kernel
set_option maxRecDepth 100000 in
theorem okq_180_2 : ((pk180.drop 48).take 24).all (okQ 180) = true := by decide +kernel
set_option maxRecDepth 100000 in
theorem okm_180 : okM 180 = true := okM_of (k := 3) (tb := pk180) rfl (by decide +kernel) (fun i hi => by
  by_cases h0 : i = 0
  · subst h0; exact okq_180_0
  by_cases h1 : i = 1
  · subst h1; exact okq_180_1
  by_cases h2 : i = 2
  · subst h2; exact okq_180_2
  omega) (Nat.le_of_ble_eq_true rfl)
set_option maxRecDepth 100000 in
theorem okq_181_0 : ((pk181.drop 0).take 24).all (okQ 181) = true := by decide +kernel
set_option maxRecDepth 100000 in
theorem okq_181_1 : ((pk181.drop 24).take 24).all (okQ 181) = true := by decide +kernel
set_option maxRecDepth 100000 in
theorem okq_181_2 : ((pk181.drop 48).take 24).all (okQ 181) = true := by decide +kernel
set_option maxRecDepth 100000 in
theorem okm_181 : okM 181 = true := okM_of (k := 3) (tb := pk181) rfl (by decide +kernel) (fun i hi => by
  by_cases h0 : i = 0
  · subst h0; exact okq_181_0
  by_cases h1 : i = 1
  · subst h1; exact okq_181_1
  by_cases h2 : i = 2
  · subst h2; exact okq_181_2
  omega) (Nat.le_of_ble_eq_true rfl)
set_option maxRecDepth 100000 in
theorem okq_182_0 : ((pk182.drop 0).take 24).all (okQ 182) = true := by decide +kernel
set_option maxRecDepth 100000 in
theorem okm_182 : okM 182 = true := okM_of (k := 1) (tb := pk182) rfl (by decide +kernel) (fun i hi => by
  by_cases h0 : i = 0
  · subst h0; exact okq_182_0
  omega) (Nat.le_of_ble_eq_true rfl)
set_option maxRecDepth 100000 in
theorem okq_183_0 : ((pk183.drop 0).take 24).all (okQ 183) = true := by decide +kernel
set_option maxRecDepth 100000 in
theorem okq_183_1 : ((pk183.drop 24).take 24).all (okQ 183) = true := by decide +kernel
set_option maxRecDepth 100000 in
theorem okm_183 : okM 183 = true := okM_of (k := 2) (tb := pk183) rfl (by decide +kernel) (fun i hi => by
  by_cases h0 : i = 0
  · subst h0; exact okq_183_0
  by_cases h1 : i = 1
  · subst h1; exact okq_183_1
  omega) (Nat.le_of_ble_eq_true rfl)
set_option maxRecDepth 100000 in
theorem okq_184_0 : ((pk184.drop 0).take 24).all (okQ 184) = true := by decide +kernel
set_option maxRecDepth 100000 in
theorem okm_184 : okM 184 = true := okM_of (k := 1) (tb := pk184) rfl (by decide +kernel) (fun i hi => by
  by_cases h0 : i = 0
  · subst h0; exact okq_184_0
  omega) (Nat.le_of_ble_eq_true rfl)
set_option maxRecDepth 100000 in
theorem okq_185_0 : ((pk185.drop 0).take 24).all (okQ 185) = true := by decide +kernel
set_option maxRecDepth 100000 in
theorem okq_185_1 : ((pk185.drop 24).take 24).all (okQ 185) = true := by decide +kernel
set_option maxRecDepth 100000 in
theorem okm_185 : okM 185 = true := okM_of (k := 2) (tb := pk185) rfl (by decide +kernel) (fun i hi => by
  by_cases h0 : i = 0
  · subst h0; exact okq_185_0
  by_cases h1 : i = 1
  · subst h1; exact okq_185_1
  omega) (Nat.le_of_ble_eq_true rfl)
set_option maxRecDepth 100000 in
theorem okq_186_0 : ((pk186.drop 0).take 24).all (okQ 186) = true := by decide +kernel
set_option maxRecDepth 100000 in
theorem okq_186_1 : ((pk186.drop 24).take 24).all (okQ 186) = true := by decide +kernel
set_option maxRecDepth 100000 in
theorem okm_186 : okM 186 = true := okM_of (k := 2) (tb := pk186) rfl (by decide +kernel) (fun i hi => by
  by_cases h0 : i = 0
  · subst h0; exact okq_186_0
  by_cases h1 : i = 1
  · subst h1; exact okq_186_1
  omega) (Nat.le_of_ble_eq_true rfl)
set_option maxRecDepth 100000 in
theorem okq_187_0 : ((pk187.drop 0).take 24).all (okQ 187) = true := by decide +kernel
set_option maxRecDepth 100000 in
theorem okm_187 : okM 187 = true := okM_of (k := 1) (tb := pk187) rfl (by decide +kernel) (fun i hi => by
  by_cases h0 : i = 0
  · subst h0; exact okq_187_0
  omega) (Nat.le_of_ble_eq_true rfl)
set_option maxRecDepth 100000 in
theorem okq_188_0 : ((pk188.drop 0).take 24).all (okQ 188) = true := by decide +kernel
set_option maxRecDepth 100000 in
theorem okm_188 : okM 188 = true := okM_of (k := 1) (tb := pk188) rfl (by decide +kernel) (fun i hi => by
  by_cases h0 : i = 0
  · subst h0; exact okq_188_0
  omega) (Nat.le_of_ble_eq_true rfl)
set_option maxRecDepth 100000 in
theorem okq_189_0 : ((pk189.drop 0).take 24).all (okQ 189) = true := by decide +kernel
set_option maxRecDepth 100000 in
theorem okq_189_1 : ((pk189.drop 24).take 24).all (okQ 189) = true := by decide +kernel
set_option maxRecDepth 100000 in
theorem okm_189 : okM 189 = true := okM_of (k := 2) (tb := pk189) rfl (by decide +kernel) (fun i hi => by
  by_cases h0 : i = 0
  · subst h0; exact okq_189_0
  by_cases h1 : i = 1
  · subst h1; exact okq_189_1
  omega) (Nat.le_of_ble_eq_true rfl)
set_option maxRecDepth 100000 in
theorem okq_190_0 : ((pk190.drop 0).take 24).all (okQ 190) = true := by decide +kernel
set_option maxRecDepth 100000 in
theorem okq_190_1 : ((pk190.drop 24).take 24).all (okQ 190) = true := by decide +kernel
set_option maxRecDepth 100000 in
theorem okm_190 : okM 190 = true := okM_of (k := 2) (tb := pk190) rfl (by decide +kernel) (fun i hi => by
  by_cases h0 : i = 0
  · subst h0; exact okq_190_0
  by_cases h1 : i = 1
  · subst h1; exact okq_190_1
  omega) (Nat.le_of_ble_eq_true rfl)
set_option maxRecDepth 100000 in
theorem okq_191_0 : ((pk191.drop 0).take 24).all (okQ 191) = true := by decide +kernel
set_option maxRecDepth 100000 in
theorem okq_191_1 : ((pk191.drop 24).take 24).all (okQ 191) = true := by decide +kernel
set_option maxRecDepth 100000 in
theorem okm_191 : okM 191 = true := okM_of (k := 2) (tb := pk191) rfl (by decide +kernel) (fun i hi => by
  by_cases h0 : i = 0
  · subst h0; exact okq_191_0
  by_cases h1 : i = 1
  · subst h1; exact okq_191_1
  omega) (Nat.le_of_ble_eq_true rfl)
set_option maxRecDepth 100000 in
theorem okq_192_0 : ((pk192.drop 0).take 24).all (okQ 192) = true := by decide +kernel
set_option maxRecDepth 100000 in
theorem okm_192 : okM 192 = true := okM_of (k := 1) (tb := pk192) rfl (by decide +kernel) (fun i hi => by
  by_cases h0 : i = 0
  · subst h0; exact okq_192_0
  omega) (Nat.le_of_ble_eq_true rfl)
set_option maxRecDepth 100000 in
theorem okq_193_0 : ((pk193.drop 0).take 24).all (okQ 193) = true := by decide +kernel
set_option maxRecDepth 100000 in
theorem okm_193 : okM 193 = true := okM_of (k := 1) (tb := pk193) rfl (by decide +kernel) (fun i hi => by
  by_cases h0 : i = 0
  · subst h0; exact okq_193_0
  omega) (Nat.le_of_ble_eq_true rfl)
set_option maxRecDepth 100000 in
theorem okq_194_0 : ((pk194.drop 0).take 24).all (okQ 194) = true := by decide +kernel
set_option maxRecDepth 100000 in
theorem okm_194 : okM 194 = true := okM_of (k := 1) (tb := pk194) rfl (by decide +kernel) (fun i hi => by
  by_cases h0 : i = 0
  · subst h0; exact okq_194_0
  omega) (Nat.le_of_ble_eq_true rfl)
set_option maxRecDepth 100000 in
theorem okq_195_0 : ((pk195.drop 0).take 24).all (okQ 195) = true := by decide +kernel
set_option maxRecDepth 100000 in
theorem okm_195 : okM 195 = true := okM_of (k := 1) (tb := pk195) rfl (by decide +kernel) (fun i hi => by
  by_cases h0 : i = 0
  · subst h0; exact okq_195_0
  omega) (Nat.le_of_ble_eq_true rfl)
set_option maxRecDepth 100000 in
theorem okq_196_0 : ((pk196.drop 0).take 24).all (okQ 196) = true := by decide +kernel
set_option maxRecDepth 100000 in
theorem okm_196 : okM 196 = true := okM_of (k := 1) (tb := pk196) rfl (by decide +kernel) (fun i hi => by
  by_cases h0 : i = 0
  · subst h0; exact okq_196_0
  omega) (Nat.le_of_ble_eq_true rfl)
set_option maxRecDepth 100000 in
theorem okq_197_0 : ((pk197.drop 0).take 24).all (okQ 197) = true := by decide +kernel
set_option maxRecDepth 100000 in
theorem okm_197 : okM 197 = true := okM_of (k := 1) (tb := pk197) rfl (by decide +kernel) (fun i hi => by
  by_cases h0 : i = 0
  · subst h0; exact okq_197_0
  omega) (Nat.le_of_ble_eq_true rfl)
set_option maxRecDepth 100000 in
theorem okq_198_0 : ((pk198.drop 0).take 24).all (okQ 198) = true := by decide +kernel
set_option maxRecDepth 100000 in
theorem okm_198 : okM 198 = true := okM_of (k := 1) (tb := pk198) rfl (by decide +kernel) (fun i hi => by
  by_cases h0 : i = 0
  · subst h0; exact okq_198_0
  omega) (Nat.le_of_ble_eq_true rfl)
set_option maxRecDepth 100000 in
theorem okq_199_0 : ((pk199.drop 0).take 24).all (okQ 199) = true := by decide +kernel
set_option maxRecDepth 100000 in
theorem okm_199 : okM 199 = true := okM_of (k := 1) (tb := pk199) rfl (by decide +kernel) (fun i hi => by
  by_cases h0 : i = 0
  · subst h0; exact okq_199_0
  omega) (Nat.le_of_ble_eq_true rfl)
set_option maxRecDepth 100000 in
theorem okq_200_0 : ((pk200.drop 0).take 24).all (okQ 200) = true := by decide +kernel
set_option maxRecDepth 100000 in
theorem okm_200 : okM 200 = true := okM_of (k := 1) (tb := pk200) rfl (by decide +kernel) (fun i hi => by
  by_cases h0 : i = 0
  · subst h0; exact okq_200_0
  omega) (Nat.le_of_ble_eq_true rfl)
set_option maxRecDepth 100000 in
theorem okq_201_0 : ((pk201.drop 0).take 24).all (okQ 201) = true := by decide +kernel
set_option maxRecDepth 100000 in
theorem okm_201 : okM 201 = true := okM_of (k := 1) (tb := pk201) rfl (by decide +kernel) (fun i hi => by
  by_cases h0 : i = 0
  · subst h0; exact okq_201_0
  omega) (Nat.le_of_ble_eq_true rfl)
set_option maxRecDepth 100000 in
theorem okq_202_0 : ((pk202.drop 0).take 24).all (okQ 202) = true := by decide +kernel
set_option maxRecDepth 100000 in
theorem okm_202 : okM 202 = true := okM_of (k := 1) (tb := pk202) rfl (by decide +kernel) (fun i hi => by
  by_cases h0 : i = 0
  · subst h0; exact okq_202_0
  omega) (Nat.le_of_ble_eq_true rfl)
set_option maxRecDepth 100000 in
theorem okq_203_0 : ((pk203.drop 0).take 24).all (okQ 203) = true := by decide +kernel
set_option maxRecDepth 100000 in
theorem okq_203_1 : ((pk203.drop 24).take 24).all (okQ 203) = true := by decide +kernel
set_option maxRecDepth 100000 in
theorem okm_203 : okM 203 = true := okM_of (k := 2) (tb := pk203) rfl (by decide +kernel) (fun i hi => by
  by_cases h0 : i = 0
  · subst h0; exact okq_203_0
  by_cases h1 : i = 1
  · subst h1; exact okq_203_1
  omega) (Nat.le_of_ble_eq_true rfl)
set_option maxRecDepth 100000 in
theorem okq_204_0 : ((pk204.drop 0).take 24).all (okQ 204) = true := by decide +kernel
set_option maxRecDepth 100000 in
theorem okm_204 : okM 204 = true := okM_of (k := 1) (tb := pk204) rfl (by decide +kernel) (fun i hi => by
  by_cases h0 : i = 0
  · subst h0; exact okq_204_0
  omega) (Nat.le_of_ble_eq_true rfl)
set_option maxRecDepth 100000 in
theorem okq_205_0 : ((pk205.drop 0).take 24).all (okQ 205) = true := by decide +kernel
set_option maxRecDepth 100000 in
theorem okm_205 : okM 205 = true := okM_of (k := 1) (tb := pk205) rfl (by decide +kernel) (fun i hi => by
  by_cases h0 : i = 0
  · subst h0; exact okq_205_0
  omega) (Nat.le_of_ble_eq_true rfl)
set_option maxRecDepth 100000 in
theorem okq_206_0 : ((pk206.drop 0).take 24).all (okQ 206) = true := by decide +kernel
set_option maxRecDepth 100000 in
theorem okm_206 : okM 206 = true := okM_of (k := 1) (tb := pk206) rfl (by decide +kernel) (fun i hi => by
  by_cases h0 : i = 0
  · subst h0; exact okq_206_0
  omega) (Nat.le_of_ble_eq_true rfl)
set_option maxRecDepth 100000 in
theorem okq_207_0 : ((pk207.drop 0).take 24).all (okQ 207) = true := by decide +kernel
set_option maxRecDepth 100000 in
theorem okm_207 : okM 207 = true := okM_of (k := 1) (tb := pk207) rfl (by decide +kernel) (fun i hi => by
  by_cases h0 : i = 0
  · subst h0; exact okq_207_0
  omega) (Nat.le_of_ble_eq_true rfl)
set_option maxRecDepth 100000 in
theorem okq_208_0 : ((pk208.drop 0).take 24).all (okQ 208) = true := by decide +kernel
set_option maxRecDepth 100000 in
theorem okm_208 : okM 208 = true := okM_of (k := 1) (tb := pk208) rfl (by decide +kernel) (fun i hi => by
  by_cases h0 : i = 0
  · subst h0; exact okq_208_0
  omega) (Nat.le_of_ble_eq_true rfl)
set_option maxRecDepth 100000 in
theorem okq_209_0 : ((pk209.drop 0).take 24).all (okQ 209) = true := by decide +kernel
set_option maxRecDepth 100000 in
theorem okm_209 : okM 209 = true := okM_of (k := 1) (tb := pk209) rfl (by decide +kernel) (fun i hi => by
  by_cases h0 : i = 0
  · subst h0; exact okq_209_0
  omega) (Nat.le_of_ble_eq_true rfl)
set_option maxRecDepth 100000 in
theorem okq_210_0 : ((pk210.drop 0).take 24).all (okQ 210) = true := by decide +kernel
set_option maxRecDepth 100000 in
theorem okm_210 : okM 210 = true := okM_of (k := 1) (tb := pk210) rfl (by decide +kernel) (fun i hi => by
  by_cases h0 : i = 0
  · subst h0; exact okq_210_0
  omega) (Nat.le_of_ble_eq_true rfl)
set_option maxRecDepth 100000 in
theorem okq_211_0 : ((pk211.drop 0).take 24).all (okQ 211) = true := by decide +kernel
set_option maxRecDepth 100000 in
theorem okm_211 : okM 211 = true := okM_of (k := 1) (tb := pk211) rfl (by decide +kernel) (fun i hi => by
  by_cases h0 : i = 0
  · subst h0; exact okq_211_0
  omega) (Nat.le_of_ble_eq_true rfl)
set_option maxRecDepth 100000 in
theorem okq_212_0 : ((pk212.drop 0).take 24).all (okQ 212) = true := by decide +kernel
set_option maxRecDepth 100000 in
theorem okm_212 : okM 212 = true := okM_of (k := 1) (tb := pk212) rfl (by decide +kernel) (fun i hi => by
  by_cases h0 : i = 0
  · subst h0; exact okq_212_0
  omega) (Nat.le_of_ble_eq_true rfl)
set_option maxRecDepth 100000 in
theorem okq_213_0 : ((pk213.drop 0).take 24).all (okQ 213) = true := by decide +kernel
set_option maxRecDepth 100000 in
theorem okm_213 : okM 213 = true := okM_of (k := 1) (tb := pk213) rfl (by decide +kernel) (fun i hi => by
  by_cases h0 : i = 0
  · subst h0; exact okq_213_0
  omega) (Nat.le_of_ble_eq_true rfl)
set_option maxRecDepth 100000 in
theorem okq_214_0 : ((pk214.drop 0).take 24).all (okQ 214) = true := by decide +kernel
set_option maxRecDepth 100000 in
theorem okq_214_1 : ((pk214.drop 24).take 24).all (okQ 214) = true := by decide +kernel
set_option maxRecDepth 100000 in
theorem okm_214 : okM 214 = true := okM_of (k := 2) (tb := pk214) rfl (by decide +kernel) (fun i hi => by
  by_cases h0 : i = 0
  · subst h0; exact okq_214_0
  by_cases h1 : i = 1
  · subst h1; exact okq_214_1
  omega) (Nat.le_of_ble_eq_true rfl)
set_option maxRecDepth 100000 in
theorem okq_215_0 : ((pk215.drop 0).take 24).all (okQ 215) = true := by decide +kernel
set_option maxRecDepth 100000 in
theorem okm_215 : okM 215 = true := okM_of (k := 1) (tb := pk215) rfl (by decide +kernel) (fun i hi => by
  by_cases h0 : i = 0
  · subst h0; exact okq_215_0
  omega) (Nat.le_of_ble_eq_true rfl)
set_option maxRecDepth 100000 in
theorem okq_216_0 : ((pk216.drop 0).take 24).all (okQ 216) = true := by decide +kernel
set_option maxRecDepth 100000 in
theorem okm_216 : okM 216 = true := okM_of (k := 1) (tb := pk216) rfl (by decide +kernel) (fun i hi => by
  by_cases h0 : i = 0
  · subst h0; exact okq_216_0
  omega) (Nat.le_of_ble_eq_true rfl)
set_option maxRecDepth 100000 in
theorem okq_217_0 : ((pk217.drop 0).take 24).all (okQ 217) = true := by decide +kernel
set_option maxRecDepth 100000 in
theorem okm_217 : okM 217 = true := okM_of (k := 1) (tb := pk217) rfl (by decide +kernel) (fun i hi => by
  by_cases h0 : i = 0
  · subst h0; exact okq_217_0
  omega) (Nat.le_of_ble_eq_true rfl)
set_option maxRecDepth 100000 in
theorem okq_218_0 : ((pk218.drop 0).take 24).all (okQ 218) = true := by decide +kernel
set_option maxRecDepth 100000 in
theorem okm_218 : okM 218 = true := okM_of (k := 1) (tb := pk218) rfl (by decide +kernel) (fun i hi => by
  by_cases h0 : i = 0
  · subst h0; exact okq_218_0
  omega) (Nat.le_of_ble_eq_true rfl)
set_option maxRecDepth 100000 in
theorem okq_219_0 : ((pk219.drop 0).take 24).all (okQ 219) = true := by decide +kernel
set_option maxRecDepth 100000 in
theorem okm_219 : okM 219 = true := okM_of (k := 1) (tb := pk219) rfl (by decide +kernel) (fun i hi => by
  by_cases h0 : i = 0
  · subst h0; exact okq_219_0
  omega) (Nat.le_of_ble_eq_true rfl)
set_option maxRecDepth 100000 in
theorem okq_220_0 : ((pk220.drop 0).take 24).all (okQ 220) = true := by decide +kernel
set_option maxRecDepth 100000 in
theorem okm_220 : okM 220 = true := okM_of (k := 1) (tb := pk220) rfl (by decide +kernel) (fun i hi => by
  by_cases h0 : i = 0
  · subst h0; exact okq_220_0
  omega) (Nat.le_of_ble_eq_true rfl)
set_option maxRecDepth 100000 in
theorem okq_221_0 : ((pk221.drop 0).take 24).all (okQ 221) = true := by decide +kernel
set_option maxRecDepth 100000 in
theorem okq_221_1 : ((pk221.drop 24).take 24).all (okQ 221) = true := by decide +kernel
set_option maxRecDepth 100000 in
theorem okm_221 : okM 221 = true := okM_of (k := 2) (tb := pk221) rfl (by decide +kernel) (fun i hi => by
  by_cases h0 : i = 0
  · subst h0; exact okq_221_0
  by_cases h1 : i = 1
  · subst h1; exact okq_221_1
  omega) (Nat.le_of_ble_eq_true rfl)
