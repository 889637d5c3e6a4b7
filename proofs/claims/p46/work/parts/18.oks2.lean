set_option maxRecDepth 100000 in
theorem okq_120_0 : ((pk120.drop 0).take 24).all (okQ 120) = true := by decide +kernel
set_option maxRecDepth 100000 in
theorem okm_120 : okM 120 = true := okM_of (k := 1) (tb := pk120) rfl (by decide +kernel) (fun i hi => by
  by_cases h0 : i = 0
  · subst h0; exact okq_120_0
  omega) (Nat.le_of_ble_eq_true rfl)
set_option maxRecDepth 100000 in
theorem okq_121_0 : ((pk121.drop 0).take 24).all (okQ 121) = true := by decide +kernel
set_option maxRecDepth 100000 in
theorem okq_121_1 : ((pk121.drop 24).take 24).all (okQ 121) = true := by decide +kernel
set_option maxRecDepth 100000 in
theorem okm_121 : okM 121 = true := okM_of (k := 2) (tb := pk121) rfl (by decide +kernel) (fun i hi => by
  by_cases h0 : i = 0
  · subst h0; exact okq_121_0
  by_cases h1 : i = 1
  · subst h1; exact okq_121_1
  omega) (Nat.le_of_ble_eq_true rfl)
set_option maxRecDepth 100000 in
theorem okq_122_0 : ((pk122.drop 0).take 24).all (okQ 122) = true := by decide +kernel
set_option maxRecDepth 100000 in
theorem okq_122_1 : ((pk122.drop 24).take 24).all (okQ 122) = true := by decide +kernel
set_option maxRecDepth 100000 in
theorem okm_122 : okM 122 = true := okM_of (k := 2) (tb := pk122) rfl (by decide +kernel) (fun i hi => by
  by_cases h0 : i = 0
  · subst h0; exact okq_122_0
  by_cases h1 : i = 1
  · subst h1; exact okq_122_1
  omega) (Nat.le_of_ble_eq_true rfl)
set_option maxRecDepth 100000 in
theorem okq_123_0 : ((pk123.drop 0).take 24).all (okQ 123) = true := by decide +kernel
set_option maxRecDepth 100000 in
theorem okq_123_1 : ((pk123.drop 24).take 24).all (okQ 123) = true := by decide +kernel
set_option maxRecDepth 100000 in
theorem okm_123 : okM 123 = true := okM_of (k := 2) (tb := pk123) rfl (by decide +kernel) (fun i hi => by
  by_cases h0 : i = 0
  · subst h0; exact okq_123_0
  by_cases h1 : i = 1
  · subst h1; exact okq_123_1
  omega) (Nat.le_of_ble_eq_true rfl)
set_option maxRecDepth 100000 in
theorem okq_124_0 : ((pk124.drop 0).take 24).all (okQ 124) = true := by decide +kernel
set_option maxRecDepth 100000 in
theorem okq_124_1 : ((pk124.drop 24).take 24).all (okQ 124) = true := by decide +kernel
set_option maxRecDepth 100000 in
theorem okq_124_2 : ((pk124.drop 48).take 24).all (okQ 124) = true := by decide +kernel
set_option maxRecDepth 100000 in
theorem okm_124 : okM 124 = true := okM_of (k := 3) (tb := pk124) rfl (by decide +kernel) (fun i hi => by
  by_cases h0 : i = 0
  · subst h0; exact okq_124_0
  by_cases h1 : i = 1
  · subst h1; exact okq_124_1
  by_cases h2 : i = 2
  · subst h2; exact okq_124_2
  omega) (Nat.le_of_ble_eq_true rfl)
set_option maxRecDepth 100000 in
theorem okq_125_0 : ((pk125.drop 0).take 24).all (okQ 125) = true := by decide +kernel
set_option maxRecDepth 100000 in
theorem okm_125 : okM 125 = true := okM_of (k := 1) (tb := pk125) rfl (by decide +kernel) (fun i hi => by
  by_cases h0 : i = 0
  · subst h0; exact okq_125_0
  omega) (Nat.le_of_ble_eq_true rfl)
set_option maxRecDepth 100000 in
theorem okq_126_0 : ((pk126.drop 0).take 24).all (okQ 126) = true := by decide +kernel
set_option maxRecDepth 100000 in
theorem okm_126 : okM 126 = true := okM_of (k := 1) (tb := pk126) rfl (by decide +kernel) (fun i hi => by
  by_cases h0 : i = 0
  · subst h0; exact okq_126_0
  omega) (Nat.le_of_ble_eq_true rfl)
set_option maxRecDepth 100000 in
theorem okq_127_0 : ((pk127.drop 0).take 24).all (okQ 127) = true := by decide +kernel
set_option maxRecDepth 100000 in
theorem okm_127 : okM 127 = true := okM_of (k := 1) (tb := pk127) rfl (by decide +kernel) (fun i hi => by
  by_cases h0 : i = 0
  · subst h0; exact okq_127_0
  omega) (Nat.le_of_ble_eq_true rfl)
set_option maxRecDepth 100000 in
theorem okq_128_0 : ((pk128.drop 0).take 24).all (okQ 128) = true := by decide +kernel
set_option maxRecDepth 100000 in
theorem okq_128_1 : ((pk128.drop 24).take 24).all (okQ 128) = true := by decide +kernel
set_option maxRecDepth 100000 in
theorem okm_128 : okM 128 = true := okM_of (k := 2) (tb := pk128) rfl (by decide +kernel) (fun i hi => by
  by_cases h0 : i = 0
  · subst h0; exact okq_128_0
  by_cases h1 : i = 1
  · subst h1; exact okq_128_1
  omega) (Nat.le_of_ble_eq_true rfl)
set_option maxRecDepth 100000 in
theorem okq_129_0 : ((pk129.drop 0).take 24).all (okQ 129) = true := by decide +kernel
set_option maxRecDepth 100000 in
theorem okm_129 : okM 129 = true := okM_of (k := 1) (tb := pk129) rfl (by decide +kernel) (fun i hi => by
  by_cases h0 : i = 0
  · subst h0; exact okq_129_0
  omega) (Nat.le_of_ble_eq_true rfl)
set_option maxRecDepth 100000 in
theorem okq_130_0 : ((pk130.drop 0).take 24).all (okQ 130) = true := by decide +kernel
set_option maxRecDepth 100000 in
theorem okq_130_1 : ((pk130.drop 24).take 24).all (okQ 130) = true := by decide +kernel
set_option maxRecDepth 100000 in
theorem okm_130 : okM 130 = true := okM_of (k := 2) (tb := pk130) rfl (by decide +kernel) (fun i hi => by
  by_cases h0 : i = 0
  · subst h0; exact okq_130_0
  by_cases h1 : i = 1
  · subst h1; exact okq_130_1
  omega) (Nat.le_of_ble_eq_true rfl)
set_option maxRecDepth 100000 in
theorem okq_131_0 : ((pk131.drop 0).take 24).all (okQ 131) = true := by decide +kernel
set_option maxRecDepth 100000 in
theorem okq_131_1 : ((pk131.drop 24).take 24).all (okQ 131) = true := by decide +kernel
set_option maxRecDepth 100000 in
theorem okq_131_2 : ((pk131.drop 48).take 24).all (okQ 131) = true := by decide +kernel
set_option maxRecDepth 100000 in
theorem okm_131 : okM 131 = true := okM_of (k := 3) (tb := pk131) rfl (by decide +kernel) (fun i hi => by
  by_cases h0 : i = 0
  · subst h0; exact okq_131_0
  by_cases h1 : i = 1
  · subst h1; exact okq_131_1
  by_cases h2 : i = 2
  · subst h2; exact okq_131_2
  omega) (Nat.le_of_ble_eq_true rfl)
set_option maxRecDepth 100000 in
theorem okq_132_0 : ((pk132.drop 0).take 24).all (okQ 132) = true := by decide +kernel
set_option maxRecDepth 100000 in
theorem okq_132_1 : ((pk132.drop 24).take 24).all (okQ 132) = true := by decide +kernel
set_option maxRecDepth 100000 in
theorem okq_132_2 : ((pk132.drop 48).take 24).all (okQ 132) = true := by decide +kernel
set_option maxRecDepth 100000 in
theorem okm_132 : okM 132 = true := okM_of (k := 3) (tb := pk132) rfl (by decide +kernel) (fun i hi => by
  by_cases h0 : i = 0
  · subst h0; exact okq_132_0
  by_cases h1 : i = 1
  · subst h1; exact okq_132_1
  by_cases h2 : i = 2
  · subst h2; exact okq_132_2
  omega) (Nat.le_of_ble_eq_true rfl)
set_option maxRecDepth 100000 in
theorem okq_133_0 : ((pk133.drop 0).take 24).all (okQ 133) = true := by decide +kernel
set_option maxRecDepth 100000 in
theorem okq_133_1 : ((pk133.drop 24).take 24).all (okQ 133) = true := by decide +kernel
set_option maxRecDepth 100000 in
theorem okq_133_2 : ((pk133.drop 48).take 24).all (okQ 133) = true := by decide +kernel
set_option maxRecDepth 100000 in
theorem okm_133 : okM 133 = true := okM_of (k := 3) (tb := pk133) rfl (by decide +kernel) (fun i hi => by
  by_cases h0 : i = 0
  · subst h0; exact okq_133_0
  by_cases h1 : i = 1
  · subst h1; exact okq_133_1
  by_cases h2 : i = 2
  · subst h2; exact okq_133_2
  omega) (Nat.le_of_ble_eq_true rfl)
set_option maxRecDepth 100000 in
theorem okq_134_0 : ((pk134.drop 0).take 24).all (okQ 134) = true := by decide +kernel
set_option maxRecDepth 100000 in
theorem okq_134_1 : ((pk134.drop 24).take 24).all (okQ 134) = true := by decide +kernel
set_option maxRecDepth 100000 in
theorem okq_134_2 : ((pk134.drop 48).take 24).all (okQ 134) = true := by decide +kernel
set_option maxRecDepth 100000 in
theorem okq_134_3 : ((pk134.drop 72).take 24).all (okQ 134) = true := by decide +kernel
set_option maxRecDepth 100000 in
theorem okq_134_4 : ((pk134.drop 96).take 24).all (okQ 134) = true := by decide +kernel
set_option maxRecDepth 100000 in
theorem okm_134 : okM 134 = true := okM_of (k := 5) (tb := pk134) rfl (by decide +kernel) (fun i hi => by
  by_cases h0 : i = 0
  · subst h0; exact okq_134_0
  by_cases h1 : i = 1
  · subst h1; exact okq_134_1
  by_cases h2 : i = 2
  · subst h2; exact okq_134_2
  by_cases h3 : i = 3
  · subst h3; exact okq_134_3
  by_cases h4 : i = 4
  · subst h4; exact okq_134_4
  omega) (Nat.le_of_ble_eq_true rfl)
set_option maxRecDepth 100000 in
theorem okq_135_0 : ((pk135.drop 0).take 24).all (okQ 135) = true := by decide +kernel
set_option maxRecDepth 100000 in
theorem okq_135_1 : ((pk135.drop 24).take 24).all (okQ 135) = true := by decide +kernel
set_option maxRecDepth 100000 in
theorem okq_135_2 : ((pk135.drop 48).take 24).all (okQ 135) = true := by decide +kernel
set_option maxRecDepth 100000 in
theorem okq_135_3 : ((pk135.drop 72).take 24).all (okQ 135) = true := by decide +kernel
set_option maxRecDepth 100000 in
theorem okm_135 : okM 135 = true := okM_of (k := 4) (tb := pk135) rfl (by decide +kernel) (fun i hi => by
  by_cases h0 : i = 0
  · subst h0; exact okq_135_0
  by_cases h1 : i = 1
  · subst h1; exact okq_135_1
  by_cases h2 : i = 2
  · subst h2; exact okq_135_2
  by_cases h3 : i = 3
  · subst h3; exact okq_135_3
  omega) (Nat.le_of_ble_eq_true rfl)
set_option maxRecDepth 100000 in
theorem okq_136_0 : ((pk136.drop 0).take 24).all (okQ 136) = true := by decide +kernel
set_option maxRecDepth 100000 in
theorem okq_136_1 : ((pk136.drop 24).take 24).all (okQ 136) = true := by decide +kernel
set_option maxRecDepth 100000 in
theorem okq_136_2 : ((pk136.drop 48).take 24).all (okQ 136) = true := by decide +kernel
set_option maxRecDepth 100000 in
theorem okq_136_3 : ((pk136.drop 72).take 24).all (okQ 136) = true := by decide +kernel
set_option maxRecDepth 100000 in
theorem okq_136_4 : ((pk136.drop 96).take 24).all (okQ 136) = true := by decide +kernel
set_option maxRecDepth 100000 in
theorem okq_136_5 : ((pk136.drop 120).take 24).all (okQ 136) = true := by decide +kernel
set_option maxRecDepth 100000 in
theorem okq_136_6 : ((pk136.drop 144).take 24).all (okQ 136) = true := by decide +kernel
set_option maxRecDepth 100000 in
theorem okq_136_7 : ((pk136.drop 168).take 24).all (okQ 136) = true := by decide +kernel
set_option maxRecDepth 100000 in
theorem okq_136_8 : ((pk136.drop 192).take 24).all (okQ 136) = true := by decide +kernel
set_option maxRecDepth 100000 in
theorem okm_136 : okM 136 = true := okM_of (k := 9) (tb := pk136) rfl (by decide +kernel) (fun i hi => by
  by_cases h0 : i = 0
  · subst h0; exact okq_136_0
  by_cases h1 : i = 1
  · subst h1; exact okq_136_1
  by_cases h2 : i = 2
  · subst h2; exact okq_136_2
  by_cases h3 : i = 3
  · subst h3; exact okq_136_3
  by_cases h4 : i = 4
  · subst h4; exact okq_136_4
  by_cases h5 : i = 5
  · subst h5; exact okq_136_5
  by_cases h6 : i = 6
  · subst h6; exact okq_136_6
  by_cases h7 : i = 7
  · subst h7; exact okq_136_7
  by_cases h8 : i = 8
  · subst h8; exact okq_136_8
  omega) (Nat.le_of_ble_eq_true rfl)
set_option maxRecDepth 100000 in
theorem okq_137_0 : ((pk137.drop 0).take 24).all (okQ 137) = true := by decide +kernel
set_option maxRecDepth 100000 in
theorem okm_137 : okM 137 = true := okM_of (k := 1) (tb := pk137) rfl (by decide +kernel) (fun i hi => by
  by_cases h0 : i = 0
  · subst h0; exact okq_137_0
  omega) (Nat.le_of_ble_eq_true rfl)
set_option maxRecDepth 100000 in
theorem okq_138_0 : ((pk138.drop 0).take 24).all (okQ 138) = true := by decide +kernel
set_option maxRecDepth 100000 in
theorem okq_138_1 : ((pk138.drop 24).take 24).all (okQ 138) = true := by decide +kernel
set_option maxRecDepth 100000 in
theorem okq_138_2 : ((pk138.drop 48).take 24).all (okQ 138) = true := by decide +kernel
set_option maxRecDepth 100000 in
theorem okq_138_3 : ((pk138.drop 72).take 24).all (okQ 138) = true := by decide +kernel
set_option maxRecDepth 100000 in
theorem okq_138_4 : ((pk138.drop 96).take 24).all (okQ 138) = true := by decide +kernel
set_option maxRecDepth 100000 in
theorem okq_138_5 : ((pk138.drop 120).take 24).all (okQ 138) = true := by decide +kernel
set_option maxRecDepth 100000 in
theorem okq_138_6 : ((pk138.drop 144).take 24).all (okQ 138) = true := by decide +kernel
set_option maxRecDepth 100000 in
theorem okq_138_7 : ((pk138.drop 168).take 24).all (okQ 138) = true := by decide +kernel
set_option maxRecDepth 100000 in
theorem okq_138_8 : ((pk138.drop 192).take 24).all (okQ 138) = true := by decide +kernel
set_option maxRecDepth 100000 in
theorem okq_138_9 : ((pk138.drop 216).take 24).all (okQ 138) = true := by decide +kernel
set_option maxRecDepth 100000 in
theorem okq_138_10 : ((pk138.drop 240).take 24).all (okQ 138) = true := by decide +kernel
set_option maxRecDepth 100000 in
theorem okm_138 : okM 138 = true := okM_of (k := 11) (tb := pk138) rfl (by decide +kernel) (fun i hi => by
  by_cases h0 : i = 0
  · subst h0; exact okq_138_0
  by_cases h1 : i = 1
  · subst h1; exact okq_138_1
  by_cases h2 : i = 2
  · subst h2; exact okq_138_2
  by_cases h3 : i = 3
  · subst h3; exact okq_138_3
  by_cases h4 : i = 4
  · subst h4; exact okq_138_4
  by_cases h5 : i = 5
  · subst h5; exact okq_138_5
  by_cases h6 : i = 6
  · subst h6; exact okq_138_6
  by_cases h7 : i = 7
  · subst h7; exact okq_138_7
  by_cases h8 : i = 8
  · subst h8; exact okq_138_8
  by_cases h9 : i = 9
  · subst h9; exact okq_138_9
  by_cases h10 : i = 10
  · subst h10; exact okq_138_10
  omega) (Nat.le_of_ble_eq_true rfl)
set_option maxRecDepth 100000 in
theorem okq_139_0 : ((pk139.drop 0).take 24).all (okQ 139) = true := by decide +kernel
set_option maxRecDepth 100000 in
theorem okm_139 : okM 139 = true := okM_of (k := 1) (tb := pk139) rfl (by decide +kernel) (fun i hi => by
  by_cases h0 : i = 0
  · subst h0; exact okq_139_0
  omega) (Nat.le_of_ble_eq_true rfl)
set_option maxRecDepth 100000 in
theorem okq_140_0 : ((pk140.drop 0).take 24).all (okQ 140) = true := by decide +kernel
set_option maxRecDepth 100000 in
theorem okm_140 : okM 140 = true := okM_of (k := 1) (tb := pk140) rfl (by decide +kernel) (fun i hi => by
  by_cases h0 : i = 0
  · subst h0; exact okq_140_0
  omega) (Nat.le_of_ble_eq_true rfl)
set_option maxRecDepth 100000 in
theorem okq_141_0 : ((pk141.drop 0).take 24).all (okQ 141) = true := by decide +kernel
set_option maxRecDepth 100000 in
theorem okm_141 : okM 141 = true := okM_of (k := 1) (tb := pk141) rfl (by decide +kernel) (fun i hi => by
  by_cases h0 : i = 0
  · subst h0; exact okq_141_0
  omega) (Nat.le_of_ble_eq_true rfl)
set_option maxRecDepth 100000 in
theorem okq_142_0 : ((pk142.drop 0).take 24).all (okQ 142) = true := by decide +kernel
set_option maxRecDepth 100000 in
theorem okq_142_1 : ((pk142.drop 24).take 24).all (okQ 142) = true := by decide +kernel
set_option maxRecDepth 100000 in
theorem okm_142 : okM 142 = true := okM_of (k := 2) (tb := pk142) rfl (by decide +kernel) (fun i hi => by
  by_cases h0 : i = 0
  · subst h0; exact okq_142_0
  by_cases h1 : i = 1
  · subst h1; exact okq_142_1
  omega) (Nat.le_of_ble_eq_true rfl)
set_option maxRecDepth 100000 in
theorem okq_143_0 : ((pk143.drop 0).take 24).all (okQ 143) = true := by decide +kernel
set_option maxRecDepth 100000 in
theorem okm_143 : okM 143 = true := okM_of (k := 1) (tb := pk143) rfl (by decide +kernel) (fun i hi => by
  by_cases h0 : i = 0
  · subst h0; exact okq_143_0
  omega) (Nat.le_of_ble_eq_true rfl)
set_option maxRecDepth 100000 in
theorem okq_144_0 : ((pk144.drop 0).take 24).all (okQ 144) = true := by decide +kernel
set_option maxRecDepth 100000 in
theorem okq_144_1 : ((pk144.drop 24).take 24).all (okQ 144) = true := by decide +kernel
set_option maxRecDepth 100000 in
theorem okm_144 : okM 144 = true := okM_of (k := 2) (tb := pk144) rfl (by decide +kernel) (fun i hi => by
  by_cases h0 : i = 0
  · subst h0; exact okq_144_0
  by_cases h1 : i = 1
  · subst h1; exact okq_144_1
  omega) (Nat.le_of_ble_eq_true rfl)
set_option maxRecDepth 100000 in
theorem okq_145_0 : ((pk145.drop 0).take 24).all (okQ 145) = true := by decide +kernel
set_option maxRecDepth 100000 in
theorem okq_145_1 : ((pk145.drop 24).take 24).all (okQ 145) = true := by decide +kernel
set_option maxRecDepth 100000 in
theorem okq_145_2 : ((pk145.drop 48).take 24).all (okQ 145) = true := by decide +kernel
set_option maxRecDepth 100000 in
theorem okm_145 : okM 145 = true := okM_of (k := 3) (tb := pk145) rfl (by decide +kernel) (fun i hi => by
  by_cases h0 : i = 0
  · subst h0; exact okq_145_0
  by_cases h1 : i = 1
  · subst h1; exact okq_145_1
  by_cases h2 : i = 2
  · subst h2; exact okq_145_2
  omega) (Nat.le_of_ble_eq_true rfl)
set_option maxRecDepth 100000 in
theorem okq_146_0 : ((pk146.drop 0).take 24).all (okQ 146) = true := by decide +kernel
set_option maxRecDepth 100000 in
theorem okq_146_1 : ((pk146.drop 24).take 24).all (okQ 146) = true := by decide +kernel
set_option maxRecDepth 100000 in
theorem okm_146 : okM 146 = true := okM_of (k := 2) (tb := pk146) rfl (by decide +kernel) (fun i hi => by
  by_cases h0 : i = 0
  · subst h0; exact okq_146_0
  by_cases h1 : i = 1
  · subst h1; exact okq_146_1
  omega) (Nat.le_of_ble_eq_true rfl)
set_option maxRecDepth 100000 in
theorem okq_147_0 : ((pk147.drop 0).take 24).all (okQ 147) = true := by decide +kernel
set_option maxRecDepth 100000 in
theorem okq_147_1 : ((pk147.drop 24).take 24).all (okQ 147) = true := by decide +kernel
set_option maxRecDepth 100000 in
theorem okm_147 : okM 147 = true := okM_of (k := 2) (tb := pk147) rfl (by decide +kernel) (fun i hi => by
  by_cases h0 : i = 0
  · subst h0; exact okq_147_0
  by_cases h1 : i = 1
  · subst h1; exact okq_147_1
  omega) (Nat.le_of_ble_eq_true rfl)
set_option maxRecDepth 100000 in
theorem okq_148_0 : ((pk148.drop 0).take 24).all (okQ 148) = true := by decide +kernel
set_option maxRecDepth 100000 in
theorem okm_148 : okM 148 = true := okM_of (k := 1) (tb := pk148) rfl (by decide +kernel) (fun i hi => by
  by_cases h0 : i = 0
  · subst h0; exact okq_148_0
  omega) (Nat.le_of_ble_eq_true rfl)
set_option maxRecDepth 100000 in
theorem okq_149_0 : ((pk149.drop 0).take 24).all (okQ 149) = true := by decide +kernel
set_option maxRecDepth 100000 in
theorem okm_149 : okM 149 = true := okM_of (k := 1) (tb := pk149) rfl (by decide +kernel) (fun i hi => by
  by_cases h0 : i = 0
  · subst h0; exact okq_149_0
  omega) (Nat.le_of_ble_eq_true rfl)
set_option maxRecDepth 100000 in
theorem okq_150_0 : ((pk150.drop 0).take 24).all (okQ 150) = true := by decide +kernel
set_option maxRecDepth 100000 in
theorem okm_150 : okM 150 = true := okM_of (k := 1) (tb := pk150) rfl (by decide +kernel) (fun i hi => by
  by_cases h0 : i = 0
  · subst h0; exact okq_150_0
  omega) (Nat.le_of_ble_eq_true rfl)
set_option maxRecDepth 100000 in
theorem okq_151_0 : ((pk151.drop 0).take 24).all (okQ 151) = true := by decide +kernel
set_option maxRecDepth 100000 in
theorem okm_151 : okM 151 = true := okM_of (k := 1) (tb := pk151) rfl (by decide +kernel) (fun i hi => by
  by_cases h0 : i = 0
  · subst h0; exact okq_151_0
  omega) (Nat.le_of_ble_eq_true rfl)
set_option maxRecDepth 100000 in
theorem okq_152_0 : ((pk152.drop 0).take 24).all (okQ 152) = true := by decide +kernel
set_option maxRecDepth 100000 in
theorem okq_152_1 : ((pk152.drop 24).take 24).all (okQ 152) = true := by decide +kernel
set_option maxRecDepth 100000 in
theorem okq_152_2 : ((pk152.drop 48).take 24).all (okQ 152) = true := by decide +kernel
set_option maxRecDepth 100000 in
theorem okm_152 : okM 152 = true := okM_of (k := 3) (tb := pk152) rfl (by decide +kernel) (fun i hi => by
  by_cases h0 : i = 0
  · subst h0; exact okq_152_0
  by_cases h1 : i = 1
  · subst h1; exact okq_152_1
  by_cases h2 : i = 2
  · subst h2; exact okq_152_2
  omega) (Nat.le_of_ble_eq_true rfl)
set_option maxRecDepth 100000 in
theorem okq_153_0 : ((pk153.drop 0).take 24).all (okQ 153) = true := by decide +kernel
set_option maxRecDepth 100000 in
theorem okq_153_1 : ((pk153.drop 24).take 24).all (okQ 153) = true := by decide +kernel
set_option maxRecDepth 100000 in
theorem okm_153 : okM 153 = true := okM_of (k := 2) (tb := pk153) rfl (by decide +kernel) (fun i hi => by
  by_cases h0 : i = 0
  · subst h0; exact okq_153_0
  by_cases h1 : i = 1
  · subst h1; exact okq_153_1
  omega) (Nat.le_of_ble_eq_true rfl)
set_option maxRecDepth 100000 in
theorem okq_154_0 : ((pk154.drop 0).take 24).all (okQ 154) = true := by decide +kernel
set_option maxRecDepth 100000 in
theorem okm_154 : okM 154 = true := okM_of (k := 1) (tb := pk154) rfl (by decide +kernel) (fun i hi => by
  by_cases h0 : i = 0
  · subst h0; exact okq_154_0
  omega) (Nat.le_of_ble_eq_true rfl)
set_option maxRecDepth 100000 in
theorem okq_155_0 : ((pk155.drop 0).take 24).all (okQ 155) = true := by decide +kernel
set_option maxRecDepth 100000 in
theorem okm_155 : okM 155 = true := okM_of (k := 1) (tb := pk155) rfl (by decide +kernel) (fun i hi => by
  by_cases h0 : i = 0
  · subst h0; exact okq_155_0
  omega) (Nat.le_of_ble_eq_true rfl)
set_option maxRecDepth 100000 in
theorem okq_156_0 : ((pk156.drop 0).take 24).all (okQ 156) = true := by decide +kernel
set_option maxRecDepth 100000 in
theorem okm_156 : okM 156 = true := okM_of (k := 1) (tb := pk156) rfl (by decide +kernel) (fun i hi => by
  by_cases h0 : i = 0
  · subst h0; exact okq_156_0
  omega) (Nat.le_of_ble_eq_true rfl)
set_option maxRecDepth 100000 in
theorem okq_157_0 : ((pk157.drop 0).take 24).all (okQ 157) = true := by decide +kernel
set_option maxRecDepth 100000 in
theorem okm_157 : okM 157 = true := okM_of (k := 1) (tb := pk157) rfl (by decide +kernel) (fun i hi => by
  by_cases h0 : i = 0
  · subst h0; exact okq_157_0
  omega) (Nat.le_of_ble_eq_true rfl)
set_option maxRecDepth 100000 in
theorem okq_158_0 : ((pk158.drop 0).take 24).all (okQ 158) = true := by decide +kernel
set_option maxRecDepth 100000 in
theorem okm_158 : okM 158 = true := okM_of (k := 1) (tb := pk158) rfl (by decide +kernel) (fun i hi => by
  by_cases h0 : i = 0
  · subst h0; exact okq_158_0
  omega) (Nat.le_of_ble_eq_true rfl)
set_option maxRecDepth 100000 in
theorem okq_159_0 : ((pk159.drop 0).take 24).all (okQ 159) = true := by decide +kernel
set_option maxRecDepth 100000 in
theorem okq_159_1 : ((pk159.drop 24).take 24).all (okQ 159) = true := by decide +kernel
set_option maxRecDepth 100000 in
theorem okm_159 : okM 159 = true := okM_of (k := 2) (tb := pk159) rfl (by decide +kernel) (fun i hi => by
  by_cases h0 : i = 0
  · subst h0; exact okq_159_0
  by_cases h1 : i = 1
  · subst h1; exact okq_159_1
  omega) (Nat.le_of_ble_eq_true rfl)
set_option maxRecDepth 100000 in
theorem okq_160_0 : ((pk160.drop 0).take 24).all (okQ 160) = true := by decide +kernel
set_option maxRecDepth 100000 in
theorem okq_160_1 : ((pk160.drop 24).take 24).all (okQ 160) = true := by decide +kernel
set_option maxRecDepth 100000 in
theorem okq_160_2 : ((pk160.drop 48).take 24).all (okQ 160) = true := by decide +kernel
set_option maxRecDepth 100000 in
theorem okm_160 : okM 160 = true := okM_of (k := 3) (tb := pk160) rfl (by decide +kernel) (fun i hi => by
  by_cases h0 : i = 0
  · subst h0; exact okq_160_0
  by_cases h1 : i = 1
  · subst h1; exact okq_160_1
  by_cases h2 : i = 2
  · subst h2; exact okq_160_2
  omega) (Nat.le_of_ble_eq_true rfl)
set_option maxRecDepth 100000 in
theorem okq_161_0 : ((pk161.drop 0).take 24).all (okQ 161) = true := by decide +kernel
set_option maxRecDepth 100000 in
theorem okm_161 : okM 161 = true := okM_of (k := 1) (tb := pk161) rfl (by decide +kernel) (fun i hi => by
  by_cases h0 : i = 0
  · subst h0; exact okq_161_0
  omega) (Nat.le_of_ble_eq_true rfl)
set_option maxRecDepth 100000 in
theorem okq_162_0 : ((pk162.drop 0).take 24).all (okQ 162) = true := by decide +kernel
set_option maxRecDepth 100000 in
theorem okm_162 : okM 162 = true := okM_of (k := 1) (tb := pk162) rfl (by decide +kernel) (fun i hi => by
  by_cases h0 : i = 0
  · subst h0; exact okq_162_0
  omega) (Nat.le_of_ble_eq_true rfl)
set_option maxRecDepth 100000 in
theorem okq_163_0 : ((pk163.drop 0).take 24).all (okQ 163) = true := by decide +kernel
set_option maxRecDepth 100000 in
theorem okm_163 : okM 163 = true := okM_of (k := 1) (tb := pk163) rfl (by decide +kernel) (fun i hi => by
  by_cases h0 : i = 0
  · subst h0; exact okq_163_0
  omega) (Nat.le_of_ble_eq_true rfl)
set_option maxRecDepth 100000 in
theorem okq_164_0 : ((pk164.drop 0).take 24).all (okQ 164) = true := by decide +kernel
set_option maxRecDepth 100000 in
theorem okm_164 : okM 164 = true := okM_of (k := 1) (tb := pk164) rfl (by decide +kernel) (fun i hi => by
  by_cases h0 : i = 0
  · subst h0; exact okq_164_0
  omega) (Nat.le_of_ble_eq_true rfl)
