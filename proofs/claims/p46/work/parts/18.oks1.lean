set_option maxRecDepth 100000 in
theorem okq_52_0 : ((pk52.drop 0).take 24).all (okQ 52) = true := by decide +kernel
set_option maxRecDepth 100000 in
theorem okq_52_1 : ((pk52.drop 24).take 24).all (okQ 52) = true := by decide +kernel
set_option maxRecDepth 100000 in
theorem okq_52_2 : ((pk52.drop 48).take 24).all (okQ 52) = true := by decide +kernel
set_option maxRecDepth 100000 in
theorem okm_52 : okM 52 = true := okM_of (k := 3) (tb := pk52) rfl (by decide +kernel) (fun i hi => by
  by_cases h0 : i = 0
  · subst h0; exact okq_52_0
  by_cases h1 : i = 1
  · subst h1; exact okq_52_1
  by_cases h2 : i = 2
  · subst h2; exact okq_52_2
  omega) (Nat.le_of_ble_eq_true rfl)
set_option maxRecDepth 100000 in
theorem okq_53_0 : ((pk53.drop 0).take 24).all (okQ 53) = true := by decide +kernel
set_option maxRecDepth 100000 in
theorem okq_53_1 : ((pk53.drop 24).take 24).all (okQ 53) = true := by decide +kernel
set_option maxRecDepth 100000 in
theorem okq_53_2 : ((pk53.drop 48).take 24).all (okQ 53) = true := by decide +kernel
set_option maxRecDepth 100000 in
theorem okq_53_3 : ((pk53.drop 72).take 24).all (okQ 53) = true := by decide +kernel
set_option maxRecDepth 100000 in
theorem okm_53 : okM 53 = true := okM_of (k := 4) (tb := pk53) rfl (by decide +kernel) (fun i hi => by
  by_cases h0 : i = 0
  · subst h0; exact okq_53_0
  by_cases h1 : i = 1
  · subst h1; exact okq_53_1
  by_cases h2 : i = 2
  · subst h2; exact okq_53_2
  by_cases h3 : i = 3
  · subst h3; exact okq_53_3
  omega) (Nat.le_of_ble_eq_true rfl)
set_option maxRecDepth 100000 in
theorem okq_54_0 : ((pk54.drop 0).take 24).all (okQ 54) = true := by decide +kernel
set_option maxRecDepth 100000 in
theorem okm_54 : okM 54 = true := okM_of (k := 1) (tb := pk54) rfl (by decide +kernel) (fun i hi => by
  by_cases h0 : i = 0
  · subst h0; exact okq_54_0
  omega) (Nat.le_of_ble_eq_true rfl)
set_option maxRecDepth 100000 in
theorem okq_55_0 : ((pk55.drop 0).take 24).all (okQ 55) = true := by decide +kernel
set_option maxRecDepth 100000 in
theorem okq_55_1 : ((pk55.drop 24).take 24).all (okQ 55) = true := by decide +kernel
set_option maxRecDepth 100000 in
theorem okq_55_2 : ((pk55.drop 48).take 24).all (okQ 55) = true := by decide +kernel
set_option maxRecDepth 100000 in
theorem okm_55 : okM 55 = true := okM_of (k := 3) (tb := pk55) rfl (by decide +kernel) (fun i hi => by
  by_cases h0 : i = 0
  · subst h0; exact okq_55_0
  by_cases h1 : i = 1
  · subst h1; exact okq_55_1
  by_cases h2 : i = 2
  · subst h2; exact okq_55_2
  omega) (Nat.le_of_ble_eq_true rfl)
set_option maxRecDepth 100000 in
theorem okq_56_0 : ((pk56.drop 0).take 24).all (okQ 56) = true := by decide +kernel
set_option maxRecDepth 100000 in
theorem okq_56_1 : ((pk56.drop 24).take 24).all (okQ 56) = true := by decide +kernel
set_option maxRecDepth 100000 in
theorem okm_56 : okM 56 = true := okM_of (k := 2) (tb := pk56) rfl (by decide +kernel) (fun i hi => by
  by_cases h0 : i = 0
  · subst h0; exact okq_56_0
  by_cases h1 : i = 1
  · subst h1; exact okq_56_1
  omega) (Nat.le_of_ble_eq_true rfl)
set_option maxRecDepth 100000 in
theorem okq_57_0 : ((pk57.drop 0).take 24).all (okQ 57) = true := by decide +kernel
set_option maxRecDepth 100000 in
theorem okq_57_1 : ((pk57.drop 24).take 24).all (okQ 57) = true := by decide +kernel
set_option maxRecDepth 100000 in
theorem okm_57 : okM 57 = true := okM_of (k := 2) (tb := pk57) rfl (by decide +kernel) (fun i hi => by
  by_cases h0 : i = 0
  · subst h0; exact okq_57_0
  by_cases h1 : i = 1
  · subst h1; exact okq_57_1
  omega) (Nat.le_of_ble_eq_true rfl)
set_option maxRecDepth 100000 in
theorem okq_58_0 : ((pk58.drop 0).take 24).all (okQ 58) = true := by decide +kernel
set_option maxRecDepth 100000 in
theorem okq_58_1 : ((pk58.drop 24).take 24).all (okQ 58) = true := by decide +kernel
set_option maxRecDepth 100000 in
theorem okq_58_2 : ((pk58.drop 48).take 24).all (okQ 58) = true := by decide +kernel
set_option maxRecDepth 100000 in
theorem okm_58 : okM 58 = true := okM_of (k := 3) (tb := pk58) rfl (by decide +kernel) (fun i hi => by
  by_cases h0 : i = 0
  · subst h0; exact okq_58_0
  by_cases h1 : i = 1
  · subst h1; exact okq_58_1
  by_cases h2 : i = 2
  · subst h2; exact okq_58_2
  omega) (Nat.le_of_ble_eq_true rfl)
set_option maxRecDepth 100000 in
theorem okq_59_0 : ((pk59.drop 0).take 24).all (okQ 59) = true := by decide +kernel
set_option maxRecDepth 100000 in
theorem okq_59_1 : ((pk59.drop 24).take 24).all (okQ 59) = true := by decide +kernel
set_option maxRecDepth 100000 in
theorem okm_59 : okM 59 = true := okM_of (k := 2) (tb := pk59) rfl (by decide +kernel) (fun i hi => by
  by_cases h0 : i = 0
  · subst h0; exact okq_59_0
  by_cases h1 : i = 1
  · subst h1; exact okq_59_1
  omega) (Nat.le_of_ble_eq_true rfl)
set_option maxRecDepth 100000 in
theorem okq_60_0 : ((pk60.drop 0).take 24).all (okQ 60) = true := by decide +kernel
set_option maxRecDepth 100000 in
theorem okq_60_1 : ((pk60.drop 24).take 24).all (okQ 60) = true := by decide +kernel
set_option maxRecDepth 100000 in
theorem okm_60 : okM 60 = true := okM_of (k := 2) (tb := pk60) rfl (by decide +kernel) (fun i hi => by
  by_cases h0 : i = 0
  · subst h0; exact okq_60_0
  by_cases h1 : i = 1
  · subst h1; exact okq_60_1
  omega) (Nat.le_of_ble_eq_true rfl)
set_option maxRecDepth 100000 in
theorem okq_61_0 : ((pk61.drop 0).take 24).all (okQ 61) = true := by decide +kernel
set_option maxRecDepth 100000 in
theorem okq_61_1 : ((pk61.drop 24).take 24).all (okQ 61) = true := by decide +kernel
set_option maxRecDepth 100000 in
theorem okm_61 : okM 61 = true := okM_of (k := 2) (tb := pk61) rfl (by decide +kernel) (fun i hi => by
  by_cases h0 : i = 0
  · subst h0; exact okq_61_0
  by_cases h1 : i = 1
  · subst h1; exact okq_61_1
  omega) (Nat.le_of_ble_eq_true rfl)
set_option maxRecDepth 100000 in
theorem okq_62_0 : ((pk62.drop 0).take 24).all (okQ 62) = true := by decide +kernel
set_option maxRecDepth 100000 in
theorem okq_62_1 : ((pk62.drop 24).take 24).all (okQ 62) = true := by decide +kernel
set_option maxRecDepth 100000 in
theorem okq_62_2 : ((pk62.drop 48).take 24).all (okQ 62) = true := by decide +kernel
set_option maxRecDepth 100000 in
theorem okm_62 : okM 62 = true := okM_of (k := 3) (tb := pk62) rfl (by decide +kernel) (fun i hi => by
  by_cases h0 : i = 0
  · subst h0; exact okq_62_0
  by_cases h1 : i = 1
  · subst h1; exact okq_62_1
  by_cases h2 : i = 2
  · subst h2; exact okq_62_2
  omega) (Nat.le_of_ble_eq_true rfl)
set_option maxRecDepth 100000 in
theorem okq_63_0 : ((pk63.drop 0).take 24).all (okQ 63) = true := by decide +kernel
set_option maxRecDepth 100000 in
theorem okq_63_1 : ((pk63.drop 24).take 24).all (okQ 63) = true := by decide +kernel
set_option maxRecDepth 100000 in
theorem okq_63_2 : ((pk63.drop 48).take 24).all (okQ 63) = true := by decide +kernel
set_option maxRecDepth 100000 in
theorem okm_63 : okM 63 = true := okM_of (k := 3) (tb := pk63) rfl (by decide +kernel) (fun i hi => by
  by_cases h0 : i = 0
  · subst h0; exact okq_63_0
  by_cases h1 : i = 1
  · subst h1; exact okq_63_1
  by_cases h2 : i = 2
  · subst h2; exact okq_63_2
  omega) (Nat.le_of_ble_eq_true rfl)
set_option maxRecDepth 100000 in
theorem okq_64_0 : ((pk64.drop 0).take 24).all (okQ 64) = true := by decide +kernel
set_option maxRecDepth 100000 in
theorem okq_64_1 : ((pk64.drop 24).take 24).all (okQ 64) = true := by decide +kernel
set_option maxRecDepth 100000 in
theorem okq_64_2 : ((pk64.drop 48).take 24).all (okQ 64) = true := by decide +kernel
set_option maxRecDepth 100000 in
theorem okm_64 : okM 64 = true := okM_of (k := 3) (tb := pk64) rfl (by decide +kernel) (fun i hi => by
  by_cases h0 : i = 0
  · subst h0; exact okq_64_0
  by_cases h1 : i = 1
  · subst h1; exact okq_64_1
  by_cases h2 : i = 2
  · subst h2; exact okq_64_2
  omega) (Nat.le_of_ble_eq_true rfl)
set_option maxRecDepth 100000 in
theorem okq_65_0 : ((pk65.drop 0).take 24).all (okQ 65) = true := by decide +kernel
set_option maxRecDepth 100000 in
theorem okq_65_1 : ((pk65.drop 24).take 24).all (okQ 65) = true := by decide +kernel
set_option maxRecDepth 100000 in
theorem okm_65 : okM 65 = true := okM_of (k := 2) (tb := pk65) rfl (by decide +kernel) (fun i hi => by
  by_cases h0 : i = 0
  · subst h0; exact okq_65_0
  by_cases h1 : i = 1
  · subst h1; exact okq_65_1
  omega) (Nat.le_of_ble_eq_true rfl)
set_option maxRecDepth 100000 in
theorem okq_66_0 : ((pk66.drop 0).take 24).all (okQ 66) = true := by decide +kernel
set_option maxRecDepth 100000 in
theorem okq_66_1 : ((pk66.drop 24).take 24).all (okQ 66) = true := by decide +kernel
set_option maxRecDepth 100000 in
theorem okq_66_2 : ((pk66.drop 48).take 24).all (okQ 66) = true := by decide +kernel
set_option maxRecDepth 100000 in
theorem okm_66 : okM 66 = true := okM_of (k := 3) (tb := pk66) rfl (by decide +kernel) (fun i hi => by
  by_cases h0 : i = 0
  · subst h0; exact okq_66_0
  by_cases h1 : i = 1
  · subst h1; exact okq_66_1
  by_cases h2 : i = 2
  · subst h2; exact okq_66_2
  omega) (Nat.le_of_ble_eq_true rfl)
set_option maxRecDepth 100000 in
theorem okq_67_0 : ((pk67.drop 0).take 24).all (okQ 67) = true := by decide +kernel
set_option maxRecDepth 100000 in
theorem okq_67_1 : ((pk67.drop 24).take 24).all (okQ 67) = true := by decide +kernel
set_option maxRecDepth 100000 in
theorem okm_67 : okM 67 = true := okM_of (k := 2) (tb := pk67) rfl (by decide +kernel) (fun i hi => by
  by_cases h0 : i = 0
  · subst h0; exact okq_67_0
  by_cases h1 : i = 1
  · subst h1; exact okq_67_1
  omega) (Nat.le_of_ble_eq_true rfl)
set_option maxRecDepth 100000 in
theorem okq_68_0 : ((pk68.drop 0).take 24).all (okQ 68) = true := by decide +kernel
set_option maxRecDepth 100000 in
theorem okq_68_1 : ((pk68.drop 24).take 24).all (okQ 68) = true := by decide +kernel
set_option maxRecDepth 100000 in
theorem okm_68 : okM 68 = true := okM_of (k := 2) (tb := pk68) rfl (by decide +kernel) (fun i hi => by
  by_cases h0 : i = 0
  · subst h0; exact okq_68_0
  by_cases h1 : i = 1
  · subst h1; exact okq_68_1
  omega) (Nat.le_of_ble_eq_true rfl)
set_option maxRecDepth 100000 in
theorem okq_69_0 : ((pk69.drop 0).take 24).all (okQ 69) = true := by decide +kernel
set_option maxRecDepth 100000 in
theorem okq_69_1 : ((pk69.drop 24).take 24).all (okQ 69) = true := by decide +kernel
set_option maxRecDepth 100000 in
theorem okm_69 : okM 69 = true := okM_of (k := 2) (tb := pk69) rfl (by decide +kernel) (fun i hi => by
  by_cases h0 : i = 0
  · subst h0; exact okq_69_0
  by_cases h1 : i = 1
  · subst h1; exact okq_69_1
  omega) (Nat.le_of_ble_eq_true rfl)
set_option maxRecDepth 100000 in
theorem okq_70_0 : ((pk70.drop 0).take 24).all (okQ 70) = true := by decide +kernel
set_option maxRecDepth 100000 in
theorem okm_70 : okM 70 = true := okM_of (k := 1) (tb := pk70) rfl (by decide +kernel) (fun i hi => by
  by_cases h0 : i = 0
  · subst h0; exact okq_70_0
  omega) (Nat.le_of_ble_eq_true rfl)
set_option maxRecDepth 100000 in
theorem okq_71_0 : ((pk71.drop 0).take 24).all (okQ 71) = true := by decide +kernel
set_option maxRecDepth 100000 in
theorem okq_71_1 : ((pk71.drop 24).take 24).all (okQ 71) = true := by decide +kernel
set_option maxRecDepth 100000 in
theorem okm_71 : okM 71 = true := okM_of (k := 2) (tb := pk71) rfl (by decide +kernel) (fun i hi => by
  by_cases h0 : i = 0
  · subst h0; exact okq_71_0
  by_cases h1 : i = 1
  · subst h1; exact okq_71_1
  omega) (Nat.le_of_ble_eq_true rfl)
set_option maxRecDepth 100000 in
theorem okq_72_0 : ((pk72.drop 0).take 24).all (okQ 72) = true := by decide +kernel
set_option maxRecDepth 100000 in
theorem okq_72_1 : ((pk72.drop 24).take 24).all (okQ 72) = true := by decide +kernel
set_option maxRecDepth 100000 in
theorem okm_72 : okM 72 = true := okM_of (k := 2) (tb := pk72) rfl (by decide +kernel) (fun i hi => by
  by_cases h0 : i = 0
  · subst h0; exact okq_72_0
  by_cases h1 : i = 1
  · subst h1; exact okq_72_1
  omega) (Nat.le_of_ble_eq_true rfl)
set_option maxRecDepth 100000 in
theorem okq_73_0 : ((pk73.drop 0).take 24).all (okQ 73) = true := by decide +kernel
set_option maxRecDepth 100000 in
theorem okq_73_1 : ((pk73.drop 24).take 24).all (okQ 73) = true := by decide +kernel
set_option maxRecDepth 100000 in
theorem okm_73 : okM 73 = true := okM_of (k := 2) (tb := pk73) rfl (by decide +kernel) (fun i hi => by
  by_cases h0 : i = 0
  · subst h0; exact okq_73_0
  by_cases h1 : i = 1
  · subst h1; exact okq_73_1
  omega) (Nat.le_of_ble_eq_true rfl)
set_option maxRecDepth 100000 in
theorem okq_74_0 : ((pk74.drop 0).take 24).all (okQ 74) = true := by decide +kernel
set_option maxRecDepth 100000 in
theorem okm_74 : okM 74 = true := okM_of (k := 1) (tb := pk74) rfl (by decide +kernel) (fun i hi => by
  by_cases h0 : i = 0
  · subst h0; exact okq_74_0
  omega) (Nat.le_of_ble_eq_true rfl)
set_option maxRecDepth 100000 in
theorem okq_75_0 : ((pk75.drop 0).take 24).all (okQ 75) = true := by decide +kernel
set_option maxRecDepth 100000 in
theorem okm_75 : okM 75 = true := okM_of (k := 1) (tb := pk75) rfl (by decide +kernel) (fun i hi => by
  by_cases h0 : i = 0
  · subst h0; exact okq_75_0
  omega) (Nat.le_of_ble_eq_true rfl)
set_option maxRecDepth 100000 in
theorem okq_76_0 : ((pk76.drop 0).take 24).all (okQ 76) = true := by decide +kernel
set_option maxRecDepth 100000 in
theorem okm_76 : okM 76 = true := okM_of (k := 1) (tb := pk76) rfl (by decide +kernel) (fun i hi => by
  by_cases h0 : i = 0
  · subst h0; exact okq_76_0
  omega) (Nat.le_of_ble_eq_true rfl)
set_option maxRecDepth 100000 in
theorem okq_77_0 : ((pk77.drop 0).take 24).all (okQ 77) = true := by decide +kernel
set_option maxRecDepth 100000 in
theorem okq_77_1 : ((pk77.drop 24).take 24).all (okQ 77) = true := by decide +kernel
set_option maxRecDepth 100000 in
theorem okm_77 : okM 77 = true := okM_of (k := 2) (tb := pk77) rfl (by decide +kernel) (fun i hi => by
  by_cases h0 : i = 0
  · subst h0; exact okq_77_0
  by_cases h1 : i = 1
  · subst h1; exact okq_77_1
  omega) (Nat.le_of_ble_eq_true rfl)
set_option maxRecDepth 100000 in
theorem okq_78_0 : ((pk78.drop 0).take 24).all (okQ 78) = true := by decide +kernel
set_option maxRecDepth 100000 in
theorem okm_78 : okM 78 = true := okM_of (k := 1) (tb := pk78) rfl (by decide +kernel) (fun i hi => by
  by_cases h0 : i = 0
  · subst h0; exact okq_78_0
  omega) (Nat.le_of_ble_eq_true rfl)
set_option maxRecDepth 100000 in
theorem okq_79_0 : ((pk79.drop 0).take 24).all (okQ 79) = true := by decide +kernel
set_option maxRecDepth 100000 in
theorem okm_79 : okM 79 = true := okM_of (k := 1) (tb := pk79) rfl (by decide +kernel) (fun i hi => by
  by_cases h0 : i = 0
  · subst h0; exact okq_79_0
  omega) (Nat.le_of_ble_eq_true rfl)
set_option maxRecDepth 100000 in
theorem okq_80_0 : ((pk80.drop 0).take 24).all (okQ 80) = true := by decide +kernel
set_option maxRecDepth 100000 in
theorem okm_80 : okM 80 = true := okM_of (k := 1) (tb := pk80) rfl (by decide +kernel) (fun i hi => by
  by_cases h0 : i = 0
  · subst h0; exact okq_80_0
  omega) (Nat.le_of_ble_eq_true rfl)
set_option maxRecDepth 100000 in
theorem okq_81_0 : ((pk81.drop 0).take 24).all (okQ 81) = true := by decide +kernel
set_option maxRecDepth 100000 in
theorem okm_81 : okM 81 = true := okM_of (k := 1) (tb := pk81) rfl (by decide +kernel) (fun i hi => by
  by_cases h0 : i = 0
  · subst h0; exact okq_81_0
  omega) (Nat.le_of_ble_eq_true rfl)
set_option maxRecDepth 100000 in
theorem okq_82_0 : ((pk82.drop 0).take 24).all (okQ 82) = true := by decide +kernel
set_option maxRecDepth 100000 in
theorem okm_82 : okM 82 = true := okM_of (k := 1) (tb := pk82) rfl (by decide +kernel) (fun i hi => by
  by_cases h0 : i = 0
  · subst h0; exact okq_82_0
  omega) (Nat.le_of_ble_eq_true rfl)
set_option maxRecDepth 100000 in
theorem okq_83_0 : ((pk83.drop 0).take 24).all (okQ 83) = true := by decide +kernel
set_option maxRecDepth 100000 in
theorem okm_83 : okM 83 = true := okM_of (k := 1) (tb := pk83) rfl (by decide +kernel) (fun i hi => by
  by_cases h0 : i = 0
  · subst h0; exact okq_83_0
  omega) (Nat.le_of_ble_eq_true rfl)
set_option maxRecDepth 100000 in
theorem okq_84_0 : ((pk84.drop 0).take 24).all (okQ 84) = true := by decide +kernel
set_option maxRecDepth 100000 in
theorem okm_84 : okM 84 = true := okM_of (k := 1) (tb := pk84) rfl (by decide +kernel) (fun i hi => by
  by_cases h0 : i = 0
  · subst h0; exact okq_84_0
  omega) (Nat.le_of_ble_eq_true rfl)
set_option maxRecDepth 100000 in
theorem okq_85_0 : ((pk85.drop 0).take 24).all (okQ 85) = true := by decide +kernel
set_option maxRecDepth 100000 in
theorem okm_85 : okM 85 = true := okM_of (k := 1) (tb := pk85) rfl (by decide +kernel) (fun i hi => by
  by_cases h0 : i = 0
  · subst h0; exact okq_85_0
  omega) (Nat.le_of_ble_eq_true rfl)
set_option maxRecDepth 100000 in
theorem okq_86_0 : ((pk86.drop 0).take 24).all (okQ 86) = true := by decide +kernel
set_option maxRecDepth 100000 in
theorem okm_86 : okM 86 = true := okM_of (k := 1) (tb := pk86) rfl (by decide +kernel) (fun i hi => by
  by_cases h0 : i = 0
  · subst h0; exact okq_86_0
  omega) (Nat.le_of_ble_eq_true rfl)
set_option maxRecDepth 100000 in
theorem okq_87_0 : ((pk87.drop 0).take 24).all (okQ 87) = true := by decide +kernel
set_option maxRecDepth 100000 in
theorem okm_87 : okM 87 = true := okM_of (k := 1) (tb := pk87) rfl (by decide +kernel) (fun i hi => by
  by_cases h0 : i = 0
  · subst h0; exact okq_87_0
  omega) (Nat.le_of_ble_eq_true rfl)
set_option maxRecDepth 100000 in
theorem okq_88_0 : ((pk88.drop 0).take 24).all (okQ 88) = true := by decide +kernel
set_option maxRecDepth 100000 in
theorem okm_88 : okM 88 = true := okM_of (k := 1) (tb := pk88) rfl (by decide +kernel) (fun i hi => by
  by_cases h0 : i = 0
  · subst h0; exact okq_88_0
  omega) (Nat.le_of_ble_eq_true rfl)
set_option maxRecDepth 100000 in
theorem okq_89_0 : ((pk89.drop 0).take 24).all (okQ 89) = true := by decide +kernel
set_option maxRecDepth 100000 in
theorem okm_89 : okM 89 = true := okM_of (k := 1) (tb := pk89) rfl (by decide +kernel) (fun i hi => by
  by_cases h0 : i = 0
  · subst h0; exact okq_89_0
  omega) (Nat.le_of_ble_eq_true rfl)
set_option maxRecDepth 100000 in
theorem okq_90_0 : ((pk90.drop 0).take 24).all (okQ 90) = true := by decide +kernel
set_option maxRecDepth 100000 in
theorem okq_90_1 : ((pk90.drop 24).take 24).all (okQ 90) = true := by decide +kernel
set_option maxRecDepth 100000 in
theorem okm_90 : okM 90 = true := okM_of (k := 2) (tb := pk90) rfl (by decide +kernel) (fun i hi => by
  by_cases h0 : i = 0
  · subst h0; exact okq_90_0
  by_cases h1 : i = 1
  · subst h1; exact okq_90_1
  omega) (Nat.le_of_ble_eq_true rfl)
set_option maxRecDepth 100000 in
theorem okq_91_0 : ((pk91.drop 0).take 24).all (okQ 91) = true := by decide +kernel
set_option maxRecDepth 100000 in
theorem okm_91 : okM 91 = true := okM_of (k := 1) (tb := pk91) rfl (by decide +kernel) (fun i hi => by
  by_cases h0 : i = 0
  · subst h0; exact okq_91_0
  omega) (Nat.le_of_ble_eq_true rfl)
set_option maxRecDepth 100000 in
theorem okq_92_0 : ((pk92.drop 0).take 24).all (okQ 92) = true := by decide +kernel
set_option maxRecDepth 100000 in
theorem okm_92 : okM 92 = true := okM_of (k := 1) (tb := pk92) rfl (by decide +kernel) (fun i hi => by
  by_cases h0 : i = 0
  · subst h0; exact okq_92_0
  omega) (Nat.le_of_ble_eq_true rfl)
set_option maxRecDepth 100000 in
theorem okq_93_0 : ((pk93.drop 0).take 24).all (okQ 93) = true := by decide +kernel
set_option maxRecDepth 100000 in
theorem okm_93 : okM 93 = true := okM_of (k := 1) (tb := pk93) rfl (by decide +kernel) (fun i hi => by
  by_cases h0 : i = 0
  · subst h0; exact okq_93_0
  omega) (Nat.le_of_ble_eq_true rfl)
set_option maxRecDepth 100000 in
theorem okq_94_0 : ((pk94.drop 0).take 24).all (okQ 94) = true := by decide +kernel
set_option maxRecDepth 100000 in
theorem okm_94 : okM 94 = true := okM_of (k := 1) (tb := pk94) rfl (by decide +kernel) (fun i hi => by
  by_cases h0 : i = 0
  · subst h0; exact okq_94_0
  omega) (Nat.le_of_ble_eq_true rfl)
set_option maxRecDepth 100000 in
theorem okq_95_0 : ((pk95.drop 0).take 24).all (okQ 95) = true := by decide +kernel
set_option maxRecDepth 100000 in
theorem okm_95 : okM 95 = true := okM_of (k := 1) (tb := pk95) rfl (by decide +kernel) (fun i hi => by
  by_cases h0 : i = 0
  · subst h0; exact okq_95_0
  omega) (Nat.le_of_ble_eq_true rfl)
set_option maxRecDepth 100000 in
theorem okq_96_0 : ((pk96.drop 0).take 24).all (okQ 96) = true := by decide +kernel
set_option maxRecDepth 100000 in
theorem okm_96 : okM 96 = true := okM_of (k := 1) (tb := pk96) rfl (by decide +kernel) (fun i hi => by
  by_cases h0 : i = 0
  · subst h0; exact okq_96_0
  omega) (Nat.le_of_ble_eq_true rfl)
set_option maxRecDepth 100000 in
theorem okq_97_0 : ((pk97.drop 0).take 24).all (okQ 97) = true := by decide +kernel
set_option maxRecDepth 100000 in
theorem okm_97 : okM 97 = true := okM_of (k := 1) (tb := pk97) rfl (by decide +kernel) (fun i hi => by
  by_cases h0 : i = 0
  · subst h0; exact okq_97_0
  omega) (Nat.le_of_ble_eq_true rfl)
set_option maxRecDepth 100000 in
theorem okq_98_0 : ((pk98.drop 0).take 24).all (okQ 98) = true := by decide +kernel
set_option maxRecDepth 100000 in
theorem okm_98 : okM 98 = true := okM_of (k := 1) (tb := pk98) rfl (by decide +kernel) (fun i hi => by
  by_cases h0 : i = 0
  · subst h0; exact okq_98_0
  omega) (Nat.le_of_ble_eq_true rfl)
set_option maxRecDepth 100000 in
theorem okq_99_0 : ((pk99.drop 0).take 24).all (okQ 99) = true := by decide +kernel
set_option maxRecDepth 100000 in
theorem okm_99 : okM 99 = true := okM_of (k := 1) (tb := pk99) rfl (by decide +kernel) (fun i hi => by
  by_cases h0 : i = 0
  · subst h0; exact okq_99_0
  omega) (Nat.le_of_ble_eq_true rfl)
set_option maxRecDepth 100000 in
theorem okq_100_0 : ((pk100.drop 0).take 24).all (okQ 100) = true := by decide +kernel
set_option maxRecDepth 100000 in
theorem okm_100 : okM 100 = true := okM_of (k := 1) (tb := pk100) rfl (by decide +kernel) (fun i hi => by
  by_cases h0 : i = 0
  · subst h0; exact okq_100_0
  omega) (Nat.le_of_ble_eq_true rfl)
set_option maxRecDepth 100000 in
theorem okq_101_0 : ((pk101.drop 0).take 24).all (okQ 101) = true := by decide +kernel
set_option maxRecDepth 100000 in
theorem okm_101 : okM 101 = true := okM_of (k := 1) (tb := pk101) rfl (by decide +kernel) (fun i hi => by
  by_cases h0 : i = 0
  · subst h0; exact okq_101_0
  omega) (Nat.le_of_ble_eq_true rfl)
set_option maxRecDepth 100000 in
theorem okq_102_0 : ((pk102.drop 0).take 24).all (okQ 102) = true := by decide +kernel
set_option maxRecDepth 100000 in
theorem okm_102 : okM 102 = true := okM_of (k := 1) (tb := pk102) rfl (by decide +kernel) (fun i hi => by
  by_cases h0 : i = 0
  · subst h0; exact okq_102_0
  omega) (Nat.le_of_ble_eq_true rfl)
set_option maxRecDepth 100000 in
theorem okq_103_0 : ((pk103.drop 0).take 24).all (okQ 103) = true := by decide +kernel
set_option maxRecDepth 100000 in
theorem okm_103 : okM 103 = true := okM_of (k := 1) (tb := pk103) rfl (by decide +kernel) (fun i hi => by
  by_cases h0 : i = 0
  · subst h0; exact okq_103_0
  omega) (Nat.le_of_ble_eq_true rfl)
set_option maxRecDepth 100000 in
theorem okq_104_0 : ((pk104.drop 0).take 24).all (okQ 104) = true := by decide +kernel
set_option maxRecDepth 100000 in
theorem okm_104 : okM 104 = true := okM_of (k := 1) (tb := pk104) rfl (by decide +kernel) (fun i hi => by
  by_cases h0 : i = 0
  · subst h0; exact okq_104_0
  omega) (Nat.le_of_ble_eq_true rfl)
set_option maxRecDepth 100000 in
theorem okq_105_0 : ((pk105.drop 0).take 24).all (okQ 105) = true := by decide +kernel
set_option maxRecDepth 100000 in
theorem okq_105_1 : ((pk105.drop 24).take 24).all (okQ 105) = true := by decide +kernel
set_option maxRecDepth 100000 in
theorem okm_105 : okM 105 = true := okM_of (k := 2) (tb := pk105) rfl (by decide +kernel) (fun i hi => by
  by_cases h0 : i = 0
  · subst h0; exact okq_105_0
  by_cases h1 : i = 1
  · subst h1; exact okq_105_1
  omega) (Nat.le_of_ble_eq_true rfl)
set_option maxRecDepth 100000 in
theorem okq_106_0 : ((pk106.drop 0).take 24).all (okQ 106) = true := by decide +kernel
set_option maxRecDepth 100000 in
theorem okm_106 : okM 106 = true := okM_of (k := 1) (tb := pk106) rfl (by decide +kernel) (fun i hi => by
  by_cases h0 : i = 0
  · subst h0; exact okq_106_0
  omega) (Nat.le_of_ble_eq_true rfl)
set_option maxRecDepth 100000 in
theorem okq_107_0 : ((pk107.drop 0).take 24).all (okQ 107) = true := by decide +kernel
set_option maxRecDepth 100000 in
theorem okm_107 : okM 107 = true := okM_of (k := 1) (tb := pk107) rfl (by decide +kernel) (fun i hi => by
  by_cases h0 : i = 0
  · subst h0; exact okq_107_0
  omega) (Nat.le_of_ble_eq_true rfl)
set_option maxRecDepth 100000 in
theorem okq_108_0 : ((pk108.drop 0).take 24).all (okQ 108) = true := by decide +kernel
set_option maxRecDepth 100000 in
theorem okq_108_1 : ((pk108.drop 24).take 24).all (okQ 108) = true := by decide +kernel
set_option maxRecDepth 100000 in
theorem okm_108 : okM 108 = true := okM_of (k := 2) (tb := pk108) rfl (by decide +kernel) (fun i hi => by
  by_cases h0 : i = 0
  · subst h0; exact okq_108_0
  by_cases h1 : i = 1
  · subst h1; exact okq_108_1
  omega) (Nat.le_of_ble_eq_true rfl)
set_option maxRecDepth 100000 in
theorem okq_109_0 : ((pk109.drop 0).take 24).all (okQ 109) = true := by decide +kernel
set_option maxRecDepth 100000 in
theorem okq_109_1 : ((pk109.drop 24).take 24).all (okQ 109) = true := by decide +kernel
set_option maxRecDepth 100000 in
theorem okq_109_2 : ((pk109.drop 48).take 24).all (okQ 109) = true := by decide +kernel
set_option maxRecDepth 100000 in
theorem okq_109_3 : ((pk109.drop 72).take 24).all (okQ 109) = true := by decide +kernel
set_option maxRecDepth 100000 in
theorem okq_109_4 : ((pk109.drop 96).take 24).all (okQ 109) = true := by decide +kernel
set_option maxRecDepth 100000 in
theorem okq_109_5 : ((pk109.drop 120).take 24).all (okQ 109) = true := by decide +kernel
set_option maxRecDepth 100000 in
theorem okq_109_6 : ((pk109.drop 144).take 24).all (okQ 109) = true := by decide +kernel
set_option maxRecDepth 100000 in
theorem okm_109 : okM 109 = true := okM_of (k := 7) (tb := pk109) rfl (by decide +kernel) (fun i hi => by
  by_cases h0 : i = 0
  · subst h0; exact okq_109_0
  by_cases h1 : i = 1
  · subst h1; exact okq_109_1
  by_cases h2 : i = 2
  · subst h2; exact okq_109_2
  by_cases h3 : i = 3
  · subst h3; exact okq_109_3
  by_cases h4 : i = 4
  · subst h4; exact okq_109_4
  by_cases h5 : i = 5
  · subst h5; exact okq_109_5
  by_cases h6 : i = 6
  · subst h6; exact okq_109_6
  omega) (Nat.le_of_ble_eq_true rfl)
set_option maxRecDepth 100000 in
theorem okq_110_0 : ((pk110.drop 0).take 24).all (okQ 110) = true := by decide +kernel
set_option maxRecDepth 100000 in
theorem okq_110_1 : ((pk110.drop 24).take 24).all (okQ 110) = true := by decide +kernel
set_option maxRecDepth 100000 in
theorem okm_110 : okM 110 = true := okM_of (k := 2) (tb := pk110) rfl (by decide +kernel) (fun i hi => by
  by_cases h0 : i = 0
  · subst h0; exact okq_110_0
  by_cases h1 : i = 1
  · subst h1; exact okq_110_1
  omega) (Nat.le_of_ble_eq_true rfl)
set_option maxRecDepth 100000 in
theorem okq_111_0 : ((pk111.drop 0).take 24).all (okQ 111) = true := by decide +kernel
set_option maxRecDepth 100000 in
theorem okm_111 : okM 111 = true := okM_of (k := 1) (tb := pk111) rfl (by decide +kernel) (fun i hi => by
  by_cases h0 : i = 0
  · subst h0; exact okq_111_0
  omega) (Nat.le_of_ble_eq_true rfl)
set_option maxRecDepth 100000 in
theorem okq_112_0 : ((pk112.drop 0).take 24).all (okQ 112) = true := by decide +kernel
set_option maxRecDepth 100000 in
theorem okm_112 : okM 112 = true := okM_of (k := 1) (tb := pk112) rfl (by decide +kernel) (fun i hi => by
  by_cases h0 : i = 0
  · subst h0; exact okq_112_0
  omega) (Nat.le_of_ble_eq_true rfl)
set_option maxRecDepth 100000 in
theorem okq_113_0 : ((pk113.drop 0).take 24).all (okQ 113) = true := by decide +kernel
set_option maxRecDepth 100000 in
theorem okm_113 : okM 113 = true := okM_of (k := 1) (tb := pk113) rfl (by decide +kernel) (fun i hi => by
  by_cases h0 : i = 0
  · subst h0; exact okq_113_0
  omega) (Nat.le_of_ble_eq_true rfl)
set_option maxRecDepth 100000 in
theorem okq_114_0 : ((pk114.drop 0).take 24).all (okQ 114) = true := by decide +kernel
set_option maxRecDepth 100000 in
theorem okm_114 : okM 114 = true := okM_of (k := 1) (tb := pk114) rfl (by decide +kernel) (fun i hi => by
  by_cases h0 : i = 0
  · subst h0; exact okq_114_0
  omega) (Nat.le_of_ble_eq_true rfl)
set_option maxRecDepth 100000 in
theorem okq_115_0 : ((pk115.drop 0).take 24).all (okQ 115) = true := by decide +kernel
set_option maxRecDepth 100000 in
theorem okm_115 : okM 115 = true := okM_of (k := 1) (tb := pk115) rfl (by decide +kernel) (fun i hi => by
  by_cases h0 : i = 0
  · subst h0; exact okq_115_0
  omega) (Nat.le_of_ble_eq_true rfl)
set_option maxRecDepth 100000 in
theorem okq_116_0 : ((pk116.drop 0).take 24).all (okQ 116) = true := by decide +kernel
set_option maxRecDepth 100000 in
theorem okm_116 : okM 116 = true := okM_of (k := 1) (tb := pk116) rfl (by decide +kernel) (fun i hi => by
  by_cases h0 : i = 0
  · subst h0; exact okq_116_0
  omega) (Nat.le_of_ble_eq_true rfl)
set_option maxRecDepth 100000 in
theorem okq_117_0 : ((pk117.drop 0).take 24).all (okQ 117) = true := by decide +kernel
set_option maxRecDepth 100000 in
theorem okm_117 : okM 117 = true := okM_of (k := 1) (tb := pk117) rfl (by decide +kernel) (fun i hi => by
  by_cases h0 : i = 0
  · subst h0; exact okq_117_0
  omega) (Nat.le_of_ble_eq_true rfl)
set_option maxRecDepth 100000 in
theorem okq_118_0 : ((pk118.drop 0).take 24).all (okQ 118) = true := by decide +kernel
set_option maxRecDepth 100000 in
theorem okq_118_1 : ((pk118.drop 24).take 24).all (okQ 118) = true := by decide +kernel
set_option maxRecDepth 100000 in
theorem okq_118_2 : ((pk118.drop 48).take 24).all (okQ 118) = true := by decide +kernel
set_option maxRecDepth 100000 in
theorem okm_118 : okM 118 = true := okM_of (k := 3) (tb := pk118) rfl (by decide +kernel) (fun i hi => by
  by_cases h0 : i = 0
  · subst h0; exact okq_118_0
  by_cases h1 : i = 1
  · subst h1; exact okq_118_1
  by_cases h2 : i = 2
  · subst h2; exact okq_118_2
  omega) (Nat.le_of_ble_eq_true rfl)
set_option maxRecDepth 100000 in
theorem okq_119_0 : ((pk119.drop 0).take 24).all (okQ 119) = true := by decide +kernel
set_option maxRecDepth 100000 in
theorem okq_119_1 : ((pk119.drop 24).take 24).all (okQ 119) = true := by decide +kernel
set_option maxRecDepth 100000 in
theorem okm_119 : okM 119 = true := okM_of (k := 2) (tb := pk119) rfl (by decide +kernel) (fun i hi => by
  by_cases h0 : i = 0
  · subst h0; exact okq_119_0
  by_cases h1 : i = 1
  · subst h1; exact okq_119_1
  omega) (Nat.le_of_ble_eq_true rfl)
