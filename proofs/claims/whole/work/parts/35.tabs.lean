theorem ptable_out {pc : Nat} {dflt lo hi : Int} {offs : Array Int} {x : Int32} (h : x.toInt < lo ∨ hi < x.toInt) : ptable pc dflt lo hi offs x = ptgt pc dflt := if_pos h
theorem ts26_10_7 : ptable 10 232 7 13 #[42, 42, 42, 72, 106, 140, 177] 7 = 52 := by decide
theorem ts26_10_8 : ptable 10 232 7 13 #[42, 42, 42, 72, 106, 140, 177] 8 = 52 := by decide
theorem ts26_10_9 : ptable 10 232 7 13 #[42, 42, 42, 72, 106, 140, 177] 9 = 52 := by decide
theorem ts26_10_10 : ptable 10 232 7 13 #[42, 42, 42, 72, 106, 140, 177] 10 = 82 := by decide
theorem ts26_10_11 : ptable 10 232 7 13 #[42, 42, 42, 72, 106, 140, 177] 11 = 116 := by decide
theorem ts26_10_12 : ptable 10 232 7 13 #[42, 42, 42, 72, 106, 140, 177] 12 = 150 := by decide
theorem ts26_10_13 : ptable 10 232 7 13 #[42, 42, 42, 72, 106, 140, 177] 13 = 187 := by decide
theorem tsd26_10 {x : Int32} (h7 : ¬ x = 7) (h8 : ¬ x = 8) (h9 : ¬ x = 9) (h10 : ¬ x = 10) (h11 : ¬ x = 11) (h12 : ¬ x = 12) (h13 : ¬ x = 13) : ptable 10 232 7 13 #[42, 42, 42, 72, 106, 140, 177] x = 242 := by
  have g7 : x.toInt ≠ 7 := fun q => h7 (Int32.toInt_inj.mp q)
  have g8 : x.toInt ≠ 8 := fun q => h8 (Int32.toInt_inj.mp q)
  have g9 : x.toInt ≠ 9 := fun q => h9 (Int32.toInt_inj.mp q)
  have g10 : x.toInt ≠ 10 := fun q => h10 (Int32.toInt_inj.mp q)
  have g11 : x.toInt ≠ 11 := fun q => h11 (Int32.toInt_inj.mp q)
  have g12 : x.toInt ≠ 12 := fun q => h12 (Int32.toInt_inj.mp q)
  have g13 : x.toInt ≠ 13 := fun q => h13 (Int32.toInt_inj.mp q)
  exact ptable_out (by omega)
theorem ts61_11_4 : ptable 11 92 4 10 #[41, 41, 43, 41, 45, 92, 62] 4 = 52 := by decide
theorem ts61_11_5 : ptable 11 92 4 10 #[41, 41, 43, 41, 45, 92, 62] 5 = 52 := by decide
theorem ts61_11_6 : ptable 11 92 4 10 #[41, 41, 43, 41, 45, 92, 62] 6 = 54 := by decide
theorem ts61_11_7 : ptable 11 92 4 10 #[41, 41, 43, 41, 45, 92, 62] 7 = 52 := by decide
theorem ts61_11_8 : ptable 11 92 4 10 #[41, 41, 43, 41, 45, 92, 62] 8 = 56 := by decide
theorem ts61_11_9 : ptable 11 92 4 10 #[41, 41, 43, 41, 45, 92, 62] 9 = 103 := by decide
theorem ts61_11_10 : ptable 11 92 4 10 #[41, 41, 43, 41, 45, 92, 62] 10 = 73 := by decide
theorem tsd61_11 {x : Int32} (h4 : ¬ x = 4) (h5 : ¬ x = 5) (h6 : ¬ x = 6) (h7 : ¬ x = 7) (h8 : ¬ x = 8) (h9 : ¬ x = 9) (h10 : ¬ x = 10) : ptable 11 92 4 10 #[41, 41, 43, 41, 45, 92, 62] x = 103 := by
  have g4 : x.toInt ≠ 4 := fun q => h4 (Int32.toInt_inj.mp q)
  have g5 : x.toInt ≠ 5 := fun q => h5 (Int32.toInt_inj.mp q)
  have g6 : x.toInt ≠ 6 := fun q => h6 (Int32.toInt_inj.mp q)
  have g7 : x.toInt ≠ 7 := fun q => h7 (Int32.toInt_inj.mp q)
  have g8 : x.toInt ≠ 8 := fun q => h8 (Int32.toInt_inj.mp q)
  have g9 : x.toInt ≠ 9 := fun q => h9 (Int32.toInt_inj.mp q)
  have g10 : x.toInt ≠ 10 := fun q => h10 (Int32.toInt_inj.mp q)
  exact ptable_out (by omega)
theorem ts62_23_9 : ptable 23 127 9 13 #[33, 127, 46, 65, 89] 9 = 56 := by decide
theorem ts62_23_10 : ptable 23 127 9 13 #[33, 127, 46, 65, 89] 10 = 150 := by decide
theorem ts62_23_11 : ptable 23 127 9 13 #[33, 127, 46, 65, 89] 11 = 69 := by decide
theorem ts62_23_12 : ptable 23 127 9 13 #[33, 127, 46, 65, 89] 12 = 88 := by decide
theorem ts62_23_13 : ptable 23 127 9 13 #[33, 127, 46, 65, 89] 13 = 112 := by decide
theorem tsd62_23 {x : Int32} (h9 : ¬ x = 9) (h10 : ¬ x = 10) (h11 : ¬ x = 11) (h12 : ¬ x = 12) (h13 : ¬ x = 13) : ptable 23 127 9 13 #[33, 127, 46, 65, 89] x = 150 := by
  have g9 : x.toInt ≠ 9 := fun q => h9 (Int32.toInt_inj.mp q)
  have g10 : x.toInt ≠ 10 := fun q => h10 (Int32.toInt_inj.mp q)
  have g11 : x.toInt ≠ 11 := fun q => h11 (Int32.toInt_inj.mp q)
  have g12 : x.toInt ≠ 12 := fun q => h12 (Int32.toInt_inj.mp q)
  have g13 : x.toInt ≠ 13 := fun q => h13 (Int32.toInt_inj.mp q)
  exact ptable_out (by omega)
theorem ts64_76_4 : ptable 76 74 4 7 #[32, 40, 49, 59] 4 = 108 := by decide
theorem ts64_76_5 : ptable 76 74 4 7 #[32, 40, 49, 59] 5 = 116 := by decide
theorem ts64_76_6 : ptable 76 74 4 7 #[32, 40, 49, 59] 6 = 125 := by decide
theorem ts64_76_7 : ptable 76 74 4 7 #[32, 40, 49, 59] 7 = 135 := by decide
theorem tsd64_76 {x : Int32} (h4 : ¬ x = 4) (h5 : ¬ x = 5) (h6 : ¬ x = 6) (h7 : ¬ x = 7) : ptable 76 74 4 7 #[32, 40, 49, 59] x = 150 := by
  have g4 : x.toInt ≠ 4 := fun q => h4 (Int32.toInt_inj.mp q)
  have g5 : x.toInt ≠ 5 := fun q => h5 (Int32.toInt_inj.mp q)
  have g6 : x.toInt ≠ 6 := fun q => h6 (Int32.toInt_inj.mp q)
  have g7 : x.toInt ≠ 7 := fun q => h7 (Int32.toInt_inj.mp q)
  exact ptable_out (by omega)
theorem ts66_17_16 : ptable 17 104 16 21 #[39, 52, 65, 86, 91, 99] 16 = 56 := by decide
theorem ts66_17_17 : ptable 17 104 16 21 #[39, 52, 65, 86, 91, 99] 17 = 69 := by decide
theorem ts66_17_18 : ptable 17 104 16 21 #[39, 52, 65, 86, 91, 99] 18 = 82 := by decide
theorem ts66_17_19 : ptable 17 104 16 21 #[39, 52, 65, 86, 91, 99] 19 = 103 := by decide
theorem ts66_17_20 : ptable 17 104 16 21 #[39, 52, 65, 86, 91, 99] 20 = 108 := by decide
theorem ts66_17_21 : ptable 17 104 16 21 #[39, 52, 65, 86, 91, 99] 21 = 116 := by decide
theorem tsd66_17 {x : Int32} (h16 : ¬ x = 16) (h17 : ¬ x = 17) (h18 : ¬ x = 18) (h19 : ¬ x = 19) (h20 : ¬ x = 20) (h21 : ¬ x = 21) : ptable 17 104 16 21 #[39, 52, 65, 86, 91, 99] x = 121 := by
  have g16 : x.toInt ≠ 16 := fun q => h16 (Int32.toInt_inj.mp q)
  have g17 : x.toInt ≠ 17 := fun q => h17 (Int32.toInt_inj.mp q)
  have g18 : x.toInt ≠ 18 := fun q => h18 (Int32.toInt_inj.mp q)
  have g19 : x.toInt ≠ 19 := fun q => h19 (Int32.toInt_inj.mp q)
  have g20 : x.toInt ≠ 20 := fun q => h20 (Int32.toInt_inj.mp q)
  have g21 : x.toInt ≠ 21 := fun q => h21 (Int32.toInt_inj.mp q)
  exact ptable_out (by omega)
theorem ts133_14_19 : ptable 14 54 19 22 #[30, 37, 42, 47] 19 = 44 := by decide
theorem ts133_14_20 : ptable 14 54 19 22 #[30, 37, 42, 47] 20 = 51 := by decide
theorem ts133_14_21 : ptable 14 54 19 22 #[30, 37, 42, 47] 21 = 56 := by decide
theorem ts133_14_22 : ptable 14 54 19 22 #[30, 37, 42, 47] 22 = 61 := by decide
theorem tsd133_14 {x : Int32} (h19 : ¬ x = 19) (h20 : ¬ x = 20) (h21 : ¬ x = 21) (h22 : ¬ x = 22) : ptable 14 54 19 22 #[30, 37, 42, 47] x = 68 := by
  have g19 : x.toInt ≠ 19 := fun q => h19 (Int32.toInt_inj.mp q)
  have g20 : x.toInt ≠ 20 := fun q => h20 (Int32.toInt_inj.mp q)
  have g21 : x.toInt ≠ 21 := fun q => h21 (Int32.toInt_inj.mp q)
  have g22 : x.toInt ≠ 22 := fun q => h22 (Int32.toInt_inj.mp q)
  exact ptable_out (by omega)
theorem ts135_12_4 : ptable 12 104 4 10 #[44, 44, 46, 44, 48, 104, 70] 4 = 56 := by decide
theorem ts135_12_5 : ptable 12 104 4 10 #[44, 44, 46, 44, 48, 104, 70] 5 = 56 := by decide
theorem ts135_12_6 : ptable 12 104 4 10 #[44, 44, 46, 44, 48, 104, 70] 6 = 58 := by decide
theorem ts135_12_7 : ptable 12 104 4 10 #[44, 44, 46, 44, 48, 104, 70] 7 = 56 := by decide
theorem ts135_12_8 : ptable 12 104 4 10 #[44, 44, 46, 44, 48, 104, 70] 8 = 60 := by decide
theorem ts135_12_9 : ptable 12 104 4 10 #[44, 44, 46, 44, 48, 104, 70] 9 = 116 := by decide
theorem ts135_12_10 : ptable 12 104 4 10 #[44, 44, 46, 44, 48, 104, 70] 10 = 82 := by decide
theorem tsd135_12 {x : Int32} (h4 : ¬ x = 4) (h5 : ¬ x = 5) (h6 : ¬ x = 6) (h7 : ¬ x = 7) (h8 : ¬ x = 8) (h9 : ¬ x = 9) (h10 : ¬ x = 10) : ptable 12 104 4 10 #[44, 44, 46, 44, 48, 104, 70] x = 116 := by
  have g4 : x.toInt ≠ 4 := fun q => h4 (Int32.toInt_inj.mp q)
  have g5 : x.toInt ≠ 5 := fun q => h5 (Int32.toInt_inj.mp q)
  have g6 : x.toInt ≠ 6 := fun q => h6 (Int32.toInt_inj.mp q)
  have g7 : x.toInt ≠ 7 := fun q => h7 (Int32.toInt_inj.mp q)
  have g8 : x.toInt ≠ 8 := fun q => h8 (Int32.toInt_inj.mp q)
  have g9 : x.toInt ≠ 9 := fun q => h9 (Int32.toInt_inj.mp q)
  have g10 : x.toInt ≠ 10 := fun q => h10 (Int32.toInt_inj.mp q)
  exact ptable_out (by omega)
theorem ts179_6_1 : ptable 6 121 1 8 #[46, 52, 58, 74, 90, 95, 95, 101] 1 = 52 := by decide
theorem ts179_6_2 : ptable 6 121 1 8 #[46, 52, 58, 74, 90, 95, 95, 101] 2 = 58 := by decide
theorem ts179_6_3 : ptable 6 121 1 8 #[46, 52, 58, 74, 90, 95, 95, 101] 3 = 64 := by decide
theorem ts179_6_4 : ptable 6 121 1 8 #[46, 52, 58, 74, 90, 95, 95, 101] 4 = 80 := by decide
theorem ts179_6_5 : ptable 6 121 1 8 #[46, 52, 58, 74, 90, 95, 95, 101] 5 = 96 := by decide
theorem ts179_6_6 : ptable 6 121 1 8 #[46, 52, 58, 74, 90, 95, 95, 101] 6 = 101 := by decide
theorem ts179_6_7 : ptable 6 121 1 8 #[46, 52, 58, 74, 90, 95, 95, 101] 7 = 101 := by decide
theorem ts179_6_8 : ptable 6 121 1 8 #[46, 52, 58, 74, 90, 95, 95, 101] 8 = 107 := by decide
theorem tsd179_6 {x : Int32} (h1 : ¬ x = 1) (h2 : ¬ x = 2) (h3 : ¬ x = 3) (h4 : ¬ x = 4) (h5 : ¬ x = 5) (h6 : ¬ x = 6) (h7 : ¬ x = 7) (h8 : ¬ x = 8) : ptable 6 121 1 8 #[46, 52, 58, 74, 90, 95, 95, 101] x = 127 := by
  have g1 : x.toInt ≠ 1 := fun q => h1 (Int32.toInt_inj.mp q)
  have g2 : x.toInt ≠ 2 := fun q => h2 (Int32.toInt_inj.mp q)
  have g3 : x.toInt ≠ 3 := fun q => h3 (Int32.toInt_inj.mp q)
  have g4 : x.toInt ≠ 4 := fun q => h4 (Int32.toInt_inj.mp q)
  have g5 : x.toInt ≠ 5 := fun q => h5 (Int32.toInt_inj.mp q)
  have g6 : x.toInt ≠ 6 := fun q => h6 (Int32.toInt_inj.mp q)
  have g7 : x.toInt ≠ 7 := fun q => h7 (Int32.toInt_inj.mp q)
  have g8 : x.toInt ≠ 8 := fun q => h8 (Int32.toInt_inj.mp q)
  exact ptable_out (by omega)
