set_option maxRecDepth 100000 in
theorem okR_0 : ((List.range 17).map (· + 0)).all okM = true := by decide +kernel
set_option maxRecDepth 100000 in
theorem okR_17 : ((List.range 17).map (· + 17)).all okM = true := by decide +kernel
set_option maxRecDepth 100000 in
theorem okR_34 : ((List.range 17).map (· + 34)).all okM = true := by decide +kernel
set_option maxRecDepth 100000 in
theorem okR_51 : ((List.range 17).map (· + 51)).all okM = true := by decide +kernel
set_option maxRecDepth 100000 in
theorem okR_68 : ((List.range 17).map (· + 68)).all okM = true := by decide +kernel
set_option maxRecDepth 100000 in
theorem okR_85 : ((List.range 17).map (· + 85)).all okM = true := by decide +kernel
set_option maxRecDepth 100000 in
theorem okR_102 : ((List.range 17).map (· + 102)).all okM = true := by decide +kernel
set_option maxRecDepth 100000 in
theorem okR_119 : ((List.range 17).map (· + 119)).all okM = true := by decide +kernel
set_option maxRecDepth 100000 in
theorem okR_136 : ((List.range 17).map (· + 136)).all okM = true := by decide +kernel
set_option maxRecDepth 100000 in
theorem okR_153 : ((List.range 17).map (· + 153)).all okM = true := by decide +kernel
set_option maxRecDepth 100000 in
theorem okR_170 : ((List.range 17).map (· + 170)).all okM = true := by decide +kernel
set_option maxRecDepth 100000 in
theorem okR_187 : ((List.range 17).map (· + 187)).all okM = true := by decide +kernel
set_option maxRecDepth 100000 in
theorem okR_204 : ((List.range 17).map (· + 204)).all okM = true := by decide +kernel
set_option maxRecDepth 100000 in
theorem okR_221 : ((List.range 17).map (· + 221)).all okM = true := by decide +kernel
set_option maxRecDepth 100000 in
theorem okR_238 : ((List.range 17).map (· + 238)).all okM = true := by decide +kernel
set_option maxRecDepth 100000 in
theorem okR_255 : ((List.range 17).map (· + 255)).all okM = true := by decide +kernel
theorem okAll {j : Nat} (hj : j < 272) : okM j = true := by
  have key : ∀ a, ((List.range 17).map (· + a)).all okM = true → a ≤ j → j < a + 17 → okM j = true := by
    intro a h h1 h2
    exact List.all_eq_true.mp h j (List.mem_map.mpr ⟨j - a, List.mem_range.mpr (by omega), by omega⟩)
  by_cases h0 : j < 17
  · exact key 0 okR_0 (by omega) (by omega)
  by_cases h17 : j < 34
  · exact key 17 okR_17 (by omega) (by omega)
  by_cases h34 : j < 51
  · exact key 34 okR_34 (by omega) (by omega)
  by_cases h51 : j < 68
  · exact key 51 okR_51 (by omega) (by omega)
  by_cases h68 : j < 85
  · exact key 68 okR_68 (by omega) (by omega)
  by_cases h85 : j < 102
  · exact key 85 okR_85 (by omega) (by omega)
  by_cases h102 : j < 119
  · exact key 102 okR_102 (by omega) (by omega)
  by_cases h119 : j < 136
  · exact key 119 okR_119 (by omega) (by omega)
  by_cases h136 : j < 153
  · exact key 136 okR_136 (by omega) (by omega)
  by_cases h153 : j < 170
  · exact key 153 okR_153 (by omega) (by omega)
  by_cases h170 : j < 187
  · exact key 170 okR_170 (by omega) (by omega)
  by_cases h187 : j < 204
  · exact key 187 okR_187 (by omega) (by omega)
  by_cases h204 : j < 221
  · exact key 204 okR_204 (by omega) (by omega)
  by_cases h221 : j < 238
  · exact key 221 okR_221 (by omega) (by omega)
  by_cases h238 : j < 255
  · exact key 238 okR_238 (by omega) (by omega)
  by_cases h255 : j < 272
  · exact key 255 okR_255 (by omega) (by omega)
  omega
