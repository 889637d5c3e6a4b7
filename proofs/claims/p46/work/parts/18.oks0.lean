theorem all_take {α : Type} {p : α → Bool} : ∀ (k : Nat) (l : List α), (∀ i, i < k → ((l.drop (24 * i)).take 24).all p = true) → l.length ≤ 24 * k → l.all p = true
  | 0, l, _, hl => by
    have : l = [] := List.eq_nil_of_length_eq_zero (by omega)
    subst this; rfl
  | k + 1, l, h, hl => by
    rw [← List.take_append_drop 24 l, List.all_append, Bool.and_eq_true]
    refine ⟨by simpa using h 0 (by omega), all_take k (l.drop 24) (fun i hi => ?_) (by rw [List.length_drop]; omega)⟩
    have := h (i + 1) (by omega)
    rw [List.drop_drop, show 24 + 24 * i = 24 * (i + 1) by omega]
    exact this
noncomputable def okR (j : Nat) : Bool := plainName (mnm j).cls && decide ((pmd j).2.2.2.2.1 = (mnm j).cls) && okPairs (mhs j) &&
  (mhs j).all (fun q => decide (q.2.2.2.1 ≠ 0) && decide (Jvm.Cond.classLink (mnm j).cls q.2.2.2.1 q.2.2.2.2 ∈ lw_tbl) && decide (Jvm.Cond.castable q.2.2.2.2 q.2.2.2.2 ∈ lw_tbl))
theorem okM_of {j k : Nat} {tb : List PI} (h0 : pks.getD j [] = tb) (h1 : okR j = true) (h2 : ∀ i, i < k → ((tb.drop (24 * i)).take 24).all (okQ j) = true) (h3 : tb.length ≤ 24 * k) : okM j = true := by
  have h4 := all_take k tb h2 h3
  simp only [okR, Bool.and_eq_true] at h1
  simp only [okM, Bool.and_eq_true, h0]
  exact ⟨⟨⟨⟨h4, h1.1.1.1⟩, h1.1.1.2⟩, h1.1.2⟩, h1.2⟩
set_option maxRecDepth 100000 in
theorem okq_0_0 : ((pk0.drop 0).take 24).all (okQ 0) = true := by decide +kernel
set_option maxRecDepth 100000 in
theorem okq_0_1 : ((pk0.drop 24).take 24).all (okQ 0) = true := by decide +kernel
set_option maxRecDepth 100000 in
theorem okq_0_2 : ((pk0.drop 48).take 24).all (okQ 0) = true := by decide +kernel
set_option maxRecDepth 100000 in
theorem okm_0 : okM 0 = true := okM_of (k := 3) (tb := pk0) rfl (by decide +kernel) (fun i hi => by
  by_cases h0 : i = 0
  · subst h0; exact okq_0_0
  by_cases h1 : i = 1
  · subst h1; exact okq_0_1
  by_cases h2 : i = 2
  · subst h2; exact okq_0_2
  omega) (Nat.le_of_ble_eq_true rfl)
set_option maxRecDepth 100000 in
theorem okq_1_0 : ((pk1.drop 0).take 24).all (okQ 1) = true := by decide +kernel
set_option maxRecDepth 100000 in
theorem okm_1 : okM 1 = true := okM_of (k := 1) (tb := pk1) rfl (by decide +kernel) (fun i hi => by
  by_cases h0 : i = 0
  · subst h0; exact okq_1_0
  omega) (Nat.le_of_ble_eq_true rfl)
set_option maxRecDepth 100000 in
theorem okq_2_0 : ((pk2.drop 0).take 24).all (okQ 2) = true := by decide +kernel
set_option maxRecDepth 100000 in
theorem okm_2 : okM 2 = true := okM_of (k := 1) (tb := pk2) rfl (by decide +kernel) (fun i hi => by
  by_cases h0 : i = 0
  · subst h0; exact okq_2_0
  omega) (Nat.le_of_ble_eq_true rfl)
set_option maxRecDepth 100000 in
theorem okq_3_0 : ((pk3.drop 0).take 24).all (okQ 3) = true := by decide +kernel
set_option maxRecDepth 100000 in
theorem okm_3 : okM 3 = true := okM_of (k := 1) (tb := pk3) rfl (by decide +kernel) (fun i hi => by
  by_cases h0 : i = 0
  · subst h0; exact okq_3_0
  omega) (Nat.le_of_ble_eq_true rfl)
set_option maxRecDepth 100000 in
theorem okq_4_0 : ((pk4.drop 0).take 24).all (okQ 4) = true := by decide +kernel
set_option maxRecDepth 100000 in
theorem okq_4_1 : ((pk4.drop 24).take 24).all (okQ 4) = true := by decide +kernel
set_option maxRecDepth 100000 in
theorem okm_4 : okM 4 = true := okM_of (k := 2) (tb := pk4) rfl (by decide +kernel) (fun i hi => by
  by_cases h0 : i = 0
  · subst h0; exact okq_4_0
  by_cases h1 : i = 1
  · subst h1; exact okq_4_1
  omega) (Nat.le_of_ble_eq_true rfl)
set_option maxRecDepth 100000 in
theorem okq_5_0 : ((pk5.drop 0).take 24).all (okQ 5) = true := by decide +kernel
set_option maxRecDepth 100000 in
theorem okm_5 : okM 5 = true := okM_of (k := 1) (tb := pk5) rfl (by decide +kernel) (fun i hi => by
  by_cases h0 : i = 0
  · subst h0; exact okq_5_0
  omega) (Nat.le_of_ble_eq_true rfl)
set_option maxRecDepth 100000 in
theorem okq_6_0 : ((pk6.drop 0).take 24).all (okQ 6) = true := by decide +kernel
set_option maxRecDepth 100000 in
theorem okq_6_1 : ((pk6.drop 24).take 24).all (okQ 6) = true := by decide +kernel
set_option maxRecDepth 100000 in
theorem okm_6 : okM 6 = true := okM_of (k := 2) (tb := pk6) rfl (by decide +kernel) (fun i hi => by
  by_cases h0 : i = 0
  · subst h0; exact okq_6_0
  by_cases h1 : i = 1
  · subst h1; exact okq_6_1
  omega) (Nat.le_of_ble_eq_true rfl)
set_option maxRecDepth 100000 in
theorem okq_7_0 : ((pk7.drop 0).take 24).all (okQ 7) = true := by decide +kernel
set_option maxRecDepth 100000 in
theorem okq_7_1 : ((pk7.drop 24).take 24).all (okQ 7) = true := by decide +kernel
set_option maxRecDepth 100000 in
theorem okq_7_2 : ((pk7.drop 48).take 24).all (okQ 7) = true := by decide +kernel
set_option maxRecDepth 100000 in
theorem okm_7 : okM 7 = true := okM_of (k := 3) (tb := pk7) rfl (by decide +kernel) (fun i hi => by
  by_cases h0 : i = 0
  · subst h0; exact okq_7_0
  by_cases h1 : i = 1
  · subst h1; exact okq_7_1
  by_cases h2 : i = 2
  · subst h2; exact okq_7_2
  omega) (Nat.le_of_ble_eq_true rfl)
set_option maxRecDepth 100000 in
theorem okq_8_0 : ((pk8.drop 0).take 24).all (okQ 8) = true := by decide +kernel
set_option maxRecDepth 100000 in
theorem okq_8_1 : ((pk8.drop 24).take 24).all (okQ 8) = true := by decide +kernel
set_option maxRecDepth 100000 in
theorem okm_8 : okM 8 = true := okM_of (k := 2) (tb := pk8) rfl (by decide +kernel) (fun i hi => by
  by_cases h0 : i = 0
  · subst h0; exact okq_8_0
  by_cases h1 : i = 1
  · subst h1; exact okq_8_1
  omega) (Nat.le_of_ble_eq_true rfl)
set_option maxRecDepth 100000 in
theorem okq_9_0 : ((pk9.drop 0).take 24).all (okQ 9) = true := by decide +kernel
set_option maxRecDepth 100000 in
theorem okm_9 : okM 9 = true := okM_of (k := 1) (tb := pk9) rfl (by decide +kernel) (fun i hi => by
  by_cases h0 : i = 0
  · subst h0; exact okq_9_0
  omega) (Nat.le_of_ble_eq_true rfl)
set_option maxRecDepth 100000 in
theorem okq_10_0 : ((pk10.drop 0).take 24).all (okQ 10) = true := by decide +kernel
set_option maxRecDepth 100000 in
theorem okm_10 : okM 10 = true := okM_of (k := 1) (tb := pk10) rfl (by decide +kernel) (fun i hi => by
  by_cases h0 : i = 0
  · subst h0; exact okq_10_0
  omega) (Nat.le_of_ble_eq_true rfl)
set_option maxRecDepth 100000 in
theorem okq_11_0 : ((pk11.drop 0).take 24).all (okQ 11) = true := by decide +kernel
set_option maxRecDepth 100000 in
theorem okm_11 : okM 11 = true := okM_of (k := 1) (tb := pk11) rfl (by decide +kernel) (fun i hi => by
  by_cases h0 : i = 0
  · subst h0; exact okq_11_0
  omega) (Nat.le_of_ble_eq_true rfl)
set_option maxRecDepth 100000 in
theorem okq_12_0 : ((pk12.drop 0).take 24).all (okQ 12) = true := by decide +kernel
set_option maxRecDepth 100000 in
theorem okm_12 : okM 12 = true := okM_of (k := 1) (tb := pk12) rfl (by decide +kernel) (fun i hi => by
  by_cases h0 : i = 0
  · subst h0; exact okq_12_0
  omega) (Nat.le_of_ble_eq_true rfl)
set_option maxRecDepth 100000 in
theorem okq_13_0 : ((pk13.drop 0).take 24).all (okQ 13) = true := by decide +kernel
set_option maxRecDepth 100000 in
theorem okm_13 : okM 13 = true := okM_of (k := 1) (tb := pk13) rfl (by decide +kernel) (fun i hi => by
  by_cases h0 : i = 0
  · subst h0; exact okq_13_0
  omega) (Nat.le_of_ble_eq_true rfl)
set_option maxRecDepth 100000 in
theorem okq_14_0 : ((pk14.drop 0).take 24).all (okQ 14) = true := by decide +kernel
set_option maxRecDepth 100000 in
theorem okq_14_1 : ((pk14.drop 24).take 24).all (okQ 14) = true := by decide +kernel
set_option maxRecDepth 100000 in
theorem okm_14 : okM 14 = true := okM_of (k := 2) (tb := pk14) rfl (by decide +kernel) (fun i hi => by
  by_cases h0 : i = 0
  · subst h0; exact okq_14_0
  by_cases h1 : i = 1
  · subst h1; exact okq_14_1
  omega) (Nat.le_of_ble_eq_true rfl)
set_option maxRecDepth 100000 in
theorem okq_15_0 : ((pk15.drop 0).take 24).all (okQ 15) = true := by decide +kernel
set_option maxRecDepth 100000 in
theorem okq_15_1 : ((pk15.drop 24).take 24).all (okQ 15) = true := by decide +kernel
set_option maxRecDepth 100000 in
theorem okq_15_2 : ((pk15.drop 48).take 24).all (okQ 15) = true := by decide +kernel
set_option maxRecDepth 100000 in
theorem okm_15 : okM 15 = true := okM_of (k := 3) (tb := pk15) rfl (by decide +kernel) (fun i hi => by
  by_cases h0 : i = 0
  · subst h0; exact okq_15_0
  by_cases h1 : i = 1
  · subst h1; exact okq_15_1
  by_cases h2 : i = 2
  · subst h2; exact okq_15_2
  omega) (Nat.le_of_ble_eq_true rfl)
set_option maxRecDepth 100000 in
theorem okq_16_0 : ((pk16.drop 0).take 24).all (okQ 16) = true := by decide +kernel
set_option maxRecDepth 100000 in
theorem okm_16 : okM 16 = true := okM_of (k := 1) (tb := pk16) rfl (by decide +kernel) (fun i hi => by
  by_cases h0 : i = 0
  · subst h0; exact okq_16_0
  omega) (Nat.le_of_ble_eq_true rfl)
set_option maxRecDepth 100000 in
theorem okq_17_0 : ((pk17.drop 0).take 24).all (okQ 17) = true := by decide +kernel
set_option maxRecDepth 100000 in
theorem okm_17 : okM 17 = true := okM_of (k := 1) (tb := pk17) rfl (by decide +kernel) (fun i hi => by
  by_cases h0 : i = 0
  · subst h0; exact okq_17_0
  omega) (Nat.le_of_ble_eq_true rfl)
set_option maxRecDepth 100000 in
theorem okq_18_0 : ((pk18.drop 0).take 24).all (okQ 18) = true := by decide +kernel
set_option maxRecDepth 100000 in
theorem okq_18_1 : ((pk18.drop 24).take 24).all (okQ 18) = true := by decide +kernel
set_option maxRecDepth 100000 in
theorem okq_18_2 : ((pk18.drop 48).take 24).all (okQ 18) = true := by decide +kernel
set_option maxRecDepth 100000 in
theorem okm_18 : okM 18 = true := okM_of (k := 3) (tb := pk18) rfl (by decide +kernel) (fun i hi => by
  by_cases h0 : i = 0
  · subst h0; exact okq_18_0
  by_cases h1 : i = 1
  · subst h1; exact okq_18_1
  by_cases h2 : i = 2
  · subst h2; exact okq_18_2
  omega) (Nat.le_of_ble_eq_true rfl)
set_option maxRecDepth 100000 in
theorem okq_19_0 : ((pk19.drop 0).take 24).all (okQ 19) = true := by decide +kernel
set_option maxRecDepth 100000 in
theorem okq_19_1 : ((pk19.drop 24).take 24).all (okQ 19) = true := by decide +kernel
set_option maxRecDepth 100000 in
theorem okq_19_2 : ((pk19.drop 48).take 24).all (okQ 19) = true := by decide +kernel
set_option maxRecDepth 100000 in
theorem okq_19_3 : ((pk19.drop 72).take 24).all (okQ 19) = true := by decide +kernel
set_option maxRecDepth 100000 in
theorem okm_19 : okM 19 = true := okM_of (k := 4) (tb := pk19) rfl (by decide +kernel) (fun i hi => by
  by_cases h0 : i = 0
  · subst h0; exact okq_19_0
  by_cases h1 : i = 1
  · subst h1; exact okq_19_1
  by_cases h2 : i = 2
  · subst h2; exact okq_19_2
  by_cases h3 : i = 3
  · subst h3; exact okq_19_3
  omega) (Nat.le_of_ble_eq_true rfl)
set_option maxRecDepth 100000 in
theorem okq_20_0 : ((pk20.drop 0).take 24).all (okQ 20) = true := by decide +kernel
set_option maxRecDepth 100000 in
theorem okm_20 : okM 20 = true := okM_of (k := 1) (tb := pk20) rfl (by decide +kernel) (fun i hi => by
  by_cases h0 : i = 0
  · subst h0; exact okq_20_0
  omega) (Nat.le_of_ble_eq_true rfl)
set_option maxRecDepth 100000 in
theorem okq_21_0 : ((pk21.drop 0).take 24).all (okQ 21) = true := by decide +kernel
set_option maxRecDepth 100000 in
theorem okq_21_1 : ((pk21.drop 24).take 24).all (okQ 21) = true := by decide +kernel
set_option maxRecDepth 100000 in
theorem okq_21_2 : ((pk21.drop 48).take 24).all (okQ 21) = true := by decide +kernel
set_option maxRecDepth 100000 in
theorem okm_21 : okM 21 = true := okM_of (k := 3) (tb := pk21) rfl (by decide +kernel) (fun i hi => by
  by_cases h0 : i = 0
  · subst h0; exact okq_21_0
  by_cases h1 : i = 1
  · subst h1; exact okq_21_1
  by_cases h2 : i = 2
  · subst h2; exact okq_21_2
  omega) (Nat.le_of_ble_eq_true rfl)
set_option maxRecDepth 100000 in
theorem okq_22_0 : ((pk22.drop 0).take 24).all (okQ 22) = true := by decide +kernel
set_option maxRecDepth 100000 in
theorem okq_22_1 : ((pk22.drop 24).take 24).all (okQ 22) = true := by decide +kernel
set_option maxRecDepth 100000 in
theorem okq_22_2 : ((pk22.drop 48).take 24).all (okQ 22) = true := by decide +kernel
set_option maxRecDepth 100000 in
theorem okm_22 : okM 22 = true := okM_of (k := 3) (tb := pk22) rfl (by decide +kernel) (fun i hi => by
  by_cases h0 : i = 0
  · subst h0; exact okq_22_0
  by_cases h1 : i = 1
  · subst h1; exact okq_22_1
  by_cases h2 : i = 2
  · subst h2; exact okq_22_2
  omega) (Nat.le_of_ble_eq_true rfl)
set_option maxRecDepth 100000 in
theorem okq_23_0 : ((pk23.drop 0).take 24).all (okQ 23) = true := by decide +kernel
set_option maxRecDepth 100000 in
theorem okq_23_1 : ((pk23.drop 24).take 24).all (okQ 23) = true := by decide +kernel
set_option maxRecDepth 100000 in
theorem okq_23_2 : ((pk23.drop 48).take 24).all (okQ 23) = true := by decide +kernel
set_option maxRecDepth 100000 in
theorem okm_23 : okM 23 = true := okM_of (k := 3) (tb := pk23) rfl (by decide +kernel) (fun i hi => by
  by_cases h0 : i = 0
  · subst h0; exact okq_23_0
  by_cases h1 : i = 1
  · subst h1; exact okq_23_1
  by_cases h2 : i = 2
  · subst h2; exact okq_23_2
  omega) (Nat.le_of_ble_eq_true rfl)
set_option maxRecDepth 100000 in
theorem okq_24_0 : ((pk24.drop 0).take 24).all (okQ 24) = true := by decide +kernel
set_option maxRecDepth 100000 in
theorem okq_24_1 : ((pk24.drop 24).take 24).all (okQ 24) = true := by decide +kernel
set_option maxRecDepth 100000 in
theorem okq_24_2 : ((pk24.drop 48).take 24).all (okQ 24) = true := by decide +kernel
set_option maxRecDepth 100000 in
theorem okm_24 : okM 24 = true := okM_of (k := 3) (tb := pk24) rfl (by decide +kernel) (fun i hi => by
  by_cases h0 : i = 0
  · subst h0; exact okq_24_0
  by_cases h1 : i = 1
  · subst h1; exact okq_24_1
  by_cases h2 : i = 2
  · subst h2; exact okq_24_2
  omega) (Nat.le_of_ble_eq_true rfl)
set_option maxRecDepth 100000 in
theorem okq_25_0 : ((pk25.drop 0).take 24).all (okQ 25) = true := by decide +kernel
set_option maxRecDepth 100000 in
theorem okq_25_1 : ((pk25.drop 24).take 24).all (okQ 25) = true := by decide +kernel
set_option maxRecDepth 100000 in
theorem okm_25 : okM 25 = true := okM_of (k := 2) (tb := pk25) rfl (by decide +kernel) (fun i hi => by
  by_cases h0 : i = 0
  · subst h0; exact okq_25_0
  by_cases h1 : i = 1
  · subst h1; exact okq_25_1
  omega) (Nat.le_of_ble_eq_true rfl)
set_option maxRecDepth 100000 in
theorem okq_26_0 : ((pk26.drop 0).take 24).all (okQ 26) = true := by decide +kernel
set_option maxRecDepth 100000 in
theorem okq_26_1 : ((pk26.drop 24).take 24).all (okQ 26) = true := by decide +kernel
set_option maxRecDepth 100000 in
theorem okq_26_2 : ((pk26.drop 48).take 24).all (okQ 26) = true := by decide +kernel
set_option maxRecDepth 100000 in
theorem okq_26_3 : ((pk26.drop 72).take 24).all (okQ 26) = true := by decide +kernel
set_option maxRecDepth 100000 in
theorem okq_26_4 : ((pk26.drop 96).take 24).all (okQ 26) = true := by decide +kernel
set_option maxRecDepth 100000 in
theorem okm_26 : okM 26 = true := okM_of (k := 5) (tb := pk26) rfl (by decide +kernel) (fun i hi => by
  by_cases h0 : i = 0
  · subst h0; exact okq_26_0
  by_cases h1 : i = 1
  · subst h1; exact okq_26_1
  by_cases h2 : i = 2
  · subst h2; exact okq_26_2
  by_cases h3 : i = 3
  · subst h3; exact okq_26_3
  by_cases h4 : i = 4
  · subst h4; exact okq_26_4
  omega) (Nat.le_of_ble_eq_true rfl)
set_option maxRecDepth 100000 in
theorem okq_27_0 : ((pk27.drop 0).take 24).all (okQ 27) = true := by decide +kernel
set_option maxRecDepth 100000 in
theorem okm_27 : okM 27 = true := okM_of (k := 1) (tb := pk27) rfl (by decide +kernel) (fun i hi => by
  by_cases h0 : i = 0
  · subst h0; exact okq_27_0
  omega) (Nat.le_of_ble_eq_true rfl)
set_option maxRecDepth 100000 in
theorem okq_28_0 : ((pk28.drop 0).take 24).all (okQ 28) = true := by decide +kernel
set_option maxRecDepth 100000 in
theorem okq_28_1 : ((pk28.drop 24).take 24).all (okQ 28) = true := by decide +kernel
set_option maxRecDepth 100000 in
theorem okq_28_2 : ((pk28.drop 48).take 24).all (okQ 28) = true := by decide +kernel
set_option maxRecDepth 100000 in
theorem okq_28_3 : ((pk28.drop 72).take 24).all (okQ 28) = true := by decide +kernel
set_option maxRecDepth 100000 in
theorem okm_28 : okM 28 = true := okM_of (k := 4) (tb := pk28) rfl (by decide +kernel) (fun i hi => by
  by_cases h0 : i = 0
  · subst h0; exact okq_28_0
  by_cases h1 : i = 1
  · subst h1; exact okq_28_1
  by_cases h2 : i = 2
  · subst h2; exact okq_28_2
  by_cases h3 : i = 3
  · subst h3; exact okq_28_3
  omega) (Nat.le_of_ble_eq_true rfl)
set_option maxRecDepth 100000 in
theorem okq_29_0 : ((pk29.drop 0).take 24).all (okQ 29) = true := by decide +kernel
set_option maxRecDepth 100000 in
theorem okq_29_1 : ((pk29.drop 24).take 24).all (okQ 29) = true := by decide +kernel
set_option maxRecDepth 100000 in
theorem okm_29 : okM 29 = true := okM_of (k := 2) (tb := pk29) rfl (by decide +kernel) (fun i hi => by
  by_cases h0 : i = 0
  · subst h0; exact okq_29_0
  by_cases h1 : i = 1
  · subst h1; exact okq_29_1
  omega) (Nat.le_of_ble_eq_true rfl)
set_option maxRecDepth 100000 in
theorem okq_30_0 : ((pk30.drop 0).take 24).all (okQ 30) = true := by decide +kernel
set_option maxRecDepth 100000 in
theorem okq_30_1 : ((pk30.drop 24).take 24).all (okQ 30) = true := by decide +kernel
set_option maxRecDepth 100000 in
theorem okm_30 : okM 30 = true := okM_of (k := 2) (tb := pk30) rfl (by decide +kernel) (fun i hi => by
  by_cases h0 : i = 0
  · subst h0; exact okq_30_0
  by_cases h1 : i = 1
  · subst h1; exact okq_30_1
  omega) (Nat.le_of_ble_eq_true rfl)
set_option maxRecDepth 100000 in
theorem okq_31_0 : ((pk31.drop 0).take 24).all (okQ 31) = true := by decide +kernel
set_option maxRecDepth 100000 in
theorem okq_31_1 : ((pk31.drop 24).take 24).all (okQ 31) = true := by decide +kernel
set_option maxRecDepth 100000 in
theorem okm_31 : okM 31 = true := okM_of (k := 2) (tb := pk31) rfl (by decide +kernel) (fun i hi => by
  by_cases h0 : i = 0
  · subst h0; exact okq_31_0
  by_cases h1 : i = 1
  · subst h1; exact okq_31_1
  omega) (Nat.le_of_ble_eq_true rfl)
set_option maxRecDepth 100000 in
theorem okq_32_0 : ((pk32.drop 0).take 24).all (okQ 32) = true := by decide +kernel
set_option maxRecDepth 100000 in
theorem okq_32_1 : ((pk32.drop 24).take 24).all (okQ 32) = true := by decide +kernel
set_option maxRecDepth 100000 in
theorem okm_32 : okM 32 = true := okM_of (k := 2) (tb := pk32) rfl (by decide +kernel) (fun i hi => by
  by_cases h0 : i = 0
  · subst h0; exact okq_32_0
  by_cases h1 : i = 1
  · subst h1; exact okq_32_1
  omega) (Nat.le_of_ble_eq_true rfl)
set_option maxRecDepth 100000 in
theorem okq_33_0 : ((pk33.drop 0).take 24).all (okQ 33) = true := by decide +kernel
set_option maxRecDepth 100000 in
theorem okm_33 : okM 33 = true := okM_of (k := 1) (tb := pk33) rfl (by decide +kernel) (fun i hi => by
  by_cases h0 : i = 0
  · subst h0; exact okq_33_0
  omega) (Nat.le_of_ble_eq_true rfl)
set_option maxRecDepth 100000 in
theorem okq_34_0 : ((pk34.drop 0).take 24).all (okQ 34) = true := by decide +kernel
set_option maxRecDepth 100000 in
theorem okm_34 : okM 34 = true := okM_of (k := 1) (tb := pk34) rfl (by decide +kernel) (fun i hi => by
  by_cases h0 : i = 0
  · subst h0; exact okq_34_0
  omega) (Nat.le_of_ble_eq_true rfl)
set_option maxRecDepth 100000 in
theorem okq_35_0 : ((pk35.drop 0).take 24).all (okQ 35) = true := by decide +kernel
set_option maxRecDepth 100000 in
theorem okm_35 : okM 35 = true := okM_of (k := 1) (tb := pk35) rfl (by decide +kernel) (fun i hi => by
  by_cases h0 : i = 0
  · subst h0; exact okq_35_0
  omega) (Nat.le_of_ble_eq_true rfl)
set_option maxRecDepth 100000 in
theorem okq_36_0 : ((pk36.drop 0).take 24).all (okQ 36) = true := by decide +kernel
set_option maxRecDepth 100000 in
theorem okq_36_1 : ((pk36.drop 24).take 24).all (okQ 36) = true := by decide +kernel
set_option maxRecDepth 100000 in
theorem okq_36_2 : ((pk36.drop 48).take 24).all (okQ 36) = true := by decide +kernel
set_option maxRecDepth 100000 in
theorem okm_36 : okM 36 = true := okM_of (k := 3) (tb := pk36) rfl (by decide +kernel) (fun i hi => by
  by_cases h0 : i = 0
  · subst h0; exact okq_36_0
  by_cases h1 : i = 1
  · subst h1; exact okq_36_1
  by_cases h2 : i = 2
  · subst h2; exact okq_36_2
  omega) (Nat.le_of_ble_eq_true rfl)
set_option maxRecDepth 100000 in
theorem okq_37_0 : ((pk37.drop 0).take 24).all (okQ 37) = true := by decide +kernel
set_option maxRecDepth 100000 in
theorem okm_37 : okM 37 = true := okM_of (k := 1) (tb := pk37) rfl (by decide +kernel) (fun i hi => by
  by_cases h0 : i = 0
  · subst h0; exact okq_37_0
  omega) (Nat.le_of_ble_eq_true rfl)
set_option maxRecDepth 100000 in
theorem okq_38_0 : ((pk38.drop 0).take 24).all (okQ 38) = true := by decide +kernel
set_option maxRecDepth 100000 in
theorem okq_38_1 : ((pk38.drop 24).take 24).all (okQ 38) = true := by decide +kernel
set_option maxRecDepth 100000 in
theorem okm_38 : okM 38 = true := okM_of (k := 2) (tb := pk38) rfl (by decide +kernel) (fun i hi => by
  by_cases h0 : i = 0
  · subst h0; exact okq_38_0
  by_cases h1 : i = 1
  · subst h1; exact okq_38_1
  omega) (Nat.le_of_ble_eq_true rfl)
set_option maxRecDepth 100000 in
theorem okq_39_0 : ((pk39.drop 0).take 24).all (okQ 39) = true := by decide +kernel
set_option maxRecDepth 100000 in
theorem okm_39 : okM 39 = true := okM_of (k := 1) (tb := pk39) rfl (by decide +kernel) (fun i hi => by
  by_cases h0 : i = 0
  · subst h0; exact okq_39_0
  omega) (Nat.le_of_ble_eq_true rfl)
set_option maxRecDepth 100000 in
theorem okq_40_0 : ((pk40.drop 0).take 24).all (okQ 40) = true := by decide +kernel
set_option maxRecDepth 100000 in
theorem okq_40_1 : ((pk40.drop 24).take 24).all (okQ 40) = true := by decide +kernel
set_option maxRecDepth 100000 in
theorem okq_40_2 : ((pk40.drop 48).take 24).all (okQ 40) = true := by decide +kernel
set_option maxRecDepth 100000 in
theorem okm_40 : okM 40 = true := okM_of (k := 3) (tb := pk40) rfl (by decide +kernel) (fun i hi => by
  by_cases h0 : i = 0
  · subst h0; exact okq_40_0
  by_cases h1 : i = 1
  · subst h1; exact okq_40_1
  by_cases h2 : i = 2
  · subst h2; exact okq_40_2
  omega) (Nat.le_of_ble_eq_true rfl)
set_option maxRecDepth 100000 in
theorem okq_41_0 : ((pk41.drop 0).take 24).all (okQ 41) = true := by decide +kernel
set_option maxRecDepth 100000 in
theorem okq_41_1 : ((pk41.drop 24).take 24).all (okQ 41) = true := by decide +kernel
set_option maxRecDepth 100000 in
theorem okq_41_2 : ((pk41.drop 48).take 24).all (okQ 41) = true := by decide +kernel
set_option maxRecDepth 100000 in
theorem okm_41 : okM 41 = true := okM_of (k := 3) (tb := pk41) rfl (by decide +kernel) (fun i hi => by
  by_cases h0 : i = 0
  · subst h0; exact okq_41_0
  by_cases h1 : i = 1
  · subst h1; exact okq_41_1
  by_cases h2 : i = 2
  · subst h2; exact okq_41_2
  omega) (Nat.le_of_ble_eq_true rfl)
set_option maxRecDepth 100000 in
theorem okq_42_0 : ((pk42.drop 0).take 24).all (okQ 42) = true := by decide +kernel
set_option maxRecDepth 100000 in
theorem okm_42 : okM 42 = true := okM_of (k := 1) (tb := pk42) rfl (by decide +kernel) (fun i hi => by
  by_cases h0 : i = 0
  · subst h0; exact okq_42_0
  omega) (Nat.le_of_ble_eq_true rfl)
set_option maxRecDepth 100000 in
theorem okq_43_0 : ((pk43.drop 0).take 24).all (okQ 43) = true := by decide +kernel
set_option maxRecDepth 100000 in
theorem okq_43_1 : ((pk43.drop 24).take 24).all (okQ 43) = true := by decide +kernel
set_option maxRecDepth 100000 in
theorem okq_43_2 : ((pk43.drop 48).take 24).all (okQ 43) = true := by decide +kernel
set_option maxRecDepth 100000 in
theorem okm_43 : okM 43 = true := okM_of (k := 3) (tb := pk43) rfl (by decide +kernel) (fun i hi => by
  by_cases h0 : i = 0
  · subst h0; exact okq_43_0
  by_cases h1 : i = 1
  · subst h1; exact okq_43_1
  by_cases h2 : i = 2
  · subst h2; exact okq_43_2
  omega) (Nat.le_of_ble_eq_true rfl)
set_option maxRecDepth 100000 in
theorem okq_44_0 : ((pk44.drop 0).take 24).all (okQ 44) = true := by decide +kernel
set_option maxRecDepth 100000 in
theorem okq_44_1 : ((pk44.drop 24).take 24).all (okQ 44) = true := by decide +kernel
set_option maxRecDepth 100000 in
theorem okm_44 : okM 44 = true := okM_of (k := 2) (tb := pk44) rfl (by decide +kernel) (fun i hi => by
  by_cases h0 : i = 0
  · subst h0; exact okq_44_0
  by_cases h1 : i = 1
  · subst h1; exact okq_44_1
  omega) (Nat.le_of_ble_eq_true rfl)
set_option maxRecDepth 100000 in
theorem okq_45_0 : ((pk45.drop 0).take 24).all (okQ 45) = true := by decide +kernel
set_option maxRecDepth 100000 in
theorem okq_45_1 : ((pk45.drop 24).take 24).all (okQ 45) = true := by decide +kernel
set_option maxRecDepth 100000 in
theorem okm_45 : okM 45 = true := okM_of (k := 2) (tb := pk45) rfl (by decide +kernel) (fun i hi => by
  by_cases h0 : i = 0
  · subst h0; exact okq_45_0
  by_cases h1 : i = 1
  · subst h1; exact okq_45_1
  omega) (Nat.le_of_ble_eq_true rfl)
set_option maxRecDepth 100000 in
theorem okq_46_0 : ((pk46.drop 0).take 24).all (okQ 46) = true := by decide +kernel
set_option maxRecDepth 100000 in
theorem okm_46 : okM 46 = true := okM_of (k := 1) (tb := pk46) rfl (by decide +kernel) (fun i hi => by
  by_cases h0 : i = 0
  · subst h0; exact okq_46_0
  omega) (Nat.le_of_ble_eq_true rfl)
set_option maxRecDepth 100000 in
theorem okq_47_0 : ((pk47.drop 0).take 24).all (okQ 47) = true := by decide +kernel
set_option maxRecDepth 100000 in
theorem okm_47 : okM 47 = true := okM_of (k := 1) (tb := pk47) rfl (by decide +kernel) (fun i hi => by
  by_cases h0 : i = 0
  · subst h0; exact okq_47_0
  omega) (Nat.le_of_ble_eq_true rfl)
set_option maxRecDepth 100000 in
theorem okq_48_0 : ((pk48.drop 0).take 24).all (okQ 48) = true := by decide +kernel
set_option maxRecDepth 100000 in
theorem okm_48 : okM 48 = true := okM_of (k := 1) (tb := pk48) rfl (by decide +kernel) (fun i hi => by
  by_cases h0 : i = 0
  · subst h0; exact okq_48_0
  omega) (Nat.le_of_ble_eq_true rfl)
set_option maxRecDepth 100000 in
theorem okq_49_0 : ((pk49.drop 0).take 24).all (okQ 49) = true := by decide +kernel
set_option maxRecDepth 100000 in
theorem okm_49 : okM 49 = true := okM_of (k := 1) (tb := pk49) rfl (by decide +kernel) (fun i hi => by
  by_cases h0 : i = 0
  · subst h0; exact okq_49_0
  omega) (Nat.le_of_ble_eq_true rfl)
set_option maxRecDepth 100000 in
theorem okq_50_0 : ((pk50.drop 0).take 24).all (okQ 50) = true := by decide +kernel
set_option maxRecDepth 100000 in
theorem okm_50 : okM 50 = true := okM_of (k := 1) (tb := pk50) rfl (by decide +kernel) (fun i hi => by
  by_cases h0 : i = 0
  · subst h0; exact okq_50_0
  omega) (Nat.le_of_ble_eq_true rfl)
set_option maxRecDepth 100000 in
theorem okq_51_0 : ((pk51.drop 0).take 24).all (okQ 51) = true := by decide +kernel
set_option maxRecDepth 100000 in
theorem okq_51_1 : ((pk51.drop 24).take 24).all (okQ 51) = true := by decide +kernel
set_option maxRecDepth 100000 in
theorem okm_51 : okM 51 = true := okM_of (k := 2) (tb := pk51) rfl (by decide +kernel) (fun i hi => by
  by_cases h0 : i = 0
  · subst h0; exact okq_51_0
  by_cases h1 : i = 1
  · subst h1; exact okq_51_1
  omega) (Nat.le_of_ble_eq_true rfl)
