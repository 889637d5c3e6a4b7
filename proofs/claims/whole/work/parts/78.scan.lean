/-! THE WORDS' TEXTS, AND THE REFERENCE'S BYTES -/
section WORDS
variable {h : PH} {C : Nat → Option PC} {d i j k n m : Nat} {x y : Int32} {z : Int64} {Q : PO → Prop} {T : Nat → Int32}
def wdB (j : Nat) : List Int32 := byS.getD (16 + j) []
def roW (C : Nat → Option PC) : Prop := (∃ f, C 200 = some (.inl (6, 23, .inr (.inr (.inr (.inr f))))) ∧ ∀ j, j < 23 → f j = some (17 + j)) ∧ ∀ j, j < 23 → C (17 + j) = some (.inr (11, [.ref (116 + j), .int 0])) ∧ C (116 + j) = some (.inl (2, (wdB j).length, .inl fun i => (wdB j).getD i 0))
theorem w8_len : ∀ j, j < 23 → (wdB j).length ≤ 8 := by decide +kernel
theorem w8_ch : ∀ j, j < 23 → ∀ i, i < (wdB j).length → (((wdB j).getD i 0 &&& 255).toUInt32 % 65536).toInt32 = (wdB j).getD i 0 := by decide +kernel
theorem w8_nc : ∀ j, j < 23 → ∀ i, i < (wdB j).length → (((wdB j).getD i 0).toUInt32 % 65536).toInt32 = (wdB j).getD i 0 := by decide +kernel
theorem wd_let : ∀ j, j < 23 → ∀ i, i < (wdB j).length → il ((wdB j).getD i 0) = 1 := by decide +kernel
theorem wd_pos : ∀ j, j < 23 → 0 < (wdB j).length := by decide +kernel
theorem sw_g0 (hR : roW h.2) (hj : j < 23) {K : Value → Prop} : gP (h.2 (17 + j)) 11 0 K = K (.ref (116 + j)) := by rw [(hR.2 j hj).1, gP_mk]; rfl
theorem sw_g1 (hR : roW h.2) (hj : j < 23) {K : Value → Prop} : gP (h.2 (17 + j)) 11 1 K = K (.int 0) := by rw [(hR.2 j hj).1, gP_mk]; rfl
theorem sw_r (hR : roW h.2) (hj : j < 23) {P : Prop} : rP (h.2 (17 + j)) 11 P = P := by rw [(hR.2 j hj).1, rP_mk]
theorem sw_n (hR : roW h.2) (hj : j < 23) {K : Int32 → Prop} : nP (h.2 (116 + j)) K = K (Int32.ofNat (wdB j).length) := by rw [(hR.2 j hj).2]; rfl
theorem sw_a (hR : roW h.2) (hj : j < 23) (hi : i < (wdB j).length) {K : Int32 → Prop} : aP true (h.2 (116 + j)) (Int32.ofNat i) K = K ((wdB j).getD i 0) := by
  have h8 := w8_len j hj
  rw [(hR.2 j hj).2]
  refine (if_pos ⟨rfl, inB_nat hi (by omega)⟩).trans ?_
  rw [tN_nat (by omega)]
theorem sw_q (hR : roW h.2) (hj : j < 23) {K : Value → Prop} : qP (h.2 200) (Int32.ofNat j) K = K (.ref (17 + j)) := by
  obtain ⟨⟨f, e, hf⟩, -⟩ := hR
  rw [e]
  refine (if_pos ⟨by decide, by decide, inB_nat hj (by omega)⟩).trans ?_
  rw [tN_nat (by omega), hf j hj]
  rfl
theorem sw_m (hR : roW h.2) {K : Int32 → Prop} : nP (h.2 200) K = K 23 := by
  obtain ⟨⟨f, e, hf⟩, -⟩ := hR
  rw [e]
  rfl
theorem shr0 : x >>> (0 &&& 31) = x := by
  rw [show (0 : Int32) &&& 31 = 0 from by decide]
  exact Int32.shiftRight_zero
theorem s229 (hR : roW h.2) (hj : j < 23) : Cp (d + 3) 229 [.ref (17 + j)] h Q = Q (.inl (some (.int (Int32.ofNat (wdB j).length))), h) := by
  simp +decide only [ce229, ↓w229_0, ↓w229_1, ↓w229_4, ↓w229_5, ↓w229_6, ↓w229_9, ↓w229_10, ce233, ↓w233_0, ↓w233_3, ↓w233_6, ↓w233_7, ↓w233_10, ↓w233_13, ↓w233_14, ↓sw_g0 hR hj, ↓sw_g1 hR hj, ↓sw_r hR hj, ↓sw_n hR hj, shr0, icond_lt, icond_le, icond_gt, icond_ge, icond_eq, icond_ne, narrow_bool, true_or, or_true, if_true, if_false, cK_inl, toL_some, toL_none, psum_nil, psum_int, psum_ref, psum_null, psum_long, Nat.zero_le, Nat.reduceAdd, Nat.reduceLeDiff, kl_int, kl_ref, kl_none, kl_null, kl_long, ne_eq, not_true, not_false_eq_true]
theorem s230 (hR : roW h.2) (hj : j < 23) (hi : i < (wdB j).length) : Cp (d + 5) 230 [.ref (17 + j), .int (Int32.ofNat i)] h Q = Q (.inl (some (.int ((wdB j).getD i 0))), h) := by
  have h8 := w8_len j hj
  have h0 : ¬ Int32.ofNat i < 0 := ofN_nn (by omega)
  have h1 : Int32.ofNat i < Int32.ofNat (wdB j).length := (ofN_lt (by omega) (by omega)).mpr hi
  have hc := w8_ch j hj i hi
  have hn : narrow FieldType.char (Value.int ((wdB j).getD i 0)) = Value.int ((wdB j).getD i 0) := congrArg Value.int (w8_nc j hj i hi)
  simp +decide only [ce230, ↓w230_0, ↓w230_1, ↓w230_4, ↓w230_7, ↓w230_8, ↓w230_11, ↓w230_12, ↓w230_15, ↓w230_16, ↓w230_17, ↓w230_20, ↓w230_24, ce234, ↓w234_0, ↓w234_3, ↓w234_6, ↓w234_7, ↓w234_10, ↓w234_13, ↓w234_14, ↓w234_17, ↓w234_18, ce236, ↓w236_0, ↓w236_1, ↓w236_2, ↓w236_3, ↓w236_6, ↓w236_7, ↓w236_8, ↓w236_9, ↓w236_12, ↓w236_13, ↓w236_14, ce235, ↓w235_0, ↓w235_1, ↓w235_2, ↓w235_5, ↓w235_8, ↓w235_8i, ↓w235_9, ce240, ↓w240_0, ↓w240_1, ↓w240_4, ↓w240_5, ↓w240_6, ↓w240_9, ↓w240_10, ↓w240_11, ↓w240_16, ↓w240_17, ↓sw_g0 hR hj, ↓sw_g1 hR hj, ↓sw_r hR hj, ↓sw_n hR hj, ↓sw_a hR hj hi, h0, h1, hc, hn, icond_lt, icond_le, icond_gt, icond_ge, icond_eq, icond_ne, narrow_bool, true_or, or_true, if_true, if_false, cK_inl, toL_some, toL_none, psum_nil, psum_int, psum_ref, psum_null, psum_long, Nat.zero_le, Nat.reduceAdd, Nat.reduceLeDiff, kl_int, kl_ref, kl_none, kl_null, kl_long, ne_eq, not_true, not_false_eq_true]
end WORDS
