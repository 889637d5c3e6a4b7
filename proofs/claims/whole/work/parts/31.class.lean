theorem c50 {d : Nat} {x : Int32} {h : PH} {Q : PO → Prop} : Cp (d + 1) 50 [.int x] h Q = Q (.inl (some (.int (if x < 48 ∨ 57 < x then 0 else 1))), h) := by
  simp only [ce50, ↓w50_0, ↓w50_1, ↓w50_3, ↓w50_6, ↓w50_7, ↓w50_9, ↓w50_12, ↓w50_13, ↓w50_16, ↓w50_17, icond_lt, icond_gt, narrow_bool, true_or, or_true, if_true]
  by_cases h1 : x < 48
  · simp only [if_pos h1, if_pos (Or.inl h1)]
  · by_cases h2 : 57 < x
    · simp only [if_neg h1, if_pos h2, if_pos (Or.inr h2)]
    · simp only [if_neg h1, if_neg h2, if_neg (not_or.mpr ⟨h1, h2⟩)]
theorem c117 {d a n : Nat} {f : Nat → Int64} {x : Int32} {y : Int64} {h : PH} {Q : PO → Prop} (ha : h.2 a = some (.inl (1, n, .inr (.inl f)))) (h3 : 300 ≤ a) (hn : n < 2 ^ 31) : Cp (d + 1) 117 [.ref a, .int x, .long y] h Q = Q (.inl none, if inB x n = true then hset h a (.inl (1, n, .inr (.inl (vp_updL f x.toNatClampNeg y)))) else h) := by
  by_cases hi : inB x n = true
  · have h1 := (inB_iff.mp hi).1
    have h2 := (inB_iff.mp hi).2
    simp only [ce117, ↓w117_0, ↓w117_1, ↓w117_4, ↓w117_5, ↓w117_6, ↓w117_7, ↓w117_10, ↓w117_11, ↓w117_12, ↓w117_13, ↓w117_14, icond_lt, icond_ge, ha, nP_mk, lsP_mk h3 hi, if_neg h1, if_neg (fun q => Nat.not_le.mpr h2 ((i_ge h1 hn).mp q)), if_pos hi]
  · rw [if_neg hi]
    by_cases h1 : x < 0
    · simp only [ce117, ↓w117_0, ↓w117_1, ↓w117_4, ↓w117_5, ↓w117_6, ↓w117_7, ↓w117_10, ↓w117_11, ↓w117_12, ↓w117_13, ↓w117_14, icond_lt, icond_ge, if_pos h1]
    · have h2 : Int32.ofNat n ≤ x := (i_ge h1 hn).mpr (Nat.not_lt.mp fun q => hi (inB_iff.mpr ⟨h1, q⟩))
      simp only [ce117, ↓w117_0, ↓w117_1, ↓w117_4, ↓w117_5, ↓w117_6, ↓w117_7, ↓w117_10, ↓w117_11, ↓w117_12, ↓w117_13, ↓w117_14, icond_lt, icond_ge, ha, nP_mk, if_neg h1, if_pos h2]
/-- a note read back -/
theorem c17 {d a r n : Nat} {fs : List Value} {f : Nat → Int32} {x c : Int32} {h : PH} {Q : PO → Prop} (ha : h.2 a = some (.inr (2, fs))) (h6 : fs[6]? = some (.int c)) (h7 : fs[7]? = some (.ref r)) (hr : h.2 r = some (.inl (0, n, .inl f))) (hn : n < 2 ^ 31) : Cp (d + 2) 17 [.ref a, .int x] h Q = Q (.inl (some (.int (if inB (c - 1 - x - (c - 1 - x) / 20 * 20) n = true then f (c - 1 - x - (c - 1 - x) / 20 * 20).toNatClampNeg else -1))), h) := by
  have h0 : (20 : Int32) ≠ 0 := by decide
  simp only [ce17, ↓w17_0, ↓w17_1, ↓w17_4, ↓w17_5, ↓w17_8, ↓w17_9, ↓w17_10, ↓w17_11, ↓w17_12, ↓w17_14, ↓w17_15, ↓w17_18, ha, gP_mk, h6, h7, oP_some, ↓w17_14 h0, c115 hr hn, cK_inl, toL_some, psum_nil, Nat.zero_le]
