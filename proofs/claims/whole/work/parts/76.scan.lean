/-! THE TEXT OF SIGNS, AND A TOKEN -/
section SIGN
variable {h : PH} {c : Nat × Nat × Nat} {S : S3} {L : L3} {R : Nat → Option PC} {d i k n m : Nat} {x y : Int32} {z : Int64} {Q : PO → Prop} {T : Nat → Int32}
def f6 (j : Nat) : Int32 := [40, 41, 59, 60, 62, 61].getD j 0
def roS (R : Nat → Option PC) : Prop := R 2 = some (.inr (11, [.ref 101, .int 0])) ∧ R 101 = some (.inl (2, 6, .inl f6))
def ix6 (x : Int32) : Int32 := if x = 40 then 0 else if x = 41 then 1 else if x = 59 then 2 else if x = 60 then 3 else if x = 62 then 4 else if x = 61 then 5 else -1
theorem b8_f6 : ∀ m, m < 256 → ∀ j, j < 6 → (f6 j = (Int32.ofNat m).toInt8.toInt32 ↔ Int32.ofNat m = f6 j) := by decide +kernel
theorem b16 : ∀ m, m < 256 → ((Int32.ofNat m).toUInt32 % 65536).toInt32 = Int32.ofNat m := by decide +kernel
theorem s2_g0 (hR : roS h.2) {K : Value → Prop} : gP (h.2 2) 11 0 K = K (.ref 101) := by rw [hR.1, gP_mk]; rfl
theorem s2_g1 (hR : roS h.2) {K : Value → Prop} : gP (h.2 2) 11 1 K = K (.int 0) := by rw [hR.1, gP_mk]; rfl
theorem s2_r (hR : roS h.2) {P : Prop} : rP (h.2 2) 11 P = P := by rw [hR.1, rP_mk]
theorem s2_n (hR : roS h.2) {K : Int32 → Prop} : nP (h.2 101) K = K 6 := by rw [hR.2]; rfl
theorem s2_a (hR : roS h.2) (hi : i < 6) {K : Int32 → Prop} : aP true (h.2 101) (Int32.ofNat i) K = K (f6 i) := by
  rw [hR.2]
  refine (if_pos ⟨rfl, inB_nat hi (by omega)⟩).trans ?_
  rw [tN_nat (by omega)]
theorem s239 (hR : roS h.2) (hm : m < 256) {y0 : Int32} : ∀ (k i : Nat), i + k = 6 → Wp (d + 1) 239 7 [some (.ref 101), some (.int (Int32.ofNat m)), some (.int y0), some (.int 6), some (.int (Int32.ofNat m).toInt8.toInt32), some (.int (Int32.ofNat i))] [] h Q
    = Q (.inl (some (.int (((List.range' i k).find? fun j => Int32.ofNat m == f6 j).elim (-1) Int32.ofNat))), h) := by
  intro k
  induction k with
  | zero =>
    intro i hi
    have e : (6 : Int32) ≤ Int32.ofNat i := (ofN_le (k := 6) (by omega) (by omega)).mpr (by omega)
    rw [w239_7]
    simp only [↓w239_0, ↓w239_1, ↓w239_2, ↓w239_4, ↓w239_5, ↓w239_9, ↓w239_10, ↓w239_13, ↓w239_14, ↓w239_16, ↓w239_17, ↓w239_19, ↓w239_22, ↓w239_24, ↓w239_25, ↓w239_28, ↓w239_31, ↓w239_32, e, icond_lt, icond_le, icond_gt, icond_ge, icond_eq, icond_ne, narrow_bool, true_or, or_true, if_true, if_false, cK_inl, toL_some, toL_none, psum_nil, psum_int, psum_ref, psum_null, psum_long, Nat.zero_le, Nat.reduceAdd, Nat.reduceLeDiff, kl_int, kl_ref, kl_none, kl_null, kl_long]
    rfl
  | succ k ih =>
    intro i hi
    have e : ¬ (6 : Int32) ≤ Int32.ofNat i := fun q => absurd ((ofN_le (k := 6) (by omega) (by omega)).mp q) (by omega)
    have hi' : i < 6 := by omega
    have hb := b8_f6 m hm i hi'
    rw [w239_7, List.range'_succ, List.find?_cons]
    by_cases h1 : Int32.ofNat m = f6 i
    · have h2 := hb.mpr h1
      rw [beq_iff_eq.mpr h1]
      simp +decide only [↓w239_0, ↓w239_1, ↓w239_2, ↓w239_4, ↓w239_5, ↓w239_9, ↓w239_10, ↓w239_13, ↓w239_14, ↓w239_16, ↓w239_17, ↓w239_19, ↓w239_22, ↓w239_24, ↓w239_25, ↓w239_28, ↓w239_31, ↓w239_32, ↓s2_a hR hi', e, h2, ofN_a1, icond_lt, icond_le, icond_gt, icond_ge, icond_eq, icond_ne, narrow_bool, true_or, or_true, if_true, if_false, cK_inl, toL_some, toL_none, psum_nil, psum_int, psum_ref, psum_null, psum_long, Nat.zero_le, Nat.reduceAdd, Nat.reduceLeDiff, kl_int, kl_ref, kl_none, kl_null, kl_long, ne_eq, not_true, not_false_eq_true]
      rfl
    · have h2 : ¬ f6 i = (Int32.ofNat m).toInt8.toInt32 := fun q => h1 (hb.mp q)
      simp +decide only [↓w239_0, ↓w239_1, ↓w239_2, ↓w239_4, ↓w239_5, ↓w239_9, ↓w239_10, ↓w239_13, ↓w239_14, ↓w239_16, ↓w239_17, ↓w239_19, ↓w239_22, ↓w239_24, ↓w239_25, ↓w239_28, ↓w239_31, ↓w239_32, ↓s2_a hR hi', e, h2, ofN_a1, icond_lt, icond_le, icond_gt, icond_ge, icond_eq, icond_ne, narrow_bool, true_or, or_true, if_true, if_false, cK_inl, toL_some, toL_none, psum_nil, psum_int, psum_ref, psum_null, psum_long, Nat.zero_le, Nat.reduceAdd, Nat.reduceLeDiff, kl_int, kl_ref, kl_none, kl_null, kl_long, ne_eq, not_true, not_false_eq_true]
      rw [beq_eq_false_iff_ne.mpr h1]
      exact ih (i + 1) (by omega)
theorem ix6_f : (((List.range' 0 6).find? fun j => x == f6 j).elim (-1) Int32.ofNat) = ix6 x := by
  show (([0, 1, 2, 3, 4, 5].find? fun j => x == f6 j).elim (-1) Int32.ofNat) = ix6 x
  unfold ix6
  have e0 : f6 0 = 40 := rfl
  have e1 : f6 1 = 41 := rfl
  have e2 : f6 2 = 59 := rfl
  have e3 : f6 3 = 60 := rfl
  have e4 : f6 4 = 62 := rfl
  have e5 : f6 5 = 61 := rfl
  simp only [List.find?_cons, List.find?_nil, e0, e1, e2, e3, e4, e5]
  by_cases h0 : x = 40
  · subst h0; rfl
  by_cases h1 : x = 41
  · subst h1; rfl
  by_cases h2 : x = 59
  · subst h2; rfl
  by_cases h3 : x = 60
  · subst h3; rfl
  by_cases h4 : x = 62
  · subst h4; rfl
  by_cases h5 : x = 61
  · subst h5; rfl
  simp only [beq_eq_false_iff_ne.mpr h0, beq_eq_false_iff_ne.mpr h1, beq_eq_false_iff_ne.mpr h2, beq_eq_false_iff_ne.mpr h3, beq_eq_false_iff_ne.mpr h4, beq_eq_false_iff_ne.mpr h5, if_neg h0, if_neg h1, if_neg h2, if_neg h3, if_neg h4, if_neg h5]
  rfl
theorem s231 (hR : roS h.2) (hm : m < 256) : Cp (d + 6) 231 [.ref 2, .int (Int32.ofNat m)] h Q = Q (.inl (some (.int (ix6 (Int32.ofNat m)))), h) := by
  have h0 : ¬ Int32.ofNat m < 0 := ofN_nn (by omega)
  have h1 : ¬ (255 : Int32) < Int32.ofNat m := fun q => absurd ((ofN_lt (k := 255) (by omega) (by omega)).mp q) (by omega)
  have q2 : ∀ Q : PO → Prop, Wp (d + 2) 239 7 [some (.ref 101), some (.int (Int32.ofNat m)), some (.int 0), some (.int 6), some (.int (Int32.ofNat m).toInt8.toInt32), some (.int 0)] [] h Q = Q (.inl (some (.int (ix6 (Int32.ofNat m)))), h) := fun Q => by
    have q := s239 (d := d + 1) (Q := Q) (h := h) hR hm (y0 := 0) 6 0 rfl
    rw [ix6_f] at q
    exact q
  have sh : (6 : Int32) >>> (0 &&& 31) = 6 := by decide
  simp +decide only [ce231, ↓w231_0, ↓w231_1, ↓w231_2, ↓w231_3, ↓w231_6, ce232, ↓w232_0, ↓w232_1, ↓w232_4, ↓w232_7, ↓w232_8, ↓w232_11, ↓w232_12, ↓w232_13, ↓w232_14, ↓w232_17, ↓w232_20, ↓w232_23, ↓w232_24, ↓w232_27, ↓w232_28, ↓w232_29, ↓w232_30, ↓w232_36, ce234, ↓w234_0, ↓w234_3, ↓w234_6, ↓w234_7, ↓w234_10, ↓w234_13, ↓w234_14, ↓w234_17, ↓w234_18, ce229, ↓w229_0, ↓w229_1, ↓w229_4, ↓w229_5, ↓w229_6, ↓w229_9, ↓w229_10, ce233, ↓w233_0, ↓w233_3, ↓w233_6, ↓w233_7, ↓w233_10, ↓w233_13, ↓w233_14, ce238, ↓w238_0, ↓w238_1, ↓w238_4, ↓w238_7, ↓w238_8, ↓w238_9, ↓w238_10, ↓w238_11, ↓w238_14, ↓w238_15, ↓w238_16, ↓w238_17, ↓w238_18, ↓w238_21, ↓w238_22, ↓w238_23, ↓w238_24, ↓w238_27, ↓w238_28, ↓w238_29, ↓w238_30, ↓w238_31, ↓w238_32, ↓w238_33, ↓w238_36, ce237, ↓w237_0, ↓w237_1, ↓w237_4, ↓w237_5, ↓w237_8, ↓w237_11, ↓w237_12, ↓w237_15, ↓w237_16, ce239, ↓w239_0, ↓w239_1, ↓w239_2, ↓w239_4, ↓w239_5, ↓w239_9, ↓w239_10, ↓w239_13, ↓w239_14, ↓w239_16, ↓w239_17, ↓w239_19, ↓w239_22, ↓w239_24, ↓w239_25, ↓w239_28, ↓w239_31, ↓w239_32, ↓s2_g0 hR, ↓s2_g1 hR, ↓s2_r hR, ↓s2_n hR, h0, h1, sh, ↓q2, icond_lt, icond_le, icond_gt, icond_ge, icond_eq, icond_ne, narrow_bool, true_or, or_true, if_true, if_false, cK_inl, toL_some, toL_none, psum_nil, psum_int, psum_ref, psum_null, psum_long, Nat.zero_le, Nat.reduceAdd, Nat.reduceLeDiff, kl_int, kl_ref, kl_none, kl_null, kl_long, ne_eq, not_true, not_false_eq_true]
end SIGN
