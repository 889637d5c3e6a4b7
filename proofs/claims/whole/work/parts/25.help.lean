theorem narrow_bool {x : Int32} (hx : x = 0 ∨ x = 1) : (narrow .boolean (.int x) = .int x) = True := by
  rcases hx with rfl | rfl <;> simp <;> rfl
theorem icond_lt {x y : Int32} : (icond .lt x y = true) = (x < y) := by simp [icond]
theorem icond_le {x y : Int32} : (icond .le x y = true) = (x ≤ y) := by simp [icond]
theorem icond_gt {x y : Int32} : (icond .gt x y = true) = (y < x) := by simp [icond]
theorem icond_ge {x y : Int32} : (icond .ge x y = true) = (y ≤ x) := by simp [icond]
theorem icond_eq {x y : Int32} : (icond .eq x y = true) = (x = y) := by simp [icond]
theorem icond_ne {x y : Int32} : (icond .ne x y = true) = (x ≠ y) := by simp [icond]
theorem psum_nil : psum [] = 0 := by simp [psum, Value.category]
theorem psum_int {x : Int32} {t : List Value} : psum (.int x :: t) = 1 + psum t := by simp [psum, Value.category]
theorem psum_ref {x : Nat} {t : List Value} : psum (.ref x :: t) = 1 + psum t := by simp [psum, Value.category]
theorem psum_null {t : List Value} : psum (.null :: t) = 1 + psum t := by simp [psum, Value.category]
theorem psum_long {x : Int64} {t : List Value} : psum (.long x :: t) = 2 + psum t := by simp [psum, Value.category]
theorem c49 {d : Nat} {x : Int32} {h : PH} {Q : PO → Prop} : Cp (d + 1) 49 [.int x] h Q = Q (.inl (some (.int (if x < 97 ∨ 122 < x then 0 else 1))), h) := by
  simp only [ce49, ↓w49_0, ↓w49_1, ↓w49_3, ↓w49_6, ↓w49_7, ↓w49_9, ↓w49_12, ↓w49_13, ↓w49_16, ↓w49_17, icond_lt, icond_gt, narrow_bool, true_or, or_true, if_true]
  by_cases h1 : x < 97
  · simp only [if_pos h1, if_pos (Or.inl h1)]
  · by_cases h2 : 122 < x
    · simp only [if_neg h1, if_pos h2, if_pos (Or.inr h2)]
    · simp only [if_neg h1, if_neg h2, if_neg (not_or.mpr ⟨h1, h2⟩)]
theorem i_ge {x : Int32} {n : Nat} (hx : ¬ x < 0) (hn : n < 2 ^ 31) : Int32.ofNat n ≤ x ↔ n ≤ x.toNatClampNeg := by
  rw [Int32.le_iff_toInt_le, Int32.toInt_ofNat_of_lt hn]
  rw [Int32.lt_iff_toInt_lt] at hx
  simp only [Int32.toInt_zero] at hx
  unfold Int32.toNatClampNeg
  omega
theorem inB_iff {x : Int32} {n : Nat} : inB x n = true ↔ ¬ x < 0 ∧ x.toNatClampNeg < n := by
  simp [inB]
theorem c115 {d a n : Nat} {f : Nat → Int32} {x : Int32} {h : PH} {Q : PO → Prop} (ha : h.2 a = some (.inl (0, n, .inl f))) (hn : n < 2 ^ 31) : Cp (d + 1) 115 [.ref a, .int x] h Q = Q (.inl (some (.int (if inB x n = true then f x.toNatClampNeg else -1))), h) := by
  simp only [ce115, ↓w115_0, ↓w115_1, ↓w115_4, ↓w115_5, ↓w115_6, ↓w115_7, ↓w115_10, ↓w115_11, ↓w115_12, ↓w115_13, ↓w115_16, ↓w115_17, icond_lt, icond_ge, ha, nP, aP]
  by_cases h1 : x < 0
  · have h2 : ¬ inB x n = true := fun q => (inB_iff.mp q).1 h1
    simp only [if_pos h1, if_neg h2]
  · by_cases h2 : n ≤ x.toNatClampNeg
    · have h3 : ¬ inB x n = true := fun q => absurd (inB_iff.mp q).2 (by omega)
      simp only [if_neg h1, if_pos ((i_ge h1 hn).mpr h2), if_neg h3]
    · have h3 : inB x n = true := inB_iff.mpr ⟨h1, by omega⟩
      simp only [if_neg h1, if_neg (fun q => h2 ((i_ge h1 hn).mp q)), h3, kb, if_true]
      simp
theorem hset_at {h : PH} {a b : Nat} {c : PC} : (hset h a c).2 b = if b = a then some c else h.2 b := rfl
theorem hset_1 {h : PH} {a : Nat} {c : PC} : (hset h a c).1 = h.1 := rfl
theorem hnew_at {h : PH} {n b : Nat} {c : PC} : (hnew h n c).2 b = if b = h.1.1 then some c else h.2 b := rfl
theorem hnew_1 {h : PH} {n : Nat} {c : PC} : (hnew h n c).1 = (h.1.1 + 1, h.1.2.1 + 1, h.1.2.2 + n) := rfl
theorem hthr_2 {h : PH} : (hthr h).2 = h.2 := rfl
theorem hthr_1 {h : PH} : (hthr h).1 = (h.1.1, h.1.2.1 + 1, h.1.2.2 + 6) := rfl
theorem pP_mk {ci k a : Nat} {fs : List Value} {ty : FieldType} {v : Value} {K : PC → Prop} (ha : 300 ≤ a) (hk : k < fs.length) (hf : fits ty v = true) (hn : narrow ty v = v) : pP (some (.inr (ci, fs))) ci k ty v a K = K (.inr (ci, fs.set k v)) := if_pos ⟨rfl, ha, hk, hf, hn⟩
theorem aP_mk {n : Nat} {f : Nat → Int32} {i : Int32} {K : Int32 → Prop} (hi : inB i n = true) : aP false (some (.inl (0, n, .inl f))) i K = K (f i.toNatClampNeg) := if_pos ⟨rfl, hi⟩
theorem aP_mk2 {n : Nat} {f : Nat → Int32} {i : Int32} {K : Int32 → Prop} (hi : inB i n = true) : aP true (some (.inl (2, n, .inl f))) i K = K (f i.toNatClampNeg) := if_pos ⟨rfl, hi⟩
theorem aP_mk3 {n : Nat} {f : Nat → Int32} {i : Int32} {K : Int32 → Prop} (hi : inB i n = true) : aP true (some (.inl (3, n, .inl f))) i K = K (f i.toNatClampNeg) := if_pos ⟨rfl, hi⟩
theorem lP_mk {n : Nat} {f : Nat → Int64} {i : Int32} {K : Int64 → Prop} (hi : inB i n = true) : lP (some (.inl (1, n, .inr (.inl f)))) i K = K (f i.toNatClampNeg) := if_pos hi
theorem nP_mk {k n : Nat} {f} {K : Int32 → Prop} : nP (some (.inl (k, n, f))) K = K (Int32.ofNat n) := rfl
theorem vp_nar0 {x : Int32} : vp_nar (tyOf 0) x = x := rfl
theorem asP_mk {n a : Nat} {f : Nat → Int32} {i x : Int32} {K : PC → Prop} (ha : 300 ≤ a) (hi : inB i n = true) : asP false (some (.inl (0, n, .inl f))) a i x K = K (.inl (0, n, .inl (upd f i.toNatClampNeg x))) := if_pos ⟨ha, rfl, hi⟩
theorem lsP_mk {n a : Nat} {f : Nat → Int64} {i : Int32} {x : Int64} {K : PC → Prop} (ha : 300 ≤ a) (hi : inB i n = true) : lsP (some (.inl (1, n, .inr (.inl f)))) a i x K = K (.inl (1, n, .inr (.inl (vp_updL f i.toNatClampNeg x)))) := if_pos ⟨ha, hi⟩
theorem qP_mk {k n : Nat} {f : Nat → Option Nat} {i : Int32} {K : Value → Prop} (hk : 4 ≤ k ∧ k ≤ 6) (hi : inB i n = true) : qP (some (.inl (k, n, .inr (.inr (.inr (.inr f)))))) i K = K (va_rf (f i.toNatClampNeg)) := if_pos ⟨hk.1, hk.2, hi⟩
theorem cK_some {w : Value} {h : PH} {K : Option Value → PH → Prop} {X : String → PH → Prop} : cK (.inl (some w), h) K X = K (some w) h := rfl
theorem toL_some {w : Value} {t : List Value} : (some w).toList ++ t = w :: t := rfl
theorem toL_none {t : List Value} : (none : Option Value).toList ++ t = t := rfl
theorem upd_at {α : Type} {f : Nat → Int32} {k i : Nat} {x : Int32} : upd f k x i = if i = k then x else f i := by
  first | rfl | (unfold upd; split <;> simp_all)
/-- put([III)V: a store where the place is there, nothing else -/
theorem c116 {d a n : Nat} {f : Nat → Int32} {x y : Int32} {h : PH} {Q : PO → Prop} (ha : h.2 a = some (.inl (0, n, .inl f))) (h3 : 300 ≤ a) (hn : n < 2 ^ 31) : Cp (d + 1) 116 [.ref a, .int x, .int y] h Q = Q (.inl none, if inB x n = true then hset h a (.inl (0, n, .inl (upd f x.toNatClampNeg y))) else h) := by
  by_cases hi : inB x n = true
  · have h1 := (inB_iff.mp hi).1
    have h2 := (inB_iff.mp hi).2
    simp only [ce116, ↓w116_0, ↓w116_1, ↓w116_4, ↓w116_5, ↓w116_6, ↓w116_7, ↓w116_10, ↓w116_11, ↓w116_12, ↓w116_13, ↓w116_14, icond_lt, icond_ge, ha, nP_mk, asP_mk h3 hi, if_neg h1, if_neg (fun q => Nat.not_le.mpr h2 ((i_ge h1 hn).mp q)), if_pos hi]
  · rw [if_neg hi]
    by_cases h1 : x < 0
    · simp only [ce116, ↓w116_0, ↓w116_1, ↓w116_4, ↓w116_5, ↓w116_6, ↓w116_7, ↓w116_10, ↓w116_11, ↓w116_12, ↓w116_13, ↓w116_14, icond_lt, icond_ge, if_pos h1]
    · have h2 : Int32.ofNat n ≤ x := (i_ge h1 hn).mpr (Nat.not_lt.mp fun q => hi (inB_iff.mpr ⟨h1, q⟩))
      simp only [ce116, ↓w116_0, ↓w116_1, ↓w116_4, ↓w116_5, ↓w116_6, ↓w116_7, ↓w116_10, ↓w116_11, ↓w116_12, ↓w116_13, ↓w116_14, icond_lt, icond_ge, ha, nP_mk, if_neg h1, if_pos h2]
theorem ft0_0 : ftOf 0 0 = .int := by decide +kernel
theorem ft0_1 : ftOf 0 1 = .int := by decide +kernel
theorem ft0_2 : ftOf 0 2 = .int := by decide +kernel
theorem ft0_3 : ftOf 0 3 = .int := by decide +kernel
theorem ft0_4 : ftOf 0 4 = .array (.int) := by decide +kernel
theorem ft0_5 : ftOf 0 5 = .array (.int) := by decide +kernel
theorem ft0_6 : ftOf 0 6 = .array (.int) := by decide +kernel
theorem ft0_7 : ftOf 0 7 = .array (.int) := by decide +kernel
theorem ft0_8 : ftOf 0 8 = .array (.int) := by decide +kernel
theorem ft0_9 : ftOf 0 9 = .array (.int) := by decide +kernel
theorem ft0_10 : ftOf 0 10 = .array (.int) := by decide +kernel
theorem ft0_11 : ftOf 0 11 = .array (.int) := by decide +kernel
theorem ft0_12 : ftOf 0 12 = .array (.int) := by decide +kernel
theorem ft0_13 : ftOf 0 13 = .array (.int) := by decide +kernel
theorem ft0_14 : ftOf 0 14 = .array (.int) := by decide +kernel
theorem ft0_15 : ftOf 0 15 = .array (.int) := by decide +kernel
theorem ft0_16 : ftOf 0 16 = .array (.int) := by decide +kernel
theorem ft1_0 : ftOf 1 0 = .int := by decide +kernel
theorem ft1_1 : ftOf 1 1 = .int := by decide +kernel
theorem ft1_2 : ftOf 1 2 = .int := by decide +kernel
theorem ft1_3 : ftOf 1 3 = .int := by decide +kernel
theorem ft1_4 : ftOf 1 4 = .int := by decide +kernel
theorem ft1_5 : ftOf 1 5 = .int := by decide +kernel
theorem ft1_6 : ftOf 1 6 = .boolean := by decide +kernel
theorem ft2_0 : ftOf 2 0 = .int := by decide +kernel
theorem ft2_1 : ftOf 2 1 = .int := by decide +kernel
theorem ft2_2 : ftOf 2 2 = .int := by decide +kernel
theorem ft2_3 : ftOf 2 3 = .int := by decide +kernel
theorem ft2_4 : ftOf 2 4 = .int := by decide +kernel
theorem ft2_5 : ftOf 2 5 = .int := by decide +kernel
theorem ft2_6 : ftOf 2 6 = .int := by decide +kernel
theorem ft2_7 : ftOf 2 7 = .array (.int) := by decide +kernel
theorem ft2_8 : ftOf 2 8 = .int := by decide +kernel
theorem ft2_9 : ftOf 2 9 = .array (.int) := by decide +kernel
theorem ft2_10 : ftOf 2 10 = .array (.int) := by decide +kernel
theorem ft2_11 : ftOf 2 11 = .array (.int) := by decide +kernel
theorem ft3_0 : ftOf 3 0 = .object "LampLighters$Tokens" := by decide +kernel
theorem ft3_1 : ftOf 3 1 = .array (.long) := by decide +kernel
theorem ft3_2 : ftOf 3 2 = .array (.long) := by decide +kernel
theorem ft3_3 : ftOf 3 3 = .object "LampLighters$Book" := by decide +kernel
theorem ft3_4 : ftOf 3 4 = .int := by decide +kernel
theorem ft3_5 : ftOf 3 5 = .int := by decide +kernel
theorem ft3_6 : ftOf 3 6 = .int := by decide +kernel
theorem ft3_7 : ftOf 3 7 = .long := by decide +kernel
theorem ft3_8 : ftOf 3 8 = .int := by decide +kernel
theorem ft3_9 : ftOf 3 9 = .int := by decide +kernel
theorem ft4_0 : ftOf 4 0 = .array (.byte) := by decide +kernel
theorem ft4_1 : ftOf 4 1 = .int := by decide +kernel
theorem ft5_0 : ftOf 5 0 = .array (.int) := by decide +kernel
theorem ft5_1 : ftOf 5 1 = .array (.int) := by decide +kernel
theorem ft5_2 : ftOf 5 2 = .array (.long) := by decide +kernel
theorem ft5_3 : ftOf 5 3 = .array (.long) := by decide +kernel
theorem ft6_0 : ftOf 6 0 = .object "LampLighters$Book" := by decide +kernel
theorem ft6_1 : ftOf 6 1 = .array (.object "LampLighters$Lamp") := by decide +kernel
theorem ft6_2 : ftOf 6 2 = .array (.object "LampLighters$Lighter") := by decide +kernel
theorem ft6_3 : ftOf 6 3 = .int := by decide +kernel
theorem ft6_4 : ftOf 6 4 = .int := by decide +kernel
theorem ft6_5 : ftOf 6 5 = .int := by decide +kernel
theorem ft6_6 : ftOf 6 6 = .int := by decide +kernel
theorem ft6_7 : ftOf 6 7 = .boolean := by decide +kernel
theorem ft7_0 : ftOf 7 0 = .object "LampLighters$Tape" := by decide +kernel
theorem ft7_1 : ftOf 7 1 = .object "LampLighters$Reader" := by decide +kernel
theorem ft7_2 : ftOf 7 2 = .object "LampLighters$Town" := by decide +kernel
theorem ft7_3 : ftOf 7 3 = .object "LampLighters$Town" := by decide +kernel
theorem ft7_4 : ftOf 7 4 = .object "LampLighters$Book" := by decide +kernel
theorem ft7_5 : ftOf 7 5 = .int := by decide +kernel
theorem ft8_0 : ftOf 8 0 = .int := by decide +kernel
theorem ft8_1 : ftOf 8 1 = .int := by decide +kernel
theorem ft8_2 : ftOf 8 2 = .int := by decide +kernel
theorem ft8_3 : ftOf 8 3 = .array (.int) := by decide +kernel
theorem ft8_4 : ftOf 8 4 = .array (.int) := by decide +kernel
theorem ft8_5 : ftOf 8 5 = .array (.int) := by decide +kernel
theorem ft8_6 : ftOf 8 6 = .int := by decide +kernel
theorem ft8_7 : ftOf 8 7 = .array (.int) := by decide +kernel
theorem ft8_8 : ftOf 8 8 = .int := by decide +kernel
theorem ft8_9 : ftOf 8 9 = .int := by decide +kernel
theorem ft8_10 : ftOf 8 10 = .array (.int) := by decide +kernel
theorem ft8_11 : ftOf 8 11 = .array (.int) := by decide +kernel
theorem ft8_12 : ftOf 8 12 = .array (.int) := by decide +kernel
theorem ft8_13 : ftOf 8 13 = .array (.int) := by decide +kernel
theorem ft8_14 : ftOf 8 14 = .array (.int) := by decide +kernel
theorem ft8_15 : ftOf 8 15 = .array (.int) := by decide +kernel
theorem ft8_16 : ftOf 8 16 = .array (.int) := by decide +kernel
theorem ft8_17 : ftOf 8 17 = .array (.int) := by decide +kernel
theorem ft8_18 : ftOf 8 18 = .int := by decide +kernel
theorem ft8_19 : ftOf 8 19 = .array (.int) := by decide +kernel
theorem ft8_20 : ftOf 8 20 = .array (.int) := by decide +kernel
theorem ft8_21 : ftOf 8 21 = .array (.int) := by decide +kernel
theorem ft9_0 : ftOf 9 0 = .int := by decide +kernel
theorem ft9_1 : ftOf 9 1 = .int := by decide +kernel
theorem ft9_2 : ftOf 9 2 = .boolean := by decide +kernel
theorem ft9_3 : ftOf 9 3 = .int := by decide +kernel
theorem ft9_4 : ftOf 9 4 = .array (.int) := by decide +kernel
theorem ft9_5 : ftOf 9 5 = .array (.int) := by decide +kernel
theorem ft9_6 : ftOf 9 6 = .array (.int) := by decide +kernel
theorem ft9_7 : ftOf 9 7 = .array (.int) := by decide +kernel
theorem ft9_8 : ftOf 9 8 = .array (.boolean) := by decide +kernel
theorem ft9_9 : ftOf 9 9 = .array (.int) := by decide +kernel
theorem ft9_10 : ftOf 9 10 = .array (.int) := by decide +kernel
theorem ft9_11 : ftOf 9 11 = .array (.int) := by decide +kernel
theorem ft9_12 : ftOf 9 12 = .array (.int) := by decide +kernel
theorem ft9_13 : ftOf 9 13 = .array (.int) := by decide +kernel
theorem ft9_14 : ftOf 9 14 = .array (.int) := by decide +kernel
theorem ft9_15 : ftOf 9 15 = .array (.int) := by decide +kernel
theorem ft9_16 : ftOf 9 16 = .array (.int) := by decide +kernel
theorem ft9_17 : ftOf 9 17 = .array (.int) := by decide +kernel
theorem ft9_18 : ftOf 9 18 = .array (.int) := by decide +kernel
theorem ft9_19 : ftOf 9 19 = .array (.int) := by decide +kernel
theorem ft9_20 : ftOf 9 20 = .object "LampLightersModel" := by decide +kernel
theorem ft10_0 : ftOf 10 0 = .int := by decide +kernel
theorem ft10_1 : ftOf 10 1 = .array (.int) := by decide +kernel
theorem ft10_2 : ftOf 10 2 = .int := by decide +kernel
theorem ft10_3 : ftOf 10 3 = .int := by decide +kernel
theorem ft10_4 : ftOf 10 4 = .array (.int) := by decide +kernel
theorem ft10_5 : ftOf 10 5 = .array (.int) := by decide +kernel
theorem ft10_6 : ftOf 10 6 = .array (.int) := by decide +kernel
theorem ft10_7 : ftOf 10 7 = .array (.int) := by decide +kernel
theorem ft10_8 : ftOf 10 8 = .int := by decide +kernel
theorem ft10_9 : ftOf 10 9 = .int := by decide +kernel
theorem ft10_10 : ftOf 10 10 = .object "LampLightersModel$Plan" := by decide +kernel
theorem ft10_11 : ftOf 10 11 = .object "LampLightersModel$Plan" := by decide +kernel
theorem ft10_12 : ftOf 10 12 = .int := by decide +kernel
theorem ft10_13 : ftOf 10 13 = .array (.int) := by decide +kernel
theorem ft10_14 : ftOf 10 14 = .object "LampLightersModel$State" := by decide +kernel
theorem ft10_15 : ftOf 10 15 = .object "LampLightersModel$State" := by decide +kernel
theorem pP_int {ci k a : Nat} {fs : List Value} {x : Int32} {K : PC → Prop} (ha : 300 ≤ a) (hk : k < fs.length) : pP (some (.inr (ci, fs))) ci k .int (.int x) a K = K (.inr (ci, fs.set k (.int x))) := pP_mk ha hk rfl rfl
theorem pP_long {ci k a : Nat} {fs : List Value} {x : Int64} {K : PC → Prop} (ha : 300 ≤ a) (hk : k < fs.length) : pP (some (.inr (ci, fs))) ci k .long (.long x) a K = K (.inr (ci, fs.set k (.long x))) := pP_mk ha hk rfl rfl
theorem pP_bool {ci k a : Nat} {fs : List Value} {x : Int32} {K : PC → Prop} (ha : 300 ≤ a) (hk : k < fs.length) (hx : x = 0 ∨ x = 1) : pP (some (.inr (ci, fs))) ci k .boolean (.int x) a K = K (.inr (ci, fs.set k (.int x))) := by
  rcases hx with rfl | rfl
  · exact pP_mk ha hk rfl rfl
  · exact pP_mk ha hk rfl rfl
theorem pP_arr {ci k a b : Nat} {t : FieldType} {fs : List Value} {K : PC → Prop} (ha : 300 ≤ a) (hk : k < fs.length) : pP (some (.inr (ci, fs))) ci k (.array t) (.ref b) a K = K (.inr (ci, fs.set k (.ref b))) := pP_mk ha hk rfl rfl
theorem pP_obj {ci k a b : Nat} {t : String} {fs : List Value} {K : PC → Prop} (ha : 300 ≤ a) (hk : k < fs.length) : pP (some (.inr (ci, fs))) ci k (.object t) (.ref b) a K = K (.inr (ci, fs.set k (.ref b))) := pP_mk ha hk rfl rfl
