/-! THE CLASS CUTS A TAPE INTO TOKENS -/
section SCAN
variable {c : Nat × Nat × Nat} {S : S3} {L : L3} {R : Nat → Option PC} {d i k n : Nat} {x y : Int32} {z : Int64} {Q : PO → Prop} {T : Nat → Int32}
theorem ptL_nat {L : L3} {g v n k : Nat} {x : Int64} (h : k < n) (hn : k < 2 ^ 31) : ptL L g v n (Int32.ofNat k) x = sl L g v k x := by
  rw [ptL, if_pos (inB_nat h hn), tN_nat hn]
/-- the byte at a place -/
def bat (S : S3) (x : Int32) : Int32 := if x < 0 then -1 else if S 4 206 0 ≤ x then -1 else if 1600 ≤ x then -1 else S 4 210 x.toNatClampNeg &&& 255
theorem byts_n39 {K : Int32 → Prop} : nP ((CH c S L R).2 302) K = K 1600 := by
  rw [byts_at]
  rfl
theorem byts_al {K : Int32 → Prop} (h : inB x 1600 = true) : aP true ((CH c S L R).2 302) x K = K (S 4 210 x.toNatClampNeg) := by
  rw [byts_at]
  exact if_pos ⟨rfl, h⟩
theorem k39 : Cp (d + 1) 39 [.ref 301, .int x] (CH c S L R) Q = Q (.inl (some (.int (bat S x))), CH c S L R) := by
  by_cases h0 : x < 0
  · simp only [ce39, ↓w39_0, ↓w39_1, ↓w39_4, ↓w39_5, ↓w39_6, ↓w39_9, ↓w39_12, ↓w39_13, ↓w39_14, ↓w39_17, ↓w39_18, ↓w39_21, ↓w39_22, ↓w39_25, ↓w39_26, ↓w39_27, ↓w39_30, ↓w39_31, ↓w39_34, ↓w39_35, ↓x0_g0, ↓x0_g1, ↓x0_g2, ↓x0_g3, ↓x0_g4, ↓x0_g5, ↓x0_p5, x0_r, cK_inr, CH_thr, ↓tape_g0, ↓tape_g1, icond_lt, icond_le, icond_gt, icond_ge, icond_eq, icond_ne, narrow_bool, true_or, or_true, if_true, if_false, cK_inl, toL_some, toL_none, psum_nil, psum_int, psum_ref, psum_null, psum_long, Nat.zero_le, Nat.reduceAdd, Nat.reduceLeDiff, kl_int, kl_ref, kl_none, kl_null, kl_long, bat, h0]
  by_cases h1 : S 4 206 0 ≤ x
  · simp only [ce39, ↓w39_0, ↓w39_1, ↓w39_4, ↓w39_5, ↓w39_6, ↓w39_9, ↓w39_12, ↓w39_13, ↓w39_14, ↓w39_17, ↓w39_18, ↓w39_21, ↓w39_22, ↓w39_25, ↓w39_26, ↓w39_27, ↓w39_30, ↓w39_31, ↓w39_34, ↓w39_35, ↓x0_g0, ↓x0_g1, ↓x0_g2, ↓x0_g3, ↓x0_g4, ↓x0_g5, ↓x0_p5, x0_r, cK_inr, CH_thr, ↓tape_g0, ↓tape_g1, icond_lt, icond_le, icond_gt, icond_ge, icond_eq, icond_ne, narrow_bool, true_or, or_true, if_true, if_false, cK_inl, toL_some, toL_none, psum_nil, psum_int, psum_ref, psum_null, psum_long, Nat.zero_le, Nat.reduceAdd, Nat.reduceLeDiff, kl_int, kl_ref, kl_none, kl_null, kl_long, bat, h0, h1]
  by_cases h2 : 1600 ≤ x
  · simp only [ce39, ↓w39_0, ↓w39_1, ↓w39_4, ↓w39_5, ↓w39_6, ↓w39_9, ↓w39_12, ↓w39_13, ↓w39_14, ↓w39_17, ↓w39_18, ↓w39_21, ↓w39_22, ↓w39_25, ↓w39_26, ↓w39_27, ↓w39_30, ↓w39_31, ↓w39_34, ↓w39_35, ↓x0_g0, ↓x0_g1, ↓x0_g2, ↓x0_g3, ↓x0_g4, ↓x0_g5, ↓x0_p5, x0_r, cK_inr, CH_thr, ↓tape_g0, ↓tape_g1, ↓byts_n39, icond_lt, icond_le, icond_gt, icond_ge, icond_eq, icond_ne, narrow_bool, true_or, or_true, if_true, if_false, cK_inl, toL_some, toL_none, psum_nil, psum_int, psum_ref, psum_null, psum_long, Nat.zero_le, Nat.reduceAdd, Nat.reduceLeDiff, kl_int, kl_ref, kl_none, kl_null, kl_long, bat, h0, h1, h2]
  have hx : x.toNatClampNeg < 1600 := by
    have h : ¬ 1600 ≤ x.toNatClampNeg := fun q => h2 (by rw [nnI h0]; exact (ofN_le (k := 1600) (by omega) tN_lt).mpr q)
    omega
  have hb : inB x 1600 = true := inB_iff.mpr ⟨h0, hx⟩
  simp only [ce39, ↓w39_0, ↓w39_1, ↓w39_4, ↓w39_5, ↓w39_6, ↓w39_9, ↓w39_12, ↓w39_13, ↓w39_14, ↓w39_17, ↓w39_18, ↓w39_21, ↓w39_22, ↓w39_25, ↓w39_26, ↓w39_27, ↓w39_30, ↓w39_31, ↓w39_34, ↓w39_35, ↓x0_g0, ↓x0_g1, ↓x0_g2, ↓x0_g3, ↓x0_g4, ↓x0_g5, ↓x0_p5, x0_r, cK_inr, CH_thr, ↓tape_g0, ↓tape_g1, ↓byts_n39, ↓byts_al hb, icond_lt, icond_le, icond_gt, icond_ge, icond_eq, icond_ne, narrow_bool, true_or, or_true, if_true, if_false, cK_inl, toL_some, toL_none, psum_nil, psum_int, psum_ref, psum_null, psum_long, Nat.zero_le, Nat.reduceAdd, Nat.reduceLeDiff, kl_int, kl_ref, kl_none, kl_null, kl_long, bat, h0, h1, h2]
/-- a tape of n bytes, as both see it -/
def tpT (S : S3) (T : Nat → Int32) : Prop := ∀ i, i ≤ 1601 → bat S (Int32.ofNat i) = T i
theorem k48 : Cp (d + 1) 48 [.long z, .int x] (CH c S L R) Q = Q (.inl (some (.long (z * 27 + x.toInt64 - 97 + 1))), CH c S L R) := by
  simp only [ce48, ↓w48_0, ↓w48_1, ↓w48_4, ↓w48_5, ↓w48_6, ↓w48_7, ↓w48_8, ↓w48_11, ↓w48_12, ↓w48_13, ↓w48_14, cK_inl, toL_some, toL_none, psum_nil, psum_int, psum_ref, psum_null, psum_long, Nat.zero_le, Nat.reduceAdd, Nat.reduceLeDiff, kl_int, kl_ref, kl_none, kl_null, kl_long]
/-- behind blanks -/
def bl (T : Nat → Int32) : Nat → Nat → Nat
  | 0, i => i
  | k + 1, i => if T i = 32 then bl T k (i + 1) else if T i = 10 then bl T k (i + 1) else i
theorem bl_le : ∀ (k i : Nat), bl T k i ≤ i + k := by
  intro k
  induction k with
  | zero => intro i; exact Nat.le_refl _
  | succ k ih =>
    intro i
    rw [bl]
    have := ih (i + 1)
    split
    · omega
    · split <;> omega
theorem k42_loop (hT : tpT S T) {x0 : Int32} : ∀ (k i : Nat), i + k = 1600 → Wp (d + 2) 42 2 [some (.ref 301), some (.int x0), some (.int (Int32.ofNat i))] [] (CH c S L R) Q = Q (.inl (some (.int (Int32.ofNat (bl T k i)))), CH c S L R) := by
  intro k
  induction k with
  | zero =>
    intro i hi
    have e : (1600 : Int32) ≤ Int32.ofNat i := (ofN_le (k := 1600) (by omega) (by omega)).mpr (by omega)
    rw [w42_2]
    simp only [↓w42_0, ↓w42_1, ↓w42_3, ↓w42_6, ↓w42_9, ↓w42_10, ↓w42_11, ↓w42_14, ↓w42_16, ↓w42_19, ↓w42_20, ↓w42_21, ↓w42_24, ↓w42_26, ↓w42_29, ↓w42_32, ↓w42_35, ↓w42_36, e, icond_lt, icond_le, icond_gt, icond_ge, icond_eq, icond_ne, narrow_bool, true_or, or_true, if_true, if_false, cK_inl, toL_some, toL_none, psum_nil, psum_int, psum_ref, psum_null, psum_long, Nat.zero_le, Nat.reduceAdd, Nat.reduceLeDiff, kl_int, kl_ref, kl_none, kl_null, kl_long, bl]
  | succ k ih =>
    intro i hi
    have e : ¬ (1600 : Int32) ≤ Int32.ofNat i := fun q => absurd ((ofN_le (k := 1600) (by omega) (by omega)).mp q) (by omega)
    have ht := hT i (by omega)
    rw [w42_2]
    by_cases h1 : T i = 32
    · simp +decide only [↓w42_0, ↓w42_1, ↓w42_3, ↓w42_6, ↓w42_9, ↓w42_10, ↓w42_11, ↓w42_14, ↓w42_16, ↓w42_19, ↓w42_20, ↓w42_21, ↓w42_24, ↓w42_26, ↓w42_29, ↓w42_32, ↓w42_35, ↓w42_36, ↓tape_r, k39, ht, e, h1, ofN_a1, icond_lt, icond_le, icond_gt, icond_ge, icond_eq, icond_ne, narrow_bool, true_or, or_true, if_true, if_false, cK_inl, toL_some, toL_none, psum_nil, psum_int, psum_ref, psum_null, psum_long, Nat.zero_le, Nat.reduceAdd, Nat.reduceLeDiff, kl_int, kl_ref, kl_none, kl_null, kl_long, bl, ne_eq, not_true, not_false_eq_true]
      exact ih (i + 1) (by omega)
    · by_cases h2 : T i = 10
      · simp +decide only [↓w42_0, ↓w42_1, ↓w42_3, ↓w42_6, ↓w42_9, ↓w42_10, ↓w42_11, ↓w42_14, ↓w42_16, ↓w42_19, ↓w42_20, ↓w42_21, ↓w42_24, ↓w42_26, ↓w42_29, ↓w42_32, ↓w42_35, ↓w42_36, ↓tape_r, k39, ht, e, h1, h2, ofN_a1, icond_lt, icond_le, icond_gt, icond_ge, icond_eq, icond_ne, narrow_bool, true_or, or_true, if_true, if_false, cK_inl, toL_some, toL_none, psum_nil, psum_int, psum_ref, psum_null, psum_long, Nat.zero_le, Nat.reduceAdd, Nat.reduceLeDiff, kl_int, kl_ref, kl_none, kl_null, kl_long, bl, ne_eq, not_true, not_false_eq_true]
        exact ih (i + 1) (by omega)
      · simp +decide only [↓w42_0, ↓w42_1, ↓w42_3, ↓w42_6, ↓w42_9, ↓w42_10, ↓w42_11, ↓w42_14, ↓w42_16, ↓w42_19, ↓w42_20, ↓w42_21, ↓w42_24, ↓w42_26, ↓w42_29, ↓w42_32, ↓w42_35, ↓w42_36, ↓tape_r, k39, ht, e, h1, h2, ofN_a1, icond_lt, icond_le, icond_gt, icond_ge, icond_eq, icond_ne, narrow_bool, true_or, or_true, if_true, if_false, cK_inl, toL_some, toL_none, psum_nil, psum_int, psum_ref, psum_null, psum_long, Nat.zero_le, Nat.reduceAdd, Nat.reduceLeDiff, kl_int, kl_ref, kl_none, kl_null, kl_long, bl, ne_eq, not_true, not_false_eq_true]
theorem k42 (hT : tpT S T) (hi : i ≤ 1600) : Cp (d + 3) 42 [.ref 301, .int (Int32.ofNat i)] (CH c S L R) Q = Q (.inl (some (.int (Int32.ofNat (bl T (1600 - i) i)))), CH c S L R) := by
  simp only [ce42, ↓w42_0, ↓w42_1, cK_inl, toL_some, toL_none, psum_nil, psum_int, psum_ref, psum_null, psum_long, Nat.zero_le, Nat.reduceAdd, Nat.reduceLeDiff, kl_int, kl_ref, kl_none, kl_null, kl_long]
  exact k42_loop hT (1600 - i) i (by omega)
/-- words and numbers -/
def il (x : Int32) : Int32 := if x < 97 ∨ 122 < x then 0 else 1
def idg (x : Int32) : Int32 := if x < 48 ∨ 57 < x then 0 else 1
theorem il_01 : il x = 0 ∨ il x = 1 := by unfold il; split <;> simp
theorem idg_01 : idg x = 0 ∨ idg x = 1 := by unfold idg; split <;> simp
def we (T : Nat → Int32) : Nat → Nat → Nat
  | 0, i => i
  | k + 1, i => if il (T i) = 0 then i else we T k (i + 1)
def wv (T : Nat → Int32) : Nat → Nat → Int64 → Int64
  | 0, _, z => z
  | k + 1, i, z => if il (T i) = 0 then z else wv T k (i + 1) (z * 27 + (T i).toInt64 - 97 + 1)
def de (T : Nat → Int32) : Nat → Nat → Nat
  | 0, i => i
  | k + 1, i => if idg (T i) = 0 then i else de T k (i + 1)
def dv (T : Nat → Int32) : Nat → Nat → Int64 → Int64
  | 0, _, z => z
  | k + 1, i, z => if idg (T i) = 0 then z else dv T k (i + 1) (z * 10 + (T i).toInt64 - 48)
theorem k44_loop (hT : tpT S T) {x2 x3 : Int32} : ∀ (k i : Nat) (z : Int64), i + k = 1600 → Wp (d + 2) 44 6 [some (.ref 318), some (.ref 301), some (.int x2), some (.int x3), some (.int (Int32.ofNat i)), some (.long z), none] [] (CH c S L R) Q = Wp (d + 2) 44 45 [some (.ref 318), some (.ref 301), some (.int x2), some (.int x3), some (.int (Int32.ofNat (we T k i))), some (.long (wv T k i z)), none] [] (CH c S L R) Q := by
  intro k
  induction k with
  | zero =>
    intro i z hi
    have e : (1600 : Int32) ≤ Int32.ofNat i := (ofN_le (k := 1600) (by omega) (by omega)).mpr (by omega)
    rw [w44_6]
    simp only [↓w44_0, ↓w44_1, ↓w44_3, ↓w44_4, ↓w44_8, ↓w44_11, ↓w44_14, ↓w44_15, ↓w44_17, ↓w44_20, ↓w44_23, ↓w44_26, ↓w44_28, ↓w44_29, ↓w44_31, ↓w44_34, ↓w44_37, ↓w44_39, ↓w44_42, ↓w44_46, ↓w44_47, ↓w44_49, ↓w44_50, ↓w44_51, ↓w44_53, ↓w44_56, ↓w44_58, ↓w44_61, ↓w44_62, ↓w44_64, ↓w44_67, ↓w44_68, ↓w44_70, ↓w44_73, ↓w44_75, e, icond_lt, icond_le, icond_gt, icond_ge, icond_eq, icond_ne, narrow_bool, true_or, or_true, if_true, if_false, cK_inl, toL_some, toL_none, psum_nil, psum_int, psum_ref, psum_null, psum_long, Nat.zero_le, Nat.reduceAdd, Nat.reduceLeDiff, kl_int, kl_ref, kl_none, kl_null, kl_long, we, wv]
  | succ k ih =>
    intro i z hi
    have e : ¬ (1600 : Int32) ≤ Int32.ofNat i := fun q => absurd ((ofN_le (k := 1600) (by omega) (by omega)).mp q) (by omega)
    have ht := hT i (by omega)
    rw [w44_6]
    by_cases h1 : T i < 97 ∨ 122 < T i
    · simp +decide only [↓w44_0, ↓w44_1, ↓w44_3, ↓w44_4, ↓w44_8, ↓w44_11, ↓w44_14, ↓w44_15, ↓w44_17, ↓w44_20, ↓w44_23, ↓w44_26, ↓w44_28, ↓w44_29, ↓w44_31, ↓w44_34, ↓w44_37, ↓w44_39, ↓w44_42, ↓w44_46, ↓w44_47, ↓w44_49, ↓w44_50, ↓w44_51, ↓w44_53, ↓w44_56, ↓w44_58, ↓w44_61, ↓w44_62, ↓w44_64, ↓w44_67, ↓w44_68, ↓w44_70, ↓w44_73, ↓w44_75, ↓tape_r, k39, c49, ht, e, h1, ofN_a1, icond_lt, icond_le, icond_gt, icond_ge, icond_eq, icond_ne, narrow_bool, true_or, or_true, if_true, if_false, cK_inl, toL_some, toL_none, psum_nil, psum_int, psum_ref, psum_null, psum_long, Nat.zero_le, Nat.reduceAdd, Nat.reduceLeDiff, kl_int, kl_ref, kl_none, kl_null, kl_long, we, wv, il, ne_eq, not_true, not_false_eq_true]
    · simp +decide only [↓w44_0, ↓w44_1, ↓w44_3, ↓w44_4, ↓w44_8, ↓w44_11, ↓w44_14, ↓w44_15, ↓w44_17, ↓w44_20, ↓w44_23, ↓w44_26, ↓w44_28, ↓w44_29, ↓w44_31, ↓w44_34, ↓w44_37, ↓w44_39, ↓w44_42, ↓w44_46, ↓w44_47, ↓w44_49, ↓w44_50, ↓w44_51, ↓w44_53, ↓w44_56, ↓w44_58, ↓w44_61, ↓w44_62, ↓w44_64, ↓w44_67, ↓w44_68, ↓w44_70, ↓w44_73, ↓w44_75, ↓tape_r, k39, k48, c49, ht, e, h1, ofN_a1, icond_lt, icond_le, icond_gt, icond_ge, icond_eq, icond_ne, narrow_bool, true_or, or_true, if_true, if_false, cK_inl, toL_some, toL_none, psum_nil, psum_int, psum_ref, psum_null, psum_long, Nat.zero_le, Nat.reduceAdd, Nat.reduceLeDiff, kl_int, kl_ref, kl_none, kl_null, kl_long, we, wv, il, ne_eq, not_true, not_false_eq_true]
      exact ih (i + 1) _ (by omega)
theorem k45_loop (hT : tpT S T) {x2 x3 : Int32} : ∀ (k i : Nat) (z : Int64), i + k = 1600 → Wp (d + 2) 45 6 [some (.ref 318), some (.ref 301), some (.int x2), some (.int x3), some (.int (Int32.ofNat i)), some (.long z), none] [] (CH c S L R) Q = Wp (d + 2) 45 52 [some (.ref 318), some (.ref 301), some (.int x2), some (.int x3), some (.int (Int32.ofNat (de T k i))), some (.long (dv T k i z)), none] [] (CH c S L R) Q := by
  intro k
  induction k with
  | zero =>
    intro i z hi
    have e : (1600 : Int32) ≤ Int32.ofNat i := (ofN_le (k := 1600) (by omega) (by omega)).mpr (by omega)
    rw [w45_6]
    simp only [↓w45_0, ↓w45_1, ↓w45_3, ↓w45_4, ↓w45_8, ↓w45_11, ↓w45_14, ↓w45_15, ↓w45_17, ↓w45_20, ↓w45_23, ↓w45_26, ↓w45_28, ↓w45_31, ↓w45_32, ↓w45_33, ↓w45_35, ↓w45_38, ↓w45_39, ↓w45_40, ↓w45_43, ↓w45_44, ↓w45_46, ↓w45_49, ↓w45_53, ↓w45_54, ↓w45_56, ↓w45_57, ↓w45_58, ↓w45_59, ↓w45_62, ↓w45_64, ↓w45_67, ↓w45_69, ↓w45_70, ↓w45_72, ↓w45_75, ↓w45_77, e, icond_lt, icond_le, icond_gt, icond_ge, icond_eq, icond_ne, narrow_bool, true_or, or_true, if_true, if_false, cK_inl, toL_some, toL_none, psum_nil, psum_int, psum_ref, psum_null, psum_long, Nat.zero_le, Nat.reduceAdd, Nat.reduceLeDiff, kl_int, kl_ref, kl_none, kl_null, kl_long, de, dv]
  | succ k ih =>
    intro i z hi
    have e : ¬ (1600 : Int32) ≤ Int32.ofNat i := fun q => absurd ((ofN_le (k := 1600) (by omega) (by omega)).mp q) (by omega)
    have ht := hT i (by omega)
    rw [w45_6]
    by_cases h1 : T i < 48 ∨ 57 < T i
    · simp +decide only [↓w45_0, ↓w45_1, ↓w45_3, ↓w45_4, ↓w45_8, ↓w45_11, ↓w45_14, ↓w45_15, ↓w45_17, ↓w45_20, ↓w45_23, ↓w45_26, ↓w45_28, ↓w45_31, ↓w45_32, ↓w45_33, ↓w45_35, ↓w45_38, ↓w45_39, ↓w45_40, ↓w45_43, ↓w45_44, ↓w45_46, ↓w45_49, ↓w45_53, ↓w45_54, ↓w45_56, ↓w45_57, ↓w45_58, ↓w45_59, ↓w45_62, ↓w45_64, ↓w45_67, ↓w45_69, ↓w45_70, ↓w45_72, ↓w45_75, ↓w45_77, ↓tape_r, k39, c50, ht, e, h1, ofN_a1, icond_lt, icond_le, icond_gt, icond_ge, icond_eq, icond_ne, narrow_bool, true_or, or_true, if_true, if_false, cK_inl, toL_some, toL_none, psum_nil, psum_int, psum_ref, psum_null, psum_long, Nat.zero_le, Nat.reduceAdd, Nat.reduceLeDiff, kl_int, kl_ref, kl_none, kl_null, kl_long, de, dv, idg, ne_eq, not_true, not_false_eq_true]
    · simp +decide only [↓w45_0, ↓w45_1, ↓w45_3, ↓w45_4, ↓w45_8, ↓w45_11, ↓w45_14, ↓w45_15, ↓w45_17, ↓w45_20, ↓w45_23, ↓w45_26, ↓w45_28, ↓w45_31, ↓w45_32, ↓w45_33, ↓w45_35, ↓w45_38, ↓w45_39, ↓w45_40, ↓w45_43, ↓w45_44, ↓w45_46, ↓w45_49, ↓w45_53, ↓w45_54, ↓w45_56, ↓w45_57, ↓w45_58, ↓w45_59, ↓w45_62, ↓w45_64, ↓w45_67, ↓w45_69, ↓w45_70, ↓w45_72, ↓w45_75, ↓w45_77, ↓tape_r, k39, c50, ht, e, h1, ofN_a1, icond_lt, icond_le, icond_gt, icond_ge, icond_eq, icond_ne, narrow_bool, true_or, or_true, if_true, if_false, cK_inl, toL_some, toL_none, psum_nil, psum_int, psum_ref, psum_null, psum_long, Nat.zero_le, Nat.reduceAdd, Nat.reduceLeDiff, kl_int, kl_ref, kl_none, kl_null, kl_long, de, dv, idg, ne_eq, not_true, not_false_eq_true]
      exact ih (i + 1) _ (by omega)
end SCAN
