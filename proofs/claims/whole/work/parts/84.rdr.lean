/-! THE CLASS'S READER: steps, mistakes, names, values, numbers, acts -/
section RDR
variable {c : Nat × Nat × Nat} {S : S3} {L : L3} {R : Nat → Option PC} {d i j k n b : Nat} {x y : Int32} {z : Int64} {Q : PO → Prop}
theorem tok_n1 {K : Int32 → Prop} : nP ((CH c S L R).2 319) K = K 401 := by rw [kinds_at]; rfl
theorem tok_n2 {K : Int32 → Prop} : nP ((CH c S L R).2 320) K = K 401 := by rw [starts_at]; rfl
theorem tok_n3 {K : Int32 → Prop} : nP ((CH c S L R).2 321) K = K 401 := by rw [vals_at]; rfl
theorem starts_al {K : Int32 → Prop} (h : k < 401) : aP false ((CH c S L R).2 320) (Int32.ofNat k) K = K (S 4 212 k) := by
  rw [starts_at]
  refine (if_pos ⟨rfl, inB_nat h (by omega)⟩).trans ?_
  rw [tN_nat (by omega)]
theorem vals_ll {K : Int64 → Prop} (h : k < 401) : lP ((CH c S L R).2 321) (Int32.ofNat k) K = K (L 4 1 k) := by
  rw [vals_at]
  refine (if_pos (inB_nat h (by omega))).trans ?_
  rw [tN_nat (by omega)]
/-- a step to token k -/
def stS (k : Nat) (S : S3) : S3 := su (su (su S 4 200 0 (Int32.ofNat k)) 4 201 0 (S 4 211 k)) 4 202 0 (S 4 212 k)
def stV (k : Nat) (L : L3) : L3 := sl L 4 0 0 (L 4 1 k)
theorem k36 (h : S 4 200 0 + 1 = Int32.ofNat k) (hk : k < 401) : Cp (d + 1) 36 [.ref 317] (CH c S L R) Q = Q (.inl none, CH c (stS k S) (stV k L) R) := by
  have h0 : ¬ Int32.ofNat k < 0 := ofN_nn (by omega)
  have h1 : ¬ (401 : Int32) ≤ Int32.ofNat k := fun q => absurd ((ofN_le (k := 401) (by omega) (by omega)).mp q) (by omega)
  have e1 : ∀ {x y : Int32}, su (su S 4 200 0 x) 4 201 0 y 4 212 k = S 4 212 k := fun {x y} => by rw [su_ne (by decide), su_ne (by decide)]
  have e2 : ∀ {x : Int32}, su S 4 200 0 x 4 211 k = S 4 211 k := fun {x} => by rw [su_ne (by decide)]
  have e3 : ∀ {x : Int32}, su S 4 200 0 x 4 200 0 = x := fun {x} => su_self
  have e4 : ∀ {x y : Int32}, su (su S 4 200 0 x) 4 201 0 y 4 200 0 = x := fun {x y} => by rw [su_ne (by decide), su_self]
  have e5 : ∀ {x y w : Int32}, su (su (su S 4 200 0 x) 4 201 0 y) 4 202 0 w 4 200 0 = x := fun {x y w} => by rw [su_ne (by decide), su_ne (by decide), su_self]
  simp only [ce36, ↓w36_0, ↓w36_1, ↓w36_1i, ↓w36_2, ↓w36_5, ↓w36_6, ↓w36_7, ↓w36_10, ↓w36_11, ↓w36_14, ↓w36_17, ↓w36_18, ↓w36_21, ↓w36_22, ↓w36_25, ↓w36_28, ↓w36_29, ↓w36_32, ↓w36_33, ↓w36_36, ↓w36_37, ↓w36_40, ↓w36_43, ↓w36_44, ↓w36_47, ↓w36_48, ↓w36_51, ↓w36_52, ↓w36_55, ↓w36_58, ↓w36_59, ↓w36_62, ↓w36_63, ↓w36_64, ↓w36_67, ↓w36_70, ↓w36_71, ↓w36_74, ↓w36_75, ↓w36_78, ↓w36_79, ↓w36_80, ↓w36_83, ↓w36_86, ↓w36_87, ↓w36_90, ↓w36_91, ↓w36_94, ↓w36_95, ↓w36_96, ↓w36_99, ↓w36_102, ↓w36_103, ↓w36_106, ↓w36_107, ↓w36_110, ↓rdr_g0, ↓rdr_g4, ↓rdr_p4, ↓rdr_p5, ↓rdr_p6, ↓rdr_p7, ↓toks_g0, ↓toks_g1, ↓toks_g2, ↓tok_n1, ↓tok_n2, ↓tok_n3, ↓kinds_al hk, ↓starts_al hk, ↓vals_ll hk, h, h0, h1, e1, e2, e3, e4, e5, icond_lt, icond_le, icond_gt, icond_ge, icond_eq, icond_ne, narrow_bool, true_or, or_true, if_true, if_false, cK_inl, toL_some, toL_none, psum_nil, psum_int, psum_ref, psum_null, psum_long, Nat.zero_le, Nat.reduceAdd, Nat.reduceLeDiff, kl_int, kl_ref, kl_none, kl_null, kl_long]
  rfl
theorem k35 (h : S 4 200 0 + 1 = Int32.ofNat k) (hk : k < 401) (hx : S 4 201 0 = x) : Cp (d + 2) 35 [.ref 317, .int x] (CH c S L R) Q = Q (.inl (some (.int 1)), CH c (stS k S) (stV k L) R) := by
  simp +decide only [ce35, ↓w35_0, ↓w35_1, ↓w35_4, ↓w35_5, ↓w35_8, ↓w35_9, ↓w35_10, ↓w35_11, ↓w35_14, ↓w35_15, ↓rdr_g5, ↓rdr_r, k36 h hk, hx, icond_lt, icond_le, icond_gt, icond_ge, icond_eq, icond_ne, narrow_bool, true_or, or_true, if_true, if_false, cK_inl, toL_some, toL_none, psum_nil, psum_int, psum_ref, psum_null, psum_long, Nat.zero_le, Nat.reduceAdd, Nat.reduceLeDiff, kl_int, kl_ref, kl_none, kl_null, kl_long]
theorem k35_no (hx : S 4 201 0 ≠ x) : Cp (d + 2) 35 [.ref 317, .int x] (CH c S L R) Q = Q (.inl (some (.int 0)), CH c S L R) := by
  simp +decide only [ce35, ↓w35_0, ↓w35_1, ↓w35_4, ↓w35_5, ↓w35_8, ↓w35_9, ↓w35_10, ↓w35_11, ↓w35_14, ↓w35_15, ↓rdr_g5, ↓rdr_r, hx, icond_lt, icond_le, icond_gt, icond_ge, icond_eq, icond_ne, narrow_bool, true_or, or_true, if_true, if_false, cK_inl, toL_some, toL_none, psum_nil, psum_int, psum_ref, psum_null, psum_long, Nat.zero_le, Nat.reduceAdd, Nat.reduceLeDiff, kl_int, kl_ref, kl_none, kl_null, kl_long]
/-- a mistake -/
def msS (x : Int32) (S : S3) : S3 := if S 4 203 0 = 0 then su (su S 4 203 0 x) 4 204 0 (S 4 202 0) else S
theorem k34 : Cp (d + 1) 34 [.ref 317, .int x] (CH c S L R) Q = Q (.inl none, CH c (msS x S) L R) := by
  have e : su S 4 203 0 x 4 202 0 = S 4 202 0 := by rw [su_ne (by decide)]
  by_cases h : S 4 203 0 = 0
  · simp +decide only [ce34, ↓w34_0, ↓w34_1, ↓w34_4, ↓w34_7, ↓w34_8, ↓w34_9, ↓w34_12, ↓w34_13, ↓w34_14, ↓w34_17, ↓w34_20, ↓rdr_g8, ↓rdr_g6, ↓rdr_p8, ↓rdr_p9, h, e, msS, icond_lt, icond_le, icond_gt, icond_ge, icond_eq, icond_ne, narrow_bool, true_or, or_true, if_true, if_false, cK_inl, toL_some, toL_none, psum_nil, psum_int, psum_ref, psum_null, psum_long, Nat.zero_le, Nat.reduceAdd, Nat.reduceLeDiff, kl_int, kl_ref, kl_none, kl_null, kl_long, ne_eq, not_true, not_false_eq_true]
  · simp +decide only [ce34, ↓w34_0, ↓w34_1, ↓w34_4, ↓w34_7, ↓w34_8, ↓w34_9, ↓w34_12, ↓w34_13, ↓w34_14, ↓w34_17, ↓w34_20, ↓rdr_g8, ↓rdr_g6, ↓rdr_p8, ↓rdr_p9, h, e, msS, icond_lt, icond_le, icond_gt, icond_ge, icond_eq, icond_ne, narrow_bool, true_or, or_true, if_true, if_false, cK_inl, toL_some, toL_none, psum_nil, psum_int, psum_ref, psum_null, psum_long, Nat.zero_le, Nat.reduceAdd, Nat.reduceLeDiff, kl_int, kl_ref, kl_none, kl_null, kl_long, ne_eq, not_true, not_false_eq_true]
/-- names -/
def ixL (f : Nat → Int64) (z : Int64) (cnt : Int32) : Nat → Nat → Int32
  | 0, _ => -1
  | k + 1, i => if cnt ≤ Int32.ofNat i then -1 else if f i = z then Int32.ofNat i else ixL f z cnt k (i + 1)
theorem k33_loop {a m : Nat} {f : Nat → Int64} (ha : (CH c S L R).2 a = some (.inl (1, m, .inr (.inl f)))) (hm : m < 100) {cnt : Int32} : ∀ (k i : Nat), i + k = m → Wp (d + 1) 33 2 [some (.ref 317), some (.ref a), some (.int cnt), some (.int (Int32.ofNat i))] [] (CH c S L R) Q = Q (.inl (some (.int (ixL f (L 4 0 0) cnt k i))), CH c S L R) := by
  have hn : ∀ {K : Int32 → Prop}, nP ((CH c S L R).2 a) K = K (Int32.ofNat m) := fun {K} => by rw [ha]; rfl
  intro k
  induction k with
  | zero =>
    intro i hi
    have e : Int32.ofNat m ≤ Int32.ofNat i := (ofN_le (by omega) (by omega)).mpr (by omega)
    rw [w33_2]
    by_cases h1 : cnt ≤ Int32.ofNat i
    · simp only [↓w33_0, ↓w33_1, ↓w33_3, ↓w33_4, ↓w33_7, ↓w33_8, ↓w33_9, ↓w33_10, ↓w33_13, ↓w33_14, ↓w33_15, ↓w33_16, ↓w33_17, ↓w33_20, ↓w33_21, ↓w33_24, ↓w33_25, ↓w33_26, ↓w33_29, ↓w33_32, ↓w33_33, ↓hn, h1, e, icond_lt, icond_le, icond_gt, icond_ge, icond_eq, icond_ne, narrow_bool, true_or, or_true, if_true, if_false, cK_inl, toL_some, toL_none, psum_nil, psum_int, psum_ref, psum_null, psum_long, Nat.zero_le, Nat.reduceAdd, Nat.reduceLeDiff, kl_int, kl_ref, kl_none, kl_null, kl_long, ixL]
    · simp only [↓w33_0, ↓w33_1, ↓w33_3, ↓w33_4, ↓w33_7, ↓w33_8, ↓w33_9, ↓w33_10, ↓w33_13, ↓w33_14, ↓w33_15, ↓w33_16, ↓w33_17, ↓w33_20, ↓w33_21, ↓w33_24, ↓w33_25, ↓w33_26, ↓w33_29, ↓w33_32, ↓w33_33, ↓hn, h1, e, icond_lt, icond_le, icond_gt, icond_ge, icond_eq, icond_ne, narrow_bool, true_or, or_true, if_true, if_false, cK_inl, toL_some, toL_none, psum_nil, psum_int, psum_ref, psum_null, psum_long, Nat.zero_le, Nat.reduceAdd, Nat.reduceLeDiff, kl_int, kl_ref, kl_none, kl_null, kl_long, ixL]
  | succ k ih =>
    intro i hi
    have e : ¬ Int32.ofNat m ≤ Int32.ofNat i := fun q => absurd ((ofN_le (by omega) (by omega)).mp q) (by omega)
    have hl : ∀ {K : Int64 → Prop}, lP ((CH c S L R).2 a) (Int32.ofNat i) K = K (f i) := fun {K} => by
      rw [ha]
      refine (if_pos (inB_nat (by omega) (by omega))).trans ?_
      rw [tN_nat (by omega)]
    rw [w33_2]
    by_cases h1 : cnt ≤ Int32.ofNat i
    · simp only [↓w33_0, ↓w33_1, ↓w33_3, ↓w33_4, ↓w33_7, ↓w33_8, ↓w33_9, ↓w33_10, ↓w33_13, ↓w33_14, ↓w33_15, ↓w33_16, ↓w33_17, ↓w33_20, ↓w33_21, ↓w33_24, ↓w33_25, ↓w33_26, ↓w33_29, ↓w33_32, ↓w33_33, ↓hn, h1, e, icond_lt, icond_le, icond_gt, icond_ge, icond_eq, icond_ne, narrow_bool, true_or, or_true, if_true, if_false, cK_inl, toL_some, toL_none, psum_nil, psum_int, psum_ref, psum_null, psum_long, Nat.zero_le, Nat.reduceAdd, Nat.reduceLeDiff, kl_int, kl_ref, kl_none, kl_null, kl_long, ixL]
    · by_cases h2 : f i = L 4 0 0
      · simp +decide only [↓w33_0, ↓w33_1, ↓w33_3, ↓w33_4, ↓w33_7, ↓w33_8, ↓w33_9, ↓w33_10, ↓w33_13, ↓w33_14, ↓w33_15, ↓w33_16, ↓w33_17, ↓w33_20, ↓w33_21, ↓w33_24, ↓w33_25, ↓w33_26, ↓w33_29, ↓w33_32, ↓w33_33, ↓hn, ↓hl, ↓rdr_g7, lgc_self, h1, h2, e, icond_lt, icond_le, icond_gt, icond_ge, icond_eq, icond_ne, narrow_bool, true_or, or_true, if_true, if_false, cK_inl, toL_some, toL_none, psum_nil, psum_int, psum_ref, psum_null, psum_long, Nat.zero_le, Nat.reduceAdd, Nat.reduceLeDiff, kl_int, kl_ref, kl_none, kl_null, kl_long, ixL, ne_eq, not_true, not_false_eq_true]
      · have h3 := lgc_ne h2
        simp +decide only [↓w33_0, ↓w33_1, ↓w33_3, ↓w33_4, ↓w33_7, ↓w33_8, ↓w33_9, ↓w33_10, ↓w33_13, ↓w33_14, ↓w33_15, ↓w33_16, ↓w33_17, ↓w33_20, ↓w33_21, ↓w33_24, ↓w33_25, ↓w33_26, ↓w33_29, ↓w33_32, ↓w33_33, ↓hn, ↓hl, ↓rdr_g7, h1, h2, h3, e, ofN_a1, icond_lt, icond_le, icond_gt, icond_ge, icond_eq, icond_ne, narrow_bool, true_or, or_true, if_true, if_false, cK_inl, toL_some, toL_none, psum_nil, psum_int, psum_ref, psum_null, psum_long, Nat.zero_le, Nat.reduceAdd, Nat.reduceLeDiff, kl_int, kl_ref, kl_none, kl_null, kl_long, ixL, ne_eq, not_true, not_false_eq_true]
        exact ih (i + 1) (by omega)
theorem k33_a {cnt : Int32} : Cp (d + 2) 33 [.ref 317, .ref 323, .int cnt] (CH c S L R) Q = Q (.inl (some (.int (ixL (L 4 3) (L 4 0 0) cnt 10 0))), CH c S L R) := by
  simp only [ce33, ↓w33_0, ↓w33_1, cK_inl, toL_some, toL_none, psum_nil, psum_int, psum_ref, psum_null, psum_long, Nat.zero_le, Nat.reduceAdd, Nat.reduceLeDiff, kl_int, kl_ref, kl_none, kl_null, kl_long]
  exact k33_loop lnam_at (by decide) 10 0 rfl
theorem k33_b {cnt : Int32} : Cp (d + 2) 33 [.ref 317, .ref 324, .int cnt] (CH c S L R) Q = Q (.inl (some (.int (ixL (L 4 4) (L 4 0 0) cnt 6 0))), CH c S L R) := by
  simp only [ce33, ↓w33_0, ↓w33_1, cK_inl, toL_some, toL_none, psum_nil, psum_int, psum_ref, psum_null, psum_long, Nat.zero_le, Nat.reduceAdd, Nat.reduceLeDiff, kl_int, kl_ref, kl_none, kl_null, kl_long]
  exact k33_loop rnam_at (by decide) 6 0 rfl
end RDR
