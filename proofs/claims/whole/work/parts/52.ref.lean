/-! THE REFERENCE'S STATE: lamps, frames, values -/
theorem su_id {S : S3} {g v i : Nat} : su S g v i (S g v i) = S := by
  funext g' v' i'
  rw [su_at]
  split
  · rename_i h
    rw [h.1, h.2.1, h.2.2]
  · rfl
theorem su_same {S : S3} {g v i : Nat} {x : Int32} (h : S g v i = x) : su S g v i x = S := by
  rw [← h, su_id]
theorem su_comm {S : S3} {g v i g' v' i' : Nat} {x y : Int32} (h : v ≠ v') : su (su S g v i x) g' v' i' y = su (su S g' v' i' y) g v i x := by
  funext a b k
  simp only [su_at]
  by_cases h1 : a = g' ∧ b = v' ∧ k = i'
  · rw [if_pos h1, if_neg (fun q => h (q.2.1.symm.trans h1.2.1)), if_pos h1]
  · rw [if_neg h1]
    by_cases h2 : a = g ∧ b = v ∧ k = i
    · rw [if_pos h2, if_pos h2]
    · rw [if_neg h2, if_neg h2, if_neg h1]
theorem su_su {S : S3} {g v i : Nat} {x y : Int32} : su (su S g v i x) g v i y = su S g v i y := by
  funext a b k
  simp only [su_at]
  split
  · rfl
  · rfl
section REFA
variable {c : Nat × Nat × Nat} {C : Nat → Option PC} {V P : S3} {W : L3} {R : Nat → Option PC} {g i l b d pl M : Nat} {x y : Int32} {z : Int64} {Q : PO → Prop}
def fnd (f : Nat → Int32) (x : Int32) : Nat → Nat → Option Nat
  | 0, _ => none
  | k + 1, i => if f i = x then some i else fnd f x k (i + 1)
theorem fnd_lt {f : Nat → Int32} : ∀ {k i m : Nat}, fnd f x k i = some m → i ≤ m ∧ m < i + k := by
  intro k
  induction k with
  | zero => intro i m h; cases h
  | succ k ih =>
    intro i m h
    simp only [fnd] at h
    split at h
    · cases h; omega
    · have := ih h; omega
def oI (m : Option Nat) : Int32 := match m with
  | none => -1
  | some i => Int32.ofNat i
theorem r119_loop (hp : Pok pl) (hM : P 0 100 0 = Int32.ofNat M) (hM10 : M ≤ 10) : ∀ (k i : Nat), i + k = M → Wp (d + 1) 119 2 [some (.ref pl), some (.int x), some (.int (Int32.ofNat i))] [] (RP c C V W pl P R) Q = Q (.inl (some (.int (oI (fnd (P 0 103) x k i)))), RP c C V W pl P R) := by
  intro k
  induction k with
  | zero =>
    intro i hi
    have e : Int32.ofNat M ≤ Int32.ofNat i := (ofN_le (by omega) (by omega)).mpr (by omega)
    rw [w119_2]
    simp only [↓w119_0, ↓w119_1, ↓w119_3, ↓w119_4, ↓w119_7, ↓w119_10, ↓w119_11, ↓w119_14, ↓w119_15, ↓w119_16, ↓w119_17, ↓w119_20, ↓w119_21, ↓w119_22, ↓w119_25, ↓w119_28, ↓w119_29, ↓pl_g0 hp, ↓pl_g1 hp, ↓pl_g2 hp, ↓pl_g3 hp, ↓pl_g4 hp, ↓pl_g5 hp, ↓pl_g6 hp, ↓pl_g7 hp, ↓pl_g8 hp, ↓pl_g9 hp, ↓pl_g10 hp, ↓pl_g11 hp, ↓pl_g12 hp, ↓pl_g13 hp, ↓pl_g14 hp, ↓pl_g15 hp, ↓pl_g16 hp, ↓pl_g17 hp, ↓pl_g18 hp, ↓pl_g19 hp, ↓pl_g20 hp, ↓pl_g21 hp, pl_r hp, hM, icond_lt, icond_le, icond_gt, icond_ge, icond_eq, icond_ne, narrow_bool, true_or, or_true, if_true, if_false, cK_inl, toL_some, toL_none, psum_nil, psum_int, psum_ref, psum_null, psum_long, Nat.zero_le, Nat.reduceAdd, Nat.reduceLeDiff, kl_int, kl_ref, kl_none, kl_null, kl_long, fnd, oI, e]
  | succ k ih =>
    intro i hi'
    have e : ¬ Int32.ofNat M ≤ Int32.ofNat i := fun q => absurd ((ofN_le (by omega) (by omega)).mp q) (by omega)
    have hi : i < 10 := by omega
    rw [w119_2]
    by_cases h2 : P 0 103 i = x
    · simp only [↓w119_0, ↓w119_1, ↓w119_3, ↓w119_4, ↓w119_7, ↓w119_10, ↓w119_11, ↓w119_14, ↓w119_15, ↓w119_16, ↓w119_17, ↓w119_20, ↓w119_21, ↓w119_22, ↓w119_25, ↓w119_28, ↓w119_29, ↓pl_g0 hp, ↓pl_g1 hp, ↓pl_g2 hp, ↓pl_g3 hp, ↓pl_g4 hp, ↓pl_g5 hp, ↓pl_g6 hp, ↓pl_g7 hp, ↓pl_g8 hp, ↓pl_g9 hp, ↓pl_g10 hp, ↓pl_g11 hp, ↓pl_g12 hp, ↓pl_g13 hp, ↓pl_g14 hp, ↓pl_g15 hp, ↓pl_g16 hp, ↓pl_g17 hp, ↓pl_g18 hp, ↓pl_g19 hp, ↓pl_g20 hp, ↓pl_g21 hp, pl_r hp, ↓pl_post_a hp hi, hM, icond_lt, icond_le, icond_gt, icond_ge, icond_eq, icond_ne, narrow_bool, true_or, or_true, if_true, if_false, cK_inl, toL_some, toL_none, psum_nil, psum_int, psum_ref, psum_null, psum_long, Nat.zero_le, Nat.reduceAdd, Nat.reduceLeDiff, kl_int, kl_ref, kl_none, kl_null, kl_long, fnd, oI, e, h2, ne_eq, not_true]
    · simp only [↓w119_0, ↓w119_1, ↓w119_3, ↓w119_4, ↓w119_7, ↓w119_10, ↓w119_11, ↓w119_14, ↓w119_15, ↓w119_16, ↓w119_17, ↓w119_20, ↓w119_21, ↓w119_22, ↓w119_25, ↓w119_28, ↓w119_29, ↓pl_g0 hp, ↓pl_g1 hp, ↓pl_g2 hp, ↓pl_g3 hp, ↓pl_g4 hp, ↓pl_g5 hp, ↓pl_g6 hp, ↓pl_g7 hp, ↓pl_g8 hp, ↓pl_g9 hp, ↓pl_g10 hp, ↓pl_g11 hp, ↓pl_g12 hp, ↓pl_g13 hp, ↓pl_g14 hp, ↓pl_g15 hp, ↓pl_g16 hp, ↓pl_g17 hp, ↓pl_g18 hp, ↓pl_g19 hp, ↓pl_g20 hp, ↓pl_g21 hp, pl_r hp, ↓pl_post_a hp hi, hM, icond_lt, icond_le, icond_gt, icond_ge, icond_eq, icond_ne, narrow_bool, true_or, or_true, if_true, if_false, cK_inl, toL_some, toL_none, psum_nil, psum_int, psum_ref, psum_null, psum_long, Nat.zero_le, Nat.reduceAdd, Nat.reduceLeDiff, kl_int, kl_ref, kl_none, kl_null, kl_long, fnd, e, h2, ne_eq, not_false_eq_true, ofN_a1]
      exact ih (i + 1) (by omega)
theorem r119 (hp : Pok pl) (hM : P 0 100 0 = Int32.ofNat M) (hM10 : M ≤ 10) : Cp (d + 2) 119 [.ref pl, .int x] (RP c C V W pl P R) Q = Q (.inl (some (.int (oI (fnd (P 0 103) x M 0)))), RP c C V W pl P R) := by
  simp only [ce119, ↓w119_0, ↓w119_1, cK_inl, toL_some, toL_none, psum_nil, psum_int, psum_ref, psum_null, psum_long, Nat.zero_le, Nat.reduceAdd, Nat.reduceLeDiff, kl_int, kl_ref, kl_none, kl_null, kl_long]
  exact r119_loop hp hM hM10 M 0 (by omega)
theorem r127 (hg : g < 2) : Cp (d + 1) 127 [.ref (SA g)] (RP c C V W pl P R) Q = Q (.inl (some (.int (moonI (V g 0 0)))), RP c C V W pl P R) := by
  have h0 : (30 : Int32) ≠ 0 := by decide
  simp only [ce127, ↓w127_0, ↓w127_1, ↓w127_4, ↓w127_7, ↓w127_8, ↓w127_9, ↓w127_11, ↓w127_14, ↓w127_15, ↓w127_18, ↓w127_20, ↓w127_21, ↓w127_22, ↓w127_6 h0, ↓s_g0 hg, ↓s_g1 hg, ↓s_g2 hg, ↓s_g3 hg, ↓s_g4 hg, ↓s_g5 hg, ↓s_g6 hg, ↓s_g7 hg, ↓s_g8 hg, ↓s_g9 hg, ↓s_g10 hg, ↓s_g11 hg, ↓s_g12 hg, ↓s_g13 hg, ↓s_g14 hg, ↓s_g15 hg, ↓s_g16 hg, ↓s_g17 hg, ↓s_g18 hg, ↓s_g19 hg, ↓s_g20 hg, ↓s_p0 hg, ↓s_p1 hg, ↓s_p3 hg, s_r hg, icond_lt, icond_le, icond_gt, icond_ge, icond_eq, icond_ne, narrow_bool, true_or, or_true, if_true, if_false, cK_inl, toL_some, toL_none, psum_nil, psum_int, psum_ref, psum_null, psum_long, Nat.zero_le, Nat.reduceAdd, Nat.reduceLeDiff, kl_int, kl_ref, kl_none, kl_null, kl_long, moonI]
  split <;> rfl
theorem r128 (hg : g < 2) : Cp (d + 2) 128 [.ref (SA g)] (RP c C V W pl P R) Q = Q (.inl (some (.int (restS V g))), RP c C V W pl P R) := by
  by_cases h1 : V g 3 0 = 0 <;> by_cases h2 : moonI (V g 0 0) < 11 <;> simp only [ce128, ↓w128_0, ↓w128_1, ↓w128_4, ↓w128_6, ↓w128_9, ↓w128_10, ↓w128_13, ↓w128_16, ↓w128_17, ↓w128_20, ↓w128_21, r127 hg, ↓s_g0 hg, ↓s_g1 hg, ↓s_g2 hg, ↓s_g3 hg, ↓s_g4 hg, ↓s_g5 hg, ↓s_g6 hg, ↓s_g7 hg, ↓s_g8 hg, ↓s_g9 hg, ↓s_g10 hg, ↓s_g11 hg, ↓s_g12 hg, ↓s_g13 hg, ↓s_g14 hg, ↓s_g15 hg, ↓s_g16 hg, ↓s_g17 hg, ↓s_g18 hg, ↓s_g19 hg, ↓s_g20 hg, ↓s_p0 hg, ↓s_p1 hg, ↓s_p3 hg, s_r hg, icond_lt, icond_le, icond_gt, icond_ge, icond_eq, icond_ne, narrow_bool, true_or, or_true, if_true, if_false, cK_inl, toL_some, toL_none, psum_nil, psum_int, psum_ref, psum_null, psum_long, Nat.zero_le, Nat.reduceAdd, Nat.reduceLeDiff, kl_int, kl_ref, kl_none, kl_null, kl_long, restS, h1, h2, ne_eq, not_true, not_false_eq_true]
theorem r125 (hg : g < 2) (hi : i < 10) : Cp (d + 1) 125 [.ref (SA g), .int (Int32.ofNat i)] (RP c C V W pl P R) Q = Q (.inl (some (.int (lv (V g 5 i) (V g 6 i)))), RP c C (lightS g i V) W pl P R) := by
  by_cases h1 : V g 5 i ≤ 0
  · simp only [ce125, ↓w125_0, ↓w125_1, ↓w125_4, ↓w125_5, ↓w125_6, ↓w125_9, ↓w125_10, ↓w125_11, ↓w125_14, ↓w125_15, ↓w125_18, ↓w125_19, ↓w125_20, ↓w125_23, ↓w125_24, ↓w125_27, ↓w125_28, ↓w125_29, ↓w125_30, ↓w125_33, ↓w125_34, ↓w125_35, ↓s_g0 hg, ↓s_g1 hg, ↓s_g2 hg, ↓s_g3 hg, ↓s_g4 hg, ↓s_g5 hg, ↓s_g6 hg, ↓s_g7 hg, ↓s_g8 hg, ↓s_g9 hg, ↓s_g10 hg, ↓s_g11 hg, ↓s_g12 hg, ↓s_g13 hg, ↓s_g14 hg, ↓s_g15 hg, ↓s_g16 hg, ↓s_g17 hg, ↓s_g18 hg, ↓s_g19 hg, ↓s_g20 hg, ↓s_p0 hg, ↓s_p1 hg, ↓s_p3 hg, s_r hg, ↓s_oil_a hg hi, ↓s_oil_s hg hi, ↓s_wick_a hg hi, ↓s_wick_s hg hi, ↓s_clock_a hg hi, ↓s_clock_s hg hi, ↓s_dark_a hg hi, ↓s_dark_s hg hi, ↓s_lit_a hg hi, ↓s_lit_s hg hi, icond_lt, icond_le, icond_gt, icond_ge, icond_eq, icond_ne, narrow_bool, true_or, or_true, if_true, if_false, cK_inl, toL_some, toL_none, psum_nil, psum_int, psum_ref, psum_null, psum_long, Nat.zero_le, Nat.reduceAdd, Nat.reduceLeDiff, kl_int, kl_ref, kl_none, kl_null, kl_long, su_at, sr_at, Nat.reduceEqDiff, Nat.add_eq_left, Nat.add_right_cancel_iff, and_false, false_and, and_true, true_and, and_self, if_true, if_false, ↓reduceIte, lightS, lv, h1]
  · by_cases h2 : V g 6 i ≤ 0 <;> simp only [ce125, ↓w125_0, ↓w125_1, ↓w125_4, ↓w125_5, ↓w125_6, ↓w125_9, ↓w125_10, ↓w125_11, ↓w125_14, ↓w125_15, ↓w125_18, ↓w125_19, ↓w125_20, ↓w125_23, ↓w125_24, ↓w125_27, ↓w125_28, ↓w125_29, ↓w125_30, ↓w125_33, ↓w125_34, ↓w125_35, ↓s_g0 hg, ↓s_g1 hg, ↓s_g2 hg, ↓s_g3 hg, ↓s_g4 hg, ↓s_g5 hg, ↓s_g6 hg, ↓s_g7 hg, ↓s_g8 hg, ↓s_g9 hg, ↓s_g10 hg, ↓s_g11 hg, ↓s_g12 hg, ↓s_g13 hg, ↓s_g14 hg, ↓s_g15 hg, ↓s_g16 hg, ↓s_g17 hg, ↓s_g18 hg, ↓s_g19 hg, ↓s_g20 hg, ↓s_p0 hg, ↓s_p1 hg, ↓s_p3 hg, s_r hg, ↓s_oil_a hg hi, ↓s_oil_s hg hi, ↓s_wick_a hg hi, ↓s_wick_s hg hi, ↓s_clock_a hg hi, ↓s_clock_s hg hi, ↓s_dark_a hg hi, ↓s_dark_s hg hi, ↓s_lit_a hg hi, ↓s_lit_s hg hi, icond_lt, icond_le, icond_gt, icond_ge, icond_eq, icond_ne, narrow_bool, true_or, or_true, if_true, if_false, cK_inl, toL_some, toL_none, psum_nil, psum_int, psum_ref, psum_null, psum_long, Nat.zero_le, Nat.reduceAdd, Nat.reduceLeDiff, kl_int, kl_ref, kl_none, kl_null, kl_long, su_at, sr_at, Nat.reduceEqDiff, Nat.add_eq_left, Nat.add_right_cancel_iff, and_false, false_and, and_true, true_and, and_self, if_true, if_false, ↓reduceIte, lightS, lv, h1, h2]
theorem I32_sub0 {x : Int32} : x - 0 = x := Int32.sub_zero x
theorem r126 (hg : g < 2) (hi : i < 10) (h9 : V g 9 i = 0 ∨ V g 9 i = 1) : Cp (d + 1) 126 [.ref (SA g), .int (Int32.ofNat i)] (RP c C V W pl P R) Q = Q (.inl (some (.int (if V g 9 i = 0 then 0 else burnR g i V))), RP c C (if V g 9 i = 0 then V else burnS g i V) W pl P R) := by
  have d2 : (2 : Int32) ≠ 0 := by decide
  have d4 : (4 : Int32) ≠ 0 := by decide
  rcases h9 with h9 | h9
  · simp only [ce126, ↓w126_0, ↓w126_1, ↓w126_4, ↓w126_5, ↓w126_6, ↓w126_9, ↓w126_10, ↓w126_11, ↓w126_12, ↓w126_15, ↓w126_16, ↓w126_17, ↓w126_18, ↓w126_19, ↓w126_20, ↓w126_21, ↓w126_22, ↓w126_25, ↓w126_26, ↓w126_27, ↓w126_29, ↓w126_32, ↓w126_33, ↓w126_36, ↓w126_37, ↓w126_38, ↓w126_39, ↓w126_42, ↓w126_43, ↓w126_44, ↓w126_45, ↓w126_46, ↓w126_47, ↓w126_48, ↓w126_49, ↓w126_52, ↓w126_53, ↓w126_54, ↓w126_55, ↓w126_56, ↓w126_59, ↓w126_60, ↓w126_61, ↓w126_63, ↓w126_66, ↓w126_67, ↓w126_70, ↓w126_71, ↓w126_72, ↓w126_73, ↓w126_74, ↓w126_77, ↓w126_78, ↓w126_79, ↓w126_82, ↓w126_83, ↓w126_84, ↓w126_87, ↓w126_88, ↓w126_91, ↓w126_92, ↓w126_93, ↓w126_96, ↓w126_97, ↓w126_100, ↓w126_101, ↓w126_102, ↓w126_103, ↓w126_28 d2, ↓w126_62 d4, ↓s_g0 hg, ↓s_g1 hg, ↓s_g2 hg, ↓s_g3 hg, ↓s_g4 hg, ↓s_g5 hg, ↓s_g6 hg, ↓s_g7 hg, ↓s_g8 hg, ↓s_g9 hg, ↓s_g10 hg, ↓s_g11 hg, ↓s_g12 hg, ↓s_g13 hg, ↓s_g14 hg, ↓s_g15 hg, ↓s_g16 hg, ↓s_g17 hg, ↓s_g18 hg, ↓s_g19 hg, ↓s_g20 hg, ↓s_p0 hg, ↓s_p1 hg, ↓s_p3 hg, s_r hg, ↓s_oil_a hg hi, ↓s_oil_s hg hi, ↓s_wick_a hg hi, ↓s_wick_s hg hi, ↓s_clock_a hg hi, ↓s_clock_s hg hi, ↓s_dark_a hg hi, ↓s_dark_s hg hi, ↓s_lit_a hg hi, ↓s_lit_s hg hi, icond_lt, icond_le, icond_gt, icond_ge, icond_eq, icond_ne, narrow_bool, true_or, or_true, if_true, if_false, cK_inl, toL_some, toL_none, psum_nil, psum_int, psum_ref, psum_null, psum_long, Nat.zero_le, Nat.reduceAdd, Nat.reduceLeDiff, kl_int, kl_ref, kl_none, kl_null, kl_long, su_at, sr_at, Nat.reduceEqDiff, Nat.add_eq_left, Nat.add_right_cancel_iff, and_false, false_and, and_true, true_and, and_self, if_true, if_false, ↓reduceIte, h9, ne_eq, not_true]
  · have n9 : ¬ V g 9 i = 0 := by rw [h9]; decide
    have key : ∀ S1 : S3, S1 g 9 i = 1 → su S1 g 9 i (lv (S1 g 5 i) (S1 g 6 i)) = burnC g i S1 := fun S1 h => by
      unfold burnC lv
      split
      · rfl
      · rename_i h1
        by_cases h2 : S1 g 6 i ≤ 0
        · rw [if_pos h2, if_neg (Int32.not_lt.mpr h2)]
        · rw [if_neg h2, if_pos (Int32.not_le.mp h2), ← h, su_id]
    have i5 : ∀ a, su (su V g 7 i a) g 5 i (V g 5 i) = su V g 7 i a := fun a => su_same (by simp only [su_at, sr_at, Nat.reduceEqDiff, Nat.add_eq_left, Nat.add_right_cancel_iff, and_false, false_and, and_true, true_and, and_self, if_true, if_false, ↓reduceIte])
    have i6 : ∀ a b, su (su (su V g 7 i a) g 5 i b) g 6 i (V g 6 i) = su (su V g 7 i a) g 5 i b := fun a b => su_same (by simp only [su_at, sr_at, Nat.reduceEqDiff, Nat.add_eq_left, Nat.add_right_cancel_iff, and_false, false_and, and_true, true_and, and_self, if_true, if_false, ↓reduceIte])
    have i7 : ∀ a, su (su V g 7 i a) g 6 i (V g 6 i) = su V g 7 i a := fun a => su_same (by simp only [su_at, sr_at, Nat.reduceEqDiff, Nat.add_eq_left, Nat.add_right_cancel_iff, and_false, false_and, and_true, true_and, and_self, if_true, if_false, ↓reduceIte])
    by_cases e2 : V g 7 i + 1 - (V g 7 i + 1) / 2 * 2 = 0 <;> by_cases e4 : V g 7 i + 1 - (V g 7 i + 1) / 4 * 4 = 0
    all_goals
      have k1 := key (burnB g i (burnA g i (su V g 7 i (V g 7 i + 1)))) (by
        have hA : ∀ S : S3, burnA g i S g 9 i = S g 9 i := fun S => by
          unfold burnA
          split
          · rw [su_at, if_neg (by omega)]
          · rfl
        have hB : ∀ S : S3, burnB g i S g 9 i = S g 9 i := fun S => by
          unfold burnB
          split
          · rw [su_at, if_neg (by omega)]
          · rfl
        rw [hB, hA, su_at, if_neg (by omega), h9])
      rw [if_neg n9, if_neg n9, burnS, ← k1]
      simp only [burnB, burnA, burnR, su_at, sr_at, Nat.reduceEqDiff, Nat.add_eq_left, Nat.add_right_cancel_iff, and_false, false_and, and_true, true_and, and_self, if_true, if_false, ↓reduceIte, e2, e4, lv]
      simp only [ce126, ↓w126_0, ↓w126_1, ↓w126_4, ↓w126_5, ↓w126_6, ↓w126_9, ↓w126_10, ↓w126_11, ↓w126_12, ↓w126_15, ↓w126_16, ↓w126_17, ↓w126_18, ↓w126_19, ↓w126_20, ↓w126_21, ↓w126_22, ↓w126_25, ↓w126_26, ↓w126_27, ↓w126_29, ↓w126_32, ↓w126_33, ↓w126_36, ↓w126_37, ↓w126_38, ↓w126_39, ↓w126_42, ↓w126_43, ↓w126_44, ↓w126_45, ↓w126_46, ↓w126_47, ↓w126_48, ↓w126_49, ↓w126_52, ↓w126_53, ↓w126_54, ↓w126_55, ↓w126_56, ↓w126_59, ↓w126_60, ↓w126_61, ↓w126_63, ↓w126_66, ↓w126_67, ↓w126_70, ↓w126_71, ↓w126_72, ↓w126_73, ↓w126_74, ↓w126_77, ↓w126_78, ↓w126_79, ↓w126_82, ↓w126_83, ↓w126_84, ↓w126_87, ↓w126_88, ↓w126_91, ↓w126_92, ↓w126_93, ↓w126_96, ↓w126_97, ↓w126_100, ↓w126_101, ↓w126_102, ↓w126_103, ↓w126_28 d2, ↓w126_62 d4, ↓s_g0 hg, ↓s_g1 hg, ↓s_g2 hg, ↓s_g3 hg, ↓s_g4 hg, ↓s_g5 hg, ↓s_g6 hg, ↓s_g7 hg, ↓s_g8 hg, ↓s_g9 hg, ↓s_g10 hg, ↓s_g11 hg, ↓s_g12 hg, ↓s_g13 hg, ↓s_g14 hg, ↓s_g15 hg, ↓s_g16 hg, ↓s_g17 hg, ↓s_g18 hg, ↓s_g19 hg, ↓s_g20 hg, ↓s_p0 hg, ↓s_p1 hg, ↓s_p3 hg, s_r hg, ↓s_oil_a hg hi, ↓s_oil_s hg hi, ↓s_wick_a hg hi, ↓s_wick_s hg hi, ↓s_clock_a hg hi, ↓s_clock_s hg hi, ↓s_dark_a hg hi, ↓s_dark_s hg hi, ↓s_lit_a hg hi, ↓s_lit_s hg hi, icond_lt, icond_le, icond_gt, icond_ge, icond_eq, icond_ne, narrow_bool, true_or, or_true, if_true, if_false, cK_inl, toL_some, toL_none, psum_nil, psum_int, psum_ref, psum_null, psum_long, Nat.zero_le, Nat.reduceAdd, Nat.reduceLeDiff, kl_int, kl_ref, kl_none, kl_null, kl_long, su_at, sr_at, Nat.reduceEqDiff, Nat.add_eq_left, Nat.add_right_cancel_iff, and_false, false_and, and_true, true_and, and_self, if_true, if_false, ↓reduceIte, n9, e2, e4, ne_eq, not_true, not_false_eq_true, I32_sub0, i5, i6, i7]
      split
      · rfl
      · split <;> rfl
theorem r129 (hg : g < 2) (hl : l < 3) : Cp (d + 1) 129 [.ref (SA g), .int (Int32.ofNat l)] (RP c C V W pl P R) Q = Q (.inl none, RP c C (giveS g l V) W pl P R) := by
  have e : giveS g l V = su (su (su V g 18 l 0) g 15 l (-1)) g 16 l 0 := by
    unfold giveS
    rw [su_comm (by decide), su_comm (v := 15) (by decide)]
  rw [e]
  simp only [ce129, ↓w129_0, ↓w129_1, ↓w129_4, ↓w129_5, ↓w129_6, ↓w129_7, ↓w129_8, ↓w129_11, ↓w129_12, ↓w129_13, ↓w129_14, ↓w129_15, ↓w129_18, ↓w129_19, ↓w129_20, ↓w129_21, ↓s_g0 hg, ↓s_g1 hg, ↓s_g2 hg, ↓s_g3 hg, ↓s_g4 hg, ↓s_g5 hg, ↓s_g6 hg, ↓s_g7 hg, ↓s_g8 hg, ↓s_g9 hg, ↓s_g10 hg, ↓s_g11 hg, ↓s_g12 hg, ↓s_g13 hg, ↓s_g14 hg, ↓s_g15 hg, ↓s_g16 hg, ↓s_g17 hg, ↓s_g18 hg, ↓s_g19 hg, ↓s_g20 hg, ↓s_p0 hg, ↓s_p1 hg, ↓s_p3 hg, s_r hg, ↓s_can_a hg hl, ↓s_can_s hg hl, ↓s_place_a hg hl, ↓s_place_s hg hl, ↓s_round_a hg hl, ↓s_round_s hg hl, ↓s_begun_a hg hl, ↓s_begun_s hg hl, ↓s_busy_a hg hl, ↓s_busy_s hg hl, ↓s_noted_a hg hl, ↓s_noted_s hg hl, ↓s_depth_a hg hl, ↓s_depth_s hg hl, icond_lt, icond_le, icond_gt, icond_ge, icond_eq, icond_ne, narrow_bool, true_or, or_true, if_true, if_false, cK_inl, toL_some, toL_none, psum_nil, psum_int, psum_ref, psum_null, psum_long, Nat.zero_le, Nat.reduceAdd, Nat.reduceLeDiff, kl_int, kl_ref, kl_none, kl_null, kl_long, su_at, sr_at, Nat.reduceEqDiff, Nat.add_eq_left, Nat.add_right_cancel_iff, and_false, false_and, and_true, true_and, and_self, if_true, if_false, ↓reduceIte]
/-- a block is entered -/
def enV (P : S3) (g l e o : Nat) (y : Int32) (V : S3) : S3 := if P 0 105 e = -1 then V else su (su (su (su V g 30 (48 * l + o) (Int32.ofNat e)) g 40 (48 * l + o) (P 0 105 e)) g 50 (48 * l + o) y) g 18 l (Int32.ofNat (o + 1))
theorem ofN_mul {a b : Nat} : Int32.ofNat a * Int32.ofNat b = Int32.ofNat (a * b) := (Int32.ofNat_mul a b).symm
theorem ofN_add {a b : Nat} : Int32.ofNat a + Int32.ofNat b = Int32.ofNat (a + b) := (Int32.ofNat_add a b).symm
theorem ofN_48 {l : Nat} : (48 : Int32) * Int32.ofNat l = Int32.ofNat (48 * l) := (Int32.ofNat_mul 48 l).symm
theorem ofN_20 {l : Nat} : (20 : Int32) * Int32.ofNat l = Int32.ofNat (20 * l) := (Int32.ofNat_mul 20 l).symm
theorem r130 (hg : g < 2) (hl : l < 3) (hp : Pok pl) (hP : (V 4 206 0).toNatClampNeg = pl) {e o : Nat} (he : e < 400) (ho : o < 48) (hd : V g 18 l = Int32.ofNat o) : Cp (d + 1) 130 [.ref (SA g), .int (Int32.ofNat l), .int (Int32.ofNat e), .int y] (RP c C V W pl P R) Q = Q (.inl none, RP c C (enV P g l e o y V) W pl P R) := by
  have hk : 48 * l + o < 144 := by omega
  by_cases h1 : P 0 105 e = -1
  · simp only [ce130, ↓w130_0, ↓w130_1, ↓w130_4, ↓w130_7, ↓w130_10, ↓w130_11, ↓w130_12, ↓w130_13, ↓w130_16, ↓w130_17, ↓w130_19, ↓w130_20, ↓w130_21, ↓w130_22, ↓w130_25, ↓w130_26, ↓w130_27, ↓w130_28, ↓w130_30, ↓w130_31, ↓w130_34, ↓w130_36, ↓w130_37, ↓w130_38, ↓w130_39, ↓w130_42, ↓w130_44, ↓w130_45, ↓w130_48, ↓w130_51, ↓w130_54, ↓w130_55, ↓w130_56, ↓w130_57, ↓w130_58, ↓w130_61, ↓w130_63, ↓w130_64, ↓w130_65, ↓w130_66, ↓w130_69, ↓w130_70, ↓w130_71, ↓w130_72, ↓w130_73, ↓w130_74, ↓w130_75, ↓s_g0 hg, ↓s_g1 hg, ↓s_g2 hg, ↓s_g3 hg, ↓s_g4 hg, ↓s_g5 hg, ↓s_g6 hg, ↓s_g7 hg, ↓s_g8 hg, ↓s_g9 hg, ↓s_g10 hg, ↓s_g11 hg, ↓s_g12 hg, ↓s_g13 hg, ↓s_g14 hg, ↓s_g15 hg, ↓s_g16 hg, ↓s_g17 hg, ↓s_g18 hg, ↓s_g19 hg, ↓s_g20 hg, ↓s_p0 hg, ↓s_p1 hg, ↓s_p3 hg, s_r hg, ↓m0_g0, ↓m0_g1, ↓m0_g2, ↓m0_g3, ↓m0_g4, ↓m0_g5, ↓m0_g6, ↓m0_g7, ↓m0_g8, ↓m0_g9, ↓m0_g10, ↓m0_g11, ↓m0_g12, ↓m0_g13, ↓m0_g14, ↓m0_g15, ↓m0_p0, ↓m0_p2, ↓m0_p3, ↓m0_p8, ↓m0_p9, ↓m0_p12, m0_r, hP, ↓pl_g0 hp, ↓pl_g1 hp, ↓pl_g2 hp, ↓pl_g3 hp, ↓pl_g4 hp, ↓pl_g5 hp, ↓pl_g6 hp, ↓pl_g7 hp, ↓pl_g8 hp, ↓pl_g9 hp, ↓pl_g10 hp, ↓pl_g11 hp, ↓pl_g12 hp, ↓pl_g13 hp, ↓pl_g14 hp, ↓pl_g15 hp, ↓pl_g16 hp, ↓pl_g17 hp, ↓pl_g18 hp, ↓pl_g19 hp, ↓pl_g20 hp, ↓pl_g21 hp, pl_r hp, ↓pl_first_a hp he, icond_lt, icond_le, icond_gt, icond_ge, icond_eq, icond_ne, narrow_bool, true_or, or_true, if_true, if_false, cK_inl, toL_some, toL_none, psum_nil, psum_int, psum_ref, psum_null, psum_long, Nat.zero_le, Nat.reduceAdd, Nat.reduceLeDiff, kl_int, kl_ref, kl_none, kl_null, kl_long, su_at, sr_at, Nat.reduceEqDiff, Nat.add_eq_left, Nat.add_right_cancel_iff, and_false, false_and, and_true, true_and, and_self, if_true, if_false, ↓reduceIte, enV, h1, ne_eq, not_true]
  · simp only [ce130, ↓w130_0, ↓w130_1, ↓w130_4, ↓w130_7, ↓w130_10, ↓w130_11, ↓w130_12, ↓w130_13, ↓w130_16, ↓w130_17, ↓w130_19, ↓w130_20, ↓w130_21, ↓w130_22, ↓w130_25, ↓w130_26, ↓w130_27, ↓w130_28, ↓w130_31, ↓w130_34, ↓w130_36, ↓w130_37, ↓w130_38, ↓w130_39, ↓w130_42, ↓w130_44, ↓w130_45, ↓w130_48, ↓w130_51, ↓w130_54, ↓w130_55, ↓w130_56, ↓w130_57, ↓w130_58, ↓w130_61, ↓w130_63, ↓w130_64, ↓w130_65, ↓w130_66, ↓w130_69, ↓w130_70, ↓w130_71, ↓w130_72, ↓w130_73, ↓w130_74, ↓w130_75, ↓s_g0 hg, ↓s_g1 hg, ↓s_g2 hg, ↓s_g3 hg, ↓s_g4 hg, ↓s_g5 hg, ↓s_g6 hg, ↓s_g7 hg, ↓s_g8 hg, ↓s_g9 hg, ↓s_g10 hg, ↓s_g11 hg, ↓s_g12 hg, ↓s_g13 hg, ↓s_g14 hg, ↓s_g15 hg, ↓s_g16 hg, ↓s_g17 hg, ↓s_g18 hg, ↓s_g19 hg, ↓s_g20 hg, ↓s_p0 hg, ↓s_p1 hg, ↓s_p3 hg, s_r hg, ↓s_can_a hg hl, ↓s_can_s hg hl, ↓s_place_a hg hl, ↓s_place_s hg hl, ↓s_round_a hg hl, ↓s_round_s hg hl, ↓s_begun_a hg hl, ↓s_begun_s hg hl, ↓s_busy_a hg hl, ↓s_busy_s hg hl, ↓s_noted_a hg hl, ↓s_noted_s hg hl, ↓s_depth_a hg hl, ↓s_depth_s hg hl, ↓m0_g0, ↓m0_g1, ↓m0_g2, ↓m0_g3, ↓m0_g4, ↓m0_g5, ↓m0_g6, ↓m0_g7, ↓m0_g8, ↓m0_g9, ↓m0_g10, ↓m0_g11, ↓m0_g12, ↓m0_g13, ↓m0_g14, ↓m0_g15, ↓m0_p0, ↓m0_p2, ↓m0_p3, ↓m0_p8, ↓m0_p9, ↓m0_p12, m0_r, hP, ↓pl_g0 hp, ↓pl_g1 hp, ↓pl_g2 hp, ↓pl_g3 hp, ↓pl_g4 hp, ↓pl_g5 hp, ↓pl_g6 hp, ↓pl_g7 hp, ↓pl_g8 hp, ↓pl_g9 hp, ↓pl_g10 hp, ↓pl_g11 hp, ↓pl_g12 hp, ↓pl_g13 hp, ↓pl_g14 hp, ↓pl_g15 hp, ↓pl_g16 hp, ↓pl_g17 hp, ↓pl_g18 hp, ↓pl_g19 hp, ↓pl_g20 hp, ↓pl_g21 hp, pl_r hp, ↓pl_first_a hp he, hd, ofN_48, ofN_add, icond_lt, icond_le, icond_gt, icond_ge, icond_eq, icond_ne, narrow_bool, true_or, or_true, if_true, if_false, cK_inl, toL_some, toL_none, psum_nil, psum_int, psum_ref, psum_null, psum_long, Nat.zero_le, Nat.reduceAdd, Nat.reduceLeDiff, kl_int, kl_ref, kl_none, kl_null, kl_long, su_at, sr_at, Nat.reduceEqDiff, Nat.add_eq_left, Nat.add_right_cancel_iff, and_false, false_and, and_true, true_and, and_self, if_true, if_false, ↓reduceIte, h1]
    simp only [↓w130_0, ↓w130_1, ↓w130_4, ↓w130_7, ↓w130_10, ↓w130_11, ↓w130_12, ↓w130_13, ↓w130_16, ↓w130_17, ↓w130_19, ↓w130_20, ↓w130_21, ↓w130_22, ↓w130_25, ↓w130_26, ↓w130_27, ↓w130_28, ↓w130_30, ↓w130_31, ↓w130_34, ↓w130_36, ↓w130_37, ↓w130_38, ↓w130_39, ↓w130_42, ↓w130_44, ↓w130_45, ↓w130_48, ↓w130_51, ↓w130_54, ↓w130_55, ↓w130_56, ↓w130_57, ↓w130_58, ↓w130_61, ↓w130_63, ↓w130_64, ↓w130_65, ↓w130_66, ↓w130_69, ↓w130_70, ↓w130_71, ↓w130_72, ↓w130_73, ↓w130_74, ↓w130_75, ↓s_g0 hg, ↓s_g1 hg, ↓s_g2 hg, ↓s_g3 hg, ↓s_g4 hg, ↓s_g5 hg, ↓s_g6 hg, ↓s_g7 hg, ↓s_g8 hg, ↓s_g9 hg, ↓s_g10 hg, ↓s_g11 hg, ↓s_g12 hg, ↓s_g13 hg, ↓s_g14 hg, ↓s_g15 hg, ↓s_g16 hg, ↓s_g17 hg, ↓s_g18 hg, ↓s_g19 hg, ↓s_g20 hg, ↓s_p0 hg, ↓s_p1 hg, ↓s_p3 hg, s_r hg, ↓s_can_a hg hl, ↓s_can_s hg hl, ↓s_place_a hg hl, ↓s_place_s hg hl, ↓s_round_a hg hl, ↓s_round_s hg hl, ↓s_begun_a hg hl, ↓s_begun_s hg hl, ↓s_busy_a hg hl, ↓s_busy_s hg hl, ↓s_noted_a hg hl, ↓s_noted_s hg hl, ↓s_depth_a hg hl, ↓s_depth_s hg hl, ↓m0_g0, ↓m0_g1, ↓m0_g2, ↓m0_g3, ↓m0_g4, ↓m0_g5, ↓m0_g6, ↓m0_g7, ↓m0_g8, ↓m0_g9, ↓m0_g10, ↓m0_g11, ↓m0_g12, ↓m0_g13, ↓m0_g14, ↓m0_g15, ↓m0_p0, ↓m0_p2, ↓m0_p3, ↓m0_p8, ↓m0_p9, ↓m0_p12, m0_r, hP, ↓pl_g0 hp, ↓pl_g1 hp, ↓pl_g2 hp, ↓pl_g3 hp, ↓pl_g4 hp, ↓pl_g5 hp, ↓pl_g6 hp, ↓pl_g7 hp, ↓pl_g8 hp, ↓pl_g9 hp, ↓pl_g10 hp, ↓pl_g11 hp, ↓pl_g12 hp, ↓pl_g13 hp, ↓pl_g14 hp, ↓pl_g15 hp, ↓pl_g16 hp, ↓pl_g17 hp, ↓pl_g18 hp, ↓pl_g19 hp, ↓pl_g20 hp, ↓pl_g21 hp, pl_r hp, ↓pl_first_a hp he, ↓s_ent_s hg hk, ↓s_comes_s hg hk, ↓s_times_s hg hk, hd, ofN_48, ofN_add, ofN_a1, icond_lt, icond_le, icond_gt, icond_ge, icond_eq, icond_ne, narrow_bool, true_or, or_true, if_true, if_false, cK_inl, toL_some, toL_none, psum_nil, psum_int, psum_ref, psum_null, psum_long, Nat.zero_le, Nat.reduceAdd, Nat.reduceLeDiff, kl_int, kl_ref, kl_none, kl_null, kl_long, su_at, sr_at, Nat.reduceEqDiff, Nat.add_eq_left, Nat.add_right_cancel_iff, and_false, false_and, and_true, true_and, and_self, if_true, if_false, ↓reduceIte, enV, h1, ne_eq, not_false_eq_true]
end REFA
