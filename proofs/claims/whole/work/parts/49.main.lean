/-! THE CLASS'S OWN METHODS: time, what would be, sums -/
section CLASSJ
variable {c : Nat × Nat × Nat} {S : S3} {L : L3} {R : Nat → Option PC} {g g' i l b d : Nat} {x y M : Int32} {z : Int64} {Q : PO → Prop}
theorem k55x (hg : g < 2) (hb : b < 2) (h0 : ¬ x < 0) (h : okG g b S) : Cp (d + 9) 55 [.ref (TA g), .int x] (CH c S L R) Q = Q (.inl (some (.int (psS g b x.toNatClampNeg 0 S).1)), CH c (psS g b x.toNatClampNeg 0 S).2 L R) := by
  have e := k55 (c := c) (L := L) (R := R) (d := d) (Q := Q) hg hb (tN_lt (x := x)) h
  rw [← nnI h0] at e
  exact e
theorem k80 (hb : b < 2) (hk : okG 0 b S) : Cp (d + 10) 80 [.ref 300, .int x] (CH c S L R) Q = if x < 1 then Q (.inr IAE, CH (thr c) S L R) else if 40 < x then Q (.inr IAE, CH (thr c) S L R)
    else Q (.inl (some (.int (psS 0 b x.toNatClampNeg 0 S).1)), CH c (psS 0 b x.toNatClampNeg 0 S).2 L R) := by
  have hg : 0 < 2 := by decide
  by_cases h2 : x < 1
  · simp only [ce80, ↓w80_0, ↓w80_1, ↓w80_2, ↓w80_5, ↓w80_6, ↓w80_8, ↓w80_11, ↓w80_14, ↓w80_14i, ↓w80_15, ↓w80_21, ↓w80_22, ↓w80_25, ↓w80_26, ↓w80_29, ↓x0_g0, ↓x0_g1, ↓x0_g2, ↓x0_g3, ↓x0_g4, ↓x0_g5, ↓x0_p5, x0_r, cK_inr, CH_thr, icond_lt, icond_le, icond_gt, icond_ge, icond_eq, icond_ne, narrow_bool, true_or, or_true, if_true, if_false, cK_inl, toL_some, toL_none, psum_nil, psum_int, psum_ref, psum_null, psum_long, Nat.zero_le, Nat.reduceAdd, Nat.reduceLeDiff, kl_int, kl_ref, kl_none, kl_null, kl_long, h2]
    rfl
  by_cases h3 : 40 < x
  · have h4 := Int32.not_le.mpr h3
    simp only [ce80, ↓w80_0, ↓w80_1, ↓w80_2, ↓w80_5, ↓w80_6, ↓w80_8, ↓w80_11, ↓w80_14, ↓w80_14i, ↓w80_15, ↓w80_21, ↓w80_22, ↓w80_25, ↓w80_26, ↓w80_29, ↓x0_g0, ↓x0_g1, ↓x0_g2, ↓x0_g3, ↓x0_g4, ↓x0_g5, ↓x0_p5, x0_r, cK_inr, CH_thr, icond_lt, icond_le, icond_gt, icond_ge, icond_eq, icond_ne, narrow_bool, true_or, or_true, if_true, if_false, cK_inl, toL_some, toL_none, psum_nil, psum_int, psum_ref, psum_null, psum_long, Nat.zero_le, Nat.reduceAdd, Nat.reduceLeDiff, kl_int, kl_ref, kl_none, kl_null, kl_long, h2, h3, h4]
    rfl
  have h4 := Int32.not_lt.mp h3
  have h0 : ¬ x < 0 := fun q => h2 (Int32.lt_trans q (by decide))
  have e : ∀ Q : PO → Prop, _ := fun Q => k55x (c := c) (L := L) (R := R) (d := d) (Q := Q) hg hb h0 hk
  simp only [ce80, ↓w80_0, ↓w80_1, ↓w80_2, ↓w80_5, ↓w80_6, ↓w80_8, ↓w80_11, ↓w80_14, ↓w80_14i, ↓w80_15, ↓w80_21, ↓w80_22, ↓w80_25, ↓w80_26, ↓w80_29, ↓x0_g0, ↓x0_g1, ↓x0_g2, ↓x0_g3, ↓x0_g4, ↓x0_g5, ↓x0_p5, x0_r, cK_inr, CH_thr, ↓town_g0 hg, ↓town_g1 hg, ↓town_g2 hg, ↓town_g3 hg, ↓town_g4 hg, ↓town_g5 hg, ↓town_g6 hg, ↓town_g7 hg, ↓town_p3 hg, ↓town_p4 hg, ↓town_p5 hg, ↓town_p6 hg, ↓town_p7 hg, ↓town_r hg, ↓lmps_n hg, ↓lgts_n hg, e, icond_lt, icond_le, icond_gt, icond_ge, icond_eq, icond_ne, narrow_bool, true_or, or_true, if_true, if_false, cK_inl, toL_some, toL_none, psum_nil, psum_int, psum_ref, psum_null, psum_long, Nat.zero_le, Nat.reduceAdd, Nat.reduceLeDiff, kl_int, kl_ref, kl_none, kl_null, kl_long, h2, h3, h4]
theorem k81 (hb : b < 2) (hk : okG 0 b S) : Cp (d + 10) 81 [.ref 300, .int x] (CH c S L R) Q = if x < 1 then Q (.inr IAE, CH (thr c) S L R) else if 5 < x then Q (.inr IAE, CH (thr c) S L R)
    else Q (.inl (some (.int (psS 0 b (x * 40).toNatClampNeg 0 S).1)), CH c (psS 0 b (x * 40).toNatClampNeg 0 S).2 L R) := by
  have hg : 0 < 2 := by decide
  by_cases h2 : x < 1
  · simp only [ce81, ↓w81_0, ↓w81_1, ↓w81_2, ↓w81_5, ↓w81_6, ↓w81_7, ↓w81_10, ↓w81_13, ↓w81_13i, ↓w81_14, ↓w81_20, ↓w81_21, ↓w81_24, ↓w81_25, ↓w81_27, ↓w81_28, ↓w81_31, ↓x0_g0, ↓x0_g1, ↓x0_g2, ↓x0_g3, ↓x0_g4, ↓x0_g5, ↓x0_p5, x0_r, cK_inr, CH_thr, icond_lt, icond_le, icond_gt, icond_ge, icond_eq, icond_ne, narrow_bool, true_or, or_true, if_true, if_false, cK_inl, toL_some, toL_none, psum_nil, psum_int, psum_ref, psum_null, psum_long, Nat.zero_le, Nat.reduceAdd, Nat.reduceLeDiff, kl_int, kl_ref, kl_none, kl_null, kl_long, h2]
    rfl
  by_cases h3 : 5 < x
  · have h4 := Int32.not_le.mpr h3
    simp only [ce81, ↓w81_0, ↓w81_1, ↓w81_2, ↓w81_5, ↓w81_6, ↓w81_7, ↓w81_10, ↓w81_13, ↓w81_13i, ↓w81_14, ↓w81_20, ↓w81_21, ↓w81_24, ↓w81_25, ↓w81_27, ↓w81_28, ↓w81_31, ↓x0_g0, ↓x0_g1, ↓x0_g2, ↓x0_g3, ↓x0_g4, ↓x0_g5, ↓x0_p5, x0_r, cK_inr, CH_thr, icond_lt, icond_le, icond_gt, icond_ge, icond_eq, icond_ne, narrow_bool, true_or, or_true, if_true, if_false, cK_inl, toL_some, toL_none, psum_nil, psum_int, psum_ref, psum_null, psum_long, Nat.zero_le, Nat.reduceAdd, Nat.reduceLeDiff, kl_int, kl_ref, kl_none, kl_null, kl_long, h2, h3, h4]
    rfl
  have h4 := Int32.not_lt.mp h3
  have h0 : ¬ x * 40 < 0 := by
    have a1 : 1 ≤ x := Int32.not_lt.mp h2
    grind
  have e : ∀ Q : PO → Prop, _ := fun Q => k55x (c := c) (L := L) (R := R) (d := d) (Q := Q) hg hb h0 hk
  simp only [ce81, ↓w81_0, ↓w81_1, ↓w81_2, ↓w81_5, ↓w81_6, ↓w81_7, ↓w81_10, ↓w81_13, ↓w81_13i, ↓w81_14, ↓w81_20, ↓w81_21, ↓w81_24, ↓w81_25, ↓w81_27, ↓w81_28, ↓w81_31, ↓x0_g0, ↓x0_g1, ↓x0_g2, ↓x0_g3, ↓x0_g4, ↓x0_g5, ↓x0_p5, x0_r, cK_inr, CH_thr, ↓town_g0 hg, ↓town_g1 hg, ↓town_g2 hg, ↓town_g3 hg, ↓town_g4 hg, ↓town_g5 hg, ↓town_g6 hg, ↓town_g7 hg, ↓town_p3 hg, ↓town_p4 hg, ↓town_p5 hg, ↓town_p6 hg, ↓town_p7 hg, ↓town_r hg, ↓lmps_n hg, ↓lgts_n hg, e, icond_lt, icond_le, icond_gt, icond_ge, icond_eq, icond_ne, narrow_bool, true_or, or_true, if_true, if_false, cK_inl, toL_some, toL_none, psum_nil, psum_int, psum_ref, psum_null, psum_long, Nat.zero_le, Nat.reduceAdd, Nat.reduceLeDiff, kl_int, kl_ref, kl_none, kl_null, kl_long, h2, h3, h4]
/-- lamps that are lit -/
def ltS (S : S3) (M : Int32) : Nat → Nat → Int32 → Int32
  | 0, _, a => a
  | k + 1, i, a => if M ≤ Int32.ofNat i then a else ltS S M k (i + 1) (if S 0 9 i = 0 then a else a + 1)
theorem k91_loop (hb : b < 2) (hB : (S 0 60 0).toNatClampNeg = BA b) (hM : S (2 + b) 100 0 = M) : ∀ (k i : Nat) (a : Int32), i + k = 10 → Wp (d + 1) 91 4 [some (.ref 300), some (.int a), some (.int (Int32.ofNat i))] [] (CH c S L R) Q = Q (.inl (some (.int (ltS S M k i a))), CH c S L R) := by
  have hg : 0 < 2 := by decide
  intro k
  induction k with
  | zero =>
    intro i a hi
    have e : (10 : Int32) ≤ Int32.ofNat i := (ofN_le (k := 10) (by omega) (by omega)).mpr (by omega)
    rw [w91_4]
    simp only [↓w91_0, ↓w91_1, ↓w91_2, ↓w91_3, ↓w91_5, ↓w91_6, ↓w91_9, ↓w91_12, ↓w91_15, ↓w91_18, ↓w91_19, ↓w91_20, ↓w91_23, ↓w91_26, ↓w91_27, ↓w91_30, ↓w91_31, ↓w91_34, ↓w91_37, ↓w91_38, ↓w91_39, ↓w91_42, ↓w91_45, ↓w91_48, ↓w91_51, ↓w91_54, ↓w91_55, ↓x0_g0, ↓x0_g1, ↓x0_g2, ↓x0_g3, ↓x0_g4, ↓x0_g5, ↓x0_p5, x0_r, cK_inr, CH_thr, ↓town_g0 hg, ↓town_g1 hg, ↓town_g2 hg, ↓town_g3 hg, ↓town_g4 hg, ↓town_g5 hg, ↓town_g6 hg, ↓town_g7 hg, ↓town_p3 hg, ↓town_p4 hg, ↓town_p5 hg, ↓town_p6 hg, ↓town_p7 hg, ↓town_r hg, ↓lmps_n hg, ↓lgts_n hg, hB, ↓book_g0 hb, ↓book_g1 hb, ↓book_g2 hb, ↓book_g3 hb, ↓book_g4 hb, ↓book_g5 hb, ↓book_g6 hb, ↓book_g7 hb, ↓book_g8 hb, ↓book_g9 hb, ↓book_g10 hb, ↓book_g11 hb, ↓book_g12 hb, ↓book_g13 hb, ↓book_g14 hb, ↓book_g15 hb, ↓book_g16 hb, ↓b_posts_get hb, ↓b_rooms_get hb, ↓b_blocks_get hb, ↓b_words_get hb, ↓b_values_get hb, ↓b_behind_get hb, ↓b_bodies_get hb, ↓b_elses_get hb, ↓b_fstc_get hb, ↓b_endc_get hb, ↓b_lefts_get hb, ↓b_signs_get hb, ↓b_rights_get hb, icond_lt, icond_le, icond_gt, icond_ge, icond_eq, icond_ne, narrow_bool, true_or, or_true, if_true, if_false, cK_inl, toL_some, toL_none, psum_nil, psum_int, psum_ref, psum_null, psum_long, Nat.zero_le, Nat.reduceAdd, Nat.reduceLeDiff, kl_int, kl_ref, kl_none, kl_null, kl_long, su_at, sr_at, Nat.reduceEqDiff, Nat.add_eq_left, Nat.add_right_cancel_iff, and_false, false_and, and_true, true_and, and_self, if_true, if_false, ↓reduceIte, ltS, e]
    split <;> rfl
  | succ k ih =>
    intro i a hi'
    have e : ¬ (10 : Int32) ≤ Int32.ofNat i := fun q => absurd ((ofN_le (k := 10) (by omega) (by omega)).mp q) (by omega)
    have hi : i < 10 := by omega
    rw [w91_4]
    by_cases h1 : M ≤ Int32.ofNat i
    · simp only [↓w91_0, ↓w91_1, ↓w91_2, ↓w91_3, ↓w91_5, ↓w91_6, ↓w91_9, ↓w91_12, ↓w91_15, ↓w91_18, ↓w91_19, ↓w91_20, ↓w91_23, ↓w91_26, ↓w91_27, ↓w91_30, ↓w91_31, ↓w91_34, ↓w91_37, ↓w91_38, ↓w91_39, ↓w91_42, ↓w91_45, ↓w91_48, ↓w91_51, ↓w91_54, ↓w91_55, ↓x0_g0, ↓x0_g1, ↓x0_g2, ↓x0_g3, ↓x0_g4, ↓x0_g5, ↓x0_p5, x0_r, cK_inr, CH_thr, ↓town_g0 hg, ↓town_g1 hg, ↓town_g2 hg, ↓town_g3 hg, ↓town_g4 hg, ↓town_g5 hg, ↓town_g6 hg, ↓town_g7 hg, ↓town_p3 hg, ↓town_p4 hg, ↓town_p5 hg, ↓town_p6 hg, ↓town_p7 hg, ↓town_r hg, ↓lmps_n hg, ↓lgts_n hg, hB, ↓book_g0 hb, ↓book_g1 hb, ↓book_g2 hb, ↓book_g3 hb, ↓book_g4 hb, ↓book_g5 hb, ↓book_g6 hb, ↓book_g7 hb, ↓book_g8 hb, ↓book_g9 hb, ↓book_g10 hb, ↓book_g11 hb, ↓book_g12 hb, ↓book_g13 hb, ↓book_g14 hb, ↓book_g15 hb, ↓book_g16 hb, ↓b_posts_get hb, ↓b_rooms_get hb, ↓b_blocks_get hb, ↓b_words_get hb, ↓b_values_get hb, ↓b_behind_get hb, ↓b_bodies_get hb, ↓b_elses_get hb, ↓b_fstc_get hb, ↓b_endc_get hb, ↓b_lefts_get hb, ↓b_signs_get hb, ↓b_rights_get hb, hM, icond_lt, icond_le, icond_gt, icond_ge, icond_eq, icond_ne, narrow_bool, true_or, or_true, if_true, if_false, cK_inl, toL_some, toL_none, psum_nil, psum_int, psum_ref, psum_null, psum_long, Nat.zero_le, Nat.reduceAdd, Nat.reduceLeDiff, kl_int, kl_ref, kl_none, kl_null, kl_long, su_at, sr_at, Nat.reduceEqDiff, Nat.add_eq_left, Nat.add_right_cancel_iff, and_false, false_and, and_true, true_and, and_self, if_true, if_false, ↓reduceIte, ltS, e, h1]
    · by_cases h2 : S 0 9 i = 0
      · simp only [↓w91_0, ↓w91_1, ↓w91_2, ↓w91_3, ↓w91_5, ↓w91_6, ↓w91_9, ↓w91_12, ↓w91_15, ↓w91_18, ↓w91_19, ↓w91_20, ↓w91_23, ↓w91_26, ↓w91_27, ↓w91_30, ↓w91_31, ↓w91_34, ↓w91_37, ↓w91_38, ↓w91_39, ↓w91_42, ↓w91_45, ↓w91_48, ↓w91_51, ↓w91_54, ↓w91_55, ↓x0_g0, ↓x0_g1, ↓x0_g2, ↓x0_g3, ↓x0_g4, ↓x0_g5, ↓x0_p5, x0_r, cK_inr, CH_thr, ↓town_g0 hg, ↓town_g1 hg, ↓town_g2 hg, ↓town_g3 hg, ↓town_g4 hg, ↓town_g5 hg, ↓town_g6 hg, ↓town_g7 hg, ↓town_p3 hg, ↓town_p4 hg, ↓town_p5 hg, ↓town_p6 hg, ↓town_p7 hg, ↓town_r hg, ↓lmps_n hg, ↓lgts_n hg, ↓lamp_g0 hg hi, ↓lamp_g1 hg hi, ↓lamp_g2 hg hi, ↓lamp_g3 hg hi, ↓lamp_g4 hg hi, ↓lamp_g5 hg hi, ↓lamp_g6 hg hi, ↓lamp_p0 hg hi, ↓lamp_p1 hg hi, ↓lamp_p2 hg hi, ↓lamp_p3 hg hi, ↓lamp_p4 hg hi, ↓lamp_p5 hg hi, ↓lamp_p6 hg hi, ↓lamp_r hg hi, ↓lmps_q hg hi, hB, ↓book_g0 hb, ↓book_g1 hb, ↓book_g2 hb, ↓book_g3 hb, ↓book_g4 hb, ↓book_g5 hb, ↓book_g6 hb, ↓book_g7 hb, ↓book_g8 hb, ↓book_g9 hb, ↓book_g10 hb, ↓book_g11 hb, ↓book_g12 hb, ↓book_g13 hb, ↓book_g14 hb, ↓book_g15 hb, ↓book_g16 hb, ↓b_posts_get hb, ↓b_rooms_get hb, ↓b_blocks_get hb, ↓b_words_get hb, ↓b_values_get hb, ↓b_behind_get hb, ↓b_bodies_get hb, ↓b_elses_get hb, ↓b_fstc_get hb, ↓b_endc_get hb, ↓b_lefts_get hb, ↓b_signs_get hb, ↓b_rights_get hb, hM, icond_lt, icond_le, icond_gt, icond_ge, icond_eq, icond_ne, narrow_bool, true_or, or_true, if_true, if_false, cK_inl, toL_some, toL_none, psum_nil, psum_int, psum_ref, psum_null, psum_long, Nat.zero_le, Nat.reduceAdd, Nat.reduceLeDiff, kl_int, kl_ref, kl_none, kl_null, kl_long, su_at, sr_at, Nat.reduceEqDiff, Nat.add_eq_left, Nat.add_right_cancel_iff, and_false, false_and, and_true, true_and, and_self, if_true, if_false, ↓reduceIte, ltS, e, h1, h2, ofN_a1]
        exact ih (i + 1) _ (by omega)
      · simp only [↓w91_0, ↓w91_1, ↓w91_2, ↓w91_3, ↓w91_5, ↓w91_6, ↓w91_9, ↓w91_12, ↓w91_15, ↓w91_18, ↓w91_19, ↓w91_20, ↓w91_23, ↓w91_26, ↓w91_27, ↓w91_30, ↓w91_31, ↓w91_34, ↓w91_37, ↓w91_38, ↓w91_39, ↓w91_42, ↓w91_45, ↓w91_48, ↓w91_51, ↓w91_54, ↓w91_55, ↓x0_g0, ↓x0_g1, ↓x0_g2, ↓x0_g3, ↓x0_g4, ↓x0_g5, ↓x0_p5, x0_r, cK_inr, CH_thr, ↓town_g0 hg, ↓town_g1 hg, ↓town_g2 hg, ↓town_g3 hg, ↓town_g4 hg, ↓town_g5 hg, ↓town_g6 hg, ↓town_g7 hg, ↓town_p3 hg, ↓town_p4 hg, ↓town_p5 hg, ↓town_p6 hg, ↓town_p7 hg, ↓town_r hg, ↓lmps_n hg, ↓lgts_n hg, ↓lamp_g0 hg hi, ↓lamp_g1 hg hi, ↓lamp_g2 hg hi, ↓lamp_g3 hg hi, ↓lamp_g4 hg hi, ↓lamp_g5 hg hi, ↓lamp_g6 hg hi, ↓lamp_p0 hg hi, ↓lamp_p1 hg hi, ↓lamp_p2 hg hi, ↓lamp_p3 hg hi, ↓lamp_p4 hg hi, ↓lamp_p5 hg hi, ↓lamp_p6 hg hi, ↓lamp_r hg hi, ↓lmps_q hg hi, hB, ↓book_g0 hb, ↓book_g1 hb, ↓book_g2 hb, ↓book_g3 hb, ↓book_g4 hb, ↓book_g5 hb, ↓book_g6 hb, ↓book_g7 hb, ↓book_g8 hb, ↓book_g9 hb, ↓book_g10 hb, ↓book_g11 hb, ↓book_g12 hb, ↓book_g13 hb, ↓book_g14 hb, ↓book_g15 hb, ↓book_g16 hb, ↓b_posts_get hb, ↓b_rooms_get hb, ↓b_blocks_get hb, ↓b_words_get hb, ↓b_values_get hb, ↓b_behind_get hb, ↓b_bodies_get hb, ↓b_elses_get hb, ↓b_fstc_get hb, ↓b_endc_get hb, ↓b_lefts_get hb, ↓b_signs_get hb, ↓b_rights_get hb, hM, icond_lt, icond_le, icond_gt, icond_ge, icond_eq, icond_ne, narrow_bool, true_or, or_true, if_true, if_false, cK_inl, toL_some, toL_none, psum_nil, psum_int, psum_ref, psum_null, psum_long, Nat.zero_le, Nat.reduceAdd, Nat.reduceLeDiff, kl_int, kl_ref, kl_none, kl_null, kl_long, su_at, sr_at, Nat.reduceEqDiff, Nat.add_eq_left, Nat.add_right_cancel_iff, and_false, false_and, and_true, true_and, and_self, if_true, if_false, ↓reduceIte, ltS, e, h1, h2, ofN_a1]
        exact ih (i + 1) _ (by omega)
theorem k91 (hb : b < 2) (hB : (S 0 60 0).toNatClampNeg = BA b) : Cp (d + 2) 91 [.ref 300] (CH c S L R) Q = Q (.inl (some (.int (ltS S (S (2 + b) 100 0) 10 0 0))), CH c S L R) := by
  simp only [ce91, ↓w91_0, ↓w91_1, ↓w91_2, ↓w91_3, cK_inl, toL_some, toL_none, psum_nil, psum_int, psum_ref, psum_null, psum_long, Nat.zero_le, Nat.reduceAdd, Nat.reduceLeDiff, kl_int, kl_ref, kl_none, kl_null, kl_long]
  exact k91_loop hb hB rfl 10 0 0 rfl
/-- until a lamp is lit -/
def ulS (b i : Nat) : Nat → Nat → S3 → Int32 × S3
  | 0, _, S => (-1, S)
  | k + 1, n, S => if (psS 1 b 1 0 S).2 1 9 i = 0 then ulS b i k (n + 1) (psS 1 b 1 0 S).2 else (Int32.ofNat n, (psS 1 b 1 0 S).2)
theorem k106_loop (hb : b < 2) {i : Nat} (hi : i < 10) : ∀ (k n : Nat) (S : S3), n + k = 81 → okG 1 b S → Wp (d + 9) 106 26 [some (.ref 300), some (.int (Int32.ofNat i)), some (.int (Int32.ofNat n))] [] (CH c S L R) Q = Q (.inl (some (.int (ulS b i k n S).1)), CH c (ulS b i k n S).2 L R) := by
  have hg : 1 < 2 := by decide
  have h0 : ¬ Int32.ofNat i < 0 := ofN_nn (by omega)
  have h10 : ¬ (10 : Int32) ≤ Int32.ofNat i := fun q => absurd ((ofN_le (k := 10) (by omega) (by omega)).mp q) (by omega)
  intro k
  induction k with
  | zero =>
    intro n S hn h
    have e : (80 : Int32) < Int32.ofNat n := (ofN_lt (k := 80) (by omega) (by omega)).mpr (by omega)
    rw [w106_26]
    simp only [↓w106_0, ↓w106_1, ↓w106_2, ↓w106_5, ↓w106_8, ↓w106_11, ↓w106_12, ↓w106_13, ↓w106_14, ↓w106_17, ↓w106_18, ↓w106_21, ↓w106_24, ↓w106_25, ↓w106_27, ↓w106_29, ↓w106_32, ↓w106_33, ↓w106_36, ↓w106_37, ↓w106_40, ↓w106_40i, ↓w106_41, ↓w106_42, ↓w106_45, ↓w106_46, ↓w106_47, ↓w106_50, ↓w106_53, ↓w106_54, ↓w106_57, ↓w106_58, ↓w106_61, ↓w106_64, ↓w106_65, ↓w106_66, ↓w106_69, ↓w106_72, ↓w106_73, ↓w106_74, ↓w106_77, ↓w106_80, ↓w106_81, icond_lt, icond_le, icond_gt, icond_ge, icond_eq, icond_ne, narrow_bool, true_or, or_true, if_true, if_false, cK_inl, toL_some, toL_none, psum_nil, psum_int, psum_ref, psum_null, psum_long, Nat.zero_le, Nat.reduceAdd, Nat.reduceLeDiff, kl_int, kl_ref, kl_none, kl_null, kl_long, ulS, e]
  | succ k ih =>
    intro n S hn h
    have e : ¬ (80 : Int32) < Int32.ofNat n := fun q => absurd ((ofN_lt (k := 80) (by omega) (by omega)).mp q) (by omega)
    have e1 : ∀ Q : PO → Prop, Cp (d + 9) 55 [.ref (TA 1), .int 1] (CH c S L R) Q = Q (.inl (some (.int (psS 1 b 1 0 S).1)), CH c (psS 1 b 1 0 S).2 L R) := fun Q => k55 (c := c) (L := L) (R := R) (d := d) (Q := Q) hg hb (N := 1) (by decide) h
    rw [w106_26]
    by_cases h2 : (psS 1 b 1 0 S).2 1 9 i = 0
    · simp only [↓w106_0, ↓w106_1, ↓w106_2, ↓w106_5, ↓w106_8, ↓w106_11, ↓w106_12, ↓w106_13, ↓w106_14, ↓w106_17, ↓w106_18, ↓w106_21, ↓w106_24, ↓w106_25, ↓w106_27, ↓w106_29, ↓w106_32, ↓w106_33, ↓w106_36, ↓w106_37, ↓w106_40, ↓w106_40i, ↓w106_41, ↓w106_42, ↓w106_45, ↓w106_46, ↓w106_47, ↓w106_50, ↓w106_53, ↓w106_54, ↓w106_57, ↓w106_58, ↓w106_61, ↓w106_64, ↓w106_65, ↓w106_66, ↓w106_69, ↓w106_72, ↓w106_73, ↓w106_74, ↓w106_77, ↓w106_80, ↓w106_81, ↓x0_g0, ↓x0_g1, ↓x0_g2, ↓x0_g3, ↓x0_g4, ↓x0_g5, ↓x0_p5, x0_r, cK_inr, CH_thr, ↓town_g0 hg, ↓town_g1 hg, ↓town_g2 hg, ↓town_g3 hg, ↓town_g4 hg, ↓town_g5 hg, ↓town_g6 hg, ↓town_g7 hg, ↓town_p3 hg, ↓town_p4 hg, ↓town_p5 hg, ↓town_p6 hg, ↓town_p7 hg, ↓town_r hg, ↓lmps_n hg, ↓lgts_n hg, ↓lamp_g0 hg hi, ↓lamp_g1 hg hi, ↓lamp_g2 hg hi, ↓lamp_g3 hg hi, ↓lamp_g4 hg hi, ↓lamp_g5 hg hi, ↓lamp_g6 hg hi, ↓lamp_p0 hg hi, ↓lamp_p1 hg hi, ↓lamp_p2 hg hi, ↓lamp_p3 hg hi, ↓lamp_p4 hg hi, ↓lamp_p5 hg hi, ↓lamp_p6 hg hi, ↓lamp_r hg hi, ↓lmps_q hg hi, e1, icond_lt, icond_le, icond_gt, icond_ge, icond_eq, icond_ne, narrow_bool, true_or, or_true, if_true, if_false, cK_inl, toL_some, toL_none, psum_nil, psum_int, psum_ref, psum_null, psum_long, Nat.zero_le, Nat.reduceAdd, Nat.reduceLeDiff, kl_int, kl_ref, kl_none, kl_null, kl_long, ulS, e, h0, h10, h2, ofN_a1]
      exact ih (n + 1) _ (by omega) (okG_ps h)
    · simp only [↓w106_0, ↓w106_1, ↓w106_2, ↓w106_5, ↓w106_8, ↓w106_11, ↓w106_12, ↓w106_13, ↓w106_14, ↓w106_17, ↓w106_18, ↓w106_21, ↓w106_24, ↓w106_25, ↓w106_27, ↓w106_29, ↓w106_32, ↓w106_33, ↓w106_36, ↓w106_37, ↓w106_40, ↓w106_40i, ↓w106_41, ↓w106_42, ↓w106_45, ↓w106_46, ↓w106_47, ↓w106_50, ↓w106_53, ↓w106_54, ↓w106_57, ↓w106_58, ↓w106_61, ↓w106_64, ↓w106_65, ↓w106_66, ↓w106_69, ↓w106_72, ↓w106_73, ↓w106_74, ↓w106_77, ↓w106_80, ↓w106_81, ↓x0_g0, ↓x0_g1, ↓x0_g2, ↓x0_g3, ↓x0_g4, ↓x0_g5, ↓x0_p5, x0_r, cK_inr, CH_thr, ↓town_g0 hg, ↓town_g1 hg, ↓town_g2 hg, ↓town_g3 hg, ↓town_g4 hg, ↓town_g5 hg, ↓town_g6 hg, ↓town_g7 hg, ↓town_p3 hg, ↓town_p4 hg, ↓town_p5 hg, ↓town_p6 hg, ↓town_p7 hg, ↓town_r hg, ↓lmps_n hg, ↓lgts_n hg, ↓lamp_g0 hg hi, ↓lamp_g1 hg hi, ↓lamp_g2 hg hi, ↓lamp_g3 hg hi, ↓lamp_g4 hg hi, ↓lamp_g5 hg hi, ↓lamp_g6 hg hi, ↓lamp_p0 hg hi, ↓lamp_p1 hg hi, ↓lamp_p2 hg hi, ↓lamp_p3 hg hi, ↓lamp_p4 hg hi, ↓lamp_p5 hg hi, ↓lamp_p6 hg hi, ↓lamp_r hg hi, ↓lmps_q hg hi, e1, icond_lt, icond_le, icond_gt, icond_ge, icond_eq, icond_ne, narrow_bool, true_or, or_true, if_true, if_false, cK_inl, toL_some, toL_none, psum_nil, psum_int, psum_ref, psum_null, psum_long, Nat.zero_le, Nat.reduceAdd, Nat.reduceLeDiff, kl_int, kl_ref, kl_none, kl_null, kl_long, ulS, e, h0, h10, h2]
theorem k106 {b0 : Nat} (hb : b < 2) (hk : okG 0 b S) (h1k : okG 1 b0 S) (hc : S 0 3 0 = 0 ∨ S 0 3 0 = 1) : Cp (d + 10) 106 [.ref 300, .int x] (CH c S L R) Q = (match lmp S b x with
    | none => Q (.inr IOB, CH (thr c) S L R)
    | some i => if S 0 9 i = 0 then Q (.inl (some (.int (ulS b i 80 1 (tcS 1 b 0 S)).1)), CH c (ulS b i 80 1 (tcS 1 b 0 S)).2 L R) else Q (.inl (some (.int 0)), CH c S L R)) := by
  have hg : 0 < 2 := by decide
  cases hm : lmp S b x with
  | none => simp only [ce106, ↓w106_0, ↓w106_1, ↓w106_2, ↓w106_5, ↓w106_8, ↓w106_11, ↓w106_12, ↓w106_13, ↓w106_14, ↓w106_17, ↓w106_18, ↓w106_21, ↓w106_24, ↓w106_25, ↓w106_26, ↓w106_27, ↓w106_29, ↓w106_32, ↓w106_33, ↓w106_36, ↓w106_37, ↓w106_40, ↓w106_40i, ↓w106_41, ↓w106_42, ↓w106_45, ↓w106_46, ↓w106_47, ↓w106_50, ↓w106_53, ↓w106_54, ↓w106_57, ↓w106_58, ↓w106_61, ↓w106_64, ↓w106_65, ↓w106_66, ↓w106_69, ↓w106_72, ↓w106_73, ↓w106_74, ↓w106_77, ↓w106_80, ↓w106_81, k112 hb hk.1, hm, ↓x0_g0, ↓x0_g1, ↓x0_g2, ↓x0_g3, ↓x0_g4, ↓x0_g5, ↓x0_p5, x0_r, cK_inr, CH_thr, icond_lt, icond_le, icond_gt, icond_ge, icond_eq, icond_ne, narrow_bool, true_or, or_true, if_true, if_false, cK_inl, toL_some, toL_none, psum_nil, psum_int, psum_ref, psum_null, psum_long, Nat.zero_le, Nat.reduceAdd, Nat.reduceLeDiff, kl_int, kl_ref, kl_none, kl_null, kl_long]
  | some i =>
    obtain ⟨hi, rfl, h1⟩ := lmp_some hm
    by_cases h2 : S 0 9 i = 0
    · have e0 := k106_loop (c := c) (L := L) (R := R) (d := d) (Q := Q) hb hi 80 1 (tcS 1 b 0 S) rfl (okP_tc hb h1k hk (by decide)).1
      simp only [ce106, ↓w106_0, ↓w106_1, ↓w106_2, ↓w106_5, ↓w106_8, ↓w106_11, ↓w106_12, ↓w106_13, ↓w106_14, ↓w106_17, ↓w106_18, ↓w106_21, ↓w106_24, ↓w106_25, ↓w106_27, ↓w106_29, ↓w106_32, ↓w106_33, ↓w106_36, ↓w106_37, ↓w106_40, ↓w106_40i, ↓w106_41, ↓w106_42, ↓w106_45, ↓w106_46, ↓w106_47, ↓w106_50, ↓w106_53, ↓w106_54, ↓w106_57, ↓w106_58, ↓w106_61, ↓w106_64, ↓w106_65, ↓w106_66, ↓w106_69, ↓w106_72, ↓w106_73, ↓w106_74, ↓w106_77, ↓w106_80, ↓w106_81, k112 hb hk.1, hm, ↓x0_g0, ↓x0_g1, ↓x0_g2, ↓x0_g3, ↓x0_g4, ↓x0_g5, ↓x0_p5, x0_r, cK_inr, CH_thr, ↓town_g0 hg, ↓town_g1 hg, ↓town_g2 hg, ↓town_g3 hg, ↓town_g4 hg, ↓town_g5 hg, ↓town_g6 hg, ↓town_g7 hg, ↓town_p3 hg, ↓town_p4 hg, ↓town_p5 hg, ↓town_p6 hg, ↓town_p7 hg, ↓town_r hg, ↓lmps_n hg, ↓lgts_n hg, ↓lamp_g0 hg hi, ↓lamp_g1 hg hi, ↓lamp_g2 hg hi, ↓lamp_g3 hg hi, ↓lamp_g4 hg hi, ↓lamp_g5 hg hi, ↓lamp_g6 hg hi, ↓lamp_p0 hg hi, ↓lamp_p1 hg hi, ↓lamp_p2 hg hi, ↓lamp_p3 hg hi, ↓lamp_p4 hg hi, ↓lamp_p5 hg hi, ↓lamp_p6 hg hi, ↓lamp_r hg hi, town_r (show 1 < 2 by decide), k53 (show 1 < 2 by decide) hg hb (by decide) h1k hk hc, icond_lt, icond_le, icond_gt, icond_ge, icond_eq, icond_ne, narrow_bool, true_or, or_true, if_true, if_false, cK_inl, toL_some, toL_none, psum_nil, psum_int, psum_ref, psum_null, psum_long, Nat.zero_le, Nat.reduceAdd, Nat.reduceLeDiff, kl_int, kl_ref, kl_none, kl_null, kl_long, h2]
      exact e0
    · simp only [ce106, ↓w106_0, ↓w106_1, ↓w106_2, ↓w106_5, ↓w106_8, ↓w106_11, ↓w106_12, ↓w106_13, ↓w106_14, ↓w106_17, ↓w106_18, ↓w106_21, ↓w106_24, ↓w106_25, ↓w106_27, ↓w106_29, ↓w106_32, ↓w106_33, ↓w106_36, ↓w106_37, ↓w106_40, ↓w106_40i, ↓w106_41, ↓w106_42, ↓w106_45, ↓w106_46, ↓w106_47, ↓w106_50, ↓w106_53, ↓w106_54, ↓w106_57, ↓w106_58, ↓w106_61, ↓w106_64, ↓w106_65, ↓w106_66, ↓w106_69, ↓w106_72, ↓w106_73, ↓w106_74, ↓w106_77, ↓w106_80, ↓w106_81, k112 hb hk.1, hm, ↓x0_g0, ↓x0_g1, ↓x0_g2, ↓x0_g3, ↓x0_g4, ↓x0_g5, ↓x0_p5, x0_r, cK_inr, CH_thr, ↓town_g0 hg, ↓town_g1 hg, ↓town_g2 hg, ↓town_g3 hg, ↓town_g4 hg, ↓town_g5 hg, ↓town_g6 hg, ↓town_g7 hg, ↓town_p3 hg, ↓town_p4 hg, ↓town_p5 hg, ↓town_p6 hg, ↓town_p7 hg, ↓town_r hg, ↓lmps_n hg, ↓lgts_n hg, ↓lamp_g0 hg hi, ↓lamp_g1 hg hi, ↓lamp_g2 hg hi, ↓lamp_g3 hg hi, ↓lamp_g4 hg hi, ↓lamp_g5 hg hi, ↓lamp_g6 hg hi, ↓lamp_p0 hg hi, ↓lamp_p1 hg hi, ↓lamp_p2 hg hi, ↓lamp_p3 hg hi, ↓lamp_p4 hg hi, ↓lamp_p5 hg hi, ↓lamp_p6 hg hi, ↓lamp_r hg hi, icond_lt, icond_le, icond_gt, icond_ge, icond_eq, icond_ne, narrow_bool, true_or, or_true, if_true, if_false, cK_inl, toL_some, toL_none, psum_nil, psum_int, psum_ref, psum_null, psum_long, Nat.zero_le, Nat.reduceAdd, Nat.reduceLeDiff, kl_int, kl_ref, kl_none, kl_null, kl_long, h2]
theorem k107 {b0 : Nat} (hb : b < 2) (hk : okG 0 b S) (h1k : okG 1 b0 S) (hc : S 0 3 0 = 0 ∨ S 0 3 0 = 1) : Cp (d + 10) 107 [.ref 300, .int x] (CH c S L R) Q = if x < 1 then Q (.inr IAE, CH (thr c) S L R) else if 80 < x then Q (.inr IAE, CH (thr c) S L R)
    else Q (.inl (some (.int (psS 1 b x.toNatClampNeg 0 (tcS 1 b 0 S)).1)), CH c (psS 1 b x.toNatClampNeg 0 (tcS 1 b 0 S)).2 L R) := by
  have hg : 0 < 2 := by decide
  by_cases h2 : x < 1
  · simp only [ce107, ↓w107_0, ↓w107_1, ↓w107_2, ↓w107_5, ↓w107_6, ↓w107_8, ↓w107_11, ↓w107_14, ↓w107_14i, ↓w107_15, ↓w107_21, ↓w107_22, ↓w107_25, ↓w107_26, ↓w107_29, ↓w107_32, ↓w107_33, ↓w107_36, ↓w107_37, ↓w107_40, ↓x0_g0, ↓x0_g1, ↓x0_g2, ↓x0_g3, ↓x0_g4, ↓x0_g5, ↓x0_p5, x0_r, cK_inr, CH_thr, icond_lt, icond_le, icond_gt, icond_ge, icond_eq, icond_ne, narrow_bool, true_or, or_true, if_true, if_false, cK_inl, toL_some, toL_none, psum_nil, psum_int, psum_ref, psum_null, psum_long, Nat.zero_le, Nat.reduceAdd, Nat.reduceLeDiff, kl_int, kl_ref, kl_none, kl_null, kl_long, h2]
    rfl
  by_cases h3 : 80 < x
  · have h4 := Int32.not_le.mpr h3
    simp only [ce107, ↓w107_0, ↓w107_1, ↓w107_2, ↓w107_5, ↓w107_6, ↓w107_8, ↓w107_11, ↓w107_14, ↓w107_14i, ↓w107_15, ↓w107_21, ↓w107_22, ↓w107_25, ↓w107_26, ↓w107_29, ↓w107_32, ↓w107_33, ↓w107_36, ↓w107_37, ↓w107_40, ↓x0_g0, ↓x0_g1, ↓x0_g2, ↓x0_g3, ↓x0_g4, ↓x0_g5, ↓x0_p5, x0_r, cK_inr, CH_thr, icond_lt, icond_le, icond_gt, icond_ge, icond_eq, icond_ne, narrow_bool, true_or, or_true, if_true, if_false, cK_inl, toL_some, toL_none, psum_nil, psum_int, psum_ref, psum_null, psum_long, Nat.zero_le, Nat.reduceAdd, Nat.reduceLeDiff, kl_int, kl_ref, kl_none, kl_null, kl_long, h2, h3, h4]
    rfl
  have h4 := Int32.not_lt.mp h3
  have h0 : ¬ x < 0 := fun q => h2 (Int32.lt_trans q (by decide))
  have e : ∀ Q : PO → Prop, _ := fun Q => k55x (c := c) (L := L) (R := R) (d := d) (Q := Q) (S := tcS 1 b 0 S) (show 1 < 2 by decide) hb h0 (okP_tc hb h1k hk (by decide)).1
  simp only [ce107, ↓w107_0, ↓w107_1, ↓w107_2, ↓w107_5, ↓w107_6, ↓w107_8, ↓w107_11, ↓w107_14, ↓w107_14i, ↓w107_15, ↓w107_21, ↓w107_22, ↓w107_25, ↓w107_26, ↓w107_29, ↓w107_32, ↓w107_33, ↓w107_36, ↓w107_37, ↓w107_40, ↓x0_g0, ↓x0_g1, ↓x0_g2, ↓x0_g3, ↓x0_g4, ↓x0_g5, ↓x0_p5, x0_r, cK_inr, CH_thr, ↓town_g0 hg, ↓town_g1 hg, ↓town_g2 hg, ↓town_g3 hg, ↓town_g4 hg, ↓town_g5 hg, ↓town_g6 hg, ↓town_g7 hg, ↓town_p3 hg, ↓town_p4 hg, ↓town_p5 hg, ↓town_p6 hg, ↓town_p7 hg, ↓town_r hg, ↓lmps_n hg, ↓lgts_n hg, town_r (show 1 < 2 by decide), k53 (show 1 < 2 by decide) hg hb (by decide) h1k hk hc, e, icond_lt, icond_le, icond_gt, icond_ge, icond_eq, icond_ne, narrow_bool, true_or, or_true, if_true, if_false, cK_inl, toL_some, toL_none, psum_nil, psum_int, psum_ref, psum_null, psum_long, Nat.zero_le, Nat.reduceAdd, Nat.reduceLeDiff, kl_int, kl_ref, kl_none, kl_null, kl_long, h2, h3, h4]
/-- nights until the moon is bright -/
def nuS (S : S3) : Nat → Nat → Int32
  | 0, n => Int32.ofNat n
  | k + 1, n => if 11 ≤ moonI (S 0 0 0 + Int32.ofNat n) then Int32.ofNat n else nuS S k (n + 1)
theorem k108_loop : ∀ (k n : Nat), n + k = 30 → Wp (d + 1) 108 2 [some (.ref 300), some (.int (Int32.ofNat n))] [] (CH c S L R) Q = Q (.inl (some (.int (nuS S k n))), CH c S L R) := by
  have hg : 0 < 2 := by decide
  intro k
  induction k with
  | zero =>
    intro n hn
    have e : (30 : Int32) ≤ Int32.ofNat n := (ofN_le (k := 30) (by omega) (by omega)).mpr (by omega)
    rw [w108_2]
    simp only [↓w108_0, ↓w108_1, ↓w108_3, ↓w108_5, ↓w108_8, ↓w108_9, ↓w108_12, ↓w108_15, ↓w108_16, ↓w108_17, ↓w108_20, ↓w108_22, ↓w108_25, ↓w108_28, ↓w108_31, ↓w108_32, icond_lt, icond_le, icond_gt, icond_ge, icond_eq, icond_ne, narrow_bool, true_or, or_true, if_true, if_false, cK_inl, toL_some, toL_none, psum_nil, psum_int, psum_ref, psum_null, psum_long, Nat.zero_le, Nat.reduceAdd, Nat.reduceLeDiff, kl_int, kl_ref, kl_none, kl_null, kl_long, nuS, e]
  | succ k ih =>
    intro n hn
    have e : ¬ (30 : Int32) ≤ Int32.ofNat n := fun q => absurd ((ofN_le (k := 30) (by omega) (by omega)).mp q) (by omega)
    rw [w108_2]
    by_cases h2 : 11 ≤ moonI (S 0 0 0 + Int32.ofNat n)
    · simp only [↓w108_0, ↓w108_1, ↓w108_3, ↓w108_5, ↓w108_8, ↓w108_9, ↓w108_12, ↓w108_15, ↓w108_16, ↓w108_17, ↓w108_20, ↓w108_22, ↓w108_25, ↓w108_28, ↓w108_31, ↓w108_32, ↓x0_g0, ↓x0_g1, ↓x0_g2, ↓x0_g3, ↓x0_g4, ↓x0_g5, ↓x0_p5, x0_r, cK_inr, CH_thr, ↓town_g0 hg, ↓town_g1 hg, ↓town_g2 hg, ↓town_g3 hg, ↓town_g4 hg, ↓town_g5 hg, ↓town_g6 hg, ↓town_g7 hg, ↓town_p3 hg, ↓town_p4 hg, ↓town_p5 hg, ↓town_p6 hg, ↓town_p7 hg, ↓town_r hg, ↓lmps_n hg, ↓lgts_n hg, k114, icond_lt, icond_le, icond_gt, icond_ge, icond_eq, icond_ne, narrow_bool, true_or, or_true, if_true, if_false, cK_inl, toL_some, toL_none, psum_nil, psum_int, psum_ref, psum_null, psum_long, Nat.zero_le, Nat.reduceAdd, Nat.reduceLeDiff, kl_int, kl_ref, kl_none, kl_null, kl_long, nuS, e, h2]
    · simp only [↓w108_0, ↓w108_1, ↓w108_3, ↓w108_5, ↓w108_8, ↓w108_9, ↓w108_12, ↓w108_15, ↓w108_16, ↓w108_17, ↓w108_20, ↓w108_22, ↓w108_25, ↓w108_28, ↓w108_31, ↓w108_32, ↓x0_g0, ↓x0_g1, ↓x0_g2, ↓x0_g3, ↓x0_g4, ↓x0_g5, ↓x0_p5, x0_r, cK_inr, CH_thr, ↓town_g0 hg, ↓town_g1 hg, ↓town_g2 hg, ↓town_g3 hg, ↓town_g4 hg, ↓town_g5 hg, ↓town_g6 hg, ↓town_g7 hg, ↓town_p3 hg, ↓town_p4 hg, ↓town_p5 hg, ↓town_p6 hg, ↓town_p7 hg, ↓town_r hg, ↓lmps_n hg, ↓lgts_n hg, k114, icond_lt, icond_le, icond_gt, icond_ge, icond_eq, icond_ne, narrow_bool, true_or, or_true, if_true, if_false, cK_inl, toL_some, toL_none, psum_nil, psum_int, psum_ref, psum_null, psum_long, Nat.zero_le, Nat.reduceAdd, Nat.reduceLeDiff, kl_int, kl_ref, kl_none, kl_null, kl_long, nuS, e, h2, ofN_a1]
      exact ih (n + 1) (by omega)
theorem k108 : Cp (d + 2) 108 [.ref 300] (CH c S L R) Q = Q (.inl (some (.int (nuS S 30 0))), CH c S L R) := by
  simp only [ce108, ↓w108_0, ↓w108_1, cK_inl, toL_some, toL_none, psum_nil, psum_int, psum_ref, psum_null, psum_long, Nat.zero_le, Nat.reduceAdd, Nat.reduceLeDiff, kl_int, kl_ref, kl_none, kl_null, kl_long]
  exact k108_loop 30 0 rfl
/-- the best round -/
def bt1 (b l : Nat) (q : Int32) (r : Int32) (S : S3) : Int32 × S3 := psS 1 b q.toNatClampNeg 0 (brS 1 l b r (tcS 1 b 0 S))
def btS (b l : Nat) (q M : Int32) : Nat → Nat → Int32 → Int32 → S3 → Int32 × S3
  | 0, _, best, _, S => (best, S)
  | k + 1, r, best, few, S => if M ≤ Int32.ofNat r then (best, S) else
    if Int32.ofNat r = 0 then btS b l q M k (r + 1) (Int32.ofNat r) (bt1 b l q (Int32.ofNat r) S).1 (bt1 b l q (Int32.ofNat r) S).2
    else if few ≤ (bt1 b l q (Int32.ofNat r) S).1 then btS b l q M k (r + 1) best few (bt1 b l q (Int32.ofNat r) S).2
    else btS b l q M k (r + 1) (Int32.ofNat r) (bt1 b l q (Int32.ofNat r) S).1 (bt1 b l q (Int32.ofNat r) S).2
/-- only the group g changes -/
def pA (g : Nat) : Nat → Nat → Prop := fun g' _ => g' = g
theorem sb_weak {p q : Nat → Nat → Prop} {S' : S3} (h : sameBut p S S') (hw : ∀ g v, p g v → q g v) : sameBut q S S' := fun g v hq => h g v (fun hp => hq (hw g v hp))
theorem sb_TA {S' : S3} (h : sameBut (pT g) S S') : sameBut (pA g) S S' := sb_weak h fun _ _ q => q.1
theorem sb_GA {S' : S3} (h : sameBut (pG g) S S') : sameBut (pA g) S S' := sb_weak h fun _ _ q => q.1
theorem okG_sb {S' : S3} (h : sameBut (pA g') S S') (hne : g ≠ g') (hk : okG g b S) : okG g b S' := by
  refine ⟨?_, fun l hl => ?_, fun j hj => ?_⟩
  · rw [h g 60 hne]; exact hk.1
  · rw [h g 18 hne]; exact hk.2.1 l hl
  · rw [h g 9 hne]; exact hk.2.2 j hj
theorem sbt_qe {S' : S3} (h : sameBut (pT g) S S') : sameBut (pT g) S (qeS g b S') := by
  unfold qeS
  split
  · exact sbt_dawn (sbt_su h (by simp [pT]))
  · exact sbt_su h (by simp [pT])
theorem sbt_qt {S' : S3} (h : sameBut (pT g) S S') : sameBut (pT g) S (qtS g b S').2 := by
  unfold qtS
  split
  · exact sbt_qe (sbt_ba (sbt_cd (sbt_wl rfl h)))
  · exact sbt_qe (sbt_ba h)
theorem sbt_ps : ∀ {n : Nat} {a : Int32} {S' : S3}, sameBut (pT g) S S' → sameBut (pT g) S (psS g b n a S').2 := by
  intro n
  induction n with
  | zero => intro a S' h; exact h
  | succ n ih => intro a S' h; exact ih (sbt_qt h)
theorem sb_tc (b : Nat) : sameBut (pA g) S (tcS g b g' S) := by
  unfold tcS
  refine sbt_trans ?_ (sb_GA (sbg_lg rfl (sbg_lcL sbt_refl)))
  unfold tc0
  exact sbt_su (sbt_su (sbt_su (sbt_su (sbt_su (sbt_su sbt_refl rfl) rfl) rfl) rfl) rfl) rfl
theorem sb_bt (hl : l < 3) : sameBut (pA 1) S (bt1 b l x y S).2 := sbt_trans (sb_tc b) (sbt_trans (sb_TA (sbt_br sbt_refl hl)) (sb_TA (sbt_ps sbt_refl)))
theorem sb_ul {i : Nat} : ∀ {k n : Nat} {S' : S3}, sameBut (pA 1) S S' → sameBut (pA 1) S (ulS b i k n S').2 := by
  intro k
  induction k with
  | zero => intro n S' h; exact h
  | succ k ih =>
    intro n S' h
    simp only [ulS]
    split
    · exact ih (sbt_trans h (sb_TA (sbt_ps sbt_refl)))
    · exact sbt_trans h (sb_TA (sbt_ps sbt_refl))
/-- what the loop of bestRound asks of the state -/
def okB (b : Nat) (M : Int32) (S : S3) : Prop := okG 0 b S ∧ (∃ b1, okG 1 b1 S) ∧ (S 0 3 0 = 0 ∨ S 0 3 0 = 1) ∧ S (2 + b) 101 0 = M
theorem okB_bt (hb : b < 2) (hl : l < 3) (h : okB b M S) : okB b M (bt1 b l x y S).2 := by
  have e := sb_bt (S := S) (b := b) (x := x) (y := y) hl
  refine ⟨okG_sb e (by decide) h.1, ⟨b, okG_ps (okG_br (okP_tc hb h.2.1.choose_spec h.1 (by decide)).1 hl)⟩, ?_, ?_⟩
  · rw [e 0 3 (fun q => absurd (show (0 : Nat) = 1 from q) (by decide))]; exact h.2.2.1
  · rw [e (2 + b) 101 (fun q => by unfold pA at q; omega)]; exact h.2.2.2
theorem k109_loop (hb : b < 2) (hl : l < 3) {q : Int32} (hq : ¬ q < 0) {N : Nat} (hN : N < 2 ^ 31) : ∀ (k r : Nat) (best few x : Int32) (l6 : Option Value) (S : S3), r + k = N → okB b (Int32.ofNat N) S → (l6 = none ∨ l6 = some (.int x)) →
    Wp (d + 9) 109 58 [some (.ref 300), some (.int (Int32.ofNat l)), some (.int q), some (.int best), some (.int few), some (.int (Int32.ofNat r)), l6] [] (CH c S L R) Q = Q (.inl (some (.int (btS b l q (Int32.ofNat N) k r best few S).1)), CH c (btS b l q (Int32.ofNat N) k r best few S).2 L R) := by
  have hg : 0 < 2 := by decide
  have hg1 : 1 < 2 := by decide
  have h0 : ¬ Int32.ofNat l < 0 := ofN_nn (by omega)
  have h10 : ¬ (3 : Int32) ≤ Int32.ofNat l := fun q => absurd ((ofN_le (k := 3) (by omega) (by omega)).mp q) (by omega)
  intro k
  induction k with
  | zero =>
    intro r best few x l6 S hr h _
    have e : Int32.ofNat N ≤ Int32.ofNat r := (ofN_le (by omega) (by omega)).mpr (by omega)
    simp only [↓w109_58, ↓w109_60, ↓w109_61, ↓w109_64, ↓w109_67, ↓w109_70, ↓w109_156, ↓w109_157, ↓x0_g0, ↓x0_g1, ↓x0_g2, ↓x0_g3, ↓x0_g4, ↓x0_g5, ↓x0_p5, x0_r, cK_inr, CH_thr, ↓town_g0 hg, ↓town_g1 hg, ↓town_g2 hg, ↓town_g3 hg, ↓town_g4 hg, ↓town_g5 hg, ↓town_g6 hg, ↓town_g7 hg, ↓town_p3 hg, ↓town_p4 hg, ↓town_p5 hg, ↓town_p6 hg, ↓town_p7 hg, ↓town_r hg, ↓lmps_n hg, ↓lgts_n hg, h.1.1, ↓book_g0 hb, ↓book_g1 hb, ↓book_g2 hb, ↓book_g3 hb, ↓book_g4 hb, ↓book_g5 hb, ↓book_g6 hb, ↓book_g7 hb, ↓book_g8 hb, ↓book_g9 hb, ↓book_g10 hb, ↓book_g11 hb, ↓book_g12 hb, ↓book_g13 hb, ↓book_g14 hb, ↓book_g15 hb, ↓book_g16 hb, ↓b_posts_get hb, ↓b_rooms_get hb, ↓b_blocks_get hb, ↓b_words_get hb, ↓b_values_get hb, ↓b_behind_get hb, ↓b_bodies_get hb, ↓b_elses_get hb, ↓b_fstc_get hb, ↓b_endc_get hb, ↓b_lefts_get hb, ↓b_signs_get hb, ↓b_rights_get hb, h.2.2.2, icond_lt, icond_le, icond_gt, icond_ge, icond_eq, icond_ne, narrow_bool, true_or, or_true, if_true, if_false, cK_inl, toL_some, toL_none, psum_nil, psum_int, psum_ref, psum_null, psum_long, Nat.zero_le, Nat.reduceAdd, Nat.reduceLeDiff, kl_int, kl_ref, kl_none, kl_null, kl_long, btS, e]
  | succ k ih =>
    intro r best few x l6 S hr h h6
    have e : ¬ Int32.ofNat N ≤ Int32.ofNat r := fun q => absurd ((ofN_le (by omega) (by omega)).mp q) (by omega)
    have ht := okP_tc hb h.2.1.choose_spec h.1 (by decide)
    have hr2 := okG_br (x := Int32.ofNat r) (b' := b) ht.1 hl
    have e1 : ∀ Q : PO → Prop, Cp (d + 9) 55 [.ref (TA 1), .int q] (CH c (brS 1 l b (Int32.ofNat r) (tcS 1 b 0 S)) L R) Q = Q (.inl (some (.int (bt1 b l q (Int32.ofNat r) S).1)), CH c (bt1 b l q (Int32.ofNat r) S).2 L R) := fun Q => k55x (c := c) (L := L) (R := R) (d := d) (Q := Q) hg1 hb hq hr2
    have hn := okB_bt (x := q) (y := Int32.ofNat r) hb hl h
    have hn6 : (some (Value.int (bt1 b l q (Int32.ofNat r) S).1) : Option Value) = none ∨ (some (Value.int (bt1 b l q (Int32.ofNat r) S).1) : Option Value) = some (.int (bt1 b l q (Int32.ofNat r) S).1) := Or.inr rfl
    by_cases hr0 : Int32.ofNat r = 0
    · rcases h6 with rfl | rfl
      all_goals
        rw [w109_58]
        simp only [↓w109_60, ↓w109_61, ↓w109_64, ↓w109_67, ↓w109_70, ↓w109_73, ↓w109_74, ↓w109_77, ↓w109_78, ↓w109_81, ↓w109_84, ↓w109_85, ↓w109_88, ↓w109_89, ↓w109_90, ↓w109_93, ↓w109_96, ↓w109_97, ↓w109_100, ↓w109_101, ↓w109_104, ↓w109_107, ↓w109_108, ↓w109_109, ↓w109_110, ↓w109_113, ↓w109_116, ↓w109_118, ↓w109_121, ↓w109_122, ↓w109_125, ↓w109_126, ↓w109_129, ↓w109_131, ↓w109_133, ↓w109_136, ↓w109_138, ↓w109_140, ↓w109_143, ↓w109_145, ↓w109_146, ↓w109_148, ↓w109_150, ↓w109_153, ↓x0_g0, ↓x0_g1, ↓x0_g2, ↓x0_g3, ↓x0_g4, ↓x0_g5, ↓x0_p5, x0_r, cK_inr, CH_thr, ↓town_g0 hg, ↓town_g1 hg, ↓town_g2 hg, ↓town_g3 hg, ↓town_g4 hg, ↓town_g5 hg, ↓town_g6 hg, ↓town_g7 hg, ↓town_p3 hg, ↓town_p4 hg, ↓town_p5 hg, ↓town_p6 hg, ↓town_p7 hg, ↓town_r hg, ↓lmps_n hg, ↓lgts_n hg, town_r hg1, ↓town_g2 hg1, ↓lgts_n hg1, ↓lgts_q hg1 hl, ↓lig_r hg1 hl, ↓town_g0 hg1, ht.1.1, k53 hg1 hg hb (by decide) h.2.1.choose_spec h.1 h.2.2.1, k11 hg1 hl hb, e1, h.1.1, ↓book_g0 hb, ↓book_g1 hb, ↓book_g2 hb, ↓book_g3 hb, ↓book_g4 hb, ↓book_g5 hb, ↓book_g6 hb, ↓book_g7 hb, ↓book_g8 hb, ↓book_g9 hb, ↓book_g10 hb, ↓book_g11 hb, ↓book_g12 hb, ↓book_g13 hb, ↓book_g14 hb, ↓book_g15 hb, ↓book_g16 hb, ↓b_posts_get hb, ↓b_rooms_get hb, ↓b_blocks_get hb, ↓b_words_get hb, ↓b_values_get hb, ↓b_behind_get hb, ↓b_bodies_get hb, ↓b_elses_get hb, ↓b_fstc_get hb, ↓b_endc_get hb, ↓b_lefts_get hb, ↓b_signs_get hb, ↓b_rights_get hb, h.2.2.2, icond_lt, icond_le, icond_gt, icond_ge, icond_eq, icond_ne, narrow_bool, true_or, or_true, if_true, if_false, cK_inl, toL_some, toL_none, psum_nil, psum_int, psum_ref, psum_null, psum_long, Nat.zero_le, Nat.reduceAdd, Nat.reduceLeDiff, kl_int, kl_ref, kl_none, kl_null, kl_long, btS, e, h0, h10, ofN_a1, if_pos hr0]
        exact ih (r + 1) _ _ _ _ _ (by omega) hn hn6
    · by_cases hf : few ≤ (bt1 b l q (Int32.ofNat r) S).1
      · rcases h6 with rfl | rfl
        all_goals
          rw [w109_58]
          simp only [↓w109_60, ↓w109_61, ↓w109_64, ↓w109_67, ↓w109_70, ↓w109_73, ↓w109_74, ↓w109_77, ↓w109_78, ↓w109_81, ↓w109_84, ↓w109_85, ↓w109_88, ↓w109_89, ↓w109_90, ↓w109_93, ↓w109_96, ↓w109_97, ↓w109_100, ↓w109_101, ↓w109_104, ↓w109_107, ↓w109_108, ↓w109_109, ↓w109_110, ↓w109_113, ↓w109_116, ↓w109_118, ↓w109_121, ↓w109_122, ↓w109_125, ↓w109_126, ↓w109_129, ↓w109_131, ↓w109_133, ↓w109_136, ↓w109_138, ↓w109_140, ↓w109_143, ↓w109_145, ↓w109_146, ↓w109_148, ↓w109_150, ↓w109_153, ↓x0_g0, ↓x0_g1, ↓x0_g2, ↓x0_g3, ↓x0_g4, ↓x0_g5, ↓x0_p5, x0_r, cK_inr, CH_thr, ↓town_g0 hg, ↓town_g1 hg, ↓town_g2 hg, ↓town_g3 hg, ↓town_g4 hg, ↓town_g5 hg, ↓town_g6 hg, ↓town_g7 hg, ↓town_p3 hg, ↓town_p4 hg, ↓town_p5 hg, ↓town_p6 hg, ↓town_p7 hg, ↓town_r hg, ↓lmps_n hg, ↓lgts_n hg, town_r hg1, ↓town_g2 hg1, ↓lgts_n hg1, ↓lgts_q hg1 hl, ↓lig_r hg1 hl, ↓town_g0 hg1, ht.1.1, k53 hg1 hg hb (by decide) h.2.1.choose_spec h.1 h.2.2.1, k11 hg1 hl hb, e1, h.1.1, ↓book_g0 hb, ↓book_g1 hb, ↓book_g2 hb, ↓book_g3 hb, ↓book_g4 hb, ↓book_g5 hb, ↓book_g6 hb, ↓book_g7 hb, ↓book_g8 hb, ↓book_g9 hb, ↓book_g10 hb, ↓book_g11 hb, ↓book_g12 hb, ↓book_g13 hb, ↓book_g14 hb, ↓book_g15 hb, ↓book_g16 hb, ↓b_posts_get hb, ↓b_rooms_get hb, ↓b_blocks_get hb, ↓b_words_get hb, ↓b_values_get hb, ↓b_behind_get hb, ↓b_bodies_get hb, ↓b_elses_get hb, ↓b_fstc_get hb, ↓b_endc_get hb, ↓b_lefts_get hb, ↓b_signs_get hb, ↓b_rights_get hb, h.2.2.2, icond_lt, icond_le, icond_gt, icond_ge, icond_eq, icond_ne, narrow_bool, true_or, or_true, if_true, if_false, cK_inl, toL_some, toL_none, psum_nil, psum_int, psum_ref, psum_null, psum_long, Nat.zero_le, Nat.reduceAdd, Nat.reduceLeDiff, kl_int, kl_ref, kl_none, kl_null, kl_long, btS, e, h0, h10, ofN_a1, if_neg hr0, hf]
          exact ih (r + 1) _ _ _ _ _ (by omega) hn hn6
      · rcases h6 with rfl | rfl
        all_goals
          rw [w109_58]
          simp only [↓w109_60, ↓w109_61, ↓w109_64, ↓w109_67, ↓w109_70, ↓w109_73, ↓w109_74, ↓w109_77, ↓w109_78, ↓w109_81, ↓w109_84, ↓w109_85, ↓w109_88, ↓w109_89, ↓w109_90, ↓w109_93, ↓w109_96, ↓w109_97, ↓w109_100, ↓w109_101, ↓w109_104, ↓w109_107, ↓w109_108, ↓w109_109, ↓w109_110, ↓w109_113, ↓w109_116, ↓w109_118, ↓w109_121, ↓w109_122, ↓w109_125, ↓w109_126, ↓w109_129, ↓w109_131, ↓w109_133, ↓w109_136, ↓w109_138, ↓w109_140, ↓w109_143, ↓w109_145, ↓w109_146, ↓w109_148, ↓w109_150, ↓w109_153, ↓x0_g0, ↓x0_g1, ↓x0_g2, ↓x0_g3, ↓x0_g4, ↓x0_g5, ↓x0_p5, x0_r, cK_inr, CH_thr, ↓town_g0 hg, ↓town_g1 hg, ↓town_g2 hg, ↓town_g3 hg, ↓town_g4 hg, ↓town_g5 hg, ↓town_g6 hg, ↓town_g7 hg, ↓town_p3 hg, ↓town_p4 hg, ↓town_p5 hg, ↓town_p6 hg, ↓town_p7 hg, ↓town_r hg, ↓lmps_n hg, ↓lgts_n hg, town_r hg1, ↓town_g2 hg1, ↓lgts_n hg1, ↓lgts_q hg1 hl, ↓lig_r hg1 hl, ↓town_g0 hg1, ht.1.1, k53 hg1 hg hb (by decide) h.2.1.choose_spec h.1 h.2.2.1, k11 hg1 hl hb, e1, h.1.1, ↓book_g0 hb, ↓book_g1 hb, ↓book_g2 hb, ↓book_g3 hb, ↓book_g4 hb, ↓book_g5 hb, ↓book_g6 hb, ↓book_g7 hb, ↓book_g8 hb, ↓book_g9 hb, ↓book_g10 hb, ↓book_g11 hb, ↓book_g12 hb, ↓book_g13 hb, ↓book_g14 hb, ↓book_g15 hb, ↓book_g16 hb, ↓b_posts_get hb, ↓b_rooms_get hb, ↓b_blocks_get hb, ↓b_words_get hb, ↓b_values_get hb, ↓b_behind_get hb, ↓b_bodies_get hb, ↓b_elses_get hb, ↓b_fstc_get hb, ↓b_endc_get hb, ↓b_lefts_get hb, ↓b_signs_get hb, ↓b_rights_get hb, h.2.2.2, icond_lt, icond_le, icond_gt, icond_ge, icond_eq, icond_ne, narrow_bool, true_or, or_true, if_true, if_false, cK_inl, toL_some, toL_none, psum_nil, psum_int, psum_ref, psum_null, psum_long, Nat.zero_le, Nat.reduceAdd, Nat.reduceLeDiff, kl_int, kl_ref, kl_none, kl_null, kl_long, btS, e, h0, h10, ofN_a1, if_neg hr0, hf]
          exact ih (r + 1) _ _ _ _ _ (by omega) hn hn6
theorem k109 {N : Nat} (hN : N < 2 ^ 31) (hb : b < 2) (h : okB b (Int32.ofNat N) S) : Cp (d + 10) 109 [.ref 300, .int x, .int y] (CH c S L R) Q = (match lgt S x with
    | none => Q (.inr IOB, CH (thr c) S L R)
    | some l => if y < 1 then Q (.inr IAE, CH (thr c) S L R) else if 40 < y then Q (.inr IAE, CH (thr c) S L R) else if N = 0 then Q (.inr ISE, CH (thr c) S L R)
      else Q (.inl (some (.int (btS b l y (Int32.ofNat N) N 0 0 0 S).1)), CH c (btS b l y (Int32.ofNat N) N 0 0 0 S).2 L R)) := by
  have hg : 0 < 2 := by decide
  cases hm : lgt S x with
  | none => simp only [ce109, ↓w109_0, ↓w109_1, ↓w109_2, ↓w109_5, ↓w109_5i, ↓w109_6, ↓w109_7, ↓w109_8, ↓w109_11, ↓w109_12, ↓w109_14, ↓w109_17, ↓w109_20, ↓w109_20i, ↓w109_21, ↓w109_27, ↓w109_28, ↓w109_31, ↓w109_34, ↓w109_37, ↓w109_40, ↓w109_43, ↓w109_43i, ↓w109_44, ↓w109_50, ↓w109_51, ↓w109_52, ↓w109_53, ↓w109_55, ↓w109_56, ↓w109_60, ↓w109_61, ↓w109_64, ↓w109_67, ↓w109_70, ↓w109_73, ↓w109_74, ↓w109_77, ↓w109_78, ↓w109_81, ↓w109_84, ↓w109_85, ↓w109_88, ↓w109_89, ↓w109_90, ↓w109_93, ↓w109_96, ↓w109_97, ↓w109_100, ↓w109_101, ↓w109_104, ↓w109_107, ↓w109_108, ↓w109_109, ↓w109_110, ↓w109_113, ↓w109_116, ↓w109_118, ↓w109_121, ↓w109_122, ↓w109_125, ↓w109_126, ↓w109_129, ↓w109_131, ↓w109_133, ↓w109_136, ↓w109_138, ↓w109_140, ↓w109_143, ↓w109_145, ↓w109_146, ↓w109_148, ↓w109_150, ↓w109_153, ↓w109_156, ↓w109_157, k113, hm, ↓x0_g0, ↓x0_g1, ↓x0_g2, ↓x0_g3, ↓x0_g4, ↓x0_g5, ↓x0_p5, x0_r, cK_inr, CH_thr, icond_lt, icond_le, icond_gt, icond_ge, icond_eq, icond_ne, narrow_bool, true_or, or_true, if_true, if_false, cK_inl, toL_some, toL_none, psum_nil, psum_int, psum_ref, psum_null, psum_long, Nat.zero_le, Nat.reduceAdd, Nat.reduceLeDiff, kl_int, kl_ref, kl_none, kl_null, kl_long]
  | some l =>
    obtain ⟨hl, rfl, h1⟩ := lgt_some hm
    by_cases h2 : y < 1
    · simp only [ce109, ↓w109_0, ↓w109_1, ↓w109_2, ↓w109_5, ↓w109_5i, ↓w109_6, ↓w109_7, ↓w109_8, ↓w109_11, ↓w109_12, ↓w109_14, ↓w109_17, ↓w109_20, ↓w109_20i, ↓w109_21, ↓w109_27, ↓w109_28, ↓w109_31, ↓w109_34, ↓w109_37, ↓w109_40, ↓w109_43, ↓w109_43i, ↓w109_44, ↓w109_50, ↓w109_51, ↓w109_52, ↓w109_53, ↓w109_55, ↓w109_56, ↓w109_60, ↓w109_61, ↓w109_64, ↓w109_67, ↓w109_70, ↓w109_73, ↓w109_74, ↓w109_77, ↓w109_78, ↓w109_81, ↓w109_84, ↓w109_85, ↓w109_88, ↓w109_89, ↓w109_90, ↓w109_93, ↓w109_96, ↓w109_97, ↓w109_100, ↓w109_101, ↓w109_104, ↓w109_107, ↓w109_108, ↓w109_109, ↓w109_110, ↓w109_113, ↓w109_116, ↓w109_118, ↓w109_121, ↓w109_122, ↓w109_125, ↓w109_126, ↓w109_129, ↓w109_131, ↓w109_133, ↓w109_136, ↓w109_138, ↓w109_140, ↓w109_143, ↓w109_145, ↓w109_146, ↓w109_148, ↓w109_150, ↓w109_153, ↓w109_156, ↓w109_157, k113, hm, ↓x0_g0, ↓x0_g1, ↓x0_g2, ↓x0_g3, ↓x0_g4, ↓x0_g5, ↓x0_p5, x0_r, cK_inr, CH_thr, icond_lt, icond_le, icond_gt, icond_ge, icond_eq, icond_ne, narrow_bool, true_or, or_true, if_true, if_false, cK_inl, toL_some, toL_none, psum_nil, psum_int, psum_ref, psum_null, psum_long, Nat.zero_le, Nat.reduceAdd, Nat.reduceLeDiff, kl_int, kl_ref, kl_none, kl_null, kl_long, h2]
      rfl
    by_cases h3 : 40 < y
    · have h4 := Int32.not_le.mpr h3
      simp only [ce109, ↓w109_0, ↓w109_1, ↓w109_2, ↓w109_5, ↓w109_5i, ↓w109_6, ↓w109_7, ↓w109_8, ↓w109_11, ↓w109_12, ↓w109_14, ↓w109_17, ↓w109_20, ↓w109_20i, ↓w109_21, ↓w109_27, ↓w109_28, ↓w109_31, ↓w109_34, ↓w109_37, ↓w109_40, ↓w109_43, ↓w109_43i, ↓w109_44, ↓w109_50, ↓w109_51, ↓w109_52, ↓w109_53, ↓w109_55, ↓w109_56, ↓w109_60, ↓w109_61, ↓w109_64, ↓w109_67, ↓w109_70, ↓w109_73, ↓w109_74, ↓w109_77, ↓w109_78, ↓w109_81, ↓w109_84, ↓w109_85, ↓w109_88, ↓w109_89, ↓w109_90, ↓w109_93, ↓w109_96, ↓w109_97, ↓w109_100, ↓w109_101, ↓w109_104, ↓w109_107, ↓w109_108, ↓w109_109, ↓w109_110, ↓w109_113, ↓w109_116, ↓w109_118, ↓w109_121, ↓w109_122, ↓w109_125, ↓w109_126, ↓w109_129, ↓w109_131, ↓w109_133, ↓w109_136, ↓w109_138, ↓w109_140, ↓w109_143, ↓w109_145, ↓w109_146, ↓w109_148, ↓w109_150, ↓w109_153, ↓w109_156, ↓w109_157, k113, hm, ↓x0_g0, ↓x0_g1, ↓x0_g2, ↓x0_g3, ↓x0_g4, ↓x0_g5, ↓x0_p5, x0_r, cK_inr, CH_thr, icond_lt, icond_le, icond_gt, icond_ge, icond_eq, icond_ne, narrow_bool, true_or, or_true, if_true, if_false, cK_inl, toL_some, toL_none, psum_nil, psum_int, psum_ref, psum_null, psum_long, Nat.zero_le, Nat.reduceAdd, Nat.reduceLeDiff, kl_int, kl_ref, kl_none, kl_null, kl_long, h2, h3, h4]
      rfl
    have h4 := Int32.not_lt.mp h3
    have h0 : ¬ y < 0 := fun q => h2 (Int32.lt_trans q (by decide))
    by_cases h5 : N = 0
    · have h6 : Int32.ofNat N = 0 := by rw [h5]; rfl
      simp only [ce109, ↓w109_0, ↓w109_1, ↓w109_2, ↓w109_5, ↓w109_5i, ↓w109_6, ↓w109_7, ↓w109_8, ↓w109_11, ↓w109_12, ↓w109_14, ↓w109_17, ↓w109_20, ↓w109_20i, ↓w109_21, ↓w109_27, ↓w109_28, ↓w109_31, ↓w109_34, ↓w109_37, ↓w109_40, ↓w109_43, ↓w109_43i, ↓w109_44, ↓w109_50, ↓w109_51, ↓w109_52, ↓w109_53, ↓w109_55, ↓w109_56, ↓w109_60, ↓w109_61, ↓w109_64, ↓w109_67, ↓w109_70, ↓w109_73, ↓w109_74, ↓w109_77, ↓w109_78, ↓w109_81, ↓w109_84, ↓w109_85, ↓w109_88, ↓w109_89, ↓w109_90, ↓w109_93, ↓w109_96, ↓w109_97, ↓w109_100, ↓w109_101, ↓w109_104, ↓w109_107, ↓w109_108, ↓w109_109, ↓w109_110, ↓w109_113, ↓w109_116, ↓w109_118, ↓w109_121, ↓w109_122, ↓w109_125, ↓w109_126, ↓w109_129, ↓w109_131, ↓w109_133, ↓w109_136, ↓w109_138, ↓w109_140, ↓w109_143, ↓w109_145, ↓w109_146, ↓w109_148, ↓w109_150, ↓w109_153, ↓w109_156, ↓w109_157, k113, hm, ↓x0_g0, ↓x0_g1, ↓x0_g2, ↓x0_g3, ↓x0_g4, ↓x0_g5, ↓x0_p5, x0_r, cK_inr, CH_thr, ↓town_g0 hg, ↓town_g1 hg, ↓town_g2 hg, ↓town_g3 hg, ↓town_g4 hg, ↓town_g5 hg, ↓town_g6 hg, ↓town_g7 hg, ↓town_p3 hg, ↓town_p4 hg, ↓town_p5 hg, ↓town_p6 hg, ↓town_p7 hg, ↓town_r hg, ↓lmps_n hg, ↓lgts_n hg, h.1.1, ↓book_g0 hb, ↓book_g1 hb, ↓book_g2 hb, ↓book_g3 hb, ↓book_g4 hb, ↓book_g5 hb, ↓book_g6 hb, ↓book_g7 hb, ↓book_g8 hb, ↓book_g9 hb, ↓book_g10 hb, ↓book_g11 hb, ↓book_g12 hb, ↓book_g13 hb, ↓book_g14 hb, ↓book_g15 hb, ↓book_g16 hb, ↓b_posts_get hb, ↓b_rooms_get hb, ↓b_blocks_get hb, ↓b_words_get hb, ↓b_values_get hb, ↓b_behind_get hb, ↓b_bodies_get hb, ↓b_elses_get hb, ↓b_fstc_get hb, ↓b_endc_get hb, ↓b_lefts_get hb, ↓b_signs_get hb, ↓b_rights_get hb, h.2.2.2, icond_lt, icond_le, icond_gt, icond_ge, icond_eq, icond_ne, narrow_bool, true_or, or_true, if_true, if_false, cK_inl, toL_some, toL_none, psum_nil, psum_int, psum_ref, psum_null, psum_long, Nat.zero_le, Nat.reduceAdd, Nat.reduceLeDiff, kl_int, kl_ref, kl_none, kl_null, kl_long, h2, h3, h4, if_pos h5, h6, ne_eq, not_true]
      rfl
    · have h6 : ¬ Int32.ofNat N = 0 := fun q => by
        have := tN_nat hN
        rw [q] at this
        exact h5 (by rw [← this]; rfl)
      have e0 := k109_loop (c := c) (L := L) (R := R) (d := d) (Q := Q) hb hl h0 hN N 0 0 0 0 none S (by omega) h (Or.inl rfl)
      simp only [ce109, ↓w109_0, ↓w109_1, ↓w109_2, ↓w109_5, ↓w109_5i, ↓w109_6, ↓w109_7, ↓w109_8, ↓w109_11, ↓w109_12, ↓w109_14, ↓w109_17, ↓w109_20, ↓w109_20i, ↓w109_21, ↓w109_27, ↓w109_28, ↓w109_31, ↓w109_34, ↓w109_37, ↓w109_40, ↓w109_43, ↓w109_43i, ↓w109_44, ↓w109_50, ↓w109_51, ↓w109_52, ↓w109_53, ↓w109_55, ↓w109_56, ↓w109_60, ↓w109_61, ↓w109_64, ↓w109_67, ↓w109_70, ↓w109_73, ↓w109_74, ↓w109_77, ↓w109_78, ↓w109_81, ↓w109_84, ↓w109_85, ↓w109_88, ↓w109_89, ↓w109_90, ↓w109_93, ↓w109_96, ↓w109_97, ↓w109_100, ↓w109_101, ↓w109_104, ↓w109_107, ↓w109_108, ↓w109_109, ↓w109_110, ↓w109_113, ↓w109_116, ↓w109_118, ↓w109_121, ↓w109_122, ↓w109_125, ↓w109_126, ↓w109_129, ↓w109_131, ↓w109_133, ↓w109_136, ↓w109_138, ↓w109_140, ↓w109_143, ↓w109_145, ↓w109_146, ↓w109_148, ↓w109_150, ↓w109_153, ↓w109_156, ↓w109_157, k113, hm, ↓x0_g0, ↓x0_g1, ↓x0_g2, ↓x0_g3, ↓x0_g4, ↓x0_g5, ↓x0_p5, x0_r, cK_inr, CH_thr, ↓town_g0 hg, ↓town_g1 hg, ↓town_g2 hg, ↓town_g3 hg, ↓town_g4 hg, ↓town_g5 hg, ↓town_g6 hg, ↓town_g7 hg, ↓town_p3 hg, ↓town_p4 hg, ↓town_p5 hg, ↓town_p6 hg, ↓town_p7 hg, ↓town_r hg, ↓lmps_n hg, ↓lgts_n hg, h.1.1, ↓book_g0 hb, ↓book_g1 hb, ↓book_g2 hb, ↓book_g3 hb, ↓book_g4 hb, ↓book_g5 hb, ↓book_g6 hb, ↓book_g7 hb, ↓book_g8 hb, ↓book_g9 hb, ↓book_g10 hb, ↓book_g11 hb, ↓book_g12 hb, ↓book_g13 hb, ↓book_g14 hb, ↓book_g15 hb, ↓book_g16 hb, ↓b_posts_get hb, ↓b_rooms_get hb, ↓b_blocks_get hb, ↓b_words_get hb, ↓b_values_get hb, ↓b_behind_get hb, ↓b_bodies_get hb, ↓b_elses_get hb, ↓b_fstc_get hb, ↓b_endc_get hb, ↓b_lefts_get hb, ↓b_signs_get hb, ↓b_rights_get hb, h.2.2.2, icond_lt, icond_le, icond_gt, icond_ge, icond_eq, icond_ne, narrow_bool, true_or, or_true, if_true, if_false, cK_inl, toL_some, toL_none, psum_nil, psum_int, psum_ref, psum_null, psum_long, Nat.zero_le, Nat.reduceAdd, Nat.reduceLeDiff, kl_int, kl_ref, kl_none, kl_null, kl_long, h2, h3, h4, if_neg h5, h6, ne_eq, not_false_eq_true]
      exact e0
end CLASSJ
