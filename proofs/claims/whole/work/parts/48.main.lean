/-! THE CLASS'S OWN METHODS -/
theorem nnI {x : Int32} (h : ¬ x < 0) : x = Int32.ofNat x.toNatClampNeg := by
  rw [Int32.lt_iff_toInt_lt, Int32.toInt_zero] at h
  apply Int32.toInt_inj.mp
  have h1 := x.toInt_lt
  rw [Int32.toInt_ofNat_of_lt (by unfold Int32.toNatClampNeg; omega)]
  unfold Int32.toNatClampNeg
  omega
theorem tN_lt {x : Int32} : x.toNatClampNeg < 2 ^ 31 := by
  have h1 := x.toInt_lt
  unfold Int32.toNatClampNeg
  omega
section CLASSI
variable {c : Nat × Nat × Nat} {S : S3} {L : L3} {R : Nat → Option PC} {g g' i l b d : Nat} {x y M : Int32} {z : Int64} {Q : PO → Prop}
def thr (c : Nat × Nat × Nat) : Nat × Nat × Nat := (c.1, c.2.1 + 1, c.2.2 + 6)
def IOB : String := "java/lang/IndexOutOfBoundsException"
def IAE : String := "java/lang/IllegalArgumentException"
def ISE : String := "java/lang/IllegalStateException"
/-- which lamp, which lighter a number means -/
def lmp (S : S3) (b : Nat) (x : Int32) : Option Nat := if x < 0 then none else if S (2 + b) 100 0 ≤ x then none else if 10 ≤ x then none else some x.toNatClampNeg
def lgt (S : S3) (x : Int32) : Option Nat := if x < 0 then none else if S 0 4 0 ≤ x then none else if 3 ≤ x then none else some x.toNatClampNeg
theorem lmp_some {m : Nat} (h : lmp S b x = some m) : m < 10 ∧ x = Int32.ofNat m ∧ ¬ S (2 + b) 100 0 ≤ Int32.ofNat m := by
  unfold lmp at h
  split at h
  · cases h
  rename_i h0
  split at h
  · cases h
  rename_i h1
  split at h
  · cases h
  rename_i h2
  cases h
  have e := nnI h0
  rw [e] at h2
  have := tN_lt (x := x)
  refine ⟨?_, e, by rw [← e]; exact h1⟩
  have h3 : ¬ 10 ≤ x.toNatClampNeg := fun q => h2 ((ofN_le (k := 10) (m := x.toNatClampNeg) (by omega) this).mpr q)
  omega
theorem lgt_some {m : Nat} (h : lgt S x = some m) : m < 3 ∧ x = Int32.ofNat m ∧ ¬ S 0 4 0 ≤ Int32.ofNat m := by
  unfold lgt at h
  split at h
  · cases h
  rename_i h0
  split at h
  · cases h
  rename_i h1
  split at h
  · cases h
  rename_i h2
  cases h
  have e := nnI h0
  rw [e] at h2
  have := tN_lt (x := x)
  refine ⟨?_, e, by rw [← e]; exact h1⟩
  have h3 : ¬ 3 ≤ x.toNatClampNeg := fun q => h2 ((ofN_le (k := 3) (m := x.toNatClampNeg) (by omega) this).mpr q)
  omega
theorem k112 (hb : b < 2) (hB : (S 0 60 0).toNatClampNeg = BA b) : Cp (d + 1) 112 [.ref 300, .int x] (CH c S L R) Q = (match lmp S b x with
    | none => Q (.inr IOB, CH (thr c) S L R)
    | some i => Q (.inl (some (.ref (LA 0 i))), CH c S L R)) := by
  have hg : 0 < 2 := by decide
  cases hm : lmp S b x with
  | none =>
    unfold lmp at hm
    by_cases h0 : x < 0
    · simp only [ce112, ↓w112_0, ↓w112_1, ↓w112_4, ↓w112_5, ↓w112_6, ↓w112_9, ↓w112_12, ↓w112_15, ↓w112_18, ↓w112_19, ↓w112_20, ↓w112_23, ↓w112_26, ↓w112_27, ↓w112_30, ↓w112_33, ↓w112_33i, ↓w112_34, ↓w112_40, ↓w112_41, ↓w112_44, ↓w112_47, ↓w112_48, ↓w112_49, ↓x0_g0, ↓x0_g1, ↓x0_g2, ↓x0_g3, ↓x0_g4, ↓x0_g5, ↓x0_p5, x0_r, cK_inr, CH_thr, ↓town_g0 hg, ↓town_g1 hg, ↓town_g2 hg, ↓town_g3 hg, ↓town_g4 hg, ↓town_g5 hg, ↓town_g6 hg, ↓town_g7 hg, ↓town_p3 hg, ↓town_p4 hg, ↓town_p5 hg, ↓town_p6 hg, ↓town_p7 hg, ↓town_r hg, ↓lmps_n hg, ↓lgts_n hg, hB, ↓book_g0 hb, ↓book_g1 hb, ↓book_g2 hb, ↓book_g3 hb, ↓book_g4 hb, ↓book_g5 hb, ↓book_g6 hb, ↓book_g7 hb, ↓book_g8 hb, ↓book_g9 hb, ↓book_g10 hb, ↓book_g11 hb, ↓book_g12 hb, ↓book_g13 hb, ↓book_g14 hb, ↓book_g15 hb, ↓book_g16 hb, ↓b_posts_get hb, ↓b_rooms_get hb, ↓b_blocks_get hb, ↓b_words_get hb, ↓b_values_get hb, ↓b_behind_get hb, ↓b_bodies_get hb, ↓b_elses_get hb, ↓b_fstc_get hb, ↓b_endc_get hb, ↓b_lefts_get hb, ↓b_signs_get hb, ↓b_rights_get hb, icond_lt, icond_le, icond_gt, icond_ge, icond_eq, icond_ne, narrow_bool, true_or, or_true, if_true, if_false, cK_inl, toL_some, toL_none, psum_nil, psum_int, psum_ref, psum_null, psum_long, Nat.zero_le, Nat.reduceAdd, Nat.reduceLeDiff, kl_int, kl_ref, kl_none, kl_null, kl_long, h0]
      rfl
    by_cases h1 : S (2 + b) 100 0 ≤ x
    · simp only [ce112, ↓w112_0, ↓w112_1, ↓w112_4, ↓w112_5, ↓w112_6, ↓w112_9, ↓w112_12, ↓w112_15, ↓w112_18, ↓w112_19, ↓w112_20, ↓w112_23, ↓w112_26, ↓w112_27, ↓w112_30, ↓w112_33, ↓w112_33i, ↓w112_34, ↓w112_40, ↓w112_41, ↓w112_44, ↓w112_47, ↓w112_48, ↓w112_49, ↓x0_g0, ↓x0_g1, ↓x0_g2, ↓x0_g3, ↓x0_g4, ↓x0_g5, ↓x0_p5, x0_r, cK_inr, CH_thr, ↓town_g0 hg, ↓town_g1 hg, ↓town_g2 hg, ↓town_g3 hg, ↓town_g4 hg, ↓town_g5 hg, ↓town_g6 hg, ↓town_g7 hg, ↓town_p3 hg, ↓town_p4 hg, ↓town_p5 hg, ↓town_p6 hg, ↓town_p7 hg, ↓town_r hg, ↓lmps_n hg, ↓lgts_n hg, hB, ↓book_g0 hb, ↓book_g1 hb, ↓book_g2 hb, ↓book_g3 hb, ↓book_g4 hb, ↓book_g5 hb, ↓book_g6 hb, ↓book_g7 hb, ↓book_g8 hb, ↓book_g9 hb, ↓book_g10 hb, ↓book_g11 hb, ↓book_g12 hb, ↓book_g13 hb, ↓book_g14 hb, ↓book_g15 hb, ↓book_g16 hb, ↓b_posts_get hb, ↓b_rooms_get hb, ↓b_blocks_get hb, ↓b_words_get hb, ↓b_values_get hb, ↓b_behind_get hb, ↓b_bodies_get hb, ↓b_elses_get hb, ↓b_fstc_get hb, ↓b_endc_get hb, ↓b_lefts_get hb, ↓b_signs_get hb, ↓b_rights_get hb, icond_lt, icond_le, icond_gt, icond_ge, icond_eq, icond_ne, narrow_bool, true_or, or_true, if_true, if_false, cK_inl, toL_some, toL_none, psum_nil, psum_int, psum_ref, psum_null, psum_long, Nat.zero_le, Nat.reduceAdd, Nat.reduceLeDiff, kl_int, kl_ref, kl_none, kl_null, kl_long, h0, h1]
      rfl
    by_cases h2 : 10 ≤ x
    · have h3 := Int32.not_lt.mpr h2
      simp only [ce112, ↓w112_0, ↓w112_1, ↓w112_4, ↓w112_5, ↓w112_6, ↓w112_9, ↓w112_12, ↓w112_15, ↓w112_18, ↓w112_19, ↓w112_20, ↓w112_23, ↓w112_26, ↓w112_27, ↓w112_30, ↓w112_33, ↓w112_33i, ↓w112_34, ↓w112_40, ↓w112_41, ↓w112_44, ↓w112_47, ↓w112_48, ↓w112_49, ↓x0_g0, ↓x0_g1, ↓x0_g2, ↓x0_g3, ↓x0_g4, ↓x0_g5, ↓x0_p5, x0_r, cK_inr, CH_thr, ↓town_g0 hg, ↓town_g1 hg, ↓town_g2 hg, ↓town_g3 hg, ↓town_g4 hg, ↓town_g5 hg, ↓town_g6 hg, ↓town_g7 hg, ↓town_p3 hg, ↓town_p4 hg, ↓town_p5 hg, ↓town_p6 hg, ↓town_p7 hg, ↓town_r hg, ↓lmps_n hg, ↓lgts_n hg, hB, ↓book_g0 hb, ↓book_g1 hb, ↓book_g2 hb, ↓book_g3 hb, ↓book_g4 hb, ↓book_g5 hb, ↓book_g6 hb, ↓book_g7 hb, ↓book_g8 hb, ↓book_g9 hb, ↓book_g10 hb, ↓book_g11 hb, ↓book_g12 hb, ↓book_g13 hb, ↓book_g14 hb, ↓book_g15 hb, ↓book_g16 hb, ↓b_posts_get hb, ↓b_rooms_get hb, ↓b_blocks_get hb, ↓b_words_get hb, ↓b_values_get hb, ↓b_behind_get hb, ↓b_bodies_get hb, ↓b_elses_get hb, ↓b_fstc_get hb, ↓b_endc_get hb, ↓b_lefts_get hb, ↓b_signs_get hb, ↓b_rights_get hb, icond_lt, icond_le, icond_gt, icond_ge, icond_eq, icond_ne, narrow_bool, true_or, or_true, if_true, if_false, cK_inl, toL_some, toL_none, psum_nil, psum_int, psum_ref, psum_null, psum_long, Nat.zero_le, Nat.reduceAdd, Nat.reduceLeDiff, kl_int, kl_ref, kl_none, kl_null, kl_long, h0, h1, h3]
      rfl
    simp only [if_neg h0, if_neg h1, if_neg h2] at hm
    cases hm
  | some i =>
    obtain ⟨hi, rfl, h1⟩ := lmp_some hm
    have h0 : ¬ Int32.ofNat i < 0 := ofN_nn (by omega)
    have h2 : Int32.ofNat i < 10 := (ofN_lt (m := 10) (by omega) (by omega)).mpr hi
    simp only [ce112, ↓w112_0, ↓w112_1, ↓w112_4, ↓w112_5, ↓w112_6, ↓w112_9, ↓w112_12, ↓w112_15, ↓w112_18, ↓w112_19, ↓w112_20, ↓w112_23, ↓w112_26, ↓w112_27, ↓w112_30, ↓w112_33, ↓w112_33i, ↓w112_34, ↓w112_40, ↓w112_41, ↓w112_44, ↓w112_47, ↓w112_48, ↓w112_49, ↓x0_g0, ↓x0_g1, ↓x0_g2, ↓x0_g3, ↓x0_g4, ↓x0_g5, ↓x0_p5, x0_r, cK_inr, CH_thr, ↓town_g0 hg, ↓town_g1 hg, ↓town_g2 hg, ↓town_g3 hg, ↓town_g4 hg, ↓town_g5 hg, ↓town_g6 hg, ↓town_g7 hg, ↓town_p3 hg, ↓town_p4 hg, ↓town_p5 hg, ↓town_p6 hg, ↓town_p7 hg, ↓town_r hg, ↓lmps_n hg, ↓lgts_n hg, ↓lmps_q hg hi, hB, ↓book_g0 hb, ↓book_g1 hb, ↓book_g2 hb, ↓book_g3 hb, ↓book_g4 hb, ↓book_g5 hb, ↓book_g6 hb, ↓book_g7 hb, ↓book_g8 hb, ↓book_g9 hb, ↓book_g10 hb, ↓book_g11 hb, ↓book_g12 hb, ↓book_g13 hb, ↓book_g14 hb, ↓book_g15 hb, ↓book_g16 hb, ↓b_posts_get hb, ↓b_rooms_get hb, ↓b_blocks_get hb, ↓b_words_get hb, ↓b_values_get hb, ↓b_behind_get hb, ↓b_bodies_get hb, ↓b_elses_get hb, ↓b_fstc_get hb, ↓b_endc_get hb, ↓b_lefts_get hb, ↓b_signs_get hb, ↓b_rights_get hb, icond_lt, icond_le, icond_gt, icond_ge, icond_eq, icond_ne, narrow_bool, true_or, or_true, if_true, if_false, cK_inl, toL_some, toL_none, psum_nil, psum_int, psum_ref, psum_null, psum_long, Nat.zero_le, Nat.reduceAdd, Nat.reduceLeDiff, kl_int, kl_ref, kl_none, kl_null, kl_long, h0, h1, h2]
theorem k113 : Cp (d + 1) 113 [.ref 300, .int x] (CH c S L R) Q = (match lgt S x with
    | none => Q (.inr IOB, CH (thr c) S L R)
    | some i => Q (.inl (some (.ref (LI 0 i))), CH c S L R)) := by
  have hg : 0 < 2 := by decide
  cases hm : lgt S x with
  | none =>
    unfold lgt at hm
    by_cases h0 : x < 0
    · simp only [ce113, ↓w113_0, ↓w113_1, ↓w113_4, ↓w113_5, ↓w113_6, ↓w113_9, ↓w113_12, ↓w113_15, ↓w113_16, ↓w113_17, ↓w113_20, ↓w113_23, ↓w113_24, ↓w113_27, ↓w113_30, ↓w113_30i, ↓w113_31, ↓w113_37, ↓w113_38, ↓w113_41, ↓w113_44, ↓w113_45, ↓w113_46, ↓x0_g0, ↓x0_g1, ↓x0_g2, ↓x0_g3, ↓x0_g4, ↓x0_g5, ↓x0_p5, x0_r, cK_inr, CH_thr, ↓town_g0 hg, ↓town_g1 hg, ↓town_g2 hg, ↓town_g3 hg, ↓town_g4 hg, ↓town_g5 hg, ↓town_g6 hg, ↓town_g7 hg, ↓town_p3 hg, ↓town_p4 hg, ↓town_p5 hg, ↓town_p6 hg, ↓town_p7 hg, ↓town_r hg, ↓lmps_n hg, ↓lgts_n hg, icond_lt, icond_le, icond_gt, icond_ge, icond_eq, icond_ne, narrow_bool, true_or, or_true, if_true, if_false, cK_inl, toL_some, toL_none, psum_nil, psum_int, psum_ref, psum_null, psum_long, Nat.zero_le, Nat.reduceAdd, Nat.reduceLeDiff, kl_int, kl_ref, kl_none, kl_null, kl_long, h0]
      rfl
    by_cases h1 : S 0 4 0 ≤ x
    · simp only [ce113, ↓w113_0, ↓w113_1, ↓w113_4, ↓w113_5, ↓w113_6, ↓w113_9, ↓w113_12, ↓w113_15, ↓w113_16, ↓w113_17, ↓w113_20, ↓w113_23, ↓w113_24, ↓w113_27, ↓w113_30, ↓w113_30i, ↓w113_31, ↓w113_37, ↓w113_38, ↓w113_41, ↓w113_44, ↓w113_45, ↓w113_46, ↓x0_g0, ↓x0_g1, ↓x0_g2, ↓x0_g3, ↓x0_g4, ↓x0_g5, ↓x0_p5, x0_r, cK_inr, CH_thr, ↓town_g0 hg, ↓town_g1 hg, ↓town_g2 hg, ↓town_g3 hg, ↓town_g4 hg, ↓town_g5 hg, ↓town_g6 hg, ↓town_g7 hg, ↓town_p3 hg, ↓town_p4 hg, ↓town_p5 hg, ↓town_p6 hg, ↓town_p7 hg, ↓town_r hg, ↓lmps_n hg, ↓lgts_n hg, icond_lt, icond_le, icond_gt, icond_ge, icond_eq, icond_ne, narrow_bool, true_or, or_true, if_true, if_false, cK_inl, toL_some, toL_none, psum_nil, psum_int, psum_ref, psum_null, psum_long, Nat.zero_le, Nat.reduceAdd, Nat.reduceLeDiff, kl_int, kl_ref, kl_none, kl_null, kl_long, h0, h1]
      rfl
    by_cases h2 : 3 ≤ x
    · have h3 := Int32.not_lt.mpr h2
      simp only [ce113, ↓w113_0, ↓w113_1, ↓w113_4, ↓w113_5, ↓w113_6, ↓w113_9, ↓w113_12, ↓w113_15, ↓w113_16, ↓w113_17, ↓w113_20, ↓w113_23, ↓w113_24, ↓w113_27, ↓w113_30, ↓w113_30i, ↓w113_31, ↓w113_37, ↓w113_38, ↓w113_41, ↓w113_44, ↓w113_45, ↓w113_46, ↓x0_g0, ↓x0_g1, ↓x0_g2, ↓x0_g3, ↓x0_g4, ↓x0_g5, ↓x0_p5, x0_r, cK_inr, CH_thr, ↓town_g0 hg, ↓town_g1 hg, ↓town_g2 hg, ↓town_g3 hg, ↓town_g4 hg, ↓town_g5 hg, ↓town_g6 hg, ↓town_g7 hg, ↓town_p3 hg, ↓town_p4 hg, ↓town_p5 hg, ↓town_p6 hg, ↓town_p7 hg, ↓town_r hg, ↓lmps_n hg, ↓lgts_n hg, icond_lt, icond_le, icond_gt, icond_ge, icond_eq, icond_ne, narrow_bool, true_or, or_true, if_true, if_false, cK_inl, toL_some, toL_none, psum_nil, psum_int, psum_ref, psum_null, psum_long, Nat.zero_le, Nat.reduceAdd, Nat.reduceLeDiff, kl_int, kl_ref, kl_none, kl_null, kl_long, h0, h1, h3]
      rfl
    simp only [if_neg h0, if_neg h1, if_neg h2] at hm
    cases hm
  | some i =>
    obtain ⟨hi, rfl, h1⟩ := lgt_some hm
    have h0 : ¬ Int32.ofNat i < 0 := ofN_nn (by omega)
    have h2 : Int32.ofNat i < 3 := (ofN_lt (m := 3) (by omega) (by omega)).mpr hi
    simp only [ce113, ↓w113_0, ↓w113_1, ↓w113_4, ↓w113_5, ↓w113_6, ↓w113_9, ↓w113_12, ↓w113_15, ↓w113_16, ↓w113_17, ↓w113_20, ↓w113_23, ↓w113_24, ↓w113_27, ↓w113_30, ↓w113_30i, ↓w113_31, ↓w113_37, ↓w113_38, ↓w113_41, ↓w113_44, ↓w113_45, ↓w113_46, ↓x0_g0, ↓x0_g1, ↓x0_g2, ↓x0_g3, ↓x0_g4, ↓x0_g5, ↓x0_p5, x0_r, cK_inr, CH_thr, ↓town_g0 hg, ↓town_g1 hg, ↓town_g2 hg, ↓town_g3 hg, ↓town_g4 hg, ↓town_g5 hg, ↓town_g6 hg, ↓town_g7 hg, ↓town_p3 hg, ↓town_p4 hg, ↓town_p5 hg, ↓town_p6 hg, ↓town_p7 hg, ↓town_r hg, ↓lmps_n hg, ↓lgts_n hg, ↓lgts_q hg hi, icond_lt, icond_le, icond_gt, icond_ge, icond_eq, icond_ne, narrow_bool, true_or, or_true, if_true, if_false, cK_inl, toL_some, toL_none, psum_nil, psum_int, psum_ref, psum_null, psum_long, Nat.zero_le, Nat.reduceAdd, Nat.reduceLeDiff, kl_int, kl_ref, kl_none, kl_null, kl_long, h0, h1, h2]

theorem k85 (hb : b < 2) (hk : okG 0 b S) : Cp (d + 2) 85 [.ref 300, .int x] (CH c S L R) Q = (match lmp S b x with
    | none => Q (.inr IOB, CH (thr c) S L R)
    | some i => Q (.inl (some (.int (S 0 10 i))), CH c S L R)) := by
  have hg : 0 < 2 := by decide
  cases hm : lmp S b x with
  | none => simp only [ce85, ↓w85_0, ↓w85_1, ↓w85_2, ↓w85_5, ↓w85_8, k112 hb hk.1, hm, ↓x0_g0, ↓x0_g1, ↓x0_g2, ↓x0_g3, ↓x0_g4, ↓x0_g5, ↓x0_p5, x0_r, cK_inr, CH_thr, icond_lt, icond_le, icond_gt, icond_ge, icond_eq, icond_ne, narrow_bool, true_or, or_true, if_true, if_false, cK_inl, toL_some, toL_none, psum_nil, psum_int, psum_ref, psum_null, psum_long, Nat.zero_le, Nat.reduceAdd, Nat.reduceLeDiff, kl_int, kl_ref, kl_none, kl_null, kl_long]
  | some i =>
    obtain ⟨hi, rfl, h1⟩ := lmp_some hm
    have h9 := hk.2.2 i hi
    simp only [ce85, ↓w85_0, ↓w85_1, ↓w85_2, ↓w85_5, ↓w85_8, k112 hb hk.1, hm, ↓x0_g0, ↓x0_g1, ↓x0_g2, ↓x0_g3, ↓x0_g4, ↓x0_g5, ↓x0_p5, x0_r, cK_inr, CH_thr, ↓lamp_g0 hg hi, ↓lamp_g1 hg hi, ↓lamp_g2 hg hi, ↓lamp_g3 hg hi, ↓lamp_g4 hg hi, ↓lamp_g5 hg hi, ↓lamp_g6 hg hi, ↓lamp_p0 hg hi, ↓lamp_p1 hg hi, ↓lamp_p2 hg hi, ↓lamp_p3 hg hi, ↓lamp_p4 hg hi, ↓lamp_p5 hg hi, ↓lamp_p6 hg hi, ↓lamp_r hg hi, icond_lt, icond_le, icond_gt, icond_ge, icond_eq, icond_ne, narrow_bool, true_or, or_true, if_true, if_false, cK_inl, toL_some, toL_none, psum_nil, psum_int, psum_ref, psum_null, psum_long, Nat.zero_le, Nat.reduceAdd, Nat.reduceLeDiff, kl_int, kl_ref, kl_none, kl_null, kl_long]
theorem k86 (hb : b < 2) (hk : okG 0 b S) : Cp (d + 2) 86 [.ref 300, .int x] (CH c S L R) Q = (match lmp S b x with
    | none => Q (.inr IOB, CH (thr c) S L R)
    | some i => Q (.inl (some (.int (S 0 11 i))), CH c S L R)) := by
  have hg : 0 < 2 := by decide
  cases hm : lmp S b x with
  | none => simp only [ce86, ↓w86_0, ↓w86_1, ↓w86_2, ↓w86_5, ↓w86_8, k112 hb hk.1, hm, ↓x0_g0, ↓x0_g1, ↓x0_g2, ↓x0_g3, ↓x0_g4, ↓x0_g5, ↓x0_p5, x0_r, cK_inr, CH_thr, icond_lt, icond_le, icond_gt, icond_ge, icond_eq, icond_ne, narrow_bool, true_or, or_true, if_true, if_false, cK_inl, toL_some, toL_none, psum_nil, psum_int, psum_ref, psum_null, psum_long, Nat.zero_le, Nat.reduceAdd, Nat.reduceLeDiff, kl_int, kl_ref, kl_none, kl_null, kl_long]
  | some i =>
    obtain ⟨hi, rfl, h1⟩ := lmp_some hm
    have h9 := hk.2.2 i hi
    simp only [ce86, ↓w86_0, ↓w86_1, ↓w86_2, ↓w86_5, ↓w86_8, k112 hb hk.1, hm, ↓x0_g0, ↓x0_g1, ↓x0_g2, ↓x0_g3, ↓x0_g4, ↓x0_g5, ↓x0_p5, x0_r, cK_inr, CH_thr, ↓lamp_g0 hg hi, ↓lamp_g1 hg hi, ↓lamp_g2 hg hi, ↓lamp_g3 hg hi, ↓lamp_g4 hg hi, ↓lamp_g5 hg hi, ↓lamp_g6 hg hi, ↓lamp_p0 hg hi, ↓lamp_p1 hg hi, ↓lamp_p2 hg hi, ↓lamp_p3 hg hi, ↓lamp_p4 hg hi, ↓lamp_p5 hg hi, ↓lamp_p6 hg hi, ↓lamp_r hg hi, icond_lt, icond_le, icond_gt, icond_ge, icond_eq, icond_ne, narrow_bool, true_or, or_true, if_true, if_false, cK_inl, toL_some, toL_none, psum_nil, psum_int, psum_ref, psum_null, psum_long, Nat.zero_le, Nat.reduceAdd, Nat.reduceLeDiff, kl_int, kl_ref, kl_none, kl_null, kl_long]
theorem k87 (hb : b < 2) (hk : okG 0 b S) : Cp (d + 2) 87 [.ref 300, .int x] (CH c S L R) Q = (match lmp S b x with
    | none => Q (.inr IOB, CH (thr c) S L R)
    | some i => Q (.inl (some (.int (S 0 5 i))), CH c S L R)) := by
  have hg : 0 < 2 := by decide
  cases hm : lmp S b x with
  | none => simp only [ce87, ↓w87_0, ↓w87_1, ↓w87_2, ↓w87_5, ↓w87_8, k112 hb hk.1, hm, ↓x0_g0, ↓x0_g1, ↓x0_g2, ↓x0_g3, ↓x0_g4, ↓x0_g5, ↓x0_p5, x0_r, cK_inr, CH_thr, icond_lt, icond_le, icond_gt, icond_ge, icond_eq, icond_ne, narrow_bool, true_or, or_true, if_true, if_false, cK_inl, toL_some, toL_none, psum_nil, psum_int, psum_ref, psum_null, psum_long, Nat.zero_le, Nat.reduceAdd, Nat.reduceLeDiff, kl_int, kl_ref, kl_none, kl_null, kl_long]
  | some i =>
    obtain ⟨hi, rfl, h1⟩ := lmp_some hm
    have h9 := hk.2.2 i hi
    simp only [ce87, ↓w87_0, ↓w87_1, ↓w87_2, ↓w87_5, ↓w87_8, k112 hb hk.1, hm, ↓x0_g0, ↓x0_g1, ↓x0_g2, ↓x0_g3, ↓x0_g4, ↓x0_g5, ↓x0_p5, x0_r, cK_inr, CH_thr, ↓lamp_g0 hg hi, ↓lamp_g1 hg hi, ↓lamp_g2 hg hi, ↓lamp_g3 hg hi, ↓lamp_g4 hg hi, ↓lamp_g5 hg hi, ↓lamp_g6 hg hi, ↓lamp_p0 hg hi, ↓lamp_p1 hg hi, ↓lamp_p2 hg hi, ↓lamp_p3 hg hi, ↓lamp_p4 hg hi, ↓lamp_p5 hg hi, ↓lamp_p6 hg hi, ↓lamp_r hg hi, icond_lt, icond_le, icond_gt, icond_ge, icond_eq, icond_ne, narrow_bool, true_or, or_true, if_true, if_false, cK_inl, toL_some, toL_none, psum_nil, psum_int, psum_ref, psum_null, psum_long, Nat.zero_le, Nat.reduceAdd, Nat.reduceLeDiff, kl_int, kl_ref, kl_none, kl_null, kl_long]
theorem k88 (hb : b < 2) (hk : okG 0 b S) : Cp (d + 2) 88 [.ref 300, .int x] (CH c S L R) Q = (match lmp S b x with
    | none => Q (.inr IOB, CH (thr c) S L R)
    | some i => Q (.inl (some (.int (S 0 6 i))), CH c S L R)) := by
  have hg : 0 < 2 := by decide
  cases hm : lmp S b x with
  | none => simp only [ce88, ↓w88_0, ↓w88_1, ↓w88_2, ↓w88_5, ↓w88_8, k112 hb hk.1, hm, ↓x0_g0, ↓x0_g1, ↓x0_g2, ↓x0_g3, ↓x0_g4, ↓x0_g5, ↓x0_p5, x0_r, cK_inr, CH_thr, icond_lt, icond_le, icond_gt, icond_ge, icond_eq, icond_ne, narrow_bool, true_or, or_true, if_true, if_false, cK_inl, toL_some, toL_none, psum_nil, psum_int, psum_ref, psum_null, psum_long, Nat.zero_le, Nat.reduceAdd, Nat.reduceLeDiff, kl_int, kl_ref, kl_none, kl_null, kl_long]
  | some i =>
    obtain ⟨hi, rfl, h1⟩ := lmp_some hm
    have h9 := hk.2.2 i hi
    simp only [ce88, ↓w88_0, ↓w88_1, ↓w88_2, ↓w88_5, ↓w88_8, k112 hb hk.1, hm, ↓x0_g0, ↓x0_g1, ↓x0_g2, ↓x0_g3, ↓x0_g4, ↓x0_g5, ↓x0_p5, x0_r, cK_inr, CH_thr, ↓lamp_g0 hg hi, ↓lamp_g1 hg hi, ↓lamp_g2 hg hi, ↓lamp_g3 hg hi, ↓lamp_g4 hg hi, ↓lamp_g5 hg hi, ↓lamp_g6 hg hi, ↓lamp_p0 hg hi, ↓lamp_p1 hg hi, ↓lamp_p2 hg hi, ↓lamp_p3 hg hi, ↓lamp_p4 hg hi, ↓lamp_p5 hg hi, ↓lamp_p6 hg hi, ↓lamp_r hg hi, icond_lt, icond_le, icond_gt, icond_ge, icond_eq, icond_ne, narrow_bool, true_or, or_true, if_true, if_false, cK_inl, toL_some, toL_none, psum_nil, psum_int, psum_ref, psum_null, psum_long, Nat.zero_le, Nat.reduceAdd, Nat.reduceLeDiff, kl_int, kl_ref, kl_none, kl_null, kl_long]
theorem k89 (hb : b < 2) (hk : okG 0 b S) : Cp (d + 2) 89 [.ref 300, .int x] (CH c S L R) Q = (match lmp S b x with
    | none => Q (.inr IOB, CH (thr c) S L R)
    | some i => Q (.inl (some (.int (S 0 9 i))), CH c S L R)) := by
  have hg : 0 < 2 := by decide
  cases hm : lmp S b x with
  | none => simp only [ce89, ↓w89_0, ↓w89_1, ↓w89_2, ↓w89_5, ↓w89_8, k112 hb hk.1, hm, ↓x0_g0, ↓x0_g1, ↓x0_g2, ↓x0_g3, ↓x0_g4, ↓x0_g5, ↓x0_p5, x0_r, cK_inr, CH_thr, icond_lt, icond_le, icond_gt, icond_ge, icond_eq, icond_ne, narrow_bool, true_or, or_true, if_true, if_false, cK_inl, toL_some, toL_none, psum_nil, psum_int, psum_ref, psum_null, psum_long, Nat.zero_le, Nat.reduceAdd, Nat.reduceLeDiff, kl_int, kl_ref, kl_none, kl_null, kl_long]
  | some i =>
    obtain ⟨hi, rfl, h1⟩ := lmp_some hm
    have h9 := hk.2.2 i hi
    simp only [ce89, ↓w89_0, ↓w89_1, ↓w89_2, ↓w89_5, ↓w89_8, k112 hb hk.1, hm, ↓x0_g0, ↓x0_g1, ↓x0_g2, ↓x0_g3, ↓x0_g4, ↓x0_g5, ↓x0_p5, x0_r, cK_inr, CH_thr, ↓lamp_g0 hg hi, ↓lamp_g1 hg hi, ↓lamp_g2 hg hi, ↓lamp_g3 hg hi, ↓lamp_g4 hg hi, ↓lamp_g5 hg hi, ↓lamp_g6 hg hi, ↓lamp_p0 hg hi, ↓lamp_p1 hg hi, ↓lamp_p2 hg hi, ↓lamp_p3 hg hi, ↓lamp_p4 hg hi, ↓lamp_p5 hg hi, ↓lamp_p6 hg hi, ↓lamp_r hg hi, icond_lt, icond_le, icond_gt, icond_ge, icond_eq, icond_ne, narrow_bool, true_or, or_true, if_true, if_false, cK_inl, toL_some, toL_none, psum_nil, psum_int, psum_ref, psum_null, psum_long, Nat.zero_le, Nat.reduceAdd, Nat.reduceLeDiff, kl_int, kl_ref, kl_none, kl_null, kl_long, h9]
theorem k90 (hb : b < 2) (hk : okG 0 b S) : Cp (d + 2) 90 [.ref 300, .int x] (CH c S L R) Q = (match lmp S b x with
    | none => Q (.inr IOB, CH (thr c) S L R)
    | some i => Q (.inl (some (.int (S 0 8 i))), CH c S L R)) := by
  have hg : 0 < 2 := by decide
  cases hm : lmp S b x with
  | none => simp only [ce90, ↓w90_0, ↓w90_1, ↓w90_2, ↓w90_5, ↓w90_8, k112 hb hk.1, hm, ↓x0_g0, ↓x0_g1, ↓x0_g2, ↓x0_g3, ↓x0_g4, ↓x0_g5, ↓x0_p5, x0_r, cK_inr, CH_thr, icond_lt, icond_le, icond_gt, icond_ge, icond_eq, icond_ne, narrow_bool, true_or, or_true, if_true, if_false, cK_inl, toL_some, toL_none, psum_nil, psum_int, psum_ref, psum_null, psum_long, Nat.zero_le, Nat.reduceAdd, Nat.reduceLeDiff, kl_int, kl_ref, kl_none, kl_null, kl_long]
  | some i =>
    obtain ⟨hi, rfl, h1⟩ := lmp_some hm
    have h9 := hk.2.2 i hi
    simp only [ce90, ↓w90_0, ↓w90_1, ↓w90_2, ↓w90_5, ↓w90_8, k112 hb hk.1, hm, ↓x0_g0, ↓x0_g1, ↓x0_g2, ↓x0_g3, ↓x0_g4, ↓x0_g5, ↓x0_p5, x0_r, cK_inr, CH_thr, ↓lamp_g0 hg hi, ↓lamp_g1 hg hi, ↓lamp_g2 hg hi, ↓lamp_g3 hg hi, ↓lamp_g4 hg hi, ↓lamp_g5 hg hi, ↓lamp_g6 hg hi, ↓lamp_p0 hg hi, ↓lamp_p1 hg hi, ↓lamp_p2 hg hi, ↓lamp_p3 hg hi, ↓lamp_p4 hg hi, ↓lamp_p5 hg hi, ↓lamp_p6 hg hi, ↓lamp_r hg hi, icond_lt, icond_le, icond_gt, icond_ge, icond_eq, icond_ne, narrow_bool, true_or, or_true, if_true, if_false, cK_inl, toL_some, toL_none, psum_nil, psum_int, psum_ref, psum_null, psum_long, Nat.zero_le, Nat.reduceAdd, Nat.reduceLeDiff, kl_int, kl_ref, kl_none, kl_null, kl_long]
theorem k98 : Cp (d + 2) 98 [.ref 300, .int x] (CH c S L R) Q = (match lgt S x with
    | none => Q (.inr IOB, CH (thr c) S L R)
    | some l => Q (.inl (some (.int (S 0 13 l))), CH c S L R)) := by
  have hg : 0 < 2 := by decide
  cases hm : lgt S x with
  | none => simp only [ce98, ↓w98_0, ↓w98_1, ↓w98_2, ↓w98_5, ↓w98_8, k113, hm, ↓x0_g0, ↓x0_g1, ↓x0_g2, ↓x0_g3, ↓x0_g4, ↓x0_g5, ↓x0_p5, x0_r, cK_inr, CH_thr, icond_lt, icond_le, icond_gt, icond_ge, icond_eq, icond_ne, narrow_bool, true_or, or_true, if_true, if_false, cK_inl, toL_some, toL_none, psum_nil, psum_int, psum_ref, psum_null, psum_long, Nat.zero_le, Nat.reduceAdd, Nat.reduceLeDiff, kl_int, kl_ref, kl_none, kl_null, kl_long]
  | some l =>
    obtain ⟨hl, rfl, h1⟩ := lgt_some hm
    simp only [ce98, ↓w98_0, ↓w98_1, ↓w98_2, ↓w98_5, ↓w98_8, k113, hm, ↓x0_g0, ↓x0_g1, ↓x0_g2, ↓x0_g3, ↓x0_g4, ↓x0_g5, ↓x0_p5, x0_r, cK_inr, CH_thr, ↓lig_g0 hg hl, ↓lig_g1 hg hl, ↓lig_g2 hg hl, ↓lig_g3 hg hl, ↓lig_g4 hg hl, ↓lig_g5 hg hl, ↓lig_g6 hg hl, ↓lig_g7 hg hl, ↓lig_g8 hg hl, ↓lig_g9 hg hl, ↓lig_g10 hg hl, ↓lig_g11 hg hl, ↓lig_p0 hg hl, ↓lig_p1 hg hl, ↓lig_p2 hg hl, ↓lig_p3 hg hl, ↓lig_p4 hg hl, ↓lig_p5 hg hl, ↓lig_p6 hg hl, ↓lig_p8 hg hl, ↓lig_r hg hl, ↓l_notes_get hg hl, ↓l_notes_put hg hl, ↓l_firsts_get hg hl, ↓l_firsts_put hg hl, ↓l_nexts_get hg hl, ↓l_nexts_put hg hl, ↓l_repeats_get hg hl, ↓l_repeats_put hg hl, icond_lt, icond_le, icond_gt, icond_ge, icond_eq, icond_ne, narrow_bool, true_or, or_true, if_true, if_false, cK_inl, toL_some, toL_none, psum_nil, psum_int, psum_ref, psum_null, psum_long, Nat.zero_le, Nat.reduceAdd, Nat.reduceLeDiff, kl_int, kl_ref, kl_none, kl_null, kl_long]
theorem k99 : Cp (d + 2) 99 [.ref 300, .int x] (CH c S L R) Q = (match lgt S x with
    | none => Q (.inr IOB, CH (thr c) S L R)
    | some l => Q (.inl (some (.int (S 0 12 l))), CH c S L R)) := by
  have hg : 0 < 2 := by decide
  cases hm : lgt S x with
  | none => simp only [ce99, ↓w99_0, ↓w99_1, ↓w99_2, ↓w99_5, ↓w99_8, k113, hm, ↓x0_g0, ↓x0_g1, ↓x0_g2, ↓x0_g3, ↓x0_g4, ↓x0_g5, ↓x0_p5, x0_r, cK_inr, CH_thr, icond_lt, icond_le, icond_gt, icond_ge, icond_eq, icond_ne, narrow_bool, true_or, or_true, if_true, if_false, cK_inl, toL_some, toL_none, psum_nil, psum_int, psum_ref, psum_null, psum_long, Nat.zero_le, Nat.reduceAdd, Nat.reduceLeDiff, kl_int, kl_ref, kl_none, kl_null, kl_long]
  | some l =>
    obtain ⟨hl, rfl, h1⟩ := lgt_some hm
    simp only [ce99, ↓w99_0, ↓w99_1, ↓w99_2, ↓w99_5, ↓w99_8, k113, hm, ↓x0_g0, ↓x0_g1, ↓x0_g2, ↓x0_g3, ↓x0_g4, ↓x0_g5, ↓x0_p5, x0_r, cK_inr, CH_thr, ↓lig_g0 hg hl, ↓lig_g1 hg hl, ↓lig_g2 hg hl, ↓lig_g3 hg hl, ↓lig_g4 hg hl, ↓lig_g5 hg hl, ↓lig_g6 hg hl, ↓lig_g7 hg hl, ↓lig_g8 hg hl, ↓lig_g9 hg hl, ↓lig_g10 hg hl, ↓lig_g11 hg hl, ↓lig_p0 hg hl, ↓lig_p1 hg hl, ↓lig_p2 hg hl, ↓lig_p3 hg hl, ↓lig_p4 hg hl, ↓lig_p5 hg hl, ↓lig_p6 hg hl, ↓lig_p8 hg hl, ↓lig_r hg hl, ↓l_notes_get hg hl, ↓l_notes_put hg hl, ↓l_firsts_get hg hl, ↓l_firsts_put hg hl, ↓l_nexts_get hg hl, ↓l_nexts_put hg hl, ↓l_repeats_get hg hl, ↓l_repeats_put hg hl, icond_lt, icond_le, icond_gt, icond_ge, icond_eq, icond_ne, narrow_bool, true_or, or_true, if_true, if_false, cK_inl, toL_some, toL_none, psum_nil, psum_int, psum_ref, psum_null, psum_long, Nat.zero_le, Nat.reduceAdd, Nat.reduceLeDiff, kl_int, kl_ref, kl_none, kl_null, kl_long]
theorem k103 : Cp (d + 2) 103 [.ref 300, .int x] (CH c S L R) Q = (match lgt S x with
    | none => Q (.inr IOB, CH (thr c) S L R)
    | some l => Q (.inl (some (.int (S 0 16 l))), CH c S L R)) := by
  have hg : 0 < 2 := by decide
  cases hm : lgt S x with
  | none => simp only [ce103, ↓w103_0, ↓w103_1, ↓w103_2, ↓w103_5, ↓w103_8, k113, hm, ↓x0_g0, ↓x0_g1, ↓x0_g2, ↓x0_g3, ↓x0_g4, ↓x0_g5, ↓x0_p5, x0_r, cK_inr, CH_thr, icond_lt, icond_le, icond_gt, icond_ge, icond_eq, icond_ne, narrow_bool, true_or, or_true, if_true, if_false, cK_inl, toL_some, toL_none, psum_nil, psum_int, psum_ref, psum_null, psum_long, Nat.zero_le, Nat.reduceAdd, Nat.reduceLeDiff, kl_int, kl_ref, kl_none, kl_null, kl_long]
  | some l =>
    obtain ⟨hl, rfl, h1⟩ := lgt_some hm
    simp only [ce103, ↓w103_0, ↓w103_1, ↓w103_2, ↓w103_5, ↓w103_8, k113, hm, ↓x0_g0, ↓x0_g1, ↓x0_g2, ↓x0_g3, ↓x0_g4, ↓x0_g5, ↓x0_p5, x0_r, cK_inr, CH_thr, ↓lig_g0 hg hl, ↓lig_g1 hg hl, ↓lig_g2 hg hl, ↓lig_g3 hg hl, ↓lig_g4 hg hl, ↓lig_g5 hg hl, ↓lig_g6 hg hl, ↓lig_g7 hg hl, ↓lig_g8 hg hl, ↓lig_g9 hg hl, ↓lig_g10 hg hl, ↓lig_g11 hg hl, ↓lig_p0 hg hl, ↓lig_p1 hg hl, ↓lig_p2 hg hl, ↓lig_p3 hg hl, ↓lig_p4 hg hl, ↓lig_p5 hg hl, ↓lig_p6 hg hl, ↓lig_p8 hg hl, ↓lig_r hg hl, ↓l_notes_get hg hl, ↓l_notes_put hg hl, ↓l_firsts_get hg hl, ↓l_firsts_put hg hl, ↓l_nexts_get hg hl, ↓l_nexts_put hg hl, ↓l_repeats_get hg hl, ↓l_repeats_put hg hl, icond_lt, icond_le, icond_gt, icond_ge, icond_eq, icond_ne, narrow_bool, true_or, or_true, if_true, if_false, cK_inl, toL_some, toL_none, psum_nil, psum_int, psum_ref, psum_null, psum_long, Nat.zero_le, Nat.reduceAdd, Nat.reduceLeDiff, kl_int, kl_ref, kl_none, kl_null, kl_long]
theorem k104 : Cp (d + 2) 104 [.ref 300, .int x] (CH c S L R) Q = (match lgt S x with
    | none => Q (.inr IOB, CH (thr c) S L R)
    | some l => Q (.inl (some (.int (S 0 17 l))), CH c S L R)) := by
  have hg : 0 < 2 := by decide
  cases hm : lgt S x with
  | none => simp only [ce104, ↓w104_0, ↓w104_1, ↓w104_2, ↓w104_5, ↓w104_8, k113, hm, ↓x0_g0, ↓x0_g1, ↓x0_g2, ↓x0_g3, ↓x0_g4, ↓x0_g5, ↓x0_p5, x0_r, cK_inr, CH_thr, icond_lt, icond_le, icond_gt, icond_ge, icond_eq, icond_ne, narrow_bool, true_or, or_true, if_true, if_false, cK_inl, toL_some, toL_none, psum_nil, psum_int, psum_ref, psum_null, psum_long, Nat.zero_le, Nat.reduceAdd, Nat.reduceLeDiff, kl_int, kl_ref, kl_none, kl_null, kl_long]
  | some l =>
    obtain ⟨hl, rfl, h1⟩ := lgt_some hm
    simp only [ce104, ↓w104_0, ↓w104_1, ↓w104_2, ↓w104_5, ↓w104_8, k113, hm, ↓x0_g0, ↓x0_g1, ↓x0_g2, ↓x0_g3, ↓x0_g4, ↓x0_g5, ↓x0_p5, x0_r, cK_inr, CH_thr, ↓lig_g0 hg hl, ↓lig_g1 hg hl, ↓lig_g2 hg hl, ↓lig_g3 hg hl, ↓lig_g4 hg hl, ↓lig_g5 hg hl, ↓lig_g6 hg hl, ↓lig_g7 hg hl, ↓lig_g8 hg hl, ↓lig_g9 hg hl, ↓lig_g10 hg hl, ↓lig_g11 hg hl, ↓lig_p0 hg hl, ↓lig_p1 hg hl, ↓lig_p2 hg hl, ↓lig_p3 hg hl, ↓lig_p4 hg hl, ↓lig_p5 hg hl, ↓lig_p6 hg hl, ↓lig_p8 hg hl, ↓lig_r hg hl, ↓l_notes_get hg hl, ↓l_notes_put hg hl, ↓l_firsts_get hg hl, ↓l_firsts_put hg hl, ↓l_nexts_get hg hl, ↓l_nexts_put hg hl, ↓l_repeats_get hg hl, ↓l_repeats_put hg hl, icond_lt, icond_le, icond_gt, icond_ge, icond_eq, icond_ne, narrow_bool, true_or, or_true, if_true, if_false, cK_inl, toL_some, toL_none, psum_nil, psum_int, psum_ref, psum_null, psum_long, Nat.zero_le, Nat.reduceAdd, Nat.reduceLeDiff, kl_int, kl_ref, kl_none, kl_null, kl_long]
theorem k92 : Cp (d + 1) 92 [.ref 300] (CH c S L R) Q = Q (.inl (some (.int (S 0 2 0))), CH c S L R) := by
  have hg : 0 < 2 := by decide
  simp only [ce92, ↓w92_0, ↓w92_1, ↓w92_4, ↓w92_7, ↓x0_g0, ↓x0_g1, ↓x0_g2, ↓x0_g3, ↓x0_g4, ↓x0_g5, ↓x0_p5, x0_r, cK_inr, CH_thr, ↓town_g0 hg, ↓town_g1 hg, ↓town_g2 hg, ↓town_g3 hg, ↓town_g4 hg, ↓town_g5 hg, ↓town_g6 hg, ↓town_g7 hg, ↓town_p3 hg, ↓town_p4 hg, ↓town_p5 hg, ↓town_p6 hg, ↓town_p7 hg, ↓town_r hg, ↓lmps_n hg, ↓lgts_n hg, icond_lt, icond_le, icond_gt, icond_ge, icond_eq, icond_ne, narrow_bool, true_or, or_true, if_true, if_false, cK_inl, toL_some, toL_none, psum_nil, psum_int, psum_ref, psum_null, psum_long, Nat.zero_le, Nat.reduceAdd, Nat.reduceLeDiff, kl_int, kl_ref, kl_none, kl_null, kl_long]
theorem k93 : Cp (d + 1) 93 [.ref 300] (CH c S L R) Q = Q (.inl (some (.int (S 0 0 0))), CH c S L R) := by
  have hg : 0 < 2 := by decide
  simp only [ce93, ↓w93_0, ↓w93_1, ↓w93_4, ↓w93_7, ↓x0_g0, ↓x0_g1, ↓x0_g2, ↓x0_g3, ↓x0_g4, ↓x0_g5, ↓x0_p5, x0_r, cK_inr, CH_thr, ↓town_g0 hg, ↓town_g1 hg, ↓town_g2 hg, ↓town_g3 hg, ↓town_g4 hg, ↓town_g5 hg, ↓town_g6 hg, ↓town_g7 hg, ↓town_p3 hg, ↓town_p4 hg, ↓town_p5 hg, ↓town_p6 hg, ↓town_p7 hg, ↓town_r hg, ↓lmps_n hg, ↓lgts_n hg, icond_lt, icond_le, icond_gt, icond_ge, icond_eq, icond_ne, narrow_bool, true_or, or_true, if_true, if_false, cK_inl, toL_some, toL_none, psum_nil, psum_int, psum_ref, psum_null, psum_long, Nat.zero_le, Nat.reduceAdd, Nat.reduceLeDiff, kl_int, kl_ref, kl_none, kl_null, kl_long]
theorem k94 : Cp (d + 1) 94 [.ref 300] (CH c S L R) Q = Q (.inl (some (.int (S 0 1 0))), CH c S L R) := by
  have hg : 0 < 2 := by decide
  simp only [ce94, ↓w94_0, ↓w94_1, ↓w94_4, ↓w94_7, ↓x0_g0, ↓x0_g1, ↓x0_g2, ↓x0_g3, ↓x0_g4, ↓x0_g5, ↓x0_p5, x0_r, cK_inr, CH_thr, ↓town_g0 hg, ↓town_g1 hg, ↓town_g2 hg, ↓town_g3 hg, ↓town_g4 hg, ↓town_g5 hg, ↓town_g6 hg, ↓town_g7 hg, ↓town_p3 hg, ↓town_p4 hg, ↓town_p5 hg, ↓town_p6 hg, ↓town_p7 hg, ↓town_r hg, ↓lmps_n hg, ↓lgts_n hg, icond_lt, icond_le, icond_gt, icond_ge, icond_eq, icond_ne, narrow_bool, true_or, or_true, if_true, if_false, cK_inl, toL_some, toL_none, psum_nil, psum_int, psum_ref, psum_null, psum_long, Nat.zero_le, Nat.reduceAdd, Nat.reduceLeDiff, kl_int, kl_ref, kl_none, kl_null, kl_long]
theorem k97 : Cp (d + 1) 97 [.ref 300] (CH c S L R) Q = Q (.inl (some (.int (S 0 4 0))), CH c S L R) := by
  have hg : 0 < 2 := by decide
  simp only [ce97, ↓w97_0, ↓w97_1, ↓w97_4, ↓w97_7, ↓x0_g0, ↓x0_g1, ↓x0_g2, ↓x0_g3, ↓x0_g4, ↓x0_g5, ↓x0_p5, x0_r, cK_inr, CH_thr, ↓town_g0 hg, ↓town_g1 hg, ↓town_g2 hg, ↓town_g3 hg, ↓town_g4 hg, ↓town_g5 hg, ↓town_g6 hg, ↓town_g7 hg, ↓town_p3 hg, ↓town_p4 hg, ↓town_p5 hg, ↓town_p6 hg, ↓town_p7 hg, ↓town_r hg, ↓lmps_n hg, ↓lgts_n hg, icond_lt, icond_le, icond_gt, icond_ge, icond_eq, icond_ne, narrow_bool, true_or, or_true, if_true, if_false, cK_inl, toL_some, toL_none, psum_nil, psum_int, psum_ref, psum_null, psum_long, Nat.zero_le, Nat.reduceAdd, Nat.reduceLeDiff, kl_int, kl_ref, kl_none, kl_null, kl_long]
theorem k82 (hb : b < 2) (hB : (S 0 60 0).toNatClampNeg = BA b) : Cp (d + 1) 82 [.ref 300] (CH c S L R) Q = Q (.inl (some (.int (S (2 + b) 100 0))), CH c S L R) := by
  have hg : 0 < 2 := by decide
  simp only [ce82, ↓w82_0, ↓w82_1, ↓w82_4, ↓w82_7, ↓w82_10, ↓x0_g0, ↓x0_g1, ↓x0_g2, ↓x0_g3, ↓x0_g4, ↓x0_g5, ↓x0_p5, x0_r, cK_inr, CH_thr, ↓town_g0 hg, ↓town_g1 hg, ↓town_g2 hg, ↓town_g3 hg, ↓town_g4 hg, ↓town_g5 hg, ↓town_g6 hg, ↓town_g7 hg, ↓town_p3 hg, ↓town_p4 hg, ↓town_p5 hg, ↓town_p6 hg, ↓town_p7 hg, ↓town_r hg, ↓lmps_n hg, ↓lgts_n hg, hB, ↓book_g0 hb, ↓book_g1 hb, ↓book_g2 hb, ↓book_g3 hb, ↓book_g4 hb, ↓book_g5 hb, ↓book_g6 hb, ↓book_g7 hb, ↓book_g8 hb, ↓book_g9 hb, ↓book_g10 hb, ↓book_g11 hb, ↓book_g12 hb, ↓book_g13 hb, ↓book_g14 hb, ↓book_g15 hb, ↓book_g16 hb, ↓b_posts_get hb, ↓b_rooms_get hb, ↓b_blocks_get hb, ↓b_words_get hb, ↓b_values_get hb, ↓b_behind_get hb, ↓b_bodies_get hb, ↓b_elses_get hb, ↓b_fstc_get hb, ↓b_endc_get hb, ↓b_lefts_get hb, ↓b_signs_get hb, ↓b_rights_get hb, icond_lt, icond_le, icond_gt, icond_ge, icond_eq, icond_ne, narrow_bool, true_or, or_true, if_true, if_false, cK_inl, toL_some, toL_none, psum_nil, psum_int, psum_ref, psum_null, psum_long, Nat.zero_le, Nat.reduceAdd, Nat.reduceLeDiff, kl_int, kl_ref, kl_none, kl_null, kl_long]
theorem k83 (hb : b < 2) (hB : (S 0 60 0).toNatClampNeg = BA b) : Cp (d + 1) 83 [.ref 300] (CH c S L R) Q = Q (.inl (some (.int (S (2 + b) 101 0))), CH c S L R) := by
  have hg : 0 < 2 := by decide
  simp only [ce83, ↓w83_0, ↓w83_1, ↓w83_4, ↓w83_7, ↓w83_10, ↓x0_g0, ↓x0_g1, ↓x0_g2, ↓x0_g3, ↓x0_g4, ↓x0_g5, ↓x0_p5, x0_r, cK_inr, CH_thr, ↓town_g0 hg, ↓town_g1 hg, ↓town_g2 hg, ↓town_g3 hg, ↓town_g4 hg, ↓town_g5 hg, ↓town_g6 hg, ↓town_g7 hg, ↓town_p3 hg, ↓town_p4 hg, ↓town_p5 hg, ↓town_p6 hg, ↓town_p7 hg, ↓town_r hg, ↓lmps_n hg, ↓lgts_n hg, hB, ↓book_g0 hb, ↓book_g1 hb, ↓book_g2 hb, ↓book_g3 hb, ↓book_g4 hb, ↓book_g5 hb, ↓book_g6 hb, ↓book_g7 hb, ↓book_g8 hb, ↓book_g9 hb, ↓book_g10 hb, ↓book_g11 hb, ↓book_g12 hb, ↓book_g13 hb, ↓book_g14 hb, ↓book_g15 hb, ↓book_g16 hb, ↓b_posts_get hb, ↓b_rooms_get hb, ↓b_blocks_get hb, ↓b_words_get hb, ↓b_values_get hb, ↓b_behind_get hb, ↓b_bodies_get hb, ↓b_elses_get hb, ↓b_fstc_get hb, ↓b_endc_get hb, ↓b_lefts_get hb, ↓b_signs_get hb, ↓b_rights_get hb, icond_lt, icond_le, icond_gt, icond_ge, icond_eq, icond_ne, narrow_bool, true_or, or_true, if_true, if_false, cK_inl, toL_some, toL_none, psum_nil, psum_int, psum_ref, psum_null, psum_long, Nat.zero_le, Nat.reduceAdd, Nat.reduceLeDiff, kl_int, kl_ref, kl_none, kl_null, kl_long]
theorem k84 (hb : b < 2) (hB : (S 0 60 0).toNatClampNeg = BA b) : Cp (d + 1) 84 [.ref 300] (CH c S L R) Q = Q (.inl (some (.int (S (2 + b) 102 0))), CH c S L R) := by
  have hg : 0 < 2 := by decide
  simp only [ce84, ↓w84_0, ↓w84_1, ↓w84_4, ↓w84_7, ↓w84_10, ↓x0_g0, ↓x0_g1, ↓x0_g2, ↓x0_g3, ↓x0_g4, ↓x0_g5, ↓x0_p5, x0_r, cK_inr, CH_thr, ↓town_g0 hg, ↓town_g1 hg, ↓town_g2 hg, ↓town_g3 hg, ↓town_g4 hg, ↓town_g5 hg, ↓town_g6 hg, ↓town_g7 hg, ↓town_p3 hg, ↓town_p4 hg, ↓town_p5 hg, ↓town_p6 hg, ↓town_p7 hg, ↓town_r hg, ↓lmps_n hg, ↓lgts_n hg, hB, ↓book_g0 hb, ↓book_g1 hb, ↓book_g2 hb, ↓book_g3 hb, ↓book_g4 hb, ↓book_g5 hb, ↓book_g6 hb, ↓book_g7 hb, ↓book_g8 hb, ↓book_g9 hb, ↓book_g10 hb, ↓book_g11 hb, ↓book_g12 hb, ↓book_g13 hb, ↓book_g14 hb, ↓book_g15 hb, ↓book_g16 hb, ↓b_posts_get hb, ↓b_rooms_get hb, ↓b_blocks_get hb, ↓b_words_get hb, ↓b_values_get hb, ↓b_behind_get hb, ↓b_bodies_get hb, ↓b_elses_get hb, ↓b_fstc_get hb, ↓b_endc_get hb, ↓b_lefts_get hb, ↓b_signs_get hb, ↓b_rights_get hb, icond_lt, icond_le, icond_gt, icond_ge, icond_eq, icond_ne, narrow_bool, true_or, or_true, if_true, if_false, cK_inl, toL_some, toL_none, psum_nil, psum_int, psum_ref, psum_null, psum_long, Nat.zero_le, Nat.reduceAdd, Nat.reduceLeDiff, kl_int, kl_ref, kl_none, kl_null, kl_long]
theorem k72 : Cp (d + 1) 72 [.ref 300] (CH c S L R) Q = Q (.inl (some (.int (S 4 205 0))), CH c S L R) := by
  simp only [ce72, ↓w72_0, ↓w72_1, ↓w72_4, ↓x0_g0, ↓x0_g1, ↓x0_g2, ↓x0_g3, ↓x0_g4, ↓x0_g5, ↓x0_p5, x0_r, cK_inr, CH_thr, icond_lt, icond_le, icond_gt, icond_ge, icond_eq, icond_ne, narrow_bool, true_or, or_true, if_true, if_false, cK_inl, toL_some, toL_none, psum_nil, psum_int, psum_ref, psum_null, psum_long, Nat.zero_le, Nat.reduceAdd, Nat.reduceLeDiff, kl_int, kl_ref, kl_none, kl_null, kl_long]
theorem k95 : Cp (d + 2) 95 [.ref 300] (CH c S L R) Q = Q (.inl (some (.int (moonI (S 0 0 0)))), CH c S L R) := by
  have hg : 0 < 2 := by decide
  simp only [ce95, ↓w95_0, ↓w95_1, ↓w95_4, ↓w95_7, ↓w95_10, ↓x0_g0, ↓x0_g1, ↓x0_g2, ↓x0_g3, ↓x0_g4, ↓x0_g5, ↓x0_p5, x0_r, cK_inr, CH_thr, ↓town_g0 hg, ↓town_g1 hg, ↓town_g2 hg, ↓town_g3 hg, ↓town_g4 hg, ↓town_g5 hg, ↓town_g6 hg, ↓town_g7 hg, ↓town_p3 hg, ↓town_p4 hg, ↓town_p5 hg, ↓town_p6 hg, ↓town_p7 hg, ↓town_r hg, ↓lmps_n hg, ↓lgts_n hg, k114, icond_lt, icond_le, icond_gt, icond_ge, icond_eq, icond_ne, narrow_bool, true_or, or_true, if_true, if_false, cK_inl, toL_some, toL_none, psum_nil, psum_int, psum_ref, psum_null, psum_long, Nat.zero_le, Nat.reduceAdd, Nat.reduceLeDiff, kl_int, kl_ref, kl_none, kl_null, kl_long]
theorem rest_01 : restS S g = 0 ∨ restS S g = 1 := by
  unfold restS
  split
  · split
    · exact Or.inl rfl
    · exact Or.inr rfl
  · exact Or.inl rfl
theorem k96 : Cp (d + 3) 96 [.ref 300] (CH c S L R) Q = Q (.inl (some (.int (restS S 0))), CH c S L R) := by
  have hg : 0 < 2 := by decide
  simp only [ce96, ↓w96_0, ↓w96_1, ↓w96_4, ↓w96_7, ↓x0_g0, ↓x0_g1, ↓x0_g2, ↓x0_g3, ↓x0_g4, ↓x0_g5, ↓x0_p5, x0_r, cK_inr, CH_thr, ↓town_g0 hg, ↓town_g1 hg, ↓town_g2 hg, ↓town_g3 hg, ↓town_g4 hg, ↓town_g5 hg, ↓town_g6 hg, ↓town_g7 hg, ↓town_p3 hg, ↓town_p4 hg, ↓town_p5 hg, ↓town_p6 hg, ↓town_p7 hg, ↓town_r hg, ↓lmps_n hg, ↓lgts_n hg, k54 hg, rest_01, icond_lt, icond_le, icond_gt, icond_ge, icond_eq, icond_ne, narrow_bool, true_or, or_true, if_true, if_false, cK_inl, toL_some, toL_none, psum_nil, psum_int, psum_ref, psum_null, psum_long, Nat.zero_le, Nat.reduceAdd, Nat.reduceLeDiff, kl_int, kl_ref, kl_none, kl_null, kl_long]
theorem end_01 : endS g l S = 0 ∨ endS g l S = 1 := by
  unfold endS
  split
  · split
    · exact Or.inr rfl
    · exact Or.inl rfl
  · exact Or.inl rfl
theorem k102 : Cp (d + 2) 102 [.ref 300, .int x] (CH c S L R) Q = (match lgt S x with
    | none => Q (.inr IOB, CH (thr c) S L R)
    | some l => Q (.inl (some (.int (endS 0 l S))), CH c S L R)) := by
  have hg : 0 < 2 := by decide
  cases hm : lgt S x with
  | none => simp only [ce102, ↓w102_0, ↓w102_1, ↓w102_2, ↓w102_5, ↓w102_8, k113, hm, ↓x0_g0, ↓x0_g1, ↓x0_g2, ↓x0_g3, ↓x0_g4, ↓x0_g5, ↓x0_p5, x0_r, cK_inr, CH_thr, icond_lt, icond_le, icond_gt, icond_ge, icond_eq, icond_ne, narrow_bool, true_or, or_true, if_true, if_false, cK_inl, toL_some, toL_none, psum_nil, psum_int, psum_ref, psum_null, psum_long, Nat.zero_le, Nat.reduceAdd, Nat.reduceLeDiff, kl_int, kl_ref, kl_none, kl_null, kl_long]
  | some l =>
    obtain ⟨hl, rfl, h1⟩ := lgt_some hm
    simp only [ce102, ↓w102_0, ↓w102_1, ↓w102_2, ↓w102_5, ↓w102_8, k113, hm, ↓x0_g0, ↓x0_g1, ↓x0_g2, ↓x0_g3, ↓x0_g4, ↓x0_g5, ↓x0_p5, x0_r, cK_inr, CH_thr, ↓lig_g0 hg hl, ↓lig_g1 hg hl, ↓lig_g2 hg hl, ↓lig_g3 hg hl, ↓lig_g4 hg hl, ↓lig_g5 hg hl, ↓lig_g6 hg hl, ↓lig_g7 hg hl, ↓lig_g8 hg hl, ↓lig_g9 hg hl, ↓lig_g10 hg hl, ↓lig_g11 hg hl, ↓lig_p0 hg hl, ↓lig_p1 hg hl, ↓lig_p2 hg hl, ↓lig_p3 hg hl, ↓lig_p4 hg hl, ↓lig_p5 hg hl, ↓lig_p6 hg hl, ↓lig_p8 hg hl, ↓lig_r hg hl, ↓l_notes_get hg hl, ↓l_notes_put hg hl, ↓l_firsts_get hg hl, ↓l_firsts_put hg hl, ↓l_nexts_get hg hl, ↓l_nexts_put hg hl, ↓l_repeats_get hg hl, ↓l_repeats_put hg hl, k13 hg hl, end_01, icond_lt, icond_le, icond_gt, icond_ge, icond_eq, icond_ne, narrow_bool, true_or, or_true, if_true, if_false, cK_inl, toL_some, toL_none, psum_nil, psum_int, psum_ref, psum_null, psum_long, Nat.zero_le, Nat.reduceAdd, Nat.reduceLeDiff, kl_int, kl_ref, kl_none, kl_null, kl_long]
theorem k100 : Cp (d + 2) 100 [.ref 300, .int x] (CH c S L R) Q = (match lgt S x with
    | none => Q (.inr IOB, CH (thr c) S L R)
    | some l => Q (.inl (some (.int (if S 0 14 l = -1 then 0 else 1))), CH c S L R)) := by
  have hg : 0 < 2 := by decide
  cases hm : lgt S x with
  | none => simp only [ce100, ↓w100_0, ↓w100_1, ↓w100_2, ↓w100_5, ↓w100_8, ↓w100_9, ↓w100_12, ↓w100_13, ↓w100_16, ↓w100_17, k113, hm, ↓x0_g0, ↓x0_g1, ↓x0_g2, ↓x0_g3, ↓x0_g4, ↓x0_g5, ↓x0_p5, x0_r, cK_inr, CH_thr, icond_lt, icond_le, icond_gt, icond_ge, icond_eq, icond_ne, narrow_bool, true_or, or_true, if_true, if_false, cK_inl, toL_some, toL_none, psum_nil, psum_int, psum_ref, psum_null, psum_long, Nat.zero_le, Nat.reduceAdd, Nat.reduceLeDiff, kl_int, kl_ref, kl_none, kl_null, kl_long]
  | some l =>
    obtain ⟨hl, rfl, h1⟩ := lgt_some hm
    by_cases h2 : S 0 14 l = -1 <;> simp only [ce100, ↓w100_0, ↓w100_1, ↓w100_2, ↓w100_5, ↓w100_8, ↓w100_9, ↓w100_12, ↓w100_13, ↓w100_16, ↓w100_17, k113, hm, ↓x0_g0, ↓x0_g1, ↓x0_g2, ↓x0_g3, ↓x0_g4, ↓x0_g5, ↓x0_p5, x0_r, cK_inr, CH_thr, ↓lig_g0 hg hl, ↓lig_g1 hg hl, ↓lig_g2 hg hl, ↓lig_g3 hg hl, ↓lig_g4 hg hl, ↓lig_g5 hg hl, ↓lig_g6 hg hl, ↓lig_g7 hg hl, ↓lig_g8 hg hl, ↓lig_g9 hg hl, ↓lig_g10 hg hl, ↓lig_g11 hg hl, ↓lig_p0 hg hl, ↓lig_p1 hg hl, ↓lig_p2 hg hl, ↓lig_p3 hg hl, ↓lig_p4 hg hl, ↓lig_p5 hg hl, ↓lig_p6 hg hl, ↓lig_p8 hg hl, ↓lig_r hg hl, ↓l_notes_get hg hl, ↓l_notes_put hg hl, ↓l_firsts_get hg hl, ↓l_firsts_put hg hl, ↓l_nexts_get hg hl, ↓l_nexts_put hg hl, ↓l_repeats_get hg hl, ↓l_repeats_put hg hl, icond_lt, icond_le, icond_gt, icond_ge, icond_eq, icond_ne, narrow_bool, true_or, or_true, if_true, if_false, cK_inl, toL_some, toL_none, psum_nil, psum_int, psum_ref, psum_null, psum_long, Nat.zero_le, Nat.reduceAdd, Nat.reduceLeDiff, kl_int, kl_ref, kl_none, kl_null, kl_long, h2]
theorem k101 : Cp (d + 2) 101 [.ref 300, .int x] (CH c S L R) Q = (match lgt S x with
    | none => Q (.inr IOB, CH (thr c) S L R)
    | some l => if S 0 14 l = -1 then Q (.inr ISE, CH (thr c) S L R) else Q (.inl (some (.int (S 0 14 l))), CH c S L R)) := by
  have hg : 0 < 2 := by decide
  cases hm : lgt S x with
  | none => simp only [ce101, ↓w101_0, ↓w101_1, ↓w101_2, ↓w101_5, ↓w101_8, ↓w101_9, ↓w101_10, ↓w101_11, ↓w101_14, ↓w101_17, ↓w101_17i, ↓w101_18, ↓w101_24, ↓w101_25, k113, hm, ↓x0_g0, ↓x0_g1, ↓x0_g2, ↓x0_g3, ↓x0_g4, ↓x0_g5, ↓x0_p5, x0_r, cK_inr, CH_thr, icond_lt, icond_le, icond_gt, icond_ge, icond_eq, icond_ne, narrow_bool, true_or, or_true, if_true, if_false, cK_inl, toL_some, toL_none, psum_nil, psum_int, psum_ref, psum_null, psum_long, Nat.zero_le, Nat.reduceAdd, Nat.reduceLeDiff, kl_int, kl_ref, kl_none, kl_null, kl_long]
  | some l =>
    obtain ⟨hl, rfl, h1⟩ := lgt_some hm
    by_cases h2 : S 0 14 l = -1
    · simp only [ce101, ↓w101_0, ↓w101_1, ↓w101_2, ↓w101_5, ↓w101_8, ↓w101_9, ↓w101_10, ↓w101_11, ↓w101_14, ↓w101_17, ↓w101_17i, ↓w101_18, ↓w101_24, ↓w101_25, k113, hm, ↓x0_g0, ↓x0_g1, ↓x0_g2, ↓x0_g3, ↓x0_g4, ↓x0_g5, ↓x0_p5, x0_r, cK_inr, CH_thr, ↓lig_g0 hg hl, ↓lig_g1 hg hl, ↓lig_g2 hg hl, ↓lig_g3 hg hl, ↓lig_g4 hg hl, ↓lig_g5 hg hl, ↓lig_g6 hg hl, ↓lig_g7 hg hl, ↓lig_g8 hg hl, ↓lig_g9 hg hl, ↓lig_g10 hg hl, ↓lig_g11 hg hl, ↓lig_p0 hg hl, ↓lig_p1 hg hl, ↓lig_p2 hg hl, ↓lig_p3 hg hl, ↓lig_p4 hg hl, ↓lig_p5 hg hl, ↓lig_p6 hg hl, ↓lig_p8 hg hl, ↓lig_r hg hl, ↓l_notes_get hg hl, ↓l_notes_put hg hl, ↓l_firsts_get hg hl, ↓l_firsts_put hg hl, ↓l_nexts_get hg hl, ↓l_nexts_put hg hl, ↓l_repeats_get hg hl, ↓l_repeats_put hg hl, icond_lt, icond_le, icond_gt, icond_ge, icond_eq, icond_ne, narrow_bool, true_or, or_true, if_true, if_false, cK_inl, toL_some, toL_none, psum_nil, psum_int, psum_ref, psum_null, psum_long, Nat.zero_le, Nat.reduceAdd, Nat.reduceLeDiff, kl_int, kl_ref, kl_none, kl_null, kl_long, h2, ne_eq, not_true]
      rfl
    · simp only [ce101, ↓w101_0, ↓w101_1, ↓w101_2, ↓w101_5, ↓w101_8, ↓w101_9, ↓w101_10, ↓w101_11, ↓w101_14, ↓w101_17, ↓w101_17i, ↓w101_18, ↓w101_24, ↓w101_25, k113, hm, ↓x0_g0, ↓x0_g1, ↓x0_g2, ↓x0_g3, ↓x0_g4, ↓x0_g5, ↓x0_p5, x0_r, cK_inr, CH_thr, ↓lig_g0 hg hl, ↓lig_g1 hg hl, ↓lig_g2 hg hl, ↓lig_g3 hg hl, ↓lig_g4 hg hl, ↓lig_g5 hg hl, ↓lig_g6 hg hl, ↓lig_g7 hg hl, ↓lig_g8 hg hl, ↓lig_g9 hg hl, ↓lig_g10 hg hl, ↓lig_g11 hg hl, ↓lig_p0 hg hl, ↓lig_p1 hg hl, ↓lig_p2 hg hl, ↓lig_p3 hg hl, ↓lig_p4 hg hl, ↓lig_p5 hg hl, ↓lig_p6 hg hl, ↓lig_p8 hg hl, ↓lig_r hg hl, ↓l_notes_get hg hl, ↓l_notes_put hg hl, ↓l_firsts_get hg hl, ↓l_firsts_put hg hl, ↓l_nexts_get hg hl, ↓l_nexts_put hg hl, ↓l_repeats_get hg hl, ↓l_repeats_put hg hl, icond_lt, icond_le, icond_gt, icond_ge, icond_eq, icond_ne, narrow_bool, true_or, or_true, if_true, if_false, cK_inl, toL_some, toL_none, psum_nil, psum_int, psum_ref, psum_null, psum_long, Nat.zero_le, Nat.reduceAdd, Nat.reduceLeDiff, kl_int, kl_ref, kl_none, kl_null, kl_long, h2, ne_eq, not_true, not_false_eq_true]
theorem k105 : Cp (d + 3) 105 [.ref 300, .int x, .int y] (CH c S L R) Q = (match lgt S x with
    | none => Q (.inr IOB, CH (thr c) S L R)
    | some l => if y < 0 then Q (.inr IOB, CH (thr c) S L R) else if 20 ≤ y then Q (.inr IOB, CH (thr c) S L R) else if S 0 17 l ≤ y then Q (.inr IOB, CH (thr c) S L R)
      else Q (.inl (some (.int (nbkS 0 l S y))), CH c S L R)) := by
  have hg : 0 < 2 := by decide
  cases hm : lgt S x with
  | none => simp only [ce105, ↓w105_0, ↓w105_1, ↓w105_2, ↓w105_5, ↓w105_6, ↓w105_7, ↓w105_10, ↓w105_11, ↓w105_13, ↓w105_16, ↓w105_17, ↓w105_18, ↓w105_21, ↓w105_24, ↓w105_27, ↓w105_27i, ↓w105_28, ↓w105_34, ↓w105_35, ↓w105_36, ↓w105_39, k113, hm, ↓x0_g0, ↓x0_g1, ↓x0_g2, ↓x0_g3, ↓x0_g4, ↓x0_g5, ↓x0_p5, x0_r, cK_inr, CH_thr, icond_lt, icond_le, icond_gt, icond_ge, icond_eq, icond_ne, narrow_bool, true_or, or_true, if_true, if_false, cK_inl, toL_some, toL_none, psum_nil, psum_int, psum_ref, psum_null, psum_long, Nat.zero_le, Nat.reduceAdd, Nat.reduceLeDiff, kl_int, kl_ref, kl_none, kl_null, kl_long]
  | some l =>
    obtain ⟨hl, rfl, h1⟩ := lgt_some hm
    by_cases h2 : y < 0
    · simp only [ce105, ↓w105_0, ↓w105_1, ↓w105_2, ↓w105_5, ↓w105_6, ↓w105_7, ↓w105_10, ↓w105_11, ↓w105_13, ↓w105_16, ↓w105_17, ↓w105_18, ↓w105_21, ↓w105_24, ↓w105_27, ↓w105_27i, ↓w105_28, ↓w105_34, ↓w105_35, ↓w105_36, ↓w105_39, k113, hm, ↓x0_g0, ↓x0_g1, ↓x0_g2, ↓x0_g3, ↓x0_g4, ↓x0_g5, ↓x0_p5, x0_r, cK_inr, CH_thr, ↓lig_g0 hg hl, ↓lig_g1 hg hl, ↓lig_g2 hg hl, ↓lig_g3 hg hl, ↓lig_g4 hg hl, ↓lig_g5 hg hl, ↓lig_g6 hg hl, ↓lig_g7 hg hl, ↓lig_g8 hg hl, ↓lig_g9 hg hl, ↓lig_g10 hg hl, ↓lig_g11 hg hl, ↓lig_p0 hg hl, ↓lig_p1 hg hl, ↓lig_p2 hg hl, ↓lig_p3 hg hl, ↓lig_p4 hg hl, ↓lig_p5 hg hl, ↓lig_p6 hg hl, ↓lig_p8 hg hl, ↓lig_r hg hl, ↓l_notes_get hg hl, ↓l_notes_put hg hl, ↓l_firsts_get hg hl, ↓l_firsts_put hg hl, ↓l_nexts_get hg hl, ↓l_nexts_put hg hl, ↓l_repeats_get hg hl, ↓l_repeats_put hg hl, icond_lt, icond_le, icond_gt, icond_ge, icond_eq, icond_ne, narrow_bool, true_or, or_true, if_true, if_false, cK_inl, toL_some, toL_none, psum_nil, psum_int, psum_ref, psum_null, psum_long, Nat.zero_le, Nat.reduceAdd, Nat.reduceLeDiff, kl_int, kl_ref, kl_none, kl_null, kl_long, h2]
      rfl
    by_cases h3 : 20 ≤ y
    · simp only [ce105, ↓w105_0, ↓w105_1, ↓w105_2, ↓w105_5, ↓w105_6, ↓w105_7, ↓w105_10, ↓w105_11, ↓w105_13, ↓w105_16, ↓w105_17, ↓w105_18, ↓w105_21, ↓w105_24, ↓w105_27, ↓w105_27i, ↓w105_28, ↓w105_34, ↓w105_35, ↓w105_36, ↓w105_39, k113, hm, ↓x0_g0, ↓x0_g1, ↓x0_g2, ↓x0_g3, ↓x0_g4, ↓x0_g5, ↓x0_p5, x0_r, cK_inr, CH_thr, ↓lig_g0 hg hl, ↓lig_g1 hg hl, ↓lig_g2 hg hl, ↓lig_g3 hg hl, ↓lig_g4 hg hl, ↓lig_g5 hg hl, ↓lig_g6 hg hl, ↓lig_g7 hg hl, ↓lig_g8 hg hl, ↓lig_g9 hg hl, ↓lig_g10 hg hl, ↓lig_g11 hg hl, ↓lig_p0 hg hl, ↓lig_p1 hg hl, ↓lig_p2 hg hl, ↓lig_p3 hg hl, ↓lig_p4 hg hl, ↓lig_p5 hg hl, ↓lig_p6 hg hl, ↓lig_p8 hg hl, ↓lig_r hg hl, ↓l_notes_get hg hl, ↓l_notes_put hg hl, ↓l_firsts_get hg hl, ↓l_firsts_put hg hl, ↓l_nexts_get hg hl, ↓l_nexts_put hg hl, ↓l_repeats_get hg hl, ↓l_repeats_put hg hl, icond_lt, icond_le, icond_gt, icond_ge, icond_eq, icond_ne, narrow_bool, true_or, or_true, if_true, if_false, cK_inl, toL_some, toL_none, psum_nil, psum_int, psum_ref, psum_null, psum_long, Nat.zero_le, Nat.reduceAdd, Nat.reduceLeDiff, kl_int, kl_ref, kl_none, kl_null, kl_long, h2, h3]
      rfl
    by_cases h4 : S 0 17 l ≤ y
    · have h5 := Int32.not_lt.mpr h4
      simp only [ce105, ↓w105_0, ↓w105_1, ↓w105_2, ↓w105_5, ↓w105_6, ↓w105_7, ↓w105_10, ↓w105_11, ↓w105_13, ↓w105_16, ↓w105_17, ↓w105_18, ↓w105_21, ↓w105_24, ↓w105_27, ↓w105_27i, ↓w105_28, ↓w105_34, ↓w105_35, ↓w105_36, ↓w105_39, k113, hm, ↓x0_g0, ↓x0_g1, ↓x0_g2, ↓x0_g3, ↓x0_g4, ↓x0_g5, ↓x0_p5, x0_r, cK_inr, CH_thr, ↓lig_g0 hg hl, ↓lig_g1 hg hl, ↓lig_g2 hg hl, ↓lig_g3 hg hl, ↓lig_g4 hg hl, ↓lig_g5 hg hl, ↓lig_g6 hg hl, ↓lig_g7 hg hl, ↓lig_g8 hg hl, ↓lig_g9 hg hl, ↓lig_g10 hg hl, ↓lig_g11 hg hl, ↓lig_p0 hg hl, ↓lig_p1 hg hl, ↓lig_p2 hg hl, ↓lig_p3 hg hl, ↓lig_p4 hg hl, ↓lig_p5 hg hl, ↓lig_p6 hg hl, ↓lig_p8 hg hl, ↓lig_r hg hl, ↓l_notes_get hg hl, ↓l_notes_put hg hl, ↓l_firsts_get hg hl, ↓l_firsts_put hg hl, ↓l_nexts_get hg hl, ↓l_nexts_put hg hl, ↓l_repeats_get hg hl, ↓l_repeats_put hg hl, icond_lt, icond_le, icond_gt, icond_ge, icond_eq, icond_ne, narrow_bool, true_or, or_true, if_true, if_false, cK_inl, toL_some, toL_none, psum_nil, psum_int, psum_ref, psum_null, psum_long, Nat.zero_le, Nat.reduceAdd, Nat.reduceLeDiff, kl_int, kl_ref, kl_none, kl_null, kl_long, h2, h3, h4, h5]
      rfl
    · have h5 := Int32.not_le.mp h4
      simp only [ce105, ↓w105_0, ↓w105_1, ↓w105_2, ↓w105_5, ↓w105_6, ↓w105_7, ↓w105_10, ↓w105_11, ↓w105_13, ↓w105_16, ↓w105_17, ↓w105_18, ↓w105_21, ↓w105_24, ↓w105_27, ↓w105_27i, ↓w105_28, ↓w105_34, ↓w105_35, ↓w105_36, ↓w105_39, k113, hm, ↓x0_g0, ↓x0_g1, ↓x0_g2, ↓x0_g3, ↓x0_g4, ↓x0_g5, ↓x0_p5, x0_r, cK_inr, CH_thr, ↓lig_g0 hg hl, ↓lig_g1 hg hl, ↓lig_g2 hg hl, ↓lig_g3 hg hl, ↓lig_g4 hg hl, ↓lig_g5 hg hl, ↓lig_g6 hg hl, ↓lig_g7 hg hl, ↓lig_g8 hg hl, ↓lig_g9 hg hl, ↓lig_g10 hg hl, ↓lig_g11 hg hl, ↓lig_p0 hg hl, ↓lig_p1 hg hl, ↓lig_p2 hg hl, ↓lig_p3 hg hl, ↓lig_p4 hg hl, ↓lig_p5 hg hl, ↓lig_p6 hg hl, ↓lig_p8 hg hl, ↓lig_r hg hl, ↓l_notes_get hg hl, ↓l_notes_put hg hl, ↓l_firsts_get hg hl, ↓l_firsts_put hg hl, ↓l_nexts_get hg hl, ↓l_nexts_put hg hl, ↓l_repeats_get hg hl, ↓l_repeats_put hg hl, k17 hg hl, icond_lt, icond_le, icond_gt, icond_ge, icond_eq, icond_ne, narrow_bool, true_or, or_true, if_true, if_false, cK_inl, toL_some, toL_none, psum_nil, psum_int, psum_ref, psum_null, psum_long, Nat.zero_le, Nat.reduceAdd, Nat.reduceLeDiff, kl_int, kl_ref, kl_none, kl_null, kl_long, h2, h3, h4, h5]
theorem k70 : Cp (d + 1) 70 [.ref 300, .int x] (CH c S L R) Q = if x < 0 then Q (.inr IAE, CH (thr c) S L R) else if S 4 206 0 < x then Q (.inr IAE, CH (thr c) S L R) else Q (.inl (some (.int x)), CH c (su S 4 206 0 x) L R) := by
  by_cases h2 : x < 0
  · simp only [ce70, ↓w70_0, ↓w70_1, ↓w70_4, ↓w70_5, ↓w70_6, ↓w70_9, ↓w70_12, ↓w70_15, ↓w70_18, ↓w70_18i, ↓w70_19, ↓w70_25, ↓w70_26, ↓w70_29, ↓w70_30, ↓w70_33, ↓w70_34, ↓x0_g0, ↓x0_g1, ↓x0_g2, ↓x0_g3, ↓x0_g4, ↓x0_g5, ↓x0_p5, x0_r, cK_inr, CH_thr, ↓tape_g0, ↓tape_g1, ↓tape_p1, icond_lt, icond_le, icond_gt, icond_ge, icond_eq, icond_ne, narrow_bool, true_or, or_true, if_true, if_false, cK_inl, toL_some, toL_none, psum_nil, psum_int, psum_ref, psum_null, psum_long, Nat.zero_le, Nat.reduceAdd, Nat.reduceLeDiff, kl_int, kl_ref, kl_none, kl_null, kl_long, h2]
    rfl
  by_cases h3 : S 4 206 0 < x
  · have h4 := Int32.not_le.mpr h3
    simp only [ce70, ↓w70_0, ↓w70_1, ↓w70_4, ↓w70_5, ↓w70_6, ↓w70_9, ↓w70_12, ↓w70_15, ↓w70_18, ↓w70_18i, ↓w70_19, ↓w70_25, ↓w70_26, ↓w70_29, ↓w70_30, ↓w70_33, ↓w70_34, ↓x0_g0, ↓x0_g1, ↓x0_g2, ↓x0_g3, ↓x0_g4, ↓x0_g5, ↓x0_p5, x0_r, cK_inr, CH_thr, ↓tape_g0, ↓tape_g1, ↓tape_p1, icond_lt, icond_le, icond_gt, icond_ge, icond_eq, icond_ne, narrow_bool, true_or, or_true, if_true, if_false, cK_inl, toL_some, toL_none, psum_nil, psum_int, psum_ref, psum_null, psum_long, Nat.zero_le, Nat.reduceAdd, Nat.reduceLeDiff, kl_int, kl_ref, kl_none, kl_null, kl_long, h2, h3, h4]
    rfl
  · have h4 := Int32.not_lt.mp h3
    simp only [ce70, ↓w70_0, ↓w70_1, ↓w70_4, ↓w70_5, ↓w70_6, ↓w70_9, ↓w70_12, ↓w70_15, ↓w70_18, ↓w70_18i, ↓w70_19, ↓w70_25, ↓w70_26, ↓w70_29, ↓w70_30, ↓w70_33, ↓w70_34, ↓x0_g0, ↓x0_g1, ↓x0_g2, ↓x0_g3, ↓x0_g4, ↓x0_g5, ↓x0_p5, x0_r, cK_inr, CH_thr, ↓tape_g0, ↓tape_g1, ↓tape_p1, icond_lt, icond_le, icond_gt, icond_ge, icond_eq, icond_ne, narrow_bool, true_or, or_true, if_true, if_false, cK_inl, toL_some, toL_none, psum_nil, psum_int, psum_ref, psum_null, psum_long, Nat.zero_le, Nat.reduceAdd, Nat.reduceLeDiff, kl_int, kl_ref, kl_none, kl_null, kl_long, h2, h3, h4]
theorem k73 {N : Nat} (hN : N ≤ 3) (hS : S 0 4 0 = Int32.ofNat N) : Cp (d + 4) 73 [.ref 300, .int x] (CH c S L R) Q = if x < 1 then Q (.inr IAE, CH (thr c) S L R) else if 60 < x then Q (.inr IAE, CH (thr c) S L R) else if N = 3 then Q (.inr ISE, CH (thr c) S L R)
    else Q (.inl (some (.int (Int32.ofNat N))), CH c (su (begS 0 N x S) 0 4 0 (Int32.ofNat (N + 1))) L R) := by
  have hg : 0 < 2 := by decide
  by_cases h2 : x < 1
  · simp only [ce73, ↓w73_0, ↓w73_1, ↓w73_2, ↓w73_5, ↓w73_6, ↓w73_8, ↓w73_11, ↓w73_14, ↓w73_14i, ↓w73_15, ↓w73_21, ↓w73_22, ↓w73_25, ↓w73_28, ↓w73_29, ↓w73_30, ↓w73_31, ↓w73_34, ↓w73_35, ↓w73_36, ↓w73_39, ↓w73_42, ↓w73_43, ↓w73_46, ↓w73_49, ↓w73_49i, ↓w73_50, ↓w73_56, ↓w73_57, ↓w73_60, ↓w73_63, ↓w73_64, ↓w73_65, ↓w73_66, ↓w73_69, ↓w73_70, ↓w73_73, ↓w73_74, ↓w73_75, ↓w73_76, ↓w73_79, ↓w73_80, ↓x0_g0, ↓x0_g1, ↓x0_g2, ↓x0_g3, ↓x0_g4, ↓x0_g5, ↓x0_p5, x0_r, cK_inr, CH_thr, icond_lt, icond_le, icond_gt, icond_ge, icond_eq, icond_ne, narrow_bool, true_or, or_true, if_true, if_false, cK_inl, toL_some, toL_none, psum_nil, psum_int, psum_ref, psum_null, psum_long, Nat.zero_le, Nat.reduceAdd, Nat.reduceLeDiff, kl_int, kl_ref, kl_none, kl_null, kl_long, h2]
    rfl
  by_cases h3 : 60 < x
  · have h4 := Int32.not_le.mpr h3
    simp only [ce73, ↓w73_0, ↓w73_1, ↓w73_2, ↓w73_5, ↓w73_6, ↓w73_8, ↓w73_11, ↓w73_14, ↓w73_14i, ↓w73_15, ↓w73_21, ↓w73_22, ↓w73_25, ↓w73_28, ↓w73_29, ↓w73_30, ↓w73_31, ↓w73_34, ↓w73_35, ↓w73_36, ↓w73_39, ↓w73_42, ↓w73_43, ↓w73_46, ↓w73_49, ↓w73_49i, ↓w73_50, ↓w73_56, ↓w73_57, ↓w73_60, ↓w73_63, ↓w73_64, ↓w73_65, ↓w73_66, ↓w73_69, ↓w73_70, ↓w73_73, ↓w73_74, ↓w73_75, ↓w73_76, ↓w73_79, ↓w73_80, ↓x0_g0, ↓x0_g1, ↓x0_g2, ↓x0_g3, ↓x0_g4, ↓x0_g5, ↓x0_p5, x0_r, cK_inr, CH_thr, icond_lt, icond_le, icond_gt, icond_ge, icond_eq, icond_ne, narrow_bool, true_or, or_true, if_true, if_false, cK_inl, toL_some, toL_none, psum_nil, psum_int, psum_ref, psum_null, psum_long, Nat.zero_le, Nat.reduceAdd, Nat.reduceLeDiff, kl_int, kl_ref, kl_none, kl_null, kl_long, h2, h3, h4]
    rfl
  have h4 := Int32.not_lt.mp h3
  by_cases h5 : N = 3
  · have h6 : (3 : Int32) ≤ Int32.ofNat N := by rw [h5]; decide
    simp only [ce73, ↓w73_0, ↓w73_1, ↓w73_2, ↓w73_5, ↓w73_6, ↓w73_8, ↓w73_11, ↓w73_14, ↓w73_14i, ↓w73_15, ↓w73_21, ↓w73_22, ↓w73_25, ↓w73_28, ↓w73_29, ↓w73_30, ↓w73_31, ↓w73_34, ↓w73_35, ↓w73_36, ↓w73_39, ↓w73_42, ↓w73_43, ↓w73_46, ↓w73_49, ↓w73_49i, ↓w73_50, ↓w73_56, ↓w73_57, ↓w73_60, ↓w73_63, ↓w73_64, ↓w73_65, ↓w73_66, ↓w73_69, ↓w73_70, ↓w73_73, ↓w73_74, ↓w73_75, ↓w73_76, ↓w73_79, ↓w73_80, ↓x0_g0, ↓x0_g1, ↓x0_g2, ↓x0_g3, ↓x0_g4, ↓x0_g5, ↓x0_p5, x0_r, cK_inr, CH_thr, ↓town_g0 hg, ↓town_g1 hg, ↓town_g2 hg, ↓town_g3 hg, ↓town_g4 hg, ↓town_g5 hg, ↓town_g6 hg, ↓town_g7 hg, ↓town_p3 hg, ↓town_p4 hg, ↓town_p5 hg, ↓town_p6 hg, ↓town_p7 hg, ↓town_r hg, ↓lmps_n hg, ↓lgts_n hg, hS, icond_lt, icond_le, icond_gt, icond_ge, icond_eq, icond_ne, narrow_bool, true_or, or_true, if_true, if_false, cK_inl, toL_some, toL_none, psum_nil, psum_int, psum_ref, psum_null, psum_long, Nat.zero_le, Nat.reduceAdd, Nat.reduceLeDiff, kl_int, kl_ref, kl_none, kl_null, kl_long, h2, h3, h4, if_pos h5, h6]
    rfl
  · have hl : N < 3 := by omega
    have h6 : ¬ (3 : Int32) ≤ Int32.ofNat N := fun q => absurd ((ofN_le (k := 3) (by omega) (by omega)).mp q) (by omega)
    have h7 := Int32.not_le.mp h6
    simp only [ce73, ↓w73_0, ↓w73_1, ↓w73_2, ↓w73_5, ↓w73_6, ↓w73_8, ↓w73_11, ↓w73_14, ↓w73_14i, ↓w73_15, ↓w73_21, ↓w73_22, ↓w73_25, ↓w73_28, ↓w73_29, ↓w73_30, ↓w73_31, ↓w73_34, ↓w73_35, ↓w73_36, ↓w73_39, ↓w73_42, ↓w73_43, ↓w73_46, ↓w73_49, ↓w73_49i, ↓w73_50, ↓w73_56, ↓w73_57, ↓w73_60, ↓w73_63, ↓w73_64, ↓w73_65, ↓w73_66, ↓w73_69, ↓w73_70, ↓w73_73, ↓w73_74, ↓w73_75, ↓w73_76, ↓w73_79, ↓w73_80, ↓x0_g0, ↓x0_g1, ↓x0_g2, ↓x0_g3, ↓x0_g4, ↓x0_g5, ↓x0_p5, x0_r, cK_inr, CH_thr, ↓town_g0 hg, ↓town_g1 hg, ↓town_g2 hg, ↓town_g3 hg, ↓town_g4 hg, ↓town_g5 hg, ↓town_g6 hg, ↓town_g7 hg, ↓town_p3 hg, ↓town_p4 hg, ↓town_p5 hg, ↓town_p6 hg, ↓town_p7 hg, ↓town_r hg, ↓lmps_n hg, ↓lgts_n hg, ↓lgts_q hg hl, ↓lig_g0 hg hl, ↓lig_g1 hg hl, ↓lig_g2 hg hl, ↓lig_g3 hg hl, ↓lig_g4 hg hl, ↓lig_g5 hg hl, ↓lig_g6 hg hl, ↓lig_g7 hg hl, ↓lig_g8 hg hl, ↓lig_g9 hg hl, ↓lig_g10 hg hl, ↓lig_g11 hg hl, ↓lig_p0 hg hl, ↓lig_p1 hg hl, ↓lig_p2 hg hl, ↓lig_p3 hg hl, ↓lig_p4 hg hl, ↓lig_p5 hg hl, ↓lig_p6 hg hl, ↓lig_p8 hg hl, ↓lig_r hg hl, ↓l_notes_get hg hl, ↓l_notes_put hg hl, ↓l_firsts_get hg hl, ↓l_firsts_put hg hl, ↓l_nexts_get hg hl, ↓l_nexts_put hg hl, ↓l_repeats_get hg hl, ↓l_repeats_put hg hl, k9 hg hl, hS, icond_lt, icond_le, icond_gt, icond_ge, icond_eq, icond_ne, narrow_bool, true_or, or_true, if_true, if_false, cK_inl, toL_some, toL_none, psum_nil, psum_int, psum_ref, psum_null, psum_long, Nat.zero_le, Nat.reduceAdd, Nat.reduceLeDiff, kl_int, kl_ref, kl_none, kl_null, kl_long, h2, h3, h4, if_neg h5, h6, h7, ofN_a1]
theorem k74 (hb : b < 2) (hk : okG 0 b S) : Cp (d + 4) 74 [.ref 300, .int x, .int y] (CH c S L R) Q = (match lgt S x with
    | none => Q (.inr IOB, CH (thr c) S L R)
    | some l => if y < 0 then Q (.inr IOB, CH (thr c) S L R) else if S (2 + b) 101 0 ≤ y then Q (.inr IOB, CH (thr c) S L R)
      else Q (.inl (some (.int (S 0 14 l))), CH c (brS 0 l b y S) L R)) := by
  have hg : 0 < 2 := by decide
  cases hm : lgt S x with
  | none => simp only [ce74, ↓w74_0, ↓w74_1, ↓w74_2, ↓w74_5, ↓w74_6, ↓w74_7, ↓w74_10, ↓w74_11, ↓w74_12, ↓w74_15, ↓w74_18, ↓w74_21, ↓w74_24, ↓w74_27, ↓w74_27i, ↓w74_28, ↓w74_34, ↓w74_35, ↓w74_38, ↓w74_40, ↓w74_41, ↓w74_42, ↓w74_45, ↓w74_48, ↓w74_49, ↓w74_52, ↓w74_54, k113, hm, ↓x0_g0, ↓x0_g1, ↓x0_g2, ↓x0_g3, ↓x0_g4, ↓x0_g5, ↓x0_p5, x0_r, cK_inr, CH_thr, icond_lt, icond_le, icond_gt, icond_ge, icond_eq, icond_ne, narrow_bool, true_or, or_true, if_true, if_false, cK_inl, toL_some, toL_none, psum_nil, psum_int, psum_ref, psum_null, psum_long, Nat.zero_le, Nat.reduceAdd, Nat.reduceLeDiff, kl_int, kl_ref, kl_none, kl_null, kl_long]
  | some l =>
    obtain ⟨hl, rfl, h1⟩ := lgt_some hm
    by_cases h2 : y < 0
    · simp only [ce74, ↓w74_0, ↓w74_1, ↓w74_2, ↓w74_5, ↓w74_6, ↓w74_7, ↓w74_10, ↓w74_11, ↓w74_12, ↓w74_15, ↓w74_18, ↓w74_21, ↓w74_24, ↓w74_27, ↓w74_27i, ↓w74_28, ↓w74_34, ↓w74_35, ↓w74_38, ↓w74_40, ↓w74_41, ↓w74_42, ↓w74_45, ↓w74_48, ↓w74_49, ↓w74_52, ↓w74_54, k113, hm, ↓x0_g0, ↓x0_g1, ↓x0_g2, ↓x0_g3, ↓x0_g4, ↓x0_g5, ↓x0_p5, x0_r, cK_inr, CH_thr, ↓lig_g0 hg hl, ↓lig_g1 hg hl, ↓lig_g2 hg hl, ↓lig_g3 hg hl, ↓lig_g4 hg hl, ↓lig_g5 hg hl, ↓lig_g6 hg hl, ↓lig_g7 hg hl, ↓lig_g8 hg hl, ↓lig_g9 hg hl, ↓lig_g10 hg hl, ↓lig_g11 hg hl, ↓lig_p0 hg hl, ↓lig_p1 hg hl, ↓lig_p2 hg hl, ↓lig_p3 hg hl, ↓lig_p4 hg hl, ↓lig_p5 hg hl, ↓lig_p6 hg hl, ↓lig_p8 hg hl, ↓lig_r hg hl, ↓l_notes_get hg hl, ↓l_notes_put hg hl, ↓l_firsts_get hg hl, ↓l_firsts_put hg hl, ↓l_nexts_get hg hl, ↓l_nexts_put hg hl, ↓l_repeats_get hg hl, ↓l_repeats_put hg hl, icond_lt, icond_le, icond_gt, icond_ge, icond_eq, icond_ne, narrow_bool, true_or, or_true, if_true, if_false, cK_inl, toL_some, toL_none, psum_nil, psum_int, psum_ref, psum_null, psum_long, Nat.zero_le, Nat.reduceAdd, Nat.reduceLeDiff, kl_int, kl_ref, kl_none, kl_null, kl_long, h2]
      rfl
    by_cases h4 : S (2 + b) 101 0 ≤ y
    · have h5 := Int32.not_lt.mpr h4
      simp only [ce74, ↓w74_0, ↓w74_1, ↓w74_2, ↓w74_5, ↓w74_6, ↓w74_7, ↓w74_10, ↓w74_11, ↓w74_12, ↓w74_15, ↓w74_18, ↓w74_21, ↓w74_24, ↓w74_27, ↓w74_27i, ↓w74_28, ↓w74_34, ↓w74_35, ↓w74_38, ↓w74_40, ↓w74_41, ↓w74_42, ↓w74_45, ↓w74_48, ↓w74_49, ↓w74_52, ↓w74_54, k113, hm, ↓x0_g0, ↓x0_g1, ↓x0_g2, ↓x0_g3, ↓x0_g4, ↓x0_g5, ↓x0_p5, x0_r, cK_inr, CH_thr, ↓town_g0 hg, ↓town_g1 hg, ↓town_g2 hg, ↓town_g3 hg, ↓town_g4 hg, ↓town_g5 hg, ↓town_g6 hg, ↓town_g7 hg, ↓town_p3 hg, ↓town_p4 hg, ↓town_p5 hg, ↓town_p6 hg, ↓town_p7 hg, ↓town_r hg, ↓lmps_n hg, ↓lgts_n hg, hk.1, ↓book_g0 hb, ↓book_g1 hb, ↓book_g2 hb, ↓book_g3 hb, ↓book_g4 hb, ↓book_g5 hb, ↓book_g6 hb, ↓book_g7 hb, ↓book_g8 hb, ↓book_g9 hb, ↓book_g10 hb, ↓book_g11 hb, ↓book_g12 hb, ↓book_g13 hb, ↓book_g14 hb, ↓book_g15 hb, ↓book_g16 hb, ↓b_posts_get hb, ↓b_rooms_get hb, ↓b_blocks_get hb, ↓b_words_get hb, ↓b_values_get hb, ↓b_behind_get hb, ↓b_bodies_get hb, ↓b_elses_get hb, ↓b_fstc_get hb, ↓b_endc_get hb, ↓b_lefts_get hb, ↓b_signs_get hb, ↓b_rights_get hb, ↓lig_g0 hg hl, ↓lig_g1 hg hl, ↓lig_g2 hg hl, ↓lig_g3 hg hl, ↓lig_g4 hg hl, ↓lig_g5 hg hl, ↓lig_g6 hg hl, ↓lig_g7 hg hl, ↓lig_g8 hg hl, ↓lig_g9 hg hl, ↓lig_g10 hg hl, ↓lig_g11 hg hl, ↓lig_p0 hg hl, ↓lig_p1 hg hl, ↓lig_p2 hg hl, ↓lig_p3 hg hl, ↓lig_p4 hg hl, ↓lig_p5 hg hl, ↓lig_p6 hg hl, ↓lig_p8 hg hl, ↓lig_r hg hl, ↓l_notes_get hg hl, ↓l_notes_put hg hl, ↓l_firsts_get hg hl, ↓l_firsts_put hg hl, ↓l_nexts_get hg hl, ↓l_nexts_put hg hl, ↓l_repeats_get hg hl, ↓l_repeats_put hg hl, icond_lt, icond_le, icond_gt, icond_ge, icond_eq, icond_ne, narrow_bool, true_or, or_true, if_true, if_false, cK_inl, toL_some, toL_none, psum_nil, psum_int, psum_ref, psum_null, psum_long, Nat.zero_le, Nat.reduceAdd, Nat.reduceLeDiff, kl_int, kl_ref, kl_none, kl_null, kl_long, h2, h4, h5]
      rfl
    · have h5 := Int32.not_le.mp h4
      simp only [ce74, ↓w74_0, ↓w74_1, ↓w74_2, ↓w74_5, ↓w74_6, ↓w74_7, ↓w74_10, ↓w74_11, ↓w74_12, ↓w74_15, ↓w74_18, ↓w74_21, ↓w74_24, ↓w74_27, ↓w74_27i, ↓w74_28, ↓w74_34, ↓w74_35, ↓w74_38, ↓w74_40, ↓w74_41, ↓w74_42, ↓w74_45, ↓w74_48, ↓w74_49, ↓w74_52, ↓w74_54, k113, hm, ↓x0_g0, ↓x0_g1, ↓x0_g2, ↓x0_g3, ↓x0_g4, ↓x0_g5, ↓x0_p5, x0_r, cK_inr, CH_thr, ↓town_g0 hg, ↓town_g1 hg, ↓town_g2 hg, ↓town_g3 hg, ↓town_g4 hg, ↓town_g5 hg, ↓town_g6 hg, ↓town_g7 hg, ↓town_p3 hg, ↓town_p4 hg, ↓town_p5 hg, ↓town_p6 hg, ↓town_p7 hg, ↓town_r hg, ↓lmps_n hg, ↓lgts_n hg, hk.1, ↓book_g0 hb, ↓book_g1 hb, ↓book_g2 hb, ↓book_g3 hb, ↓book_g4 hb, ↓book_g5 hb, ↓book_g6 hb, ↓book_g7 hb, ↓book_g8 hb, ↓book_g9 hb, ↓book_g10 hb, ↓book_g11 hb, ↓book_g12 hb, ↓book_g13 hb, ↓book_g14 hb, ↓book_g15 hb, ↓book_g16 hb, ↓b_posts_get hb, ↓b_rooms_get hb, ↓b_blocks_get hb, ↓b_words_get hb, ↓b_values_get hb, ↓b_behind_get hb, ↓b_bodies_get hb, ↓b_elses_get hb, ↓b_fstc_get hb, ↓b_endc_get hb, ↓b_lefts_get hb, ↓b_signs_get hb, ↓b_rights_get hb, ↓lig_g0 hg hl, ↓lig_g1 hg hl, ↓lig_g2 hg hl, ↓lig_g3 hg hl, ↓lig_g4 hg hl, ↓lig_g5 hg hl, ↓lig_g6 hg hl, ↓lig_g7 hg hl, ↓lig_g8 hg hl, ↓lig_g9 hg hl, ↓lig_g10 hg hl, ↓lig_g11 hg hl, ↓lig_p0 hg hl, ↓lig_p1 hg hl, ↓lig_p2 hg hl, ↓lig_p3 hg hl, ↓lig_p4 hg hl, ↓lig_p5 hg hl, ↓lig_p6 hg hl, ↓lig_p8 hg hl, ↓lig_r hg hl, ↓l_notes_get hg hl, ↓l_notes_put hg hl, ↓l_firsts_get hg hl, ↓l_firsts_put hg hl, ↓l_nexts_get hg hl, ↓l_nexts_put hg hl, ↓l_repeats_get hg hl, ↓l_repeats_put hg hl, k11 hg hl hb, icond_lt, icond_le, icond_gt, icond_ge, icond_eq, icond_ne, narrow_bool, true_or, or_true, if_true, if_false, cK_inl, toL_some, toL_none, psum_nil, psum_int, psum_ref, psum_null, psum_long, Nat.zero_le, Nat.reduceAdd, Nat.reduceLeDiff, kl_int, kl_ref, kl_none, kl_null, kl_long, h2, h4, h5]
theorem k75 (hc : S 0 3 0 = 0 ∨ S 0 3 0 = 1) (hx : x = 0 ∨ x = 1) : Cp (d + 1) 75 [.ref 300, .int x] (CH c S L R) Q = Q (.inl (some (.int (S 0 3 0))), CH c (su S 0 3 0 x) L R) := by
  have hg : 0 < 2 := by decide
  simp only [ce75, ↓w75_0, ↓w75_1, ↓w75_4, ↓w75_7, ↓w75_8, ↓w75_9, ↓w75_12, ↓w75_13, ↓w75_16, ↓w75_17, ↓x0_g0, ↓x0_g1, ↓x0_g2, ↓x0_g3, ↓x0_g4, ↓x0_g5, ↓x0_p5, x0_r, cK_inr, CH_thr, ↓town_g0 hg, ↓town_g1 hg, ↓town_g2 hg, ↓town_g3 hg, ↓town_g4 hg, ↓town_g5 hg, ↓town_g6 hg, ↓town_g7 hg, ↓town_p3 hg, ↓town_p4 hg, ↓town_p5 hg, ↓town_p6 hg, ↓town_p7 hg, ↓town_r hg, ↓lmps_n hg, ↓lgts_n hg, icond_lt, icond_le, icond_gt, icond_ge, icond_eq, icond_ne, narrow_bool, true_or, or_true, if_true, if_false, cK_inl, toL_some, toL_none, psum_nil, psum_int, psum_ref, psum_null, psum_long, Nat.zero_le, Nat.reduceAdd, Nat.reduceLeDiff, kl_int, kl_ref, kl_none, kl_null, kl_long, hc, hx]
theorem k76 (hb : b < 2) (hk : okG 0 b S) : Cp (d + 2) 76 [.ref 300, .int x] (CH c S L R) Q = (match lmp S b x with
    | none => Q (.inr IOB, CH (thr c) S L R)
    | some i => Q (.inl (some (.int (lv (S 0 5 i) (S 0 6 i)))), CH c (lightS 0 i S) L R)) := by
  have hg : 0 < 2 := by decide
  cases hm : lmp S b x with
  | none => simp only [ce76, ↓w76_0, ↓w76_1, ↓w76_2, ↓w76_5, ↓w76_6, ↓w76_7, ↓w76_10, ↓w76_11, ↓w76_14, k112 hb hk.1, hm, ↓x0_g0, ↓x0_g1, ↓x0_g2, ↓x0_g3, ↓x0_g4, ↓x0_g5, ↓x0_p5, x0_r, cK_inr, CH_thr, icond_lt, icond_le, icond_gt, icond_ge, icond_eq, icond_ne, narrow_bool, true_or, or_true, if_true, if_false, cK_inl, toL_some, toL_none, psum_nil, psum_int, psum_ref, psum_null, psum_long, Nat.zero_le, Nat.reduceAdd, Nat.reduceLeDiff, kl_int, kl_ref, kl_none, kl_null, kl_long]
  | some i =>
    obtain ⟨hi, rfl, h1⟩ := lmp_some hm
    have e : lightS 0 i S 0 9 i = lv (S 0 5 i) (S 0 6 i) := by rw [lightS, su_self]
    simp only [ce76, ↓w76_0, ↓w76_1, ↓w76_2, ↓w76_5, ↓w76_6, ↓w76_7, ↓w76_10, ↓w76_11, ↓w76_14, k112 hb hk.1, hm, ↓x0_g0, ↓x0_g1, ↓x0_g2, ↓x0_g3, ↓x0_g4, ↓x0_g5, ↓x0_p5, x0_r, cK_inr, CH_thr, ↓lamp_g0 hg hi, ↓lamp_g1 hg hi, ↓lamp_g2 hg hi, ↓lamp_g3 hg hi, ↓lamp_g4 hg hi, ↓lamp_g5 hg hi, ↓lamp_g6 hg hi, ↓lamp_p0 hg hi, ↓lamp_p1 hg hi, ↓lamp_p2 hg hi, ↓lamp_p3 hg hi, ↓lamp_p4 hg hi, ↓lamp_p5 hg hi, ↓lamp_p6 hg hi, ↓lamp_r hg hi, k5 hg hi, e, lv_01, icond_lt, icond_le, icond_gt, icond_ge, icond_eq, icond_ne, narrow_bool, true_or, or_true, if_true, if_false, cK_inl, toL_some, toL_none, psum_nil, psum_int, psum_ref, psum_null, psum_long, Nat.zero_le, Nat.reduceAdd, Nat.reduceLeDiff, kl_int, kl_ref, kl_none, kl_null, kl_long]
theorem k77 (hb : b < 2) (hk : okG 0 b S) : Cp (d + 2) 77 [.ref 300, .int x] (CH c S L R) Q = (match lmp S b x with
    | none => Q (.inr IOB, CH (thr c) S L R)
    | some i => Q (.inl (some (.int (S 0 9 i))), CH c (su S 0 9 i 0) L R)) := by
  have hg : 0 < 2 := by decide
  cases hm : lmp S b x with
  | none => simp only [ce77, ↓w77_0, ↓w77_1, ↓w77_2, ↓w77_5, ↓w77_6, ↓w77_7, ↓w77_10, ↓w77_11, ↓w77_12, ↓w77_13, ↓w77_16, ↓w77_17, k112 hb hk.1, hm, ↓x0_g0, ↓x0_g1, ↓x0_g2, ↓x0_g3, ↓x0_g4, ↓x0_g5, ↓x0_p5, x0_r, cK_inr, CH_thr, icond_lt, icond_le, icond_gt, icond_ge, icond_eq, icond_ne, narrow_bool, true_or, or_true, if_true, if_false, cK_inl, toL_some, toL_none, psum_nil, psum_int, psum_ref, psum_null, psum_long, Nat.zero_le, Nat.reduceAdd, Nat.reduceLeDiff, kl_int, kl_ref, kl_none, kl_null, kl_long]
  | some i =>
    obtain ⟨hi, rfl, h1⟩ := lmp_some hm
    have h9 := hk.2.2 i hi
    simp only [ce77, ↓w77_0, ↓w77_1, ↓w77_2, ↓w77_5, ↓w77_6, ↓w77_7, ↓w77_10, ↓w77_11, ↓w77_12, ↓w77_13, ↓w77_16, ↓w77_17, k112 hb hk.1, hm, ↓x0_g0, ↓x0_g1, ↓x0_g2, ↓x0_g3, ↓x0_g4, ↓x0_g5, ↓x0_p5, x0_r, cK_inr, CH_thr, ↓lamp_g0 hg hi, ↓lamp_g1 hg hi, ↓lamp_g2 hg hi, ↓lamp_g3 hg hi, ↓lamp_g4 hg hi, ↓lamp_g5 hg hi, ↓lamp_g6 hg hi, ↓lamp_p0 hg hi, ↓lamp_p1 hg hi, ↓lamp_p2 hg hi, ↓lamp_p3 hg hi, ↓lamp_p4 hg hi, ↓lamp_p5 hg hi, ↓lamp_p6 hg hi, ↓lamp_r hg hi, h9, icond_lt, icond_le, icond_gt, icond_ge, icond_eq, icond_ne, narrow_bool, true_or, or_true, if_true, if_false, cK_inl, toL_some, toL_none, psum_nil, psum_int, psum_ref, psum_null, psum_long, Nat.zero_le, Nat.reduceAdd, Nat.reduceLeDiff, kl_int, kl_ref, kl_none, kl_null, kl_long]
theorem k78 (hb : b < 2) (hk : okG 0 b S) : Cp (d + 2) 78 [.ref 300, .int x, .int y] (CH c S L R) Q = (match lmp S b x with
    | none => Q (.inr IOB, CH (thr c) S L R)
    | some i => if y < 1 then Q (.inr IAE, CH (thr c) S L R) else if 30 < y then Q (.inr IAE, CH (thr c) S L R)
      else Q (.inl (some (.int (mnI (S 0 5 i + y) (S 0 11 i)))), CH c (su S 0 5 i (mnI (S 0 5 i + y) (S 0 11 i))) L R)) := by
  have hg : 0 < 2 := by decide
  cases hm : lmp S b x with
  | none => simp only [ce78, ↓w78_0, ↓w78_1, ↓w78_2, ↓w78_5, ↓w78_6, ↓w78_7, ↓w78_8, ↓w78_11, ↓w78_12, ↓w78_14, ↓w78_17, ↓w78_20, ↓w78_20i, ↓w78_21, ↓w78_27, ↓w78_28, ↓w78_29, ↓w78_32, ↓w78_33, ↓w78_34, ↓w78_35, ↓w78_38, ↓w78_41, ↓w78_44, ↓w78_45, ↓w78_48, k112 hb hk.1, hm, ↓x0_g0, ↓x0_g1, ↓x0_g2, ↓x0_g3, ↓x0_g4, ↓x0_g5, ↓x0_p5, x0_r, cK_inr, CH_thr, icond_lt, icond_le, icond_gt, icond_ge, icond_eq, icond_ne, narrow_bool, true_or, or_true, if_true, if_false, cK_inl, toL_some, toL_none, psum_nil, psum_int, psum_ref, psum_null, psum_long, Nat.zero_le, Nat.reduceAdd, Nat.reduceLeDiff, kl_int, kl_ref, kl_none, kl_null, kl_long]
  | some i =>
    obtain ⟨hi, rfl, h1⟩ := lmp_some hm
    by_cases h2 : y < 1
    · simp only [ce78, ↓w78_0, ↓w78_1, ↓w78_2, ↓w78_5, ↓w78_6, ↓w78_7, ↓w78_8, ↓w78_11, ↓w78_12, ↓w78_14, ↓w78_17, ↓w78_20, ↓w78_20i, ↓w78_21, ↓w78_27, ↓w78_28, ↓w78_29, ↓w78_32, ↓w78_33, ↓w78_34, ↓w78_35, ↓w78_38, ↓w78_41, ↓w78_44, ↓w78_45, ↓w78_48, k112 hb hk.1, hm, ↓x0_g0, ↓x0_g1, ↓x0_g2, ↓x0_g3, ↓x0_g4, ↓x0_g5, ↓x0_p5, x0_r, cK_inr, CH_thr, ↓lamp_g0 hg hi, ↓lamp_g1 hg hi, ↓lamp_g2 hg hi, ↓lamp_g3 hg hi, ↓lamp_g4 hg hi, ↓lamp_g5 hg hi, ↓lamp_g6 hg hi, ↓lamp_p0 hg hi, ↓lamp_p1 hg hi, ↓lamp_p2 hg hi, ↓lamp_p3 hg hi, ↓lamp_p4 hg hi, ↓lamp_p5 hg hi, ↓lamp_p6 hg hi, ↓lamp_r hg hi, icond_lt, icond_le, icond_gt, icond_ge, icond_eq, icond_ne, narrow_bool, true_or, or_true, if_true, if_false, cK_inl, toL_some, toL_none, psum_nil, psum_int, psum_ref, psum_null, psum_long, Nat.zero_le, Nat.reduceAdd, Nat.reduceLeDiff, kl_int, kl_ref, kl_none, kl_null, kl_long, h2]
      rfl
    by_cases h3 : 30 < y
    · have h4 := Int32.not_le.mpr h3
      simp only [ce78, ↓w78_0, ↓w78_1, ↓w78_2, ↓w78_5, ↓w78_6, ↓w78_7, ↓w78_8, ↓w78_11, ↓w78_12, ↓w78_14, ↓w78_17, ↓w78_20, ↓w78_20i, ↓w78_21, ↓w78_27, ↓w78_28, ↓w78_29, ↓w78_32, ↓w78_33, ↓w78_34, ↓w78_35, ↓w78_38, ↓w78_41, ↓w78_44, ↓w78_45, ↓w78_48, k112 hb hk.1, hm, ↓x0_g0, ↓x0_g1, ↓x0_g2, ↓x0_g3, ↓x0_g4, ↓x0_g5, ↓x0_p5, x0_r, cK_inr, CH_thr, ↓lamp_g0 hg hi, ↓lamp_g1 hg hi, ↓lamp_g2 hg hi, ↓lamp_g3 hg hi, ↓lamp_g4 hg hi, ↓lamp_g5 hg hi, ↓lamp_g6 hg hi, ↓lamp_p0 hg hi, ↓lamp_p1 hg hi, ↓lamp_p2 hg hi, ↓lamp_p3 hg hi, ↓lamp_p4 hg hi, ↓lamp_p5 hg hi, ↓lamp_p6 hg hi, ↓lamp_r hg hi, icond_lt, icond_le, icond_gt, icond_ge, icond_eq, icond_ne, narrow_bool, true_or, or_true, if_true, if_false, cK_inl, toL_some, toL_none, psum_nil, psum_int, psum_ref, psum_null, psum_long, Nat.zero_le, Nat.reduceAdd, Nat.reduceLeDiff, kl_int, kl_ref, kl_none, kl_null, kl_long, h2, h3, h4]
      rfl
    · have h4 := Int32.not_lt.mp h3
      simp only [ce78, ↓w78_0, ↓w78_1, ↓w78_2, ↓w78_5, ↓w78_6, ↓w78_7, ↓w78_8, ↓w78_11, ↓w78_12, ↓w78_14, ↓w78_17, ↓w78_20, ↓w78_20i, ↓w78_21, ↓w78_27, ↓w78_28, ↓w78_29, ↓w78_32, ↓w78_33, ↓w78_34, ↓w78_35, ↓w78_38, ↓w78_41, ↓w78_44, ↓w78_45, ↓w78_48, k112 hb hk.1, hm, ↓x0_g0, ↓x0_g1, ↓x0_g2, ↓x0_g3, ↓x0_g4, ↓x0_g5, ↓x0_p5, x0_r, cK_inr, CH_thr, ↓lamp_g0 hg hi, ↓lamp_g1 hg hi, ↓lamp_g2 hg hi, ↓lamp_g3 hg hi, ↓lamp_g4 hg hi, ↓lamp_g5 hg hi, ↓lamp_g6 hg hi, ↓lamp_p0 hg hi, ↓lamp_p1 hg hi, ↓lamp_p2 hg hi, ↓lamp_p3 hg hi, ↓lamp_p4 hg hi, ↓lamp_p5 hg hi, ↓lamp_p6 hg hi, ↓lamp_r hg hi, icond_lt, icond_le, icond_gt, icond_ge, icond_eq, icond_ne, narrow_bool, true_or, or_true, if_true, if_false, cK_inl, toL_some, toL_none, psum_nil, psum_int, psum_ref, psum_null, psum_long, Nat.zero_le, Nat.reduceAdd, Nat.reduceLeDiff, kl_int, kl_ref, kl_none, kl_null, kl_long, su_at, sr_at, Nat.reduceEqDiff, Nat.add_eq_left, Nat.add_right_cancel_iff, and_false, false_and, and_true, true_and, and_self, if_true, if_false, ↓reduceIte, h2, h3, h4, mnI]
      try rfl
theorem k79 (hb : b < 2) (hk : okG 0 b S) : Cp (d + 2) 79 [.ref 300, .int x] (CH c S L R) Q = (match lmp S b x with
    | none => Q (.inr IOB, CH (thr c) S L R)
    | some i => Q (.inl (some (.int (S 0 6 i))), CH c (su S 0 6 i 10) L R)) := by
  have hg : 0 < 2 := by decide
  cases hm : lmp S b x with
  | none => simp only [ce79, ↓w79_0, ↓w79_1, ↓w79_2, ↓w79_5, ↓w79_6, ↓w79_7, ↓w79_10, ↓w79_11, ↓w79_12, ↓w79_14, ↓w79_17, ↓w79_18, k112 hb hk.1, hm, ↓x0_g0, ↓x0_g1, ↓x0_g2, ↓x0_g3, ↓x0_g4, ↓x0_g5, ↓x0_p5, x0_r, cK_inr, CH_thr, icond_lt, icond_le, icond_gt, icond_ge, icond_eq, icond_ne, narrow_bool, true_or, or_true, if_true, if_false, cK_inl, toL_some, toL_none, psum_nil, psum_int, psum_ref, psum_null, psum_long, Nat.zero_le, Nat.reduceAdd, Nat.reduceLeDiff, kl_int, kl_ref, kl_none, kl_null, kl_long]
  | some i =>
    obtain ⟨hi, rfl, h1⟩ := lmp_some hm
    simp only [ce79, ↓w79_0, ↓w79_1, ↓w79_2, ↓w79_5, ↓w79_6, ↓w79_7, ↓w79_10, ↓w79_11, ↓w79_12, ↓w79_14, ↓w79_17, ↓w79_18, k112 hb hk.1, hm, ↓x0_g0, ↓x0_g1, ↓x0_g2, ↓x0_g3, ↓x0_g4, ↓x0_g5, ↓x0_p5, x0_r, cK_inr, CH_thr, ↓lamp_g0 hg hi, ↓lamp_g1 hg hi, ↓lamp_g2 hg hi, ↓lamp_g3 hg hi, ↓lamp_g4 hg hi, ↓lamp_g5 hg hi, ↓lamp_g6 hg hi, ↓lamp_p0 hg hi, ↓lamp_p1 hg hi, ↓lamp_p2 hg hi, ↓lamp_p3 hg hi, ↓lamp_p4 hg hi, ↓lamp_p5 hg hi, ↓lamp_p6 hg hi, ↓lamp_r hg hi, icond_lt, icond_le, icond_gt, icond_ge, icond_eq, icond_ne, narrow_bool, true_or, or_true, if_true, if_false, cK_inl, toL_some, toL_none, psum_nil, psum_int, psum_ref, psum_null, psum_long, Nat.zero_le, Nat.reduceAdd, Nat.reduceLeDiff, kl_int, kl_ref, kl_none, kl_null, kl_long]
end CLASSI
