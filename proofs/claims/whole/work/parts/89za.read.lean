/-! READING A TAPE, IN BOTH -/
section READ
variable {b pl n m k t c D a : Nat} {rk : Nat → Nat} {qf lf : Nat → Nat} {T : Nat → Int32} {S S0 S1 V V0 V1 P P' G G' U : S3} {L L0 L1 : L3} {hc hcR : Nat × Nat × Nat} {R RB C : Nat → Option PC} {W : L3} {Q : PO → Prop} {z : Int64}
theorem e2_rng : (e2 V T qf lf t P).1 = 0 ∨ 0 < (e2 V T qf lf t P).1 := by
  unfold e2
  repeat' split
  all_goals first | exact Or.inl rfl | exact Or.inr (show (0 : Int32) < 2 by decide) | exact Or.inr (show (0 : Int32) < 3 by decide) | exact Or.inr (show (0 : Int32) < 4 by decide) | exact Or.inr (show (0 : Int32) < 5 by decide)
theorem ps2_rng : ∀ (k t : Nat) (P : S3), (ps2 V T qf lf k t P).1 = 0 ∨ 0 < (ps2 V T qf lf k t P).1 := by
  intro k
  induction k with
  | zero => intro t P; exact Or.inl rfl
  | succ k ih =>
    intro t P
    rw [ps2]
    split
    · exact ih _ _
    · rename_i h
      exact Or.inr (e2_rng.resolve_left h)
theorem kw_cg (h : L 4 2 = L0 4 2) : ∀ (k j : Nat), kw L k j z = kw L0 k j z := by
  intro k
  induction k with
  | zero => intro j; rfl
  | succ k ih => intro j; rw [kw, kw, h, ih]
theorem tkK_cg (h : L 4 2 = L0 4 2) : tkK L T a = tkK L0 T a := by
  unfold tkK
  rw [kw_cg h]
/-- the class, as reading begins -/
def clS (b : Nat) (S : S3) : S3 := su (su (su (su S (2 + b) 100 0 0) (2 + b) 101 0 0) (2 + b) 102 0 0) (2 + b) 103 0 0
def rd0 (b : Nat) (S : S3) : S3 := su (su (su (clS b (su S 4 208 0 (bk b))) 4 203 0 0) 4 204 0 (-1)) 4 200 0 (-1)
theorem c1_clear (hb : b < 2) : Cp (D + 1) 1 [.ref (BA b)] (CH hc S L R) Q = Q (.inl none, CH hc (clS b S) L R) := by
  simp only [ce1, ↓w1_0, ↓w1_1, ↓w1_2, ↓w1_5, ↓w1_6, ↓w1_7, ↓w1_10, ↓w1_11, ↓w1_12, ↓w1_15, ↓w1_16, ↓w1_17, ↓w1_20, ↓book_g0 hb, ↓book_g1 hb, ↓book_g2 hb, ↓book_g3 hb, ↓book_g4 hb, ↓book_g5 hb, ↓book_g6 hb, ↓book_g7 hb, ↓book_g8 hb, ↓book_g9 hb, ↓book_g10 hb, ↓book_g11 hb, ↓book_g12 hb, ↓book_g13 hb, ↓book_g14 hb, ↓book_g15 hb, ↓book_g16 hb, ↓b_posts_get hb, ↓b_rooms_get hb, ↓b_blocks_get hb, ↓b_words_get hb, ↓b_values_get hb, ↓b_behind_get hb, ↓b_bodies_get hb, ↓b_elses_get hb, ↓b_fstc_get hb, ↓b_endc_get hb, ↓b_lefts_get hb, ↓b_signs_get hb, ↓b_rights_get hb, ↓book_p0 hb, ↓book_p1 hb, ↓book_p2 hb, ↓book_p3 hb, ↓book_r hb, ↓b_posts_put hb, ↓b_rooms_put hb, ↓b_blocks_put hb, ↓b_words_put hb, ↓b_values_put hb, ↓b_behind_put hb, ↓b_bodies_put hb, ↓b_elses_put hb, ↓b_fstc_put hb, ↓b_endc_put hb, ↓b_lefts_put hb, ↓b_signs_put hb, ↓b_rights_put hb, icond_lt, icond_le, icond_gt, icond_ge, icond_eq, icond_ne, narrow_bool, true_or, or_true, if_true, if_false, cK_inl, toL_some, toL_none, psum_nil, psum_int, psum_ref, psum_null, psum_long, Nat.zero_le, Nat.reduceAdd, Nat.reduceLeDiff, kl_int, kl_ref, kl_none, kl_null, kl_long]
  rfl
theorem cl_4 (hb : b < 2) {v : Nat} : clS b S 4 v = S 4 v := by
  unfold clS
  rw [su_gne (by omega), su_gne (by omega), su_gne (by omega), su_gne (by omega)]
theorem c21_start (hT : tpT S T) (hB : byT T) (h16 : T 1600 = -1) (hR : roS R) (hb : b < 2) : Cp (D + 11) 21 [.ref 317, .ref 301, .ref (BA b)] (CH hc S L R) Q
    = Wp (D + 10) 21 44 [some (.ref 317), some (.ref 301), some (.ref (BA b)), some (.int 1), some (.int (Int32.ofNat 0))] [] (CH hc (stS 0 (rd0 b (scR L T 401 0 0 S L).1)) (stV 0 (scR L T 401 0 0 S L).2) R) Q := by
  have k41' := fun (d : Nat) (Q : PO → Prop) => k41 (c := hc) (L := L) hT hB h16 hR d Q
  have hB' : ∀ {S : S3}, (su S 4 208 0 (bk b) 4 208 0).toNatClampNeg = BA b := fun {S} => by rw [su_self]; exact bk_BA hb
  have e36 : rd0 b (scR L T 401 0 0 S L).1 4 200 0 + 1 = Int32.ofNat 0 := by
    unfold rd0
    rw [su_self]
    rfl
  simp +decide only [ce21, ↓w21_0, ↓w21_1, ↓w21_4, ↓w21_5, ↓w21_9, ↓w21_10, ↓w21_13, ↓w21_14, ↓w21_17, ↓w21_20, ↓w21_21, ↓w21_22, ↓w21_25, ↓w21_26, ↓w21_27, ↓w21_30, ↓w21_31, ↓w21_32, ↓w21_35, ↓w21_36, ↓w21_39, ↓w21_40, ↓w21_41, ↓w21_42, ↓w21_46, ↓w21_49, ↓w21_52, ↓w21_53, ↓w21_56, ↓w21_57, ↓w21_60, ↓w21_63, ↓w21_64, ↓w21_67, ↓w21_68, ↓w21_71, ↓w21_74, ↓w21_75, ↓w21_77, ↓w21_79, ↓w21_82, ↓w21_85, ↓w21_86, ↓w21_89, ↓w21_90, ↓w21_93, ↓w21_94, ↓w21_97, ↓w21_98, ↓w21_101, ↓w21_102, ↓w21_105, ↓w21_108, ↓w21_109, ↓w21_112, ↓w21_113, ↓w21_116, ↓w21_118, ↓w21_121, ↓w21_122, ↓w21_123, ↓w21_126, ↓w21_127, ↓w21_128, ↓w21_131, ↓w21_134, ↓w21_135, ↓w21_138, ↓rdr_g0, ↓rdr_g1, ↓rdr_g2, ↓rdr_g3, ↓rdr_g4, ↓rdr_g5, ↓rdr_g6, ↓rdr_g7, ↓rdr_g8, ↓rdr_g9, ↓rdr_p4, ↓rdr_p5, ↓rdr_p6, ↓rdr_p7, ↓rdr_p8, ↓rdr_p9, ↓rdr_r, toks_r, ↓k41', ↓cK_inl, icond_lt, icond_le, icond_gt, icond_ge, icond_eq, icond_ne, narrow_bool, true_or, or_true, if_true, if_false, cK_inl, toL_some, toL_none, psum_nil, psum_int, psum_ref, psum_null, psum_long, Nat.zero_le, Nat.reduceAdd, Nat.reduceLeDiff, kl_int, kl_ref, kl_none, kl_null, kl_long]
  rw [w21_8]
  simp +decide only [↓w21_0, ↓w21_1, ↓w21_4, ↓w21_5, ↓w21_9, ↓w21_10, ↓w21_13, ↓w21_14, ↓w21_17, ↓w21_20, ↓w21_21, ↓w21_22, ↓w21_25, ↓w21_26, ↓w21_27, ↓w21_30, ↓w21_31, ↓w21_32, ↓w21_36, ↓w21_39, ↓w21_40, ↓w21_41, ↓w21_42, ↓w21_46, ↓w21_49, ↓w21_52, ↓w21_53, ↓w21_56, ↓w21_57, ↓w21_60, ↓w21_63, ↓w21_64, ↓w21_67, ↓w21_68, ↓w21_71, ↓w21_74, ↓w21_75, ↓w21_77, ↓w21_79, ↓w21_82, ↓w21_85, ↓w21_86, ↓w21_89, ↓w21_90, ↓w21_93, ↓w21_94, ↓w21_97, ↓w21_98, ↓w21_101, ↓w21_102, ↓w21_105, ↓w21_108, ↓w21_109, ↓w21_112, ↓w21_113, ↓w21_116, ↓w21_118, ↓w21_121, ↓w21_122, ↓w21_123, ↓w21_126, ↓w21_127, ↓w21_128, ↓w21_131, ↓w21_134, ↓w21_135, ↓w21_138, ↓rdr_p3 hb, ↓rdr_b hB', ↓rdr_g0, ↓rdr_g1, ↓rdr_g2, ↓rdr_g3, ↓rdr_g4, ↓rdr_g5, ↓rdr_g6, ↓rdr_g7, ↓rdr_g8, ↓rdr_g9, ↓rdr_p4, ↓rdr_p5, ↓rdr_p6, ↓rdr_p7, ↓rdr_p8, ↓rdr_p9, ↓rdr_r, ↓book_p0 hb, ↓book_p1 hb, ↓book_p2 hb, ↓book_p3 hb, ↓book_r hb, ↓b_posts_put hb, ↓b_rooms_put hb, ↓b_blocks_put hb, ↓b_words_put hb, ↓b_values_put hb, ↓b_behind_put hb, ↓b_bodies_put hb, ↓b_elses_put hb, ↓b_fstc_put hb, ↓b_endc_put hb, ↓b_lefts_put hb, ↓b_signs_put hb, ↓b_rights_put hb, toks_r, ↓c1_clear hb, ↓cK_inl, icond_lt, icond_le, icond_gt, icond_ge, icond_eq, icond_ne, narrow_bool, true_or, or_true, if_true, if_false, cK_inl, toL_some, toL_none, psum_nil, psum_int, psum_ref, psum_null, psum_long, Nat.zero_le, Nat.reduceAdd, Nat.reduceLeDiff, kl_int, kl_ref, kl_none, kl_null, kl_long]
  rw [w21_35]
  have q36 := fun Q => k36 (d := D + 9) (c := hc) (L := (scR L T 401 0 0 S L).2) (R := R) (Q := Q) e36 (by decide)
  unfold rd0 at q36 ⊢
  simp +decide only [↓w21_0, ↓w21_1, ↓w21_4, ↓w21_5, ↓w21_9, ↓w21_10, ↓w21_13, ↓w21_14, ↓w21_17, ↓w21_20, ↓w21_21, ↓w21_22, ↓w21_25, ↓w21_26, ↓w21_27, ↓w21_30, ↓w21_31, ↓w21_32, ↓w21_35, ↓w21_36, ↓w21_39, ↓w21_40, ↓w21_41, ↓w21_42, ↓w21_46, ↓w21_49, ↓w21_52, ↓w21_53, ↓w21_56, ↓w21_57, ↓w21_60, ↓w21_63, ↓w21_64, ↓w21_67, ↓w21_68, ↓w21_71, ↓w21_74, ↓w21_75, ↓w21_77, ↓w21_79, ↓w21_82, ↓w21_85, ↓w21_86, ↓w21_89, ↓w21_90, ↓w21_93, ↓w21_94, ↓w21_97, ↓w21_98, ↓w21_101, ↓w21_102, ↓w21_105, ↓w21_108, ↓w21_109, ↓w21_112, ↓w21_113, ↓w21_116, ↓w21_118, ↓w21_121, ↓w21_122, ↓w21_123, ↓w21_126, ↓w21_127, ↓w21_128, ↓w21_131, ↓w21_134, ↓w21_135, ↓w21_138, q36, icond_lt, icond_le, icond_gt, icond_ge, icond_eq, icond_ne, narrow_bool, true_or, or_true, if_true, if_false, cK_inl, toL_some, toL_none, psum_nil, psum_int, psum_ref, psum_null, psum_long, Nat.zero_le, Nat.reduceAdd, Nat.reduceLeDiff, kl_int, kl_ref, kl_none, kl_null, kl_long]
  rfl
end READ
