/-! THE GRAMMAR IN LOCKSTEP: a whole book -/
section BOOKY
variable {b pl n m D : Nat} {qf lf : Nat → Nat} {T : Nat → Int32} {S0 V0 : S3} {L0 : L3} {r : Int32} {hc hcR : Nat × Nat × Nat} {R RB C : Nat → Option PC} {W : L3} {Q : PO → Prop}
/-- stuck, in the class -/
def stk (S : S3) : S3 := su (su S 4 203 0 1) 4 204 0 (S 4 202 0)
section C21
variable {S S1 : S3} {L L1 : L3} {x : Int32} {i : Nat} {r1 r2 : Nat}
theorem c21_l1 (h : S 4 201 0 = 0) (hi : i < 400) (q : RD hc R D 22 [.ref 317] S L r S1 L1) : Wp D 21 44 [some (.ref 317), some (.ref r1), some (.ref r2), some (.int 1), some (.int (Int32.ofNat i))] [] (CH hc S L R) Q = Wp D 21 44 [some (.ref 317), some (.ref r1), some (.ref r2), some (.int r), some (.int (Int32.ofNat (i + 1)))] [] (CH hc S1 L1 R) Q := by
  have h0 : ¬ (400 : Int32) ≤ Int32.ofNat i := fun q => absurd ((ofN_le (k := 400) (by omega) (by omega)).mp q) (by omega)
  unfold RD at q
  rw [w21_44]
  simp +decide only [↓w21_0, ↓w21_1, ↓w21_4, ↓w21_5, ↓w21_8, ↓w21_9, ↓w21_10, ↓w21_13, ↓w21_14, ↓w21_17, ↓w21_20, ↓w21_21, ↓w21_22, ↓w21_25, ↓w21_26, ↓w21_27, ↓w21_30, ↓w21_31, ↓w21_32, ↓w21_35, ↓w21_36, ↓w21_39, ↓w21_40, ↓w21_41, ↓w21_42, ↓w21_46, ↓w21_49, ↓w21_52, ↓w21_53, ↓w21_56, ↓w21_57, ↓w21_60, ↓w21_63, ↓w21_64, ↓w21_67, ↓w21_68, ↓w21_71, ↓w21_74, ↓w21_75, ↓w21_77, ↓w21_79, ↓w21_82, ↓w21_85, ↓w21_86, ↓w21_89, ↓w21_90, ↓w21_93, ↓w21_94, ↓w21_97, ↓w21_98, ↓w21_101, ↓w21_102, ↓w21_105, ↓w21_108, ↓w21_109, ↓w21_112, ↓w21_113, ↓w21_116, ↓w21_118, ↓w21_121, ↓w21_122, ↓w21_123, ↓w21_126, ↓w21_127, ↓w21_128, ↓w21_131, ↓w21_134, ↓w21_135, ↓w21_138, ↓rdr_g0, ↓rdr_g1, ↓rdr_g2, ↓rdr_g3, ↓rdr_g4, ↓rdr_g5, ↓rdr_g6, ↓rdr_g7, ↓rdr_g8, ↓rdr_g9, ↓rdr_p4, ↓rdr_p5, ↓rdr_p6, ↓rdr_p7, ↓rdr_p8, ↓rdr_p9, ↓rdr_r, h, h0, q, ofN_a1, icond_lt, icond_le, icond_gt, icond_ge, icond_eq, icond_ne, narrow_bool, true_or, or_true, if_true, if_false, cK_inl, toL_some, toL_none, psum_nil, psum_int, psum_ref, psum_null, psum_long, Nat.zero_le, Nat.reduceAdd, Nat.reduceLeDiff, kl_int, kl_ref, kl_none, kl_null, kl_long, ne_eq, not_true, not_false_eq_true]
theorem c21_l2 (h : S 4 201 0 ≠ 0) (hi : i < 400) : Wp D 21 44 [some (.ref 317), some (.ref r1), some (.ref r2), some (.int 1), some (.int (Int32.ofNat i))] [] (CH hc S L R) Q = Wp D 21 77 [some (.ref 317), some (.ref r1), some (.ref r2), some (.int 1), some (.int (Int32.ofNat 0))] [] (CH hc S L R) Q := by
  have h0 : ¬ (400 : Int32) ≤ Int32.ofNat i := fun q => absurd ((ofN_le (k := 400) (by omega) (by omega)).mp q) (by omega)
  simp +decide only [↓w21_0, ↓w21_1, ↓w21_4, ↓w21_5, ↓w21_8, ↓w21_9, ↓w21_10, ↓w21_13, ↓w21_14, ↓w21_17, ↓w21_20, ↓w21_21, ↓w21_22, ↓w21_25, ↓w21_26, ↓w21_27, ↓w21_30, ↓w21_31, ↓w21_32, ↓w21_35, ↓w21_36, ↓w21_39, ↓w21_40, ↓w21_41, ↓w21_42, ↓w21_44, ↓w21_46, ↓w21_49, ↓w21_52, ↓w21_53, ↓w21_56, ↓w21_57, ↓w21_60, ↓w21_63, ↓w21_64, ↓w21_67, ↓w21_68, ↓w21_71, ↓w21_74, ↓w21_75, ↓w21_79, ↓w21_82, ↓w21_85, ↓w21_86, ↓w21_89, ↓w21_90, ↓w21_93, ↓w21_94, ↓w21_97, ↓w21_98, ↓w21_101, ↓w21_102, ↓w21_105, ↓w21_108, ↓w21_109, ↓w21_112, ↓w21_113, ↓w21_116, ↓w21_118, ↓w21_121, ↓w21_122, ↓w21_123, ↓w21_126, ↓w21_127, ↓w21_128, ↓w21_131, ↓w21_134, ↓w21_135, ↓w21_138, ↓rdr_g0, ↓rdr_g1, ↓rdr_g2, ↓rdr_g3, ↓rdr_g4, ↓rdr_g5, ↓rdr_g6, ↓rdr_g7, ↓rdr_g8, ↓rdr_g9, ↓rdr_p4, ↓rdr_p5, ↓rdr_p6, ↓rdr_p7, ↓rdr_p8, ↓rdr_p9, ↓rdr_r, h, h0, icond_lt, icond_le, icond_gt, icond_ge, icond_eq, icond_ne, narrow_bool, true_or, or_true, if_true, if_false, cK_inl, toL_some, toL_none, psum_nil, psum_int, psum_ref, psum_null, psum_long, Nat.zero_le, Nat.reduceAdd, Nat.reduceLeDiff, kl_int, kl_ref, kl_none, kl_null, kl_long, ne_eq, not_true, not_false_eq_true]
  rfl
theorem c21_108 (h : S 4 201 0 ≠ 31) : Wp D 21 108 [some (.ref 317), some (.ref r1), some (.ref r2), some (.int 1), some (.int x)] [] (CH hc S L R) Q = Q (.inl (some (.int 1)), CH hc (stk S) L R) := by
  have e : su S 4 203 0 1 4 202 0 = S 4 202 0 := by rw [su_ne (by decide)]
  have e2 : su (su S 4 203 0 1) 4 204 0 (S 4 202 0) 4 203 0 = 1 := by rw [su_ne (by decide), su_self]
  simp +decide only [↓w21_0, ↓w21_1, ↓w21_4, ↓w21_5, ↓w21_8, ↓w21_9, ↓w21_10, ↓w21_13, ↓w21_14, ↓w21_17, ↓w21_20, ↓w21_21, ↓w21_22, ↓w21_25, ↓w21_26, ↓w21_27, ↓w21_30, ↓w21_31, ↓w21_32, ↓w21_35, ↓w21_36, ↓w21_39, ↓w21_40, ↓w21_41, ↓w21_42, ↓w21_44, ↓w21_46, ↓w21_49, ↓w21_52, ↓w21_53, ↓w21_56, ↓w21_57, ↓w21_60, ↓w21_63, ↓w21_64, ↓w21_67, ↓w21_68, ↓w21_71, ↓w21_74, ↓w21_75, ↓w21_77, ↓w21_79, ↓w21_82, ↓w21_85, ↓w21_86, ↓w21_89, ↓w21_90, ↓w21_93, ↓w21_94, ↓w21_97, ↓w21_98, ↓w21_101, ↓w21_102, ↓w21_105, ↓w21_108, ↓w21_109, ↓w21_112, ↓w21_113, ↓w21_116, ↓w21_118, ↓w21_121, ↓w21_122, ↓w21_123, ↓w21_126, ↓w21_127, ↓w21_128, ↓w21_131, ↓w21_134, ↓w21_135, ↓w21_138, ↓rdr_g0, ↓rdr_g1, ↓rdr_g2, ↓rdr_g3, ↓rdr_g4, ↓rdr_g5, ↓rdr_g6, ↓rdr_g7, ↓rdr_g8, ↓rdr_g9, ↓rdr_p4, ↓rdr_p5, ↓rdr_p6, ↓rdr_p7, ↓rdr_p8, ↓rdr_p9, ↓rdr_r, h, e, e2, icond_lt, icond_le, icond_gt, icond_ge, icond_eq, icond_ne, narrow_bool, true_or, or_true, if_true, if_false, cK_inl, toL_some, toL_none, psum_nil, psum_int, psum_ref, psum_null, psum_long, Nat.zero_le, Nat.reduceAdd, Nat.reduceLeDiff, kl_int, kl_ref, kl_none, kl_null, kl_long, ne_eq, not_true, not_false_eq_true]
  rfl
theorem c21_108e (h : S 4 201 0 = 31) : Wp D 21 108 [some (.ref 317), some (.ref r1), some (.ref r2), some (.int 1), some (.int x)] [] (CH hc S L R) Q = Q (.inl (some (.int (S 4 203 0))), CH hc S L R) := by
  simp +decide only [↓w21_0, ↓w21_1, ↓w21_4, ↓w21_5, ↓w21_8, ↓w21_9, ↓w21_10, ↓w21_13, ↓w21_14, ↓w21_17, ↓w21_20, ↓w21_21, ↓w21_22, ↓w21_25, ↓w21_26, ↓w21_27, ↓w21_30, ↓w21_31, ↓w21_32, ↓w21_35, ↓w21_36, ↓w21_39, ↓w21_40, ↓w21_41, ↓w21_42, ↓w21_44, ↓w21_46, ↓w21_49, ↓w21_52, ↓w21_53, ↓w21_56, ↓w21_57, ↓w21_60, ↓w21_63, ↓w21_64, ↓w21_67, ↓w21_68, ↓w21_71, ↓w21_74, ↓w21_75, ↓w21_77, ↓w21_79, ↓w21_82, ↓w21_85, ↓w21_86, ↓w21_89, ↓w21_90, ↓w21_93, ↓w21_94, ↓w21_97, ↓w21_98, ↓w21_101, ↓w21_102, ↓w21_105, ↓w21_108, ↓w21_109, ↓w21_112, ↓w21_113, ↓w21_116, ↓w21_118, ↓w21_121, ↓w21_122, ↓w21_123, ↓w21_126, ↓w21_127, ↓w21_128, ↓w21_131, ↓w21_134, ↓w21_135, ↓w21_138, ↓rdr_g0, ↓rdr_g1, ↓rdr_g2, ↓rdr_g3, ↓rdr_g4, ↓rdr_g5, ↓rdr_g6, ↓rdr_g7, ↓rdr_g8, ↓rdr_g9, ↓rdr_p4, ↓rdr_p5, ↓rdr_p6, ↓rdr_p7, ↓rdr_p8, ↓rdr_p9, ↓rdr_r, h, icond_lt, icond_le, icond_gt, icond_ge, icond_eq, icond_ne, narrow_bool, true_or, or_true, if_true, if_false, cK_inl, toL_some, toL_none, psum_nil, psum_int, psum_ref, psum_null, psum_long, Nat.zero_le, Nat.reduceAdd, Nat.reduceLeDiff, kl_int, kl_ref, kl_none, kl_null, kl_long, ne_eq, not_true, not_false_eq_true]
theorem c21_108z : Wp D 21 108 [some (.ref 317), some (.ref r1), some (.ref r2), some (.int 0), some (.int x)] [] (CH hc S L R) Q = Q (.inl (some (.int 1)), CH hc (stk S) L R) := by
  have e : su S 4 203 0 1 4 202 0 = S 4 202 0 := by rw [su_ne (by decide)]
  have e2 : su (su S 4 203 0 1) 4 204 0 (S 4 202 0) 4 203 0 = 1 := by rw [su_ne (by decide), su_self]
  simp +decide only [↓w21_0, ↓w21_1, ↓w21_4, ↓w21_5, ↓w21_8, ↓w21_9, ↓w21_10, ↓w21_13, ↓w21_14, ↓w21_17, ↓w21_20, ↓w21_21, ↓w21_22, ↓w21_25, ↓w21_26, ↓w21_27, ↓w21_30, ↓w21_31, ↓w21_32, ↓w21_35, ↓w21_36, ↓w21_39, ↓w21_40, ↓w21_41, ↓w21_42, ↓w21_44, ↓w21_46, ↓w21_49, ↓w21_52, ↓w21_53, ↓w21_56, ↓w21_57, ↓w21_60, ↓w21_63, ↓w21_64, ↓w21_67, ↓w21_68, ↓w21_71, ↓w21_74, ↓w21_75, ↓w21_77, ↓w21_79, ↓w21_82, ↓w21_85, ↓w21_86, ↓w21_89, ↓w21_90, ↓w21_93, ↓w21_94, ↓w21_97, ↓w21_98, ↓w21_101, ↓w21_102, ↓w21_105, ↓w21_108, ↓w21_109, ↓w21_112, ↓w21_113, ↓w21_116, ↓w21_118, ↓w21_121, ↓w21_122, ↓w21_123, ↓w21_126, ↓w21_127, ↓w21_128, ↓w21_131, ↓w21_134, ↓w21_135, ↓w21_138, ↓rdr_g0, ↓rdr_g1, ↓rdr_g2, ↓rdr_g3, ↓rdr_g4, ↓rdr_g5, ↓rdr_g6, ↓rdr_g7, ↓rdr_g8, ↓rdr_g9, ↓rdr_p4, ↓rdr_p5, ↓rdr_p6, ↓rdr_p7, ↓rdr_p8, ↓rdr_p9, ↓rdr_r, e, e2, icond_lt, icond_le, icond_gt, icond_ge, icond_eq, icond_ne, narrow_bool, true_or, or_true, if_true, if_false, cK_inl, toL_some, toL_none, psum_nil, psum_int, psum_ref, psum_null, psum_long, Nat.zero_le, Nat.reduceAdd, Nat.reduceLeDiff, kl_int, kl_ref, kl_none, kl_null, kl_long, ne_eq, not_true, not_false_eq_true]
  rfl
theorem c21_77z : Wp D 21 77 [some (.ref 317), some (.ref r1), some (.ref r2), some (.int 0), some (.int x)] [] (CH hc S L R) Q = Q (.inl (some (.int 1)), CH hc (stk S) L R) := by
  have : Wp D 21 77 [some (.ref 317), some (.ref r1), some (.ref r2), some (.int 0), some (.int x)] [] (CH hc S L R) Q = Wp D 21 108 [some (.ref 317), some (.ref r1), some (.ref r2), some (.int 0), some (.int x)] [] (CH hc S L R) Q := by
    by_cases h0 : (400 : Int32) ≤ x <;> simp +decide only [↓w21_0, ↓w21_1, ↓w21_4, ↓w21_5, ↓w21_8, ↓w21_9, ↓w21_10, ↓w21_13, ↓w21_14, ↓w21_17, ↓w21_20, ↓w21_21, ↓w21_22, ↓w21_25, ↓w21_26, ↓w21_27, ↓w21_30, ↓w21_31, ↓w21_32, ↓w21_35, ↓w21_36, ↓w21_39, ↓w21_40, ↓w21_41, ↓w21_42, ↓w21_44, ↓w21_46, ↓w21_49, ↓w21_52, ↓w21_53, ↓w21_56, ↓w21_57, ↓w21_60, ↓w21_63, ↓w21_64, ↓w21_67, ↓w21_68, ↓w21_71, ↓w21_74, ↓w21_75, ↓w21_77, ↓w21_79, ↓w21_82, ↓w21_85, ↓w21_86, ↓w21_89, ↓w21_90, ↓w21_93, ↓w21_94, ↓w21_97, ↓w21_98, ↓w21_101, ↓w21_102, ↓w21_105, ↓w21_109, ↓w21_112, ↓w21_113, ↓w21_116, ↓w21_118, ↓w21_121, ↓w21_122, ↓w21_123, ↓w21_126, ↓w21_127, ↓w21_128, ↓w21_131, ↓w21_134, ↓w21_135, ↓w21_138, h0, icond_lt, icond_le, icond_gt, icond_ge, icond_eq, icond_ne, narrow_bool, true_or, or_true, if_true, if_false, cK_inl, toL_some, toL_none, psum_nil, psum_int, psum_ref, psum_null, psum_long, Nat.zero_le, Nat.reduceAdd, Nat.reduceLeDiff, kl_int, kl_ref, kl_none, kl_null, kl_long]
  rw [this, c21_108z]
theorem c21_44z : Wp D 21 44 [some (.ref 317), some (.ref r1), some (.ref r2), some (.int 0), some (.int x)] [] (CH hc S L R) Q = Q (.inl (some (.int 1)), CH hc (stk S) L R) := by
  have : Wp D 21 44 [some (.ref 317), some (.ref r1), some (.ref r2), some (.int 0), some (.int x)] [] (CH hc S L R) Q = Wp D 21 77 [some (.ref 317), some (.ref r1), some (.ref r2), some (.int 0), some (.int 0)] [] (CH hc S L R) Q := by
    by_cases h0 : (400 : Int32) ≤ x <;> simp +decide only [↓w21_0, ↓w21_1, ↓w21_4, ↓w21_5, ↓w21_8, ↓w21_9, ↓w21_10, ↓w21_13, ↓w21_14, ↓w21_17, ↓w21_20, ↓w21_21, ↓w21_22, ↓w21_25, ↓w21_26, ↓w21_27, ↓w21_30, ↓w21_31, ↓w21_32, ↓w21_35, ↓w21_36, ↓w21_39, ↓w21_40, ↓w21_41, ↓w21_42, ↓w21_44, ↓w21_46, ↓w21_49, ↓w21_52, ↓w21_53, ↓w21_56, ↓w21_57, ↓w21_60, ↓w21_63, ↓w21_64, ↓w21_67, ↓w21_68, ↓w21_71, ↓w21_74, ↓w21_75, ↓w21_79, ↓w21_82, ↓w21_85, ↓w21_86, ↓w21_89, ↓w21_90, ↓w21_93, ↓w21_94, ↓w21_97, ↓w21_98, ↓w21_101, ↓w21_102, ↓w21_105, ↓w21_108, ↓w21_109, ↓w21_112, ↓w21_113, ↓w21_116, ↓w21_118, ↓w21_121, ↓w21_122, ↓w21_123, ↓w21_126, ↓w21_127, ↓w21_128, ↓w21_131, ↓w21_134, ↓w21_135, ↓w21_138, h0, icond_lt, icond_le, icond_gt, icond_ge, icond_eq, icond_ne, narrow_bool, true_or, or_true, if_true, if_false, cK_inl, toL_some, toL_none, psum_nil, psum_int, psum_ref, psum_null, psum_long, Nat.zero_le, Nat.reduceAdd, Nat.reduceLeDiff, kl_int, kl_ref, kl_none, kl_null, kl_long]
  rw [this, c21_77z]
theorem c21_r1 (h : S 4 201 0 = 3) (hi : i < 400) (q : RD hc R D 23 [.ref 317] S L r S1 L1) : Wp D 21 77 [some (.ref 317), some (.ref r1), some (.ref r2), some (.int 1), some (.int (Int32.ofNat i))] [] (CH hc S L R) Q = Wp D 21 77 [some (.ref 317), some (.ref r1), some (.ref r2), some (.int r), some (.int (Int32.ofNat (i + 1)))] [] (CH hc S1 L1 R) Q := by
  have h0 : ¬ (400 : Int32) ≤ Int32.ofNat i := fun q => absurd ((ofN_le (k := 400) (by omega) (by omega)).mp q) (by omega)
  unfold RD at q
  rw [w21_77]
  simp +decide only [↓w21_0, ↓w21_1, ↓w21_4, ↓w21_5, ↓w21_8, ↓w21_9, ↓w21_10, ↓w21_13, ↓w21_14, ↓w21_17, ↓w21_20, ↓w21_21, ↓w21_22, ↓w21_25, ↓w21_26, ↓w21_27, ↓w21_30, ↓w21_31, ↓w21_32, ↓w21_35, ↓w21_36, ↓w21_39, ↓w21_40, ↓w21_41, ↓w21_42, ↓w21_44, ↓w21_46, ↓w21_49, ↓w21_52, ↓w21_53, ↓w21_56, ↓w21_57, ↓w21_60, ↓w21_63, ↓w21_64, ↓w21_67, ↓w21_68, ↓w21_71, ↓w21_74, ↓w21_75, ↓w21_79, ↓w21_82, ↓w21_85, ↓w21_86, ↓w21_89, ↓w21_90, ↓w21_93, ↓w21_94, ↓w21_97, ↓w21_98, ↓w21_101, ↓w21_102, ↓w21_105, ↓w21_108, ↓w21_109, ↓w21_112, ↓w21_113, ↓w21_116, ↓w21_118, ↓w21_121, ↓w21_122, ↓w21_123, ↓w21_126, ↓w21_127, ↓w21_128, ↓w21_131, ↓w21_134, ↓w21_135, ↓w21_138, ↓rdr_g0, ↓rdr_g1, ↓rdr_g2, ↓rdr_g3, ↓rdr_g4, ↓rdr_g5, ↓rdr_g6, ↓rdr_g7, ↓rdr_g8, ↓rdr_g9, ↓rdr_p4, ↓rdr_p5, ↓rdr_p6, ↓rdr_p7, ↓rdr_p8, ↓rdr_p9, ↓rdr_r, h, h0, q, ofN_a1, icond_lt, icond_le, icond_gt, icond_ge, icond_eq, icond_ne, narrow_bool, true_or, or_true, if_true, if_false, cK_inl, toL_some, toL_none, psum_nil, psum_int, psum_ref, psum_null, psum_long, Nat.zero_le, Nat.reduceAdd, Nat.reduceLeDiff, kl_int, kl_ref, kl_none, kl_null, kl_long, ne_eq, not_true, not_false_eq_true]
theorem c21_r2 (h : S 4 201 0 ≠ 3) (hi : i < 400) : Wp D 21 77 [some (.ref 317), some (.ref r1), some (.ref r2), some (.int 1), some (.int (Int32.ofNat i))] [] (CH hc S L R) Q = Wp D 21 108 [some (.ref 317), some (.ref r1), some (.ref r2), some (.int 1), some (.int (Int32.ofNat i))] [] (CH hc S L R) Q := by
  have h0 : ¬ (400 : Int32) ≤ Int32.ofNat i := fun q => absurd ((ofN_le (k := 400) (by omega) (by omega)).mp q) (by omega)
  simp +decide only [↓w21_0, ↓w21_1, ↓w21_4, ↓w21_5, ↓w21_8, ↓w21_9, ↓w21_10, ↓w21_13, ↓w21_14, ↓w21_17, ↓w21_20, ↓w21_21, ↓w21_22, ↓w21_25, ↓w21_26, ↓w21_27, ↓w21_30, ↓w21_31, ↓w21_32, ↓w21_35, ↓w21_36, ↓w21_39, ↓w21_40, ↓w21_41, ↓w21_42, ↓w21_44, ↓w21_46, ↓w21_49, ↓w21_52, ↓w21_53, ↓w21_56, ↓w21_57, ↓w21_60, ↓w21_63, ↓w21_64, ↓w21_67, ↓w21_68, ↓w21_71, ↓w21_74, ↓w21_75, ↓w21_77, ↓w21_79, ↓w21_82, ↓w21_85, ↓w21_86, ↓w21_89, ↓w21_90, ↓w21_93, ↓w21_94, ↓w21_97, ↓w21_98, ↓w21_101, ↓w21_102, ↓w21_105, ↓w21_109, ↓w21_112, ↓w21_113, ↓w21_116, ↓w21_118, ↓w21_121, ↓w21_122, ↓w21_123, ↓w21_126, ↓w21_127, ↓w21_128, ↓w21_131, ↓w21_134, ↓w21_135, ↓w21_138, ↓rdr_g0, ↓rdr_g1, ↓rdr_g2, ↓rdr_g3, ↓rdr_g4, ↓rdr_g5, ↓rdr_g6, ↓rdr_g7, ↓rdr_g8, ↓rdr_g9, ↓rdr_p4, ↓rdr_p5, ↓rdr_p6, ↓rdr_p7, ↓rdr_p8, ↓rdr_p9, ↓rdr_r, h, h0, icond_lt, icond_le, icond_gt, icond_ge, icond_eq, icond_ne, narrow_bool, true_or, or_true, if_true, if_false, cK_inl, toL_some, toL_none, psum_nil, psum_int, psum_ref, psum_null, psum_long, Nat.zero_le, Nat.reduceAdd, Nat.reduceLeDiff, kl_int, kl_ref, kl_none, kl_null, kl_long, ne_eq, not_true, not_false_eq_true]
end C21
/-- how reading ends, from the class's place 44 or 77 and the reference's 0 or 75 on -/
def BKr (hc hcR : Nat × Nat × Nat) (R RB C : Nat → Option PC) (W : L3) (pl b m : Nat) (qf : Nat → Nat) (T : Nat → Int32) (S0 : S3) (L0 : L3) (V0 Sb : S3) (pc pcR i : Nat) (S : S3) (L : L3) (V P : S3) (r1 r2 : Nat) (l1 : Option Value) (I : Prop) : Prop :=
  (∃ S' L' V' P', Fk b m qf S0 L0 V0 S' L' V' ∧ (∀ (d : Nat) (Q : PO → Prop), Wp (d + 22) 21 pc [some (.ref 317), some (.ref r1), some (.ref r2), some (.int 1), some (.int (Int32.ofNat i))] [] (CH hc S L R) Q = Q (.inl (some (.int 1)), CH hc (stk S') L' R)) ∧
    (∀ (d : Nat) (Q : PO → Prop), Wp (d + 24) 162 pcR [some (.ref 395), l1] [] (RP hcR C V W pl P RB) Q = Q (.inl (some (.int 0)), RP hcR C V' W pl P' RB))) ∨
  ∃ (k' A' c' E' M' NR' : Nat) (rk' : Nat → Nat) (S' : S3) (L' : L3) (V' P' : S3), k' ≤ m ∧ 4 * c' ≤ k' ∧ S' 4 211 k' = 31 ∧ Gk b m qf T S0 L0 V0 k' 0 A' c' c' E' M' M' NR' NR' S' L' V' P' ∧
    (∀ (d : Nat) (Q : PO → Prop), Wp (d + 22) 21 pc [some (.ref 317), some (.ref r1), some (.ref r2), some (.int 1), some (.int (Int32.ofNat i))] [] (CH hc S L R) Q = Q (.inl (some (.int (S' 4 203 0))), CH hc S' L' R)) ∧
    (∀ (d : Nat) (Q : PO → Prop), Wp (d + 24) 162 pcR [some (.ref 395), l1] [] (RP hcR C V W pl P RB) Q = Q (.inl (some (.int 1)), RP hcR C V' W pl P' RB)) ∧
    (S' 4 203 0 = 0 → I → SBK b M' NR' A' c' E' rk' S' P' (p2 V' T qf k').2.2)
theorem rounds_sim (H : bse b pl n m qf T S0 L0 V0) : ∀ (f k i A c E M NR : Nat) (rk : Nat → Nat) (S : S3) (L : L3) (V P : S3) (r1 r2 : Nat) (l1 : Option Value), m - k ≤ f → Gk b m qf T S0 L0 V0 k 0 A c c E M M NR NR S L V P → 4 * c ≤ k → 2 * i ≤ k → BKr hc hcR R RB C W pl b m qf T S0 L0 V0 S 77 75 i S L V P r1 r2 l1 (S 4 203 0 = 0 → SBK b M NR A c E rk S P (p2 V T qf k).2.2) := by
  have hm := H.2.2.2.2.2.2.1
  intro f
  have fin : ∀ (k i A c E M NR : Nat) (rk : Nat → Nat) (S : S3) (L : L3) (V P : S3) (r1 r2 : Nat) (l1 : Option Value), S 4 211 k ≠ Int32.ofNat 3 → Gk b m qf T S0 L0 V0 k 0 A c c E M M NR NR S L V P → 4 * c ≤ k → 2 * i ≤ k → BKr hc hcR R RB C W pl b m qf T S0 L0 V0 S 77 75 i S L V P r1 r2 l1 (S 4 203 0 = 0 → SBK b M NR A c E rk S P (p2 V T qf k).2.2) := by
    intro k i A c E M NR rk S L V P r1 r2 l1 h3 h h4 hi
    have km := h.1.1
    have u4 := h.1.2.2.2.2.2.1
    obtain ⟨n1, n2⟩ := k_no H h (by decide) h3
    have qC := fun (d : Nat) (Q : PO → Prop) => c21_r2 (D := d + 22) (Q := Q) (hc := hc) (R := R) (L := L) (r1 := r1) (r2 := r2) n2 (show i < 400 by omega)
    have qR := fun (d : Nat) (Q : PO → Prop) => r162_end (D := d + 23) (Q := Q) (hcR := hcR) (C := C) (W := W) (RB := RB) (pl := pl) (P := P) (l1 := l1) (show k < 401 by omega) u4 n1
    by_cases h31 : S 4 211 k = Int32.ofNat 31
    · have e900 : V 4 211 k = 900 := bse_eq H h.2.1 km h31
      refine Or.inr ⟨k, A, c, E, M, NR, rk, S, L, V, P, km, h4, h31, h, fun d Q => (qC d Q).trans (c21_108e (h.1.2.2.1.trans h31)), fun d Q => (qR d Q).trans ?_, fun q0 q => q q0⟩
      rw [if_pos e900]
    · have e900 : V 4 211 k ≠ 900 := bse_ne (j := 31) H h.2.1 km (by decide) h31
      refine Or.inl ⟨S, L, V, P, Gk_F h H, fun d Q => (qC d Q).trans (c21_108 (by rw [h.1.2.2.1]; exact h31)), fun d Q => (qR d Q).trans ?_⟩
      rw [if_neg e900]
  induction f with
  | zero =>
    intro k i A c E M NR rk S L V P r1 r2 l1 hf h h4 hi
    have h3 : S 4 211 k ≠ Int32.ofNat 3 := fun q => by
      have := (acc_G H h (by decide) q).1
      omega
    exact fin k i A c E M NR rk S L V P r1 r2 l1 h3 h h4 hi
  | succ f ih =>
    intro k i A c E M NR rk S L V P r1 r2 l1 hf h h4 hi
    have km := h.1.1
    by_cases h3 : S 4 211 k = Int32.ofNat 3
    · obtain ⟨hk, n1, n2, n3, -, -⟩ := acc_G H h (by decide) h3
      rcases round_sim (hc := hc) (hcR := hcR) (R := R) (RB := RB) (C := C) (W := W) H h h4 h3 rk l1 with ⟨S', L', V', P', f1, q1, q2⟩ | ⟨k', A', c', E', rk', S', L', V', P', b1, b2, G1, q1, q2, w⟩
      · exact Or.inl ⟨S', L', V', P', f1, fun d Q => (c21_r1 n2 (by omega) (q1 d)).trans c21_77z, q2⟩
      · rcases ih k' (i + 1) A' c' E' M (NR + 1) rk' S' L' V' P' r1 r2 (some (.int (Int32.ofNat NR))) (by omega) G1 b2 (by omega) with ⟨S2, L2, V2, P2, f1, q3, q4⟩ | ⟨k2, A2, c2, E2, M2, NR2, rk2, S2, L2, V2, P2, d1, d2, d3, G2, q3, q4, w2⟩
        · exact Or.inl ⟨S2, L2, V2, P2, f1, fun d Q => (c21_r1 n2 (by omega) (q1 d)).trans (q3 d Q), fun d Q => (q2 d Q).trans (q4 d Q)⟩
        · refine Or.inr ⟨k2, A2, c2, E2, M2, NR2, rk2, S2, L2, V2, P2, d1, d2, d3, G2, fun d Q => (c21_r1 n2 (by omega) (q1 d)).trans (q3 d Q), fun d Q => (q2 d Q).trans (q4 d Q), fun q0 hI => w2 q0 fun q1 => ?_⟩
          obtain ⟨e1, e2⟩ := w q1
          exact e2 (hI e1)
    · exact fin k i A c E M NR rk S L V P r1 r2 l1 h3 h h4 hi
theorem lamps_sim (H : bse b pl n m qf T S0 L0 V0) : ∀ (f k i A c E M : Nat) (rk : Nat → Nat) (S : S3) (L : L3) (V P : S3) (r1 r2 : Nat) (l1 : Option Value), m - k ≤ f → Gk b m qf T S0 L0 V0 k 0 0 0 0 0 M M 0 0 S L V P → 2 * i ≤ k → BKr hc hcR R RB C W pl b m qf T S0 L0 V0 S 44 0 i S L V P r1 r2 l1 (S 4 203 0 = 0 → LMP b M S (p2 V T qf k).2.2) := by
  have hm := H.2.2.2.2.2.2.1
  intro f
  have fin : ∀ (k i M : Nat) (S : S3) (L : L3) (V P : S3) (r1 r2 : Nat) (l1 : Option Value), S 4 211 k ≠ Int32.ofNat 0 → Gk b m qf T S0 L0 V0 k 0 0 0 0 0 M M 0 0 S L V P → 2 * i ≤ k → BKr hc hcR R RB C W pl b m qf T S0 L0 V0 S 44 0 i S L V P r1 r2 l1 (S 4 203 0 = 0 → LMP b M S (p2 V T qf k).2.2) := by
    intro k i M S L V P r1 r2 l1 h3 h hi
    have km := h.1.1
    have u4 := h.1.2.2.2.2.2.1
    obtain ⟨n1, n2⟩ := k_no H h (by decide) h3
    have qC := fun (d : Nat) (Q : PO → Prop) => c21_l2 (D := d + 22) (Q := Q) (hc := hc) (R := R) (L := L) (r1 := r1) (r2 := r2) n2 (show i < 400 by omega)
    have qR := fun (d : Nat) (Q : PO → Prop) => r162_no (D := d + 23) (Q := Q) (hcR := hcR) (C := C) (W := W) (RB := RB) (pl := pl) (P := P) (l1 := l1) (show k < 401 by omega) u4 n1
    rcases rounds_sim (hc := hc) (hcR := hcR) (R := R) (RB := RB) (C := C) (W := W) H (m - k) k 0 0 0 0 M 0 (fun _ => 0) S L V P r1 r2 l1 (Nat.le_refl _) h (by omega) (by omega) with ⟨S2, L2, V2, P2, f1, q3, q4⟩ | ⟨k2, A2, c2, E2, M2, NR2, rk2, S2, L2, V2, P2, d1, d2, d3, G2, q3, q4, w2⟩
    · exact Or.inl ⟨S2, L2, V2, P2, f1, fun d Q => (qC d Q).trans (q3 d Q), fun d Q => (qR d Q).trans (q4 d Q)⟩
    · exact Or.inr ⟨k2, A2, c2, E2, M2, NR2, rk2, S2, L2, V2, P2, d1, d2, d3, G2, fun d Q => (qC d Q).trans (q3 d Q), fun d Q => (qR d Q).trans (q4 d Q), fun q0 hI => w2 q0 fun q1 => ⟨hI q1, fun r hr => by omega, fun a ha => by omega⟩⟩
  induction f with
  | zero =>
    intro k i A c E M rk S L V P r1 r2 l1 hf h hi
    have h3 : S 4 211 k ≠ Int32.ofNat 0 := fun q => by
      have := (acc_G H h (by decide) q).1
      omega
    exact fin k i M S L V P r1 r2 l1 h3 h hi
  | succ f ih =>
    intro k i A c E M rk S L V P r1 r2 l1 hf h hi
    have km := h.1.1
    by_cases h3 : S 4 211 k = Int32.ofNat 0
    · obtain ⟨hk, n1, n2, n3, -, -⟩ := acc_G H h (by decide) h3
      rcases lamp_sim (hc := hc) (hcR := hcR) (R := R) (RB := RB) (C := C) (W := W) H h h3 l1 with ⟨S', L', V', P', f1, q1, q2⟩ | ⟨S', L', V', b1, G1, q1, q2, w⟩
      · exact Or.inl ⟨S', L', V', P', f1, fun d Q => (c21_l1 n2 (by omega) (RC_D q1 (by omega))).trans c21_44z, q2⟩
      · rcases ih (k + 7) (i + 1) A c E (M + 1) rk S' L' V' P r1 r2 l1 (by omega) G1 (by omega) with ⟨S2, L2, V2, P2, f1, q3, q4⟩ | ⟨k2, A2, c2, E2, M2, NR2, rk2, S2, L2, V2, P2, d1, d2, d3, G2, q3, q4, w2⟩
        · exact Or.inl ⟨S2, L2, V2, P2, f1, fun d Q => (c21_l1 n2 (by omega) (RC_D q1 (by omega))).trans (q3 d Q), fun d Q => (q2 d Q).trans (q4 d Q)⟩
        · refine Or.inr ⟨k2, A2, c2, E2, M2, NR2, rk2, S2, L2, V2, P2, d1, d2, d3, G2, fun d Q => (c21_l1 n2 (by omega) (RC_D q1 (by omega))).trans (q3 d Q), fun d Q => (q2 d Q).trans (q4 d Q), fun q0 hI => w2 q0 fun q1 => ?_⟩
          obtain ⟨e1, e2⟩ := w q1
          exact e2 (hI e1)
    · exact fin k i M S L V P r1 r2 l1 h3 h hi
end BOOKY
