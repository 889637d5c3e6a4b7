/-! THE REFERENCE CUTS A TAPE: all tokens -/
section CUTA
variable {c : Nat × Nat × Nat} {C : Nat → Option PC} {V P : S3} {W : L3} {R : Nat → Option PC} {pl d i j k n m p : Nat} {x y ch : Int32} {z : Int64} {Q : PO → Prop} {T : Nat → Int32}
theorem r156_bl (hT : tpV V T n) {x2 : Option Value} : ∀ (f p : Nat), p + f = 1600 → Wp (d + 2) 156 11 [some (.ref 395), some (.int (Int32.ofNat p)), x2] [] (RP c C V W pl P R) Q = Wp (d + 2) 156 37 [some (.ref 395), some (.int (Int32.ofNat (bl T f p))), x2] [] (RP c C V W pl P R) Q := by
  intro f
  induction f with
  | zero =>
    intro p hp
    have e1 : T p = -1 := by rw [show p = 1600 by omega]; exact tpV_16 hT
    rw [w156_11]
    simp +decide only [↓w156_0, ↓w156_1, ↓w156_2, ↓w156_3, ↓w156_4, ↓w156_5, ↓w156_8, ↓w156_12, ↓w156_13, ↓w156_16, ↓w156_18, ↓w156_21, ↓w156_22, ↓w156_23, ↓w156_26, ↓w156_28, ↓w156_31, ↓w156_34, ↓w156_38, ↓w156_41, ↓w156_42, ↓w156_43, ↓w156_44, ↓w156_45, ↓w156_48, ↓w156_49, ↓w156_50, ↓w156_51, ↓w156_52, ↓w156_55, ↓w156_56, ↓w156_57, ↓w156_58, ↓w156_59, ↓w156_62, ↓w156_63, ↓w156_64, ↓w156_67, ↓w156_70, ↓w156_71, ↓w156_74, ↓w156_75, ↓w156_76, ↓w156_79, ↓w156_82, ↓w156_83, ↓w156_86, ↓w156_87, ↓w156_90, ↓w156_91, ↓w156_92, ↓w156_95, ↓w156_96, ↓w156_97, ↓w156_100, ↓w156_103, ↓w156_104, ↓w156_105, ↓w156_106, ↓w156_109, ↓w156_110, ↓w156_111, ↓w156_112, ↓w156_113, ↓w156_116, ↓w156_119, ↓m0_g0, ↓m0_g1, ↓m0_g2, ↓m0_g3, ↓m0_g4, ↓m0_g5, ↓m0_g6, ↓m0_g7, ↓m0_g8, ↓m0_g9, ↓m0_g10, ↓m0_g11, ↓m0_g12, ↓m0_g13, ↓m0_g14, ↓m0_g15, ↓m0_p0, ↓m0_p2, ↓m0_p3, ↓m0_p8, ↓m0_p9, ↓m0_p12, m0_r, r153 hT (show p < 2 ^ 31 by omega), e1, icond_lt, icond_le, icond_gt, icond_ge, icond_eq, icond_ne, narrow_bool, true_or, or_true, if_true, if_false, cK_inl, toL_some, toL_none, psum_nil, psum_int, psum_ref, psum_null, psum_long, Nat.zero_le, Nat.reduceAdd, Nat.reduceLeDiff, kl_int, kl_ref, kl_none, kl_null, kl_long, bl, ne_eq, not_true, not_false_eq_true]
  | succ f ih =>
    intro p hp
    rw [w156_11, bl]
    by_cases h1 : T p = 32
    · simp +decide only [↓w156_0, ↓w156_1, ↓w156_2, ↓w156_3, ↓w156_4, ↓w156_5, ↓w156_8, ↓w156_12, ↓w156_13, ↓w156_16, ↓w156_18, ↓w156_21, ↓w156_22, ↓w156_23, ↓w156_26, ↓w156_28, ↓w156_31, ↓w156_34, ↓w156_38, ↓w156_41, ↓w156_42, ↓w156_43, ↓w156_44, ↓w156_45, ↓w156_48, ↓w156_49, ↓w156_50, ↓w156_51, ↓w156_52, ↓w156_55, ↓w156_56, ↓w156_57, ↓w156_58, ↓w156_59, ↓w156_62, ↓w156_63, ↓w156_64, ↓w156_67, ↓w156_70, ↓w156_71, ↓w156_74, ↓w156_75, ↓w156_76, ↓w156_79, ↓w156_82, ↓w156_83, ↓w156_86, ↓w156_87, ↓w156_90, ↓w156_91, ↓w156_92, ↓w156_95, ↓w156_96, ↓w156_97, ↓w156_100, ↓w156_103, ↓w156_104, ↓w156_105, ↓w156_106, ↓w156_109, ↓w156_110, ↓w156_111, ↓w156_112, ↓w156_113, ↓w156_116, ↓w156_119, ↓m0_g0, ↓m0_g1, ↓m0_g2, ↓m0_g3, ↓m0_g4, ↓m0_g5, ↓m0_g6, ↓m0_g7, ↓m0_g8, ↓m0_g9, ↓m0_g10, ↓m0_g11, ↓m0_g12, ↓m0_g13, ↓m0_g14, ↓m0_g15, ↓m0_p0, ↓m0_p2, ↓m0_p3, ↓m0_p8, ↓m0_p9, ↓m0_p12, m0_r, r153 hT (show p < 2 ^ 31 by omega), h1, ofN_a1, icond_lt, icond_le, icond_gt, icond_ge, icond_eq, icond_ne, narrow_bool, true_or, or_true, if_true, if_false, cK_inl, toL_some, toL_none, psum_nil, psum_int, psum_ref, psum_null, psum_long, Nat.zero_le, Nat.reduceAdd, Nat.reduceLeDiff, kl_int, kl_ref, kl_none, kl_null, kl_long, ne_eq, not_true, not_false_eq_true]
      exact ih (p + 1) (by omega)
    · by_cases h2 : T p = 10
      · simp +decide only [↓w156_0, ↓w156_1, ↓w156_2, ↓w156_3, ↓w156_4, ↓w156_5, ↓w156_8, ↓w156_12, ↓w156_13, ↓w156_16, ↓w156_18, ↓w156_21, ↓w156_22, ↓w156_23, ↓w156_26, ↓w156_28, ↓w156_31, ↓w156_34, ↓w156_38, ↓w156_41, ↓w156_42, ↓w156_43, ↓w156_44, ↓w156_45, ↓w156_48, ↓w156_49, ↓w156_50, ↓w156_51, ↓w156_52, ↓w156_55, ↓w156_56, ↓w156_57, ↓w156_58, ↓w156_59, ↓w156_62, ↓w156_63, ↓w156_64, ↓w156_67, ↓w156_70, ↓w156_71, ↓w156_74, ↓w156_75, ↓w156_76, ↓w156_79, ↓w156_82, ↓w156_83, ↓w156_86, ↓w156_87, ↓w156_90, ↓w156_91, ↓w156_92, ↓w156_95, ↓w156_96, ↓w156_97, ↓w156_100, ↓w156_103, ↓w156_104, ↓w156_105, ↓w156_106, ↓w156_109, ↓w156_110, ↓w156_111, ↓w156_112, ↓w156_113, ↓w156_116, ↓w156_119, ↓m0_g0, ↓m0_g1, ↓m0_g2, ↓m0_g3, ↓m0_g4, ↓m0_g5, ↓m0_g6, ↓m0_g7, ↓m0_g8, ↓m0_g9, ↓m0_g10, ↓m0_g11, ↓m0_g12, ↓m0_g13, ↓m0_g14, ↓m0_g15, ↓m0_p0, ↓m0_p2, ↓m0_p3, ↓m0_p8, ↓m0_p9, ↓m0_p12, m0_r, r153 hT (show p < 2 ^ 31 by omega), h1, h2, ofN_a1, icond_lt, icond_le, icond_gt, icond_ge, icond_eq, icond_ne, narrow_bool, true_or, or_true, if_true, if_false, cK_inl, toL_some, toL_none, psum_nil, psum_int, psum_ref, psum_null, psum_long, Nat.zero_le, Nat.reduceAdd, Nat.reduceLeDiff, kl_int, kl_ref, kl_none, kl_null, kl_long, ne_eq, not_true, not_false_eq_true]
        exact ih (p + 1) (by omega)
      · simp +decide only [↓w156_0, ↓w156_1, ↓w156_2, ↓w156_3, ↓w156_4, ↓w156_5, ↓w156_8, ↓w156_12, ↓w156_13, ↓w156_16, ↓w156_18, ↓w156_21, ↓w156_22, ↓w156_23, ↓w156_26, ↓w156_28, ↓w156_31, ↓w156_34, ↓w156_38, ↓w156_41, ↓w156_42, ↓w156_43, ↓w156_44, ↓w156_45, ↓w156_48, ↓w156_49, ↓w156_50, ↓w156_51, ↓w156_52, ↓w156_55, ↓w156_56, ↓w156_57, ↓w156_58, ↓w156_59, ↓w156_62, ↓w156_63, ↓w156_64, ↓w156_67, ↓w156_70, ↓w156_71, ↓w156_74, ↓w156_75, ↓w156_76, ↓w156_79, ↓w156_82, ↓w156_83, ↓w156_86, ↓w156_87, ↓w156_90, ↓w156_91, ↓w156_92, ↓w156_95, ↓w156_96, ↓w156_97, ↓w156_100, ↓w156_103, ↓w156_104, ↓w156_105, ↓w156_106, ↓w156_109, ↓w156_110, ↓w156_111, ↓w156_112, ↓w156_113, ↓w156_116, ↓w156_119, ↓m0_g0, ↓m0_g1, ↓m0_g2, ↓m0_g3, ↓m0_g4, ↓m0_g5, ↓m0_g6, ↓m0_g7, ↓m0_g8, ↓m0_g9, ↓m0_g10, ↓m0_g11, ↓m0_g12, ↓m0_g13, ↓m0_g14, ↓m0_g15, ↓m0_p0, ↓m0_p2, ↓m0_p3, ↓m0_p8, ↓m0_p9, ↓m0_p12, m0_r, r153 hT (show p < 2 ^ 31 by omega), h1, h2, ofN_a1, icond_lt, icond_le, icond_gt, icond_ge, icond_eq, icond_ne, narrow_bool, true_or, or_true, if_true, if_false, cK_inl, toL_some, toL_none, psum_nil, psum_int, psum_ref, psum_null, psum_long, Nat.zero_le, Nat.reduceAdd, Nat.reduceLeDiff, kl_int, kl_ref, kl_none, kl_null, kl_long, ne_eq, not_true, not_false_eq_true]
def kfR (k : Nat) (x : Int32) : Int32 := if k = 400 then (if x = 900 then 900 else 901) else x
/-- what the reference's cut leaves behind of one token -/
def ct1 (T : Nat → Int32) (k q : Nat) (V : S3) : S3 := su (su (su (su V 4 212 k (Int32.ofNat q)) 4 214 k 0) 4 213 k (Int32.ofNat (tkL T q))) 4 211 k (kfR k (tkR T q))
def ctR (T : Nat → Int32) : Nat → Nat → Nat → S3 → S3
  | 0, _, _, V => V
  | f + 1, k, p, V => if kfR k (tkR T (tkP T p)) < 900 then ctR T f (k + 1) (tkP T p + tkL T (tkP T p)) (ct1 T k (tkP T p) V) else ct1 T k (tkP T p) V
theorem tkL_le (hT : tpV V T n) (hi : i ≤ 1600) (h : tkR T i < 900) : i + tkL T i ≤ 1600 := by
  have a1 := wdE_in (T := T) hi
  have a2 := dgE_in (T := T) hi
  unfold tkL
  split
  · rename_i h1
    split
    · rename_i h2
      have h3 : T i ≠ -1 := fun q => by
        unfold tkR at h
        rw [if_pos h1, if_pos h2, if_pos q] at h
        exact absurd h (by decide)
      have := tpV_lt hT h3
      have := hT.2.1
      omega
    · omega
  · omega
theorem r156_loop (hR : roW C) : ∀ (f k p : Nat) (V : S3), k + f = 401 → p ≤ 1600 → tpV V T n → ∀ (d : Nat) (Q : PO → Prop), Wp (d + 9) 156 4 [some (.ref 395), some (.int (Int32.ofNat p)), some (.int (Int32.ofNat k))] [] (RP c C V W pl P R) Q = Q (.inl none, RP c C (ctR T f k p V) W pl P R) := by
  intro f
  induction f with
  | zero =>
    intro k p V hk hp hT d Q
    have e : (400 : Int32) < Int32.ofNat k := (ofN_lt (k := 400) (by omega) (by omega)).mpr (by omega)
    rw [w156_4]
    simp +decide only [↓w156_0, ↓w156_1, ↓w156_2, ↓w156_3, ↓w156_5, ↓w156_8, ↓w156_12, ↓w156_13, ↓w156_16, ↓w156_18, ↓w156_21, ↓w156_22, ↓w156_23, ↓w156_26, ↓w156_28, ↓w156_31, ↓w156_34, ↓w156_38, ↓w156_41, ↓w156_42, ↓w156_43, ↓w156_44, ↓w156_45, ↓w156_48, ↓w156_49, ↓w156_50, ↓w156_51, ↓w156_52, ↓w156_55, ↓w156_56, ↓w156_57, ↓w156_58, ↓w156_59, ↓w156_62, ↓w156_63, ↓w156_64, ↓w156_67, ↓w156_70, ↓w156_71, ↓w156_74, ↓w156_75, ↓w156_76, ↓w156_79, ↓w156_82, ↓w156_83, ↓w156_86, ↓w156_87, ↓w156_90, ↓w156_91, ↓w156_92, ↓w156_95, ↓w156_96, ↓w156_97, ↓w156_100, ↓w156_103, ↓w156_104, ↓w156_105, ↓w156_106, ↓w156_109, ↓w156_110, ↓w156_111, ↓w156_112, ↓w156_113, ↓w156_116, ↓w156_119, e, icond_lt, icond_le, icond_gt, icond_ge, icond_eq, icond_ne, narrow_bool, true_or, or_true, if_true, if_false, cK_inl, toL_some, toL_none, psum_nil, psum_int, psum_ref, psum_null, psum_long, Nat.zero_le, Nat.reduceAdd, Nat.reduceLeDiff, kl_int, kl_ref, kl_none, kl_null, kl_long, ctR]
  | succ f ih =>
    intro k p V hk hp hT d Q
    have e : ¬ (400 : Int32) < Int32.ofNat k := fun q => absurd ((ofN_lt (k := 400) (by omega) (by omega)).mp q) (by omega)
    have ht : k < 401 := by omega
    have hP := tkP_le (T := T) hp
    have qb := r156_bl (c := c) (C := C) (W := W) (pl := pl) (P := P) (R := R) (d := d + 7) (Q := Q) hT (x2 := some (.int (Int32.ofNat k))) (1600 - p) p (by omega)
    rw [show bl T (1600 - p) p = tkP T p from rfl] at qb
    have hT2 : tpV (su (su V 4 212 k (Int32.ofNat (tkP T p))) 4 214 k 0) T n := tpV_su (tpV_su hT (by decide) (by decide)) (by decide) (by decide)
    have q154 : ∀ (d : Nat) (Q : PO → Prop), Cp (d + 8) 154 [.ref 395, .int (Int32.ofNat (tkP T p)), .int (Int32.ofNat k)] (RP c C (su (su V 4 212 k (Int32.ofNat (tkP T p))) 4 214 k 0) W pl P R) Q = _ := fun d Q => r154 hT2 hR ht hP d Q
    have hT3 : tpV (ct1 T k (tkP T p) V) T n := tpV_su (tpV_su hT2 (by decide) (by decide)) (by decide) (by decide)
    rw [w156_4]
    simp +decide only [↓w156_0, ↓w156_1, ↓w156_2, ↓w156_3, ↓w156_5, ↓w156_8, ↓w156_12, ↓w156_13, ↓w156_16, ↓w156_18, ↓w156_21, ↓w156_22, ↓w156_23, ↓w156_26, ↓w156_28, ↓w156_31, ↓w156_34, ↓w156_38, ↓w156_41, ↓w156_42, ↓w156_43, ↓w156_44, ↓w156_45, ↓w156_48, ↓w156_49, ↓w156_50, ↓w156_51, ↓w156_52, ↓w156_55, ↓w156_56, ↓w156_57, ↓w156_58, ↓w156_59, ↓w156_62, ↓w156_63, ↓w156_64, ↓w156_67, ↓w156_70, ↓w156_71, ↓w156_74, ↓w156_75, ↓w156_76, ↓w156_79, ↓w156_82, ↓w156_83, ↓w156_86, ↓w156_87, ↓w156_90, ↓w156_91, ↓w156_92, ↓w156_95, ↓w156_96, ↓w156_97, ↓w156_100, ↓w156_103, ↓w156_104, ↓w156_105, ↓w156_106, ↓w156_109, ↓w156_110, ↓w156_111, ↓w156_112, ↓w156_113, ↓w156_116, ↓w156_119, e, icond_lt, icond_le, icond_gt, icond_ge, icond_eq, icond_ne, narrow_bool, true_or, or_true, if_true, if_false, cK_inl, toL_some, toL_none, psum_nil, psum_int, psum_ref, psum_null, psum_long, Nat.zero_le, Nat.reduceAdd, Nat.reduceLeDiff, kl_int, kl_ref, kl_none, kl_null, kl_long]
    refine qb.trans ?_
    rw [ctR]
    by_cases hk4 : k = 400
    · have e4 : (Int32.ofNat k = 400) = True := eq_true (by rw [hk4]; rfl)
      by_cases h9 : tkR T (tkP T p) = 900
      · have ek : kfR k (tkR T (tkP T p)) = 900 := by unfold kfR; rw [if_pos hk4, if_pos h9]
        rw [ek, if_neg (by decide)]
        unfold ct1
        rw [ek]
        rw [w156_37]
        simp +decide only [↓w156_0, ↓w156_1, ↓w156_2, ↓w156_3, ↓w156_5, ↓w156_8, ↓w156_12, ↓w156_13, ↓w156_16, ↓w156_18, ↓w156_21, ↓w156_22, ↓w156_23, ↓w156_26, ↓w156_28, ↓w156_31, ↓w156_34, ↓w156_38, ↓w156_41, ↓w156_42, ↓w156_43, ↓w156_44, ↓w156_45, ↓w156_48, ↓w156_49, ↓w156_50, ↓w156_51, ↓w156_52, ↓w156_55, ↓w156_56, ↓w156_57, ↓w156_58, ↓w156_59, ↓w156_62, ↓w156_63, ↓w156_64, ↓w156_67, ↓w156_70, ↓w156_71, ↓w156_74, ↓w156_75, ↓w156_76, ↓w156_79, ↓w156_82, ↓w156_83, ↓w156_86, ↓w156_87, ↓w156_90, ↓w156_91, ↓w156_92, ↓w156_95, ↓w156_96, ↓w156_97, ↓w156_100, ↓w156_103, ↓w156_104, ↓w156_105, ↓w156_106, ↓w156_109, ↓w156_110, ↓w156_111, ↓w156_112, ↓w156_113, ↓w156_116, ↓w156_119, ↓m0_g0, ↓m0_g1, ↓m0_g2, ↓m0_g3, ↓m0_g4, ↓m0_g5, ↓m0_g6, ↓m0_g7, ↓m0_g8, ↓m0_g9, ↓m0_g10, ↓m0_g11, ↓m0_g12, ↓m0_g13, ↓m0_g14, ↓m0_g15, ↓m0_p0, ↓m0_p2, ↓m0_p3, ↓m0_p8, ↓m0_p9, ↓m0_p12, m0_r, ↓m_from_s ht, ↓m_role_s ht, q154, ↓m_kind_s ht, ↓m_kind_a ht, su_self, su_su, e4, h9, icond_lt, icond_le, icond_gt, icond_ge, icond_eq, icond_ne, narrow_bool, true_or, or_true, if_true, if_false, cK_inl, toL_some, toL_none, psum_nil, psum_int, psum_ref, psum_null, psum_long, Nat.zero_le, Nat.reduceAdd, Nat.reduceLeDiff, kl_int, kl_ref, kl_none, kl_null, kl_long, ne_eq, not_true, not_false_eq_true]
      · have ek : kfR k (tkR T (tkP T p)) = 901 := by unfold kfR; rw [if_pos hk4, if_neg h9]
        rw [ek, if_neg (by decide)]
        unfold ct1
        rw [ek]
        rw [w156_37]
        simp +decide only [↓w156_0, ↓w156_1, ↓w156_2, ↓w156_3, ↓w156_5, ↓w156_8, ↓w156_12, ↓w156_13, ↓w156_16, ↓w156_18, ↓w156_21, ↓w156_22, ↓w156_23, ↓w156_26, ↓w156_28, ↓w156_31, ↓w156_34, ↓w156_38, ↓w156_41, ↓w156_42, ↓w156_43, ↓w156_44, ↓w156_45, ↓w156_48, ↓w156_49, ↓w156_50, ↓w156_51, ↓w156_52, ↓w156_55, ↓w156_56, ↓w156_57, ↓w156_58, ↓w156_59, ↓w156_62, ↓w156_63, ↓w156_64, ↓w156_67, ↓w156_70, ↓w156_71, ↓w156_74, ↓w156_75, ↓w156_76, ↓w156_79, ↓w156_82, ↓w156_83, ↓w156_86, ↓w156_87, ↓w156_90, ↓w156_91, ↓w156_92, ↓w156_95, ↓w156_96, ↓w156_97, ↓w156_100, ↓w156_103, ↓w156_104, ↓w156_105, ↓w156_106, ↓w156_109, ↓w156_110, ↓w156_111, ↓w156_112, ↓w156_113, ↓w156_116, ↓w156_119, ↓m0_g0, ↓m0_g1, ↓m0_g2, ↓m0_g3, ↓m0_g4, ↓m0_g5, ↓m0_g6, ↓m0_g7, ↓m0_g8, ↓m0_g9, ↓m0_g10, ↓m0_g11, ↓m0_g12, ↓m0_g13, ↓m0_g14, ↓m0_g15, ↓m0_p0, ↓m0_p2, ↓m0_p3, ↓m0_p8, ↓m0_p9, ↓m0_p12, m0_r, ↓m_from_s ht, ↓m_role_s ht, q154, ↓m_kind_s ht, ↓m_kind_a ht, su_self, su_su, e4, h9, icond_lt, icond_le, icond_gt, icond_ge, icond_eq, icond_ne, narrow_bool, true_or, or_true, if_true, if_false, cK_inl, toL_some, toL_none, psum_nil, psum_int, psum_ref, psum_null, psum_long, Nat.zero_le, Nat.reduceAdd, Nat.reduceLeDiff, kl_int, kl_ref, kl_none, kl_null, kl_long, ne_eq, not_true, not_false_eq_true]
    · have e4 : (Int32.ofNat k = 400) = False := eq_false (fun q => hk4 (ofN_inj (b := 400) (by omega) (by omega) q))
      have ek : kfR k (tkR T (tkP T p)) = tkR T (tkP T p) := by unfold kfR; rw [if_neg hk4]
      by_cases h9 : tkR T (tkP T p) < 900
      · have fin := ih (k + 1) (tkP T p + tkL T (tkP T p)) (ct1 T k (tkP T p) V) (by omega) (tkL_le hT hP h9) hT3 d Q
        rw [ek, if_pos h9]
        unfold ct1 at fin ⊢
        rw [ek] at fin ⊢
        rw [w156_37]
        simp +decide only [↓w156_0, ↓w156_1, ↓w156_2, ↓w156_3, ↓w156_5, ↓w156_8, ↓w156_12, ↓w156_13, ↓w156_16, ↓w156_18, ↓w156_21, ↓w156_22, ↓w156_23, ↓w156_26, ↓w156_28, ↓w156_31, ↓w156_34, ↓w156_38, ↓w156_41, ↓w156_42, ↓w156_43, ↓w156_44, ↓w156_45, ↓w156_48, ↓w156_49, ↓w156_50, ↓w156_51, ↓w156_52, ↓w156_55, ↓w156_56, ↓w156_57, ↓w156_58, ↓w156_59, ↓w156_62, ↓w156_63, ↓w156_64, ↓w156_67, ↓w156_70, ↓w156_71, ↓w156_74, ↓w156_75, ↓w156_76, ↓w156_79, ↓w156_82, ↓w156_83, ↓w156_86, ↓w156_87, ↓w156_90, ↓w156_91, ↓w156_92, ↓w156_95, ↓w156_96, ↓w156_97, ↓w156_100, ↓w156_103, ↓w156_104, ↓w156_105, ↓w156_106, ↓w156_109, ↓w156_110, ↓w156_111, ↓w156_112, ↓w156_113, ↓w156_116, ↓w156_119, ↓m0_g0, ↓m0_g1, ↓m0_g2, ↓m0_g3, ↓m0_g4, ↓m0_g5, ↓m0_g6, ↓m0_g7, ↓m0_g8, ↓m0_g9, ↓m0_g10, ↓m0_g11, ↓m0_g12, ↓m0_g13, ↓m0_g14, ↓m0_g15, ↓m0_p0, ↓m0_p2, ↓m0_p3, ↓m0_p8, ↓m0_p9, ↓m0_p12, m0_r, ↓m_from_s ht, ↓m_role_s ht, q154, ↓m_kind_s ht, ↓m_kind_a ht, ↓m_many_a ht, su_self, su_ne, su_su, e4, h9, ofN_add, ofN_a1, icond_lt, icond_le, icond_gt, icond_ge, icond_eq, icond_ne, narrow_bool, true_or, or_true, if_true, if_false, cK_inl, toL_some, toL_none, psum_nil, psum_int, psum_ref, psum_null, psum_long, Nat.zero_le, Nat.reduceAdd, Nat.reduceLeDiff, kl_int, kl_ref, kl_none, kl_null, kl_long, ne_eq, not_true, not_false_eq_true]
        exact fin
      · rw [ek, if_neg h9]
        unfold ct1
        rw [ek]
        rw [w156_37]
        simp +decide only [↓w156_0, ↓w156_1, ↓w156_2, ↓w156_3, ↓w156_5, ↓w156_8, ↓w156_12, ↓w156_13, ↓w156_16, ↓w156_18, ↓w156_21, ↓w156_22, ↓w156_23, ↓w156_26, ↓w156_28, ↓w156_31, ↓w156_34, ↓w156_38, ↓w156_41, ↓w156_42, ↓w156_43, ↓w156_44, ↓w156_45, ↓w156_48, ↓w156_49, ↓w156_50, ↓w156_51, ↓w156_52, ↓w156_55, ↓w156_56, ↓w156_57, ↓w156_58, ↓w156_59, ↓w156_62, ↓w156_63, ↓w156_64, ↓w156_67, ↓w156_70, ↓w156_71, ↓w156_74, ↓w156_75, ↓w156_76, ↓w156_79, ↓w156_82, ↓w156_83, ↓w156_86, ↓w156_87, ↓w156_90, ↓w156_91, ↓w156_92, ↓w156_95, ↓w156_96, ↓w156_97, ↓w156_100, ↓w156_103, ↓w156_104, ↓w156_105, ↓w156_106, ↓w156_109, ↓w156_110, ↓w156_111, ↓w156_112, ↓w156_113, ↓w156_116, ↓w156_119, ↓m0_g0, ↓m0_g1, ↓m0_g2, ↓m0_g3, ↓m0_g4, ↓m0_g5, ↓m0_g6, ↓m0_g7, ↓m0_g8, ↓m0_g9, ↓m0_g10, ↓m0_g11, ↓m0_g12, ↓m0_g13, ↓m0_g14, ↓m0_g15, ↓m0_p0, ↓m0_p2, ↓m0_p3, ↓m0_p8, ↓m0_p9, ↓m0_p12, m0_r, ↓m_from_s ht, ↓m_role_s ht, q154, ↓m_kind_s ht, ↓m_kind_a ht, su_self, su_su, e4, h9, icond_lt, icond_le, icond_gt, icond_ge, icond_eq, icond_ne, narrow_bool, true_or, or_true, if_true, if_false, cK_inl, toL_some, toL_none, psum_nil, psum_int, psum_ref, psum_null, psum_long, Nat.zero_le, Nat.reduceAdd, Nat.reduceLeDiff, kl_int, kl_ref, kl_none, kl_null, kl_long, ne_eq, not_true, not_false_eq_true]
theorem r156 (hT : tpV V T n) (hR : roW C) (d : Nat) (Q : PO → Prop) : Cp (d + 10) 156 [.ref 395] (RP c C V W pl P R) Q = Q (.inl none, RP c C (ctR T 401 0 0 V) W pl P R) := by
  simp only [ce156, ↓w156_0, ↓w156_1, ↓w156_2, ↓w156_3, cK_inl, toL_some, toL_none, psum_nil, psum_int, psum_ref, psum_null, psum_long, Nat.zero_le, Nat.reduceAdd, Nat.reduceLeDiff, kl_int, kl_ref, kl_none, kl_null, kl_long]
  exact r156_loop hR 401 0 0 V rfl (by omega) hT d Q
end CUTA
