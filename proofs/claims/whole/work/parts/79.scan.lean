/-! THE REFERENCE CUTS A TAPE: bytes, words, one token -/
section TOKR
variable {c : Nat × Nat × Nat} {C : Nat → Option PC} {V P : S3} {W : L3} {R : Nat → Option PC} {pl d i j k n m p : Nat} {x y : Int32} {z : Int64} {Q : PO → Prop} {T : Nat → Int32}
theorem r151 {h : PH} : Cp (d + 1) 151 [.int x] h Q = Q (.inl (some (.int (il x))), h) := by
  unfold il
  by_cases h1 : x < 97
  · simp only [ce151, ↓w151_0, ↓w151_1, ↓w151_3, ↓w151_6, ↓w151_7, ↓w151_9, ↓w151_12, ↓w151_13, ↓w151_16, ↓w151_17, icond_lt, icond_le, icond_gt, icond_ge, icond_eq, icond_ne, narrow_bool, true_or, or_true, if_true, if_false, cK_inl, toL_some, toL_none, psum_nil, psum_int, psum_ref, psum_null, psum_long, Nat.zero_le, Nat.reduceAdd, Nat.reduceLeDiff, kl_int, kl_ref, kl_none, kl_null, kl_long, h1]
  by_cases h2 : 122 < x
  · simp only [ce151, ↓w151_0, ↓w151_1, ↓w151_3, ↓w151_6, ↓w151_7, ↓w151_9, ↓w151_12, ↓w151_13, ↓w151_16, ↓w151_17, icond_lt, icond_le, icond_gt, icond_ge, icond_eq, icond_ne, narrow_bool, true_or, or_true, if_true, if_false, cK_inl, toL_some, toL_none, psum_nil, psum_int, psum_ref, psum_null, psum_long, Nat.zero_le, Nat.reduceAdd, Nat.reduceLeDiff, kl_int, kl_ref, kl_none, kl_null, kl_long, h1, h2]
  · simp only [ce151, ↓w151_0, ↓w151_1, ↓w151_3, ↓w151_6, ↓w151_7, ↓w151_9, ↓w151_12, ↓w151_13, ↓w151_16, ↓w151_17, icond_lt, icond_le, icond_gt, icond_ge, icond_eq, icond_ne, narrow_bool, true_or, or_true, if_true, if_false, cK_inl, toL_some, toL_none, psum_nil, psum_int, psum_ref, psum_null, psum_long, Nat.zero_le, Nat.reduceAdd, Nat.reduceLeDiff, kl_int, kl_ref, kl_none, kl_null, kl_long, h1, h2, or_self]
theorem r152 {h : PH} : Cp (d + 1) 152 [.int x] h Q = Q (.inl (some (.int (idg x))), h) := by
  unfold idg
  by_cases h1 : x < 48
  · simp only [ce152, ↓w152_0, ↓w152_1, ↓w152_3, ↓w152_6, ↓w152_7, ↓w152_9, ↓w152_12, ↓w152_13, ↓w152_16, ↓w152_17, icond_lt, icond_le, icond_gt, icond_ge, icond_eq, icond_ne, narrow_bool, true_or, or_true, if_true, if_false, cK_inl, toL_some, toL_none, psum_nil, psum_int, psum_ref, psum_null, psum_long, Nat.zero_le, Nat.reduceAdd, Nat.reduceLeDiff, kl_int, kl_ref, kl_none, kl_null, kl_long, h1]
  by_cases h2 : 57 < x
  · simp only [ce152, ↓w152_0, ↓w152_1, ↓w152_3, ↓w152_6, ↓w152_7, ↓w152_9, ↓w152_12, ↓w152_13, ↓w152_16, ↓w152_17, icond_lt, icond_le, icond_gt, icond_ge, icond_eq, icond_ne, narrow_bool, true_or, or_true, if_true, if_false, cK_inl, toL_some, toL_none, psum_nil, psum_int, psum_ref, psum_null, psum_long, Nat.zero_le, Nat.reduceAdd, Nat.reduceLeDiff, kl_int, kl_ref, kl_none, kl_null, kl_long, h1, h2]
  · simp only [ce152, ↓w152_0, ↓w152_1, ↓w152_3, ↓w152_6, ↓w152_7, ↓w152_9, ↓w152_12, ↓w152_13, ↓w152_16, ↓w152_17, icond_lt, icond_le, icond_gt, icond_ge, icond_eq, icond_ne, narrow_bool, true_or, or_true, if_true, if_false, cK_inl, toL_some, toL_none, psum_nil, psum_int, psum_ref, psum_null, psum_long, Nat.zero_le, Nat.reduceAdd, Nat.reduceLeDiff, kl_int, kl_ref, kl_none, kl_null, kl_long, h1, h2, or_self]
/-- the reference's tape -/
def tpV (V : S3) (T : Nat → Int32) (n : Nat) : Prop := V 4 201 0 = Int32.ofNat n ∧ n ≤ 1600 ∧ ∀ i, T i = if i < n then V 4 210 i else -1
theorem tpV_16 (h : tpV V T n) : T 1600 = -1 := by
  rw [h.2.2 1600, if_neg (by have := h.2.1; omega)]
theorem tpV_lt (h : tpV V T n) (hi : T i ≠ -1) : i < n := by
  by_cases q : i < n
  · exact q
  · rw [h.2.2 i, if_neg q] at hi
    exact absurd rfl hi
theorem tpV_su {v : Nat} (h : tpV V T n) (h1 : v ≠ 201) (h2 : v ≠ 210) : tpV (su V 4 v i x) T n := by
  refine ⟨?_, h.2.1, fun j => ?_⟩
  · rw [su_ne (Ne.symm h1)]; exact h.1
  · rw [su_ne (Ne.symm h2)]; exact h.2.2 j
theorem r153 (hT : tpV V T n) (hi : i < 2 ^ 31) : Cp (d + 1) 153 [.ref 395, .int (Int32.ofNat i)] (RP c C V W pl P R) Q = Q (.inl (some (.int (T i))), RP c C V W pl P R) := by
  have hn := hT.2.1
  by_cases h : i < n
  · have e : ¬ Int32.ofNat n ≤ Int32.ofNat i := fun q => absurd ((ofN_le (by omega) (by omega)).mp q) (by omega)
    have hi' : i < 1600 := by omega
    have et : T i = V 4 210 i := by rw [hT.2.2 i, if_pos h]
    simp only [ce153, ↓w153_0, ↓w153_1, ↓w153_2, ↓w153_5, ↓w153_8, ↓w153_9, ↓w153_12, ↓w153_13, ↓w153_14, ↓w153_17, ↓w153_18, ↓m0_g0, ↓m0_g1, ↓m0_g2, ↓m0_g3, ↓m0_g4, ↓m0_g5, ↓m0_g6, ↓m0_g7, ↓m0_g8, ↓m0_g9, ↓m0_g10, ↓m0_g11, ↓m0_g12, ↓m0_g13, ↓m0_g14, ↓m0_g15, ↓m0_p0, ↓m0_p2, ↓m0_p3, ↓m0_p8, ↓m0_p9, ↓m0_p12, m0_r, hT.1, e, et, ↓m_tape_a hi', icond_lt, icond_le, icond_gt, icond_ge, icond_eq, icond_ne, narrow_bool, true_or, or_true, if_true, if_false, cK_inl, toL_some, toL_none, psum_nil, psum_int, psum_ref, psum_null, psum_long, Nat.zero_le, Nat.reduceAdd, Nat.reduceLeDiff, kl_int, kl_ref, kl_none, kl_null, kl_long]
  · have e : Int32.ofNat n ≤ Int32.ofNat i := (ofN_le (by omega) (by omega)).mpr (by omega)
    have et : T i = -1 := by rw [hT.2.2 i, if_neg h]
    simp only [ce153, ↓w153_0, ↓w153_1, ↓w153_2, ↓w153_5, ↓w153_8, ↓w153_9, ↓w153_12, ↓w153_13, ↓w153_14, ↓w153_17, ↓w153_18, ↓m0_g0, ↓m0_g1, ↓m0_g2, ↓m0_g3, ↓m0_g4, ↓m0_g5, ↓m0_g6, ↓m0_g7, ↓m0_g8, ↓m0_g9, ↓m0_g10, ↓m0_g11, ↓m0_g12, ↓m0_g13, ↓m0_g14, ↓m0_g15, ↓m0_p0, ↓m0_p2, ↓m0_p3, ↓m0_p8, ↓m0_p9, ↓m0_p12, m0_r, hT.1, e, et, icond_lt, icond_le, icond_gt, icond_ge, icond_eq, icond_ne, narrow_bool, true_or, or_true, if_true, if_false, cK_inl, toL_some, toL_none, psum_nil, psum_int, psum_ref, psum_null, psum_long, Nat.zero_le, Nat.reduceAdd, Nat.reduceLeDiff, kl_int, kl_ref, kl_none, kl_null, kl_long]
/-- a word's place among the words -/
def wq (T : Nat → Int32) (p j : Nat) : Nat → Nat → Int32 → Int32
  | 0, _, s => s
  | k + 1, i, s => if s = 0 then 0 else wq T p j k (i + 1) (if (wdB j).getD i 0 = T (p + i) then 1 else 0)
def kR (T : Nat → Int32) (p l : Nat) : Nat → Nat → Int32
  | 0, _ => 40
  | k + 1, j => if wq T p j l 0 (if (wdB j).length = l then 1 else 0) = 0 then kR T p l k (j + 1) else Int32.ofNat j
theorem RP_row (h : roW C) : roW (RP c C V W pl P R).2 := by
  have e : ∀ k, k < 395 → (RP c C V W pl P R).2 k = C k := fun k hk => if_pos hk
  refine ⟨?_, fun j hj => ?_⟩
  · obtain ⟨f, h1, h2⟩ := h.1
    exact ⟨f, by rw [e 200 (by decide)]; exact h1, h2⟩
  · rw [e _ (by omega), e _ (by omega)]
    exact h.2 j hj
theorem r155_in (hT : tpV V T n) (hR : roW C) (hj : j < 23) {l : Nat} (hl : p + l ≤ n) (hw : (wdB j).length = l) : ∀ (k i : Nat) (s : Int32), i + k = l → ∃ i', ∀ (d : Nat) (Q : PO → Prop), Wp (d + 6) 155 32 [some (.ref 395), some (.int (Int32.ofNat p)), some (.int (Int32.ofNat l)), some (.int (Int32.ofNat j)), some (.int s), some (.int (Int32.ofNat i))] [] (RP c C V W pl P R) Q
    = Wp (d + 6) 155 78 [some (.ref 395), some (.int (Int32.ofNat p)), some (.int (Int32.ofNat l)), some (.int (Int32.ofNat j)), some (.int (wq T p j k i s)), some (.int i')] [] (RP c C V W pl P R) Q := by
  have hn := hT.2.1
  intro k
  induction k with
  | zero =>
    intro i s hi
    have e : Int32.ofNat l ≤ Int32.ofNat i := (ofN_le (by omega) (by omega)).mpr (by omega)
    refine ⟨Int32.ofNat i, fun d Q => ?_⟩
    rw [w155_32]
    by_cases hs : s = 0
    · simp +decide only [↓w155_0, ↓w155_1, ↓w155_2, ↓w155_3, ↓w155_6, ↓w155_7, ↓w155_10, ↓w155_13, ↓w155_14, ↓w155_15, ↓w155_18, ↓w155_19, ↓w155_22, ↓w155_23, ↓w155_26, ↓w155_27, ↓w155_29, ↓w155_30, ↓w155_34, ↓w155_37, ↓w155_39, ↓w155_40, ↓w155_43, ↓w155_46, ↓w155_47, ↓w155_48, ↓w155_50, ↓w155_53, ↓w155_54, ↓w155_57, ↓w155_58, ↓w155_60, ↓w155_61, ↓w155_62, ↓w155_65, ↓w155_66, ↓w155_69, ↓w155_70, ↓w155_72, ↓w155_75, ↓w155_80, ↓w155_83, ↓w155_84, ↓w155_85, ↓w155_88, ↓w155_91, ↓w155_93, hs, icond_lt, icond_le, icond_gt, icond_ge, icond_eq, icond_ne, narrow_bool, true_or, or_true, if_true, if_false, cK_inl, toL_some, toL_none, psum_nil, psum_int, psum_ref, psum_null, psum_long, Nat.zero_le, Nat.reduceAdd, Nat.reduceLeDiff, kl_int, kl_ref, kl_none, kl_null, kl_long, wq]
    · simp +decide only [↓w155_0, ↓w155_1, ↓w155_2, ↓w155_3, ↓w155_6, ↓w155_7, ↓w155_10, ↓w155_13, ↓w155_14, ↓w155_15, ↓w155_18, ↓w155_19, ↓w155_22, ↓w155_23, ↓w155_26, ↓w155_27, ↓w155_29, ↓w155_30, ↓w155_34, ↓w155_37, ↓w155_39, ↓w155_40, ↓w155_43, ↓w155_46, ↓w155_47, ↓w155_48, ↓w155_50, ↓w155_53, ↓w155_54, ↓w155_57, ↓w155_58, ↓w155_60, ↓w155_61, ↓w155_62, ↓w155_65, ↓w155_66, ↓w155_69, ↓w155_70, ↓w155_72, ↓w155_75, ↓w155_80, ↓w155_83, ↓w155_84, ↓w155_85, ↓w155_88, ↓w155_91, ↓w155_93, hs, e, icond_lt, icond_le, icond_gt, icond_ge, icond_eq, icond_ne, narrow_bool, true_or, or_true, if_true, if_false, cK_inl, toL_some, toL_none, psum_nil, psum_int, psum_ref, psum_null, psum_long, Nat.zero_le, Nat.reduceAdd, Nat.reduceLeDiff, kl_int, kl_ref, kl_none, kl_null, kl_long, wq, ne_eq, not_true, not_false_eq_true]
  | succ k ih =>
    intro i s hi
    have e : ¬ Int32.ofNat l ≤ Int32.ofNat i := fun q => absurd ((ofN_le (by omega) (by omega)).mp q) (by omega)
    by_cases hs : s = 0
    · refine ⟨Int32.ofNat i, fun d Q => ?_⟩
      rw [w155_32]
      simp +decide only [↓w155_0, ↓w155_1, ↓w155_2, ↓w155_3, ↓w155_6, ↓w155_7, ↓w155_10, ↓w155_13, ↓w155_14, ↓w155_15, ↓w155_18, ↓w155_19, ↓w155_22, ↓w155_23, ↓w155_26, ↓w155_27, ↓w155_29, ↓w155_30, ↓w155_34, ↓w155_37, ↓w155_39, ↓w155_40, ↓w155_43, ↓w155_46, ↓w155_47, ↓w155_48, ↓w155_50, ↓w155_53, ↓w155_54, ↓w155_57, ↓w155_58, ↓w155_60, ↓w155_61, ↓w155_62, ↓w155_65, ↓w155_66, ↓w155_69, ↓w155_70, ↓w155_72, ↓w155_75, ↓w155_80, ↓w155_83, ↓w155_84, ↓w155_85, ↓w155_88, ↓w155_91, ↓w155_93, hs, icond_lt, icond_le, icond_gt, icond_ge, icond_eq, icond_ne, narrow_bool, true_or, or_true, if_true, if_false, cK_inl, toL_some, toL_none, psum_nil, psum_int, psum_ref, psum_null, psum_long, Nat.zero_le, Nat.reduceAdd, Nat.reduceLeDiff, kl_int, kl_ref, kl_none, kl_null, kl_long, wq]
    · obtain ⟨i', q⟩ := ih (i + 1) (if (wdB j).getD i 0 = T (p + i) then 1 else 0) (by omega)
      refine ⟨i', fun d Q => ?_⟩
      have hi' : p + i < 1600 := by omega
      have hiw : i < (wdB j).length := by omega
      have et : V 4 210 (p + i) = T (p + i) := by rw [hT.2.2 (p + i), if_pos (by omega)]
      rw [w155_32, wq, if_neg hs]
      by_cases hc : (wdB j).getD i 0 = T (p + i)
      · rw [if_pos hc] at q ⊢
        simp +decide only [↓w155_0, ↓w155_1, ↓w155_2, ↓w155_3, ↓w155_6, ↓w155_7, ↓w155_10, ↓w155_13, ↓w155_14, ↓w155_15, ↓w155_18, ↓w155_19, ↓w155_22, ↓w155_23, ↓w155_26, ↓w155_27, ↓w155_29, ↓w155_30, ↓w155_34, ↓w155_37, ↓w155_39, ↓w155_40, ↓w155_43, ↓w155_46, ↓w155_47, ↓w155_48, ↓w155_50, ↓w155_53, ↓w155_54, ↓w155_57, ↓w155_58, ↓w155_60, ↓w155_61, ↓w155_62, ↓w155_65, ↓w155_66, ↓w155_69, ↓w155_70, ↓w155_72, ↓w155_75, ↓w155_80, ↓w155_83, ↓w155_84, ↓w155_85, ↓w155_88, ↓w155_91, ↓w155_93, ↓m0_g0, ↓m0_g1, ↓m0_g2, ↓m0_g3, ↓m0_g4, ↓m0_g5, ↓m0_g6, ↓m0_g7, ↓m0_g8, ↓m0_g9, ↓m0_g10, ↓m0_g11, ↓m0_g12, ↓m0_g13, ↓m0_g14, ↓m0_g15, ↓m0_p0, ↓m0_p2, ↓m0_p3, ↓m0_p8, ↓m0_p9, ↓m0_p12, m0_r, ↓sw_q (RP_row hR) hj, ↓sw_r (RP_row hR) hj, s230 (RP_row hR) hj hiw, ofN_add, ↓m_tape_a hi', et, hc, hs, e, ofN_a1, icond_lt, icond_le, icond_gt, icond_ge, icond_eq, icond_ne, narrow_bool, true_or, or_true, if_true, if_false, cK_inl, toL_some, toL_none, psum_nil, psum_int, psum_ref, psum_null, psum_long, Nat.zero_le, Nat.reduceAdd, Nat.reduceLeDiff, kl_int, kl_ref, kl_none, kl_null, kl_long, ne_eq, not_true, not_false_eq_true]
        exact q d Q
      · rw [if_neg hc] at q ⊢
        simp +decide only [↓w155_0, ↓w155_1, ↓w155_2, ↓w155_3, ↓w155_6, ↓w155_7, ↓w155_10, ↓w155_13, ↓w155_14, ↓w155_15, ↓w155_18, ↓w155_19, ↓w155_22, ↓w155_23, ↓w155_26, ↓w155_27, ↓w155_29, ↓w155_30, ↓w155_34, ↓w155_37, ↓w155_39, ↓w155_40, ↓w155_43, ↓w155_46, ↓w155_47, ↓w155_48, ↓w155_50, ↓w155_53, ↓w155_54, ↓w155_57, ↓w155_58, ↓w155_60, ↓w155_61, ↓w155_62, ↓w155_65, ↓w155_66, ↓w155_69, ↓w155_70, ↓w155_72, ↓w155_75, ↓w155_80, ↓w155_83, ↓w155_84, ↓w155_85, ↓w155_88, ↓w155_91, ↓w155_93, ↓m0_g0, ↓m0_g1, ↓m0_g2, ↓m0_g3, ↓m0_g4, ↓m0_g5, ↓m0_g6, ↓m0_g7, ↓m0_g8, ↓m0_g9, ↓m0_g10, ↓m0_g11, ↓m0_g12, ↓m0_g13, ↓m0_g14, ↓m0_g15, ↓m0_p0, ↓m0_p2, ↓m0_p3, ↓m0_p8, ↓m0_p9, ↓m0_p12, m0_r, ↓sw_q (RP_row hR) hj, ↓sw_r (RP_row hR) hj, s230 (RP_row hR) hj hiw, ofN_add, ↓m_tape_a hi', et, hc, hs, e, ofN_a1, icond_lt, icond_le, icond_gt, icond_ge, icond_eq, icond_ne, narrow_bool, true_or, or_true, if_true, if_false, cK_inl, toL_some, toL_none, psum_nil, psum_int, psum_ref, psum_null, psum_long, Nat.zero_le, Nat.reduceAdd, Nat.reduceLeDiff, kl_int, kl_ref, kl_none, kl_null, kl_long, ne_eq, not_true, not_false_eq_true]
        exact q d Q
theorem wq_0 {k i : Nat} : wq T p j k i 0 = 0 := by
  cases k with
  | zero => rfl
  | succ k => rw [wq, if_pos rfl]
theorem r155_loop (hT : tpV V T n) (hR : roW C) {l : Nat} (hl : p + l ≤ n) : ∀ (k j : Nat) (l4 l5 : Option Value), j + k = 23 → ∀ (d : Nat) (Q : PO → Prop), Wp (d + 6) 155 2 [some (.ref 395), some (.int (Int32.ofNat p)), some (.int (Int32.ofNat l)), some (.int (Int32.ofNat j)), l4, l5] [] (RP c C V W pl P R) Q = Q (.inl (some (.int (kR T p l k j))), RP c C V W pl P R) := by
  have hn := hT.2.1
  intro k
  induction k with
  | zero =>
    intro j l4 l5 hj d Q
    have e : (23 : Int32) ≤ Int32.ofNat j := (ofN_le (k := 23) (by omega) (by omega)).mpr (by omega)
    rw [w155_2]
    simp only [↓w155_0, ↓w155_1, ↓w155_3, ↓w155_6, ↓w155_7, ↓w155_10, ↓w155_13, ↓w155_14, ↓w155_15, ↓w155_18, ↓w155_19, ↓w155_22, ↓w155_23, ↓w155_26, ↓w155_27, ↓w155_29, ↓w155_30, ↓w155_32, ↓w155_34, ↓w155_37, ↓w155_39, ↓w155_40, ↓w155_43, ↓w155_46, ↓w155_47, ↓w155_48, ↓w155_50, ↓w155_53, ↓w155_54, ↓w155_57, ↓w155_58, ↓w155_60, ↓w155_61, ↓w155_62, ↓w155_65, ↓w155_66, ↓w155_69, ↓w155_70, ↓w155_72, ↓w155_75, ↓w155_78, ↓w155_80, ↓w155_83, ↓w155_84, ↓w155_85, ↓w155_88, ↓w155_91, ↓w155_93, ↓sw_m (RP_row hR), e, icond_lt, icond_le, icond_gt, icond_ge, icond_eq, icond_ne, narrow_bool, true_or, or_true, if_true, if_false, cK_inl, toL_some, toL_none, psum_nil, psum_int, psum_ref, psum_null, psum_long, Nat.zero_le, Nat.reduceAdd, Nat.reduceLeDiff, kl_int, kl_ref, kl_none, kl_null, kl_long, kR]
  | succ k ih =>
    intro j l4 l5 hj d Q
    have e : ¬ (23 : Int32) ≤ Int32.ofNat j := fun q => absurd ((ofN_le (k := 23) (by omega) (by omega)).mp q) (by omega)
    have hj' : j < 23 := by omega
    have h8 := w8_len j hj'
    rw [w155_2, kR]
    by_cases hw : (wdB j).length = l
    · obtain ⟨i', q⟩ := r155_in (c := c) (W := W) (pl := pl) (P := P) (R := R) hT hR hj' hl hw l 0 1 (by omega)
      have q' : Wp (d + 6) 155 32 [some (.ref 395), some (.int (Int32.ofNat p)), some (.int (Int32.ofNat l)), some (.int (Int32.ofNat j)), some (.int 1), some (.int 0)] [] (RP c C V W pl P R) Q = _ := q d Q
      rw [if_pos hw]
      have ew : (Int32.ofNat (wdB j).length = Int32.ofNat l) = True := eq_true (by rw [hw])
      simp +decide only [↓w155_0, ↓w155_1, ↓w155_3, ↓w155_6, ↓w155_7, ↓w155_10, ↓w155_13, ↓w155_14, ↓w155_15, ↓w155_18, ↓w155_19, ↓w155_22, ↓w155_23, ↓w155_26, ↓w155_27, ↓w155_29, ↓w155_30, ↓w155_34, ↓w155_37, ↓w155_39, ↓w155_40, ↓w155_43, ↓w155_46, ↓w155_47, ↓w155_48, ↓w155_50, ↓w155_53, ↓w155_54, ↓w155_57, ↓w155_58, ↓w155_60, ↓w155_61, ↓w155_62, ↓w155_65, ↓w155_66, ↓w155_69, ↓w155_70, ↓w155_72, ↓w155_75, ↓w155_80, ↓w155_83, ↓w155_84, ↓w155_85, ↓w155_88, ↓w155_91, ↓w155_93, ↓sw_m (RP_row hR), ↓sw_q (RP_row hR) hj', ↓sw_r (RP_row hR) hj', s229 (RP_row hR) hj', e, ew, ↓q', icond_lt, icond_le, icond_gt, icond_ge, icond_eq, icond_ne, narrow_bool, true_or, or_true, if_true, if_false, cK_inl, toL_some, toL_none, psum_nil, psum_int, psum_ref, psum_null, psum_long, Nat.zero_le, Nat.reduceAdd, Nat.reduceLeDiff, kl_int, kl_ref, kl_none, kl_null, kl_long, ne_eq, not_true, not_false_eq_true]
      rw [w155_78]
      by_cases hq : wq T p j l 0 1 = 0
      · simp +decide only [↓w155_0, ↓w155_1, ↓w155_3, ↓w155_6, ↓w155_7, ↓w155_10, ↓w155_13, ↓w155_14, ↓w155_15, ↓w155_18, ↓w155_19, ↓w155_22, ↓w155_23, ↓w155_26, ↓w155_27, ↓w155_29, ↓w155_30, ↓w155_34, ↓w155_37, ↓w155_39, ↓w155_40, ↓w155_43, ↓w155_46, ↓w155_47, ↓w155_48, ↓w155_50, ↓w155_53, ↓w155_54, ↓w155_57, ↓w155_58, ↓w155_60, ↓w155_61, ↓w155_62, ↓w155_65, ↓w155_66, ↓w155_69, ↓w155_70, ↓w155_72, ↓w155_75, ↓w155_80, ↓w155_83, ↓w155_84, ↓w155_85, ↓w155_88, ↓w155_91, ↓w155_93, hq, ofN_a1, icond_lt, icond_le, icond_gt, icond_ge, icond_eq, icond_ne, narrow_bool, true_or, or_true, if_true, if_false, cK_inl, toL_some, toL_none, psum_nil, psum_int, psum_ref, psum_null, psum_long, Nat.zero_le, Nat.reduceAdd, Nat.reduceLeDiff, kl_int, kl_ref, kl_none, kl_null, kl_long, ne_eq, not_true, not_false_eq_true]
        exact ih (j + 1) _ _ (by omega) d Q
      · simp +decide only [↓w155_0, ↓w155_1, ↓w155_3, ↓w155_6, ↓w155_7, ↓w155_10, ↓w155_13, ↓w155_14, ↓w155_15, ↓w155_18, ↓w155_19, ↓w155_22, ↓w155_23, ↓w155_26, ↓w155_27, ↓w155_29, ↓w155_30, ↓w155_34, ↓w155_37, ↓w155_39, ↓w155_40, ↓w155_43, ↓w155_46, ↓w155_47, ↓w155_48, ↓w155_50, ↓w155_53, ↓w155_54, ↓w155_57, ↓w155_58, ↓w155_60, ↓w155_61, ↓w155_62, ↓w155_65, ↓w155_66, ↓w155_69, ↓w155_70, ↓w155_72, ↓w155_75, ↓w155_80, ↓w155_83, ↓w155_84, ↓w155_85, ↓w155_88, ↓w155_91, ↓w155_93, hq, ofN_a1, icond_lt, icond_le, icond_gt, icond_ge, icond_eq, icond_ne, narrow_bool, true_or, or_true, if_true, if_false, cK_inl, toL_some, toL_none, psum_nil, psum_int, psum_ref, psum_null, psum_long, Nat.zero_le, Nat.reduceAdd, Nat.reduceLeDiff, kl_int, kl_ref, kl_none, kl_null, kl_long, ne_eq, not_true, not_false_eq_true]
    · have ew : ¬ Int32.ofNat (wdB j).length = Int32.ofNat l := fun q => hw (ofN_inj (by omega) (by omega) q)
      rw [if_neg hw, wq_0, if_pos rfl]
      simp +decide only [↓w155_0, ↓w155_1, ↓w155_3, ↓w155_6, ↓w155_7, ↓w155_10, ↓w155_13, ↓w155_14, ↓w155_15, ↓w155_18, ↓w155_19, ↓w155_22, ↓w155_23, ↓w155_26, ↓w155_27, ↓w155_29, ↓w155_30, ↓w155_34, ↓w155_37, ↓w155_39, ↓w155_40, ↓w155_43, ↓w155_46, ↓w155_47, ↓w155_48, ↓w155_50, ↓w155_53, ↓w155_54, ↓w155_57, ↓w155_58, ↓w155_60, ↓w155_61, ↓w155_62, ↓w155_65, ↓w155_66, ↓w155_69, ↓w155_70, ↓w155_72, ↓w155_75, ↓w155_80, ↓w155_83, ↓w155_84, ↓w155_85, ↓w155_88, ↓w155_91, ↓w155_93, ↓sw_m (RP_row hR), ↓sw_q (RP_row hR) hj', ↓sw_r (RP_row hR) hj', s229 (RP_row hR) hj', e, ew, icond_lt, icond_le, icond_gt, icond_ge, icond_eq, icond_ne, narrow_bool, true_or, or_true, if_true, if_false, cK_inl, toL_some, toL_none, psum_nil, psum_int, psum_ref, psum_null, psum_long, Nat.zero_le, Nat.reduceAdd, Nat.reduceLeDiff, kl_int, kl_ref, kl_none, kl_null, kl_long, ne_eq, not_true, not_false_eq_true]
      rw [w155_32]
      simp +decide only [↓w155_0, ↓w155_1, ↓w155_3, ↓w155_6, ↓w155_7, ↓w155_10, ↓w155_13, ↓w155_14, ↓w155_15, ↓w155_18, ↓w155_19, ↓w155_22, ↓w155_23, ↓w155_26, ↓w155_27, ↓w155_29, ↓w155_30, ↓w155_34, ↓w155_37, ↓w155_39, ↓w155_40, ↓w155_43, ↓w155_46, ↓w155_47, ↓w155_48, ↓w155_50, ↓w155_53, ↓w155_54, ↓w155_57, ↓w155_58, ↓w155_60, ↓w155_61, ↓w155_62, ↓w155_65, ↓w155_66, ↓w155_69, ↓w155_70, ↓w155_72, ↓w155_75, ↓w155_78, ↓w155_80, ↓w155_83, ↓w155_84, ↓w155_85, ↓w155_88, ↓w155_91, ↓w155_93, ofN_a1, icond_lt, icond_le, icond_gt, icond_ge, icond_eq, icond_ne, narrow_bool, true_or, or_true, if_true, if_false, cK_inl, toL_some, toL_none, psum_nil, psum_int, psum_ref, psum_null, psum_long, Nat.zero_le, Nat.reduceAdd, Nat.reduceLeDiff, kl_int, kl_ref, kl_none, kl_null, kl_long, ne_eq, not_true, not_false_eq_true]
      exact ih (j + 1) _ _ (by omega) d Q
theorem r155 (hT : tpV V T n) (hR : roW C) {l : Nat} (hl : p + l ≤ n) (d : Nat) (Q : PO → Prop) : Cp (d + 7) 155 [.ref 395, .int (Int32.ofNat p), .int (Int32.ofNat l)] (RP c C V W pl P R) Q = Q (.inl (some (.int (kR T p l 23 0))), RP c C V W pl P R) := by
  simp only [ce155, ↓w155_0, ↓w155_1, cK_inl, toL_some, toL_none, psum_nil, psum_int, psum_ref, psum_null, psum_long, Nat.zero_le, Nat.reduceAdd, Nat.reduceLeDiff, kl_int, kl_ref, kl_none, kl_null, kl_long]
  exact r155_loop hT hR hl 23 0 none none rfl d Q
end TOKR
