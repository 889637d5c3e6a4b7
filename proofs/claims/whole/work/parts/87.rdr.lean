/-! THE REFERENCE'S READER: the second pass, by token -/
section RDRS
variable {c : Nat × Nat × Nat} {C : Nat → Option PC} {V P : S3} {W : L3} {R : Nat → Option PC} {pl d i j k n m p t u l q q' l' : Nat} {x y ρ : Int32} {z : Int64} {Q : PO → Prop} {T : Nat → Int32} {qf lf : Nat → Nat}
/-- two tokens of the same bytes? -/
def smB (T : Nat → Int32) (q q' : Nat) : Nat → Nat → Int32
  | 0, _ => 1
  | k + 1, j => if T (q + j) = T (q' + j) then smB T q q' k (j + 1) else 0
def smI (T : Nat → Int32) (q l q' l' : Nat) : Int32 := if l = l' then smB T q q' l 0 else 0
theorem r171_loop (hT : tpV V T n) (ht : onT V n t q l) (hu : onT V n u q' l) : ∀ (k j : Nat), j + k = l → ∀ (d : Nat) (Q : PO → Prop), Wp (d + 1) 171 19 [some (.ref 395), some (.int (Int32.ofNat t)), some (.int (Int32.ofNat u)), some (.int (Int32.ofNat j))] [] (RP c C V W pl P R) Q = Q (.inl (some (.int (smB T q q' k j))), RP c C V W pl P R) := by
  obtain ⟨t1, t2, t3, t4⟩ := ht
  obtain ⟨u1, u2, u3, u4⟩ := hu
  have hn := hT.2.1
  intro k
  induction k with
  | zero =>
    intro j hj d Q
    have e : Int32.ofNat l ≤ Int32.ofNat j := (ofN_le (by omega) (by omega)).mpr (by omega)
    rw [w171_19]
    simp only [↓w171_0, ↓w171_1, ↓w171_4, ↓w171_5, ↓w171_6, ↓w171_7, ↓w171_10, ↓w171_11, ↓w171_12, ↓w171_15, ↓w171_16, ↓w171_17, ↓w171_18, ↓w171_20, ↓w171_21, ↓w171_24, ↓w171_25, ↓w171_26, ↓w171_29, ↓w171_30, ↓w171_33, ↓w171_34, ↓w171_37, ↓w171_38, ↓w171_39, ↓w171_40, ↓w171_41, ↓w171_42, ↓w171_43, ↓w171_46, ↓w171_47, ↓w171_50, ↓w171_51, ↓w171_52, ↓w171_53, ↓w171_54, ↓w171_55, ↓w171_58, ↓w171_59, ↓w171_60, ↓w171_63, ↓w171_66, ↓w171_67, ↓m0_g0, ↓m0_g1, ↓m0_g2, ↓m0_g3, ↓m0_g4, ↓m0_g5, ↓m0_g6, ↓m0_g7, ↓m0_g8, ↓m0_g9, ↓m0_g10, ↓m0_g11, ↓m0_g12, ↓m0_g13, ↓m0_g14, ↓m0_g15, ↓m0_p0, ↓m0_p2, ↓m0_p3, ↓m0_p8, ↓m0_p9, ↓m0_p12, m0_r, ↓m_many_a t1, t3, e, icond_lt, icond_le, icond_gt, icond_ge, icond_eq, icond_ne, narrow_bool, true_or, or_true, if_true, if_false, cK_inl, toL_some, toL_none, psum_nil, psum_int, psum_ref, psum_null, psum_long, Nat.zero_le, Nat.reduceAdd, Nat.reduceLeDiff, kl_int, kl_ref, kl_none, kl_null, kl_long, smB]
  | succ k ih =>
    intro j hj d Q
    have e : ¬ Int32.ofNat l ≤ Int32.ofNat j := fun q => absurd ((ofN_le (by omega) (by omega)).mp q) (by omega)
    have hi1 : q + j < 1600 := by omega
    have hi2 : q' + j < 1600 := by omega
    have et1 : V 4 210 (q + j) = T (q + j) := by rw [hT.2.2 (q + j), if_pos (by omega)]
    have et2 : V 4 210 (q' + j) = T (q' + j) := by rw [hT.2.2 (q' + j), if_pos (by omega)]
    rw [w171_19, smB]
    by_cases h1 : T (q + j) = T (q' + j)
    · simp +decide only [↓w171_0, ↓w171_1, ↓w171_4, ↓w171_5, ↓w171_6, ↓w171_7, ↓w171_10, ↓w171_11, ↓w171_12, ↓w171_15, ↓w171_16, ↓w171_17, ↓w171_18, ↓w171_20, ↓w171_21, ↓w171_24, ↓w171_25, ↓w171_26, ↓w171_29, ↓w171_30, ↓w171_33, ↓w171_34, ↓w171_37, ↓w171_38, ↓w171_39, ↓w171_40, ↓w171_42, ↓w171_43, ↓w171_46, ↓w171_47, ↓w171_50, ↓w171_51, ↓w171_52, ↓w171_53, ↓w171_54, ↓w171_55, ↓w171_58, ↓w171_59, ↓w171_60, ↓w171_63, ↓w171_66, ↓w171_67, ↓m0_g0, ↓m0_g1, ↓m0_g2, ↓m0_g3, ↓m0_g4, ↓m0_g5, ↓m0_g6, ↓m0_g7, ↓m0_g8, ↓m0_g9, ↓m0_g10, ↓m0_g11, ↓m0_g12, ↓m0_g13, ↓m0_g14, ↓m0_g15, ↓m0_p0, ↓m0_p2, ↓m0_p3, ↓m0_p8, ↓m0_p9, ↓m0_p12, m0_r, ↓m_many_a t1, ↓m_from_a t1, t2, t3, e, ofN_add, icond_lt, icond_le, icond_gt, icond_ge, icond_eq, icond_ne, narrow_bool, true_or, or_true, if_true, if_false, cK_inl, toL_some, toL_none, psum_nil, psum_int, psum_ref, psum_null, psum_long, Nat.zero_le, Nat.reduceAdd, Nat.reduceLeDiff, kl_int, kl_ref, kl_none, kl_null, kl_long]
      rw [w171_41, m_tape_a hi1, et1]
      simp +decide only [↓w171_0, ↓w171_1, ↓w171_4, ↓w171_5, ↓w171_6, ↓w171_7, ↓w171_10, ↓w171_11, ↓w171_12, ↓w171_15, ↓w171_16, ↓w171_17, ↓w171_18, ↓w171_20, ↓w171_21, ↓w171_24, ↓w171_25, ↓w171_26, ↓w171_29, ↓w171_30, ↓w171_33, ↓w171_34, ↓w171_37, ↓w171_38, ↓w171_39, ↓w171_40, ↓w171_42, ↓w171_43, ↓w171_46, ↓w171_47, ↓w171_50, ↓w171_51, ↓w171_52, ↓w171_53, ↓w171_55, ↓w171_58, ↓w171_59, ↓w171_60, ↓w171_63, ↓w171_66, ↓w171_67, ↓m0_g0, ↓m0_g1, ↓m0_g2, ↓m0_g3, ↓m0_g4, ↓m0_g5, ↓m0_g6, ↓m0_g7, ↓m0_g8, ↓m0_g9, ↓m0_g10, ↓m0_g11, ↓m0_g12, ↓m0_g13, ↓m0_g14, ↓m0_g15, ↓m0_p0, ↓m0_p2, ↓m0_p3, ↓m0_p8, ↓m0_p9, ↓m0_p12, m0_r, ↓m_from_a u1, u2, ofN_add, icond_lt, icond_le, icond_gt, icond_ge, icond_eq, icond_ne, narrow_bool, true_or, or_true, if_true, if_false, cK_inl, toL_some, toL_none, psum_nil, psum_int, psum_ref, psum_null, psum_long, Nat.zero_le, Nat.reduceAdd, Nat.reduceLeDiff, kl_int, kl_ref, kl_none, kl_null, kl_long]
      rw [w171_54, m_tape_a hi2, et2]
      simp +decide only [↓w171_0, ↓w171_1, ↓w171_4, ↓w171_5, ↓w171_6, ↓w171_7, ↓w171_10, ↓w171_11, ↓w171_12, ↓w171_15, ↓w171_16, ↓w171_17, ↓w171_18, ↓w171_20, ↓w171_21, ↓w171_24, ↓w171_25, ↓w171_26, ↓w171_29, ↓w171_30, ↓w171_33, ↓w171_34, ↓w171_37, ↓w171_38, ↓w171_39, ↓w171_40, ↓w171_42, ↓w171_43, ↓w171_46, ↓w171_47, ↓w171_50, ↓w171_51, ↓w171_52, ↓w171_53, ↓w171_55, ↓w171_58, ↓w171_59, ↓w171_60, ↓w171_63, ↓w171_66, ↓w171_67, h1, ofN_a1, icond_lt, icond_le, icond_gt, icond_ge, icond_eq, icond_ne, narrow_bool, true_or, or_true, if_true, if_false, cK_inl, toL_some, toL_none, psum_nil, psum_int, psum_ref, psum_null, psum_long, Nat.zero_le, Nat.reduceAdd, Nat.reduceLeDiff, kl_int, kl_ref, kl_none, kl_null, kl_long, ne_eq, not_true, not_false_eq_true]
      exact ih (j + 1) (by omega) d Q
    · simp +decide only [↓w171_0, ↓w171_1, ↓w171_4, ↓w171_5, ↓w171_6, ↓w171_7, ↓w171_10, ↓w171_11, ↓w171_12, ↓w171_15, ↓w171_16, ↓w171_17, ↓w171_18, ↓w171_20, ↓w171_21, ↓w171_24, ↓w171_25, ↓w171_26, ↓w171_29, ↓w171_30, ↓w171_33, ↓w171_34, ↓w171_37, ↓w171_38, ↓w171_39, ↓w171_40, ↓w171_42, ↓w171_43, ↓w171_46, ↓w171_47, ↓w171_50, ↓w171_51, ↓w171_52, ↓w171_53, ↓w171_54, ↓w171_55, ↓w171_58, ↓w171_59, ↓w171_60, ↓w171_63, ↓w171_66, ↓w171_67, ↓m0_g0, ↓m0_g1, ↓m0_g2, ↓m0_g3, ↓m0_g4, ↓m0_g5, ↓m0_g6, ↓m0_g7, ↓m0_g8, ↓m0_g9, ↓m0_g10, ↓m0_g11, ↓m0_g12, ↓m0_g13, ↓m0_g14, ↓m0_g15, ↓m0_p0, ↓m0_p2, ↓m0_p3, ↓m0_p8, ↓m0_p9, ↓m0_p12, m0_r, ↓m_many_a t1, ↓m_from_a t1, t2, t3, e, ofN_add, icond_lt, icond_le, icond_gt, icond_ge, icond_eq, icond_ne, narrow_bool, true_or, or_true, if_true, if_false, cK_inl, toL_some, toL_none, psum_nil, psum_int, psum_ref, psum_null, psum_long, Nat.zero_le, Nat.reduceAdd, Nat.reduceLeDiff, kl_int, kl_ref, kl_none, kl_null, kl_long]
      rw [w171_41, m_tape_a hi1, et1]
      simp +decide only [↓w171_0, ↓w171_1, ↓w171_4, ↓w171_5, ↓w171_6, ↓w171_7, ↓w171_10, ↓w171_11, ↓w171_12, ↓w171_15, ↓w171_16, ↓w171_17, ↓w171_18, ↓w171_20, ↓w171_21, ↓w171_24, ↓w171_25, ↓w171_26, ↓w171_29, ↓w171_30, ↓w171_33, ↓w171_34, ↓w171_37, ↓w171_38, ↓w171_39, ↓w171_40, ↓w171_42, ↓w171_43, ↓w171_46, ↓w171_47, ↓w171_50, ↓w171_51, ↓w171_52, ↓w171_53, ↓w171_55, ↓w171_58, ↓w171_59, ↓w171_60, ↓w171_63, ↓w171_66, ↓w171_67, ↓m0_g0, ↓m0_g1, ↓m0_g2, ↓m0_g3, ↓m0_g4, ↓m0_g5, ↓m0_g6, ↓m0_g7, ↓m0_g8, ↓m0_g9, ↓m0_g10, ↓m0_g11, ↓m0_g12, ↓m0_g13, ↓m0_g14, ↓m0_g15, ↓m0_p0, ↓m0_p2, ↓m0_p3, ↓m0_p8, ↓m0_p9, ↓m0_p12, m0_r, ↓m_from_a u1, u2, ofN_add, icond_lt, icond_le, icond_gt, icond_ge, icond_eq, icond_ne, narrow_bool, true_or, or_true, if_true, if_false, cK_inl, toL_some, toL_none, psum_nil, psum_int, psum_ref, psum_null, psum_long, Nat.zero_le, Nat.reduceAdd, Nat.reduceLeDiff, kl_int, kl_ref, kl_none, kl_null, kl_long]
      rw [w171_54, m_tape_a hi2, et2]
      simp +decide only [↓w171_0, ↓w171_1, ↓w171_4, ↓w171_5, ↓w171_6, ↓w171_7, ↓w171_10, ↓w171_11, ↓w171_12, ↓w171_15, ↓w171_16, ↓w171_17, ↓w171_18, ↓w171_20, ↓w171_21, ↓w171_24, ↓w171_25, ↓w171_26, ↓w171_29, ↓w171_30, ↓w171_33, ↓w171_34, ↓w171_37, ↓w171_38, ↓w171_39, ↓w171_40, ↓w171_42, ↓w171_43, ↓w171_46, ↓w171_47, ↓w171_50, ↓w171_51, ↓w171_52, ↓w171_53, ↓w171_55, ↓w171_58, ↓w171_59, ↓w171_60, ↓w171_63, ↓w171_66, ↓w171_67, h1, ofN_a1, icond_lt, icond_le, icond_gt, icond_ge, icond_eq, icond_ne, narrow_bool, true_or, or_true, if_true, if_false, cK_inl, toL_some, toL_none, psum_nil, psum_int, psum_ref, psum_null, psum_long, Nat.zero_le, Nat.reduceAdd, Nat.reduceLeDiff, kl_int, kl_ref, kl_none, kl_null, kl_long, ne_eq, not_true, not_false_eq_true]
theorem r171 (hT : tpV V T n) (ht : onT V n t q l) (hu : onT V n u q' l') (d : Nat) (Q : PO → Prop) : Cp (d + 2) 171 [.ref 395, .int (Int32.ofNat t), .int (Int32.ofNat u)] (RP c C V W pl P R) Q = Q (.inl (some (.int (smI T q l q' l'))), RP c C V W pl P R) := by
  have hn := hT.2.1
  have t1 := ht.1
  have t3 := ht.2.2.1
  have u1 := hu.1
  have u3 := hu.2.2.1
  have t4 := ht.2.2.2
  have u4 := hu.2.2.2
  unfold smI
  by_cases h : l = l'
  · subst h
    have q2 : Wp (d + 1) 171 19 [some (.ref 395), some (.int (Int32.ofNat t)), some (.int (Int32.ofNat u)), some (.int 0)] [] (RP c C V W pl P R) Q = _ := r171_loop hT ht hu l 0 (by omega) d Q
    rw [if_pos rfl]
    simp +decide only [ce171, ↓w171_0, ↓w171_1, ↓w171_4, ↓w171_5, ↓w171_6, ↓w171_7, ↓w171_10, ↓w171_11, ↓w171_12, ↓w171_15, ↓w171_16, ↓w171_17, ↓w171_18, ↓w171_20, ↓w171_21, ↓w171_24, ↓w171_25, ↓w171_26, ↓w171_29, ↓w171_30, ↓w171_33, ↓w171_34, ↓w171_37, ↓w171_38, ↓w171_39, ↓w171_40, ↓w171_41, ↓w171_42, ↓w171_43, ↓w171_46, ↓w171_47, ↓w171_50, ↓w171_51, ↓w171_52, ↓w171_53, ↓w171_54, ↓w171_55, ↓w171_58, ↓w171_59, ↓w171_60, ↓w171_63, ↓w171_66, ↓w171_67, ↓m0_g0, ↓m0_g1, ↓m0_g2, ↓m0_g3, ↓m0_g4, ↓m0_g5, ↓m0_g6, ↓m0_g7, ↓m0_g8, ↓m0_g9, ↓m0_g10, ↓m0_g11, ↓m0_g12, ↓m0_g13, ↓m0_g14, ↓m0_g15, ↓m0_p0, ↓m0_p2, ↓m0_p3, ↓m0_p8, ↓m0_p9, ↓m0_p12, m0_r, ↓m_many_a t1, ↓m_many_a u1, t3, u3, icond_lt, icond_le, icond_gt, icond_ge, icond_eq, icond_ne, narrow_bool, true_or, or_true, if_true, if_false, cK_inl, toL_some, toL_none, psum_nil, psum_int, psum_ref, psum_null, psum_long, Nat.zero_le, Nat.reduceAdd, Nat.reduceLeDiff, kl_int, kl_ref, kl_none, kl_null, kl_long, ne_eq, not_true, not_false_eq_true]
    exact q2
  · have e : ¬ Int32.ofNat l = Int32.ofNat l' := fun q => h (ofN_inj (by omega) (by omega) q)
    rw [if_neg h]
    simp +decide only [ce171, ↓w171_0, ↓w171_1, ↓w171_4, ↓w171_5, ↓w171_6, ↓w171_7, ↓w171_10, ↓w171_11, ↓w171_12, ↓w171_15, ↓w171_16, ↓w171_17, ↓w171_18, ↓w171_20, ↓w171_21, ↓w171_24, ↓w171_25, ↓w171_26, ↓w171_29, ↓w171_30, ↓w171_33, ↓w171_34, ↓w171_37, ↓w171_38, ↓w171_39, ↓w171_40, ↓w171_41, ↓w171_42, ↓w171_43, ↓w171_46, ↓w171_47, ↓w171_50, ↓w171_51, ↓w171_52, ↓w171_53, ↓w171_54, ↓w171_55, ↓w171_58, ↓w171_59, ↓w171_60, ↓w171_63, ↓w171_66, ↓w171_67, ↓m0_g0, ↓m0_g1, ↓m0_g2, ↓m0_g3, ↓m0_g4, ↓m0_g5, ↓m0_g6, ↓m0_g7, ↓m0_g8, ↓m0_g9, ↓m0_g10, ↓m0_g11, ↓m0_g12, ↓m0_g13, ↓m0_g14, ↓m0_g15, ↓m0_p0, ↓m0_p2, ↓m0_p3, ↓m0_p8, ↓m0_p9, ↓m0_p12, m0_r, ↓m_many_a t1, ↓m_many_a u1, t3, u3, e, icond_lt, icond_le, icond_gt, icond_ge, icond_eq, icond_ne, narrow_bool, true_or, or_true, if_true, if_false, cK_inl, toL_some, toL_none, psum_nil, psum_int, psum_ref, psum_null, psum_long, Nat.zero_le, Nat.reduceAdd, Nat.reduceLeDiff, kl_int, kl_ref, kl_none, kl_null, kl_long, ne_eq, not_true, not_false_eq_true]
theorem smB_01 : ∀ (k j : Nat), smB T q q' k j = 0 ∨ smB T q q' k j = 1 := by
  intro k
  induction k with
  | zero => intro j; exact Or.inr rfl
  | succ k ih =>
    intro j
    rw [smB]
    split
    · exact ih _
    · exact Or.inl rfl
/-- told before? -/
def tdI (V : S3) (T : Nat → Int32) (qf lf : Nat → Nat) (t : Nat) (ρ : Int32) : Nat → Nat → Nat → Int32
  | 0, _, _ => -1
  | k + 1, u, cnt => if V 4 214 u = ρ then (if smI T (qf u) (lf u) (qf t) (lf t) = 0 then tdI V T qf lf t ρ k (u + 1) (cnt + 1) else Int32.ofNat cnt) else tdI V T qf lf t ρ k (u + 1) cnt
theorem r172_loop (hT : tpV V T n) (hO : ∀ u, u ≤ t → onT V n u (qf u) (lf u)) : ∀ (k u cnt : Nat), u + k = t → ∀ (d : Nat) (Q : PO → Prop), Wp (d + 2) 172 5 [some (.ref 395), some (.int (Int32.ofNat t)), some (.int ρ), some (.int (Int32.ofNat cnt)), some (.int (Int32.ofNat u))] [] (RP c C V W pl P R) Q = Q (.inl (some (.int (tdI V T qf lf t ρ k u cnt))), RP c C V W pl P R) := by
  have t1 := (hO t (Nat.le_refl _)).1
  intro k
  induction k with
  | zero =>
    intro u cnt hu d Q
    have e : Int32.ofNat t ≤ Int32.ofNat u := (ofN_le (by omega) (by omega)).mpr (by omega)
    rw [w172_5]
    simp only [↓w172_0, ↓w172_1, ↓w172_2, ↓w172_3, ↓w172_7, ↓w172_8, ↓w172_11, ↓w172_12, ↓w172_15, ↓w172_17, ↓w172_18, ↓w172_19, ↓w172_22, ↓w172_25, ↓w172_26, ↓w172_28, ↓w172_29, ↓w172_32, ↓w172_35, ↓w172_36, ↓w172_37, ↓w172_40, ↓w172_43, ↓w172_46, ↓w172_47, e, icond_lt, icond_le, icond_gt, icond_ge, icond_eq, icond_ne, narrow_bool, true_or, or_true, if_true, if_false, cK_inl, toL_some, toL_none, psum_nil, psum_int, psum_ref, psum_null, psum_long, Nat.zero_le, Nat.reduceAdd, Nat.reduceLeDiff, kl_int, kl_ref, kl_none, kl_null, kl_long, tdI]
  | succ k ih =>
    intro u cnt hu d Q
    have e : ¬ Int32.ofNat t ≤ Int32.ofNat u := fun q => absurd ((ofN_le (by omega) (by omega)).mp q) (by omega)
    have hu1 : u < 401 := by omega
    have q171 : ∀ (d : Nat) (Q : PO → Prop), Cp (d + 2) 171 [.ref 395, .int (Int32.ofNat u), .int (Int32.ofNat t)] (RP c C V W pl P R) Q = _ := fun d Q => r171 hT (hO u (by omega)) (hO t (Nat.le_refl _)) d Q
    rw [w172_5, tdI]
    by_cases h1 : V 4 214 u = ρ
    · by_cases h2 : smI T (qf u) (lf u) (qf t) (lf t) = 0
      · simp +decide only [↓w172_0, ↓w172_1, ↓w172_2, ↓w172_3, ↓w172_7, ↓w172_8, ↓w172_11, ↓w172_12, ↓w172_15, ↓w172_17, ↓w172_18, ↓w172_19, ↓w172_22, ↓w172_25, ↓w172_26, ↓w172_28, ↓w172_29, ↓w172_32, ↓w172_35, ↓w172_36, ↓w172_37, ↓w172_40, ↓w172_43, ↓w172_46, ↓w172_47, ↓m0_g0, ↓m0_g1, ↓m0_g2, ↓m0_g3, ↓m0_g4, ↓m0_g5, ↓m0_g6, ↓m0_g7, ↓m0_g8, ↓m0_g9, ↓m0_g10, ↓m0_g11, ↓m0_g12, ↓m0_g13, ↓m0_g14, ↓m0_g15, ↓m0_p0, ↓m0_p2, ↓m0_p3, ↓m0_p8, ↓m0_p9, ↓m0_p12, m0_r, ↓m_role_a hu1, q171, h1, h2, e, ofN_a1, icond_lt, icond_le, icond_gt, icond_ge, icond_eq, icond_ne, narrow_bool, true_or, or_true, if_true, if_false, cK_inl, toL_some, toL_none, psum_nil, psum_int, psum_ref, psum_null, psum_long, Nat.zero_le, Nat.reduceAdd, Nat.reduceLeDiff, kl_int, kl_ref, kl_none, kl_null, kl_long, ne_eq, not_true, not_false_eq_true]
        exact ih (u + 1) (cnt + 1) (by omega) d Q
      · simp +decide only [↓w172_0, ↓w172_1, ↓w172_2, ↓w172_3, ↓w172_7, ↓w172_8, ↓w172_11, ↓w172_12, ↓w172_15, ↓w172_17, ↓w172_18, ↓w172_19, ↓w172_22, ↓w172_25, ↓w172_26, ↓w172_28, ↓w172_29, ↓w172_32, ↓w172_35, ↓w172_36, ↓w172_37, ↓w172_40, ↓w172_43, ↓w172_46, ↓w172_47, ↓m0_g0, ↓m0_g1, ↓m0_g2, ↓m0_g3, ↓m0_g4, ↓m0_g5, ↓m0_g6, ↓m0_g7, ↓m0_g8, ↓m0_g9, ↓m0_g10, ↓m0_g11, ↓m0_g12, ↓m0_g13, ↓m0_g14, ↓m0_g15, ↓m0_p0, ↓m0_p2, ↓m0_p3, ↓m0_p8, ↓m0_p9, ↓m0_p12, m0_r, ↓m_role_a hu1, q171, h1, h2, e, ofN_a1, icond_lt, icond_le, icond_gt, icond_ge, icond_eq, icond_ne, narrow_bool, true_or, or_true, if_true, if_false, cK_inl, toL_some, toL_none, psum_nil, psum_int, psum_ref, psum_null, psum_long, Nat.zero_le, Nat.reduceAdd, Nat.reduceLeDiff, kl_int, kl_ref, kl_none, kl_null, kl_long, ne_eq, not_true, not_false_eq_true]
    · simp +decide only [↓w172_0, ↓w172_1, ↓w172_2, ↓w172_3, ↓w172_7, ↓w172_8, ↓w172_11, ↓w172_12, ↓w172_15, ↓w172_17, ↓w172_18, ↓w172_19, ↓w172_22, ↓w172_25, ↓w172_26, ↓w172_28, ↓w172_29, ↓w172_32, ↓w172_35, ↓w172_36, ↓w172_37, ↓w172_40, ↓w172_43, ↓w172_46, ↓w172_47, ↓m0_g0, ↓m0_g1, ↓m0_g2, ↓m0_g3, ↓m0_g4, ↓m0_g5, ↓m0_g6, ↓m0_g7, ↓m0_g8, ↓m0_g9, ↓m0_g10, ↓m0_g11, ↓m0_g12, ↓m0_g13, ↓m0_g14, ↓m0_g15, ↓m0_p0, ↓m0_p2, ↓m0_p3, ↓m0_p8, ↓m0_p9, ↓m0_p12, m0_r, ↓m_role_a hu1, q171, h1, e, ofN_a1, icond_lt, icond_le, icond_gt, icond_ge, icond_eq, icond_ne, narrow_bool, true_or, or_true, if_true, if_false, cK_inl, toL_some, toL_none, psum_nil, psum_int, psum_ref, psum_null, psum_long, Nat.zero_le, Nat.reduceAdd, Nat.reduceLeDiff, kl_int, kl_ref, kl_none, kl_null, kl_long, ne_eq, not_true, not_false_eq_true]
      exact ih (u + 1) cnt (by omega) d Q
theorem r172 (hT : tpV V T n) (hO : ∀ u, u ≤ t → onT V n u (qf u) (lf u)) (d : Nat) (Q : PO → Prop) : Cp (d + 3) 172 [.ref 395, .int (Int32.ofNat t), .int ρ] (RP c C V W pl P R) Q = Q (.inl (some (.int (tdI V T qf lf t ρ t 0 0))), RP c C V W pl P R) := by
  simp only [ce172, ↓w172_0, ↓w172_1, ↓w172_2, ↓w172_3, cK_inl, toL_some, toL_none, psum_nil, psum_int, psum_ref, psum_null, psum_long, Nat.zero_le, Nat.reduceAdd, Nat.reduceLeDiff, kl_int, kl_ref, kl_none, kl_null, kl_long]
  exact r172_loop hT hO t 0 0 (by omega) d Q
def tkn (V : S3) (T : Nat → Int32) (qf lf : Nat → Nat) (t : Nat) : Bool := !decide (tdI V T qf lf t 1 t 0 0 = -1) || !decide (tdI V T qf lf t 2 t 0 0 = -1)
theorem r173 (hT : tpV V T n) (hO : ∀ u, u ≤ t → onT V n u (qf u) (lf u)) (d : Nat) (Q : PO → Prop) : Cp (d + 4) 173 [.ref 395, .int (Int32.ofNat t)] (RP c C V W pl P R) Q = Q (.inl (some (.int (if tkn V T qf lf t = true then 1 else 0))), RP c C V W pl P R) := by
  have q172 : ∀ (ρ : Int32) (d : Nat) (Q : PO → Prop), Cp (d + 3) 172 [.ref 395, .int (Int32.ofNat t), .int ρ] (RP c C V W pl P R) Q = _ := fun ρ d Q => r172 hT hO d Q
  by_cases h1 : tdI V T qf lf t 1 t 0 0 = -1
  · by_cases h2 : tdI V T qf lf t 2 t 0 0 = -1
    · have e : ¬ tkn V T qf lf t = true := by simp [tkn, h1, h2]
      simp +decide only [ce173, ↓w173_0, ↓w173_1, ↓w173_2, ↓w173_3, ↓w173_6, ↓w173_7, ↓w173_10, ↓w173_11, ↓w173_12, ↓w173_13, ↓w173_16, ↓w173_17, ↓w173_20, ↓w173_21, ↓w173_24, ↓w173_25, ↓m0_g0, ↓m0_g1, ↓m0_g2, ↓m0_g3, ↓m0_g4, ↓m0_g5, ↓m0_g6, ↓m0_g7, ↓m0_g8, ↓m0_g9, ↓m0_g10, ↓m0_g11, ↓m0_g12, ↓m0_g13, ↓m0_g14, ↓m0_g15, ↓m0_p0, ↓m0_p2, ↓m0_p3, ↓m0_p8, ↓m0_p9, ↓m0_p12, m0_r, q172, h1, h2, e, icond_lt, icond_le, icond_gt, icond_ge, icond_eq, icond_ne, narrow_bool, true_or, or_true, if_true, if_false, cK_inl, toL_some, toL_none, psum_nil, psum_int, psum_ref, psum_null, psum_long, Nat.zero_le, Nat.reduceAdd, Nat.reduceLeDiff, kl_int, kl_ref, kl_none, kl_null, kl_long, ne_eq, not_true, not_false_eq_true]
    · have e : tkn V T qf lf t = true := by simp [tkn, h2]
      simp +decide only [ce173, ↓w173_0, ↓w173_1, ↓w173_2, ↓w173_3, ↓w173_6, ↓w173_7, ↓w173_10, ↓w173_11, ↓w173_12, ↓w173_13, ↓w173_16, ↓w173_17, ↓w173_20, ↓w173_21, ↓w173_24, ↓w173_25, ↓m0_g0, ↓m0_g1, ↓m0_g2, ↓m0_g3, ↓m0_g4, ↓m0_g5, ↓m0_g6, ↓m0_g7, ↓m0_g8, ↓m0_g9, ↓m0_g10, ↓m0_g11, ↓m0_g12, ↓m0_g13, ↓m0_g14, ↓m0_g15, ↓m0_p0, ↓m0_p2, ↓m0_p3, ↓m0_p8, ↓m0_p9, ↓m0_p12, m0_r, q172, h1, h2, e, icond_lt, icond_le, icond_gt, icond_ge, icond_eq, icond_ne, narrow_bool, true_or, or_true, if_true, if_false, cK_inl, toL_some, toL_none, psum_nil, psum_int, psum_ref, psum_null, psum_long, Nat.zero_le, Nat.reduceAdd, Nat.reduceLeDiff, kl_int, kl_ref, kl_none, kl_null, kl_long, ne_eq, not_true, not_false_eq_true]
  · have e : tkn V T qf lf t = true := by simp [tkn, h1]
    simp +decide only [ce173, ↓w173_0, ↓w173_1, ↓w173_2, ↓w173_3, ↓w173_6, ↓w173_7, ↓w173_10, ↓w173_11, ↓w173_12, ↓w173_13, ↓w173_16, ↓w173_17, ↓w173_20, ↓w173_21, ↓w173_24, ↓w173_25, ↓m0_g0, ↓m0_g1, ↓m0_g2, ↓m0_g3, ↓m0_g4, ↓m0_g5, ↓m0_g6, ↓m0_g7, ↓m0_g8, ↓m0_g9, ↓m0_g10, ↓m0_g11, ↓m0_g12, ↓m0_g13, ↓m0_g14, ↓m0_g15, ↓m0_p0, ↓m0_p2, ↓m0_p3, ↓m0_p8, ↓m0_p9, ↓m0_p12, m0_r, q172, h1, e, icond_lt, icond_le, icond_gt, icond_ge, icond_eq, icond_ne, narrow_bool, true_or, or_true, if_true, if_false, cK_inl, toL_some, toL_none, psum_nil, psum_int, psum_ref, psum_null, psum_long, Nat.zero_le, Nat.reduceAdd, Nat.reduceLeDiff, kl_int, kl_ref, kl_none, kl_null, kl_long, ne_eq, not_true, not_false_eq_true]
end RDRS
