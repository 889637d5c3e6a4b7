/-! THE REFERENCE'S OWN METHODS: until lit, nights, the best round -/
section PUBC
variable {c : Nat × Nat × Nat} {C : Nat → Option PC} {S V P : S3} {W : L3} {R : Nat → Option PC} {g b pl M N A NR β : Nat} {x y : Int32} {rk : Nat → Nat} {nt : Prop}
theorem ps_one {a : Int32} : psS g b 1 a S = (a + (qtS g b S).1, (qtS g b S).2) := rfl
theorem r222_loop {i : Nat} (hi : i < 10) (hiM : i < M) : ∀ (k n : Nat) (S V : S3) (β : Nat), n + k = 80 → ctx 1 b pl M A NR N β rk nt P S V → β + 90 * (k + 1) < 2 ^ 30 →
    ∃ V', sameBut (pA 1) V V' ∧ ∀ (d : Nat) (Q : PO → Prop), Wp (d + 14) 222 33 [some (.ref 395), some (.int (Int32.ofNat i)), some (.int (Int32.ofNat n))] [] (RP c C V W pl P R) Q = Q (.inl (some (.int (if S 1 9 i = 0 then (ulS b i k (n + 1) S).1 else Int32.ofNat n))), RP c C V' W pl P R) := by
  have hg : 1 < 2 := by decide
  intro k
  induction k with
  | zero =>
    intro n S V β hn h hβ
    have a9 := h.1.1.2.1 9 i (by omega) (by omega) hiM
    have en : n = 80 := by omega
    subst en
    have e : ¬ (80 : Int32) < Int32.ofNat 80 := by decide
    have e81 : (80 : Int32) < Int32.ofNat 80 + 1 := by decide
    rw [a9]
    by_cases h9 : V 1 9 i = 0
    · obtain ⟨V1, p1, p2, p3⟩ := r142 (c := c) (C := C) (W := W) (R := R) h (by omega)
      refine ⟨V1, sb_TA p2, fun d Q => ?_⟩
      rw [w222_33]
      simp only [↓w222_0, ↓w222_1, ↓w222_2, ↓w222_5, ↓w222_6, ↓w222_7, ↓w222_10, ↓w222_13, ↓w222_14, ↓w222_15, ↓w222_18, ↓w222_19, ↓w222_20, ↓w222_23, ↓w222_24, ↓w222_27, ↓w222_30, ↓w222_30i, ↓w222_31, ↓w222_32, ↓w222_34, ↓w222_36, ↓w222_39, ↓w222_40, ↓w222_43, ↓w222_46, ↓w222_47, ↓w222_48, ↓w222_51, ↓w222_52, ↓w222_53, ↓w222_54, ↓w222_57, ↓w222_60, ↓w222_60i, ↓w222_61, ↓w222_64, ↓w222_67, ↓w222_68, ↓m0_g0, ↓m0_g1, ↓m0_g2, ↓m0_g3, ↓m0_g4, ↓m0_g5, ↓m0_g6, ↓m0_g7, ↓m0_g8, ↓m0_g9, ↓m0_g10, ↓m0_g11, ↓m0_g12, ↓m0_g13, ↓m0_g14, ↓m0_g15, ↓m0_p0, ↓m0_p2, ↓m0_p3, ↓m0_p8, ↓m0_p9, ↓m0_p12, m0_r, ↓s_g0 hg, ↓s_g1 hg, ↓s_g2 hg, ↓s_g3 hg, ↓s_g4 hg, ↓s_g5 hg, ↓s_g6 hg, ↓s_g7 hg, ↓s_g8 hg, ↓s_g9 hg, ↓s_g10 hg, ↓s_g11 hg, ↓s_g12 hg, ↓s_g13 hg, ↓s_g14 hg, ↓s_g15 hg, ↓s_g16 hg, ↓s_g17 hg, ↓s_g18 hg, ↓s_g19 hg, ↓s_g20 hg, ↓s_p0 hg, ↓s_p1 hg, ↓s_p3 hg, s_r hg, ↓s_lit_a hg hi, h9, e, p3, icond_lt, icond_le, icond_gt, icond_ge, icond_eq, icond_ne, narrow_bool, true_or, or_true, if_true, if_false, cK_inl, toL_some, toL_none, psum_nil, psum_int, psum_ref, psum_null, psum_long, Nat.zero_le, Nat.reduceAdd, Nat.reduceLeDiff, kl_int, kl_ref, kl_none, kl_null, kl_long, ulS]
      rw [w222_33]
      simp only [↓w222_0, ↓w222_1, ↓w222_2, ↓w222_5, ↓w222_6, ↓w222_7, ↓w222_10, ↓w222_13, ↓w222_14, ↓w222_15, ↓w222_18, ↓w222_19, ↓w222_20, ↓w222_23, ↓w222_24, ↓w222_27, ↓w222_30, ↓w222_30i, ↓w222_31, ↓w222_32, ↓w222_34, ↓w222_36, ↓w222_39, ↓w222_40, ↓w222_43, ↓w222_46, ↓w222_47, ↓w222_48, ↓w222_51, ↓w222_52, ↓w222_53, ↓w222_54, ↓w222_57, ↓w222_60, ↓w222_60i, ↓w222_61, ↓w222_64, ↓w222_67, ↓w222_68, e81, icond_lt, icond_le, icond_gt, icond_ge, icond_eq, icond_ne, narrow_bool, true_or, or_true, if_true, if_false, cK_inl, toL_some, toL_none, psum_nil, psum_int, psum_ref, psum_null, psum_long, Nat.zero_le, Nat.reduceAdd, Nat.reduceLeDiff, kl_int, kl_ref, kl_none, kl_null, kl_long]
    · refine ⟨V, sbt_refl, fun d Q => ?_⟩
      rw [w222_33]
      simp only [↓w222_0, ↓w222_1, ↓w222_2, ↓w222_5, ↓w222_6, ↓w222_7, ↓w222_10, ↓w222_13, ↓w222_14, ↓w222_15, ↓w222_18, ↓w222_19, ↓w222_20, ↓w222_23, ↓w222_24, ↓w222_27, ↓w222_30, ↓w222_30i, ↓w222_31, ↓w222_32, ↓w222_34, ↓w222_36, ↓w222_39, ↓w222_40, ↓w222_43, ↓w222_46, ↓w222_47, ↓w222_48, ↓w222_51, ↓w222_52, ↓w222_53, ↓w222_54, ↓w222_57, ↓w222_60, ↓w222_60i, ↓w222_61, ↓w222_64, ↓w222_67, ↓w222_68, ↓m0_g0, ↓m0_g1, ↓m0_g2, ↓m0_g3, ↓m0_g4, ↓m0_g5, ↓m0_g6, ↓m0_g7, ↓m0_g8, ↓m0_g9, ↓m0_g10, ↓m0_g11, ↓m0_g12, ↓m0_g13, ↓m0_g14, ↓m0_g15, ↓m0_p0, ↓m0_p2, ↓m0_p3, ↓m0_p8, ↓m0_p9, ↓m0_p12, m0_r, ↓s_g0 hg, ↓s_g1 hg, ↓s_g2 hg, ↓s_g3 hg, ↓s_g4 hg, ↓s_g5 hg, ↓s_g6 hg, ↓s_g7 hg, ↓s_g8 hg, ↓s_g9 hg, ↓s_g10 hg, ↓s_g11 hg, ↓s_g12 hg, ↓s_g13 hg, ↓s_g14 hg, ↓s_g15 hg, ↓s_g16 hg, ↓s_g17 hg, ↓s_g18 hg, ↓s_g19 hg, ↓s_g20 hg, ↓s_p0 hg, ↓s_p1 hg, ↓s_p3 hg, s_r hg, ↓s_lit_a hg hi, h9, e, icond_lt, icond_le, icond_gt, icond_ge, icond_eq, icond_ne, narrow_bool, true_or, or_true, if_true, if_false, cK_inl, toL_some, toL_none, psum_nil, psum_int, psum_ref, psum_null, psum_long, Nat.zero_le, Nat.reduceAdd, Nat.reduceLeDiff, kl_int, kl_ref, kl_none, kl_null, kl_long]
  | succ k ih =>
    intro n S V β hn h hβ
    have a9 := h.1.1.2.1 9 i (by omega) (by omega) hiM
    have e : ¬ (80 : Int32) < Int32.ofNat n := fun q => absurd ((ofN_lt (k := 80) (by omega) (by omega)).mp q) (by omega)
    rw [a9]
    by_cases h9 : V 1 9 i = 0
    · obtain ⟨V1, p1, p2, p3⟩ := r142 (c := c) (C := C) (W := W) (R := R) h (by omega)
      have hc1 := ctx_mk h p1 (sbt_qt sbt_refl) p2 (by omega)
      obtain ⟨V', q1, q2⟩ := ih (n + 1) _ V1 (β + 90) (by omega) hc1 (by omega)
      refine ⟨V', sbt_trans (sb_TA p2) q1, fun d Q => ?_⟩
      rw [w222_33]
      simp only [↓w222_0, ↓w222_1, ↓w222_2, ↓w222_5, ↓w222_6, ↓w222_7, ↓w222_10, ↓w222_13, ↓w222_14, ↓w222_15, ↓w222_18, ↓w222_19, ↓w222_20, ↓w222_23, ↓w222_24, ↓w222_27, ↓w222_30, ↓w222_30i, ↓w222_31, ↓w222_32, ↓w222_34, ↓w222_36, ↓w222_39, ↓w222_40, ↓w222_43, ↓w222_46, ↓w222_47, ↓w222_48, ↓w222_51, ↓w222_52, ↓w222_53, ↓w222_54, ↓w222_57, ↓w222_60, ↓w222_60i, ↓w222_61, ↓w222_64, ↓w222_67, ↓w222_68, ↓m0_g0, ↓m0_g1, ↓m0_g2, ↓m0_g3, ↓m0_g4, ↓m0_g5, ↓m0_g6, ↓m0_g7, ↓m0_g8, ↓m0_g9, ↓m0_g10, ↓m0_g11, ↓m0_g12, ↓m0_g13, ↓m0_g14, ↓m0_g15, ↓m0_p0, ↓m0_p2, ↓m0_p3, ↓m0_p8, ↓m0_p9, ↓m0_p12, m0_r, ↓s_g0 hg, ↓s_g1 hg, ↓s_g2 hg, ↓s_g3 hg, ↓s_g4 hg, ↓s_g5 hg, ↓s_g6 hg, ↓s_g7 hg, ↓s_g8 hg, ↓s_g9 hg, ↓s_g10 hg, ↓s_g11 hg, ↓s_g12 hg, ↓s_g13 hg, ↓s_g14 hg, ↓s_g15 hg, ↓s_g16 hg, ↓s_g17 hg, ↓s_g18 hg, ↓s_g19 hg, ↓s_g20 hg, ↓s_p0 hg, ↓s_p1 hg, ↓s_p3 hg, s_r hg, ↓s_lit_a hg hi, h9, e, p3, ofN_a1, icond_lt, icond_le, icond_gt, icond_ge, icond_eq, icond_ne, narrow_bool, true_or, or_true, if_true, if_false, cK_inl, toL_some, toL_none, psum_nil, psum_int, psum_ref, psum_null, psum_long, Nat.zero_le, Nat.reduceAdd, Nat.reduceLeDiff, kl_int, kl_ref, kl_none, kl_null, kl_long]
      rw [q2]
      rw [show ulS b i (k + 1) (n + 1) S = if (psS 1 b 1 0 S).2 1 9 i = 0 then ulS b i k (n + 1 + 1) (psS 1 b 1 0 S).2 else (Int32.ofNat (n + 1), (psS 1 b 1 0 S).2) from rfl, ps_one]
      by_cases h10 : (qtS 1 b S).2 1 9 i = 0
      · simp only [if_pos h10]
      · simp only [if_neg h10]
    · refine ⟨V, sbt_refl, fun d Q => ?_⟩
      rw [w222_33]
      simp only [↓w222_0, ↓w222_1, ↓w222_2, ↓w222_5, ↓w222_6, ↓w222_7, ↓w222_10, ↓w222_13, ↓w222_14, ↓w222_15, ↓w222_18, ↓w222_19, ↓w222_20, ↓w222_23, ↓w222_24, ↓w222_27, ↓w222_30, ↓w222_30i, ↓w222_31, ↓w222_32, ↓w222_34, ↓w222_36, ↓w222_39, ↓w222_40, ↓w222_43, ↓w222_46, ↓w222_47, ↓w222_48, ↓w222_51, ↓w222_52, ↓w222_53, ↓w222_54, ↓w222_57, ↓w222_60, ↓w222_60i, ↓w222_61, ↓w222_64, ↓w222_67, ↓w222_68, ↓m0_g0, ↓m0_g1, ↓m0_g2, ↓m0_g3, ↓m0_g4, ↓m0_g5, ↓m0_g6, ↓m0_g7, ↓m0_g8, ↓m0_g9, ↓m0_g10, ↓m0_g11, ↓m0_g12, ↓m0_g13, ↓m0_g14, ↓m0_g15, ↓m0_p0, ↓m0_p2, ↓m0_p3, ↓m0_p8, ↓m0_p9, ↓m0_p12, m0_r, ↓s_g0 hg, ↓s_g1 hg, ↓s_g2 hg, ↓s_g3 hg, ↓s_g4 hg, ↓s_g5 hg, ↓s_g6 hg, ↓s_g7 hg, ↓s_g8 hg, ↓s_g9 hg, ↓s_g10 hg, ↓s_g11 hg, ↓s_g12 hg, ↓s_g13 hg, ↓s_g14 hg, ↓s_g15 hg, ↓s_g16 hg, ↓s_g17 hg, ↓s_g18 hg, ↓s_g19 hg, ↓s_g20 hg, ↓s_p0 hg, ↓s_p1 hg, ↓s_p3 hg, s_r hg, ↓s_lit_a hg hi, h9, e, icond_lt, icond_le, icond_gt, icond_ge, icond_eq, icond_ne, narrow_bool, true_or, or_true, if_true, if_false, cK_inl, toL_some, toL_none, psum_nil, psum_int, psum_ref, psum_null, psum_long, Nat.zero_le, Nat.reduceAdd, Nat.reduceLeDiff, kl_int, kl_ref, kl_none, kl_null, kl_long]
theorem r222_a (h : ctx 0 b pl M A NR N β rk nt P S V) (hm : lmM M x = none) (d : Nat) (Q : PO → Prop) : Cp (d + 4) 222 [.ref 395, .int x] (RP c C V W pl P R) Q = Q (.inl (some (.int 0)), RP c C (su V 4 200 0 1) W pl P R) := by
  have hP := h.2.2.1
  have hp := h.2.2.2.2.2.1
  have hM := h.2.1.1.2.1
  have hM10 := h.2.1.1.2.2
  simp +decide only [ce222, ↓w222_0, ↓w222_1, ↓w222_2, ↓w222_5, ↓w222_6, ↓w222_7, ↓w222_10, ↓w222_13, ↓w222_14, ↓w222_15, ↓w222_18, ↓w222_19, ↓w222_20, ↓w222_23, ↓w222_24, ↓w222_27, ↓w222_30, ↓w222_30i, ↓w222_31, ↓w222_32, ↓w222_34, ↓w222_36, ↓w222_39, ↓w222_40, ↓w222_43, ↓w222_46, ↓w222_47, ↓w222_48, ↓w222_51, ↓w222_52, ↓w222_53, ↓w222_54, ↓w222_57, ↓w222_60, ↓w222_60i, ↓w222_61, ↓w222_64, ↓w222_67, ↓w222_68, r149 hp (hPs hP) hM hM10, hm, r146, Option.isSome, ↓m0_g0, ↓m0_g1, ↓m0_g2, ↓m0_g3, ↓m0_g4, ↓m0_g5, ↓m0_g6, ↓m0_g7, ↓m0_g8, ↓m0_g9, ↓m0_g10, ↓m0_g11, ↓m0_g12, ↓m0_g13, ↓m0_g14, ↓m0_g15, ↓m0_p0, ↓m0_p2, ↓m0_p3, ↓m0_p8, ↓m0_p9, ↓m0_p12, m0_r, icond_lt, icond_le, icond_gt, icond_ge, icond_eq, icond_ne, narrow_bool, true_or, or_true, if_true, if_false, cK_inl, toL_some, toL_none, psum_nil, psum_int, psum_ref, psum_null, psum_long, Nat.zero_le, Nat.reduceAdd, Nat.reduceLeDiff, kl_int, kl_ref, kl_none, kl_null, kl_long, su_at, sr_at, Nat.reduceEqDiff, Nat.add_eq_left, Nat.add_right_cancel_iff, and_false, false_and, and_true, true_and, and_self, if_true, if_false, ↓reduceIte, su_su, ne_eq, not_true]
theorem r222_c (h : ctx 0 b pl M A NR N β rk nt P S V) (hb2 : b < 2) {b0 : Nat} (hk1 : okG 1 b0 S) (hc : S 0 3 0 = 0 ∨ S 0 3 0 = 1) {i : Nat} (hm : lmM M x = some i) (hβ : β + 90 * 81 < 2 ^ 30) :
    ∃ V', sameBut (pA 1) (su V 4 200 0 0) V' ∧ ∀ (d : Nat) (Q : PO → Prop), Cp (d + 15) 222 [.ref 395, .int x] (RP c C V W pl P R) Q = Q (.inl (some (.int (if S 0 9 i = 0 then (ulS b i 80 1 (tcS 1 b 0 S)).1 else 0))), RP c C V' W pl P R) := by
  have hg : 0 < 2 := by decide
  have hg1 : 1 < 2 := by decide
  have hP := h.2.2.1
  have hp := h.2.2.2.2.2.1
  have hM := h.2.1.1.2.1
  have hM10 := h.2.1.1.2.2
  obtain ⟨hiM, rfl⟩ := lmM_some (by omega) hm
  obtain ⟨V1, p1, p2, p4, -, p3⟩ := ahead (c := c) (C := C) (W := W) (R := R) (ctx_thr (x := 0) hg h) hb2 hk1 hc
  obtain ⟨V', q1, q2⟩ := r222_loop (c := c) (C := C) (W := W) (R := R) (show i < 10 by omega) hiM 80 0 _ V1 β rfl p1 hβ
  have e9 : tcS 1 b 0 S 1 9 i = S 0 9 i := by
    rw [p1.1.1.2.1 9 i (by omega) (by omega) hiM, p4 i hiM, su_ne (by decide), h.1.1.2.1 9 i (by omega) (by omega) hiM]
  rw [e9] at q2
  refine ⟨V', sbt_trans p2 q1, fun d Q => ?_⟩
  have q3 : Wp (d + 14) 222 33 [some (.ref 395), some (.int (Int32.ofNat i)), some (.int 0)] [] (RP c C V1 W pl P R) Q = Q (.inl (some (.int (if S 0 9 i = 0 then (ulS b i 80 1 (tcS 1 b 0 S)).1 else 0))), RP c C V' W pl P R) := q2 d Q
  simp +decide only [ce222, ↓w222_0, ↓w222_1, ↓w222_2, ↓w222_5, ↓w222_6, ↓w222_7, ↓w222_10, ↓w222_13, ↓w222_14, ↓w222_15, ↓w222_18, ↓w222_19, ↓w222_20, ↓w222_23, ↓w222_24, ↓w222_27, ↓w222_30, ↓w222_30i, ↓w222_31, ↓w222_32, ↓w222_34, ↓w222_36, ↓w222_39, ↓w222_40, ↓w222_43, ↓w222_46, ↓w222_47, ↓w222_48, ↓w222_51, ↓w222_52, ↓w222_53, ↓w222_54, ↓w222_57, ↓w222_60, ↓w222_60i, ↓w222_61, ↓w222_64, ↓w222_67, ↓w222_68, r149 hp (hPs hP) hM hM10, hm, p3, s_r hg1, Option.isSome, ↓m0_g0, ↓m0_g1, ↓m0_g2, ↓m0_g3, ↓m0_g4, ↓m0_g5, ↓m0_g6, ↓m0_g7, ↓m0_g8, ↓m0_g9, ↓m0_g10, ↓m0_g11, ↓m0_g12, ↓m0_g13, ↓m0_g14, ↓m0_g15, ↓m0_p0, ↓m0_p2, ↓m0_p3, ↓m0_p8, ↓m0_p9, ↓m0_p12, m0_r, icond_lt, icond_le, icond_gt, icond_ge, icond_eq, icond_ne, narrow_bool, true_or, or_true, if_true, if_false, cK_inl, toL_some, toL_none, psum_nil, psum_int, psum_ref, psum_null, psum_long, Nat.zero_le, Nat.reduceAdd, Nat.reduceLeDiff, kl_int, kl_ref, kl_none, kl_null, kl_long, su_at, sr_at, Nat.reduceEqDiff, Nat.add_eq_left, Nat.add_right_cancel_iff, and_false, false_and, and_true, true_and, and_self, if_true, if_false, ↓reduceIte, ne_eq, not_true, not_false_eq_true]
  exact q3
/-- among thirty nights one is bright -/
theorem moon30 {m : Nat} (hm : m + 30 < 2 ^ 31) : ∃ n, n < 30 ∧ 11 ≤ moonI (Int32.ofNat (m + n)) := by
  refine ⟨(30 + 11 - m % 30) % 30, Nat.mod_lt _ (by omega), ?_⟩
  have e30 : ∀ k, k < 2 ^ 31 → Int32.ofNat k - Int32.ofNat k / 30 * 30 = Int32.ofNat (k % 30) := fun k hk => by
    have h1 : Int32.ofNat k / 30 = Int32.ofNat (k / 30) := by
      apply Int32.toInt_inj.mp
      rw [Int32.toInt_div, Int32.toInt_ofNat_of_lt hk, Int32.toInt_ofNat_of_lt (by omega)]
      have h20 : (30 : Int32).toInt = 30 := by decide
      rw [h20, Int.tdiv_eq_ediv_of_nonneg (by omega)]
      exact Int.bmod_eq_of_le (by omega) (by omega)
    have h2 : k = k / 30 * 30 + k % 30 := by omega
    rw [h1]
    have h3 : Int32.ofNat (k / 30) * 30 = Int32.ofNat (k / 30 * 30) := by rw [Int32.ofNat_mul]; rfl
    rw [h3]
    conv => lhs; lhs; rw [h2]
    rw [Int32.ofNat_add, Int32.add_comm]
    exact Int32.add_sub_cancel _ _
  unfold moonI
  rw [e30 _ (by have := Nat.mod_lt (30 + 11 - m % 30) (show 0 < 30 by omega); omega)]
  have e11 : (m + (30 + 11 - m % 30) % 30) % 30 = 11 := by omega
  rw [e11]
  decide
theorem r224_loop {m : Nat} (hm : m + 30 < 2 ^ 31) (hp : Pok pl) : ∀ (k n : Nat) (V : S3), n + k = 30 → V 0 0 0 = Int32.ofNat m → V 1 0 0 = Int32.ofNat (m + n) → (∃ j, n ≤ j ∧ j < 30 ∧ 11 ≤ moonI (Int32.ofNat (m + j))) →
    ∃ V', sameBut (pA 1) V V' ∧ ∀ (S : S3), S 0 0 0 = Int32.ofNat m → ∀ (d : Nat) (Q : PO → Prop), Wp (d + 2) 224 17 [some (.ref 395)] [] (RP c C V W pl P R) Q = Q (.inl (some (.int (nuS S k n))), RP c C V' W pl P R) := by
  have hg : 1 < 2 := by decide
  have hg0 : 0 < 2 := by decide
  intro k
  induction k with
  | zero =>
    intro n V hn _ _ hj
    obtain ⟨j, h1, h2, -⟩ := hj
    omega
  | succ k ih =>
    intro n V hn h0 h1 hj
    by_cases hb : 11 ≤ moonI (Int32.ofNat (m + n))
    · refine ⟨V, sbt_refl, fun S hS d Q => ?_⟩
      have e : Int32.ofNat (m + n) - Int32.ofNat m = Int32.ofNat n := by
        rw [Int32.ofNat_add, Int32.add_comm]
        exact Int32.add_sub_cancel _ _
      rw [nuS, hS, ofN_add, if_pos hb]
      simp only [↓w224_0, ↓w224_1, ↓w224_2, ↓w224_5, ↓w224_6, ↓w224_9, ↓w224_10, ↓w224_13, ↓w224_16, ↓w224_16i, ↓w224_17, ↓w224_18, ↓w224_21, ↓w224_24, ↓w224_26, ↓w224_29, ↓w224_30, ↓w224_33, ↓w224_33i, ↓w224_34, ↓w224_37, ↓w224_38, ↓w224_39, ↓w224_42, ↓w224_45, ↓w224_46, ↓w224_49, ↓w224_52, ↓w224_53, ↓w224_56, ↓w224_59, ↓w224_60, ↓m0_g0, ↓m0_g1, ↓m0_g2, ↓m0_g3, ↓m0_g4, ↓m0_g5, ↓m0_g6, ↓m0_g7, ↓m0_g8, ↓m0_g9, ↓m0_g10, ↓m0_g11, ↓m0_g12, ↓m0_g13, ↓m0_g14, ↓m0_g15, ↓m0_p0, ↓m0_p2, ↓m0_p3, ↓m0_p8, ↓m0_p9, ↓m0_p12, m0_r, s_r hg, r127 hg, ↓s_g0 hg, ↓s_g0 hg0, h1, h0, hb, e, icond_lt, icond_le, icond_gt, icond_ge, icond_eq, icond_ne, narrow_bool, true_or, or_true, if_true, if_false, cK_inl, toL_some, toL_none, psum_nil, psum_int, psum_ref, psum_null, psum_long, Nat.zero_le, Nat.reduceAdd, Nat.reduceLeDiff, kl_int, kl_ref, kl_none, kl_null, kl_long]
    · obtain ⟨V', q1, q2⟩ := ih (n + 1) (su V 1 0 0 (Int32.ofNat (m + n + 1))) (by omega) (by rw [su_gne (by decide)]; exact h0) su_self (by
        obtain ⟨j, h3, h4, h5⟩ := hj
        by_cases e : j = n
        · subst e; exact absurd h5 hb
        · exact ⟨j, by omega, h4, h5⟩)
      refine ⟨V', sbt_trans (sbt_su sbt_refl rfl) q1, fun S hS d Q => ?_⟩
      rw [nuS, hS, ofN_add, if_neg hb, ← q2 S hS d Q, w224_17]
      simp only [↓w224_0, ↓w224_1, ↓w224_2, ↓w224_5, ↓w224_6, ↓w224_9, ↓w224_10, ↓w224_13, ↓w224_16, ↓w224_16i, ↓w224_18, ↓w224_21, ↓w224_24, ↓w224_26, ↓w224_29, ↓w224_30, ↓w224_33, ↓w224_33i, ↓w224_34, ↓w224_37, ↓w224_38, ↓w224_39, ↓w224_42, ↓w224_45, ↓w224_46, ↓w224_49, ↓w224_52, ↓w224_53, ↓w224_56, ↓w224_59, ↓w224_60, ↓m0_g0, ↓m0_g1, ↓m0_g2, ↓m0_g3, ↓m0_g4, ↓m0_g5, ↓m0_g6, ↓m0_g7, ↓m0_g8, ↓m0_g9, ↓m0_g10, ↓m0_g11, ↓m0_g12, ↓m0_g13, ↓m0_g14, ↓m0_g15, ↓m0_p0, ↓m0_p2, ↓m0_p3, ↓m0_p8, ↓m0_p9, ↓m0_p12, m0_r, s_r hg, r127 hg, ↓s_g0 hg, ↓s_p0 hg, h1, hb, ofN_a1, icond_lt, icond_le, icond_gt, icond_ge, icond_eq, icond_ne, narrow_bool, true_or, or_true, if_true, if_false, cK_inl, toL_some, toL_none, psum_nil, psum_int, psum_ref, psum_null, psum_long, Nat.zero_le, Nat.reduceAdd, Nat.reduceLeDiff, kl_int, kl_ref, kl_none, kl_null, kl_long]
theorem r224 (h : ctx 0 b pl M A NR N β rk nt P S V) (hb2 : b < 2) {b0 m : Nat} (hk1 : okG 1 b0 S) (hc : S 0 3 0 = 0 ∨ S 0 3 0 = 1) (hm : S 0 0 0 = Int32.ofNat m) (hm2 : m + 30 < 2 ^ 31) :
    ∃ V', sameBut (pA 1) (su V 4 200 0 0) V' ∧ ∀ (d : Nat) (Q : PO → Prop), Cp (d + 4) 224 [.ref 395] (RP c C V W pl P R) Q = Q (.inl (some (.int (nuS S 30 0))), RP c C V' W pl P R) := by
  have hg : 0 < 2 := by decide
  have hg1 : 1 < 2 := by decide
  obtain ⟨V1, p1, p2, -, p4, p3⟩ := ahead (c := c) (C := C) (W := W) (R := R) (ctx_thr (x := 0) hg h) hb2 hk1 hc
  have v0 : su V 4 200 0 0 0 0 0 = Int32.ofNat m := by rw [su_ne (by decide), ← h.1.1.1 0 (by omega)]; exact hm
  obtain ⟨n, n1, n2⟩ := moon30 hm2
  obtain ⟨V', q1, q2⟩ := r224_loop (c := c) (C := C) (W := W) (R := R) (P := P) hm2 h.2.2.2.2.2.1 30 0 V1 rfl (by rw [p2 0 0 (fun q => absurd (show (0 : Nat) = 1 from q) (by decide))]; exact v0) (by rw [p4]; exact v0) ⟨n, by omega, n1, n2⟩
  refine ⟨V', sbt_trans p2 q1, fun d Q => ?_⟩
  simp only [ce224, ↓w224_0, ↓w224_1, ↓w224_2, ↓w224_5, ↓w224_6, ↓w224_9, ↓w224_10, ↓w224_13, ↓w224_16, ↓w224_16i, ↓w224_18, ↓w224_21, ↓w224_24, ↓w224_26, ↓w224_29, ↓w224_30, ↓w224_33, ↓w224_33i, ↓w224_34, ↓w224_37, ↓w224_38, ↓w224_39, ↓w224_42, ↓w224_45, ↓w224_46, ↓w224_49, ↓w224_52, ↓w224_53, ↓w224_56, ↓w224_59, ↓w224_60, p3, s_r hg1, ↓m0_g0, ↓m0_g1, ↓m0_g2, ↓m0_g3, ↓m0_g4, ↓m0_g5, ↓m0_g6, ↓m0_g7, ↓m0_g8, ↓m0_g9, ↓m0_g10, ↓m0_g11, ↓m0_g12, ↓m0_g13, ↓m0_g14, ↓m0_g15, ↓m0_p0, ↓m0_p2, ↓m0_p3, ↓m0_p8, ↓m0_p9, ↓m0_p12, m0_r, icond_lt, icond_le, icond_gt, icond_ge, icond_eq, icond_ne, narrow_bool, true_or, or_true, if_true, if_false, cK_inl, toL_some, toL_none, psum_nil, psum_int, psum_ref, psum_null, psum_long, Nat.zero_le, Nat.reduceAdd, Nat.reduceLeDiff, kl_int, kl_ref, kl_none, kl_null, kl_long, su_at, sr_at, Nat.reduceEqDiff, Nat.add_eq_left, Nat.add_right_cancel_iff, and_false, false_and, and_true, true_and, and_self, if_true, if_false, ↓reduceIte]
  exact q2 S hm (d + 1) Q
theorem townR_A {S' V' : S3} (h : townR 0 b M A NR N β rk nt P S V) (hs : sameBut (pA 1) S S') (hv : sameBut (pA 1) V V') : townR 0 b M A NR N β rk nt P S' V' := by
  have e0 : S' 0 = S 0 := funext fun v => hs 0 v (fun q => absurd (show (0 : Nat) = 1 from q) (by decide))
  have e1 : V' 0 = V 0 := funext fun v => hv 0 v (fun q => absurd (show (0 : Nat) = 1 from q) (by decide))
  have e2 : V' 4 = V 4 := funext fun v => hv 4 v (fun q => absurd (show (4 : Nat) = 1 from q) (by decide))
  unfold townR agS okG postR plR roR beR noR frR frm ntR at h ⊢
  simp only [e0, e1, e2]
  exact h
theorem ctx_A {S' V' : S3} (h : ctx 0 b pl M A NR N β rk nt P S V) (hs : sameBut (pA 1) S S') (hv : sameBut (pA 1) V V') : ctx 0 b pl M A NR N β rk nt P S' V' := by
  refine ⟨townR_A h.1 hs hv, bookR_eq h.2.1 (fun v _ => hs (2 + b) v (fun q => by have : 2 + b = 1 := q; omega)), ?_, h.2.2.2⟩
  rw [hv 4 206 (fun q => absurd (show (4 : Nat) = 1 from q) (by decide))]
  exact h.2.2.1
/-- a round tried -/
theorem bt_sim (h : ctx 0 b pl M A NR N β rk nt P S V) (hb2 : b < 2) {b1 : Nat} (hk1 : okG 1 b1 S) (hc : S 0 3 0 = 0 ∨ S 0 3 0 = 1) {l r : Nat} (hlN : l < N) (hr : r < NR) (hq : ¬ x < 0) (hβ : β + 90 * x.toNatClampNeg < 2 ^ 30) :
    ∃ V1 V2 V', sameBut (pA 1) V V' ∧ (∀ (d : Nat) (Q : PO → Prop), Cp (d + 2) 122 [.ref (SA 1), .ref (SA 0)] (RP c C V W pl P R) Q = Q (.inl (some (.ref (SA 1))), RP c C V1 W pl P R)) ∧ V1 4 = V 4 ∧
      (∀ (d : Nat) (Q : PO → Prop), Cp (d + 2) 131 [.ref (SA 1), .int (Int32.ofNat l)] (RP c C (su V1 1 14 l (Int32.ofNat r)) W pl P R) Q = Q (.inl none, RP c C V2 W pl P R)) ∧
      ∀ (d : Nat) (Q : PO → Prop), Cp (d + 14) 143 [.ref (SA 1), .int x] (RP c C V2 W pl P R) Q = Q (.inl (some (.int (bt1 b l x (Int32.ofNat r) S).1)), RP c C V' W pl P R) := by
  have hg1 : 1 < 2 := by decide
  obtain ⟨V1, p1, p2, -, -, p3⟩ := ahead (c := c) (C := C) (W := W) (R := R) h hb2 hk1 hc
  have hl : l < 3 := by have := townR_N h.1; omega
  obtain ⟨ht, hb, hP1, hrk, -, hp, hβ0⟩ := p1
  have hA := hb.2.2.1.2.2
  have hR6 := hb.2.1.2.2
  obtain ⟨e0, u1, u2, u3, u4⟩ := hb.2.2.2.2.1 r hr
  have t1 := townR_give (l := l) (townR_round (i := l) (x := Int32.ofNat r) ht (Or.inr ⟨r, hr, rfl⟩)) hlN
  have o18 : giveS 1 l (su (tcS 1 b 0 S) 1 14 l (Int32.ofNat r)) 1 18 l = Int32.ofNat 0 := by simp only [giveS, su_at, sr_at, Nat.reduceEqDiff, Nat.add_eq_left, Nat.add_right_cancel_iff, and_false, false_and, and_true, true_and, and_self, if_true, if_false, ↓reduceIte]; rfl
  have t2 := townR_ent (y := 1) (t := 0) (o := 0) (ρ := 36) t1 hlN hrk hA u1 o18 (by omega) u4 (by omega) rfl (by decide)
  have eb : brS 1 l b (Int32.ofNat r) (tcS 1 b 0 S) = entS 1 l (P 0 105 e0) 1 (giveS 1 l (su (tcS 1 b 0 S) 1 14 l (Int32.ofNat r))) := by
    unfold brS
    rw [gt_nat (by omega) (by omega), u3]
  rw [← eb] at t2
  have sv2 : sameBut (pT 1) V1 (enV P 1 l e0 0 1 (giveS 1 l (su V1 1 14 l (Int32.ofNat r)))) := sbt_enV (sbt_give (sbt_su sbt_refl (pT_v (by decide))))
  have hc2 : ctx 1 b pl M A NR N β rk False P (brS 1 l b (Int32.ofNat r) (tcS 1 b 0 S)) (enV P 1 l e0 0 1 (giveS 1 l (su V1 1 14 l (Int32.ofNat r)))) := ctx_mk ⟨ht, hb, hP1, hrk, hg1, hp, hβ0⟩ t2 (sbt_br sbt_refl hl) sv2 hβ0
  obtain ⟨V', q1, q2, q3⟩ := r143 (c := c) (C := C) (W := W) (R := R) (n := x.toNatClampNeg) hc2 hβ
  rw [← nnI hq] at q3
  have v14 : su V1 1 14 l (Int32.ofNat r) 1 14 l = Int32.ofNat r := su_self
  have nr := ofN_ne (a := r) (by omega)
  refine ⟨V1, _, V', sbt_trans p2 (sbt_trans (sb_TA sv2) (sb_TA q2)), p3, funext fun v => p2 4 v (fun q => absurd (show (4 : Nat) = 1 from q) (by decide)), fun d Q => ?_, q3⟩
  rw [r131 hg1 hl hp (by rw [su_ne (by decide)]; exact hP1) (r := r) (e := e0) (Or.inr ⟨v14, by omega, u2, u1⟩), v14, if_neg nr]
theorem r225_loop (hb2 : b < 2) {l : Nat} (hlN : l < N) (hq : ¬ x < 0) (hβ : β + 90 * x.toNatClampNeg < 2 ^ 30) : ∀ (k r : Nat) (best few least y6 : Int32) (S V : S3) (l6 : Option Value), r + k = NR → ctx 0 b pl M A NR N β rk nt P S V → okB b (Int32.ofNat NR) S → (l6 = none ∨ l6 = some (.int y6)) → (r = 0 ∧ best = -1 ∨ r ≠ 0 ∧ few = least ∧ ¬ best = -1) →
    ∃ V', sameBut (pA 1) V V' ∧ ∀ (d : Nat) (Q : PO → Prop), Wp (d + 15) 225 59 [some (.ref 395), some (.int (Int32.ofNat l)), some (.int x), some (.int best), some (.int least), some (.int (Int32.ofNat r)), l6] [] (RP c C V W pl P R) Q = Q (.inl (some (.int (btS b l x (Int32.ofNat NR) k r best few S).1)), RP c C V' W pl P R) := by
  have hg : 0 < 2 := by decide
  have hg1 : 1 < 2 := by decide
  intro k
  induction k with
  | zero =>
    intro r best few least y6 S V l6 hr h hB _ _
    have hP := h.2.2.1
    have hp := h.2.2.2.2.2.1
    have hR := h.2.1.2.1.2.1
    have hR6 := h.2.1.2.1.2.2
    have e : Int32.ofNat NR ≤ Int32.ofNat r := (ofN_le (by omega) (by omega)).mpr (by omega)
    refine ⟨V, sbt_refl, fun d Q => ?_⟩
    rw [w225_59]
    simp only [↓w225_61, ↓w225_62, ↓w225_65, ↓w225_68, ↓w225_140, ↓w225_141, ↓m0_g0, ↓m0_g1, ↓m0_g2, ↓m0_g3, ↓m0_g4, ↓m0_g5, ↓m0_g6, ↓m0_g7, ↓m0_g8, ↓m0_g9, ↓m0_g10, ↓m0_g11, ↓m0_g12, ↓m0_g13, ↓m0_g14, ↓m0_g15, ↓m0_p0, ↓m0_p2, ↓m0_p3, ↓m0_p8, ↓m0_p9, ↓m0_p12, m0_r, hP, ↓pl_g0 hp, ↓pl_g1 hp, ↓pl_g2 hp, ↓pl_g3 hp, ↓pl_g4 hp, ↓pl_g5 hp, ↓pl_g6 hp, ↓pl_g7 hp, ↓pl_g8 hp, ↓pl_g9 hp, ↓pl_g10 hp, ↓pl_g11 hp, ↓pl_g12 hp, ↓pl_g13 hp, ↓pl_g14 hp, ↓pl_g15 hp, ↓pl_g16 hp, ↓pl_g17 hp, ↓pl_g18 hp, ↓pl_g19 hp, ↓pl_g20 hp, ↓pl_g21 hp, pl_r hp, hR, e, btS, icond_lt, icond_le, icond_gt, icond_ge, icond_eq, icond_ne, narrow_bool, true_or, or_true, if_true, if_false, cK_inl, toL_some, toL_none, psum_nil, psum_int, psum_ref, psum_null, psum_long, Nat.zero_le, Nat.reduceAdd, Nat.reduceLeDiff, kl_int, kl_ref, kl_none, kl_null, kl_long]
  | succ k ih =>
    intro r best few least y6 S V l6 hr h hB h6 hbf
    have hP := h.2.2.1
    have hp := h.2.2.2.2.2.1
    have hR := h.2.1.2.1.2.1
    have hR6 := h.2.1.2.1.2.2
    have hl : l < 3 := by have := townR_N h.1; omega
    have e : ¬ Int32.ofNat NR ≤ Int32.ofNat r := fun q => absurd ((ofN_le (by omega) (by omega)).mp q) (by omega)
    obtain ⟨V1, V2, V3, q1, q2, q22, q3, q4⟩ := bt_sim (c := c) (C := C) (W := W) (R := R) h hb2 hB.2.1.choose_spec hB.2.2.1 hlN (show r < NR by omega) hq hβ
    have hB2 := okB_bt (x := x) (y := Int32.ofNat r) hb2 hl hB
    have hs2 := sb_bt (S := S) (b := b) (x := x) (y := Int32.ofNat r) hl
    have hc2 := ctx_A h hs2 q1
    have nr := ofN_ne (a := r) (by omega)
    rw [btS, if_neg e]
    generalize hbt : bt1 b l x (Int32.ofNat r) S = bt at q4 hB2 hc2 hs2
    obtain ⟨its, S2⟩ := bt
    dsimp only at q4 hB2 hc2 hs2 ⊢
    rcases hbf with ⟨r0, b0⟩ | ⟨r0, f0, b0⟩
    · have er : Int32.ofNat r = 0 := by rw [r0]; rfl
      obtain ⟨V', p1, p2⟩ := ih (r + 1) (Int32.ofNat r) its its its S2 V3 (some (.int its)) (by omega) hc2 hB2 (Or.inr rfl) (Or.inr ⟨by omega, rfl, nr⟩)
      rw [if_pos er]
      refine ⟨V', sbt_trans q1 p1, fun d Q => ?_⟩
      rw [← p2 d Q]
      rcases h6 with rfl | rfl
      all_goals
        rw [w225_59]
        simp only [↓w225_61, ↓w225_62, ↓w225_65, ↓w225_68, ↓w225_71, ↓w225_72, ↓w225_75, ↓w225_76, ↓w225_79, ↓w225_82, ↓w225_82i, ↓w225_83, ↓w225_84, ↓w225_87, ↓w225_90, ↓w225_91, ↓w225_93, ↓w225_94, ↓w225_95, ↓w225_98, ↓w225_99, ↓w225_102, ↓w225_103, ↓w225_106, ↓w225_107, ↓w225_110, ↓w225_112, ↓w225_113, ↓w225_114, ↓w225_117, ↓w225_119, ↓w225_121, ↓w225_124, ↓w225_127, ↓w225_129, ↓w225_130, ↓w225_132, ↓w225_134, ↓w225_137, ↓m0_g0, ↓m0_g1, ↓m0_g2, ↓m0_g3, ↓m0_g4, ↓m0_g5, ↓m0_g6, ↓m0_g7, ↓m0_g8, ↓m0_g9, ↓m0_g10, ↓m0_g11, ↓m0_g12, ↓m0_g13, ↓m0_g14, ↓m0_g15, ↓m0_p0, ↓m0_p2, ↓m0_p3, ↓m0_p8, ↓m0_p9, ↓m0_p12, m0_r, hP, ↓pl_g0 hp, ↓pl_g1 hp, ↓pl_g2 hp, ↓pl_g3 hp, ↓pl_g4 hp, ↓pl_g5 hp, ↓pl_g6 hp, ↓pl_g7 hp, ↓pl_g8 hp, ↓pl_g9 hp, ↓pl_g10 hp, ↓pl_g11 hp, ↓pl_g12 hp, ↓pl_g13 hp, ↓pl_g14 hp, ↓pl_g15 hp, ↓pl_g16 hp, ↓pl_g17 hp, ↓pl_g18 hp, ↓pl_g19 hp, ↓pl_g20 hp, ↓pl_g21 hp, pl_r hp, hR, e, q2, q3, q4, s_r hg1, ↓s_g11 hg1, ↓s_round_s hg1 hl, b0, ofN_a1, icond_lt, icond_le, icond_gt, icond_ge, icond_eq, icond_ne, narrow_bool, true_or, or_true, if_true, if_false, cK_inl, toL_some, toL_none, psum_nil, psum_int, psum_ref, psum_null, psum_long, Nat.zero_le, Nat.reduceAdd, Nat.reduceLeDiff, kl_int, kl_ref, kl_none, kl_null, kl_long]
    · have er : ¬ Int32.ofNat r = 0 := fun q => r0 (ofN_inj (b := 0) (by omega) (by omega) q)
      rw [if_neg er, f0]
      by_cases hf : least ≤ its
      · obtain ⟨V', p1, p2⟩ := ih (r + 1) best least least its S2 V3 (some (.int its)) (by omega) hc2 hB2 (Or.inr rfl) (Or.inr ⟨by omega, rfl, b0⟩)
        have hf' := Int32.not_lt.mpr hf
        rw [if_pos hf]
        refine ⟨V', sbt_trans q1 p1, fun d Q => ?_⟩
        rw [← p2 d Q]
        rcases h6 with rfl | rfl
        all_goals
          rw [w225_59]
          simp only [↓w225_61, ↓w225_62, ↓w225_65, ↓w225_68, ↓w225_71, ↓w225_72, ↓w225_75, ↓w225_76, ↓w225_79, ↓w225_82, ↓w225_82i, ↓w225_83, ↓w225_84, ↓w225_87, ↓w225_90, ↓w225_91, ↓w225_93, ↓w225_94, ↓w225_95, ↓w225_98, ↓w225_99, ↓w225_102, ↓w225_103, ↓w225_106, ↓w225_107, ↓w225_110, ↓w225_112, ↓w225_113, ↓w225_114, ↓w225_117, ↓w225_119, ↓w225_121, ↓w225_124, ↓w225_127, ↓w225_129, ↓w225_130, ↓w225_132, ↓w225_134, ↓w225_137, ↓m0_g0, ↓m0_g1, ↓m0_g2, ↓m0_g3, ↓m0_g4, ↓m0_g5, ↓m0_g6, ↓m0_g7, ↓m0_g8, ↓m0_g9, ↓m0_g10, ↓m0_g11, ↓m0_g12, ↓m0_g13, ↓m0_g14, ↓m0_g15, ↓m0_p0, ↓m0_p2, ↓m0_p3, ↓m0_p8, ↓m0_p9, ↓m0_p12, m0_r, hP, ↓pl_g0 hp, ↓pl_g1 hp, ↓pl_g2 hp, ↓pl_g3 hp, ↓pl_g4 hp, ↓pl_g5 hp, ↓pl_g6 hp, ↓pl_g7 hp, ↓pl_g8 hp, ↓pl_g9 hp, ↓pl_g10 hp, ↓pl_g11 hp, ↓pl_g12 hp, ↓pl_g13 hp, ↓pl_g14 hp, ↓pl_g15 hp, ↓pl_g16 hp, ↓pl_g17 hp, ↓pl_g18 hp, ↓pl_g19 hp, ↓pl_g20 hp, ↓pl_g21 hp, pl_r hp, hR, e, q2, q3, q4, s_r hg1, ↓s_g11 hg1, ↓s_round_s hg1 hl, b0, hf', ofN_a1, icond_lt, icond_le, icond_gt, icond_ge, icond_eq, icond_ne, narrow_bool, true_or, or_true, if_true, if_false, cK_inl, toL_some, toL_none, psum_nil, psum_int, psum_ref, psum_null, psum_long, Nat.zero_le, Nat.reduceAdd, Nat.reduceLeDiff, kl_int, kl_ref, kl_none, kl_null, kl_long]
      · obtain ⟨V', p1, p2⟩ := ih (r + 1) (Int32.ofNat r) its its its S2 V3 (some (.int its)) (by omega) hc2 hB2 (Or.inr rfl) (Or.inr ⟨by omega, rfl, nr⟩)
        have hf' := Int32.not_le.mp hf
        rw [if_neg hf]
        refine ⟨V', sbt_trans q1 p1, fun d Q => ?_⟩
        rw [← p2 d Q]
        rcases h6 with rfl | rfl
        all_goals
          rw [w225_59]
          simp only [↓w225_61, ↓w225_62, ↓w225_65, ↓w225_68, ↓w225_71, ↓w225_72, ↓w225_75, ↓w225_76, ↓w225_79, ↓w225_82, ↓w225_82i, ↓w225_83, ↓w225_84, ↓w225_87, ↓w225_90, ↓w225_91, ↓w225_93, ↓w225_94, ↓w225_95, ↓w225_98, ↓w225_99, ↓w225_102, ↓w225_103, ↓w225_106, ↓w225_107, ↓w225_110, ↓w225_112, ↓w225_113, ↓w225_114, ↓w225_117, ↓w225_119, ↓w225_121, ↓w225_124, ↓w225_127, ↓w225_129, ↓w225_130, ↓w225_132, ↓w225_134, ↓w225_137, ↓m0_g0, ↓m0_g1, ↓m0_g2, ↓m0_g3, ↓m0_g4, ↓m0_g5, ↓m0_g6, ↓m0_g7, ↓m0_g8, ↓m0_g9, ↓m0_g10, ↓m0_g11, ↓m0_g12, ↓m0_g13, ↓m0_g14, ↓m0_g15, ↓m0_p0, ↓m0_p2, ↓m0_p3, ↓m0_p8, ↓m0_p9, ↓m0_p12, m0_r, hP, ↓pl_g0 hp, ↓pl_g1 hp, ↓pl_g2 hp, ↓pl_g3 hp, ↓pl_g4 hp, ↓pl_g5 hp, ↓pl_g6 hp, ↓pl_g7 hp, ↓pl_g8 hp, ↓pl_g9 hp, ↓pl_g10 hp, ↓pl_g11 hp, ↓pl_g12 hp, ↓pl_g13 hp, ↓pl_g14 hp, ↓pl_g15 hp, ↓pl_g16 hp, ↓pl_g17 hp, ↓pl_g18 hp, ↓pl_g19 hp, ↓pl_g20 hp, ↓pl_g21 hp, pl_r hp, hR, e, q2, q3, q4, s_r hg1, ↓s_g11 hg1, ↓s_round_s hg1 hl, b0, hf', ofN_a1, icond_lt, icond_le, icond_gt, icond_ge, icond_eq, icond_ne, narrow_bool, true_or, or_true, if_true, if_false, cK_inl, toL_some, toL_none, psum_nil, psum_int, psum_ref, psum_null, psum_long, Nat.zero_le, Nat.reduceAdd, Nat.reduceLeDiff, kl_int, kl_ref, kl_none, kl_null, kl_long]
end PUBC
