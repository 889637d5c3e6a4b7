/-! THE REFERENCE'S OWN METHODS: rounds, time, what would be -/
section PUBB
variable {c : Nat × Nat × Nat} {C : Nat → Option PC} {S V P : S3} {W : L3} {R : Nat → Option PC} {g b pl M N A NR β : Nat} {x y : Int32} {rk : Nat → Nat} {nt : Prop}
theorem townR_v4 {V' : S3} (h : townR g b M A NR N β rk nt P S V) (h0 : V' g = V g) (h1 : V' 4 205 = V 4 205) (h2 : V' 4 215 = V 4 215) : townR g b M A NR N β rk nt P S V' := by
  unfold townR agS frR frm ntR at h ⊢
  simp only [h0, h1, h2]
  exact h
theorem ctx_thr (hg : g < 2) (h : ctx g b pl M A NR N β rk nt P S V) : ctx g b pl M A NR N β rk nt P S (su V 4 200 0 x) :=
  ⟨townR_v4 h.1 (su_gne (by omega)) (su_vne (by decide)) (su_vne (by decide)), h.2.1, by rw [su_ne (by decide)]; exact h.2.2.1, h.2.2.2⟩
theorem r186_a (h : ctx 0 b pl M A NR N β rk nt P S V) (hm : lmM N x = none) (d : Nat) (Q : PO → Prop) : Cp (d + 4) 186 [.ref 395, .int x, .int y] (RP c C V W pl P R) Q = Q (.inl (some (.int 0)), RP c C (su V 4 200 0 1) W pl P R) := by
  have hN3 := townR_N h.1
  have hN := h.1.2.2.2.2.2.2.2.2.1
  simp +decide only [ce186, ↓w186_0, ↓w186_1, ↓w186_2, ↓w186_5, ↓w186_6, ↓w186_7, ↓w186_10, ↓w186_13, ↓w186_14, ↓w186_15, ↓w186_16, ↓w186_19, ↓w186_22, ↓w186_23, ↓w186_24, ↓w186_27, ↓w186_30, ↓w186_31, ↓w186_32, ↓w186_35, ↓w186_36, ↓w186_37, ↓w186_40, ↓w186_43, ↓w186_44, ↓w186_45, ↓w186_46, ↓w186_47, ↓w186_50, ↓w186_53, ↓w186_54, ↓w186_55, ↓w186_56, ↓w186_57, ↓w186_60, ↓w186_61, ↓w186_64, ↓w186_65, r150 (hNs hN) hN3, hm, r146, Option.isSome, ↓m0_g0, ↓m0_g1, ↓m0_g2, ↓m0_g3, ↓m0_g4, ↓m0_g5, ↓m0_g6, ↓m0_g7, ↓m0_g8, ↓m0_g9, ↓m0_g10, ↓m0_g11, ↓m0_g12, ↓m0_g13, ↓m0_g14, ↓m0_g15, ↓m0_p0, ↓m0_p2, ↓m0_p3, ↓m0_p8, ↓m0_p9, ↓m0_p12, m0_r, icond_lt, icond_le, icond_gt, icond_ge, icond_eq, icond_ne, narrow_bool, true_or, or_true, if_true, if_false, cK_inl, toL_some, toL_none, psum_nil, psum_int, psum_ref, psum_null, psum_long, Nat.zero_le, Nat.reduceAdd, Nat.reduceLeDiff, kl_int, kl_ref, kl_none, kl_null, kl_long, su_at, sr_at, Nat.reduceEqDiff, Nat.add_eq_left, Nat.add_right_cancel_iff, and_false, false_and, and_true, true_and, and_self, if_true, if_false, ↓reduceIte, su_su]
theorem r186_b (h : ctx 0 b pl M A NR N β rk nt P S V) {l : Nat} (hm : lmM N x = some l) (hy : lmM NR y = none) (d : Nat) (Q : PO → Prop) : Cp (d + 4) 186 [.ref 395, .int x, .int y] (RP c C V W pl P R) Q = Q (.inl (some (.int 0)), RP c C (su V 4 200 0 1) W pl P R) := by
  have hN3 := townR_N h.1
  have hN := h.1.2.2.2.2.2.2.2.2.1
  have hP := h.2.2.1
  have hp := h.2.2.2.2.2.1
  have hR := h.2.1.2.1.2.1
  have hR6 := h.2.1.2.1.2.2
  have e := subM (x := y) (ofN_rng (show NR ≤ 100 by omega)).1 (ofN_rng (show NR ≤ 100 by omega)).2
  have hi : (if y < 0 then (0 : Int32) else if Int32.ofNat NR - 1 < y then 0 else 1) = 0 := by
    unfold lmM at hy
    by_cases h0 : y < 0
    · rw [if_pos h0]
    · rw [if_neg h0] at hy ⊢
      by_cases h1 : Int32.ofNat NR ≤ y
      · rw [if_pos (e.mpr h1)]
      · rw [if_neg h1] at hy; cases hy
  simp +decide only [ce186, ↓w186_0, ↓w186_1, ↓w186_2, ↓w186_5, ↓w186_6, ↓w186_7, ↓w186_10, ↓w186_13, ↓w186_14, ↓w186_15, ↓w186_16, ↓w186_19, ↓w186_22, ↓w186_23, ↓w186_24, ↓w186_27, ↓w186_30, ↓w186_31, ↓w186_32, ↓w186_35, ↓w186_36, ↓w186_37, ↓w186_40, ↓w186_43, ↓w186_44, ↓w186_45, ↓w186_46, ↓w186_47, ↓w186_50, ↓w186_53, ↓w186_54, ↓w186_55, ↓w186_56, ↓w186_57, ↓w186_60, ↓w186_61, ↓w186_64, ↓w186_65, r150 (hNs hN) hN3, hm, r148, r146, hi, Option.isSome, ↓m0_g0, ↓m0_g1, ↓m0_g2, ↓m0_g3, ↓m0_g4, ↓m0_g5, ↓m0_g6, ↓m0_g7, ↓m0_g8, ↓m0_g9, ↓m0_g10, ↓m0_g11, ↓m0_g12, ↓m0_g13, ↓m0_g14, ↓m0_g15, ↓m0_p0, ↓m0_p2, ↓m0_p3, ↓m0_p8, ↓m0_p9, ↓m0_p12, m0_r, hP, ↓pl_g0 hp, ↓pl_g1 hp, ↓pl_g2 hp, ↓pl_g3 hp, ↓pl_g4 hp, ↓pl_g5 hp, ↓pl_g6 hp, ↓pl_g7 hp, ↓pl_g8 hp, ↓pl_g9 hp, ↓pl_g10 hp, ↓pl_g11 hp, ↓pl_g12 hp, ↓pl_g13 hp, ↓pl_g14 hp, ↓pl_g15 hp, ↓pl_g16 hp, ↓pl_g17 hp, ↓pl_g18 hp, ↓pl_g19 hp, ↓pl_g20 hp, ↓pl_g21 hp, pl_r hp, hR, icond_lt, icond_le, icond_gt, icond_ge, icond_eq, icond_ne, narrow_bool, true_or, or_true, if_true, if_false, cK_inl, toL_some, toL_none, psum_nil, psum_int, psum_ref, psum_null, psum_long, Nat.zero_le, Nat.reduceAdd, Nat.reduceLeDiff, kl_int, kl_ref, kl_none, kl_null, kl_long, su_at, sr_at, Nat.reduceEqDiff, Nat.add_eq_left, Nat.add_right_cancel_iff, and_false, false_and, and_true, true_and, and_self, if_true, if_false, ↓reduceIte, su_su]
theorem r186_c (h : ctx 0 b pl M A NR N β rk nt P S V) {l r : Nat} (hm : lmM N x = some l) (hy : lmM NR y = some r) :
    ∃ V', townR 0 b M A NR N β rk nt P (brS 0 l b y S) V' ∧ sameBut (pT 0) (su V 4 200 0 0) V' ∧ ∀ (d : Nat) (Q : PO → Prop), Cp (d + 4) 186 [.ref 395, .int x, .int y] (RP c C V W pl P R) Q = Q (.inl (some (.int (V 0 14 l))), RP c C V' W pl P R) := by
  have hg : 0 < 2 := by decide
  obtain ⟨ht, hb, hP0, hrk, -, hp, hβ⟩ := ctx_thr (x := 0) hg h
  have hN3 := townR_N h.1
  have hN := h.1.2.2.2.2.2.2.2.2.1
  have hP := h.2.2.1
  have hA := hb.2.2.1.2.2
  have hR := hb.2.1.2.1
  have hR6 := hb.2.1.2.2
  obtain ⟨hlN, rfl⟩ := lmM_some (by omega) hm
  obtain ⟨hr, rfl⟩ := lmM_some (by omega) hy
  have hl : l < 3 := by omega
  have e := subM (x := Int32.ofNat r) (ofN_rng (show NR ≤ 100 by omega)).1 (ofN_rng (show NR ≤ 100 by omega)).2
  have hi : (if Int32.ofNat r < 0 then (0 : Int32) else if Int32.ofNat NR - 1 < Int32.ofNat r then 0 else 1) = 1 := by
    rw [if_neg (ofN_nn (by omega)), if_neg (fun q => absurd ((ofN_le (by omega) (by omega)).mp (e.mp q)) (by omega))]
  have nr := ofN_ne (a := r) (by omega)
  obtain ⟨e0, u1, u2, u3, u4⟩ := hb.2.2.2.2.1 r hr
  have t1 := townR_give (l := l) (townR_round (i := l) (x := Int32.ofNat r) ht (Or.inr ⟨r, hr, rfl⟩)) hlN
  have o18 : giveS 0 l (su S 0 14 l (Int32.ofNat r)) 0 18 l = Int32.ofNat 0 := by simp only [giveS, su_at, sr_at, Nat.reduceEqDiff, Nat.add_eq_left, Nat.add_right_cancel_iff, and_false, false_and, and_true, true_and, and_self, if_true, if_false, ↓reduceIte]; rfl
  have t2 := townR_ent (y := 1) (t := 0) (o := 0) (ρ := 36) t1 hlN hrk hA u1 o18 (by omega) u4 (by omega) rfl (by decide)
  have eb : brS 0 l b (Int32.ofNat r) S = entS 0 l (P 0 105 e0) 1 (giveS 0 l (su S 0 14 l (Int32.ofNat r))) := by
    unfold brS
    rw [gt_nat (by omega) (by omega), u3]
  rw [eb]
  refine ⟨_, t2, sbt_enV (sbt_give (sbt_su sbt_refl (pT_v (by decide)))), fun d Q => ?_⟩
  have v14 : su (su V 4 200 0 0) 0 14 l (Int32.ofNat r) 0 14 l = Int32.ofNat r := su_self
  have hP2 : (su (su V 4 200 0 0) 0 14 l (Int32.ofNat r) 4 206 0).toNatClampNeg = pl := by rw [su_ne (by decide)]; exact hP0
  have e131 : ∀ Q : PO → Prop, _ := fun Q => r131 (c := c) (C := C) (P := P) (W := W) (R := R) (d := d + 1) (Q := Q) hg hl hp hP2 (r := r) (e := e0) (Or.inr ⟨v14, by omega, u2, u1⟩)
  simp only [v14, if_neg nr] at e131
  simp +decide only [ce186, ↓w186_0, ↓w186_1, ↓w186_2, ↓w186_5, ↓w186_6, ↓w186_7, ↓w186_10, ↓w186_13, ↓w186_14, ↓w186_15, ↓w186_16, ↓w186_19, ↓w186_22, ↓w186_23, ↓w186_24, ↓w186_27, ↓w186_30, ↓w186_31, ↓w186_32, ↓w186_35, ↓w186_36, ↓w186_37, ↓w186_40, ↓w186_43, ↓w186_44, ↓w186_45, ↓w186_46, ↓w186_47, ↓w186_50, ↓w186_53, ↓w186_54, ↓w186_55, ↓w186_56, ↓w186_57, ↓w186_60, ↓w186_61, ↓w186_64, ↓w186_65, r150 (hNs hN) hN3, hm, r148, hi, e131, s_r hg, Option.isSome, ↓m0_g0, ↓m0_g1, ↓m0_g2, ↓m0_g3, ↓m0_g4, ↓m0_g5, ↓m0_g6, ↓m0_g7, ↓m0_g8, ↓m0_g9, ↓m0_g10, ↓m0_g11, ↓m0_g12, ↓m0_g13, ↓m0_g14, ↓m0_g15, ↓m0_p0, ↓m0_p2, ↓m0_p3, ↓m0_p8, ↓m0_p9, ↓m0_p12, m0_r, hP, ↓pl_g0 hp, ↓pl_g1 hp, ↓pl_g2 hp, ↓pl_g3 hp, ↓pl_g4 hp, ↓pl_g5 hp, ↓pl_g6 hp, ↓pl_g7 hp, ↓pl_g8 hp, ↓pl_g9 hp, ↓pl_g10 hp, ↓pl_g11 hp, ↓pl_g12 hp, ↓pl_g13 hp, ↓pl_g14 hp, ↓pl_g15 hp, ↓pl_g16 hp, ↓pl_g17 hp, ↓pl_g18 hp, ↓pl_g19 hp, ↓pl_g20 hp, ↓pl_g21 hp, pl_r hp, hR, ↓s_g0 hg, ↓s_g1 hg, ↓s_g2 hg, ↓s_g3 hg, ↓s_g4 hg, ↓s_g5 hg, ↓s_g6 hg, ↓s_g7 hg, ↓s_g8 hg, ↓s_g9 hg, ↓s_g10 hg, ↓s_g11 hg, ↓s_g12 hg, ↓s_g13 hg, ↓s_g14 hg, ↓s_g15 hg, ↓s_g16 hg, ↓s_g17 hg, ↓s_g18 hg, ↓s_g19 hg, ↓s_g20 hg, ↓s_p0 hg, ↓s_p1 hg, ↓s_p3 hg, s_r hg, ↓s_can_a hg hl, ↓s_can_s hg hl, ↓s_place_a hg hl, ↓s_place_s hg hl, ↓s_round_a hg hl, ↓s_round_s hg hl, ↓s_begun_a hg hl, ↓s_begun_s hg hl, ↓s_busy_a hg hl, ↓s_busy_s hg hl, ↓s_noted_a hg hl, ↓s_noted_s hg hl, ↓s_depth_a hg hl, ↓s_depth_s hg hl, icond_lt, icond_le, icond_gt, icond_ge, icond_eq, icond_ne, narrow_bool, true_or, or_true, if_true, if_false, cK_inl, toL_some, toL_none, psum_nil, psum_int, psum_ref, psum_null, psum_long, Nat.zero_le, Nat.reduceAdd, Nat.reduceLeDiff, kl_int, kl_ref, kl_none, kl_null, kl_long, su_at, sr_at, Nat.reduceEqDiff, Nat.add_eq_left, Nat.add_right_cancel_iff, and_false, false_and, and_true, true_and, and_self, if_true, if_false, ↓reduceIte]
theorem r192_a (hx : x < 1 ∨ 40 < x) (d : Nat) (Q : PO → Prop) : Cp (d + 4) 192 [.ref 395, .int x] (RP c C V W pl P R) Q = Q (.inl (some (.int 0)), RP c C (su V 4 200 0 1) W pl P R) := by
  have hi : (if x < 1 then (0 : Int32) else if 40 < x then 0 else 1) = 0 := by
    by_cases h : x < 1
    · rw [if_pos h]
    · rw [if_neg h, if_pos (hx.resolve_left h)]
  simp +decide only [ce192, ↓w192_0, ↓w192_1, ↓w192_2, ↓w192_5, ↓w192_6, ↓w192_7, ↓w192_9, ↓w192_12, ↓w192_15, ↓w192_16, ↓w192_19, ↓w192_20, ↓w192_23, ↓w192_26, ↓w192_27, ↓w192_28, ↓w192_31, r148, r146, hi, ↓m0_g0, ↓m0_g1, ↓m0_g2, ↓m0_g3, ↓m0_g4, ↓m0_g5, ↓m0_g6, ↓m0_g7, ↓m0_g8, ↓m0_g9, ↓m0_g10, ↓m0_g11, ↓m0_g12, ↓m0_g13, ↓m0_g14, ↓m0_g15, ↓m0_p0, ↓m0_p2, ↓m0_p3, ↓m0_p8, ↓m0_p9, ↓m0_p12, m0_r, icond_lt, icond_le, icond_gt, icond_ge, icond_eq, icond_ne, narrow_bool, true_or, or_true, if_true, if_false, cK_inl, toL_some, toL_none, psum_nil, psum_int, psum_ref, psum_null, psum_long, Nat.zero_le, Nat.reduceAdd, Nat.reduceLeDiff, kl_int, kl_ref, kl_none, kl_null, kl_long, su_at, sr_at, Nat.reduceEqDiff, Nat.add_eq_left, Nat.add_right_cancel_iff, and_false, false_and, and_true, true_and, and_self, if_true, if_false, ↓reduceIte, su_su]
theorem r193_a (hx : x < 1 ∨ 5 < x) (d : Nat) (Q : PO → Prop) : Cp (d + 4) 193 [.ref 395, .int x] (RP c C V W pl P R) Q = Q (.inl (some (.int 0)), RP c C (su V 4 200 0 1) W pl P R) := by
  have hi : (if x < 1 then (0 : Int32) else if 5 < x then 0 else 1) = 0 := by
    by_cases h : x < 1
    · rw [if_pos h]
    · rw [if_neg h, if_pos (hx.resolve_left h)]
  simp +decide only [ce193, ↓w193_0, ↓w193_1, ↓w193_2, ↓w193_5, ↓w193_6, ↓w193_7, ↓w193_8, ↓w193_11, ↓w193_14, ↓w193_15, ↓w193_18, ↓w193_20, ↓w193_21, ↓w193_22, ↓w193_25, ↓w193_28, ↓w193_29, ↓w193_30, ↓w193_33, r148, r146, hi, ↓m0_g0, ↓m0_g1, ↓m0_g2, ↓m0_g3, ↓m0_g4, ↓m0_g5, ↓m0_g6, ↓m0_g7, ↓m0_g8, ↓m0_g9, ↓m0_g10, ↓m0_g11, ↓m0_g12, ↓m0_g13, ↓m0_g14, ↓m0_g15, ↓m0_p0, ↓m0_p2, ↓m0_p3, ↓m0_p8, ↓m0_p9, ↓m0_p12, m0_r, icond_lt, icond_le, icond_gt, icond_ge, icond_eq, icond_ne, narrow_bool, true_or, or_true, if_true, if_false, cK_inl, toL_some, toL_none, psum_nil, psum_int, psum_ref, psum_null, psum_long, Nat.zero_le, Nat.reduceAdd, Nat.reduceLeDiff, kl_int, kl_ref, kl_none, kl_null, kl_long, su_at, sr_at, Nat.reduceEqDiff, Nat.add_eq_left, Nat.add_right_cancel_iff, and_false, false_and, and_true, true_and, and_self, if_true, if_false, ↓reduceIte, su_su]
theorem r223_a (hx : x < 1 ∨ 80 < x) (d : Nat) (Q : PO → Prop) : Cp (d + 4) 223 [.ref 395, .int x] (RP c C V W pl P R) Q = Q (.inl (some (.int 0)), RP c C (su V 4 200 0 1) W pl P R) := by
  have hi : (if x < 1 then (0 : Int32) else if 80 < x then 0 else 1) = 0 := by
    by_cases h : x < 1
    · rw [if_pos h]
    · rw [if_neg h, if_pos (hx.resolve_left h)]
  simp +decide only [ce223, ↓w223_0, ↓w223_1, ↓w223_2, ↓w223_5, ↓w223_6, ↓w223_7, ↓w223_9, ↓w223_12, ↓w223_15, ↓w223_16, ↓w223_19, ↓w223_20, ↓w223_23, ↓w223_26, ↓w223_27, ↓w223_30, ↓w223_33, ↓w223_34, ↓w223_35, ↓w223_38, r148, r146, hi, ↓m0_g0, ↓m0_g1, ↓m0_g2, ↓m0_g3, ↓m0_g4, ↓m0_g5, ↓m0_g6, ↓m0_g7, ↓m0_g8, ↓m0_g9, ↓m0_g10, ↓m0_g11, ↓m0_g12, ↓m0_g13, ↓m0_g14, ↓m0_g15, ↓m0_p0, ↓m0_p2, ↓m0_p3, ↓m0_p8, ↓m0_p9, ↓m0_p12, m0_r, icond_lt, icond_le, icond_gt, icond_ge, icond_eq, icond_ne, narrow_bool, true_or, or_true, if_true, if_false, cK_inl, toL_some, toL_none, psum_nil, psum_int, psum_ref, psum_null, psum_long, Nat.zero_le, Nat.reduceAdd, Nat.reduceLeDiff, kl_int, kl_ref, kl_none, kl_null, kl_long, su_at, sr_at, Nat.reduceEqDiff, Nat.add_eq_left, Nat.add_right_cancel_iff, and_false, false_and, and_true, true_and, and_self, if_true, if_false, ↓reduceIte, su_su]
theorem r192_c (h : ctx 0 b pl M A NR N β rk nt P S V) (h1 : ¬ x < 1) (h2 : ¬ 40 < x) (hβ : β + 90 * x.toNatClampNeg < 2 ^ 30) :
    ∃ V', townR 0 b M A NR N (β + 90 * x.toNatClampNeg) rk nt P (psS 0 b x.toNatClampNeg 0 S).2 V' ∧ sameBut (pT 0) (su V 4 200 0 0) V' ∧ ∀ (d : Nat) (Q : PO → Prop), Cp (d + 15) 192 [.ref 395, .int x] (RP c C V W pl P R) Q = Q (.inl (some (.int (psS 0 b x.toNatClampNeg 0 S).1)), RP c C V' W pl P R) := by
  have hg : 0 < 2 := by decide
  obtain ⟨V', q1, q2, q3⟩ := r143 (c := c) (C := C) (W := W) (R := R) (n := x.toNatClampNeg) (ctx_thr (x := 0) hg h) hβ
  refine ⟨V', q1, q2, fun d Q => ?_⟩
  have h0 : ¬ x < 0 := fun q => h1 (Int32.lt_trans q (by decide))
  rw [← nnI h0] at q3
  simp +decide only [ce192, ↓w192_0, ↓w192_1, ↓w192_2, ↓w192_5, ↓w192_6, ↓w192_7, ↓w192_9, ↓w192_12, ↓w192_15, ↓w192_16, ↓w192_19, ↓w192_20, ↓w192_23, ↓w192_26, ↓w192_27, ↓w192_28, ↓w192_31, r148, h1, h2, q3, s_r hg, ↓m0_g0, ↓m0_g1, ↓m0_g2, ↓m0_g3, ↓m0_g4, ↓m0_g5, ↓m0_g6, ↓m0_g7, ↓m0_g8, ↓m0_g9, ↓m0_g10, ↓m0_g11, ↓m0_g12, ↓m0_g13, ↓m0_g14, ↓m0_g15, ↓m0_p0, ↓m0_p2, ↓m0_p3, ↓m0_p8, ↓m0_p9, ↓m0_p12, m0_r, ↓s_g0 hg, ↓s_g1 hg, ↓s_g2 hg, ↓s_g3 hg, ↓s_g4 hg, ↓s_g5 hg, ↓s_g6 hg, ↓s_g7 hg, ↓s_g8 hg, ↓s_g9 hg, ↓s_g10 hg, ↓s_g11 hg, ↓s_g12 hg, ↓s_g13 hg, ↓s_g14 hg, ↓s_g15 hg, ↓s_g16 hg, ↓s_g17 hg, ↓s_g18 hg, ↓s_g19 hg, ↓s_g20 hg, ↓s_p0 hg, ↓s_p1 hg, ↓s_p3 hg, s_r hg, icond_lt, icond_le, icond_gt, icond_ge, icond_eq, icond_ne, narrow_bool, true_or, or_true, if_true, if_false, cK_inl, toL_some, toL_none, psum_nil, psum_int, psum_ref, psum_null, psum_long, Nat.zero_le, Nat.reduceAdd, Nat.reduceLeDiff, kl_int, kl_ref, kl_none, kl_null, kl_long, su_at, sr_at, Nat.reduceEqDiff, Nat.add_eq_left, Nat.add_right_cancel_iff, and_false, false_and, and_true, true_and, and_self, if_true, if_false, ↓reduceIte]
theorem r193_c (h : ctx 0 b pl M A NR N β rk nt P S V) (h1 : ¬ x < 1) (h2 : ¬ 5 < x) (hβ : β + 90 * (x * 40).toNatClampNeg < 2 ^ 30) :
    ∃ V', townR 0 b M A NR N (β + 90 * (x * 40).toNatClampNeg) rk nt P (psS 0 b (x * 40).toNatClampNeg 0 S).2 V' ∧ sameBut (pT 0) (su V 4 200 0 0) V' ∧ ∀ (d : Nat) (Q : PO → Prop), Cp (d + 15) 193 [.ref 395, .int x] (RP c C V W pl P R) Q = Q (.inl (some (.int (psS 0 b (x * 40).toNatClampNeg 0 S).1)), RP c C V' W pl P R) := by
  have hg : 0 < 2 := by decide
  obtain ⟨V', q1, q2, q3⟩ := r143 (c := c) (C := C) (W := W) (R := R) (n := (x * 40).toNatClampNeg) (ctx_thr (x := 0) hg h) hβ
  refine ⟨V', q1, q2, fun d Q => ?_⟩
  have h0 : ¬ x * 40 < 0 := by
    have a1 : 1 ≤ x := Int32.not_lt.mp h1
    have a2 := Int32.not_lt.mp h2
    grind
  rw [← nnI h0] at q3
  have e40 : (40 : Int32) * x = x * 40 := Int32.mul_comm _ _
  simp +decide only [ce193, ↓w193_0, ↓w193_1, ↓w193_2, ↓w193_5, ↓w193_6, ↓w193_7, ↓w193_8, ↓w193_11, ↓w193_14, ↓w193_15, ↓w193_18, ↓w193_20, ↓w193_21, ↓w193_22, ↓w193_25, ↓w193_28, ↓w193_29, ↓w193_30, ↓w193_33, r148, h1, h2, e40, q3, s_r hg, ↓m0_g0, ↓m0_g1, ↓m0_g2, ↓m0_g3, ↓m0_g4, ↓m0_g5, ↓m0_g6, ↓m0_g7, ↓m0_g8, ↓m0_g9, ↓m0_g10, ↓m0_g11, ↓m0_g12, ↓m0_g13, ↓m0_g14, ↓m0_g15, ↓m0_p0, ↓m0_p2, ↓m0_p3, ↓m0_p8, ↓m0_p9, ↓m0_p12, m0_r, ↓s_g0 hg, ↓s_g1 hg, ↓s_g2 hg, ↓s_g3 hg, ↓s_g4 hg, ↓s_g5 hg, ↓s_g6 hg, ↓s_g7 hg, ↓s_g8 hg, ↓s_g9 hg, ↓s_g10 hg, ↓s_g11 hg, ↓s_g12 hg, ↓s_g13 hg, ↓s_g14 hg, ↓s_g15 hg, ↓s_g16 hg, ↓s_g17 hg, ↓s_g18 hg, ↓s_g19 hg, ↓s_g20 hg, ↓s_p0 hg, ↓s_p1 hg, ↓s_p3 hg, s_r hg, icond_lt, icond_le, icond_gt, icond_ge, icond_eq, icond_ne, narrow_bool, true_or, or_true, if_true, if_false, cK_inl, toL_some, toL_none, psum_nil, psum_int, psum_ref, psum_null, psum_long, Nat.zero_le, Nat.reduceAdd, Nat.reduceLeDiff, kl_int, kl_ref, kl_none, kl_null, kl_long, su_at, sr_at, Nat.reduceEqDiff, Nat.add_eq_left, Nat.add_right_cancel_iff, and_false, false_and, and_true, true_and, and_self, if_true, if_false, ↓reduceIte]
/-- the towns ahead -/
theorem ahead (h : ctx 0 b pl M A NR N β rk nt P S V) (hb2 : b < 2) {b0 : Nat} (h1 : okG 1 b0 S) (hc : S 0 3 0 = 0 ∨ S 0 3 0 = 1) :
    ∃ V', ctx 1 b pl M A NR N β rk False P (tcS 1 b 0 S) V' ∧ sameBut (pA 1) V V' ∧ (∀ i, i < M → V' 1 9 i = V 0 9 i) ∧ V' 1 0 0 = V 0 0 0 ∧ ∀ (d : Nat) (Q : PO → Prop), Cp (d + 2) 122 [.ref (SA 1), .ref (SA 0)] (RP c C V W pl P R) Q = Q (.inl (some (.ref (SA 1))), RP c C V' W pl P R) := by
  obtain ⟨ht, hb, hP, hrk, -, hp, hβ⟩ := h
  have hM10 := hb.1.2.2
  have h01 : ∀ i, i < M → V 0 9 i = 0 ∨ V 0 9 i = 1 := fun i hi => by
    rw [← ht.1.2.1 9 i (by omega) (by omega) hi]
    exact ht.2.1.2.2 i (by omega)
  have h3 : V 0 3 0 = 0 ∨ V 0 3 0 = 1 := by rw [← ht.1.1 3 (by omega)]; exact hc
  obtain ⟨V', c1, c2⟩ := r122 (c := c) (C := C) (W := W) (pl := pl) (P := P) (R := R) hM10 h01 h3
  have hs := sb_tc (g := 1) (g' := 0) (S := S) b
  refine ⟨V', ⟨townR_copy hb2 ht hb h1 c1, bookR_eq hb (fun v _ => hs (2 + b) v (fun q => by have : 2 + b = 1 := q; omega)), ?_, hrk, by decide, hp, hβ⟩, c1.2.2.2.2, fun i hi => c1.2.1 9 i (by omega) (by omega) hi, c1.1 0 (by omega), c2⟩
  rw [c1.2.2.2.2 4 206 (fun q => absurd (show (4 : Nat) = 1 from q) (by decide))]
  exact hP
theorem r223_c (h : ctx 0 b pl M A NR N β rk nt P S V) (hb2 : b < 2) {b0 : Nat} (hk1 : okG 1 b0 S) (hc : S 0 3 0 = 0 ∨ S 0 3 0 = 1) (h1 : ¬ x < 1) (h2 : ¬ 80 < x) (hβ : β + 90 * x.toNatClampNeg < 2 ^ 30) :
    ∃ V', sameBut (pA 1) (su V 4 200 0 0) V' ∧ ∀ (d : Nat) (Q : PO → Prop), Cp (d + 15) 223 [.ref 395, .int x] (RP c C V W pl P R) Q = Q (.inl (some (.int (psS 1 b x.toNatClampNeg 0 (tcS 1 b 0 S)).1)), RP c C V' W pl P R) := by
  have hg : 0 < 2 := by decide
  have hg1 : 1 < 2 := by decide
  obtain ⟨V1, p1, p2, -, -, p3⟩ := ahead (c := c) (C := C) (W := W) (R := R) (ctx_thr (x := 0) hg h) hb2 hk1 hc
  obtain ⟨V', q1, q2, q3⟩ := r143 (c := c) (C := C) (W := W) (R := R) (n := x.toNatClampNeg) p1 hβ
  refine ⟨V', sbt_trans p2 (sb_TA q2), fun d Q => ?_⟩
  have h0 : ¬ x < 0 := fun q => h1 (Int32.lt_trans q (by decide))
  rw [← nnI h0] at q3
  simp +decide only [ce223, ↓w223_0, ↓w223_1, ↓w223_2, ↓w223_5, ↓w223_6, ↓w223_7, ↓w223_9, ↓w223_12, ↓w223_15, ↓w223_16, ↓w223_19, ↓w223_20, ↓w223_23, ↓w223_26, ↓w223_27, ↓w223_30, ↓w223_33, ↓w223_34, ↓w223_35, ↓w223_38, r148, h1, h2, p3, q3, s_r hg1, ↓m0_g0, ↓m0_g1, ↓m0_g2, ↓m0_g3, ↓m0_g4, ↓m0_g5, ↓m0_g6, ↓m0_g7, ↓m0_g8, ↓m0_g9, ↓m0_g10, ↓m0_g11, ↓m0_g12, ↓m0_g13, ↓m0_g14, ↓m0_g15, ↓m0_p0, ↓m0_p2, ↓m0_p3, ↓m0_p8, ↓m0_p9, ↓m0_p12, m0_r, icond_lt, icond_le, icond_gt, icond_ge, icond_eq, icond_ne, narrow_bool, true_or, or_true, if_true, if_false, cK_inl, toL_some, toL_none, psum_nil, psum_int, psum_ref, psum_null, psum_long, Nat.zero_le, Nat.reduceAdd, Nat.reduceLeDiff, kl_int, kl_ref, kl_none, kl_null, kl_long, su_at, sr_at, Nat.reduceEqDiff, Nat.add_eq_left, Nat.add_right_cancel_iff, and_false, false_and, and_true, true_and, and_self, if_true, if_false, ↓reduceIte]
end PUBB
