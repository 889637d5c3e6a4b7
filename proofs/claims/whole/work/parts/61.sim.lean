/-! CLASS AND REFERENCE: working, dawn -/
section SIMG
variable {c : Nat × Nat × Nat} {C : Nat → Option PC} {W : L3} {R : Nat → Option PC} {S V P : S3} {g b pl M N A NR β : Nat} {x y : Int32} {rk : Nat → Nat} {nt : Prop}
theorem townR_sv {v i : Nat} (h : townR g b M A NR N β rk nt P S V) (h1 : v = 0 ∨ v = 1 ∨ v = 2 ∨ v = 5 ∨ v = 6 ∨ v = 7 ∨ v = 8 ∨ v = 12 ∨ v = 16) : townR g b M A NR N β rk nt P (su S g v i x) (su V g v i x) :=
  townR_su h (by omega) (by omega) (by omega) (by omega) (by omega) (by omega) (by omega) (by omega) (by omega) (by omega) (by omega)
theorem r138 {l : Nat} (h : ctx g b pl M A NR N β rk nt P S V) (hlN : l < N) (hβ : β + 30 < 2 ^ 30) :
    ∃ V', townR g b M A NR N (β + 30) rk nt P (if S g 15 l = -1 then chS g b l 30 S else S) V' ∧ sameBut (pT g) V V' ∧
      ∀ (d : Nat) (Q : PO → Prop), Cp (d + 10) 138 [.ref (SA g), .int (Int32.ofNat l)] (RP c C V W pl P R) Q = Q (.inl none, RP c C V' W pl P R) := by
  by_cases e : S g 15 l = -1
  · rw [if_pos e]
    obtain ⟨V', h1, h2, h3⟩ := chB (c := c) (C := C) (W := W) (R := R) hlN 29 S V β h e (by omega) (by omega)
    refine ⟨V', h1, h2, fun d Q => ?_⟩
    have h4 : Wp (d + 9) 138 2 [some (.ref (SA g)), some (.int (Int32.ofNat l)), some (.int 0), none, none] [] (RP c C V W pl P R) Q = Q (.inl none, RP c C V' W pl P R) := h3 d none none Q
    simp only [ce138, ↓w138_0, ↓w138_1, cK_inl, toL_some, toL_none, psum_nil, psum_int, psum_ref, psum_null, psum_long, Nat.zero_le, Nat.reduceAdd, Nat.reduceLeDiff, kl_int, kl_ref, kl_none, kl_null, kl_long, h4]
  · rw [if_neg e]
    obtain ⟨ht, hb, hP, hrk, hg, hp, hβ0⟩ := h
    have hl : l < 3 := by have := townR_N ht; omega
    have v15 : ¬ V g 15 l = -1 := by rw [← ht.1.2.2 15 l (by omega) (by omega) hlN]; exact e
    refine ⟨V, townR_mono ht (by omega), sbt_refl, fun d Q => ?_⟩
    simp only [ce138, ↓w138_0, ↓w138_1, ↓w138_2, ↓w138_3, ↓w138_6, ↓w138_7, ↓w138_8, ↓w138_9, ↓w138_12, ↓w138_13, ↓w138_16, ↓w138_17, ↓w138_18, ↓w138_21, ↓w138_22, ↓w138_23, ↓w138_26, ↓w138_27, ↓w138_28, ↓w138_29, ↓w138_32, ↓w138_35, ↓w138_36, ↓w138_37, ↓w138_38, ↓w138_41, ↓w138_43, ↓w138_45, ↓w138_48, ↓w138_49, ↓w138_52, ↓w138_53, ↓w138_54, ↓w138_55, ↓w138_56, ↓w138_59, ↓w138_60, ↓w138_62, ↓w138_63, ↓w138_64, ↓w138_67, ↓w138_68, ↓w138_70, ↓w138_73, ↓w138_74, ↓w138_75, ↓w138_78, ↓w138_81, ↓s_g0 hg, ↓s_g1 hg, ↓s_g2 hg, ↓s_g3 hg, ↓s_g4 hg, ↓s_g5 hg, ↓s_g6 hg, ↓s_g7 hg, ↓s_g8 hg, ↓s_g9 hg, ↓s_g10 hg, ↓s_g11 hg, ↓s_g12 hg, ↓s_g13 hg, ↓s_g14 hg, ↓s_g15 hg, ↓s_g16 hg, ↓s_g17 hg, ↓s_g18 hg, ↓s_g19 hg, ↓s_g20 hg, ↓s_p0 hg, ↓s_p1 hg, ↓s_p3 hg, s_r hg, ↓s_can_a hg hl, ↓s_can_s hg hl, ↓s_place_a hg hl, ↓s_place_s hg hl, ↓s_round_a hg hl, ↓s_round_s hg hl, ↓s_begun_a hg hl, ↓s_begun_s hg hl, ↓s_busy_a hg hl, ↓s_busy_s hg hl, ↓s_noted_a hg hl, ↓s_noted_s hg hl, ↓s_depth_a hg hl, ↓s_depth_s hg hl, v15, icond_lt, icond_le, icond_gt, icond_ge, icond_eq, icond_ne, narrow_bool, true_or, or_true, if_true, if_false, cK_inl, toL_some, toL_none, psum_nil, psum_int, psum_ref, psum_null, psum_long, Nat.zero_le, Nat.reduceAdd, Nat.reduceLeDiff, kl_int, kl_ref, kl_none, kl_null, kl_long, ne_eq, not_false_eq_true]
theorem r140 {l : Nat} (h : ctx g b pl M A NR N β rk nt P S V) (hlN : l < N) (hβ : β + 30 < 2 ^ 30) :
    ∃ V', townR g b M A NR N (β + 30) rk nt P (wkS g b l S) V' ∧ sameBut (pT g) V V' ∧
      ∀ (d : Nat) (Q : PO → Prop), Cp (d + 11) 140 [.ref (SA g), .int (Int32.ofNat l)] (RP c C V W pl P R) Q = Q (.inl none, RP c C V' W pl P R) := by
  have hl : l < 3 := by have := townR_N h.1; omega
  have hg := h.2.2.2.2.1
  obtain ⟨V1, h1, h2, h3⟩ := r138 (c := c) (C := C) (W := W) (R := R) h hlN hβ
  have hs1 : sameBut (pT g) S (if S g 15 l = -1 then chS g b l 30 S else S) := by
    split
    · exact sbt_ch hl sbt_refl
    · exact sbt_refl
  have hc1 := ctx_mk h h1 hs1 h2 hβ
  unfold wkS
  generalize (if S g 15 l = -1 then chS g b l 30 S else S) = S1 at h1 hc1
  clear hs1
  have a15 := h1.1.2.2 15 l (by omega) (by omega) hlN
  have a16 := h1.1.2.2 16 l (by omega) (by omega) hlN
  unfold wkT
  by_cases e : S1 g 15 l = -1
  · rw [if_pos e]
    refine ⟨V1, h1, h2, fun d Q => ?_⟩
    rw [a15] at e
    simp only [ce140, ↓w140_0, ↓w140_1, ↓w140_2, ↓w140_5, ↓w140_6, ↓w140_9, ↓w140_10, ↓w140_11, ↓w140_12, ↓w140_15, ↓w140_16, ↓w140_17, ↓w140_20, ↓w140_21, ↓w140_22, ↓w140_23, ↓w140_24, ↓w140_25, ↓w140_26, ↓w140_27, ↓w140_30, ↓w140_31, ↓w140_32, ↓w140_35, ↓w140_36, ↓w140_37, ↓w140_40, ↓w140_41, ↓w140_42, ↓w140_43, ↓w140_44, ↓w140_47, ↓w140_48, ↓w140_49, ↓w140_50, ↓w140_51, ↓w140_52, ↓w140_53, ↓w140_56, ↓s_g0 hg, ↓s_g1 hg, ↓s_g2 hg, ↓s_g3 hg, ↓s_g4 hg, ↓s_g5 hg, ↓s_g6 hg, ↓s_g7 hg, ↓s_g8 hg, ↓s_g9 hg, ↓s_g10 hg, ↓s_g11 hg, ↓s_g12 hg, ↓s_g13 hg, ↓s_g14 hg, ↓s_g15 hg, ↓s_g16 hg, ↓s_g17 hg, ↓s_g18 hg, ↓s_g19 hg, ↓s_g20 hg, ↓s_p0 hg, ↓s_p1 hg, ↓s_p3 hg, s_r hg, ↓s_can_a hg hl, ↓s_can_s hg hl, ↓s_place_a hg hl, ↓s_place_s hg hl, ↓s_round_a hg hl, ↓s_round_s hg hl, ↓s_begun_a hg hl, ↓s_begun_s hg hl, ↓s_busy_a hg hl, ↓s_busy_s hg hl, ↓s_noted_a hg hl, ↓s_noted_s hg hl, ↓s_depth_a hg hl, ↓s_depth_s hg hl, h3, e, icond_lt, icond_le, icond_gt, icond_ge, icond_eq, icond_ne, narrow_bool, true_or, or_true, if_true, if_false, cK_inl, toL_some, toL_none, psum_nil, psum_int, psum_ref, psum_null, psum_long, Nat.zero_le, Nat.reduceAdd, Nat.reduceLeDiff, kl_int, kl_ref, kl_none, kl_null, kl_long, ne_eq, not_true]
  · rw [if_neg e]
    have e' : ¬ V1 g 15 l = -1 := by rw [← a15]; exact e
    by_cases e2 : 0 < S1 g 16 l - 1
    · rw [if_pos e2, a16]
      rw [a16] at e2
      refine ⟨_, townR_sv h1 (by omega), sbt_trans h2 (sbt_su sbt_refl (pT_v (by decide))), fun d Q => ?_⟩
      have e3 := Int32.not_le.mpr e2
      simp only [ce140, ↓w140_0, ↓w140_1, ↓w140_2, ↓w140_5, ↓w140_6, ↓w140_9, ↓w140_10, ↓w140_11, ↓w140_12, ↓w140_15, ↓w140_16, ↓w140_17, ↓w140_20, ↓w140_21, ↓w140_22, ↓w140_23, ↓w140_24, ↓w140_25, ↓w140_26, ↓w140_27, ↓w140_30, ↓w140_31, ↓w140_32, ↓w140_35, ↓w140_36, ↓w140_37, ↓w140_40, ↓w140_41, ↓w140_42, ↓w140_43, ↓w140_44, ↓w140_47, ↓w140_48, ↓w140_49, ↓w140_50, ↓w140_51, ↓w140_52, ↓w140_53, ↓w140_56, ↓s_g0 hg, ↓s_g1 hg, ↓s_g2 hg, ↓s_g3 hg, ↓s_g4 hg, ↓s_g5 hg, ↓s_g6 hg, ↓s_g7 hg, ↓s_g8 hg, ↓s_g9 hg, ↓s_g10 hg, ↓s_g11 hg, ↓s_g12 hg, ↓s_g13 hg, ↓s_g14 hg, ↓s_g15 hg, ↓s_g16 hg, ↓s_g17 hg, ↓s_g18 hg, ↓s_g19 hg, ↓s_g20 hg, ↓s_p0 hg, ↓s_p1 hg, ↓s_p3 hg, s_r hg, ↓s_can_a hg hl, ↓s_can_s hg hl, ↓s_place_a hg hl, ↓s_place_s hg hl, ↓s_round_a hg hl, ↓s_round_s hg hl, ↓s_begun_a hg hl, ↓s_begun_s hg hl, ↓s_busy_a hg hl, ↓s_busy_s hg hl, ↓s_noted_a hg hl, ↓s_noted_s hg hl, ↓s_depth_a hg hl, ↓s_depth_s hg hl, h3, e', e3, icond_lt, icond_le, icond_gt, icond_ge, icond_eq, icond_ne, narrow_bool, true_or, or_true, if_true, if_false, cK_inl, toL_some, toL_none, psum_nil, psum_int, psum_ref, psum_null, psum_long, Nat.zero_le, Nat.reduceAdd, Nat.reduceLeDiff, kl_int, kl_ref, kl_none, kl_null, kl_long, su_at, sr_at, Nat.reduceEqDiff, Nat.add_eq_left, Nat.add_right_cancel_iff, and_false, false_and, and_true, true_and, and_self, if_true, if_false, ↓reduceIte, ne_eq, not_false_eq_true]
    · rw [if_neg e2]
      rcases h1.2.2.2.1.2.2.1 l hlN with q | ⟨a, ha, hq⟩
      · exact absurd q e
      have e3 : S1 g 16 l - 1 = V1 g 16 l - 1 := by rw [a16]
      unfold finS
      rw [su_ne (by decide), hq, e3]
      rw [e3] at e2
      have hc2 : ctx g b pl M A NR N (β + 30) rk nt P (su (su S1 g 16 l (V1 g 16 l - 1)) g 15 l (-1)) (su (su V1 g 16 l (V1 g 16 l - 1)) g 15 l (-1)) :=
        ctx_mk hc1 (townR_begun (townR_sv h1 (by omega)) (Or.inl rfl)) (sbt_su (sbt_su sbt_refl (pT_v (by decide))) (pT_v (by decide))) (sbt_su (sbt_su sbt_refl (pT_v (by decide))) (pT_v (by decide))) hβ
      obtain ⟨V', p1, p2, p3⟩ := r139 (c := c) (C := C) (W := W) (R := R) hc2 hlN ha
      refine ⟨V', p1, sbt_trans h2 (sbt_trans (sbt_su (sbt_su sbt_refl (pT_v (by decide))) (pT_v (by decide))) p2), fun d Q => ?_⟩
      have q15 : V1 g 15 l = Int32.ofNat a := by rw [← a15]; exact hq
      have na := ofN_ne (a := a) (by have := hc1.2.1.2.2.1.2.2; omega)
      have e4 := Int32.not_lt.mp e2
      simp only [ce140, ↓w140_0, ↓w140_1, ↓w140_2, ↓w140_5, ↓w140_6, ↓w140_9, ↓w140_10, ↓w140_11, ↓w140_12, ↓w140_15, ↓w140_16, ↓w140_17, ↓w140_20, ↓w140_21, ↓w140_22, ↓w140_23, ↓w140_24, ↓w140_25, ↓w140_26, ↓w140_27, ↓w140_30, ↓w140_31, ↓w140_32, ↓w140_35, ↓w140_36, ↓w140_37, ↓w140_40, ↓w140_41, ↓w140_42, ↓w140_43, ↓w140_44, ↓w140_47, ↓w140_48, ↓w140_49, ↓w140_50, ↓w140_51, ↓w140_52, ↓w140_53, ↓w140_56, ↓s_g0 hg, ↓s_g1 hg, ↓s_g2 hg, ↓s_g3 hg, ↓s_g4 hg, ↓s_g5 hg, ↓s_g6 hg, ↓s_g7 hg, ↓s_g8 hg, ↓s_g9 hg, ↓s_g10 hg, ↓s_g11 hg, ↓s_g12 hg, ↓s_g13 hg, ↓s_g14 hg, ↓s_g15 hg, ↓s_g16 hg, ↓s_g17 hg, ↓s_g18 hg, ↓s_g19 hg, ↓s_g20 hg, ↓s_p0 hg, ↓s_p1 hg, ↓s_p3 hg, s_r hg, ↓s_can_a hg hl, ↓s_can_s hg hl, ↓s_place_a hg hl, ↓s_place_s hg hl, ↓s_round_a hg hl, ↓s_round_s hg hl, ↓s_begun_a hg hl, ↓s_begun_s hg hl, ↓s_busy_a hg hl, ↓s_busy_s hg hl, ↓s_noted_a hg hl, ↓s_noted_s hg hl, ↓s_depth_a hg hl, ↓s_depth_s hg hl, h3, na, e4, q15, p3, icond_lt, icond_le, icond_gt, icond_ge, icond_eq, icond_ne, narrow_bool, true_or, or_true, if_true, if_false, cK_inl, toL_some, toL_none, psum_nil, psum_int, psum_ref, psum_null, psum_long, Nat.zero_le, Nat.reduceAdd, Nat.reduceLeDiff, kl_int, kl_ref, kl_none, kl_null, kl_long, su_at, sr_at, Nat.reduceEqDiff, Nat.add_eq_left, Nat.add_right_cancel_iff, and_false, false_and, and_true, true_and, and_self, if_true, if_false, ↓reduceIte, ne_eq, not_false_eq_true]
theorem give_give {l : Nat} : giveS g l (giveS g l S) = giveS g l S := by
  have h1 : giveS g l S g 15 l = -1 := by simp only [giveS, su_at, sr_at, Nat.reduceEqDiff, Nat.add_eq_left, Nat.add_right_cancel_iff, and_false, false_and, and_true, true_and, and_self, if_true, if_false, ↓reduceIte]
  have h2 : giveS g l S g 16 l = 0 := by simp only [giveS, su_at, sr_at, Nat.reduceEqDiff, Nat.add_eq_left, Nat.add_right_cancel_iff, and_false, false_and, and_true, true_and, and_self, if_true, if_false, ↓reduceIte]
  have h3 : giveS g l S g 18 l = 0 := by simp only [giveS, su_at, sr_at, Nat.reduceEqDiff, Nat.add_eq_left, Nat.add_right_cancel_iff, and_false, false_and, and_true, true_and, and_self, if_true, if_false, ↓reduceIte]
  show su (su (su (giveS g l S) g 15 l (-1)) g 16 l 0) g 18 l 0 = giveS g l S
  rw [su_same h1, su_same h2, su_same h3]
/-- a lighter at dawn -/
theorem dg_sim {l : Nat} (h : ctx g b pl M A NR N β rk nt P S V) (hlN : l < N) :
    ∃ V', townR g b M A NR N β rk nt P (dg1 g b l (homeS g l S)) V' ∧ sameBut (pT g) V V' ∧
      ∀ (d : Nat) (Q : PO → Prop), Cp (d + 2) 131 [.ref (SA g), .int (Int32.ofNat l)] (RP c C (su (su V g 13 l 0) g 12 l (V 4 215 l)) W pl P R) Q = Q (.inl none, RP c C V' W pl P R) := by
  have hc := h
  obtain ⟨ht, hb, hP, hrk, hg, hp, hβ⟩ := h
  have hl : l < 3 := by have := townR_N ht; omega
  have hA := hb.2.2.1.2.2
  have h19 := ht.2.2.2.2.2.2.2.2.2 l hlN
  have ec : su (su V g 13 l 0) g 12 l (V 4 215 l) = su (su V g 12 l (V 4 215 l)) g 13 l 0 := su_comm (by decide)
  rw [ec]
  have t1 : townR g b M A NR N β rk nt P (su (su S g 12 l (S g 19 l)) g 13 l 0) (su (su V g 12 l (V 4 215 l)) g 13 l 0) := by
    rw [h19]
    exact townR_place (q := 0) (townR_sv ht (by omega)) (by omega)
  have s1 : sameBut (pT g) V (su (su V g 12 l (V 4 215 l)) g 13 l 0) := sbt_su (sbt_su sbt_refl (pT_v (by decide))) (pT_v (by decide))
  have s2 : sameBut (pT g) S (su (su S g 12 l (S g 19 l)) g 13 l 0) := sbt_su (sbt_su sbt_refl (pT_v (by decide))) (pT_v (by decide))
  have eh : homeS g l S = giveS g l (su (su S g 12 l (S g 19 l)) g 13 l 0) := rfl
  rw [eh]
  have hc1 := ctx_mk hc t1 s2 s1 hβ
  generalize su (su S g 12 l (S g 19 l)) g 13 l 0 = S1 at t1 hc1
  generalize su (su V g 12 l (V 4 215 l)) g 13 l 0 = V1 at t1 hc1 s1
  have t2 := townR_give t1 hlN
  have r14 : giveS g l S1 g 14 l = S1 g 14 l := by simp only [giveS, su_at, sr_at, Nat.reduceEqDiff, Nat.add_eq_left, Nat.add_right_cancel_iff, and_false, false_and, and_true, true_and, and_self, if_true, if_false, ↓reduceIte]
  have a14 := t1.1.2.2 14 l (by omega) (by omega) hlN
  have hP1 := hc1.2.2.1
  unfold dg1
  rw [r14]
  rcases t1.2.2.2.1.2.1 l hlN with e | ⟨r, hr, e⟩
  · rw [if_pos e]
    rw [a14] at e
    refine ⟨_, t2, sbt_trans s1 (sbt_give sbt_refl), fun d Q => ?_⟩
    rw [r131 hg hl hp hP1 (r := 0) (e := 0) (Or.inl e), if_pos e]
  · have hN6 := hb.2.1.2.2
    have nr := ofN_ne (a := r) (by omega)
    obtain ⟨e0, u1, u2, u3, u4⟩ := hc1.2.1.2.2.2.2.1 r hr
    rw [e, if_neg nr]
    unfold brS
    have e14 : su (giveS g l S1) g 14 l (Int32.ofNat r) = giveS g l S1 := su_same (by rw [r14, e])
    have eg : gt (giveS g l S1) (2 + b) 106 6 (Int32.ofNat r) = P 0 105 e0 := by
      rw [gt_nat (by omega) (by omega)]
      have := sbt_give (g := g) (l := l) (S := S1) sbt_refl (2 + b) 106 (fun q => by have := q.2.1; omega)
      rw [this, u3]
    rw [e14, give_give, eg]
    have o18 : giveS g l S1 g 18 l = Int32.ofNat 0 := by simp only [giveS, su_at, sr_at, Nat.reduceEqDiff, Nat.add_eq_left, Nat.add_right_cancel_iff, and_false, false_and, and_true, true_and, and_self, if_true, if_false, ↓reduceIte]; rfl
    rw [a14] at e
    refine ⟨_, townR_ent (t := 0) (o := 0) (ρ := 36) t2 hlN hrk hA u1 o18 (by omega) u4 (by omega) rfl (by decide), sbt_trans s1 (sbt_enV (sbt_give sbt_refl)), fun d Q => ?_⟩
    rw [r131 hg hl hp hP1 (r := r) (e := e0) (Or.inr ⟨e, by omega, u2, u1⟩), e, if_neg nr]
theorem r141_lig : ∀ (k i : Nat) (S V : S3), i + k = N → ctx g b pl M A NR N β rk nt P S V →
    ∃ V', townR g b M A NR N β rk nt P (dgS g b (3 - i) i S) V' ∧ sameBut (pT g) V V' ∧
      ∀ (d : Nat) (Q : PO → Prop), Wp (d + 2) 141 46 [some (.ref (SA g)), some (.int (Int32.ofNat i))] [] (RP c C V W pl P R) Q = Q (.inl none, RP c C V' W pl P R) := by
  intro k
  induction k with
  | zero =>
    intro i S V hi h
    have hc := h
    obtain ⟨ht, hb, hP, hrk, hg, hp, hβ⟩ := h
    have hN := townR_N ht
    have h4 := ht.2.2.2.2.2.2.1
    have h45 := ht.2.2.2.2.2.2.2.2.1
    have e : Int32.ofNat N ≤ Int32.ofNat i := (ofN_le (by omega) (by omega)).mpr (by omega)
    refine ⟨V, ?_, sbt_refl, fun d Q => ?_⟩
    · cases h3 : 3 - i with
      | zero => exact ht
      | succ m => rw [dgS, h4, if_pos e]; exact ht
    · rw [w141_46]
      simp only [↓w141_0, ↓w141_1, ↓w141_1i, ↓w141_2, ↓w141_5, ↓w141_6, ↓w141_7, ↓w141_10, ↓w141_11, ↓w141_12, ↓w141_15, ↓w141_16, ↓w141_17, ↓w141_18, ↓w141_19, ↓w141_22, ↓w141_25, ↓w141_28, ↓w141_31, ↓w141_32, ↓w141_35, ↓w141_36, ↓w141_37, ↓w141_38, ↓w141_41, ↓w141_44, ↓w141_45, ↓w141_47, ↓w141_48, ↓w141_51, ↓w141_54, ↓w141_57, ↓w141_58, ↓w141_61, ↓w141_62, ↓w141_63, ↓w141_64, ↓w141_65, ↓w141_68, ↓w141_69, ↓w141_70, ↓w141_73, ↓w141_76, ↓w141_77, ↓w141_78, ↓w141_79, ↓w141_80, ↓w141_81, ↓w141_84, ↓w141_87, ↓w141_90, ↓s_g0 hg, ↓s_g1 hg, ↓s_g2 hg, ↓s_g3 hg, ↓s_g4 hg, ↓s_g5 hg, ↓s_g6 hg, ↓s_g7 hg, ↓s_g8 hg, ↓s_g9 hg, ↓s_g10 hg, ↓s_g11 hg, ↓s_g12 hg, ↓s_g13 hg, ↓s_g14 hg, ↓s_g15 hg, ↓s_g16 hg, ↓s_g17 hg, ↓s_g18 hg, ↓s_g19 hg, ↓s_g20 hg, ↓s_p0 hg, ↓s_p1 hg, ↓s_p3 hg, s_r hg, ↓m0_g0, ↓m0_g1, ↓m0_g2, ↓m0_g3, ↓m0_g4, ↓m0_g5, ↓m0_g6, ↓m0_g7, ↓m0_g8, ↓m0_g9, ↓m0_g10, ↓m0_g11, ↓m0_g12, ↓m0_g13, ↓m0_g14, ↓m0_g15, ↓m0_p0, ↓m0_p2, ↓m0_p3, ↓m0_p8, ↓m0_p9, ↓m0_p12, m0_r, h45, e, icond_lt, icond_le, icond_gt, icond_ge, icond_eq, icond_ne, narrow_bool, true_or, or_true, if_true, if_false, cK_inl, toL_some, toL_none, psum_nil, psum_int, psum_ref, psum_null, psum_long, Nat.zero_le, Nat.reduceAdd, Nat.reduceLeDiff, kl_int, kl_ref, kl_none, kl_null, kl_long]
  | succ k ih =>
    intro i S V hi h
    have hc := h
    obtain ⟨ht, hb, hP, hrk, hg, hp, hβ⟩ := h
    have hN := townR_N ht
    have h4 := ht.2.2.2.2.2.2.1
    have h45 := ht.2.2.2.2.2.2.2.2.1
    have hlN : i < N := by omega
    have hl : i < 3 := by omega
    have e : ¬ Int32.ofNat N ≤ Int32.ofNat i := fun q => absurd ((ofN_le (by omega) (by omega)).mp q) (by omega)
    obtain ⟨V1, p1, p2, p3⟩ := dg_sim (c := c) (C := C) (W := W) (R := R) hc hlN
    have hc1 := ctx_mk hc p1 (by
      unfold dg1
      split
      · exact sbt_home sbt_refl
      · exact sbt_br (sbt_home sbt_refl) hl) p2 hβ
    obtain ⟨V', q1, q2, q3⟩ := ih (i + 1) _ V1 (by omega) hc1
    refine ⟨V', ?_, sbt_trans p2 q2, fun d Q => ?_⟩
    · rw [show 3 - i = (3 - (i + 1)) + 1 by omega, dgS, h4, if_neg e]
      exact q1
    · rw [w141_46]
      simp only [↓w141_0, ↓w141_1, ↓w141_1i, ↓w141_2, ↓w141_5, ↓w141_6, ↓w141_7, ↓w141_10, ↓w141_11, ↓w141_12, ↓w141_15, ↓w141_16, ↓w141_17, ↓w141_18, ↓w141_19, ↓w141_22, ↓w141_25, ↓w141_28, ↓w141_31, ↓w141_32, ↓w141_35, ↓w141_36, ↓w141_37, ↓w141_38, ↓w141_41, ↓w141_44, ↓w141_45, ↓w141_47, ↓w141_48, ↓w141_51, ↓w141_54, ↓w141_57, ↓w141_58, ↓w141_61, ↓w141_62, ↓w141_63, ↓w141_64, ↓w141_65, ↓w141_68, ↓w141_69, ↓w141_70, ↓w141_73, ↓w141_76, ↓w141_77, ↓w141_78, ↓w141_79, ↓w141_80, ↓w141_81, ↓w141_84, ↓w141_87, ↓w141_90, ↓s_g0 hg, ↓s_g1 hg, ↓s_g2 hg, ↓s_g3 hg, ↓s_g4 hg, ↓s_g5 hg, ↓s_g6 hg, ↓s_g7 hg, ↓s_g8 hg, ↓s_g9 hg, ↓s_g10 hg, ↓s_g11 hg, ↓s_g12 hg, ↓s_g13 hg, ↓s_g14 hg, ↓s_g15 hg, ↓s_g16 hg, ↓s_g17 hg, ↓s_g18 hg, ↓s_g19 hg, ↓s_g20 hg, ↓s_p0 hg, ↓s_p1 hg, ↓s_p3 hg, s_r hg, ↓s_can_a hg hl, ↓s_can_s hg hl, ↓s_place_a hg hl, ↓s_place_s hg hl, ↓s_round_a hg hl, ↓s_round_s hg hl, ↓s_begun_a hg hl, ↓s_begun_s hg hl, ↓s_busy_a hg hl, ↓s_busy_s hg hl, ↓s_noted_a hg hl, ↓s_noted_s hg hl, ↓s_depth_a hg hl, ↓s_depth_s hg hl, ↓m0_g0, ↓m0_g1, ↓m0_g2, ↓m0_g3, ↓m0_g4, ↓m0_g5, ↓m0_g6, ↓m0_g7, ↓m0_g8, ↓m0_g9, ↓m0_g10, ↓m0_g11, ↓m0_g12, ↓m0_g13, ↓m0_g14, ↓m0_g15, ↓m0_p0, ↓m0_p2, ↓m0_p3, ↓m0_p8, ↓m0_p9, ↓m0_p12, m0_r, ↓m_hired_a hl, h45, e, p3, ofN_a1, icond_lt, icond_le, icond_gt, icond_ge, icond_eq, icond_ne, narrow_bool, true_or, or_true, if_true, if_false, cK_inl, toL_some, toL_none, psum_nil, psum_int, psum_ref, psum_null, psum_long, Nat.zero_le, Nat.reduceAdd, Nat.reduceLeDiff, kl_int, kl_ref, kl_none, kl_null, kl_long, su_at, sr_at, Nat.reduceEqDiff, Nat.add_eq_left, Nat.add_right_cancel_iff, and_false, false_and, and_true, true_and, and_self, if_true, if_false, ↓reduceIte]
      exact q3 d Q
theorem r141_lamp : ∀ (k i : Nat) (S V : S3), i + k = M → ctx g b pl M A NR N β rk nt P S V →
    ∃ V', townR g b M A NR N β rk nt P (dgS g b 3 0 (dlS g (Int32.ofNat M) (10 - i) i S)) V' ∧ sameBut (pT g) V V' ∧
      ∀ (d : Nat) (Q : PO → Prop), Wp (d + 2) 141 17 [some (.ref (SA g)), some (.int (Int32.ofNat i))] [] (RP c C V W pl P R) Q = Q (.inl none, RP c C V' W pl P R) := by
  intro k
  induction k with
  | zero =>
    intro i S V hi h
    obtain ⟨V', q1, q2, q3⟩ := r141_lig (c := c) (C := C) (W := W) (R := R) N 0 S V (by omega) h
    obtain ⟨ht, hb, hP, hrk, hg, hp, hβ⟩ := h
    have hM := hb.1.2.1
    have hM10 := hb.1.2.2
    have e : Int32.ofNat M ≤ Int32.ofNat i := (ofN_le (by omega) (by omega)).mpr (by omega)
    refine ⟨V', ?_, q2, fun d Q => ?_⟩
    · cases h3 : 10 - i with
      | zero => exact q1
      | succ m => rw [dlS, if_pos e]; exact q1
    · have q4 : Wp (d + 2) 141 46 [some (.ref (SA g)), some (.int 0)] [] (RP c C V W pl P R) Q = Q (.inl none, RP c C V' W pl P R) := q3 d Q
      rw [w141_17]
      simp only [↓w141_0, ↓w141_1, ↓w141_1i, ↓w141_2, ↓w141_5, ↓w141_6, ↓w141_7, ↓w141_10, ↓w141_11, ↓w141_12, ↓w141_15, ↓w141_16, ↓w141_18, ↓w141_19, ↓w141_22, ↓w141_25, ↓w141_28, ↓w141_31, ↓w141_32, ↓w141_35, ↓w141_36, ↓w141_37, ↓w141_38, ↓w141_41, ↓w141_44, ↓w141_45, ↓w141_47, ↓w141_48, ↓w141_51, ↓w141_54, ↓w141_57, ↓w141_58, ↓w141_61, ↓w141_62, ↓w141_63, ↓w141_64, ↓w141_65, ↓w141_68, ↓w141_69, ↓w141_70, ↓w141_73, ↓w141_76, ↓w141_77, ↓w141_78, ↓w141_79, ↓w141_80, ↓w141_81, ↓w141_84, ↓w141_87, ↓w141_90, ↓s_g0 hg, ↓s_g1 hg, ↓s_g2 hg, ↓s_g3 hg, ↓s_g4 hg, ↓s_g5 hg, ↓s_g6 hg, ↓s_g7 hg, ↓s_g8 hg, ↓s_g9 hg, ↓s_g10 hg, ↓s_g11 hg, ↓s_g12 hg, ↓s_g13 hg, ↓s_g14 hg, ↓s_g15 hg, ↓s_g16 hg, ↓s_g17 hg, ↓s_g18 hg, ↓s_g19 hg, ↓s_g20 hg, ↓s_p0 hg, ↓s_p1 hg, ↓s_p3 hg, s_r hg, ↓m0_g0, ↓m0_g1, ↓m0_g2, ↓m0_g3, ↓m0_g4, ↓m0_g5, ↓m0_g6, ↓m0_g7, ↓m0_g8, ↓m0_g9, ↓m0_g10, ↓m0_g11, ↓m0_g12, ↓m0_g13, ↓m0_g14, ↓m0_g15, ↓m0_p0, ↓m0_p2, ↓m0_p3, ↓m0_p8, ↓m0_p9, ↓m0_p12, m0_r, hP, ↓pl_g0 hp, ↓pl_g1 hp, ↓pl_g2 hp, ↓pl_g3 hp, ↓pl_g4 hp, ↓pl_g5 hp, ↓pl_g6 hp, ↓pl_g7 hp, ↓pl_g8 hp, ↓pl_g9 hp, ↓pl_g10 hp, ↓pl_g11 hp, ↓pl_g12 hp, ↓pl_g13 hp, ↓pl_g14 hp, ↓pl_g15 hp, ↓pl_g16 hp, ↓pl_g17 hp, ↓pl_g18 hp, ↓pl_g19 hp, ↓pl_g20 hp, ↓pl_g21 hp, pl_r hp, hM, e, q4, icond_lt, icond_le, icond_gt, icond_ge, icond_eq, icond_ne, narrow_bool, true_or, or_true, if_true, if_false, cK_inl, toL_some, toL_none, psum_nil, psum_int, psum_ref, psum_null, psum_long, Nat.zero_le, Nat.reduceAdd, Nat.reduceLeDiff, kl_int, kl_ref, kl_none, kl_null, kl_long]
  | succ k ih =>
    intro i S V hi h
    have hc := h
    obtain ⟨ht, hb, hP, hrk, hg, hp, hβ⟩ := h
    have hM := hb.1.2.1
    have hM10 := hb.1.2.2
    have hi10 : i < 10 := by omega
    have e : ¬ Int32.ofNat M ≤ Int32.ofNat i := fun q => absurd ((ofN_le (by omega) (by omega)).mp q) (by omega)
    have hc1 := ctx_mk hc (townR_lit (i := i) (x := 0) ht (Or.inl rfl)) (sbt_su sbt_refl (pT_v (by decide))) (sbt_su sbt_refl (pT_v (by decide))) hβ
    obtain ⟨V', q1, q2, q3⟩ := ih (i + 1) _ _ (by omega) hc1
    refine ⟨V', ?_, sbt_trans (sbt_su sbt_refl (pT_v (by decide))) q2, fun d Q => ?_⟩
    · rw [show 10 - i = (10 - (i + 1)) + 1 by omega, dlS, if_neg e]
      exact q1
    · rw [w141_17]
      simp only [↓w141_0, ↓w141_1, ↓w141_1i, ↓w141_2, ↓w141_5, ↓w141_6, ↓w141_7, ↓w141_10, ↓w141_11, ↓w141_12, ↓w141_15, ↓w141_16, ↓w141_18, ↓w141_19, ↓w141_22, ↓w141_25, ↓w141_28, ↓w141_31, ↓w141_32, ↓w141_35, ↓w141_36, ↓w141_37, ↓w141_38, ↓w141_41, ↓w141_44, ↓w141_45, ↓w141_47, ↓w141_48, ↓w141_51, ↓w141_54, ↓w141_57, ↓w141_58, ↓w141_61, ↓w141_62, ↓w141_63, ↓w141_64, ↓w141_65, ↓w141_68, ↓w141_69, ↓w141_70, ↓w141_73, ↓w141_76, ↓w141_77, ↓w141_78, ↓w141_79, ↓w141_80, ↓w141_81, ↓w141_84, ↓w141_87, ↓w141_90, ↓s_g0 hg, ↓s_g1 hg, ↓s_g2 hg, ↓s_g3 hg, ↓s_g4 hg, ↓s_g5 hg, ↓s_g6 hg, ↓s_g7 hg, ↓s_g8 hg, ↓s_g9 hg, ↓s_g10 hg, ↓s_g11 hg, ↓s_g12 hg, ↓s_g13 hg, ↓s_g14 hg, ↓s_g15 hg, ↓s_g16 hg, ↓s_g17 hg, ↓s_g18 hg, ↓s_g19 hg, ↓s_g20 hg, ↓s_p0 hg, ↓s_p1 hg, ↓s_p3 hg, s_r hg, ↓s_lit_s hg hi10, ↓m0_g0, ↓m0_g1, ↓m0_g2, ↓m0_g3, ↓m0_g4, ↓m0_g5, ↓m0_g6, ↓m0_g7, ↓m0_g8, ↓m0_g9, ↓m0_g10, ↓m0_g11, ↓m0_g12, ↓m0_g13, ↓m0_g14, ↓m0_g15, ↓m0_p0, ↓m0_p2, ↓m0_p3, ↓m0_p8, ↓m0_p9, ↓m0_p12, m0_r, hP, ↓pl_g0 hp, ↓pl_g1 hp, ↓pl_g2 hp, ↓pl_g3 hp, ↓pl_g4 hp, ↓pl_g5 hp, ↓pl_g6 hp, ↓pl_g7 hp, ↓pl_g8 hp, ↓pl_g9 hp, ↓pl_g10 hp, ↓pl_g11 hp, ↓pl_g12 hp, ↓pl_g13 hp, ↓pl_g14 hp, ↓pl_g15 hp, ↓pl_g16 hp, ↓pl_g17 hp, ↓pl_g18 hp, ↓pl_g19 hp, ↓pl_g20 hp, ↓pl_g21 hp, pl_r hp, hM, e, ofN_a1, icond_lt, icond_le, icond_gt, icond_ge, icond_eq, icond_ne, narrow_bool, true_or, or_true, if_true, if_false, cK_inl, toL_some, toL_none, psum_nil, psum_int, psum_ref, psum_null, psum_long, Nat.zero_le, Nat.reduceAdd, Nat.reduceLeDiff, kl_int, kl_ref, kl_none, kl_null, kl_long, su_at, sr_at, Nat.reduceEqDiff, Nat.add_eq_left, Nat.add_right_cancel_iff, and_false, false_and, and_true, true_and, and_self, if_true, if_false, ↓reduceIte]
      exact q3 d Q
theorem r141 (h : ctx g b pl M A NR N β rk nt P S V) :
    ∃ V', townR g b M A NR N β rk nt P (dawnS g b S) V' ∧ sameBut (pT g) V V' ∧
      ∀ (d : Nat) (Q : PO → Prop), Cp (d + 3) 141 [.ref (SA g)] (RP c C V W pl P R) Q = Q (.inl none, RP c C V' W pl P R) := by
  have hc := h
  obtain ⟨ht, hb, hP, hrk, hg, hp, hβ⟩ := h
  have a0 := ht.1.1 0 (by omega)
  have hSM := hb.1.1
  have t1 : townR g b M A NR N β rk nt P (su (su S g 1 0 0) g 0 0 (S g 0 0 + 1)) (su (su V g 0 0 (V g 0 0 + 1)) g 1 0 0) := by
    rw [su_comm (v := 0) (by decide), a0]
    exact townR_sv (townR_sv ht (by omega)) (by omega)
  have s1 : sameBut (pT g) V (su (su V g 0 0 (V g 0 0 + 1)) g 1 0 0) := sbt_su (sbt_su sbt_refl (pT_v (by decide))) (pT_v (by decide))
  obtain ⟨V', q1, q2, q3⟩ := r141_lamp (c := c) (C := C) (W := W) (R := R) M 0 _ _ (by omega) (ctx_mk hc t1 (sbt_su (sbt_su sbt_refl (pT_v (by decide))) (pT_v (by decide))) s1 hβ)
  refine ⟨V', ?_, sbt_trans s1 q2, fun d Q => ?_⟩
  · unfold dawnS
    rw [hSM]
    exact q1
  · have q4 : Wp (d + 2) 141 17 [some (.ref (SA g)), some (.int 0)] [] (RP c C (su (su V g 0 0 (V g 0 0 + 1)) g 1 0 0) W pl P R) Q = Q (.inl none, RP c C V' W pl P R) := q3 d Q
    simp only [ce141, ↓w141_0, ↓w141_1, ↓w141_1i, ↓w141_2, ↓w141_5, ↓w141_6, ↓w141_7, ↓w141_10, ↓w141_11, ↓w141_12, ↓w141_15, ↓w141_16, ↓w141_18, ↓w141_19, ↓w141_22, ↓w141_25, ↓w141_28, ↓w141_31, ↓w141_32, ↓w141_35, ↓w141_36, ↓w141_37, ↓w141_38, ↓w141_41, ↓w141_44, ↓w141_45, ↓w141_47, ↓w141_48, ↓w141_51, ↓w141_54, ↓w141_57, ↓w141_58, ↓w141_61, ↓w141_62, ↓w141_63, ↓w141_64, ↓w141_65, ↓w141_68, ↓w141_69, ↓w141_70, ↓w141_73, ↓w141_76, ↓w141_77, ↓w141_78, ↓w141_79, ↓w141_80, ↓w141_81, ↓w141_84, ↓w141_87, ↓w141_90, ↓s_g0 hg, ↓s_g1 hg, ↓s_g2 hg, ↓s_g3 hg, ↓s_g4 hg, ↓s_g5 hg, ↓s_g6 hg, ↓s_g7 hg, ↓s_g8 hg, ↓s_g9 hg, ↓s_g10 hg, ↓s_g11 hg, ↓s_g12 hg, ↓s_g13 hg, ↓s_g14 hg, ↓s_g15 hg, ↓s_g16 hg, ↓s_g17 hg, ↓s_g18 hg, ↓s_g19 hg, ↓s_g20 hg, ↓s_p0 hg, ↓s_p1 hg, ↓s_p3 hg, s_r hg, q4, icond_lt, icond_le, icond_gt, icond_ge, icond_eq, icond_ne, narrow_bool, true_or, or_true, if_true, if_false, cK_inl, toL_some, toL_none, psum_nil, psum_int, psum_ref, psum_null, psum_long, Nat.zero_le, Nat.reduceAdd, Nat.reduceLeDiff, kl_int, kl_ref, kl_none, kl_null, kl_long, su_at, sr_at, Nat.reduceEqDiff, Nat.add_eq_left, Nat.add_right_cancel_iff, and_false, false_and, and_true, true_and, and_self, if_true, if_false, ↓reduceIte]
end SIMG
