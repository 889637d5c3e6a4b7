/-! CLASS AND REFERENCE: a quarter, many quarters -/
section SIMI
variable {c : Nat × Nat × Nat} {C : Nat → Option PC} {W : L3} {R : Nat → Option PC} {S V P : S3} {g b pl M N A NR β : Nat} {x y : Int32} {rk : Nat → Nat} {nt : Prop}
theorem r142_lig : ∀ (k i : Nat) (S V : S3) (β : Nat), i + k = N → ctx g b pl M A NR N β rk nt P S V → β + 30 * k < 2 ^ 30 →
    ∃ V', townR g b M A NR N (β + 30 * k) rk nt P (wlS g b (3 - i) i S) V' ∧ sameBut (pT g) V V' ∧
      ∀ (d : Nat) (a : Int32) (Q : PO → Prop), Wp (d + 12) 142 9 [some (.ref (SA g)), some (.int 0), some (.int a), some (.int (Int32.ofNat i)), none] [] (RP c C V W pl P R) Q = Wp (d + 12) 142 37 [some (.ref (SA g)), some (.int 0), some (.int a), some (.int 0), none] [] (RP c C V' W pl P R) Q := by
  intro k
  induction k with
  | zero =>
    intro i S V β hi h hβ
    obtain ⟨ht, hb, hP, hrk, hg, hp, hβ0⟩ := h
    have hN := townR_N ht
    have h4 := ht.2.2.2.2.2.2.1
    have h45 := ht.2.2.2.2.2.2.2.2.1
    have e : Int32.ofNat N ≤ Int32.ofNat i := (ofN_le (by omega) (by omega)).mpr (by omega)
    refine ⟨V, ?_, sbt_refl, fun d a Q => ?_⟩
    · cases h3 : 3 - i with
      | zero => exact ht
      | succ m => rw [wlS, h4, if_pos e]; exact ht
    · simp only [↓w142_9, ↓w142_10, ↓w142_11, ↓w142_14, ↓w142_17, ↓w142_35, ↓w142_36, ↓s_g0 hg, ↓s_g1 hg, ↓s_g2 hg, ↓s_g3 hg, ↓s_g4 hg, ↓s_g5 hg, ↓s_g6 hg, ↓s_g7 hg, ↓s_g8 hg, ↓s_g9 hg, ↓s_g10 hg, ↓s_g11 hg, ↓s_g12 hg, ↓s_g13 hg, ↓s_g14 hg, ↓s_g15 hg, ↓s_g16 hg, ↓s_g17 hg, ↓s_g18 hg, ↓s_g19 hg, ↓s_g20 hg, ↓s_p0 hg, ↓s_p1 hg, ↓s_p3 hg, s_r hg, ↓m0_g0, ↓m0_g1, ↓m0_g2, ↓m0_g3, ↓m0_g4, ↓m0_g5, ↓m0_g6, ↓m0_g7, ↓m0_g8, ↓m0_g9, ↓m0_g10, ↓m0_g11, ↓m0_g12, ↓m0_g13, ↓m0_g14, ↓m0_g15, ↓m0_p0, ↓m0_p2, ↓m0_p3, ↓m0_p8, ↓m0_p9, ↓m0_p12, m0_r, h45, e, icond_lt, icond_le, icond_gt, icond_ge, icond_eq, icond_ne, narrow_bool, true_or, or_true, if_true, if_false, cK_inl, toL_some, toL_none, psum_nil, psum_int, psum_ref, psum_null, psum_long, Nat.zero_le, Nat.reduceAdd, Nat.reduceLeDiff, kl_int, kl_ref, kl_none, kl_null, kl_long]
  | succ k ih =>
    intro i S V β hi h hβ
    have hc := h
    obtain ⟨ht, hb, hP, hrk, hg, hp, hβ0⟩ := h
    have hN := townR_N ht
    have h4 := ht.2.2.2.2.2.2.1
    have h45 := ht.2.2.2.2.2.2.2.2.1
    have hlN : i < N := by omega
    have hl : i < 3 := by omega
    have e : ¬ Int32.ofNat N ≤ Int32.ofNat i := fun q => absurd ((ofN_le (by omega) (by omega)).mp q) (by omega)
    obtain ⟨V1, p1, p2, p3⟩ := r140 (c := c) (C := C) (W := W) (R := R) hc hlN (by omega)
    have hc1 := ctx_mk hc p1 (sbt_wk hl sbt_refl) p2 (by omega)
    obtain ⟨V', q1, q2, q3⟩ := ih (i + 1) _ V1 (β + 30) (by omega) hc1 (by omega)
    rw [show β + 30 + 30 * k = β + 30 * (k + 1) by omega] at q1
    refine ⟨V', ?_, sbt_trans p2 q2, fun d a Q => ?_⟩
    · rw [show 3 - i = (3 - (i + 1)) + 1 by omega, wlS, h4, if_neg e]
      exact q1
    · rw [w142_9]
      simp only [↓w142_10, ↓w142_11, ↓w142_14, ↓w142_17, ↓w142_20, ↓w142_21, ↓w142_24, ↓w142_25, ↓w142_26, ↓w142_29, ↓w142_32, ↓s_g0 hg, ↓s_g1 hg, ↓s_g2 hg, ↓s_g3 hg, ↓s_g4 hg, ↓s_g5 hg, ↓s_g6 hg, ↓s_g7 hg, ↓s_g8 hg, ↓s_g9 hg, ↓s_g10 hg, ↓s_g11 hg, ↓s_g12 hg, ↓s_g13 hg, ↓s_g14 hg, ↓s_g15 hg, ↓s_g16 hg, ↓s_g17 hg, ↓s_g18 hg, ↓s_g19 hg, ↓s_g20 hg, ↓s_p0 hg, ↓s_p1 hg, ↓s_p3 hg, s_r hg, ↓m0_g0, ↓m0_g1, ↓m0_g2, ↓m0_g3, ↓m0_g4, ↓m0_g5, ↓m0_g6, ↓m0_g7, ↓m0_g8, ↓m0_g9, ↓m0_g10, ↓m0_g11, ↓m0_g12, ↓m0_g13, ↓m0_g14, ↓m0_g15, ↓m0_p0, ↓m0_p2, ↓m0_p3, ↓m0_p8, ↓m0_p9, ↓m0_p12, m0_r, h45, e, p3, ofN_a1, icond_lt, icond_le, icond_gt, icond_ge, icond_eq, icond_ne, narrow_bool, true_or, or_true, if_true, if_false, cK_inl, toL_some, toL_none, psum_nil, psum_int, psum_ref, psum_null, psum_long, Nat.zero_le, Nat.reduceAdd, Nat.reduceLeDiff, kl_int, kl_ref, kl_none, kl_null, kl_long, ne_eq, not_true]
      exact q3 d a Q
/-- the end of a quarter -/
theorem r142_end (h : ctx g b pl M A NR N β rk nt P S V) :
    ∃ V', townR g b M A NR N β rk nt P (qeS g b S) V' ∧ sameBut (pT g) V V' ∧
      ∀ (d : Nat) (x1 a x3 : Int32) (l4 : Option Value) (Q : PO → Prop), Wp (d + 12) 142 107 [some (.ref (SA g)), some (.int x1), some (.int a), some (.int x3), l4] [] (RP c C V W pl P R) Q = Q (.inl (some (.int a)), RP c C V' W pl P R) := by
  have hc := h
  obtain ⟨ht, hb, hP, hrk, hg, hp, hβ0⟩ := h
  have a1 := ht.1.1 1 (by omega)
  unfold qeS
  rw [a1]
  have t1 : townR g b M A NR N β rk nt P (su S g 1 0 (V g 1 0 + 1)) (su V g 1 0 (V g 1 0 + 1)) := townR_sv ht (by omega)
  by_cases e : V g 1 0 + 1 = 40
  · rw [if_pos e]
    obtain ⟨V', q1, q2, q3⟩ := r141 (c := c) (C := C) (W := W) (R := R) (ctx_mk hc t1 (sbt_su sbt_refl (pT_v (by decide))) (sbt_su sbt_refl (pT_v (by decide))) hβ0)
    refine ⟨V', q1, sbt_trans (sbt_su sbt_refl (pT_v (by decide))) q2, fun d x1 a x3 l4 Q => ?_⟩
    rw [e] at q3
    simp only [↓w142_107, ↓w142_108, ↓w142_108i, ↓w142_109, ↓w142_112, ↓w142_113, ↓w142_114, ↓w142_117, ↓w142_118, ↓w142_121, ↓w142_123, ↓w142_126, ↓w142_127, ↓w142_130, ↓w142_131, ↓s_g0 hg, ↓s_g1 hg, ↓s_g2 hg, ↓s_g3 hg, ↓s_g4 hg, ↓s_g5 hg, ↓s_g6 hg, ↓s_g7 hg, ↓s_g8 hg, ↓s_g9 hg, ↓s_g10 hg, ↓s_g11 hg, ↓s_g12 hg, ↓s_g13 hg, ↓s_g14 hg, ↓s_g15 hg, ↓s_g16 hg, ↓s_g17 hg, ↓s_g18 hg, ↓s_g19 hg, ↓s_g20 hg, ↓s_p0 hg, ↓s_p1 hg, ↓s_p3 hg, s_r hg, e, q3, icond_lt, icond_le, icond_gt, icond_ge, icond_eq, icond_ne, narrow_bool, true_or, or_true, if_true, if_false, cK_inl, toL_some, toL_none, psum_nil, psum_int, psum_ref, psum_null, psum_long, Nat.zero_le, Nat.reduceAdd, Nat.reduceLeDiff, kl_int, kl_ref, kl_none, kl_null, kl_long, su_at, sr_at, Nat.reduceEqDiff, Nat.add_eq_left, Nat.add_right_cancel_iff, and_false, false_and, and_true, true_and, and_self, if_true, if_false, ↓reduceIte, ne_eq, not_true]
  · rw [if_neg e]
    refine ⟨_, t1, sbt_su sbt_refl (pT_v (by decide)), fun d x1 a x3 l4 Q => ?_⟩
    simp only [↓w142_107, ↓w142_108, ↓w142_108i, ↓w142_109, ↓w142_112, ↓w142_113, ↓w142_114, ↓w142_117, ↓w142_118, ↓w142_121, ↓w142_123, ↓w142_126, ↓w142_127, ↓w142_130, ↓w142_131, ↓s_g0 hg, ↓s_g1 hg, ↓s_g2 hg, ↓s_g3 hg, ↓s_g4 hg, ↓s_g5 hg, ↓s_g6 hg, ↓s_g7 hg, ↓s_g8 hg, ↓s_g9 hg, ↓s_g10 hg, ↓s_g11 hg, ↓s_g12 hg, ↓s_g13 hg, ↓s_g14 hg, ↓s_g15 hg, ↓s_g16 hg, ↓s_g17 hg, ↓s_g18 hg, ↓s_g19 hg, ↓s_g20 hg, ↓s_p0 hg, ↓s_p1 hg, ↓s_p3 hg, s_r hg, e, icond_lt, icond_le, icond_gt, icond_ge, icond_eq, icond_ne, narrow_bool, true_or, or_true, if_true, if_false, cK_inl, toL_some, toL_none, psum_nil, psum_int, psum_ref, psum_null, psum_long, Nat.zero_le, Nat.reduceAdd, Nat.reduceLeDiff, kl_int, kl_ref, kl_none, kl_null, kl_long, su_at, sr_at, Nat.reduceEqDiff, Nat.add_eq_left, Nat.add_right_cancel_iff, and_false, false_and, and_true, true_and, and_self, if_true, if_false, ↓reduceIte, ne_eq, not_false_eq_true]
theorem restS_eq (h : townR g b M A NR N β rk nt P S V) : restS S g = restS V g := by
  unfold restS
  rw [h.1.1 3 (by omega), h.1.1 0 (by omega)]
theorem r142 (h : ctx g b pl M A NR N β rk nt P S V) (hβ : β + 90 < 2 ^ 30) :
    ∃ V', townR g b M A NR N (β + 90) rk nt P (qtS g b S).2 V' ∧ sameBut (pT g) V V' ∧
      ∀ (d : Nat) (Q : PO → Prop), Cp (d + 13) 142 [.ref (SA g)] (RP c C V W pl P R) Q = Q (.inl (some (.int (qtS g b S).1)), RP c C V' W pl P R) := by
  have hc := h
  obtain ⟨ht, hb, hP, hrk, hg, hp, hβ0⟩ := h
  have hN := townR_N ht
  have hM10 := hb.1.2.2
  have er := restS_eq ht
  have hSM := hb.1.1
  by_cases e : restS S g = 0
  · obtain ⟨V1, p1, p2, p3⟩ := r142_lig (c := c) (C := C) (W := W) (R := R) N 0 S V β (by omega) hc (by omega)
    have hw : sameBut (pT g) S (wlS g b 3 0 S) := sbt_wl rfl sbt_refl
    have p1' : townR g b M A NR N (β + 90) rk nt P (wlS g b 3 0 S) V1 := townR_mono p1 (by omega)
    have hc1 := ctx_mk hc p1' hw p2 hβ
    obtain ⟨V2, l4', q1, q2, q3⟩ := r142_lamp (c := c) (C := C) (W := W) (R := R) (off := false) (x1 := 0) rfl M 0 0 0 _ _ none (by omega) hc1 (Or.inl rfl)
    have eM : (wlS g b 3 0 S) (2 + b) 100 0 = Int32.ofNat M := hc1.2.1.1.1
    have k1 := cm_on (g := g) M 0 0 (wlS g b 3 0 S)
    have eC : dqS g b S = cdK g M 0 0 (wlS g b 3 0 S) := by
      unfold dqS
      rw [eM]
      exact cdS_K hM10 M 0 0 _ (by omega)
    have eM2 : (cdK g M 0 0 (wlS g b 3 0 S)).2 (2 + b) 100 0 = Int32.ofNat M := by
      rw [← eC]
      have := sbt_cd (g := g) (M := (wlS g b 3 0 S) (2 + b) 100 0) (k := 10) (i := 0) (a := 0) (S := wlS g b 3 0 S) sbt_refl (2 + b) 100 (fun q => by have := q.2.1; omega)
      unfold dqS
      rw [this]
      exact eM
    have eQ : qtS g b S = ((cmS false g M 0 0 (wlS g b 3 0 S)).1, qeS g b (cmS false g M 0 0 (wlS g b 3 0 S)).2) := by
      unfold qtS
      rw [if_pos e, eC, eM2, show (10 : Nat) = 10 - 0 from rfl, baS_K hM10 M 0 _ (by omega), k1.1, k1.2]
    have hs2 : sameBut (pT g) (wlS g b 3 0 S) (cmS false g M 0 0 (wlS g b 3 0 S)).2 := by
      rw [← k1.2, ← baS_K hM10 M 0 _ (by omega), ← cdS_K hM10 M 0 0 _ (by omega)]
      exact sbt_ba (sbt_cd sbt_refl)
    obtain ⟨V3, r1, r2, r3⟩ := r142_end (c := c) (C := C) (W := W) (R := R) (ctx_mk hc1 q1 hs2 q2 hβ)
    rw [eQ]
    refine ⟨V3, r1, sbt_trans p2 (sbt_trans q2 r2), fun d Q => ?_⟩
    have e2 : restS V g = 0 := by rw [← er]; exact e
    have p4 : ∀ (a : Int32), Wp (d + 12) 142 9 [some (.ref (SA g)), some (.int 0), some (.int a), some (.int 0), none] [] (RP c C V W pl P R) Q = Wp (d + 12) 142 37 [some (.ref (SA g)), some (.int 0), some (.int a), some (.int 0), none] [] (RP c C V1 W pl P R) Q := fun a => p3 d a Q
    have q4 : Wp (d + 12) 142 37 [some (.ref (SA g)), some (.int 0), some (.int 0), some (.int 0), none] [] (RP c C V1 W pl P R) Q = Wp (d + 12) 142 107 [some (.ref (SA g)), some (.int 0), some (.int (cmS false g M 0 0 (wlS g b 3 0 S)).1), some (.int (Int32.ofNat M)), l4'] [] (RP c C V2 W pl P R) Q := q3 (d + 10) Q
    simp only [ce142, ↓w142_0, ↓w142_1, ↓w142_4, ↓w142_5, ↓w142_6, ↓w142_7, ↓w142_8, ↓s_g0 hg, ↓s_g1 hg, ↓s_g2 hg, ↓s_g3 hg, ↓s_g4 hg, ↓s_g5 hg, ↓s_g6 hg, ↓s_g7 hg, ↓s_g8 hg, ↓s_g9 hg, ↓s_g10 hg, ↓s_g11 hg, ↓s_g12 hg, ↓s_g13 hg, ↓s_g14 hg, ↓s_g15 hg, ↓s_g16 hg, ↓s_g17 hg, ↓s_g18 hg, ↓s_g19 hg, ↓s_g20 hg, ↓s_p0 hg, ↓s_p1 hg, ↓s_p3 hg, s_r hg, r128 hg, e2, p4, icond_lt, icond_le, icond_gt, icond_ge, icond_eq, icond_ne, narrow_bool, true_or, or_true, if_true, if_false, cK_inl, toL_some, toL_none, psum_nil, psum_int, psum_ref, psum_null, psum_long, Nat.zero_le, Nat.reduceAdd, Nat.reduceLeDiff, kl_int, kl_ref, kl_none, kl_null, kl_long]
    rw [q4, r3]
  · obtain ⟨V2, l4', q1, q2, q3⟩ := r142_lamp (c := c) (C := C) (W := W) (R := R) (off := true) (x1 := 1) rfl M 0 0 0 _ _ none (by omega) hc (Or.inl rfl)
    have k1 := cm_off (g := g) M 0 0 S
    have eQ : qtS g b S = ((cmS true g M 0 0 S).1, qeS g b (cmS true g M 0 0 S).2) := by
      unfold qtS
      rw [if_neg e, hSM, k1, show (10 : Nat) = 10 - 0 from rfl, baS_K hM10 M 0 _ (by omega)]
    have hs2 : sameBut (pT g) S (cmS true g M 0 0 S).2 := by
      rw [k1, ← baS_K hM10 M 0 _ (by omega)]
      exact sbt_ba sbt_refl
    obtain ⟨V3, r1, r2, r3⟩ := r142_end (c := c) (C := C) (W := W) (R := R) (ctx_mk hc q1 hs2 q2 hβ0)
    rw [eQ]
    refine ⟨V3, townR_mono r1 (by omega), sbt_trans q2 r2, fun d Q => ?_⟩
    have e1 : restS V g = 1 := by
      rw [← er]
      exact rest_01.resolve_left e
    have h45 := ht.2.2.2.2.2.2.2.2.1
    have q4 : Wp (d + 12) 142 37 [some (.ref (SA g)), some (.int 1), some (.int 0), some (.int 0), none] [] (RP c C V W pl P R) Q = Wp (d + 12) 142 107 [some (.ref (SA g)), some (.int 1), some (.int (cmS true g M 0 0 S).1), some (.int (Int32.ofNat M)), l4'] [] (RP c C V2 W pl P R) Q := q3 (d + 10) Q
    by_cases e0 : Int32.ofNat N ≤ 0
    · simp only [ce142, ↓w142_0, ↓w142_1, ↓w142_4, ↓w142_5, ↓w142_6, ↓w142_7, ↓w142_8, ↓w142_9, ↓w142_10, ↓w142_11, ↓w142_14, ↓w142_17, ↓w142_35, ↓w142_36, ↓s_g0 hg, ↓s_g1 hg, ↓s_g2 hg, ↓s_g3 hg, ↓s_g4 hg, ↓s_g5 hg, ↓s_g6 hg, ↓s_g7 hg, ↓s_g8 hg, ↓s_g9 hg, ↓s_g10 hg, ↓s_g11 hg, ↓s_g12 hg, ↓s_g13 hg, ↓s_g14 hg, ↓s_g15 hg, ↓s_g16 hg, ↓s_g17 hg, ↓s_g18 hg, ↓s_g19 hg, ↓s_g20 hg, ↓s_p0 hg, ↓s_p1 hg, ↓s_p3 hg, s_r hg, ↓m0_g0, ↓m0_g1, ↓m0_g2, ↓m0_g3, ↓m0_g4, ↓m0_g5, ↓m0_g6, ↓m0_g7, ↓m0_g8, ↓m0_g9, ↓m0_g10, ↓m0_g11, ↓m0_g12, ↓m0_g13, ↓m0_g14, ↓m0_g15, ↓m0_p0, ↓m0_p2, ↓m0_p3, ↓m0_p8, ↓m0_p9, ↓m0_p12, m0_r, r128 hg, e1, h45, e0, icond_lt, icond_le, icond_gt, icond_ge, icond_eq, icond_ne, narrow_bool, true_or, or_true, if_true, if_false, cK_inl, toL_some, toL_none, psum_nil, psum_int, psum_ref, psum_null, psum_long, Nat.zero_le, Nat.reduceAdd, Nat.reduceLeDiff, kl_int, kl_ref, kl_none, kl_null, kl_long]
      rw [q4, r3]
    · simp +decide only [ce142, ↓w142_0, ↓w142_1, ↓w142_4, ↓w142_5, ↓w142_6, ↓w142_7, ↓w142_8, ↓w142_9, ↓w142_10, ↓w142_11, ↓w142_14, ↓w142_17, ↓w142_20, ↓w142_21, ↓w142_35, ↓w142_36, ↓s_g0 hg, ↓s_g1 hg, ↓s_g2 hg, ↓s_g3 hg, ↓s_g4 hg, ↓s_g5 hg, ↓s_g6 hg, ↓s_g7 hg, ↓s_g8 hg, ↓s_g9 hg, ↓s_g10 hg, ↓s_g11 hg, ↓s_g12 hg, ↓s_g13 hg, ↓s_g14 hg, ↓s_g15 hg, ↓s_g16 hg, ↓s_g17 hg, ↓s_g18 hg, ↓s_g19 hg, ↓s_g20 hg, ↓s_p0 hg, ↓s_p1 hg, ↓s_p3 hg, s_r hg, ↓m0_g0, ↓m0_g1, ↓m0_g2, ↓m0_g3, ↓m0_g4, ↓m0_g5, ↓m0_g6, ↓m0_g7, ↓m0_g8, ↓m0_g9, ↓m0_g10, ↓m0_g11, ↓m0_g12, ↓m0_g13, ↓m0_g14, ↓m0_g15, ↓m0_p0, ↓m0_p2, ↓m0_p3, ↓m0_p8, ↓m0_p9, ↓m0_p12, m0_r, r128 hg, e1, h45, e0, icond_lt, icond_le, icond_gt, icond_ge, icond_eq, icond_ne, narrow_bool, true_or, or_true, if_true, if_false, cK_inl, toL_some, toL_none, psum_nil, psum_int, psum_ref, psum_null, psum_long, Nat.zero_le, Nat.reduceAdd, Nat.reduceLeDiff, kl_int, kl_ref, kl_none, kl_null, kl_long]
      rw [q4, r3]
theorem r143_loop {n : Nat} (hn : n < 2 ^ 31) : ∀ (k m : Nat) (a : Int32) (S V : S3) (β : Nat), m + k = n → ctx g b pl M A NR N β rk nt P S V → β + 90 * k < 2 ^ 30 →
    ∃ V', townR g b M A NR N (β + 90 * k) rk nt P (psS g b k a S).2 V' ∧ sameBut (pT g) V V' ∧
      ∀ (d : Nat) (Q : PO → Prop), Wp (d + 13) 143 4 [some (.ref (SA g)), some (.int (Int32.ofNat n)), some (.int a), some (.int (Int32.ofNat m))] [] (RP c C V W pl P R) Q = Q (.inl (some (.int (psS g b k a S).1)), RP c C V' W pl P R) := by
  intro k
  induction k with
  | zero =>
    intro m a S V β hm h hβ
    have e : Int32.ofNat n ≤ Int32.ofNat m := (ofN_le (by omega) (by omega)).mpr (by omega)
    refine ⟨V, h.1, sbt_refl, fun d Q => ?_⟩
    simp only [↓w143_4, ↓w143_5, ↓w143_6, ↓w143_22, ↓w143_23, e, psS, icond_lt, icond_le, icond_gt, icond_ge, icond_eq, icond_ne, narrow_bool, true_or, or_true, if_true, if_false, cK_inl, toL_some, toL_none, psum_nil, psum_int, psum_ref, psum_null, psum_long, Nat.zero_le, Nat.reduceAdd, Nat.reduceLeDiff, kl_int, kl_ref, kl_none, kl_null, kl_long]
  | succ k ih =>
    intro m a S V β hm h hβ
    have hg := h.2.2.2.2.1
    have e : ¬ Int32.ofNat n ≤ Int32.ofNat m := fun q => absurd ((ofN_le (by omega) (by omega)).mp q) (by omega)
    obtain ⟨V1, p1, p2, p3⟩ := r142 (c := c) (C := C) (W := W) (R := R) h (by omega)
    have hc1 := ctx_mk h p1 (sbt_qt sbt_refl) p2 (by omega)
    obtain ⟨V', q1, q2, q3⟩ := ih (m + 1) (a + (qtS g b S).1) _ V1 (β + 90) (by omega) hc1 (by omega)
    rw [show β + 90 + 90 * k = β + 90 * (k + 1) by omega] at q1
    refine ⟨V', q1, sbt_trans p2 q2, fun d Q => ?_⟩
    rw [w143_4]
    simp only [↓w143_5, ↓w143_6, ↓w143_9, ↓w143_10, ↓w143_11, ↓w143_14, ↓w143_15, ↓w143_16, ↓w143_19, ↓s_g0 hg, ↓s_g1 hg, ↓s_g2 hg, ↓s_g3 hg, ↓s_g4 hg, ↓s_g5 hg, ↓s_g6 hg, ↓s_g7 hg, ↓s_g8 hg, ↓s_g9 hg, ↓s_g10 hg, ↓s_g11 hg, ↓s_g12 hg, ↓s_g13 hg, ↓s_g14 hg, ↓s_g15 hg, ↓s_g16 hg, ↓s_g17 hg, ↓s_g18 hg, ↓s_g19 hg, ↓s_g20 hg, ↓s_p0 hg, ↓s_p1 hg, ↓s_p3 hg, s_r hg, e, p3, ofN_a1, icond_lt, icond_le, icond_gt, icond_ge, icond_eq, icond_ne, narrow_bool, true_or, or_true, if_true, if_false, cK_inl, toL_some, toL_none, psum_nil, psum_int, psum_ref, psum_null, psum_long, Nat.zero_le, Nat.reduceAdd, Nat.reduceLeDiff, kl_int, kl_ref, kl_none, kl_null, kl_long]
    exact q3 d Q
theorem r143 {n : Nat} (h : ctx g b pl M A NR N β rk nt P S V) (hβ : β + 90 * n < 2 ^ 30) :
    ∃ V', townR g b M A NR N (β + 90 * n) rk nt P (psS g b n 0 S).2 V' ∧ sameBut (pT g) V V' ∧
      ∀ (d : Nat) (Q : PO → Prop), Cp (d + 14) 143 [.ref (SA g), .int (Int32.ofNat n)] (RP c C V W pl P R) Q = Q (.inl (some (.int (psS g b n 0 S).1)), RP c C V' W pl P R) := by
  obtain ⟨V', q1, q2, q3⟩ := r143_loop (c := c) (C := C) (W := W) (R := R) (n := n) (by omega) n 0 0 S V β (by omega) h hβ
  refine ⟨V', q1, q2, fun d Q => ?_⟩
  have q4 : Wp (d + 13) 143 4 [some (.ref (SA g)), some (.int (Int32.ofNat n)), some (.int 0), some (.int 0)] [] (RP c C V W pl P R) Q = Q (.inl (some (.int (psS g b n 0 S).1)), RP c C V' W pl P R) := q3 d Q
  simp only [ce143, ↓w143_0, ↓w143_1, ↓w143_2, ↓w143_3, cK_inl, toL_some, toL_none, psum_nil, psum_int, psum_ref, psum_null, psum_long, Nat.zero_le, Nat.reduceAdd, Nat.reduceLeDiff, kl_int, kl_ref, kl_none, kl_null, kl_long]
  exact q4
end SIMI
