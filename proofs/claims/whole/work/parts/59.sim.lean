/-! CLASS AND REFERENCE: choosing, ending, working -/
section SIME
variable {c : Nat × Nat × Nat} {C : Nat → Option PC} {W : L3} {R : Nat → Option PC} {g b pl M N A NR β : Nat} {P : S3} {rk : Nat → Nat} {nt : Prop}
theorem pT_v {v : Nat} (h : v < 60 ∧ v ≠ 4 ∧ v ≠ 10 ∧ v ≠ 11 ∧ v ≠ 19 ∧ v ≠ 3) : pT g g v := ⟨rfl, h⟩
/-- up to the next act, in both -/
theorem chA {l : Nat} (hlN : l < N) : ∀ (o : Nat) (S V : S3), ctx g b pl M A NR N β rk nt P S V → S g 15 l = -1 → S g 18 l = Int32.ofNat o → o ≤ 36 →
    ∃ V', townR g b M A NR N β rk nt P (naS g l b o S).2 V' ∧ sameBut (pT g) V V' ∧ V' g 15 l = -1 ∧
      ((naS g l b o S).1 = -1 → ∀ (d : Nat) (n : Int32) (l3 l4 : Option Value) (Q : PO → Prop), Wp (d + 9) 138 2 [some (.ref (SA g)), some (.int (Int32.ofNat l)), some (.int n), l3, l4] [] (RP c C V W pl P R) Q = Q (.inl none, RP c C V' W pl P R)) ∧
      (¬ (naS g l b o S).1 = -1 → ∃ a o', a < A ∧ (naS g l b o S).1 = Int32.ofNat a ∧ (naS g l b o S).2 g 18 l = Int32.ofNat o' ∧ o' ≤ 36 ∧ rk a + o' ≤ 36 ∧
        ∀ (d : Nat) (n : Int32) (l3 l4 : Option Value) (Q : PO → Prop), Wp (d + 9) 138 2 [some (.ref (SA g)), some (.int (Int32.ofNat l)), some (.int n), l3, l4] [] (RP c C V W pl P R) Q = Wp (d + 9) 138 35 [some (.ref (SA g)), some (.int (Int32.ofNat l)), some (.int n), some (.int (Int32.ofNat a)), l4] [] (RP c C V' W pl P R) Q) := by
  intro o
  induction o with
  | zero =>
    intro S V h h15 h18 _
    obtain ⟨ht, hb, hP, hrk, hg, hp, hβ⟩ := h
    have hN : N ≤ 3 := ht.2.2.2.2.2.2.2.1
    have hl : l < 3 := by omega
    have v15 : V g 15 l = -1 := by rw [← ht.1.2.2 15 l (by omega) (by omega) hlN]; exact h15
    have v18 : V g 18 l = Int32.ofNat 0 := by rw [← ht.1.2.2 18 l (by omega) (by omega) hlN]; exact h18
    refine ⟨V, ht, sbt_refl, v15, fun _ d n l3 l4 Q => ?_, fun q => absurd rfl q⟩
    have e0 : Int32.ofNat 0 ≤ 0 := by decide
    rw [w138_2]
    simp only [↓w138_0, ↓w138_1, ↓w138_3, ↓w138_6, ↓w138_7, ↓w138_8, ↓w138_9, ↓w138_12, ↓w138_13, ↓w138_16, ↓w138_17, ↓w138_18, ↓w138_21, ↓w138_22, ↓w138_23, ↓w138_26, ↓w138_27, ↓w138_28, ↓w138_29, ↓w138_32, ↓w138_35, ↓w138_36, ↓w138_37, ↓w138_38, ↓w138_41, ↓w138_43, ↓w138_45, ↓w138_48, ↓w138_49, ↓w138_52, ↓w138_53, ↓w138_54, ↓w138_55, ↓w138_56, ↓w138_59, ↓w138_60, ↓w138_62, ↓w138_63, ↓w138_64, ↓w138_67, ↓w138_68, ↓w138_70, ↓w138_73, ↓w138_74, ↓w138_75, ↓w138_78, ↓w138_81, ↓s_g0 hg, ↓s_g1 hg, ↓s_g2 hg, ↓s_g3 hg, ↓s_g4 hg, ↓s_g5 hg, ↓s_g6 hg, ↓s_g7 hg, ↓s_g8 hg, ↓s_g9 hg, ↓s_g10 hg, ↓s_g11 hg, ↓s_g12 hg, ↓s_g13 hg, ↓s_g14 hg, ↓s_g15 hg, ↓s_g16 hg, ↓s_g17 hg, ↓s_g18 hg, ↓s_g19 hg, ↓s_g20 hg, ↓s_p0 hg, ↓s_p1 hg, ↓s_p3 hg, s_r hg, ↓s_can_a hg hl, ↓s_can_s hg hl, ↓s_place_a hg hl, ↓s_place_s hg hl, ↓s_round_a hg hl, ↓s_round_s hg hl, ↓s_begun_a hg hl, ↓s_begun_s hg hl, ↓s_busy_a hg hl, ↓s_busy_s hg hl, ↓s_noted_a hg hl, ↓s_noted_s hg hl, ↓s_depth_a hg hl, ↓s_depth_s hg hl, v15, v18, e0, icond_lt, icond_le, icond_gt, icond_ge, icond_eq, icond_ne, narrow_bool, true_or, or_true, if_true, if_false, cK_inl, toL_some, toL_none, psum_nil, psum_int, psum_ref, psum_null, psum_long, Nat.zero_le, Nat.reduceAdd, Nat.reduceLeDiff, kl_int, kl_ref, kl_none, kl_null, kl_long, ne_eq, not_true]
  | succ k ih =>
    intro S V h h15 h18 ho
    have hc := h
    obtain ⟨ht, hb, hP, hrk, hg, hp, hβ⟩ := h
    have hA := hb.2.2.1.2.2
    have hN : N ≤ 3 := ht.2.2.2.2.2.2.2.1
    have hl : l < 3 := by omega
    have v15 : V g 15 l = -1 := by rw [← ht.1.2.2 15 l (by omega) (by omega) hlN]; exact h15
    have v18 : V g 18 l = Int32.ofNat (k + 1) := by rw [← ht.1.2.2 18 l (by omega) (by omega) hlN]; exact h18
    have np : ¬ Int32.ofNat (k + 1) ≤ 0 := ofN_pos (by omega)
    obtain ⟨o2, f1, f2, f3⟩ := ht.2.2.2.2.1 l hlN
    have eo : o2 = k + 1 := ofN_inj (by omega) (by omega) (f2.symm.trans h18)
    subst eo
    obtain ⟨e, a0, t, q1, q2, q3, q4, q5, q6, q7, q8, q9, q10, q11⟩ := f3 k (by omega)
    have g40 : gt S g (l + 40) 36 (Int32.ofNat k) = V g 40 (48 * l + k) := by rw [gt_nat (by omega) (by omega)]; exact q7
    have g30 : gt S g (l + 30) 36 (Int32.ofNat k) = Int32.ofNat a0 := by rw [gt_nat (by omega) (by omega)]; exact q6
    have g50 : gt S g (l + 50) 36 (Int32.ofNat k) = Int32.ofNat t := by rw [gt_nat (by omega) (by omega)]; exact q10
    -- the act a comes next in the top block
    have step : ∀ (S' V' : S3) (a : Nat), a < A → rk a = rk a0 → townR g b M A NR N β rk nt P S' V' → S' g (l + 30) k = Int32.ofNat a0 → S' (2 + b) = S (2 + b) → townR g b M A NR N β rk nt P (pt S' g (l + 40) 36 (Int32.ofNat k) (gt S (2 + b) 109 80 (Int32.ofNat a))) (su V' g 40 (48 * l + k) (P 0 111 a)) := by
      intro S' V' a ha hra ht' h30 _
      obtain ⟨n1, n2⟩ := actR_n (hb.2.2.2.2.2 a ha)
      rw [pt_nat (by omega) (by omega), gt_nat (by omega) (by omega), n1]
      refine townR_next ht' hg hlN (by omega) (fun a1 h1 h2 _ => ?_) hA
      have ea : a1 = a0 := ofN_inj (by omega) (by omega) (h1.symm.trans h30)
      subst ea
      rcases n2 with n2 | ⟨a', n2, n3, n4⟩
      · exact Or.inl n2
      · exact Or.inr ⟨a', n2, n3, n4.trans hra⟩
    rcases q8 with q8 | ⟨a, r1, r2, r3⟩
    · -- the block has come to its end
      by_cases hz : t = 0
      · subst hz
        have nr : ¬ (gt S g (l + 40) 36 (Int32.ofNat k) = -1 ∧ 0 < gt S g (l + 50) 36 (Int32.ofNat k)) := by
          rw [g50]
          exact fun q => absurd q.2 (by decide)
        have eA : naA g l S (Int32.ofNat k) = -1 := by rw [naA, if_neg nr, g40, q8]
        have eP : naP g l S (Int32.ofNat k) = S := by rw [naP, if_neg nr]
        have eS : naS g l b (k + 1) S = naS g l b k (su S g 18 l (Int32.ofNat k)) := by rw [naS, if_pos eA, eP]
        have tl := townR_less (o' := k) ht h18 ho (by omega)
        have sv : sameBut (pT g) V (su V g 18 l (Int32.ofNat k)) := sbt_su sbt_refl (pT_v (by omega))
        obtain ⟨V', p1, p2, p3, p4, p5⟩ := ih (su S g 18 l (Int32.ofNat k)) (su V g 18 l (Int32.ofNat k)) (ctx_mk hc tl (sbt_su sbt_refl (pT_v (by omega))) sv hβ) (by rw [su_ne (by omega)]; exact h15) su_self (by omega)
        have e7 : ∀ (d : Nat) (Q : PO → Prop), _ := fun d Q => r137_c (c := c) (C := C) (W := W) (R := R) (pl := pl) (P := P) (d := d + 7) (Q := Q) hg hl (show k < 36 by omega) v18 q8 q11
        have e8 : ∀ (d : Nat) (n : Int32) (l3 l4 : Option Value) (Q : PO → Prop), Wp (d + 9) 138 2 [some (.ref (SA g)), some (.int (Int32.ofNat l)), some (.int n), l3, l4] [] (RP c C V W pl P R) Q = Wp (d + 9) 138 2 [some (.ref (SA g)), some (.int (Int32.ofNat l)), some (.int n), some (.int (-1)), l4] [] (RP c C (su V g 18 l (Int32.ofNat k)) W pl P R) Q := fun d n l3 l4 Q => by
          rw [w138_2]
          simp only [↓w138_0, ↓w138_1, ↓w138_3, ↓w138_6, ↓w138_7, ↓w138_8, ↓w138_9, ↓w138_12, ↓w138_13, ↓w138_16, ↓w138_17, ↓w138_18, ↓w138_21, ↓w138_22, ↓w138_23, ↓w138_26, ↓w138_27, ↓w138_28, ↓w138_29, ↓w138_32, ↓w138_35, ↓w138_36, ↓w138_37, ↓w138_38, ↓w138_41, ↓w138_43, ↓w138_45, ↓w138_48, ↓w138_49, ↓w138_52, ↓w138_53, ↓w138_54, ↓w138_55, ↓w138_56, ↓w138_59, ↓w138_60, ↓w138_62, ↓w138_63, ↓w138_64, ↓w138_67, ↓w138_68, ↓w138_70, ↓w138_73, ↓w138_74, ↓w138_75, ↓w138_78, ↓w138_81, ↓s_g0 hg, ↓s_g1 hg, ↓s_g2 hg, ↓s_g3 hg, ↓s_g4 hg, ↓s_g5 hg, ↓s_g6 hg, ↓s_g7 hg, ↓s_g8 hg, ↓s_g9 hg, ↓s_g10 hg, ↓s_g11 hg, ↓s_g12 hg, ↓s_g13 hg, ↓s_g14 hg, ↓s_g15 hg, ↓s_g16 hg, ↓s_g17 hg, ↓s_g18 hg, ↓s_g19 hg, ↓s_g20 hg, ↓s_p0 hg, ↓s_p1 hg, ↓s_p3 hg, s_r hg, ↓s_can_a hg hl, ↓s_can_s hg hl, ↓s_place_a hg hl, ↓s_place_s hg hl, ↓s_round_a hg hl, ↓s_round_s hg hl, ↓s_begun_a hg hl, ↓s_begun_s hg hl, ↓s_busy_a hg hl, ↓s_busy_s hg hl, ↓s_noted_a hg hl, ↓s_noted_s hg hl, ↓s_depth_a hg hl, ↓s_depth_s hg hl, v15, v18, np, e7, icond_lt, icond_le, icond_gt, icond_ge, icond_eq, icond_ne, narrow_bool, true_or, or_true, if_true, if_false, cK_inl, toL_some, toL_none, psum_nil, psum_int, psum_ref, psum_null, psum_long, Nat.zero_le, Nat.reduceAdd, Nat.reduceLeDiff, kl_int, kl_ref, kl_none, kl_null, kl_long, ne_eq, not_true]
        rw [eS]
        refine ⟨V', p1, sbt_trans sv p2, p3, fun q d n l3 l4 Q => ?_, fun q => ?_⟩
        · rw [e8, p4 q]
        · obtain ⟨a, o', s1, s2, s3, s4, s5, s6⟩ := p5 q
          exact ⟨a, o', s1, s2, s3, s4, s5, fun d n l3 l4 Q => by rw [e8, s6]⟩
      · obtain ⟨t, rfl⟩ := Nat.exists_eq_succ_of_ne_zero hz
        have nr : gt S g (l + 40) 36 (Int32.ofNat k) = -1 ∧ 0 < gt S g (l + 50) 36 (Int32.ofNat k) := by
          rw [g50, g40]
          exact ⟨q8, (ofN_lt (k := 0) (m := t + 1) (by omega) (by omega)).mpr (by omega)⟩
        have eA : naA g l S (Int32.ofNat k) = Int32.ofNat a0 := by rw [naA, if_pos nr, g30]
        have eP : naP g l S (Int32.ofNat k) = su S g (l + 50) k (Int32.ofNat t) := by rw [naP, if_pos nr, g50, ofN_s1, pt_nat (by omega) (by omega)]
        have na0 := ofN_ne (a := a0) (by omega)
        have eS : naS g l b (k + 1) S = (Int32.ofNat a0, pt (su S g (l + 50) k (Int32.ofNat t)) g (l + 40) 36 (Int32.ofNat k) (gt S (2 + b) 109 80 (Int32.ofNat a0))) := by rw [naS, eA, if_neg na0, eP]
        have t1 := townR_times (k := k) ht hg hlN (by omega) (show t + 1 < 2 ^ 31 by omega)
        have t2 := step (su S g (l + 50) k (Int32.ofNat t)) (su V g 50 (48 * l + k) (Int32.ofNat (t + 1))) a0 q2 rfl t1 (by rw [su_ne (by omega)]; exact q6) (su_gne (by omega))
        have e7 : ∀ (d : Nat) (Q : PO → Prop), _ := fun d Q => r137_b (P := P) (c := c) (C := C) (W := W) (R := R) (d := d + 7) (Q := Q) hg hl hp hP (show k < 36 by omega) v18 q1 q8 q11 q9 q3
        have hV2 : su (su (su V g 50 (48 * l + k) (Int32.ofNat (t + 1))) g 40 (48 * l + k) (Int32.ofNat a0)) g 40 (48 * l + k) (P 0 111 a0) = su (su V g 50 (48 * l + k) (Int32.ofNat (t + 1))) g 40 (48 * l + k) (P 0 111 a0) := su_su
        have w15 : su (su V g 50 (48 * l + k) (Int32.ofNat (t + 1))) g 40 (48 * l + k) (Int32.ofNat a0) g 15 l = -1 := by rw [su_ne (by omega), su_ne (by omega)]; exact v15
        have w18 : su (su V g 50 (48 * l + k) (Int32.ofNat (t + 1))) g 40 (48 * l + k) (Int32.ofNat a0) g 18 l = Int32.ofNat (k + 1) := by rw [su_ne (by omega), su_ne (by omega)]; exact v18
        have e6 : ∀ (d : Nat) (Q : PO → Prop), _ := fun d Q => r137_a (c := c) (C := C) (W := W) (R := R) (P := P) (d := d + 7) (Q := Q) (V := su (su V g 50 (48 * l + k) (Int32.ofNat (t + 1))) g 40 (48 * l + k) (Int32.ofNat a0)) hg hl hp (by rw [su_ne (by omega), su_ne (by omega)]; exact hP) (show k < 36 by omega) w18 (show a0 < 400 by omega) su_self
        rw [eS]
        refine ⟨_, t2, sbt_su (sbt_su sbt_refl (pT_v (by omega))) (pT_v (by omega)), by rw [su_ne (by omega), su_ne (by omega)]; exact v15, fun q => absurd q na0, fun _ => ⟨a0, k + 1, q2, rfl, ?_, ho, by omega, fun d n l3 l4 Q => ?_⟩⟩
        · rw [pt_nat (by omega) (by omega)]
          dsimp only
          rw [su_ne (by omega), su_ne (by omega)]
          exact h18
        · rw [w138_2]
          simp only [↓w138_0, ↓w138_1, ↓w138_3, ↓w138_6, ↓w138_7, ↓w138_8, ↓w138_9, ↓w138_12, ↓w138_13, ↓w138_16, ↓w138_17, ↓w138_18, ↓w138_21, ↓w138_22, ↓w138_23, ↓w138_26, ↓w138_27, ↓w138_28, ↓w138_29, ↓w138_32, ↓w138_36, ↓w138_37, ↓w138_38, ↓w138_41, ↓w138_43, ↓w138_45, ↓w138_48, ↓w138_49, ↓w138_52, ↓w138_53, ↓w138_54, ↓w138_55, ↓w138_56, ↓w138_59, ↓w138_60, ↓w138_62, ↓w138_63, ↓w138_64, ↓w138_67, ↓w138_68, ↓w138_70, ↓w138_73, ↓w138_74, ↓w138_75, ↓w138_78, ↓w138_81, ↓s_g0 hg, ↓s_g1 hg, ↓s_g2 hg, ↓s_g3 hg, ↓s_g4 hg, ↓s_g5 hg, ↓s_g6 hg, ↓s_g7 hg, ↓s_g8 hg, ↓s_g9 hg, ↓s_g10 hg, ↓s_g11 hg, ↓s_g12 hg, ↓s_g13 hg, ↓s_g14 hg, ↓s_g15 hg, ↓s_g16 hg, ↓s_g17 hg, ↓s_g18 hg, ↓s_g19 hg, ↓s_g20 hg, ↓s_p0 hg, ↓s_p1 hg, ↓s_p3 hg, s_r hg, ↓s_can_a hg hl, ↓s_can_s hg hl, ↓s_place_a hg hl, ↓s_place_s hg hl, ↓s_round_a hg hl, ↓s_round_s hg hl, ↓s_begun_a hg hl, ↓s_begun_s hg hl, ↓s_busy_a hg hl, ↓s_busy_s hg hl, ↓s_noted_a hg hl, ↓s_noted_s hg hl, ↓s_depth_a hg hl, ↓s_depth_s hg hl, v15, v18, np, e7, q4, icond_lt, icond_le, icond_gt, icond_ge, icond_eq, icond_ne, narrow_bool, true_or, or_true, if_true, if_false, cK_inl, toL_some, toL_none, psum_nil, psum_int, psum_ref, psum_null, psum_long, Nat.zero_le, Nat.reduceAdd, Nat.reduceLeDiff, kl_int, kl_ref, kl_none, kl_null, kl_long, ne_eq, not_true]
          rw [w138_2]
          simp only [↓w138_0, ↓w138_1, ↓w138_3, ↓w138_6, ↓w138_7, ↓w138_8, ↓w138_9, ↓w138_12, ↓w138_13, ↓w138_16, ↓w138_17, ↓w138_18, ↓w138_21, ↓w138_22, ↓w138_23, ↓w138_26, ↓w138_27, ↓w138_28, ↓w138_29, ↓w138_32, ↓w138_36, ↓w138_37, ↓w138_38, ↓w138_41, ↓w138_43, ↓w138_45, ↓w138_48, ↓w138_49, ↓w138_52, ↓w138_53, ↓w138_54, ↓w138_55, ↓w138_56, ↓w138_59, ↓w138_60, ↓w138_62, ↓w138_63, ↓w138_64, ↓w138_67, ↓w138_68, ↓w138_70, ↓w138_73, ↓w138_74, ↓w138_75, ↓w138_78, ↓w138_81, ↓s_g0 hg, ↓s_g1 hg, ↓s_g2 hg, ↓s_g3 hg, ↓s_g4 hg, ↓s_g5 hg, ↓s_g6 hg, ↓s_g7 hg, ↓s_g8 hg, ↓s_g9 hg, ↓s_g10 hg, ↓s_g11 hg, ↓s_g12 hg, ↓s_g13 hg, ↓s_g14 hg, ↓s_g15 hg, ↓s_g16 hg, ↓s_g17 hg, ↓s_g18 hg, ↓s_g19 hg, ↓s_g20 hg, ↓s_p0 hg, ↓s_p1 hg, ↓s_p3 hg, s_r hg, ↓s_can_a hg hl, ↓s_can_s hg hl, ↓s_place_a hg hl, ↓s_place_s hg hl, ↓s_round_a hg hl, ↓s_round_s hg hl, ↓s_begun_a hg hl, ↓s_begun_s hg hl, ↓s_busy_a hg hl, ↓s_busy_s hg hl, ↓s_noted_a hg hl, ↓s_noted_s hg hl, ↓s_depth_a hg hl, ↓s_depth_s hg hl, w15, w18, np, e6, na0, hV2, icond_lt, icond_le, icond_gt, icond_ge, icond_eq, icond_ne, narrow_bool, true_or, or_true, if_true, if_false, cK_inl, toL_some, toL_none, psum_nil, psum_int, psum_ref, psum_null, psum_long, Nat.zero_le, Nat.reduceAdd, Nat.reduceLeDiff, kl_int, kl_ref, kl_none, kl_null, kl_long, ne_eq, not_true, not_false_eq_true]
    · -- the next act of the block
      have na := ofN_ne (a := a) (by omega)
      have nr : ¬ (gt S g (l + 40) 36 (Int32.ofNat k) = -1 ∧ 0 < gt S g (l + 50) 36 (Int32.ofNat k)) := by
        rw [g40, r2]
        exact fun q => na q.1
      have eA : naA g l S (Int32.ofNat k) = Int32.ofNat a := by rw [naA, if_neg nr, g40, r2]
      have eP : naP g l S (Int32.ofNat k) = S := by rw [naP, if_neg nr]
      have eS : naS g l b (k + 1) S = (Int32.ofNat a, pt S g (l + 40) 36 (Int32.ofNat k) (gt S (2 + b) 109 80 (Int32.ofNat a))) := by rw [naS, eA, if_neg na, eP]
      have t2 := step S V a r1 r3 ht q6 rfl
      have e6 : ∀ (d : Nat) (Q : PO → Prop), _ := fun d Q => r137_a (c := c) (C := C) (W := W) (R := R) (P := P) (d := d + 7) (Q := Q) hg hl hp hP (show k < 36 by omega) v18 (show a < 400 by omega) r2
      rw [eS]
      refine ⟨_, t2, sbt_su sbt_refl (pT_v (by omega)), by rw [su_ne (by omega)]; exact v15, fun q => absurd q na, fun _ => ⟨a, k + 1, r1, rfl, ?_, ho, by omega, fun d n l3 l4 Q => ?_⟩⟩
      · rw [pt_nat (by omega) (by omega)]
        dsimp only
        rw [su_ne (by omega)]
        exact h18
      · rw [w138_2]
        simp only [↓w138_0, ↓w138_1, ↓w138_3, ↓w138_6, ↓w138_7, ↓w138_8, ↓w138_9, ↓w138_12, ↓w138_13, ↓w138_16, ↓w138_17, ↓w138_18, ↓w138_21, ↓w138_22, ↓w138_23, ↓w138_26, ↓w138_27, ↓w138_28, ↓w138_29, ↓w138_32, ↓w138_36, ↓w138_37, ↓w138_38, ↓w138_41, ↓w138_43, ↓w138_45, ↓w138_48, ↓w138_49, ↓w138_52, ↓w138_53, ↓w138_54, ↓w138_55, ↓w138_56, ↓w138_59, ↓w138_60, ↓w138_62, ↓w138_63, ↓w138_64, ↓w138_67, ↓w138_68, ↓w138_70, ↓w138_73, ↓w138_74, ↓w138_75, ↓w138_78, ↓w138_81, ↓s_g0 hg, ↓s_g1 hg, ↓s_g2 hg, ↓s_g3 hg, ↓s_g4 hg, ↓s_g5 hg, ↓s_g6 hg, ↓s_g7 hg, ↓s_g8 hg, ↓s_g9 hg, ↓s_g10 hg, ↓s_g11 hg, ↓s_g12 hg, ↓s_g13 hg, ↓s_g14 hg, ↓s_g15 hg, ↓s_g16 hg, ↓s_g17 hg, ↓s_g18 hg, ↓s_g19 hg, ↓s_g20 hg, ↓s_p0 hg, ↓s_p1 hg, ↓s_p3 hg, s_r hg, ↓s_can_a hg hl, ↓s_can_s hg hl, ↓s_place_a hg hl, ↓s_place_s hg hl, ↓s_round_a hg hl, ↓s_round_s hg hl, ↓s_begun_a hg hl, ↓s_begun_s hg hl, ↓s_busy_a hg hl, ↓s_busy_s hg hl, ↓s_noted_a hg hl, ↓s_noted_s hg hl, ↓s_depth_a hg hl, ↓s_depth_s hg hl, v15, v18, np, e6, na, icond_lt, icond_le, icond_gt, icond_ge, icond_eq, icond_ne, narrow_bool, true_or, or_true, if_true, if_false, cK_inl, toL_some, toL_none, psum_nil, psum_int, psum_ref, psum_null, psum_long, Nat.zero_le, Nat.reduceAdd, Nat.reduceLeDiff, kl_int, kl_ref, kl_none, kl_null, kl_long, ne_eq, not_true, not_false_eq_true]
end SIME
