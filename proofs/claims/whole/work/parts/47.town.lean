/-! THE CLASS'S TOWN: copying, beginning -/
section CLASSH
variable {c : Nat × Nat × Nat} {S : S3} {L : L3} {R : Nat → Option PC} {g g' i l b d : Nat} {x y M : Int32} {z : Int64} {Q : PO → Prop}
def lcL (g g' : Nat) (M : Int32) : Nat → Nat → S3 → S3
  | 0, _, S => S
  | k + 1, i, S => if M ≤ Int32.ofNat i then S else lcL g g' M k (i + 1) (lcpS g i g' S)
def lgL (g g' : Nat) : Nat → Nat → S3 → S3
  | 0, _, S => S
  | k + 1, i, S => if S g 4 0 ≤ Int32.ofNat i then S else lgL g g' k (i + 1) (fcS g i g' 36 0 (gcS g i g' S))
/-- names of a town -/
def pG (g : Nat) : Nat → Nat → Prop := fun g' v => g' = g ∧ v < 60
theorem sbg_su {S' : S3} {v : Nat} (h : sameBut (pG g) S S') (hv : v < 60) : sameBut (pG g) S (su S' g v i x) := sbt_su h ⟨rfl, hv⟩
theorem sbg_lcp {S' : S3} (h : sameBut (pG g) S S') : sameBut (pG g) S (lcpS g i g' S') := by
  unfold lcpS
  exact sbg_su (sbg_su (sbg_su (sbg_su (sbg_su (sbg_su (sbg_su h (by decide)) (by decide)) (by decide)) (by decide)) (by decide)) (by decide)) (by decide)
theorem sbg_lcL : ∀ {k i : Nat} {S' : S3}, sameBut (pG g) S S' → sameBut (pG g) S (lcL g g' M k i S') := by
  intro k
  induction k with
  | zero => intro i S' h; exact h
  | succ k ih =>
    intro i S' h
    simp only [lcL]
    split
    · exact h
    · exact ih (sbg_lcp h)
theorem sbg_fc (hl : l < 3) : ∀ {k i : Nat} {S' : S3}, sameBut (pG g) S S' → sameBut (pG g) S (fcS g l g' k i S') := by
  intro k
  induction k with
  | zero => intro i S' h; exact h
  | succ k ih =>
    intro i S' h
    simp only [fcS]
    split
    · exact h
    · exact ih (sbg_su (sbg_su (sbg_su h (by omega)) (by omega)) (by omega))
theorem sbg_gc {S' : S3} (h : sameBut (pG g) S S') : sameBut (pG g) S (gcS g l g' S') := by
  unfold gcS
  exact sbg_su (sbg_su (sbg_su (sbg_su (sbg_su (sbg_su (sbg_su (sbg_su h (by decide)) (by decide)) (by decide)) (by decide)) (by decide)) (by decide)) (by decide)) (by decide)
theorem sbg_lg : ∀ {k i : Nat} {S' : S3}, i + k = 3 → sameBut (pG g) S S' → sameBut (pG g) S (lgL g g' k i S') := by
  intro k
  induction k with
  | zero => intro i S' _ h; exact h
  | succ k ih =>
    intro i S' hi h
    simp only [lgL]
    split
    · exact h
    · exact ih (by omega) (sbg_fc (by omega) (sbg_gc h))
theorem fc_ne {v : Nat} (hl : l < 3) (h1 : v < 20) : ∀ {k i : Nat} {S : S3}, fcS g l g' k i S g v = S g v := by
  intro k
  induction k with
  | zero => intro i S; rfl
  | succ k ih =>
    intro i S
    simp only [fcS]
    split
    · rfl
    · rw [ih]
      funext j
      rw [su_at, if_neg (by omega), su_at, if_neg (by omega), su_at, if_neg (by omega)]
/-- what copying asks of the two towns -/
def okP (g g' b : Nat) (S : S3) : Prop := okG g b S ∧ okG g' b S
theorem okP_lcp (h : okP g g' b S) (hne : g' ≠ g) (hi : i < 10) : okP g g' b (lcpS g i g' S) := by
  obtain ⟨h1, h2⟩ := h
  unfold lcpS
  have q1 : ∀ {S : S3} {v : Nat} {x : Int32}, v ≠ 60 → v ≠ 18 → v ≠ 9 → okG g b S → okG g b (su S g v i x) := fun a1 a2 a3 h => okG_su h a1 a2 a3
  have q2 : ∀ {S : S3} {v : Nat} {x : Int32}, v ≠ 60 → v ≠ 18 → v ≠ 9 → okG g' b S → okG g' b (su S g v i x) := fun a1 a2 a3 h => okG_su h a1 a2 a3
  constructor
  · exact okG_lit (q1 (by decide) (by decide) (by decide) (q1 (by decide) (by decide) (by decide) (q1 (by decide) (by decide) (by decide) (q1 (by decide) (by decide) (by decide) (q1 (by decide) (by decide) (by decide) (q1 (by decide) (by decide) (by decide) h1)))))) (h2.2.2 i hi)
  · exact okG_lit (q2 (by decide) (by decide) (by decide) (q2 (by decide) (by decide) (by decide) (q2 (by decide) (by decide) (by decide) (q2 (by decide) (by decide) (by decide) (q2 (by decide) (by decide) (by decide) (q2 (by decide) (by decide) (by decide) h2)))))) (h2.2.2 i hi)
theorem okG_fc {g2 : Nat} (hl : l < 3) : ∀ {k i : Nat} {S : S3}, okG g2 b S → okG g2 b (fcS g l g' k i S) := by
  intro k
  induction k with
  | zero => intro i S h; exact h
  | succ k ih =>
    intro i S h
    simp only [fcS]
    split
    · exact h
    · exact ih (okG_su (okG_su (okG_su h (by omega) (by omega) (by omega)) (by omega) (by omega) (by omega)) (by omega) (by omega) (by omega))
theorem okG_gc {g2 : Nat} (hl : l < 3) (h : okG g2 b S) (h' : okG g' b S) : okG g2 b (gcS g l g' S) := by
  unfold gcS
  obtain ⟨o, ho, e⟩ := h'.2.1 l hl
  rw [e]
  exact okG_open (okG_su (okG_su (okG_su (okG_su (okG_su (okG_su (okG_su h (by decide) (by decide) (by decide)) (by decide) (by decide) (by decide)) (by decide) (by decide) (by decide)) (by decide) (by decide) (by decide)) (by decide) (by decide) (by decide)) (by decide) (by decide) (by decide)) (by decide) (by decide) (by decide)) ho
theorem k53_lig (hg : g < 2) (hg' : g' < 2) (hne : g' ≠ g) : ∀ (k i : Nat) (S : S3), i + k = 3 → okP g g' b S → Wp (d + 2) 53 102 [some (.ref (TA g)), some (.ref (TA g')), some (.int (Int32.ofNat i))] [] (CH c S L R) Q = Q (.inl none, CH c (lgL g g' k i S) L R) := by
  intro k
  induction k with
  | zero =>
    intro i S hi h
    have e : (3 : Int32) ≤ Int32.ofNat i := (ofN_le (k := 3) (by omega) (by omega)).mpr (by omega)
    rw [w53_102]
    simp only [↓w53_0, ↓w53_1, ↓w53_2, ↓w53_5, ↓w53_8, ↓w53_9, ↓w53_10, ↓w53_13, ↓w53_16, ↓w53_17, ↓w53_18, ↓w53_21, ↓w53_24, ↓w53_25, ↓w53_26, ↓w53_29, ↓w53_32, ↓w53_33, ↓w53_34, ↓w53_37, ↓w53_40, ↓w53_41, ↓w53_42, ↓w53_45, ↓w53_48, ↓w53_49, ↓w53_50, ↓w53_51, ↓w53_52, ↓w53_55, ↓w53_58, ↓w53_61, ↓w53_62, ↓w53_63, ↓w53_66, ↓w53_67, ↓w53_70, ↓w53_71, ↓w53_72, ↓w53_75, ↓w53_76, ↓w53_79, ↓w53_80, ↓w53_83, ↓w53_84, ↓w53_85, ↓w53_86, ↓w53_89, ↓w53_90, ↓w53_91, ↓w53_94, ↓w53_97, ↓w53_100, ↓w53_101, ↓w53_103, ↓w53_104, ↓w53_107, ↓w53_110, ↓w53_111, ↓w53_112, ↓w53_115, ↓w53_116, ↓w53_119, ↓w53_120, ↓w53_121, ↓w53_124, ↓w53_125, ↓w53_128, ↓w53_129, ↓w53_132, ↓w53_133, ↓w53_134, ↓w53_135, ↓w53_138, ↓w53_139, ↓w53_140, ↓w53_143, ↓w53_146, ↓w53_149, ↓town_g0 hg, ↓town_g1 hg, ↓town_g2 hg, ↓town_g3 hg, ↓town_g4 hg, ↓town_g5 hg, ↓town_g6 hg, ↓town_g7 hg, ↓town_p3 hg, ↓town_p4 hg, ↓town_p5 hg, ↓town_p6 hg, ↓town_p7 hg, ↓town_r hg, ↓lmps_n hg, ↓lgts_n hg, icond_lt, icond_le, icond_gt, icond_ge, icond_eq, icond_ne, narrow_bool, true_or, or_true, if_true, if_false, cK_inl, toL_some, toL_none, psum_nil, psum_int, psum_ref, psum_null, psum_long, Nat.zero_le, Nat.reduceAdd, Nat.reduceLeDiff, kl_int, kl_ref, kl_none, kl_null, kl_long, su_at, sr_at, Nat.reduceEqDiff, Nat.add_eq_left, Nat.add_right_cancel_iff, and_false, false_and, and_true, true_and, and_self, if_true, if_false, ↓reduceIte, lgL, e]
    split <;> rfl
  | succ k ih =>
    intro i S hi h
    have e : ¬ (3 : Int32) ≤ Int32.ofNat i := fun q => absurd ((ofN_le (k := 3) (by omega) (by omega)).mp q) (by omega)
    have hl : i < 3 := by omega
    rw [w53_102]
    by_cases h1 : S g 4 0 ≤ Int32.ofNat i
    · simp only [↓w53_0, ↓w53_1, ↓w53_2, ↓w53_5, ↓w53_8, ↓w53_9, ↓w53_10, ↓w53_13, ↓w53_16, ↓w53_17, ↓w53_18, ↓w53_21, ↓w53_24, ↓w53_25, ↓w53_26, ↓w53_29, ↓w53_32, ↓w53_33, ↓w53_34, ↓w53_37, ↓w53_40, ↓w53_41, ↓w53_42, ↓w53_45, ↓w53_48, ↓w53_49, ↓w53_50, ↓w53_51, ↓w53_52, ↓w53_55, ↓w53_58, ↓w53_61, ↓w53_62, ↓w53_63, ↓w53_66, ↓w53_67, ↓w53_70, ↓w53_71, ↓w53_72, ↓w53_75, ↓w53_76, ↓w53_79, ↓w53_80, ↓w53_83, ↓w53_84, ↓w53_85, ↓w53_86, ↓w53_89, ↓w53_90, ↓w53_91, ↓w53_94, ↓w53_97, ↓w53_100, ↓w53_101, ↓w53_103, ↓w53_104, ↓w53_107, ↓w53_110, ↓w53_111, ↓w53_112, ↓w53_115, ↓w53_116, ↓w53_119, ↓w53_120, ↓w53_121, ↓w53_124, ↓w53_125, ↓w53_128, ↓w53_129, ↓w53_132, ↓w53_133, ↓w53_134, ↓w53_135, ↓w53_138, ↓w53_139, ↓w53_140, ↓w53_143, ↓w53_146, ↓w53_149, ↓town_g0 hg, ↓town_g1 hg, ↓town_g2 hg, ↓town_g3 hg, ↓town_g4 hg, ↓town_g5 hg, ↓town_g6 hg, ↓town_g7 hg, ↓town_p3 hg, ↓town_p4 hg, ↓town_p5 hg, ↓town_p6 hg, ↓town_p7 hg, ↓town_r hg, ↓lmps_n hg, ↓lgts_n hg, icond_lt, icond_le, icond_gt, icond_ge, icond_eq, icond_ne, narrow_bool, true_or, or_true, if_true, if_false, cK_inl, toL_some, toL_none, psum_nil, psum_int, psum_ref, psum_null, psum_long, Nat.zero_le, Nat.reduceAdd, Nat.reduceLeDiff, kl_int, kl_ref, kl_none, kl_null, kl_long, su_at, sr_at, Nat.reduceEqDiff, Nat.add_eq_left, Nat.add_right_cancel_iff, and_false, false_and, and_true, true_and, and_self, if_true, if_false, ↓reduceIte, lgL, e, h1]
    · simp only [↓w53_0, ↓w53_1, ↓w53_2, ↓w53_5, ↓w53_8, ↓w53_9, ↓w53_10, ↓w53_13, ↓w53_16, ↓w53_17, ↓w53_18, ↓w53_21, ↓w53_24, ↓w53_25, ↓w53_26, ↓w53_29, ↓w53_32, ↓w53_33, ↓w53_34, ↓w53_37, ↓w53_40, ↓w53_41, ↓w53_42, ↓w53_45, ↓w53_48, ↓w53_49, ↓w53_50, ↓w53_51, ↓w53_52, ↓w53_55, ↓w53_58, ↓w53_61, ↓w53_62, ↓w53_63, ↓w53_66, ↓w53_67, ↓w53_70, ↓w53_71, ↓w53_72, ↓w53_75, ↓w53_76, ↓w53_79, ↓w53_80, ↓w53_83, ↓w53_84, ↓w53_85, ↓w53_86, ↓w53_89, ↓w53_90, ↓w53_91, ↓w53_94, ↓w53_97, ↓w53_100, ↓w53_101, ↓w53_103, ↓w53_104, ↓w53_107, ↓w53_110, ↓w53_111, ↓w53_112, ↓w53_115, ↓w53_116, ↓w53_119, ↓w53_120, ↓w53_121, ↓w53_124, ↓w53_125, ↓w53_128, ↓w53_129, ↓w53_132, ↓w53_133, ↓w53_134, ↓w53_135, ↓w53_138, ↓w53_139, ↓w53_140, ↓w53_143, ↓w53_146, ↓w53_149, ↓town_g0 hg, ↓town_g1 hg, ↓town_g2 hg, ↓town_g3 hg, ↓town_g4 hg, ↓town_g5 hg, ↓town_g6 hg, ↓town_g7 hg, ↓town_p3 hg, ↓town_p4 hg, ↓town_p5 hg, ↓town_p6 hg, ↓town_p7 hg, ↓town_r hg, ↓lmps_n hg, ↓lgts_n hg, ↓town_g1 hg', ↓town_g2 hg', ↓lgts_n hg', ↓lgts_q hg hl, ↓lgts_q hg' hl, ↓lig_r hg hl, k18 hg hg' hne hl, icond_lt, icond_le, icond_gt, icond_ge, icond_eq, icond_ne, narrow_bool, true_or, or_true, if_true, if_false, cK_inl, toL_some, toL_none, psum_nil, psum_int, psum_ref, psum_null, psum_long, Nat.zero_le, Nat.reduceAdd, Nat.reduceLeDiff, kl_int, kl_ref, kl_none, kl_null, kl_long, su_at, sr_at, Nat.reduceEqDiff, Nat.add_eq_left, Nat.add_right_cancel_iff, and_false, false_and, and_true, true_and, and_self, if_true, if_false, ↓reduceIte, lgL, e, h1, ofN_a1]
      exact ih (i + 1) _ (by omega) ⟨okG_fc hl (okG_gc hl h.1 h.2), okG_fc hl (okG_gc hl h.2 h.2)⟩
theorem k53_lamp (hg : g < 2) (hg' : g' < 2) (hb : b < 2) (hne : g' ≠ g) : ∀ (k i : Nat) (S : S3), i + k = 10 → okP g g' b S → S (2 + b) 100 0 = M → Wp (d + 2) 53 50 [some (.ref (TA g)), some (.ref (TA g')), some (.int (Int32.ofNat i))] [] (CH c S L R) Q = Q (.inl none, CH c (lgL g g' 3 0 (lcL g g' M k i S)) L R) := by
  intro k
  induction k with
  | zero =>
    intro i S hi h hM
    have e : (10 : Int32) ≤ Int32.ofNat i := (ofN_le (k := 10) (by omega) (by omega)).mpr (by omega)
    have e0 := k53_lig (c := c) (L := L) (R := R) (Q := Q) (d := d) hg hg' hne 3 0 S rfl h
    rw [w53_50]
    simp only [↓w53_0, ↓w53_1, ↓w53_2, ↓w53_5, ↓w53_8, ↓w53_9, ↓w53_10, ↓w53_13, ↓w53_16, ↓w53_17, ↓w53_18, ↓w53_21, ↓w53_24, ↓w53_25, ↓w53_26, ↓w53_29, ↓w53_32, ↓w53_33, ↓w53_34, ↓w53_37, ↓w53_40, ↓w53_41, ↓w53_42, ↓w53_45, ↓w53_48, ↓w53_49, ↓w53_51, ↓w53_52, ↓w53_55, ↓w53_58, ↓w53_61, ↓w53_62, ↓w53_63, ↓w53_66, ↓w53_67, ↓w53_70, ↓w53_71, ↓w53_72, ↓w53_75, ↓w53_76, ↓w53_79, ↓w53_80, ↓w53_83, ↓w53_84, ↓w53_85, ↓w53_86, ↓w53_89, ↓w53_90, ↓w53_91, ↓w53_94, ↓w53_97, ↓w53_100, ↓w53_101, ↓w53_103, ↓w53_104, ↓w53_107, ↓w53_110, ↓w53_111, ↓w53_112, ↓w53_115, ↓w53_116, ↓w53_119, ↓w53_120, ↓w53_121, ↓w53_124, ↓w53_125, ↓w53_128, ↓w53_129, ↓w53_132, ↓w53_133, ↓w53_134, ↓w53_135, ↓w53_138, ↓w53_139, ↓w53_140, ↓w53_143, ↓w53_146, ↓w53_149, ↓town_g0 hg, ↓town_g1 hg, ↓town_g2 hg, ↓town_g3 hg, ↓town_g4 hg, ↓town_g5 hg, ↓town_g6 hg, ↓town_g7 hg, ↓town_p3 hg, ↓town_p4 hg, ↓town_p5 hg, ↓town_p6 hg, ↓town_p7 hg, ↓town_r hg, ↓lmps_n hg, ↓lgts_n hg, h.1.1, ↓book_g0 hb, ↓book_g1 hb, ↓book_g2 hb, ↓book_g3 hb, ↓book_g4 hb, ↓book_g5 hb, ↓book_g6 hb, ↓book_g7 hb, ↓book_g8 hb, ↓book_g9 hb, ↓book_g10 hb, ↓book_g11 hb, ↓book_g12 hb, ↓book_g13 hb, ↓book_g14 hb, ↓book_g15 hb, ↓book_g16 hb, ↓b_posts_get hb, ↓b_rooms_get hb, ↓b_blocks_get hb, ↓b_words_get hb, ↓b_values_get hb, ↓b_behind_get hb, ↓b_bodies_get hb, ↓b_elses_get hb, ↓b_fstc_get hb, ↓b_endc_get hb, ↓b_lefts_get hb, ↓b_signs_get hb, ↓b_rights_get hb, icond_lt, icond_le, icond_gt, icond_ge, icond_eq, icond_ne, narrow_bool, true_or, or_true, if_true, if_false, cK_inl, toL_some, toL_none, psum_nil, psum_int, psum_ref, psum_null, psum_long, Nat.zero_le, Nat.reduceAdd, Nat.reduceLeDiff, kl_int, kl_ref, kl_none, kl_null, kl_long, su_at, sr_at, Nat.reduceEqDiff, Nat.add_eq_left, Nat.add_right_cancel_iff, and_false, false_and, and_true, true_and, and_self, if_true, if_false, ↓reduceIte, lcL, e]
    split <;> exact e0
  | succ k ih =>
    intro i S hi' h hM
    have e : ¬ (10 : Int32) ≤ Int32.ofNat i := fun q => absurd ((ofN_le (k := 10) (by omega) (by omega)).mp q) (by omega)
    have hi : i < 10 := by omega
    rw [w53_50]
    by_cases h1 : M ≤ Int32.ofNat i
    · have e0 := k53_lig (c := c) (L := L) (R := R) (Q := Q) (d := d) hg hg' hne 3 0 S rfl h
      simp only [↓w53_0, ↓w53_1, ↓w53_2, ↓w53_5, ↓w53_8, ↓w53_9, ↓w53_10, ↓w53_13, ↓w53_16, ↓w53_17, ↓w53_18, ↓w53_21, ↓w53_24, ↓w53_25, ↓w53_26, ↓w53_29, ↓w53_32, ↓w53_33, ↓w53_34, ↓w53_37, ↓w53_40, ↓w53_41, ↓w53_42, ↓w53_45, ↓w53_48, ↓w53_49, ↓w53_51, ↓w53_52, ↓w53_55, ↓w53_58, ↓w53_61, ↓w53_62, ↓w53_63, ↓w53_66, ↓w53_67, ↓w53_70, ↓w53_71, ↓w53_72, ↓w53_75, ↓w53_76, ↓w53_79, ↓w53_80, ↓w53_83, ↓w53_84, ↓w53_85, ↓w53_86, ↓w53_89, ↓w53_90, ↓w53_91, ↓w53_94, ↓w53_97, ↓w53_100, ↓w53_101, ↓w53_103, ↓w53_104, ↓w53_107, ↓w53_110, ↓w53_111, ↓w53_112, ↓w53_115, ↓w53_116, ↓w53_119, ↓w53_120, ↓w53_121, ↓w53_124, ↓w53_125, ↓w53_128, ↓w53_129, ↓w53_132, ↓w53_133, ↓w53_134, ↓w53_135, ↓w53_138, ↓w53_139, ↓w53_140, ↓w53_143, ↓w53_146, ↓w53_149, ↓town_g0 hg, ↓town_g1 hg, ↓town_g2 hg, ↓town_g3 hg, ↓town_g4 hg, ↓town_g5 hg, ↓town_g6 hg, ↓town_g7 hg, ↓town_p3 hg, ↓town_p4 hg, ↓town_p5 hg, ↓town_p6 hg, ↓town_p7 hg, ↓town_r hg, ↓lmps_n hg, ↓lgts_n hg, h.1.1, ↓book_g0 hb, ↓book_g1 hb, ↓book_g2 hb, ↓book_g3 hb, ↓book_g4 hb, ↓book_g5 hb, ↓book_g6 hb, ↓book_g7 hb, ↓book_g8 hb, ↓book_g9 hb, ↓book_g10 hb, ↓book_g11 hb, ↓book_g12 hb, ↓book_g13 hb, ↓book_g14 hb, ↓book_g15 hb, ↓book_g16 hb, ↓b_posts_get hb, ↓b_rooms_get hb, ↓b_blocks_get hb, ↓b_words_get hb, ↓b_values_get hb, ↓b_behind_get hb, ↓b_bodies_get hb, ↓b_elses_get hb, ↓b_fstc_get hb, ↓b_endc_get hb, ↓b_lefts_get hb, ↓b_signs_get hb, ↓b_rights_get hb, hM, icond_lt, icond_le, icond_gt, icond_ge, icond_eq, icond_ne, narrow_bool, true_or, or_true, if_true, if_false, cK_inl, toL_some, toL_none, psum_nil, psum_int, psum_ref, psum_null, psum_long, Nat.zero_le, Nat.reduceAdd, Nat.reduceLeDiff, kl_int, kl_ref, kl_none, kl_null, kl_long, su_at, sr_at, Nat.reduceEqDiff, Nat.add_eq_left, Nat.add_right_cancel_iff, and_false, false_and, and_true, true_and, and_self, if_true, if_false, ↓reduceIte, lcL, e, h1]
      exact e0
    · simp only [↓w53_0, ↓w53_1, ↓w53_2, ↓w53_5, ↓w53_8, ↓w53_9, ↓w53_10, ↓w53_13, ↓w53_16, ↓w53_17, ↓w53_18, ↓w53_21, ↓w53_24, ↓w53_25, ↓w53_26, ↓w53_29, ↓w53_32, ↓w53_33, ↓w53_34, ↓w53_37, ↓w53_40, ↓w53_41, ↓w53_42, ↓w53_45, ↓w53_48, ↓w53_49, ↓w53_51, ↓w53_52, ↓w53_55, ↓w53_58, ↓w53_61, ↓w53_62, ↓w53_63, ↓w53_66, ↓w53_67, ↓w53_70, ↓w53_71, ↓w53_72, ↓w53_75, ↓w53_76, ↓w53_79, ↓w53_80, ↓w53_83, ↓w53_84, ↓w53_85, ↓w53_86, ↓w53_89, ↓w53_90, ↓w53_91, ↓w53_94, ↓w53_97, ↓w53_100, ↓w53_101, ↓w53_103, ↓w53_104, ↓w53_107, ↓w53_110, ↓w53_111, ↓w53_112, ↓w53_115, ↓w53_116, ↓w53_119, ↓w53_120, ↓w53_121, ↓w53_124, ↓w53_125, ↓w53_128, ↓w53_129, ↓w53_132, ↓w53_133, ↓w53_134, ↓w53_135, ↓w53_138, ↓w53_139, ↓w53_140, ↓w53_143, ↓w53_146, ↓w53_149, ↓town_g0 hg, ↓town_g1 hg, ↓town_g2 hg, ↓town_g3 hg, ↓town_g4 hg, ↓town_g5 hg, ↓town_g6 hg, ↓town_g7 hg, ↓town_p3 hg, ↓town_p4 hg, ↓town_p5 hg, ↓town_p6 hg, ↓town_p7 hg, ↓town_r hg, ↓lmps_n hg, ↓lgts_n hg, ↓town_g1 hg', ↓lmps_n hg', h.1.1, ↓book_g0 hb, ↓book_g1 hb, ↓book_g2 hb, ↓book_g3 hb, ↓book_g4 hb, ↓book_g5 hb, ↓book_g6 hb, ↓book_g7 hb, ↓book_g8 hb, ↓book_g9 hb, ↓book_g10 hb, ↓book_g11 hb, ↓book_g12 hb, ↓book_g13 hb, ↓book_g14 hb, ↓book_g15 hb, ↓book_g16 hb, ↓b_posts_get hb, ↓b_rooms_get hb, ↓b_blocks_get hb, ↓b_words_get hb, ↓b_values_get hb, ↓b_behind_get hb, ↓b_bodies_get hb, ↓b_elses_get hb, ↓b_fstc_get hb, ↓b_endc_get hb, ↓b_lefts_get hb, ↓b_signs_get hb, ↓b_rights_get hb, hM, ↓lmps_q hg hi, ↓lmps_q hg' hi, ↓lamp_r hg hi, k4 hg hg' hi (h.2.2.2 i hi), icond_lt, icond_le, icond_gt, icond_ge, icond_eq, icond_ne, narrow_bool, true_or, or_true, if_true, if_false, cK_inl, toL_some, toL_none, psum_nil, psum_int, psum_ref, psum_null, psum_long, Nat.zero_le, Nat.reduceAdd, Nat.reduceLeDiff, kl_int, kl_ref, kl_none, kl_null, kl_long, su_at, sr_at, Nat.reduceEqDiff, Nat.add_eq_left, Nat.add_right_cancel_iff, and_false, false_and, and_true, true_and, and_self, if_true, if_false, ↓reduceIte, lcL, e, h1, ofN_a1]
      refine ih (i + 1) _ (by omega) (okP_lcp h hne hi) ?_
      rw [sbg_lcp (S := S) (g := g) sbt_refl (2 + b) 100 (fun q => absurd q.2 (by decide)), hM]
def tc0 (g b g' : Nat) (S : S3) : S3 := su (su (su (su (su (su S g 60 0 (bk b)) g 4 0 (S g' 4 0)) g 0 0 (S g' 0 0)) g 1 0 (S g' 1 0)) g 2 0 (S g' 2 0)) g 3 0 (S g' 3 0)
def tcS (g b g' : Nat) (S : S3) : S3 := lgL g g' 3 0 (lcL g g' (S (2 + b) 100 0) 10 0 (tc0 g b g' S))
theorem okG_book {b0 : Nat} (hb : b < 2) (h : okG g b0 S) : okG g b (su S g 60 0 (bk b)) := by
  refine ⟨?_, fun l hl => ?_, fun j hj => ?_⟩
  · rw [su_self]; exact bk_BA hb
  · rw [su_at, if_neg (by omega)]; exact h.2.1 l hl
  · rw [su_at, if_neg (by omega)]; exact h.2.2 j hj
theorem okG_bookne (h : okG g' b S) (hne : g' ≠ g) : okG g' b (su S g 60 i x) := by
  refine ⟨?_, fun l hl => ?_, fun j hj => ?_⟩
  · rw [su_at, if_neg (by omega)]; exact h.1
  · rw [su_at, if_neg (by omega)]; exact h.2.1 l hl
  · rw [su_at, if_neg (by omega)]; exact h.2.2 j hj
theorem okP_tc0 {b0 : Nat} (hb : b < 2) (h : okG g b0 S) (h' : okG g' b S) (hne : g' ≠ g) : okP g g' b (tc0 g b g' S) := by
  unfold tc0
  constructor
  · exact okG_su (okG_su (okG_su (okG_su (okG_su (okG_book hb h) (by decide) (by decide) (by decide)) (by decide) (by decide) (by decide)) (by decide) (by decide) (by decide)) (by decide) (by decide) (by decide)) (by decide) (by decide) (by decide)
  · exact okG_su (okG_su (okG_su (okG_su (okG_su (okG_bookne h' hne) (by decide) (by decide) (by decide)) (by decide) (by decide) (by decide)) (by decide) (by decide) (by decide)) (by decide) (by decide) (by decide)) (by decide) (by decide) (by decide)
theorem k53 {b0 : Nat} (hg : g < 2) (hg' : g' < 2) (hb : b < 2) (hne : g' ≠ g) (h : okG g b0 S) (h' : okG g' b S) (hc : S g' 3 0 = 0 ∨ S g' 3 0 = 1) : Cp (d + 3) 53 [.ref (TA g), .ref (TA g')] (CH c S L R) Q = Q (.inl none, CH c (tcS g b g' S) L R) := by
  have e0 := k53_lamp (c := c) (L := L) (R := R) (Q := Q) (d := d) (M := S (2 + b) 100 0) hg hg' hb hne 10 0 _ rfl (okP_tc0 hb h h' hne) (by simp only [tc0, su_at, sr_at, Nat.reduceEqDiff, Nat.add_eq_left, Nat.add_right_cancel_iff, and_false, false_and, and_true, true_and, and_self, if_true, if_false, ↓reduceIte])
  have g0 : ∀ K : Value → Prop, gP ((CH c S L R).2 (TA g')) 6 0 K = K (.ref (BA b)) := fun K => by rw [town_g0 hg', h'.1]
  simp only [ce53, ↓w53_0, ↓w53_1, ↓w53_2, ↓w53_5, ↓w53_8, ↓w53_9, ↓w53_10, ↓w53_13, ↓w53_16, ↓w53_17, ↓w53_18, ↓w53_21, ↓w53_24, ↓w53_25, ↓w53_26, ↓w53_29, ↓w53_32, ↓w53_33, ↓w53_34, ↓w53_37, ↓w53_40, ↓w53_41, ↓w53_42, ↓w53_45, ↓w53_48, ↓w53_49, ↓w53_51, ↓w53_52, ↓w53_55, ↓w53_58, ↓w53_61, ↓w53_62, ↓w53_63, ↓w53_66, ↓w53_67, ↓w53_70, ↓w53_71, ↓w53_72, ↓w53_75, ↓w53_76, ↓w53_79, ↓w53_80, ↓w53_83, ↓w53_84, ↓w53_85, ↓w53_86, ↓w53_89, ↓w53_90, ↓w53_91, ↓w53_94, ↓w53_97, ↓w53_100, ↓w53_101, ↓w53_103, ↓w53_104, ↓w53_107, ↓w53_110, ↓w53_111, ↓w53_112, ↓w53_115, ↓w53_116, ↓w53_119, ↓w53_120, ↓w53_121, ↓w53_124, ↓w53_125, ↓w53_128, ↓w53_129, ↓w53_132, ↓w53_133, ↓w53_134, ↓w53_135, ↓w53_138, ↓w53_139, ↓w53_140, ↓w53_143, ↓w53_146, ↓w53_149, ↓g0, ↓town_g3 hg', ↓town_g4 hg', ↓town_g5 hg', ↓town_g6 hg', ↓town_g7 hg', h'.1, ↓town_p0 hg hb, ↓town_g0 hg, ↓town_g1 hg, ↓town_g2 hg, ↓town_g3 hg, ↓town_g4 hg, ↓town_g5 hg, ↓town_g6 hg, ↓town_g7 hg, ↓town_p3 hg, ↓town_p4 hg, ↓town_p5 hg, ↓town_p6 hg, ↓town_p7 hg, ↓town_r hg, ↓lmps_n hg, ↓lgts_n hg, icond_lt, icond_le, icond_gt, icond_ge, icond_eq, icond_ne, narrow_bool, true_or, or_true, if_true, if_false, cK_inl, toL_some, toL_none, psum_nil, psum_int, psum_ref, psum_null, psum_long, Nat.zero_le, Nat.reduceAdd, Nat.reduceLeDiff, kl_int, kl_ref, kl_none, kl_null, kl_long, su_at, sr_at, Nat.reduceEqDiff, Nat.add_eq_left, Nat.add_right_cancel_iff, and_false, false_and, and_true, true_and, and_self, if_true, if_false, ↓reduceIte, hne, hc]
  exact e0
theorem okP_lc (hne : g' ≠ g) : ∀ {k i : Nat} {S : S3}, i + k = 10 → okP g g' b S → okP g g' b (lcL g g' M k i S) := by
  intro k
  induction k with
  | zero => intro i S _ h; exact h
  | succ k ih =>
    intro i S hi h
    simp only [lcL]
    split
    · exact h
    · exact ih (by omega) (okP_lcp h hne (by omega))
theorem okP_lg : ∀ {k i : Nat} {S : S3}, i + k = 3 → okP g g' b S → okP g g' b (lgL g g' k i S) := by
  intro k
  induction k with
  | zero => intro i S _ h; exact h
  | succ k ih =>
    intro i S hi h
    simp only [lgL]
    split
    · exact h
    · exact ih (by omega) ⟨okG_fc (by omega) (okG_gc (by omega) h.1 h.2), okG_fc (by omega) (okG_gc (by omega) h.2 h.2)⟩
theorem okP_tc {b0 : Nat} (hb : b < 2) (h : okG g b0 S) (h' : okG g' b S) (hne : g' ≠ g) : okP g g' b (tcS g b g' S) := okP_lg rfl (okP_lc hne rfl (okP_tc0 hb h h' hne))
/-- a town begins with a book -/
def lbL (g b : Nat) : Nat → Nat → S3 → S3
  | 0, _, S => S
  | k + 1, i, S => if S (2 + b) 100 0 ≤ Int32.ofNat i then S else lbL g b k (i + 1)
    (su (su (su (su (su (su (su S g 10 i (S (2 + b) 104 i)) g 11 i (S (2 + b) 105 i)) g 5 i (S (2 + b) 105 i)) g 6 i 10) g 7 i 0) g 8 i 0) g 9 i 0)
def gbL (g : Nat) : Nat → Nat → S3 → S3
  | 0, _, S => S
  | k + 1, i, S => if S g 4 0 ≤ Int32.ofNat i then S else gbL g k (i + 1) (begS g i (S g 19 i) S)
theorem okG_beg (h : okG g b S) : okG g b (begS g l x S) := okG_home (okG_su (okG_su (okG_su h (by decide) (by decide) (by decide)) (by decide) (by decide) (by decide)) (by decide) (by decide) (by decide))
theorem k52_lig (hg : g < 2) : ∀ (k i : Nat) (S : S3), i + k = 3 → Wp (d + 4) 52 86 [some (.ref (TA g)), some (.ref (BA b)), some (.int (Int32.ofNat i))] [] (CH c S L R) Q = Q (.inl none, CH c (gbL g k i S) L R) := by
  intro k
  induction k with
  | zero =>
    intro i S hi
    have e : (3 : Int32) ≤ Int32.ofNat i := (ofN_le (k := 3) (by omega) (by omega)).mpr (by omega)
    rw [w52_86]
    simp only [↓w52_0, ↓w52_1, ↓w52_2, ↓w52_5, ↓w52_6, ↓w52_7, ↓w52_10, ↓w52_11, ↓w52_12, ↓w52_15, ↓w52_16, ↓w52_17, ↓w52_20, ↓w52_21, ↓w52_22, ↓w52_25, ↓w52_26, ↓w52_27, ↓w52_28, ↓w52_29, ↓w52_32, ↓w52_35, ↓w52_38, ↓w52_39, ↓w52_40, ↓w52_43, ↓w52_44, ↓w52_47, ↓w52_48, ↓w52_51, ↓w52_52, ↓w52_53, ↓w52_54, ↓w52_57, ↓w52_60, ↓w52_61, ↓w52_64, ↓w52_65, ↓w52_68, ↓w52_71, ↓w52_72, ↓w52_75, ↓w52_78, ↓w52_81, ↓w52_84, ↓w52_85, ↓w52_87, ↓w52_88, ↓w52_91, ↓w52_94, ↓w52_95, ↓w52_96, ↓w52_99, ↓w52_100, ↓w52_103, ↓w52_104, ↓w52_107, ↓w52_108, ↓w52_109, ↓w52_110, ↓w52_113, ↓w52_114, ↓w52_115, ↓w52_118, ↓w52_121, ↓w52_124, ↓w52_127, ↓town_g0 hg, ↓town_g1 hg, ↓town_g2 hg, ↓town_g3 hg, ↓town_g4 hg, ↓town_g5 hg, ↓town_g6 hg, ↓town_g7 hg, ↓town_p3 hg, ↓town_p4 hg, ↓town_p5 hg, ↓town_p6 hg, ↓town_p7 hg, ↓town_r hg, ↓lmps_n hg, ↓lgts_n hg, icond_lt, icond_le, icond_gt, icond_ge, icond_eq, icond_ne, narrow_bool, true_or, or_true, if_true, if_false, cK_inl, toL_some, toL_none, psum_nil, psum_int, psum_ref, psum_null, psum_long, Nat.zero_le, Nat.reduceAdd, Nat.reduceLeDiff, kl_int, kl_ref, kl_none, kl_null, kl_long, su_at, sr_at, Nat.reduceEqDiff, Nat.add_eq_left, Nat.add_right_cancel_iff, and_false, false_and, and_true, true_and, and_self, if_true, if_false, ↓reduceIte, gbL, e]
    split <;> rfl
  | succ k ih =>
    intro i S hi
    have e : ¬ (3 : Int32) ≤ Int32.ofNat i := fun q => absurd ((ofN_le (k := 3) (by omega) (by omega)).mp q) (by omega)
    have hl : i < 3 := by omega
    rw [w52_86]
    by_cases h1 : S g 4 0 ≤ Int32.ofNat i
    · simp only [↓w52_0, ↓w52_1, ↓w52_2, ↓w52_5, ↓w52_6, ↓w52_7, ↓w52_10, ↓w52_11, ↓w52_12, ↓w52_15, ↓w52_16, ↓w52_17, ↓w52_20, ↓w52_21, ↓w52_22, ↓w52_25, ↓w52_26, ↓w52_27, ↓w52_28, ↓w52_29, ↓w52_32, ↓w52_35, ↓w52_38, ↓w52_39, ↓w52_40, ↓w52_43, ↓w52_44, ↓w52_47, ↓w52_48, ↓w52_51, ↓w52_52, ↓w52_53, ↓w52_54, ↓w52_57, ↓w52_60, ↓w52_61, ↓w52_64, ↓w52_65, ↓w52_68, ↓w52_71, ↓w52_72, ↓w52_75, ↓w52_78, ↓w52_81, ↓w52_84, ↓w52_85, ↓w52_87, ↓w52_88, ↓w52_91, ↓w52_94, ↓w52_95, ↓w52_96, ↓w52_99, ↓w52_100, ↓w52_103, ↓w52_104, ↓w52_107, ↓w52_108, ↓w52_109, ↓w52_110, ↓w52_113, ↓w52_114, ↓w52_115, ↓w52_118, ↓w52_121, ↓w52_124, ↓w52_127, ↓town_g0 hg, ↓town_g1 hg, ↓town_g2 hg, ↓town_g3 hg, ↓town_g4 hg, ↓town_g5 hg, ↓town_g6 hg, ↓town_g7 hg, ↓town_p3 hg, ↓town_p4 hg, ↓town_p5 hg, ↓town_p6 hg, ↓town_p7 hg, ↓town_r hg, ↓lmps_n hg, ↓lgts_n hg, icond_lt, icond_le, icond_gt, icond_ge, icond_eq, icond_ne, narrow_bool, true_or, or_true, if_true, if_false, cK_inl, toL_some, toL_none, psum_nil, psum_int, psum_ref, psum_null, psum_long, Nat.zero_le, Nat.reduceAdd, Nat.reduceLeDiff, kl_int, kl_ref, kl_none, kl_null, kl_long, su_at, sr_at, Nat.reduceEqDiff, Nat.add_eq_left, Nat.add_right_cancel_iff, and_false, false_and, and_true, true_and, and_self, if_true, if_false, ↓reduceIte, gbL, e, h1]
    · simp only [↓w52_0, ↓w52_1, ↓w52_2, ↓w52_5, ↓w52_6, ↓w52_7, ↓w52_10, ↓w52_11, ↓w52_12, ↓w52_15, ↓w52_16, ↓w52_17, ↓w52_20, ↓w52_21, ↓w52_22, ↓w52_25, ↓w52_26, ↓w52_27, ↓w52_28, ↓w52_29, ↓w52_32, ↓w52_35, ↓w52_38, ↓w52_39, ↓w52_40, ↓w52_43, ↓w52_44, ↓w52_47, ↓w52_48, ↓w52_51, ↓w52_52, ↓w52_53, ↓w52_54, ↓w52_57, ↓w52_60, ↓w52_61, ↓w52_64, ↓w52_65, ↓w52_68, ↓w52_71, ↓w52_72, ↓w52_75, ↓w52_78, ↓w52_81, ↓w52_84, ↓w52_85, ↓w52_87, ↓w52_88, ↓w52_91, ↓w52_94, ↓w52_95, ↓w52_96, ↓w52_99, ↓w52_100, ↓w52_103, ↓w52_104, ↓w52_107, ↓w52_108, ↓w52_109, ↓w52_110, ↓w52_113, ↓w52_114, ↓w52_115, ↓w52_118, ↓w52_121, ↓w52_124, ↓w52_127, ↓town_g0 hg, ↓town_g1 hg, ↓town_g2 hg, ↓town_g3 hg, ↓town_g4 hg, ↓town_g5 hg, ↓town_g6 hg, ↓town_g7 hg, ↓town_p3 hg, ↓town_p4 hg, ↓town_p5 hg, ↓town_p6 hg, ↓town_p7 hg, ↓town_r hg, ↓lmps_n hg, ↓lgts_n hg, ↓lgts_q hg hl, ↓lig_g0 hg hl, ↓lig_g1 hg hl, ↓lig_g2 hg hl, ↓lig_g3 hg hl, ↓lig_g4 hg hl, ↓lig_g5 hg hl, ↓lig_g6 hg hl, ↓lig_g7 hg hl, ↓lig_g8 hg hl, ↓lig_g9 hg hl, ↓lig_g10 hg hl, ↓lig_g11 hg hl, ↓lig_p0 hg hl, ↓lig_p1 hg hl, ↓lig_p2 hg hl, ↓lig_p3 hg hl, ↓lig_p4 hg hl, ↓lig_p5 hg hl, ↓lig_p6 hg hl, ↓lig_p8 hg hl, ↓lig_r hg hl, ↓l_notes_get hg hl, ↓l_notes_put hg hl, ↓l_firsts_get hg hl, ↓l_firsts_put hg hl, ↓l_nexts_get hg hl, ↓l_nexts_put hg hl, ↓l_repeats_get hg hl, ↓l_repeats_put hg hl, k9 hg hl, icond_lt, icond_le, icond_gt, icond_ge, icond_eq, icond_ne, narrow_bool, true_or, or_true, if_true, if_false, cK_inl, toL_some, toL_none, psum_nil, psum_int, psum_ref, psum_null, psum_long, Nat.zero_le, Nat.reduceAdd, Nat.reduceLeDiff, kl_int, kl_ref, kl_none, kl_null, kl_long, su_at, sr_at, Nat.reduceEqDiff, Nat.add_eq_left, Nat.add_right_cancel_iff, and_false, false_and, and_true, true_and, and_self, if_true, if_false, ↓reduceIte, gbL, e, h1, ofN_a1]
      exact ih (i + 1) _ (by omega)
theorem k52_lamp (hg : g < 2) (hb : b < 2) : ∀ (k i : Nat) (S : S3), i + k = 10 → (S g 60 0).toNatClampNeg = BA b → Wp (d + 4) 52 27 [some (.ref (TA g)), some (.ref (BA b)), some (.int (Int32.ofNat i))] [] (CH c S L R) Q = Q (.inl none, CH c (gbL g 3 0 (lbL g b k i S)) L R) := by
  intro k
  induction k with
  | zero =>
    intro i S hi hB
    have e : (10 : Int32) ≤ Int32.ofNat i := (ofN_le (k := 10) (by omega) (by omega)).mpr (by omega)
    have e0 := k52_lig (c := c) (L := L) (R := R) (Q := Q) (d := d) (b := b) hg 3 0 S rfl
    rw [w52_27]
    simp only [↓w52_0, ↓w52_1, ↓w52_2, ↓w52_5, ↓w52_6, ↓w52_7, ↓w52_10, ↓w52_11, ↓w52_12, ↓w52_15, ↓w52_16, ↓w52_17, ↓w52_20, ↓w52_21, ↓w52_22, ↓w52_25, ↓w52_26, ↓w52_28, ↓w52_29, ↓w52_32, ↓w52_35, ↓w52_38, ↓w52_39, ↓w52_40, ↓w52_43, ↓w52_44, ↓w52_47, ↓w52_48, ↓w52_51, ↓w52_52, ↓w52_53, ↓w52_54, ↓w52_57, ↓w52_60, ↓w52_61, ↓w52_64, ↓w52_65, ↓w52_68, ↓w52_71, ↓w52_72, ↓w52_75, ↓w52_78, ↓w52_81, ↓w52_84, ↓w52_85, ↓w52_87, ↓w52_88, ↓w52_91, ↓w52_94, ↓w52_95, ↓w52_96, ↓w52_99, ↓w52_100, ↓w52_103, ↓w52_104, ↓w52_107, ↓w52_108, ↓w52_109, ↓w52_110, ↓w52_113, ↓w52_114, ↓w52_115, ↓w52_118, ↓w52_121, ↓w52_124, ↓w52_127, ↓town_g0 hg, ↓town_g1 hg, ↓town_g2 hg, ↓town_g3 hg, ↓town_g4 hg, ↓town_g5 hg, ↓town_g6 hg, ↓town_g7 hg, ↓town_p3 hg, ↓town_p4 hg, ↓town_p5 hg, ↓town_p6 hg, ↓town_p7 hg, ↓town_r hg, ↓lmps_n hg, ↓lgts_n hg, hB, ↓book_g0 hb, ↓book_g1 hb, ↓book_g2 hb, ↓book_g3 hb, ↓book_g4 hb, ↓book_g5 hb, ↓book_g6 hb, ↓book_g7 hb, ↓book_g8 hb, ↓book_g9 hb, ↓book_g10 hb, ↓book_g11 hb, ↓book_g12 hb, ↓book_g13 hb, ↓book_g14 hb, ↓book_g15 hb, ↓book_g16 hb, ↓b_posts_get hb, ↓b_rooms_get hb, ↓b_blocks_get hb, ↓b_words_get hb, ↓b_values_get hb, ↓b_behind_get hb, ↓b_bodies_get hb, ↓b_elses_get hb, ↓b_fstc_get hb, ↓b_endc_get hb, ↓b_lefts_get hb, ↓b_signs_get hb, ↓b_rights_get hb, icond_lt, icond_le, icond_gt, icond_ge, icond_eq, icond_ne, narrow_bool, true_or, or_true, if_true, if_false, cK_inl, toL_some, toL_none, psum_nil, psum_int, psum_ref, psum_null, psum_long, Nat.zero_le, Nat.reduceAdd, Nat.reduceLeDiff, kl_int, kl_ref, kl_none, kl_null, kl_long, su_at, sr_at, Nat.reduceEqDiff, Nat.add_eq_left, Nat.add_right_cancel_iff, and_false, false_and, and_true, true_and, and_self, if_true, if_false, ↓reduceIte, lbL, e]
    split <;> exact e0
  | succ k ih =>
    intro i S hi' hB
    have e : ¬ (10 : Int32) ≤ Int32.ofNat i := fun q => absurd ((ofN_le (k := 10) (by omega) (by omega)).mp q) (by omega)
    have hi : i < 10 := by omega
    rw [w52_27]
    by_cases h1 : S (2 + b) 100 0 ≤ Int32.ofNat i
    · have e0 := k52_lig (c := c) (L := L) (R := R) (Q := Q) (d := d) (b := b) hg 3 0 S rfl
      simp only [↓w52_0, ↓w52_1, ↓w52_2, ↓w52_5, ↓w52_6, ↓w52_7, ↓w52_10, ↓w52_11, ↓w52_12, ↓w52_15, ↓w52_16, ↓w52_17, ↓w52_20, ↓w52_21, ↓w52_22, ↓w52_25, ↓w52_26, ↓w52_28, ↓w52_29, ↓w52_32, ↓w52_35, ↓w52_38, ↓w52_39, ↓w52_40, ↓w52_43, ↓w52_44, ↓w52_47, ↓w52_48, ↓w52_51, ↓w52_52, ↓w52_53, ↓w52_54, ↓w52_57, ↓w52_60, ↓w52_61, ↓w52_64, ↓w52_65, ↓w52_68, ↓w52_71, ↓w52_72, ↓w52_75, ↓w52_78, ↓w52_81, ↓w52_84, ↓w52_85, ↓w52_87, ↓w52_88, ↓w52_91, ↓w52_94, ↓w52_95, ↓w52_96, ↓w52_99, ↓w52_100, ↓w52_103, ↓w52_104, ↓w52_107, ↓w52_108, ↓w52_109, ↓w52_110, ↓w52_113, ↓w52_114, ↓w52_115, ↓w52_118, ↓w52_121, ↓w52_124, ↓w52_127, ↓town_g0 hg, ↓town_g1 hg, ↓town_g2 hg, ↓town_g3 hg, ↓town_g4 hg, ↓town_g5 hg, ↓town_g6 hg, ↓town_g7 hg, ↓town_p3 hg, ↓town_p4 hg, ↓town_p5 hg, ↓town_p6 hg, ↓town_p7 hg, ↓town_r hg, ↓lmps_n hg, ↓lgts_n hg, hB, ↓book_g0 hb, ↓book_g1 hb, ↓book_g2 hb, ↓book_g3 hb, ↓book_g4 hb, ↓book_g5 hb, ↓book_g6 hb, ↓book_g7 hb, ↓book_g8 hb, ↓book_g9 hb, ↓book_g10 hb, ↓book_g11 hb, ↓book_g12 hb, ↓book_g13 hb, ↓book_g14 hb, ↓book_g15 hb, ↓book_g16 hb, ↓b_posts_get hb, ↓b_rooms_get hb, ↓b_blocks_get hb, ↓b_words_get hb, ↓b_values_get hb, ↓b_behind_get hb, ↓b_bodies_get hb, ↓b_elses_get hb, ↓b_fstc_get hb, ↓b_endc_get hb, ↓b_lefts_get hb, ↓b_signs_get hb, ↓b_rights_get hb, icond_lt, icond_le, icond_gt, icond_ge, icond_eq, icond_ne, narrow_bool, true_or, or_true, if_true, if_false, cK_inl, toL_some, toL_none, psum_nil, psum_int, psum_ref, psum_null, psum_long, Nat.zero_le, Nat.reduceAdd, Nat.reduceLeDiff, kl_int, kl_ref, kl_none, kl_null, kl_long, su_at, sr_at, Nat.reduceEqDiff, Nat.add_eq_left, Nat.add_right_cancel_iff, and_false, false_and, and_true, true_and, and_self, if_true, if_false, ↓reduceIte, lbL, e, h1]
      exact e0
    · simp only [↓w52_0, ↓w52_1, ↓w52_2, ↓w52_5, ↓w52_6, ↓w52_7, ↓w52_10, ↓w52_11, ↓w52_12, ↓w52_15, ↓w52_16, ↓w52_17, ↓w52_20, ↓w52_21, ↓w52_22, ↓w52_25, ↓w52_26, ↓w52_28, ↓w52_29, ↓w52_32, ↓w52_35, ↓w52_38, ↓w52_39, ↓w52_40, ↓w52_43, ↓w52_44, ↓w52_47, ↓w52_48, ↓w52_51, ↓w52_52, ↓w52_53, ↓w52_54, ↓w52_57, ↓w52_60, ↓w52_61, ↓w52_64, ↓w52_65, ↓w52_68, ↓w52_71, ↓w52_72, ↓w52_75, ↓w52_78, ↓w52_81, ↓w52_84, ↓w52_85, ↓w52_87, ↓w52_88, ↓w52_91, ↓w52_94, ↓w52_95, ↓w52_96, ↓w52_99, ↓w52_100, ↓w52_103, ↓w52_104, ↓w52_107, ↓w52_108, ↓w52_109, ↓w52_110, ↓w52_113, ↓w52_114, ↓w52_115, ↓w52_118, ↓w52_121, ↓w52_124, ↓w52_127, ↓town_g0 hg, ↓town_g1 hg, ↓town_g2 hg, ↓town_g3 hg, ↓town_g4 hg, ↓town_g5 hg, ↓town_g6 hg, ↓town_g7 hg, ↓town_p3 hg, ↓town_p4 hg, ↓town_p5 hg, ↓town_p6 hg, ↓town_p7 hg, ↓town_r hg, ↓lmps_n hg, ↓lgts_n hg, hB, ↓book_g0 hb, ↓book_g1 hb, ↓book_g2 hb, ↓book_g3 hb, ↓book_g4 hb, ↓book_g5 hb, ↓book_g6 hb, ↓book_g7 hb, ↓book_g8 hb, ↓book_g9 hb, ↓book_g10 hb, ↓book_g11 hb, ↓book_g12 hb, ↓book_g13 hb, ↓book_g14 hb, ↓book_g15 hb, ↓book_g16 hb, ↓b_posts_get hb, ↓b_rooms_get hb, ↓b_blocks_get hb, ↓b_words_get hb, ↓b_values_get hb, ↓b_behind_get hb, ↓b_bodies_get hb, ↓b_elses_get hb, ↓b_fstc_get hb, ↓b_endc_get hb, ↓b_lefts_get hb, ↓b_signs_get hb, ↓b_rights_get hb, ↓lmps_q hg hi, ↓lamp_r hg hi, k3 hg hi, gt_nat hi (by omega), icond_lt, icond_le, icond_gt, icond_ge, icond_eq, icond_ne, narrow_bool, true_or, or_true, if_true, if_false, cK_inl, toL_some, toL_none, psum_nil, psum_int, psum_ref, psum_null, psum_long, Nat.zero_le, Nat.reduceAdd, Nat.reduceLeDiff, kl_int, kl_ref, kl_none, kl_null, kl_long, su_at, sr_at, Nat.reduceEqDiff, Nat.add_eq_left, Nat.add_right_cancel_iff, and_false, false_and, and_true, true_and, and_self, if_true, if_false, ↓reduceIte, lbL, e, h1, ofN_a1]
      refine ih (i + 1) _ (by omega) ?_
      simp only [su_at, sr_at, Nat.reduceEqDiff, Nat.add_eq_left, Nat.add_right_cancel_iff, and_false, false_and, and_true, true_and, and_self, if_true, if_false, ↓reduceIte, hB]
def tb0 (g b : Nat) (S : S3) : S3 := su (su (su (su (su S g 60 0 (bk b)) g 0 0 0) g 1 0 0) g 2 0 0) g 3 0 0
def tbS (g b : Nat) (S : S3) : S3 := gbL g 3 0 (lbL g b 10 0 (tb0 g b S))
theorem k52 (hg : g < 2) (hb : b < 2) : Cp (d + 5) 52 [.ref (TA g), .ref (BA b)] (CH c S L R) Q = Q (.inl none, CH c (tbS g b S) L R) := by
  have e0 := k52_lamp (c := c) (L := L) (R := R) (Q := Q) (d := d) hg hb 10 0 (tb0 g b S) rfl (by simp only [tb0, su_at, sr_at, Nat.reduceEqDiff, Nat.add_eq_left, Nat.add_right_cancel_iff, and_false, false_and, and_true, true_and, and_self, if_true, if_false, ↓reduceIte]; exact bk_BA hb)
  simp only [ce52, ↓w52_0, ↓w52_1, ↓w52_2, ↓w52_5, ↓w52_6, ↓w52_7, ↓w52_10, ↓w52_11, ↓w52_12, ↓w52_15, ↓w52_16, ↓w52_17, ↓w52_20, ↓w52_21, ↓w52_22, ↓w52_25, ↓w52_26, ↓w52_28, ↓w52_29, ↓w52_32, ↓w52_35, ↓w52_38, ↓w52_39, ↓w52_40, ↓w52_43, ↓w52_44, ↓w52_47, ↓w52_48, ↓w52_51, ↓w52_52, ↓w52_53, ↓w52_54, ↓w52_57, ↓w52_60, ↓w52_61, ↓w52_64, ↓w52_65, ↓w52_68, ↓w52_71, ↓w52_72, ↓w52_75, ↓w52_78, ↓w52_81, ↓w52_84, ↓w52_85, ↓w52_87, ↓w52_88, ↓w52_91, ↓w52_94, ↓w52_95, ↓w52_96, ↓w52_99, ↓w52_100, ↓w52_103, ↓w52_104, ↓w52_107, ↓w52_108, ↓w52_109, ↓w52_110, ↓w52_113, ↓w52_114, ↓w52_115, ↓w52_118, ↓w52_121, ↓w52_124, ↓w52_127, ↓town_p0 hg hb, ↓town_g0 hg, ↓town_g1 hg, ↓town_g2 hg, ↓town_g3 hg, ↓town_g4 hg, ↓town_g5 hg, ↓town_g6 hg, ↓town_g7 hg, ↓town_p3 hg, ↓town_p4 hg, ↓town_p5 hg, ↓town_p6 hg, ↓town_p7 hg, ↓town_r hg, ↓lmps_n hg, ↓lgts_n hg, icond_lt, icond_le, icond_gt, icond_ge, icond_eq, icond_ne, narrow_bool, true_or, or_true, if_true, if_false, cK_inl, toL_some, toL_none, psum_nil, psum_int, psum_ref, psum_null, psum_long, Nat.zero_le, Nat.reduceAdd, Nat.reduceLeDiff, kl_int, kl_ref, kl_none, kl_null, kl_long, su_at, sr_at, Nat.reduceEqDiff, Nat.add_eq_left, Nat.add_right_cancel_iff, and_false, false_and, and_true, true_and, and_self, if_true, if_false, ↓reduceIte]
  exact e0
theorem okG_lb {b0 : Nat} : ∀ {k i : Nat} {S : S3}, okG g b0 S → okG g b0 (lbL g b k i S) := by
  intro k
  induction k with
  | zero => intro i S h; exact h
  | succ k ih =>
    intro i S h
    simp only [lbL]
    split
    · exact h
    · exact ih (okG_lit (okG_su (okG_su (okG_su (okG_su (okG_su (okG_su h (by decide) (by decide) (by decide)) (by decide) (by decide) (by decide)) (by decide) (by decide) (by decide)) (by decide) (by decide) (by decide)) (by decide) (by decide) (by decide)) (by decide) (by decide) (by decide)) (Or.inl rfl))
theorem okG_gb : ∀ {k i : Nat} {S : S3}, okG g b S → okG g b (gbL g k i S) := by
  intro k
  induction k with
  | zero => intro i S h; exact h
  | succ k ih =>
    intro i S h
    simp only [gbL]
    split
    · exact h
    · exact ih (okG_beg h)
theorem okG_tb {b0 : Nat} (hb : b < 2) (h : okG g b0 S) : okG g b (tbS g b S) := okG_gb (okG_lb (okG_su (okG_su (okG_su (okG_su (okG_book hb h) (by decide) (by decide) (by decide)) (by decide) (by decide) (by decide)) (by decide) (by decide) (by decide)) (by decide) (by decide) (by decide)))
end CLASSH
