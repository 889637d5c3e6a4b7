/-! TEACHING, EACH SIDE BY ITSELF -/
section TCH
variable {b b0 pl n m k t c D a n1 n2 N : Nat} {rk : Nat → Nat} {T : Nat → Int32} {S S' S0 S1 V V' V0 V1 P P' P1 : S3} {L L' L0 L1 : L3} {hc hcR : Nat × Nat × Nat} {R RB RB1 C : Nat → Option PC} {W : L3} {Q : PO → Prop} {z r e : Int32}
theorem x0_b (h : (S 4 207 0).toNatClampNeg = BA b) {K : Value → Prop} : gP ((CH hc S L R).2 300) 7 4 K = K (.ref (BA b)) := by rw [x0_g4, h]
theorem town_b (h : (S 0 60 0).toNatClampNeg = BA b) {K : Value → Prop} : gP ((CH hc S L R).2 (TA 0)) 6 0 K = K (.ref (BA b)) := by rw [town_g0 (by decide), h]
/-- the class behind reading -/
def tcA (S : S3) : S3 := su (su S 4 206 0 0) 4 205 0 (S 4 204 0)
theorem k71_1 (hb : b < 2) (hs : (S 4 207 0).toNatClampNeg = BA b) (q : RD hc R D 21 [.ref 317, .ref 301, .ref (BA b)] S L e S1 L1) (he : e ≠ 0) : Cp (D + 1) 71 [.ref 300] (CH hc S L R) Q = Q (.inl (some (.int e)), CH hc (tcA S1) L1 R) := by
  have e4 : su S1 4 206 0 0 4 204 0 = S1 4 204 0 := by rw [su_ne (by decide)]
  unfold RD at q
  simp +decide only [ce71, ↓w71_0, ↓w71_1, ↓w71_4, ↓w71_5, ↓w71_8, ↓w71_9, ↓w71_12, ↓w71_15, ↓w71_16, ↓w71_17, ↓w71_20, ↓w71_21, ↓w71_24, ↓w71_25, ↓w71_26, ↓w71_29, ↓w71_32, ↓w71_35, ↓w71_36, ↓w71_39, ↓w71_40, ↓w71_43, ↓w71_44, ↓w71_45, ↓w71_46, ↓w71_49, ↓w71_52, ↓w71_55, ↓w71_56, ↓w71_59, ↓w71_60, ↓w71_63, ↓w71_64, ↓x0_b hs, ↓x0_g0, ↓x0_g1, ↓x0_g2, ↓x0_g3, ↓x0_g4, ↓x0_g5, ↓x0_p5, x0_r, cK_inr, CH_thr, ↓rdr_g0, ↓rdr_g1, ↓rdr_g2, ↓rdr_g3, ↓rdr_g4, ↓rdr_g5, ↓rdr_g6, ↓rdr_g7, ↓rdr_g8, ↓rdr_g9, ↓rdr_p4, ↓rdr_p5, ↓rdr_p6, ↓rdr_p7, ↓rdr_p8, ↓rdr_p9, ↓rdr_r, ↓tape_p1, tape_r, ↓q, ↓cK_inl, he, e4, icond_lt, icond_le, icond_gt, icond_ge, icond_eq, icond_ne, narrow_bool, true_or, or_true, if_true, if_false, cK_inl, toL_some, toL_none, psum_nil, psum_int, psum_ref, psum_null, psum_long, Nat.zero_le, Nat.reduceAdd, Nat.reduceLeDiff, kl_int, kl_ref, kl_none, kl_null, kl_long, ne_eq, not_true, not_false_eq_true]
  rfl
theorem k71_0 (hb : b < 2) (hb0 : b0 < 2) (hs : (S 4 207 0).toNatClampNeg = BA b) (hs1 : (S1 4 207 0).toNatClampNeg = BA b) (ht : (S1 0 60 0).toNatClampNeg = BA b0) (q : RD hc R (D + 5) 21 [.ref 317, .ref 301, .ref (BA b)] S L 0 S1 L1) : Cp (D + 6) 71 [.ref 300] (CH hc S L R) Q = Q (.inl (some (.int 0)), CH hc (tbS 0 b (su (tcA S1) 4 207 0 (bk b0))) L1 R) := by
  have e4 : su S1 4 206 0 0 4 204 0 = S1 4 204 0 := by rw [su_ne (by decide)]
  have hs2 : ∀ {x : Int32}, (su (su S1 4 206 0 0) 4 205 0 x 4 207 0).toNatClampNeg = BA b := fun {x} => by rw [su_ne (by decide), su_ne (by decide)]; exact hs1
  have ht2 : ∀ {x : Int32}, (su (su S1 4 206 0 0) 4 205 0 x 0 60 0).toNatClampNeg = BA b0 := fun {x} => by rw [su_gne (by decide), su_gne (by decide)]; exact ht
  unfold RD at q
  simp +decide only [ce71, ↓w71_0, ↓w71_1, ↓w71_4, ↓w71_5, ↓w71_8, ↓w71_9, ↓w71_12, ↓w71_15, ↓w71_16, ↓w71_17, ↓w71_20, ↓w71_21, ↓w71_24, ↓w71_25, ↓w71_26, ↓w71_29, ↓w71_32, ↓w71_35, ↓w71_36, ↓w71_40, ↓w71_43, ↓w71_44, ↓w71_45, ↓w71_46, ↓w71_49, ↓w71_52, ↓w71_55, ↓w71_56, ↓w71_59, ↓w71_60, ↓w71_63, ↓w71_64, ↓x0_b hs, ↓x0_g0, ↓x0_g1, ↓x0_g2, ↓x0_g3, ↓x0_g4, ↓x0_g5, ↓x0_p5, x0_r, cK_inr, CH_thr, ↓rdr_g0, ↓rdr_g1, ↓rdr_g2, ↓rdr_g3, ↓rdr_g4, ↓rdr_g5, ↓rdr_g6, ↓rdr_g7, ↓rdr_g8, ↓rdr_g9, ↓rdr_p4, ↓rdr_p5, ↓rdr_p6, ↓rdr_p7, ↓rdr_p8, ↓rdr_p9, ↓rdr_r, ↓tape_p1, tape_r, ↓q, ↓cK_inl, e4, icond_lt, icond_le, icond_gt, icond_ge, icond_eq, icond_ne, narrow_bool, true_or, or_true, if_true, if_false, cK_inl, toL_some, toL_none, psum_nil, psum_int, psum_ref, psum_null, psum_long, Nat.zero_le, Nat.reduceAdd, Nat.reduceLeDiff, kl_int, kl_ref, kl_none, kl_null, kl_long, ne_eq, not_true, not_false_eq_true]
  simp +decide only [↓w71_0, ↓w71_1, ↓w71_4, ↓w71_5, ↓w71_8, ↓w71_9, ↓w71_12, ↓w71_15, ↓w71_16, ↓w71_17, ↓w71_20, ↓w71_21, ↓w71_24, ↓w71_25, ↓w71_26, ↓w71_29, ↓w71_32, ↓w71_35, ↓w71_36, ↓w71_39, ↓w71_40, ↓w71_43, ↓w71_44, ↓w71_45, ↓w71_46, ↓w71_49, ↓w71_52, ↓w71_55, ↓w71_56, ↓w71_59, ↓w71_60, ↓w71_63, ↓w71_64, ↓x0_b hs2, ↓town_b ht2, ↓x0_p4 hb0, ↓x0_g0, ↓x0_g1, ↓x0_g2, ↓x0_g3, ↓x0_g4, ↓x0_g5, ↓x0_p5, x0_r, cK_inr, CH_thr, town_r, k52 (g := 0) (by decide) hb, icond_lt, icond_le, icond_gt, icond_ge, icond_eq, icond_ne, narrow_bool, true_or, or_true, if_true, if_false, cK_inl, toL_some, toL_none, psum_nil, psum_int, psum_ref, psum_null, psum_long, Nat.zero_le, Nat.reduceAdd, Nat.reduceLeDiff, kl_int, kl_ref, kl_none, kl_null, kl_long, ne_eq, not_true, not_false_eq_true]
  rfl
/-- the reference -/
theorem m0_pk (h : (V 4 207 0).toNatClampNeg = pl) {K : Value → Prop} : gP ((RP hcR C V W pl P RB).2 395) 10 11 K = K (.ref pl) := by rw [m0_g11, h]
theorem pn_0 {fs : List Value} : upR RB a (.inr (8, fs)) = pn RB a 0 fs := by
  funext k
  unfold upR pn
  by_cases h : k = a
  · rw [if_pos h, if_pos h]
  · rw [if_neg h, if_neg h, if_neg (by omega)]
theorem r180_a (h1 : 453 ≤ a) (h2 : pl + 16 ≤ a) (ha : a < 2 ^ 31) : Cp (D + 2) 180 [.ref 395] (RP (a, n1, n2) C V W pl P RB) Q = Wp (D + 1) 180 11 [some (.ref 395), none, none] [] (RP (a + 16, n1 + 16, n2 + 5242) C (su V 4 207 0 (Int32.ofNat a)) W a P0 (gov tP pl P W RB)) Q := by
  have e22 : (pdef 8).length = 22 := by rw [pdef8]; rfl
  have q118 : Cp (D + 1) 118 [.ref a] (RP (a + 1, n1 + 1, n2 + 22) C V W pl P (pn RB a 0 pd8)) = fun Q => Q (.inl none, RP (a + 16, n1 + 16, n2 + 5242) C V W pl P (pn RB a 15 (plF a))) := by
    funext Q
    exact r118 (d := D) (n1 := n1 + 1) (n2 := n2 + 22) h1 h2
  have hv : Value.ref a = .ref (Int32.ofNat a).toNatClampNeg := by rw [tN_nat ha]
  rw [ce180, w180_0, w180_1, e22, RP_new (c := (a, n1, n2)) h1 h2]
  simp only [RP_c, pn_0, pdef8]
  rw [w180_4, w180_5 (by simp only [psum_nil, psum_ref]; decide) (by omega)]
  rw [q118]
  simp only [cK_inl, toL_none, List.nil_append]
  rw [w180_8, pn_view h2, hv, m0_p11]
theorem r183_1 (q : ∀ Q, Cp D 180 [.ref 395] (RP hcR C (su (su V 4 200 0 0) 4 202 0 (-1)) W pl P RB) Q = Q (.inl (some (.int e)), RP hc C V1 W a P1 RB1)) (he : 0 < e) : Cp (D + 1) 183 [.ref 395] (RP hcR C V W pl P RB) Q = Q (.inl (some (.int e)), RP hc C (su V1 4 201 0 0) W a P1 RB1) := by
  have he2 : ¬ e ≤ 0 := Int32.not_le.mpr he
  simp +decide only [ce183, ↓w183_0, ↓w183_1, ↓w183_2, ↓w183_5, ↓w183_6, ↓w183_7, ↓w183_10, ↓w183_11, ↓w183_14, ↓w183_15, ↓w183_16, ↓w183_17, ↓w183_20, ↓w183_21, ↓w183_24, ↓w183_25, ↓w183_26, ↓w183_27, ↓w183_28, ↓w183_31, ↓w183_34, ↓w183_35, ↓w183_38, ↓w183_41, ↓w183_42, ↓m0_g0, ↓m0_g1, ↓m0_g2, ↓m0_g3, ↓m0_g4, ↓m0_g5, ↓m0_g6, ↓m0_g7, ↓m0_g8, ↓m0_g9, ↓m0_g10, ↓m0_g11, ↓m0_g12, ↓m0_g13, ↓m0_g14, ↓m0_g15, ↓m0_p0, ↓m0_p2, ↓m0_p3, ↓m0_p8, ↓m0_p9, ↓m0_p12, m0_r, ↓q, ↓cK_inl, he2, icond_lt, icond_le, icond_gt, icond_ge, icond_eq, icond_ne, narrow_bool, true_or, or_true, if_true, if_false, cK_inl, toL_some, toL_none, psum_nil, psum_int, psum_ref, psum_null, psum_long, Nat.zero_le, Nat.reduceAdd, Nat.reduceLeDiff, kl_int, kl_ref, kl_none, kl_null, kl_long, ne_eq, not_true, not_false_eq_true]
theorem r183_0 (hp : Pok a) (hP : (V1 4 207 0).toNatClampNeg = a) (hN3 : N ≤ 3) (hN : V1 4 205 0 = Int32.ofNat N) (q : ∀ Q, Cp (D + 3) 180 [.ref 395] (RP hcR C (su (su V 4 200 0 0) 4 202 0 (-1)) W pl P RB) Q = Q (.inl (some (.int 0)), RP hc C V1 W a P1 RB1)) : Cp (D + 4) 183 [.ref 395] (RP hcR C V W pl P RB) Q
    = Q (.inl (some (.int 0)), RP hc C (lgR N 0 (lmR P1 10 0 (su (su (su (su (su (su V1 4 201 0 0) 4 206 0 (V1 4 207 0)) 0 0 0 0) 0 1 0 0) 0 3 0 0) 0 2 0 0))) W a P1 RB1) := by
  have hg : 0 < 2 := by decide
  have e7 : su V1 4 201 0 0 4 207 0 = V1 4 207 0 := by rw [su_ne (by decide)]
  have eN : su (su V1 4 201 0 0) 4 206 0 (V1 4 207 0) 4 205 0 = Int32.ofNat N := by rw [su_ne (by decide), su_ne (by decide)]; exact hN
  have eP : (su (su V1 4 201 0 0) 4 206 0 (V1 4 207 0) 4 206 0).toNatClampNeg = a := by rw [su_self]; exact hP
  have q123 := fun Q => r123 (c := hc) (C := C) (W := W) (R := RB1) (P := P1) hN3 hp eN eP D Q
  simp +decide only [ce183, ↓w183_0, ↓w183_1, ↓w183_2, ↓w183_5, ↓w183_6, ↓w183_7, ↓w183_10, ↓w183_11, ↓w183_14, ↓w183_15, ↓w183_16, ↓w183_17, ↓w183_20, ↓w183_21, ↓w183_24, ↓w183_25, ↓w183_26, ↓w183_27, ↓w183_28, ↓w183_31, ↓w183_34, ↓w183_35, ↓w183_41, ↓w183_42, ↓m0_g0, ↓m0_g1, ↓m0_g2, ↓m0_g3, ↓m0_g4, ↓m0_g5, ↓m0_g6, ↓m0_g7, ↓m0_g8, ↓m0_g9, ↓m0_g10, ↓m0_g11, ↓m0_g12, ↓m0_g13, ↓m0_g14, ↓m0_g15, ↓m0_p0, ↓m0_p2, ↓m0_p3, ↓m0_p8, ↓m0_p9, ↓m0_p12, m0_r, ↓m0_p10, ↓q, ↓cK_inl, e7, icond_lt, icond_le, icond_gt, icond_ge, icond_eq, icond_ne, narrow_bool, true_or, or_true, if_true, if_false, cK_inl, toL_some, toL_none, psum_nil, psum_int, psum_ref, psum_null, psum_long, Nat.zero_le, Nat.reduceAdd, Nat.reduceLeDiff, kl_int, kl_ref, kl_none, kl_null, kl_long, ne_eq, not_true, not_false_eq_true]
  rw [w183_38 (by decide)]
  simp +decide only [↓w183_0, ↓w183_1, ↓w183_2, ↓w183_5, ↓w183_6, ↓w183_7, ↓w183_10, ↓w183_11, ↓w183_14, ↓w183_15, ↓w183_16, ↓w183_17, ↓w183_20, ↓w183_21, ↓w183_24, ↓w183_25, ↓w183_26, ↓w183_27, ↓w183_28, ↓w183_31, ↓w183_34, ↓w183_35, ↓w183_41, ↓w183_42, ↓m0_g0, ↓m0_g1, ↓m0_g2, ↓m0_g3, ↓m0_g4, ↓m0_g5, ↓m0_g6, ↓m0_g7, ↓m0_g8, ↓m0_g9, ↓m0_g10, ↓m0_g11, ↓m0_g12, ↓m0_g13, ↓m0_g14, ↓m0_g15, ↓m0_p0, ↓m0_p2, ↓m0_p3, ↓m0_p8, ↓m0_p9, ↓m0_p12, m0_r, ↓s_g0 hg, ↓s_g1 hg, ↓s_g2 hg, ↓s_g3 hg, ↓s_g4 hg, ↓s_g5 hg, ↓s_g6 hg, ↓s_g7 hg, ↓s_g8 hg, ↓s_g9 hg, ↓s_g10 hg, ↓s_g11 hg, ↓s_g12 hg, ↓s_g13 hg, ↓s_g14 hg, ↓s_g15 hg, ↓s_g16 hg, ↓s_g17 hg, ↓s_g18 hg, ↓s_g19 hg, ↓s_g20 hg, ↓s_p0 hg, ↓s_p1 hg, ↓s_p3 hg, s_r hg, q123, icond_lt, icond_le, icond_gt, icond_ge, icond_eq, icond_ne, narrow_bool, true_or, or_true, if_true, if_false, cK_inl, toL_some, toL_none, psum_nil, psum_int, psum_ref, psum_null, psum_long, Nat.zero_le, Nat.reduceAdd, Nat.reduceLeDiff, kl_int, kl_ref, kl_none, kl_null, kl_long, ne_eq, not_true, not_false_eq_true]
end TCH
