/-! THE GRAMMAR IN LOCKSTEP: all compares of an if -/
section CMPC
variable {b pl n m k c i A A' cc cS cc' cS' E E' M M' NR R' dp : Nat} {qf : Nat → Nat} {T : Nat → Int32} {S S' S0 S1 V V' V0 V1 V2 V3 P P' P1 P2 P3 U U' : S3} {L L' L0 L1 : L3} {x y z1 z2 s aC aR : Int32} {hc hcR : Nat × Nat × Nat} {R RB C : Nat → Option PC} {W : L3} {l4 l2 : Option Value}
/-- a token that is taken, in both -/
theorem acc_G (H : bse b pl n m qf T S0 L0 V0) (h : Gk b m qf T S0 L0 V0 k dp A cc cS E M M' NR R' S L V P) {j : Nat} (hj : j ≤ 30) (e : S 4 211 k = Int32.ofNat j) : k < m ∧ V 4 211 k = toR (Int32.ofNat j) ∧ S 4 201 0 = Int32.ofNat j ∧ S 4 200 0 + 1 = Int32.ofNat (k + 1) ∧
    Gk b m qf T S0 L0 V0 (k + 1) dp A cc cS E M M' NR R' (stS (k + 1) S) (stV (k + 1) L) (su V 4 203 0 (Int32.ofNat (k + 1))) P ∧ (stS (k + 1) S 4 203 0 = 0 → S 4 203 0 = 0 ∧ (p2 (su V 4 203 0 (Int32.ofNat (k + 1))) T qf (k + 1)).2.2 = (p2 V T qf k).2.2) := by
  obtain ⟨g1, F, g3, g4, g5⟩ := id h
  have hn : ¬ (S 4 211 k = 31 ∨ S 4 211 k = 32) := fun q => by
    rw [e] at q
    rcases q with q | q
    · exact absurd (ofN_inj (b := 31) (by omega) (by omega) q) (by omega)
    · exact absurd (ofN_inj (b := 32) (by omega) (by omega) q) (by omega)
  have hk := bse_n H F g1.1 hn
  have t := tok_G (S1 := S) (P1 := P) H h hk sbt_refl (CP_next g4)
  exact ⟨hk, bse_eq H F g1.1 e, g1.2.2.1.trans e, by rw [g1.2.1, ofN_a1], t.1, t.2⟩
theorem k_no (H : bse b pl n m qf T S0 L0 V0) (h : Gk b m qf T S0 L0 V0 k dp A cc cS E M M' NR R' S L V P) {j : Nat} (hj : j ≤ 30) (e : S 4 211 k ≠ Int32.ofNat j) : V 4 211 k ≠ toR (Int32.ofNat j) ∧ S 4 201 0 ≠ Int32.ofNat j := by
  obtain ⟨g1, F, g3, g4, g5⟩ := id h
  exact ⟨bse_ne H F g1.1 (by omega) e, by rw [g1.2.2.1]; exact e⟩
/-- the loops' heads -/
theorem c28_and (e : S 4 200 0 + 1 = Int32.ofNat (k + 1)) (hk : k + 1 < 401) (h : S 4 201 0 = 14) (hi : i + 1 < 400) (d : Nat) (Q : PO → Prop) : Wp (d + 3) 28 127 [some (.ref 317), some (.int aC), some (.int 1), some (.int (Int32.ofNat i)), l4] [] (CH hc S L R) Q
    = Wp (d + 3) 28 33 [some (.ref 317), some (.int aC), some (.int 1), some (.int (Int32.ofNat (i + 1))), l4] [] (CH hc (stS (k + 1) S) (stV (k + 1) L) R) Q := by
  have hi' : ¬ (400 : Int32) ≤ Int32.ofNat (i + 1) := fun q => absurd ((ofN_le (k := 400) (by omega) (by omega)).mp q) (by omega)
  simp +decide only [↓w28_0, ↓w28_1, ↓w28_4, ↓w28_7, ↓w28_8, ↓w28_9, ↓w28_12, ↓w28_15, ↓w28_18, ↓w28_19, ↓w28_20, ↓w28_21, ↓w28_22, ↓w28_23, ↓w28_26, ↓w28_29, ↓w28_30, ↓w28_34, ↓w28_37, ↓w28_40, ↓w28_42, ↓w28_43, ↓w28_44, ↓w28_47, ↓w28_50, ↓w28_52, ↓w28_55, ↓w28_58, ↓w28_59, ↓w28_62, ↓w28_64, ↓w28_67, ↓w28_68, ↓w28_71, ↓w28_73, ↓w28_76, ↓w28_77, ↓w28_78, ↓w28_79, ↓w28_82, ↓w28_85, ↓w28_87, ↓w28_88, ↓w28_91, ↓w28_94, ↓w28_95, ↓w28_98, ↓w28_99, ↓w28_100, ↓w28_103, ↓w28_106, ↓w28_108, ↓w28_111, ↓w28_114, ↓w28_115, ↓w28_116, ↓w28_117, ↓w28_120, ↓w28_122, ↓w28_123, ↓w28_124, ↓w28_127, ↓w28_128, ↓w28_130, ↓w28_133, ↓w28_134, ↓w28_137, ↓w28_140, ↓w28_141, ↓w28_144, ↓w28_147, ↓w28_148, ↓w28_149, ↓w28_152, ↓w28_155, ↓w28_158, ↓w28_159, ↓rdr_g0, ↓rdr_g1, ↓rdr_g2, ↓rdr_g3, ↓rdr_g4, ↓rdr_g5, ↓rdr_g6, ↓rdr_g7, ↓rdr_g8, ↓rdr_g9, ↓rdr_p4, ↓rdr_p5, ↓rdr_p6, ↓rdr_p7, ↓rdr_p8, ↓rdr_p9, ↓rdr_r, k35 e hk h, ofN_a1, hi', icond_lt, icond_le, icond_gt, icond_ge, icond_eq, icond_ne, narrow_bool, true_or, or_true, if_true, if_false, cK_inl, toL_some, toL_none, psum_nil, psum_int, psum_ref, psum_null, psum_long, Nat.zero_le, Nat.reduceAdd, Nat.reduceLeDiff, kl_int, kl_ref, kl_none, kl_null, kl_long]
theorem c28_end (h : S 4 201 0 ≠ 14) (hi : i + 1 < 400) (d : Nat) (Q : PO → Prop) : Wp (d + 3) 28 127 [some (.ref 317), some (.int aC), some (.int 1), some (.int (Int32.ofNat i)), l4] [] (CH hc S L R) Q
    = Wp (d + 3) 28 140 [some (.ref 317), some (.int aC), some (.int 0), some (.int (Int32.ofNat (i + 1))), l4] [] (CH hc S L R) Q := by
  have hi' : ¬ (400 : Int32) ≤ Int32.ofNat (i + 1) := fun q => absurd ((ofN_le (k := 400) (by omega) (by omega)).mp q) (by omega)
  simp +decide only [↓w28_0, ↓w28_1, ↓w28_4, ↓w28_7, ↓w28_8, ↓w28_9, ↓w28_12, ↓w28_15, ↓w28_18, ↓w28_19, ↓w28_20, ↓w28_21, ↓w28_22, ↓w28_23, ↓w28_26, ↓w28_29, ↓w28_30, ↓w28_34, ↓w28_37, ↓w28_40, ↓w28_42, ↓w28_43, ↓w28_44, ↓w28_47, ↓w28_50, ↓w28_52, ↓w28_55, ↓w28_58, ↓w28_59, ↓w28_62, ↓w28_64, ↓w28_67, ↓w28_68, ↓w28_71, ↓w28_73, ↓w28_76, ↓w28_77, ↓w28_78, ↓w28_79, ↓w28_82, ↓w28_85, ↓w28_87, ↓w28_88, ↓w28_91, ↓w28_94, ↓w28_95, ↓w28_98, ↓w28_99, ↓w28_100, ↓w28_103, ↓w28_106, ↓w28_108, ↓w28_111, ↓w28_114, ↓w28_115, ↓w28_116, ↓w28_117, ↓w28_120, ↓w28_122, ↓w28_123, ↓w28_124, ↓w28_127, ↓w28_128, ↓w28_130, ↓w28_133, ↓w28_134, ↓w28_137, ↓w28_141, ↓w28_144, ↓w28_147, ↓w28_148, ↓w28_149, ↓w28_152, ↓w28_155, ↓w28_158, ↓w28_159, ↓rdr_g0, ↓rdr_g1, ↓rdr_g2, ↓rdr_g3, ↓rdr_g4, ↓rdr_g5, ↓rdr_g6, ↓rdr_g7, ↓rdr_g8, ↓rdr_g9, ↓rdr_p4, ↓rdr_p5, ↓rdr_p6, ↓rdr_p7, ↓rdr_p8, ↓rdr_p9, ↓rdr_r, k35_no h, ofN_a1, hi', icond_lt, icond_le, icond_gt, icond_ge, icond_eq, icond_ne, narrow_bool, true_or, or_true, if_true, if_false, cK_inl, toL_some, toL_none, psum_nil, psum_int, psum_ref, psum_null, psum_long, Nat.zero_le, Nat.reduceAdd, Nat.reduceLeDiff, kl_int, kl_ref, kl_none, kl_null, kl_long]
theorem r166_and1 (e : V 4 203 0 = Int32.ofNat k) (hk : k < 401) (h : V 4 211 k = 14) (q1 : RR hcR C W pl RB 6 167 [.ref 395] (su V 4 203 0 (Int32.ofNat (k + 1))) P 1 V1 P1) (d : Nat) (Q : PO → Prop) : Wp (d + 6) 166 25 [some (.ref 395), some (.int aR)] [] (RP hcR C V W pl P RB) Q
    = Wp (d + 6) 166 25 [some (.ref 395), some (.int aR)] [] (RP hcR C V1 W pl P1 RB) Q := by
  unfold RR at q1
  have q2 : Wp (d + 6) 166 25 [some (.ref 395), some (.int aR)] [] (RP hcR C V W pl P RB) Q = Wp (d + 6) 166 34 [some (.ref 395), some (.int aR)] [] (RP hcR C (su V 4 203 0 (Int32.ofNat (k + 1))) W pl P RB) Q := by
    simp +decide only [↓w166_0, ↓w166_1, ↓w166_4, ↓w166_7, ↓w166_8, ↓w166_9, ↓w166_12, ↓w166_15, ↓w166_16, ↓w166_17, ↓w166_20, ↓w166_23, ↓w166_24, ↓w166_25, ↓w166_26, ↓w166_28, ↓w166_31, ↓w166_35, ↓w166_38, ↓w166_41, ↓w166_42, ↓w166_43, ↓w166_44, ↓w166_47, ↓w166_50, ↓w166_51, ↓w166_52, ↓w166_55, ↓w166_58, ↓w166_59, ↓w166_60, ↓w166_63, ↓w166_66, ↓w166_67, ↓w166_68, ↓w166_71, ↓w166_74, ↓w166_75, ↓w166_76, ↓w166_79, ↓w166_82, ↓w166_83, ↓w166_84, ↓w166_85, ↓w166_87, ↓w166_90, ↓w166_93, ↓w166_94, ↓w166_95, ↓w166_96, ↓w166_99, ↓w166_102, ↓w166_103, ↓w166_104, ↓w166_107, ↓w166_110, ↓w166_111, ↓w166_112, ↓w166_115, ↓m0_g0, ↓m0_g1, ↓m0_g2, ↓m0_g3, ↓m0_g4, ↓m0_g5, ↓m0_g6, ↓m0_g7, ↓m0_g8, ↓m0_g9, ↓m0_g10, ↓m0_g11, ↓m0_g12, ↓m0_g13, ↓m0_g14, ↓m0_g15, ↓m0_p0, ↓m0_p2, ↓m0_p3, ↓m0_p8, ↓m0_p9, ↓m0_p12, m0_r, r159 e hk h, icond_lt, icond_le, icond_gt, icond_ge, icond_eq, icond_ne, narrow_bool, true_or, or_true, if_true, if_false, cK_inl, toL_some, toL_none, psum_nil, psum_int, psum_ref, psum_null, psum_long, Nat.zero_le, Nat.reduceAdd, Nat.reduceLeDiff, kl_int, kl_ref, kl_none, kl_null, kl_long]
  rw [q2]
  simp +decide only [↓w166_0, ↓w166_1, ↓w166_4, ↓w166_7, ↓w166_8, ↓w166_9, ↓w166_12, ↓w166_15, ↓w166_16, ↓w166_17, ↓w166_20, ↓w166_23, ↓w166_24, ↓w166_26, ↓w166_28, ↓w166_31, ↓w166_34, ↓w166_35, ↓w166_38, ↓w166_41, ↓w166_42, ↓w166_43, ↓w166_44, ↓w166_47, ↓w166_50, ↓w166_51, ↓w166_52, ↓w166_55, ↓w166_58, ↓w166_59, ↓w166_60, ↓w166_63, ↓w166_66, ↓w166_67, ↓w166_68, ↓w166_71, ↓w166_74, ↓w166_75, ↓w166_76, ↓w166_79, ↓w166_82, ↓w166_83, ↓w166_84, ↓w166_85, ↓w166_87, ↓w166_90, ↓w166_93, ↓w166_94, ↓w166_95, ↓w166_96, ↓w166_99, ↓w166_102, ↓w166_103, ↓w166_104, ↓w166_107, ↓w166_110, ↓w166_111, ↓w166_112, ↓w166_115, ↓m0_g0, ↓m0_g1, ↓m0_g2, ↓m0_g3, ↓m0_g4, ↓m0_g5, ↓m0_g6, ↓m0_g7, ↓m0_g8, ↓m0_g9, ↓m0_g10, ↓m0_g11, ↓m0_g12, ↓m0_g13, ↓m0_g14, ↓m0_g15, ↓m0_p0, ↓m0_p2, ↓m0_p3, ↓m0_p8, ↓m0_p9, ↓m0_p12, m0_r, q1, icond_lt, icond_le, icond_gt, icond_ge, icond_eq, icond_ne, narrow_bool, true_or, or_true, if_true, if_false, cK_inl, toL_some, toL_none, psum_nil, psum_int, psum_ref, psum_null, psum_long, Nat.zero_le, Nat.reduceAdd, Nat.reduceLeDiff, kl_int, kl_ref, kl_none, kl_null, kl_long]
theorem r166_and0 (e : V 4 203 0 = Int32.ofNat k) (hk : k < 401) (h : V 4 211 k = 14) (q1 : RR hcR C W pl RB 6 167 [.ref 395] (su V 4 203 0 (Int32.ofNat (k + 1))) P 0 V1 P1) (d : Nat) (Q : PO → Prop) : Wp (d + 6) 166 25 [some (.ref 395), some (.int aR)] [] (RP hcR C V W pl P RB) Q
    = Q (.inl (some (.int 0)), RP hcR C V1 W pl P1 RB) := by
  unfold RR at q1
  simp +decide only [↓w166_0, ↓w166_1, ↓w166_4, ↓w166_7, ↓w166_8, ↓w166_9, ↓w166_12, ↓w166_15, ↓w166_16, ↓w166_17, ↓w166_20, ↓w166_23, ↓w166_24, ↓w166_25, ↓w166_26, ↓w166_28, ↓w166_31, ↓w166_34, ↓w166_35, ↓w166_38, ↓w166_41, ↓w166_42, ↓w166_43, ↓w166_44, ↓w166_47, ↓w166_50, ↓w166_51, ↓w166_52, ↓w166_55, ↓w166_58, ↓w166_59, ↓w166_60, ↓w166_63, ↓w166_66, ↓w166_67, ↓w166_68, ↓w166_71, ↓w166_74, ↓w166_75, ↓w166_76, ↓w166_79, ↓w166_82, ↓w166_83, ↓w166_84, ↓w166_85, ↓w166_87, ↓w166_90, ↓w166_93, ↓w166_94, ↓w166_95, ↓w166_96, ↓w166_99, ↓w166_102, ↓w166_103, ↓w166_104, ↓w166_107, ↓w166_110, ↓w166_111, ↓w166_112, ↓w166_115, ↓m0_g0, ↓m0_g1, ↓m0_g2, ↓m0_g3, ↓m0_g4, ↓m0_g5, ↓m0_g6, ↓m0_g7, ↓m0_g8, ↓m0_g9, ↓m0_g10, ↓m0_g11, ↓m0_g12, ↓m0_g13, ↓m0_g14, ↓m0_g15, ↓m0_p0, ↓m0_p2, ↓m0_p3, ↓m0_p8, ↓m0_p9, ↓m0_p12, m0_r, r159 e hk h, q1, icond_lt, icond_le, icond_gt, icond_ge, icond_eq, icond_ne, narrow_bool, true_or, or_true, if_true, if_false, cK_inl, toL_some, toL_none, psum_nil, psum_int, psum_ref, psum_null, psum_long, Nat.zero_le, Nat.reduceAdd, Nat.reduceLeDiff, kl_int, kl_ref, kl_none, kl_null, kl_long]
theorem r166_end (e : V 4 203 0 = Int32.ofNat k) (hk : k < 401) (h : V 4 211 k ≠ 14) (d : Nat) (Q : PO → Prop) : Wp (d + 6) 166 25 [some (.ref 395), some (.int aR)] [] (RP hcR C V W pl P RB) Q = Wp (d + 6) 166 43 [some (.ref 395), some (.int aR)] [] (RP hcR C V W pl P RB) Q := by
  simp +decide only [↓w166_0, ↓w166_1, ↓w166_4, ↓w166_7, ↓w166_8, ↓w166_9, ↓w166_12, ↓w166_15, ↓w166_16, ↓w166_17, ↓w166_20, ↓w166_23, ↓w166_24, ↓w166_25, ↓w166_26, ↓w166_28, ↓w166_31, ↓w166_34, ↓w166_35, ↓w166_38, ↓w166_41, ↓w166_42, ↓w166_44, ↓w166_47, ↓w166_50, ↓w166_51, ↓w166_52, ↓w166_55, ↓w166_58, ↓w166_59, ↓w166_60, ↓w166_63, ↓w166_66, ↓w166_67, ↓w166_68, ↓w166_71, ↓w166_74, ↓w166_75, ↓w166_76, ↓w166_79, ↓w166_82, ↓w166_83, ↓w166_84, ↓w166_85, ↓w166_87, ↓w166_90, ↓w166_93, ↓w166_94, ↓w166_95, ↓w166_96, ↓w166_99, ↓w166_102, ↓w166_103, ↓w166_104, ↓w166_107, ↓w166_110, ↓w166_111, ↓w166_112, ↓w166_115, ↓m0_g0, ↓m0_g1, ↓m0_g2, ↓m0_g3, ↓m0_g4, ↓m0_g5, ↓m0_g6, ↓m0_g7, ↓m0_g8, ↓m0_g9, ↓m0_g10, ↓m0_g11, ↓m0_g12, ↓m0_g13, ↓m0_g14, ↓m0_g15, ↓m0_p0, ↓m0_p2, ↓m0_p3, ↓m0_p8, ↓m0_p9, ↓m0_p12, m0_r, r159_no e hk h, icond_lt, icond_le, icond_gt, icond_ge, icond_eq, icond_ne, narrow_bool, true_or, or_true, if_true, if_false, cK_inl, toL_some, toL_none, psum_nil, psum_int, psum_ref, psum_null, psum_long, Nat.zero_le, Nat.reduceAdd, Nat.reduceLeDiff, kl_int, kl_ref, kl_none, kl_null, kl_long]
theorem cmps_sim (H : bse b pl n m qf T S0 L0 V0) : ∀ (f k c i : Nat) (S : S3) (L : L3) (V P : S3) (l4 : Option Value), m - k ≤ f → Gk b m qf T S0 L0 V0 k dp A c c E M M' NR R' S L V P → 4 * c ≤ k → 4 * i ≤ k →
    (∃ S' L' V' P', Fk b m qf S0 L0 V0 S' L' V' ∧ (∀ (d : Nat) (Q : PO → Prop), Wp (d + 3) 28 127 [some (.ref 317), some (.int aC), some (.int 1), some (.int (Int32.ofNat i)), l4] [] (CH hc S L R) Q = Q (.inl (some (.int 0)), CH hc S' L' R)) ∧ (∀ (d : Nat) (Q : PO → Prop), Wp (d + 6) 166 25 [some (.ref 395), some (.int aR)] [] (RP hcR C V W pl P RB) Q = Q (.inl (some (.int 0)), RP hcR C V' W pl P' RB))) ∨
    ∃ k' c' S' L' V' P' i' l4', k ≤ k' ∧ c ≤ c' ∧ 4 * c' ≤ k' ∧ Gk b m qf T S0 L0 V0 k' dp A c' c' E M M' NR R' S' L' V' P' ∧ (∀ (d : Nat) (Q : PO → Prop), Wp (d + 3) 28 127 [some (.ref 317), some (.int aC), some (.int 1), some (.int (Int32.ofNat i)), l4] [] (CH hc S L R) Q = Wp (d + 3) 28 140 [some (.ref 317), some (.int aC), some (.int 0), some (.int i'), l4'] [] (CH hc S' L' R) Q) ∧
      (∀ (d : Nat) (Q : PO → Prop), Wp (d + 6) 166 25 [some (.ref 395), some (.int aR)] [] (RP hcR C V W pl P RB) Q = Wp (d + 6) 166 43 [some (.ref 395), some (.int aR)] [] (RP hcR C V' W pl P' RB) Q) ∧
      (S' 4 203 0 = 0 → S 4 203 0 = 0 ∧ lowS b A c S L S' L' ∧ lowP A c E P P' ∧ (p2 V' T qf k').2.2 = (p2 V T qf k).2.2 ∧ ∀ j, c ≤ j → j < c' → cmpR b S' P' j) := by
  have hm := H.2.2.2.2.2.2.1
  intro f
  induction f with
  | zero =>
    intro k c i S L V P l4 hf h h4 hi
    have hk : ¬ k < m := by omega
    have h14 : S 4 211 k ≠ Int32.ofNat 14 := fun q => hk (acc_G H h (by decide) q).1
    obtain ⟨n1, n2⟩ := k_no H h (by decide) h14
    have km := h.1.1
    exact Or.inr ⟨k, c, S, L, V, P, _, l4, Nat.le_refl _, Nat.le_refl _, h4, h, fun d Q => c28_end n2 (by omega) d Q, fun d Q => r166_end h.1.2.2.2.2.2.1 (by omega) n1 d Q, fun q0 => ⟨q0, lowS_refl, lowP_refl, rfl, fun j a1 a2 => by omega⟩⟩
  | succ f ih =>
    intro k c i S L V P l4 hf h h4 hi
    have km := h.1.1
    by_cases h14 : S 4 211 k = Int32.ofNat 14
    · obtain ⟨hk, n1, n2, n3, G1, t1⟩ := acc_G H h (by decide) h14
      have e203 := h.1.2.2.2.2.2.1
      rcases cmp_sim (hc := hc) (hcR := hcR) (R := R) (RB := RB) (C := C) (W := W) (aC := aC) H G1 (by omega) (Int32.ofNat (i + 1)) l4 with ⟨S', L', V', P', f1, q1, q2⟩ | ⟨S1, L1, V1, P1, x, G2, q1, q2, w⟩
      · refine Or.inl ⟨S', L', V', P', f1, fun d Q => ?_, fun d Q => r166_and0 e203 (by omega) n1 q2 d Q⟩
        rw [c28_and n3 (by omega) n2 (by omega) d Q]
        exact q1 d Q
      · rcases ih (k + 1 + 3) (c + 1) (i + 1) S1 L1 V1 P1 (some (.int x)) (by omega) G2 (by omega) (by omega) with ⟨S', L', V', P', f1, q3, q4⟩ | ⟨k', c', S', L', V', P', i', l4', a1, a2, a3, G3, q3, q4, w2⟩
        · refine Or.inl ⟨S', L', V', P', f1, fun d Q => ?_, fun d Q => ?_⟩
          · rw [c28_and n3 (by omega) n2 (by omega) d Q, q1 d Q]
            exact q3 d Q
          · rw [r166_and1 e203 (by omega) n1 q2 d Q]
            exact q4 d Q
        · refine Or.inr ⟨k', c', S', L', V', P', i', l4', by omega, by omega, a3, G3, fun d Q => ?_, fun d Q => ?_, fun q0 => ?_⟩
          · rw [c28_and n3 (by omega) n2 (by omega) d Q, q1 d Q]
            exact q3 d Q
          · rw [r166_and1 e203 (by omega) n1 q2 d Q]
            exact q4 d Q
          · obtain ⟨b1, b2, b3, b4, b5⟩ := w2 q0
            obtain ⟨c1, c2, c3, c4, c5⟩ := w b1
            obtain ⟨d1, d2⟩ := t1 c1
            refine ⟨d1, lowS_tr (lowS_tr (lowS_st H.1) c2 (Nat.le_refl _) (Nat.le_refl _)) b2 (Nat.le_refl _) (by omega), lowP_tr c3 b3 (Nat.le_refl _) (by omega) (Nat.le_refl _), b4.trans (c4.trans d2), fun j e1 e2 => ?_⟩
            by_cases e : j = c
            · rw [e]; exact cmpR_low c5 b2 b3 (by omega)
            · exact b5 j (by omega) e2
    · obtain ⟨n1, n2⟩ := k_no H h (by decide) h14
      exact Or.inr ⟨k, c, S, L, V, P, _, l4, Nat.le_refl _, Nat.le_refl _, h4, h, fun d Q => c28_end n2 (by omega) d Q, fun d Q => r166_end h.1.2.2.2.2.2.1 (by omega) n1 d Q, fun q0 => ⟨q0, lowS_refl, lowP_refl, rfl, fun j a1 a2 => by omega⟩⟩
/-- the compares of an if: of act aC in the class, a in the reference -/
theorem c28_start (hb : b < 2) (hB : (S 4 208 0).toNatClampNeg = BA b) (d : Nat) (Q : PO → Prop) : Cp (d + 4) 28 [.ref 317, .int aC] (CH hc S L R) Q = Wp (d + 3) 28 33 [some (.ref 317), some (.int aC), some (.int 1), some (.int 0), none] [] (CH hc (pt S (2 + b) 112 80 aC (S (2 + b) 103 0)) L R) Q := by
  simp +decide only [ce28, ↓w28_0, ↓w28_1, ↓w28_4, ↓w28_7, ↓w28_8, ↓w28_9, ↓w28_12, ↓w28_15, ↓w28_18, ↓w28_19, ↓w28_20, ↓w28_21, ↓w28_22, ↓w28_23, ↓w28_26, ↓w28_29, ↓w28_30, ↓w28_34, ↓w28_37, ↓w28_40, ↓w28_42, ↓w28_43, ↓w28_44, ↓w28_47, ↓w28_50, ↓w28_52, ↓w28_55, ↓w28_58, ↓w28_59, ↓w28_62, ↓w28_64, ↓w28_67, ↓w28_68, ↓w28_71, ↓w28_73, ↓w28_76, ↓w28_77, ↓w28_78, ↓w28_79, ↓w28_82, ↓w28_85, ↓w28_87, ↓w28_88, ↓w28_91, ↓w28_94, ↓w28_95, ↓w28_98, ↓w28_99, ↓w28_100, ↓w28_103, ↓w28_106, ↓w28_108, ↓w28_111, ↓w28_114, ↓w28_115, ↓w28_116, ↓w28_117, ↓w28_120, ↓w28_122, ↓w28_123, ↓w28_124, ↓w28_127, ↓w28_128, ↓w28_130, ↓w28_133, ↓w28_134, ↓w28_137, ↓w28_140, ↓w28_141, ↓w28_144, ↓w28_147, ↓w28_148, ↓w28_149, ↓w28_152, ↓w28_155, ↓w28_158, ↓w28_159, ↓rdr_b hB, ↓rdr_g0, ↓rdr_g1, ↓rdr_g2, ↓rdr_g3, ↓rdr_g4, ↓rdr_g5, ↓rdr_g6, ↓rdr_g7, ↓rdr_g8, ↓rdr_g9, ↓rdr_p4, ↓rdr_p5, ↓rdr_p6, ↓rdr_p7, ↓rdr_p8, ↓rdr_p9, ↓rdr_r, ↓book_g0 hb, ↓book_g1 hb, ↓book_g2 hb, ↓book_g3 hb, ↓book_g4 hb, ↓book_g5 hb, ↓book_g6 hb, ↓book_g7 hb, ↓book_g8 hb, ↓book_g9 hb, ↓book_g10 hb, ↓book_g11 hb, ↓book_g12 hb, ↓book_g13 hb, ↓book_g14 hb, ↓book_g15 hb, ↓book_g16 hb, ↓b_posts_get hb, ↓b_rooms_get hb, ↓b_blocks_get hb, ↓b_words_get hb, ↓b_values_get hb, ↓b_behind_get hb, ↓b_bodies_get hb, ↓b_elses_get hb, ↓b_fstc_get hb, ↓b_endc_get hb, ↓b_lefts_get hb, ↓b_signs_get hb, ↓b_rights_get hb, ↓book_p0 hb, ↓book_p1 hb, ↓book_p2 hb, ↓book_p3 hb, ↓book_r hb, ↓b_posts_put hb, ↓b_rooms_put hb, ↓b_blocks_put hb, ↓b_words_put hb, ↓b_values_put hb, ↓b_behind_put hb, ↓b_bodies_put hb, ↓b_elses_put hb, ↓b_fstc_put hb, ↓b_endc_put hb, ↓b_lefts_put hb, ↓b_signs_put hb, ↓b_rights_put hb, icond_lt, icond_le, icond_gt, icond_ge, icond_eq, icond_ne, narrow_bool, true_or, or_true, if_true, if_false, cK_inl, toL_some, toL_none, psum_nil, psum_int, psum_ref, psum_null, psum_long, Nat.zero_le, Nat.reduceAdd, Nat.reduceLeDiff, kl_int, kl_ref, kl_none, kl_null, kl_long]
theorem c28_stop (hb : b < 2) (hB : (S 4 208 0).toNatClampNeg = BA b) (d : Nat) (Q : PO → Prop) : Wp (d + 3) 28 140 [some (.ref 317), some (.int aC), some (.int 0), some (.int x), l4] [] (CH hc S L R) Q = Q (.inl (some (.int 1)), CH hc (pt S (2 + b) 113 80 aC (S (2 + b) 103 0)) L R) := by
  simp +decide only [↓w28_0, ↓w28_1, ↓w28_4, ↓w28_7, ↓w28_8, ↓w28_9, ↓w28_12, ↓w28_15, ↓w28_18, ↓w28_19, ↓w28_20, ↓w28_21, ↓w28_22, ↓w28_23, ↓w28_26, ↓w28_29, ↓w28_30, ↓w28_33, ↓w28_34, ↓w28_37, ↓w28_40, ↓w28_42, ↓w28_43, ↓w28_44, ↓w28_47, ↓w28_50, ↓w28_52, ↓w28_55, ↓w28_58, ↓w28_59, ↓w28_62, ↓w28_64, ↓w28_67, ↓w28_68, ↓w28_71, ↓w28_73, ↓w28_76, ↓w28_77, ↓w28_78, ↓w28_79, ↓w28_82, ↓w28_85, ↓w28_87, ↓w28_88, ↓w28_91, ↓w28_94, ↓w28_95, ↓w28_98, ↓w28_99, ↓w28_100, ↓w28_103, ↓w28_106, ↓w28_108, ↓w28_111, ↓w28_114, ↓w28_115, ↓w28_116, ↓w28_117, ↓w28_120, ↓w28_122, ↓w28_123, ↓w28_124, ↓w28_127, ↓w28_128, ↓w28_130, ↓w28_133, ↓w28_134, ↓w28_137, ↓w28_140, ↓w28_141, ↓w28_144, ↓w28_147, ↓w28_148, ↓w28_149, ↓w28_152, ↓w28_155, ↓w28_158, ↓w28_159, ↓rdr_b hB, ↓rdr_g0, ↓rdr_g1, ↓rdr_g2, ↓rdr_g3, ↓rdr_g4, ↓rdr_g5, ↓rdr_g6, ↓rdr_g7, ↓rdr_g8, ↓rdr_g9, ↓rdr_p4, ↓rdr_p5, ↓rdr_p6, ↓rdr_p7, ↓rdr_p8, ↓rdr_p9, ↓rdr_r, ↓book_g0 hb, ↓book_g1 hb, ↓book_g2 hb, ↓book_g3 hb, ↓book_g4 hb, ↓book_g5 hb, ↓book_g6 hb, ↓book_g7 hb, ↓book_g8 hb, ↓book_g9 hb, ↓book_g10 hb, ↓book_g11 hb, ↓book_g12 hb, ↓book_g13 hb, ↓book_g14 hb, ↓book_g15 hb, ↓book_g16 hb, ↓b_posts_get hb, ↓b_rooms_get hb, ↓b_blocks_get hb, ↓b_words_get hb, ↓b_values_get hb, ↓b_behind_get hb, ↓b_bodies_get hb, ↓b_elses_get hb, ↓b_fstc_get hb, ↓b_endc_get hb, ↓b_lefts_get hb, ↓b_signs_get hb, ↓b_rights_get hb, ↓book_p0 hb, ↓book_p1 hb, ↓book_p2 hb, ↓book_p3 hb, ↓book_r hb, ↓b_posts_put hb, ↓b_rooms_put hb, ↓b_blocks_put hb, ↓b_words_put hb, ↓b_values_put hb, ↓b_behind_put hb, ↓b_bodies_put hb, ↓b_elses_put hb, ↓b_fstc_put hb, ↓b_endc_put hb, ↓b_lefts_put hb, ↓b_signs_put hb, ↓b_rights_put hb, icond_lt, icond_le, icond_gt, icond_ge, icond_eq, icond_ne, narrow_bool, true_or, or_true, if_true, if_false, cK_inl, toL_some, toL_none, psum_nil, psum_int, psum_ref, psum_null, psum_long, Nat.zero_le, Nat.reduceAdd, Nat.reduceLeDiff, kl_int, kl_ref, kl_none, kl_null, kl_long]
theorem r166_start (hp : Pok pl) (hP : (V 4 207 0).toNatClampNeg = pl) {a : Nat} (ha : a < 400) (d : Nat) (Q : PO → Prop) : Cp (d + 7) 166 [.ref 395, .int (Int32.ofNat a)] (RP hcR C V W pl P RB) Q = Wp (d + 6) 166 16 [some (.ref 395), some (.int (Int32.ofNat a))] [] (RP hcR C V W pl (su P 0 116 a (P 0 118 0)) RB) Q := by
  simp +decide only [ce166, ↓w166_0, ↓w166_1, ↓w166_4, ↓w166_7, ↓w166_8, ↓w166_9, ↓w166_12, ↓w166_17, ↓w166_20, ↓w166_23, ↓w166_24, ↓w166_25, ↓w166_26, ↓w166_28, ↓w166_31, ↓w166_34, ↓w166_35, ↓w166_38, ↓w166_41, ↓w166_42, ↓w166_43, ↓w166_44, ↓w166_47, ↓w166_50, ↓w166_51, ↓w166_52, ↓w166_55, ↓w166_58, ↓w166_59, ↓w166_60, ↓w166_63, ↓w166_66, ↓w166_67, ↓w166_68, ↓w166_71, ↓w166_74, ↓w166_75, ↓w166_76, ↓w166_79, ↓w166_82, ↓w166_83, ↓w166_84, ↓w166_85, ↓w166_87, ↓w166_90, ↓w166_93, ↓w166_94, ↓w166_95, ↓w166_96, ↓w166_99, ↓w166_102, ↓w166_103, ↓w166_104, ↓w166_107, ↓w166_110, ↓w166_111, ↓w166_112, ↓w166_115, ↓m0_pl hP, ↓m0_g0, ↓m0_g1, ↓m0_g2, ↓m0_g3, ↓m0_g4, ↓m0_g5, ↓m0_g6, ↓m0_g7, ↓m0_g8, ↓m0_g9, ↓m0_g10, ↓m0_g11, ↓m0_g12, ↓m0_g13, ↓m0_g14, ↓m0_g15, ↓m0_p0, ↓m0_p2, ↓m0_p3, ↓m0_p8, ↓m0_p9, ↓m0_p12, m0_r, ↓pl_g0 hp, ↓pl_g1 hp, ↓pl_g2 hp, ↓pl_g3 hp, ↓pl_g4 hp, ↓pl_g5 hp, ↓pl_g6 hp, ↓pl_g7 hp, ↓pl_g8 hp, ↓pl_g9 hp, ↓pl_g10 hp, ↓pl_g11 hp, ↓pl_g12 hp, ↓pl_g13 hp, ↓pl_g14 hp, ↓pl_g15 hp, ↓pl_g16 hp, ↓pl_g17 hp, ↓pl_g18 hp, ↓pl_g19 hp, ↓pl_g20 hp, ↓pl_g21 hp, pl_r hp, icond_lt, icond_le, icond_gt, icond_ge, icond_eq, icond_ne, narrow_bool, true_or, or_true, if_true, if_false, cK_inl, toL_some, toL_none, psum_nil, psum_int, psum_ref, psum_null, psum_long, Nat.zero_le, Nat.reduceAdd, Nat.reduceLeDiff, kl_int, kl_ref, kl_none, kl_null, kl_long]
  rw [w166_15, pl_cmps_s hp ha]
theorem r166_f1 (q1 : RR hcR C W pl RB 6 167 [.ref 395] V P 1 V1 P1) (d : Nat) (Q : PO → Prop) : Wp (d + 6) 166 16 [some (.ref 395), some (.int aR)] [] (RP hcR C V W pl P RB) Q = Wp (d + 6) 166 25 [some (.ref 395), some (.int aR)] [] (RP hcR C V1 W pl P1 RB) Q := by
  unfold RR at q1
  simp +decide only [↓w166_0, ↓w166_1, ↓w166_4, ↓w166_7, ↓w166_8, ↓w166_9, ↓w166_12, ↓w166_15, ↓w166_16, ↓w166_17, ↓w166_20, ↓w166_23, ↓w166_24, ↓w166_26, ↓w166_28, ↓w166_31, ↓w166_34, ↓w166_35, ↓w166_38, ↓w166_41, ↓w166_42, ↓w166_43, ↓w166_44, ↓w166_47, ↓w166_50, ↓w166_51, ↓w166_52, ↓w166_55, ↓w166_58, ↓w166_59, ↓w166_60, ↓w166_63, ↓w166_66, ↓w166_67, ↓w166_68, ↓w166_71, ↓w166_74, ↓w166_75, ↓w166_76, ↓w166_79, ↓w166_82, ↓w166_83, ↓w166_84, ↓w166_85, ↓w166_87, ↓w166_90, ↓w166_93, ↓w166_94, ↓w166_95, ↓w166_96, ↓w166_99, ↓w166_102, ↓w166_103, ↓w166_104, ↓w166_107, ↓w166_110, ↓w166_111, ↓w166_112, ↓w166_115, ↓m0_g0, ↓m0_g1, ↓m0_g2, ↓m0_g3, ↓m0_g4, ↓m0_g5, ↓m0_g6, ↓m0_g7, ↓m0_g8, ↓m0_g9, ↓m0_g10, ↓m0_g11, ↓m0_g12, ↓m0_g13, ↓m0_g14, ↓m0_g15, ↓m0_p0, ↓m0_p2, ↓m0_p3, ↓m0_p8, ↓m0_p9, ↓m0_p12, m0_r, q1, icond_lt, icond_le, icond_gt, icond_ge, icond_eq, icond_ne, narrow_bool, true_or, or_true, if_true, if_false, cK_inl, toL_some, toL_none, psum_nil, psum_int, psum_ref, psum_null, psum_long, Nat.zero_le, Nat.reduceAdd, Nat.reduceLeDiff, kl_int, kl_ref, kl_none, kl_null, kl_long]
theorem r166_f0 (q1 : RR hcR C W pl RB 6 167 [.ref 395] V P 0 V1 P1) (d : Nat) (Q : PO → Prop) : Wp (d + 6) 166 16 [some (.ref 395), some (.int aR)] [] (RP hcR C V W pl P RB) Q = Q (.inl (some (.int 0)), RP hcR C V1 W pl P1 RB) := by
  unfold RR at q1
  simp +decide only [↓w166_0, ↓w166_1, ↓w166_4, ↓w166_7, ↓w166_8, ↓w166_9, ↓w166_12, ↓w166_15, ↓w166_16, ↓w166_17, ↓w166_20, ↓w166_23, ↓w166_24, ↓w166_26, ↓w166_28, ↓w166_31, ↓w166_34, ↓w166_35, ↓w166_38, ↓w166_41, ↓w166_42, ↓w166_43, ↓w166_44, ↓w166_47, ↓w166_50, ↓w166_51, ↓w166_52, ↓w166_55, ↓w166_58, ↓w166_59, ↓w166_60, ↓w166_63, ↓w166_66, ↓w166_67, ↓w166_68, ↓w166_71, ↓w166_74, ↓w166_75, ↓w166_76, ↓w166_79, ↓w166_82, ↓w166_83, ↓w166_84, ↓w166_85, ↓w166_87, ↓w166_90, ↓w166_93, ↓w166_94, ↓w166_95, ↓w166_96, ↓w166_99, ↓w166_102, ↓w166_103, ↓w166_104, ↓w166_107, ↓w166_110, ↓w166_111, ↓w166_112, ↓w166_115, ↓m0_g0, ↓m0_g1, ↓m0_g2, ↓m0_g3, ↓m0_g4, ↓m0_g5, ↓m0_g6, ↓m0_g7, ↓m0_g8, ↓m0_g9, ↓m0_g10, ↓m0_g11, ↓m0_g12, ↓m0_g13, ↓m0_g14, ↓m0_g15, ↓m0_p0, ↓m0_p2, ↓m0_p3, ↓m0_p8, ↓m0_p9, ↓m0_p12, m0_r, q1, icond_lt, icond_le, icond_gt, icond_ge, icond_eq, icond_ne, narrow_bool, true_or, or_true, if_true, if_false, cK_inl, toL_some, toL_none, psum_nil, psum_int, psum_ref, psum_null, psum_long, Nat.zero_le, Nat.reduceAdd, Nat.reduceLeDiff, kl_int, kl_ref, kl_none, kl_null, kl_long]
theorem r166_mid (hp : Pok pl) (hP : (V 4 207 0).toNatClampNeg = pl) {a : Nat} (ha : a < 400) (d : Nat) (Q : PO → Prop) : Wp (d + 6) 166 43 [some (.ref 395), some (.int (Int32.ofNat a))] [] (RP hcR C V W pl P RB) Q = Wp (d + 6) 166 75 [some (.ref 395), some (.int (Int32.ofNat a))] [] (RP hcR C V W pl (su (su P 0 117 a (P 0 118 0)) 0 114 a (P 0 106 0)) RB) Q := by
  have e : su P 0 117 a (P 0 118 0) 0 106 0 = P 0 106 0 := by rw [su_ne (by decide)]
  simp +decide only [↓w166_0, ↓w166_1, ↓w166_4, ↓w166_7, ↓w166_8, ↓w166_9, ↓w166_12, ↓w166_15, ↓w166_16, ↓w166_17, ↓w166_20, ↓w166_23, ↓w166_24, ↓w166_25, ↓w166_26, ↓w166_28, ↓w166_31, ↓w166_34, ↓w166_35, ↓w166_38, ↓w166_41, ↓w166_42, ↓w166_43, ↓w166_44, ↓w166_47, ↓w166_50, ↓w166_51, ↓w166_52, ↓w166_55, ↓w166_59, ↓w166_60, ↓w166_63, ↓w166_66, ↓w166_67, ↓w166_68, ↓w166_71, ↓w166_76, ↓w166_79, ↓w166_82, ↓w166_83, ↓w166_84, ↓w166_85, ↓w166_87, ↓w166_90, ↓w166_93, ↓w166_94, ↓w166_95, ↓w166_96, ↓w166_99, ↓w166_102, ↓w166_103, ↓w166_104, ↓w166_107, ↓w166_110, ↓w166_111, ↓w166_112, ↓w166_115, ↓m0_pl hP, ↓m0_g0, ↓m0_g1, ↓m0_g2, ↓m0_g3, ↓m0_g4, ↓m0_g5, ↓m0_g6, ↓m0_g7, ↓m0_g8, ↓m0_g9, ↓m0_g10, ↓m0_g11, ↓m0_g12, ↓m0_g13, ↓m0_g14, ↓m0_g15, ↓m0_p0, ↓m0_p2, ↓m0_p3, ↓m0_p8, ↓m0_p9, ↓m0_p12, m0_r, ↓pl_g0 hp, ↓pl_g1 hp, ↓pl_g2 hp, ↓pl_g3 hp, ↓pl_g4 hp, ↓pl_g5 hp, ↓pl_g6 hp, ↓pl_g7 hp, ↓pl_g8 hp, ↓pl_g9 hp, ↓pl_g10 hp, ↓pl_g11 hp, ↓pl_g12 hp, ↓pl_g13 hp, ↓pl_g14 hp, ↓pl_g15 hp, ↓pl_g16 hp, ↓pl_g17 hp, ↓pl_g18 hp, ↓pl_g19 hp, ↓pl_g20 hp, ↓pl_g21 hp, pl_r hp, icond_lt, icond_le, icond_gt, icond_ge, icond_eq, icond_ne, narrow_bool, true_or, or_true, if_true, if_false, cK_inl, toL_some, toL_none, psum_nil, psum_int, psum_ref, psum_null, psum_long, Nat.zero_le, Nat.reduceAdd, Nat.reduceLeDiff, kl_int, kl_ref, kl_none, kl_null, kl_long]
  rw [w166_58, pl_cend_s hp ha]
  simp +decide only [↓w166_0, ↓w166_1, ↓w166_4, ↓w166_7, ↓w166_8, ↓w166_9, ↓w166_12, ↓w166_15, ↓w166_16, ↓w166_17, ↓w166_20, ↓w166_23, ↓w166_24, ↓w166_25, ↓w166_26, ↓w166_28, ↓w166_31, ↓w166_34, ↓w166_35, ↓w166_38, ↓w166_41, ↓w166_42, ↓w166_43, ↓w166_44, ↓w166_47, ↓w166_50, ↓w166_51, ↓w166_52, ↓w166_55, ↓w166_59, ↓w166_60, ↓w166_63, ↓w166_66, ↓w166_67, ↓w166_68, ↓w166_71, ↓w166_76, ↓w166_79, ↓w166_82, ↓w166_83, ↓w166_84, ↓w166_85, ↓w166_87, ↓w166_90, ↓w166_93, ↓w166_94, ↓w166_95, ↓w166_96, ↓w166_99, ↓w166_102, ↓w166_103, ↓w166_104, ↓w166_107, ↓w166_110, ↓w166_111, ↓w166_112, ↓w166_115, ↓m0_pl hP, ↓m0_g0, ↓m0_g1, ↓m0_g2, ↓m0_g3, ↓m0_g4, ↓m0_g5, ↓m0_g6, ↓m0_g7, ↓m0_g8, ↓m0_g9, ↓m0_g10, ↓m0_g11, ↓m0_g12, ↓m0_g13, ↓m0_g14, ↓m0_g15, ↓m0_p0, ↓m0_p2, ↓m0_p3, ↓m0_p8, ↓m0_p9, ↓m0_p12, m0_r, ↓pl_g0 hp, ↓pl_g1 hp, ↓pl_g2 hp, ↓pl_g3 hp, ↓pl_g4 hp, ↓pl_g5 hp, ↓pl_g6 hp, ↓pl_g7 hp, ↓pl_g8 hp, ↓pl_g9 hp, ↓pl_g10 hp, ↓pl_g11 hp, ↓pl_g12 hp, ↓pl_g13 hp, ↓pl_g14 hp, ↓pl_g15 hp, ↓pl_g16 hp, ↓pl_g17 hp, ↓pl_g18 hp, ↓pl_g19 hp, ↓pl_g20 hp, ↓pl_g21 hp, pl_r hp, e, icond_lt, icond_le, icond_gt, icond_ge, icond_eq, icond_ne, narrow_bool, true_or, or_true, if_true, if_false, cK_inl, toL_some, toL_none, psum_nil, psum_int, psum_ref, psum_null, psum_long, Nat.zero_le, Nat.reduceAdd, Nat.reduceLeDiff, kl_int, kl_ref, kl_none, kl_null, kl_long]
  rw [w166_74, pl_then_s hp ha]
theorem SE_bk (hb : b < 2) (h : SE b qf T k M M' NR R' A cS S L V) {v nn : Nat} (hv : 104 ≤ v) : SE b qf T k M M' NR R' A cS (pt S (2 + b) v nn x y) L V := by
  unfold SE CO at h ⊢
  rw [pt_vne (g' := 4) (v' := 203) (by omega), pt_vne (g' := 4) (v' := 204) (by omega), pt_vne (v' := 100) (by omega), pt_vne (v' := 101) (by omega), pt_vne (v' := 102) (by omega), pt_vne (v' := 103) (by omega)]
  exact h
theorem Gk_bk (hb : b < 2) (h : Gk b m qf T S0 L0 V0 k dp A cc cS E M M' NR R' S L V P) {v nn : Nat} (hv : 104 ≤ v) : Gk b m qf T S0 L0 V0 k dp A cc cS E M M' NR R' (pt S (2 + b) v nn x y) L V P := by
  obtain ⟨g1, F, g3, g4, g5⟩ := h
  refine ⟨?_, ⟨fun g w q => ?_, F.2⟩, g3, g4, SE_bk hb g5 hv⟩
  · unfold cu B8 at g1 ⊢
    rw [pt_vne (v' := 102) (by omega), pt_vne (g' := 4) (v' := 200) (by omega), pt_vne (g' := 4) (v' := 201) (by omega), pt_vne (g' := 4) (v' := 202) (by omega), pt_vne (g' := 4) (v' := 211) (by omega), pt_vne (g' := 4) (v' := 212) (by omega)]
    exact g1
  · rw [pt_vne (fun e => q (Or.inl ⟨e.1, by omega⟩)), F.1 g w q]
theorem Gk_P (h : Gk b m qf T S0 L0 V0 k dp A cc cS E M M' NR R' S L V P) {v i : Nat} (h1 : v ≠ 109) (h2 : v ≠ 118) (h3 : v ≠ 106) (h4 : v ≠ 108) (h5 : ¬ (100 ≤ v ∧ v ≤ 104)) : Gk b m qf T S0 L0 V0 k dp A cc cS E M M' NR R' S L V (su P 0 v i x) := by
  obtain ⟨g1, F, g3, g4, g5⟩ := h
  exact ⟨g1, F, g3, CP_su g4 h1 h2 h3 h4 h5, g5⟩
/-- the head of an if: its compares; a is the act in the reference -/
theorem ifh_sim (H : bse b pl n m qf T S0 L0 V0) (h : Gk b m qf T S0 L0 V0 k dp A c c E M M' NR R' S L V P) (h4 : 4 * c + 1 ≤ k) {a : Nat} (ha : a < 400) (haA : a < A) (aC : Int32) :
    (∃ S' L' V' P', Fk b m qf S0 L0 V0 S' L' V' ∧ RC hc R 4 28 [.ref 317, .int aC] S L 0 S' L' ∧ RR hcR C W pl RB 7 166 [.ref 395, .int (Int32.ofNat a)] V P 0 V' P') ∨
    ∃ k' c' S' L' V' P', k < k' ∧ c ≤ c' ∧ 4 * c' ≤ k' ∧ Gk b m qf T S0 L0 V0 k' dp A c' c' E M M' NR R' S' L' V' P' ∧ RC hc R 4 28 [.ref 317, .int aC] S L 1 S' L' ∧
      (∀ (d : Nat) (Q : PO → Prop), Cp (d + 7) 166 [.ref 395, .int (Int32.ofNat a)] (RP hcR C V W pl P RB) Q = Wp (d + 6) 166 75 [some (.ref 395), some (.int (Int32.ofNat a))] [] (RP hcR C V' W pl P' RB) Q) ∧
      (S' 4 203 0 = 0 → S 4 203 0 = 0 ∧ (aC = Int32.ofNat a → a < 80 → lowS b a c S L S' L' ∧ lowP a c E P P' ∧ (p2 V' T qf k').2.2 = (p2 V T qf k).2.2 ∧
        (∀ v, 107 ≤ v → v ≤ 111 → S' (2 + b) v a = S (2 + b) v a) ∧ (∀ v, 110 ≤ v → v ≤ 115 → v ≠ 113 → v ≠ 114 → P' 0 v a = P 0 v a) ∧ P' 0 114 a = Int32.ofNat E ∧ P' 0 116 a = Int32.ofNat c ∧ P' 0 117 a = Int32.ofNat c' ∧ S' (2 + b) 112 a = Int32.ofNat c ∧ S' (2 + b) 113 a = Int32.ofNat c' ∧ ∀ j, c ≤ j → j < c' → cmpR b S' P' j)) := by
  have hb := H.1
  have hp := H.2.1
  have hB := bse_B H h.2.1
  have hP := bse_P H h.2.1
  have h118 : P 0 118 0 = Int32.ofNat c := h.2.2.2.1.2.1.1
  have G1 : Gk b m qf T S0 L0 V0 k dp A c c E M M' NR R' (pt S (2 + b) 112 80 aC (S (2 + b) 103 0)) L V (su P 0 116 a (Int32.ofNat c)) := Gk_P (Gk_bk hb h (by decide)) (by decide) (by decide) (by decide) (by decide) (by omega)
  have qC := fun d Q => c28_start (d := d) (Q := Q) (aC := aC) (hc := hc) (R := R) (L := L) hb hB
  have qR := fun d Q => r166_start (d := d) (Q := Q) (hcR := hcR) (C := C) (W := W) (RB := RB) (P := P) hp hP ha
  rw [h118] at qR
  rcases cmp_sim (hc := hc) (hcR := hcR) (R := R) (RB := RB) (C := C) (W := W) (aC := aC) H G1 h4 0 none with ⟨S', L', V', P', f1, q1, q2⟩ | ⟨S1, L1, V1, P1, x, G2, q1, q2, w⟩
  · refine Or.inl ⟨S', L', V', P', f1, fun d Q => ?_, fun d Q => ?_⟩
    · rw [qC d Q]; exact q1 d Q
    · rw [qR d Q]; exact r166_f0 q2 d Q
  · rcases cmps_sim (hc := hc) (hcR := hcR) (R := R) (RB := RB) (C := C) (W := W) (aC := aC) (aR := Int32.ofNat a) H (m - (k + 3)) (k + 3) (c + 1) 0 S1 L1 V1 P1 (some (.int x)) (Nat.le_refl _) G2 (by omega) (by omega) with ⟨S', L', V', P', f1, q3, q4⟩ | ⟨k', c', S', L', V', P', i', l4', a1, a2, a3, G3, q3, q4, w2⟩
    · refine Or.inl ⟨S', L', V', P', f1, fun d Q => ?_, fun d Q => ?_⟩
      · rw [qC d Q, q1 d Q]; exact q3 d Q
      · rw [qR d Q, r166_f1 q2 d Q]; exact q4 d Q
    · have hB3 := bse_B H G3.2.1
      have hP3 := bse_P H G3.2.1
      have h118' : P' 0 118 0 = Int32.ofNat c' := G3.2.2.2.1.2.1.1
      have h106' : P' 0 106 0 = Int32.ofNat E := G3.2.2.2.1.2.2.1.1
      have qM := fun d Q => r166_mid (d := d) (Q := Q) (hcR := hcR) (C := C) (W := W) (RB := RB) (P := P') hp hP3 ha
      rw [h118', h106'] at qM
      refine Or.inr ⟨k', c', pt S' (2 + b) 113 80 aC (S' (2 + b) 103 0), L', V', su (su P' 0 117 a (Int32.ofNat c')) 0 114 a (Int32.ofNat E), by omega, by omega, a3, Gk_P (Gk_P (Gk_bk hb G3 (by decide)) (by decide) (by decide) (by decide) (by decide) (by omega)) (by decide) (by decide) (by decide) (by decide) (by omega), fun d Q => ?_, fun d Q => ?_, fun q0 => ?_⟩
      · rw [qC d Q, q1 d Q, show some (Value.int 0) = some (Value.int (Int32.ofNat 0)) from rfl, q3 d Q]
        exact c28_stop hb hB3 d Q
      · rw [qR d Q, r166_f1 q2 d Q, q4 d Q]
        exact qM d Q
      · rw [pt_vne (by omega)] at q0
        obtain ⟨b1, b2, b3, b4, b5⟩ := w2 q0
        obtain ⟨c1, c2, c3, c4, c5⟩ := w b1
        rw [pt_vne (by omega)] at c1
        refine ⟨c1, fun ea ha80 => ?_⟩
        subst ea
        have e103 : S (2 + b) 103 0 = Int32.ofNat c := (Gk_cnt h c1).2.2.2.1
        have e103' : S' (2 + b) 103 0 = Int32.ofNat c' := (Gk_cnt G3 q0).2.2.2.1
        have l1 : lowS b a c S L (pt S (2 + b) 112 80 (Int32.ofNat a) (S (2 + b) 103 0)) L := lowS_pt (by decide) (fun _ => Nat.le_refl _) (by omega) (by omega)
        have l2 : lowS b A c (pt S (2 + b) 112 80 (Int32.ofNat a) (S (2 + b) 103 0)) L S' L' := lowS_tr c2 b2 (Nat.le_refl _) (by omega)
        have l3 : lowS b a c S' L' (pt S' (2 + b) 113 80 (Int32.ofNat a) (S' (2 + b) 103 0)) L' := lowS_pt (by decide) (fun _ => Nat.le_refl _) (by omega) (by omega)
        have l3' : lowS b a c' S' L' (pt S' (2 + b) 113 80 (Int32.ofNat a) (S' (2 + b) 103 0)) L' := lowS_pt (by decide) (fun _ => Nat.le_refl _) (by omega) (by omega)
        have p1 : lowP a c E P (su P 0 116 a (Int32.ofNat c)) := lowP_su (by omega) (by omega) (by omega) (by decide)
        have p2' : lowP A c E (su P 0 116 a (Int32.ofNat c)) P' := lowP_tr c3 b3 (Nat.le_refl _) (by omega) (Nat.le_refl _)
        have p3 : lowP a c' E P' (su P' 0 117 a (Int32.ofNat c')) := lowP_su (by omega) (by omega) (by omega) (by decide)
        have p4 : lowP a c' E (su P' 0 117 a (Int32.ofNat c')) (su (su P' 0 117 a (Int32.ofNat c')) 0 114 a (Int32.ofNat E)) := lowP_su (by omega) (by omega) (by omega) (by decide)
        have p34 := lowP_tr p3 p4 (Nat.le_refl _) (Nat.le_refl _) (Nat.le_refl _)
        refine ⟨lowS_tr (lowS_tr l1 l2 (by omega) (Nat.le_refl _)) l3 (Nat.le_refl _) (Nat.le_refl _), lowP_tr (lowP_tr p1 p2' (by omega) (Nat.le_refl _) (Nat.le_refl _)) p34 (Nat.le_refl _) (by omega) (Nat.le_refl _), b4.trans c4, fun v h1 h2 => ?_, fun v h1 h2 h3 h5 => ?_, su_self, ?_, ?_, ?_, ?_, fun j e1 e2 => ?_⟩
        · rw [pt_vne (by omega), l2.1 v a h1 (by omega) haA, pt_vne (by omega)]
        · rw [su_ne (v := 114) h5, su_ne (v := 117) (by omega), p2'.1 v a h1 (by omega) h3 haA, su_ne (v := 116) (by omega)]
        · rw [su_ne (by decide), su_ne (by decide), p2'.1 116 a (by decide) (by decide) (by decide) haA, su_self]
        · rw [su_ne (by decide), su_self]
        · rw [pt_vne (by omega), l2.1 112 a (by decide) (by decide) haA, pt_self ha80 (by omega), e103]
        · rw [pt_self ha80 (by omega), e103']
        · refine cmpR_low (A := a) (E := E) (c := c') ?_ l3' p34 e2
          by_cases e : j = c
          · rw [e]; exact cmpR_low c5 b2 b3 (by omega)
          · exact b5 j (by omega) e2
end CMPC
