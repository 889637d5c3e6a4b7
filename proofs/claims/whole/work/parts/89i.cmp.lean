/-! THE GRAMMAR IN LOCKSTEP: compares, in both -/
section CMPB
variable {b pl n m k c A A' cc cS cc' cS' E E' M M' NR R' dp : Nat} {qf : Nat → Nat} {T : Nat → Int32} {S S' S0 S1 V V' V0 V1 V2 V3 P P' P1 P2 P3 U U' : S3} {L L' L0 L1 : L3} {x y z1 z2 s aC aR : Int32} {hc hcR : Nat × Nat × Nat} {R RB C : Nat → Option PC} {W : L3}
theorem r167_3 {l : PL} (hl : l = [some (.ref 395), some (.int z1), some (.int z2), some (.int s)]) (q2 : RR hcR C W pl RB 4 168 [.ref 395] V P 0 V1 P1) (d : Nat) (Q : PO → Prop) : Wp (d + 5) 167 100 l [] (RP hcR C V W pl P RB) Q = Q (.inl (some (.int 0)), RP hcR C V1 W pl P1 RB) := by
  subst hl
  unfold RR at q2
  simp +decide only [↓w167_0, ↓w167_1, ↓w167_4, ↓w167_7, ↓w167_8, ↓w167_9, ↓w167_12, ↓w167_12i, ↓w167_13, ↓w167_16, ↓w167_17, ↓w167_18, ↓w167_21, ↓w167_22, ↓w167_25, ↓w167_26, ↓w167_27, ↓w167_30, ↓w167_33, ↓w167_34, ↓w167_35, ↓w167_36, ↓w167_38, ↓w167_41, ↓w167_44, ↓w167_45, ↓w167_47, ↓w167_50, ↓w167_53, ↓w167_54, ↓w167_56, ↓w167_59, ↓w167_62, ↓w167_63, ↓w167_64, ↓w167_65, ↓w167_68, ↓w167_71, ↓w167_72, ↓w167_73, ↓w167_76, ↓w167_77, ↓w167_80, ↓w167_81, ↓w167_83, ↓w167_84, ↓w167_85, ↓w167_86, ↓w167_86i, ↓w167_87, ↓w167_90, ↓w167_91, ↓w167_92, ↓w167_95, ↓w167_96, ↓w167_99, ↓w167_100, ↓w167_101, ↓w167_104, ↓w167_107, ↓w167_108, ↓w167_109, ↓w167_110, ↓w167_113, ↓w167_116, ↓w167_117, ↓w167_118, ↓w167_119, ↓w167_122, ↓w167_123, ↓w167_124, ↓w167_127, ↓w167_130, ↓w167_131, ↓w167_132, ↓w167_133, ↓w167_136, ↓w167_137, ↓w167_138, ↓m0_g0, ↓m0_g1, ↓m0_g2, ↓m0_g3, ↓m0_g4, ↓m0_g5, ↓m0_g6, ↓m0_g7, ↓m0_g8, ↓m0_g9, ↓m0_g10, ↓m0_g11, ↓m0_g12, ↓m0_g13, ↓m0_g14, ↓m0_g15, ↓m0_p0, ↓m0_p2, ↓m0_p3, ↓m0_p8, ↓m0_p9, ↓m0_p12, m0_r, q2, icond_lt, icond_le, icond_gt, icond_ge, icond_eq, icond_ne, narrow_bool, true_or, or_true, if_true, if_false, cK_inl, toL_some, toL_none, psum_nil, psum_int, psum_ref, psum_null, psum_long, Nat.zero_le, Nat.reduceAdd, Nat.reduceLeDiff, kl_int, kl_ref, kl_none, kl_null, kl_long]
theorem r167_4 (hp : Pok pl) (hP : (V1 4 207 0).toNatClampNeg = pl) (hc4 : c < 400) (q2 : RR hcR C W pl RB 4 168 [.ref 395] V P 1 V1 P)
    (qa : RR hcR C W pl RB 3 169 [.ref 395, .int (Int32.ofNat k)] V1 P z1 V1 P) (qb : RR hcR C W pl RB 3 169 [.ref 395, .int (Int32.ofNat (k + 2))] V1 (su P 0 119 c z1) z2 V1 (su P 0 119 c z1)) (d : Nat) (Q : PO → Prop) : Wp (d + 5) 167 100 [some (.ref 395), some (.int (Int32.ofNat c)), some (.int (Int32.ofNat k)), some (.int (Int32.ofNat (k + 2)))] [] (RP hcR C V W pl P RB) Q
    = Q (.inl (some (.int 1)), RP hcR C V1 W pl (su (su P 0 119 c z1) 0 121 c z2) RB) := by
  unfold RR at q2 qa qb
  simp +decide only [↓w167_0, ↓w167_1, ↓w167_4, ↓w167_7, ↓w167_8, ↓w167_9, ↓w167_12, ↓w167_12i, ↓w167_13, ↓w167_16, ↓w167_17, ↓w167_18, ↓w167_21, ↓w167_22, ↓w167_25, ↓w167_26, ↓w167_27, ↓w167_30, ↓w167_33, ↓w167_34, ↓w167_35, ↓w167_36, ↓w167_38, ↓w167_41, ↓w167_44, ↓w167_45, ↓w167_47, ↓w167_50, ↓w167_53, ↓w167_54, ↓w167_56, ↓w167_59, ↓w167_62, ↓w167_63, ↓w167_64, ↓w167_65, ↓w167_68, ↓w167_71, ↓w167_72, ↓w167_73, ↓w167_76, ↓w167_77, ↓w167_80, ↓w167_81, ↓w167_83, ↓w167_84, ↓w167_85, ↓w167_86, ↓w167_86i, ↓w167_87, ↓w167_90, ↓w167_91, ↓w167_92, ↓w167_95, ↓w167_96, ↓w167_99, ↓w167_100, ↓w167_101, ↓w167_104, ↓w167_107, ↓w167_108, ↓w167_109, ↓w167_110, ↓w167_113, ↓w167_116, ↓w167_117, ↓w167_118, ↓w167_119, ↓w167_123, ↓w167_124, ↓w167_127, ↓w167_130, ↓w167_131, ↓w167_132, ↓w167_133, ↓w167_136, ↓w167_137, ↓w167_138, ↓m0_pl hP, ↓m0_g0, ↓m0_g1, ↓m0_g2, ↓m0_g3, ↓m0_g4, ↓m0_g5, ↓m0_g6, ↓m0_g7, ↓m0_g8, ↓m0_g9, ↓m0_g10, ↓m0_g11, ↓m0_g12, ↓m0_g13, ↓m0_g14, ↓m0_g15, ↓m0_p0, ↓m0_p2, ↓m0_p3, ↓m0_p8, ↓m0_p9, ↓m0_p12, m0_r, ↓pl_g0 hp, ↓pl_g1 hp, ↓pl_g2 hp, ↓pl_g3 hp, ↓pl_g4 hp, ↓pl_g5 hp, ↓pl_g6 hp, ↓pl_g7 hp, ↓pl_g8 hp, ↓pl_g9 hp, ↓pl_g10 hp, ↓pl_g11 hp, ↓pl_g12 hp, ↓pl_g13 hp, ↓pl_g14 hp, ↓pl_g15 hp, ↓pl_g16 hp, ↓pl_g17 hp, ↓pl_g18 hp, ↓pl_g19 hp, ↓pl_g20 hp, ↓pl_g21 hp, pl_r hp, q2, qa, icond_lt, icond_le, icond_gt, icond_ge, icond_eq, icond_ne, narrow_bool, true_or, or_true, if_true, if_false, cK_inl, toL_some, toL_none, psum_nil, psum_int, psum_ref, psum_null, psum_long, Nat.zero_le, Nat.reduceAdd, Nat.reduceLeDiff, kl_int, kl_ref, kl_none, kl_null, kl_long]
  rw [w167_122, pl_left_s hp hc4]
  simp +decide only [↓w167_0, ↓w167_1, ↓w167_4, ↓w167_7, ↓w167_8, ↓w167_9, ↓w167_12, ↓w167_12i, ↓w167_13, ↓w167_16, ↓w167_17, ↓w167_18, ↓w167_21, ↓w167_22, ↓w167_25, ↓w167_26, ↓w167_27, ↓w167_30, ↓w167_33, ↓w167_34, ↓w167_35, ↓w167_36, ↓w167_38, ↓w167_41, ↓w167_44, ↓w167_45, ↓w167_47, ↓w167_50, ↓w167_53, ↓w167_54, ↓w167_56, ↓w167_59, ↓w167_62, ↓w167_63, ↓w167_64, ↓w167_65, ↓w167_68, ↓w167_71, ↓w167_72, ↓w167_73, ↓w167_76, ↓w167_77, ↓w167_80, ↓w167_81, ↓w167_83, ↓w167_84, ↓w167_85, ↓w167_86, ↓w167_86i, ↓w167_87, ↓w167_90, ↓w167_91, ↓w167_92, ↓w167_95, ↓w167_96, ↓w167_99, ↓w167_100, ↓w167_101, ↓w167_104, ↓w167_107, ↓w167_108, ↓w167_109, ↓w167_110, ↓w167_113, ↓w167_116, ↓w167_117, ↓w167_118, ↓w167_119, ↓w167_123, ↓w167_124, ↓w167_127, ↓w167_130, ↓w167_131, ↓w167_132, ↓w167_133, ↓w167_137, ↓w167_138, ↓m0_pl hP, ↓m0_g0, ↓m0_g1, ↓m0_g2, ↓m0_g3, ↓m0_g4, ↓m0_g5, ↓m0_g6, ↓m0_g7, ↓m0_g8, ↓m0_g9, ↓m0_g10, ↓m0_g11, ↓m0_g12, ↓m0_g13, ↓m0_g14, ↓m0_g15, ↓m0_p0, ↓m0_p2, ↓m0_p3, ↓m0_p8, ↓m0_p9, ↓m0_p12, m0_r, ↓pl_g0 hp, ↓pl_g1 hp, ↓pl_g2 hp, ↓pl_g3 hp, ↓pl_g4 hp, ↓pl_g5 hp, ↓pl_g6 hp, ↓pl_g7 hp, ↓pl_g8 hp, ↓pl_g9 hp, ↓pl_g10 hp, ↓pl_g11 hp, ↓pl_g12 hp, ↓pl_g13 hp, ↓pl_g14 hp, ↓pl_g15 hp, ↓pl_g16 hp, ↓pl_g17 hp, ↓pl_g18 hp, ↓pl_g19 hp, ↓pl_g20 hp, ↓pl_g21 hp, pl_r hp, qb, icond_lt, icond_le, icond_gt, icond_ge, icond_eq, icond_ne, narrow_bool, true_or, or_true, if_true, if_false, cK_inl, toL_some, toL_none, psum_nil, psum_int, psum_ref, psum_null, psum_long, Nat.zero_le, Nat.reduceAdd, Nat.reduceLeDiff, kl_int, kl_ref, kl_none, kl_null, kl_long]
  rw [w167_136, pl_right_s hp hc4]
  simp +decide only [↓w167_0, ↓w167_1, ↓w167_4, ↓w167_7, ↓w167_8, ↓w167_9, ↓w167_12, ↓w167_12i, ↓w167_13, ↓w167_16, ↓w167_17, ↓w167_18, ↓w167_21, ↓w167_22, ↓w167_25, ↓w167_26, ↓w167_27, ↓w167_30, ↓w167_33, ↓w167_34, ↓w167_35, ↓w167_36, ↓w167_38, ↓w167_41, ↓w167_44, ↓w167_45, ↓w167_47, ↓w167_50, ↓w167_53, ↓w167_54, ↓w167_56, ↓w167_59, ↓w167_62, ↓w167_63, ↓w167_64, ↓w167_65, ↓w167_68, ↓w167_71, ↓w167_72, ↓w167_73, ↓w167_76, ↓w167_77, ↓w167_80, ↓w167_81, ↓w167_83, ↓w167_84, ↓w167_85, ↓w167_86, ↓w167_86i, ↓w167_87, ↓w167_90, ↓w167_91, ↓w167_92, ↓w167_95, ↓w167_96, ↓w167_99, ↓w167_100, ↓w167_101, ↓w167_104, ↓w167_107, ↓w167_108, ↓w167_109, ↓w167_110, ↓w167_113, ↓w167_116, ↓w167_117, ↓w167_118, ↓w167_119, ↓w167_123, ↓w167_124, ↓w167_127, ↓w167_130, ↓w167_131, ↓w167_132, ↓w167_133, ↓w167_137, ↓w167_138, icond_lt, icond_le, icond_gt, icond_ge, icond_eq, icond_ne, narrow_bool, true_or, or_true, if_true, if_false, cK_inl, toL_some, toL_none, psum_nil, psum_int, psum_ref, psum_null, psum_long, Nat.zero_le, Nat.reduceAdd, Nat.reduceLeDiff, kl_int, kl_ref, kl_none, kl_null, kl_long]
/-- the two say the same compare at j -/
def cmpR (b : Nat) (S P : S3) (j : Nat) : Prop := okc (P 0 119 j) ∧ okc (P 0 121 j) ∧ S (2 + b) 114 j = cv (P 0 119 j) ∧ S (2 + b) 116 j = cv (P 0 121 j) ∧ S (2 + b) 115 j = cs (P 0 120 j)
theorem cmpR_low {j : Nat} (h : cmpR b S P j) (h1 : lowS b A c S L S' L') (h2 : lowP A c E P P') (hj : j < c) : cmpR b S' P' j := by
  unfold cmpR
  rw [h1.2.1 114 j (by decide) (by decide) hj, h1.2.1 115 j (by decide) (by decide) hj, h1.2.1 116 j (by decide) (by decide) hj, h2.2.1 119 j (by decide) (by decide) hj, h2.2.1 120 j (by decide) (by decide) hj, h2.2.1 121 j (by decide) (by decide) hj]
  exact h
theorem sgn_s : ∀ j, j < 31 → 28 ≤ j → ∃ s : Int32, (s = 60 ∨ s = 62 ∨ s = 61) ∧ toR (Int32.ofNat j) = 50 + s ∧ cs s = Int32.ofNat j := by
  intro j h1 h2
  have : j = 28 ∨ j = 29 ∨ j = 30 := by omega
  rcases this with rfl | rfl | rfl
  · exact ⟨60, Or.inl rfl, by decide, by decide⟩
  · exact ⟨62, Or.inr (Or.inl rfl), by decide, by decide⟩
  · exact ⟨61, Or.inr (Or.inr rfl), by decide, by decide⟩
theorem SE_103 (hb : b < 2) (h : SE b qf T k M M' NR R' A cS S L V) (hx : S 4 203 0 = 0 → x = Int32.ofNat cS') : SE b qf T k M M' NR R' A cS' (su S (2 + b) 103 0 x) L V := by
  obtain ⟨h1, h2, h3, h4⟩ := h
  have e : ∀ v, su S (2 + b) 103 0 x 4 v = S 4 v := fun v => by rw [su_gne (by omega)]
  unfold SE
  rw [e, e]
  refine ⟨h1, h2, h3, fun h0 => ⟨(h4 h0).1, ?_⟩⟩
  obtain ⟨c1, c2, c3, c4, c5⟩ := (h4 h0).2
  unfold CO
  rw [su_vne (v := 103) (v' := 100) (by decide), su_vne (v := 103) (v' := 101) (by decide), su_vne (v := 103) (v' := 102) (by decide), su_self]
  exact ⟨c1, c2, c3, hx (h2.trans h0), c5⟩
theorem cu_bk (hb : b < 2) (h : cu b m k dp S L V) {v i : Nat} (hv : v ≠ 102) : cu b m k dp (su S (2 + b) v i x) L V := by
  unfold cu B8 at h ⊢
  rw [su_vne (v' := 102) hv.symm]
  rw [su_gne (by omega)]
  exact h
theorem fr3_bk (h : fr3 b S0 L0 V0 S L V) {v i : Nat} (hv : 100 ≤ v) : fr3 b S0 L0 V0 (su S (2 + b) v i x) L V := ⟨sbt_su h.1 (Or.inl ⟨rfl, hv⟩), h.2⟩
theorem CP_su (h : CP k A cc E R' P) {v i : Nat} (h1 : v ≠ 109) (h2 : v ≠ 118) (h3 : v ≠ 106) (h4 : v ≠ 108) (h5 : ¬ (100 ≤ v ∧ v ≤ 104)) : CP k A cc E R' (su P 0 v i x) := by
  unfold CP at h ⊢
  rw [su_ne h1.symm, su_ne h2.symm, su_ne h3.symm, su_ne h4.symm]
  exact ⟨h.1, h.2.1, h.2.2.1, h.2.2.2.1, fun v' j a1 a2 => by rw [su_vne (by omega)]; exact h.2.2.2.2 v' j a1 a2⟩
/-- the token at which they stand is the stuck one -/
theorem Gk_F (h : Gk b m qf T S0 L0 V0 k dp A cc cS E M M' NR R' S L V P) (H : bse b pl n m qf T S0 L0 V0) : Fk b m qf S0 L0 V0 S L V := by
  obtain ⟨⟨km, -, -, u2, -, u4, -⟩, F, -⟩ := h
  exact ⟨k, km, u2.trans (bse_t H F km).2.2.1, u4, F⟩
theorem Gk_cnt (h : Gk b m qf T S0 L0 V0 k dp A cc cS E M M' NR R' S L V P) (h0 : S 4 203 0 = 0) : CO b qf T k M M' NR R' A cS S L V (p2 V T qf k).2.2 := by
  obtain ⟨-, -, -, -, s1, s2, s3, s4⟩ := h
  exact (s4 (s2.symm.trans h0)).2
theorem lowP_cmp : lowP A c E P (su (su (su (su P 0 118 0 x) 0 120 c y) 0 119 c z1) 0 121 c z2) := by
  have h1 : lowP A c E P (su P 0 118 0 x) := lowP_su (by omega) (by omega) (by omega) (by decide)
  have h2 : lowP A c E (su P 0 118 0 x) (su (su P 0 118 0 x) 0 120 c y) := lowP_su (by omega) (by omega) (by omega) (by decide)
  have h3 : lowP A c E (su (su P 0 118 0 x) 0 120 c y) (su (su (su P 0 118 0 x) 0 120 c y) 0 119 c z1) := lowP_su (by omega) (by omega) (by omega) (by decide)
  have h4 : lowP A c E (su (su (su P 0 118 0 x) 0 120 c y) 0 119 c z1) (su (su (su (su P 0 118 0 x) 0 120 c y) 0 119 c z1) 0 121 c z2) := lowP_su (by omega) (by omega) (by omega) (by decide)
  exact lowP_tr (lowP_tr (lowP_tr h1 h2 (Nat.le_refl _) (Nat.le_refl _) (Nat.le_refl _)) h3 (Nat.le_refl _) (Nat.le_refl _) (Nat.le_refl _)) h4 (Nat.le_refl _) (Nat.le_refl _) (Nat.le_refl _)
/-- one compare, in both -/
theorem cmp_sim (H : bse b pl n m qf T S0 L0 V0) (h : Gk b m qf T S0 L0 V0 k dp A c c E M M' NR R' S L V P) (h4 : 4 * c + 1 ≤ k) (iC : Int32) (l4 : Option Value) :
    (∃ S' L' V' P', Fk b m qf S0 L0 V0 S' L' V' ∧ (∀ (d : Nat) (Q : PO → Prop), Wp (d + 3) 28 33 [some (.ref 317), some (.int aC), some (.int 1), some (.int iC), l4] [] (CH hc S L R) Q = Q (.inl (some (.int 0)), CH hc S' L' R)) ∧ RR hcR C W pl RB 6 167 [.ref 395] V P 0 V' P') ∨
    ∃ S' L' V' P' x, Gk b m qf T S0 L0 V0 (k + 3) dp A (c + 1) (c + 1) E M M' NR R' S' L' V' P' ∧ (∀ (d : Nat) (Q : PO → Prop), Wp (d + 3) 28 33 [some (.ref 317), some (.int aC), some (.int 1), some (.int iC), l4] [] (CH hc S L R) Q = Wp (d + 3) 28 127 [some (.ref 317), some (.int aC), some (.int 1), some (.int iC), some (.int x)] [] (CH hc S' L' R) Q) ∧ RR hcR C W pl RB 6 167 [.ref 395] V P 1 V' P' ∧
      (S' 4 203 0 = 0 → S 4 203 0 = 0 ∧ lowS b A c S L S' L' ∧ lowP A c E P P' ∧ (p2 V' T qf (k + 3)).2.2 = (p2 V T qf k).2.2 ∧ cmpR b S' P' c) := by
  have hb := H.1
  have hp := H.2.1
  have hm := H.2.2.2.2.2.2.1
  obtain ⟨g1, F, g3, g4, g5⟩ := id h
  have km := g1.1
  have u4 := g1.2.2.2.2.2.1
  have hc118 : P 0 118 0 = Int32.ofNat c := g4.2.1.1
  have hB := bse_B H F
  have hP := bse_P H F
  have G1 : Gk b m qf T S0 L0 V0 k dp A (c + 1) c E M M' NR R' S L V (su P 0 118 0 (Int32.ofNat (c + 1))) := by
    refine ⟨g1, F, g3, ?_, g5⟩
    obtain ⟨c1, c2, c3, c4, c5⟩ := g4
    unfold CP
    rw [su_ne (by decide), su_self, su_ne (by decide), su_ne (by decide)]
    exact ⟨c1, ⟨rfl, by omega⟩, c3, c4, fun v j a1 a2 => by rw [su_vne (by omega)]; exact c5 v j a1 a2⟩
  rcases val_sim (hc := hc) (hcR := hcR) (R := R) (RB := RB) (C := C) (W := W) (a := BA b + 11) (v := 114) (nn := 100) (x := S (2 + b) 103 0) H G1 (by decide) (fun L S y d Q => b_lefts_put hb) with ⟨q1, q2⟩ | ⟨S1, V1, hk1, G2, q1, q2, z1, w1⟩
  · exact Or.inl ⟨S, L, V, su P 0 118 0 (Int32.ofNat (c + 1)), Gk_F h H, fun d Q => c28_1 hb hB rfl q1 d Q, r167_1 hp hP hc118 q2⟩
  obtain ⟨g1', F', -, -, -⟩ := id G2
  obtain ⟨j, hj, ej, eVj⟩ := bse_k H F' g1'.1
  have hB1 := bse_B H F'
  have hP1 := bse_P H F'
  have e201 : S1 4 201 0 = Int32.ofNat j := g1'.2.2.1.trans ej
  by_cases hjj : 28 ≤ j ∧ j ≤ 30
  · obtain ⟨s, hs, es, ecs⟩ := sgn_s j (by omega) hjj.1
    have hn : ¬ (S1 4 211 (k + 1) = 31 ∨ S1 4 211 (k + 1) = 32) := fun q => by
      rw [ej] at q
      rcases q with q | q
      · exact absurd (ofN_inj (b := 31) (by omega) (by omega) q) (by omega)
      · exact absurd (ofN_inj (b := 32) (by omega) (by omega) q) (by omega)
    have hk2 : k + 1 < m := bse_n H F' g1'.1 hn
    have hV1 : V1 4 211 (k + 1) = 50 + s := eVj.trans es
    have t := tok_G (S1 := pt S1 (2 + b) 115 100 (S (2 + b) 103 0) (S1 4 201 0)) (P1 := su (su P 0 118 0 (Int32.ofNat (c + 1))) 0 120 c s) H G2 hk2 (fun g v q => pt_vne (fun e => q ⟨e.1, by omega⟩)) (CP_su (CP_next G2.2.2.2.1) (by decide) (by decide) (by decide) (by decide) (by omega))
    obtain ⟨G3, t2⟩ := t
    have k28a : ¬ S1 4 201 0 < 28 := by rw [e201]; exact fun q => absurd ((ofN_lt (m := 28) (by omega) (by omega)).mp q) (by omega)
    have k28b : ¬ 30 < S1 4 201 0 := by rw [e201]; exact fun q => absurd ((ofN_lt (k := 30) (by omega) (by omega)).mp q) (by omega)
    have e200 : S1 4 200 0 + 1 = Int32.ofNat (k + 2) := by rw [g1'.2.1, ofN_a1]
    have q167 := fun d Q => r167_h (d := d) (Q := Q) hp hP hP1 hc118 (by omega) u4 q2 (by omega) g1'.2.2.2.2.2.1 hs hV1
    rcases val_sim (hc := hc) (hcR := hcR) (R := R) (RB := RB) (C := C) (W := W) (a := BA b + 13) (v := 116) (nn := 100) (x := S (2 + b) 103 0) H G3 (by decide) (fun L S y d Q => b_rights_put hb) with ⟨q3, q4⟩ | ⟨S3', V3, hk3, G4, q3, q4, z2, w2⟩
    · refine Or.inl ⟨_, _, _, su (su P 0 118 0 (Int32.ofNat (c + 1))) 0 120 c s, Gk_F G3 H, fun d Q => c28_3 hb hB hB1 rfl q1 k28a k28b e200 (by omega) q3 d Q, fun d Q => ?_⟩
      rw [q167 d Q]
      exact r167_3 rfl q4 d Q
    · obtain ⟨g1'', F'', g3'', g4'', g5''⟩ := id G4
      have hx : S3' 4 203 0 = 0 → S (2 + b) 103 0 = Int32.ofNat c := fun q0 => by
        have q5 := (t2 (w2 q0).1).1
        exact (Gk_cnt h (w1 q5).1).2.2.2.1
      refine Or.inr ⟨su S3' (2 + b) 103 0 (S (2 + b) 103 0 + 1), _, V3, su (su (su (su P 0 118 0 (Int32.ofNat (c + 1))) 0 120 c s) 0 119 c (zv V0 T qf k)) 0 121 c (zv V0 T qf (k + 2)), S (2 + b) 103 0, ⟨cu_bk hb g1'' (by decide), fr3_bk F'' (by decide), g3'', CP_su (CP_su g4'' (by decide) (by decide) (by decide) (by decide) (by omega)) (by decide) (by decide) (by decide) (by decide) (by omega), SE_103 hb g5'' (fun q0 => by rw [hx q0, ofN_a1])⟩,
        fun d Q => c28_4 hb hB hB1 (bse_B H F'') rfl q1 k28a k28b e200 (by omega) q3 d Q, fun d Q => ?_, fun q0 => ?_⟩
      · rw [q167 d Q]
        exact r167_4 hp (bse_P H F'') (by omega) q4 (val_at H F'' (by omega)) (val_at H F'' (by omega)) d Q
      · rw [su_gne (by omega)] at q0
        obtain ⟨a1, a2, a3⟩ := w2 q0
        obtain ⟨b1, b2⟩ := t2 a1
        obtain ⟨d1, d2, d3⟩ := w1 b1
        have ex := hx q0
        rw [ex] at a3 d3
        have l1 : lowS b A c S L S1 (stV (k + 1) L) := by rw [d3]; exact lowS_tr (lowS_pt (v := 114) (by decide) (by omega) (fun _ => Nat.le_refl _) (by omega)) (lowS_st hb) (Nat.le_refl _) (Nat.le_refl _)
        have l2 : lowS b A c S1 (stV (k + 1) L) (stS (k + 1 + 1) (pt S1 (2 + b) 115 100 (S (2 + b) 103 0) (S1 4 201 0))) (stV (k + 1 + 1) (stV (k + 1) L)) := by rw [ex]; exact lowS_tr (lowS_pt (v := 115) (by decide) (by omega) (fun _ => Nat.le_refl _) (by omega)) (lowS_st hb) (Nat.le_refl _) (Nat.le_refl _)
        have l3 : lowS b A c (stS (k + 1 + 1) (pt S1 (2 + b) 115 100 (S (2 + b) 103 0) (S1 4 201 0))) (stV (k + 1 + 1) (stV (k + 1) L)) S3' (stV (k + 1 + 1 + 1) (stV (k + 1 + 1) (stV (k + 1) L))) := by rw [a3, ex]; exact lowS_tr (lowS_pt (v := 116) (by decide) (by omega) (fun _ => Nat.le_refl _) (by omega)) (lowS_st hb) (Nat.le_refl _) (Nat.le_refl _)
        have l4' : lowS b A c S3' (stV (k + 1 + 1 + 1) (stV (k + 1 + 1) (stV (k + 1) L))) (su S3' (2 + b) 103 0 (S (2 + b) 103 0 + 1)) (stV (k + 1 + 1 + 1) (stV (k + 1 + 1) (stV (k + 1) L))) := lowS_4 (sbt_su sbt_refl (Or.inr ⟨rfl, Or.inr rfl⟩)) (fun _ _ => rfl) hb
        refine ⟨d1, lowS_tr (lowS_tr (lowS_tr l1 l2 (Nat.le_refl _) (Nat.le_refl _)) l3 (Nat.le_refl _) (Nat.le_refl _)) l4' (Nat.le_refl _) (Nat.le_refl _), ?_, ?_, ?_⟩
        · exact lowP_cmp
        · exact a2.trans (b2.trans d2)
        · have hc100 : c < 100 := by omega
          unfold cmpR
          rw [su_vne (v := 103) (v' := 114) (by decide), su_vne (v := 103) (v' := 115) (by decide), su_vne (v := 103) (v' := 116) (by decide), su_self, su_ne (v := 121) (by decide), su_self, su_ne (v := 121) (by decide), su_ne (v := 119) (by decide), su_self]
          refine ⟨z1, z2, ?_, ?_, ?_⟩
          · rw [a3, st_ne (by omega), pt_vne (by omega), st_ne (by omega), pt_vne (by omega), d3, st_ne (by omega), pt_self hc100 (by omega)]
          · rw [a3, st_ne (by omega), pt_self hc100 (by omega)]
          · rw [a3, st_ne (by omega), pt_vne (by omega), st_ne (by omega), pt_self hc100 (by omega), e201, ecs]
  · have hk : S1 4 201 0 < 28 ∨ 30 < S1 4 201 0 := by
      rw [e201]
      by_cases g : j < 28
      · exact Or.inl ((ofN_lt (m := 28) (by omega) (by omega)).mpr g)
      · exact Or.inr ((ofN_lt (k := 30) (by omega) (by omega)).mpr (by omega))
    have hne : ∀ i, i ≤ 32 → 28 ≤ i → i ≤ 30 → V1 4 211 (k + 1) ≠ toR (Int32.ofNat i) := fun i h1 h2 h3 => by
      rw [eVj]
      intro q
      have := toR_inj j hj i h1 q
      omega
    exact Or.inl ⟨S1, _, V1, su P 0 118 0 (Int32.ofNat (c + 1)), Gk_F G2 H, fun d Q => c28_2 hb hB rfl q1 hk d Q, r167_2 hp hP hc118 q2 (by omega) g1'.2.2.2.2.2.1 (hne 28 (by decide) (by decide) (by decide)) (hne 29 (by decide) (by decide) (by decide)) (hne 30 (by decide) (by decide) (by decide))⟩
end CMPB
