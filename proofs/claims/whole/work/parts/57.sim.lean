/-! CLASS AND REFERENCE: what is done at once -/
section SIMC
variable {c : Nat × Nat × Nat} {C : Nat → Option PC} {W : L3} {R : Nat → Option PC} {S V P : S3} {g i l b d pl M N A NR β : Nat} {x y : Int32} {rk : Nat → Nat} {nt : Prop} {Q : PO → Prop}
theorem ofN_inj {a b : Nat} (ha : a < 2 ^ 31) (hb : b < 2 ^ 31) (h : Int32.ofNat a = Int32.ofNat b) : a = b := by
  have e4 := congrArg Int32.toNatClampNeg h
  rwa [tN_nat ha, tN_nat hb] at e4
theorem sbt_enV {S' : S3} {e o : Nat} (h : sameBut (pT g) S S') : sameBut (pT g) S (enV P g l e o y S') := by
  unfold enV
  split
  · exact h
  · exact sbt_su (sbt_su (sbt_su (sbt_su h ⟨rfl, by decide, by decide, by decide, by decide, by decide, by decide⟩) ⟨rfl, by decide, by decide, by decide, by decide, by decide, by decide⟩) ⟨rfl, by decide, by decide, by decide, by decide, by decide, by decide⟩) ⟨rfl, by decide, by decide, by decide, by decide, by decide, by decide⟩
theorem sbt_noV {S' : S3} {n : Nat} (h : sameBut (pT g) S S') : sameBut (pT g) S (noV g l n x S') := by
  unfold noV
  exact sbt_su (sbt_su h ⟨rfl, by decide, by decide, by decide, by decide, by decide, by decide⟩) ⟨rfl, by decide, by decide, by decide, by decide, by decide, by decide⟩
/-- what the two sides have in common as lighters work -/
def ctx (g b pl M A NR N β : Nat) (rk : Nat → Nat) (nt : Prop) (P S V : S3) : Prop :=
  townR g b M A NR N β rk nt P S V ∧ bookR S P b M A NR rk ∧ (V 4 206 0).toNatClampNeg = pl ∧ (∀ a, a < A → rk a ≤ 35) ∧ g < 2 ∧ Pok pl ∧ β < 2 ^ 30
theorem ctx_mk {S' V' : S3} {β' : Nat} (h : ctx g b pl M A NR N β rk nt P S V) (ht : townR g b M A NR N β' rk nt P S' V') (hs : sameBut (pT g) S S') (hv : sameBut (pT g) V V') (hβ : β' < 2 ^ 30) : ctx g b pl M A NR N β' rk nt P S' V' := by
  obtain ⟨h1, h2, h3, h4, h5, h6, h7⟩ := h
  refine ⟨ht, bookR_eq h2 (fun v hv => hs (2 + b) v (fun q => by have := q.2.1; omega)), ?_, h4, h5, h6, hβ⟩
  rw [hv 4 206 (fun q => by have := q.2.1; omega)]
  exact h3
theorem ctx_act (h : ctx g b pl M A NR N β rk nt P S V) {a : Nat} (ha : a < A) : ∃ w : Nat, w ≤ 13 ∧ 4 ≤ w ∧ gt S (2 + b) 107 80 (Int32.ofNat a) = Int32.ofNat w ∧ P 0 110 a = Int32.ofNat w ∧ actR S P b M A NR rk a := by
  have h1 := h.2.1.2.2.2.2.2 a ha
  have hA := h.2.1.2.2.1.2.2
  obtain ⟨w, q1, q2, q3, q4, q5⟩ := h1
  exact ⟨w, q4, q3, by rw [gt_nat (by omega) (by omega)]; exact q2, q1, ⟨w, q1, q2, q3, q4, q5⟩⟩
theorem qf_d {w : Nat} (h : w = 9 ∨ w = 11 ∨ w = 12 ∨ w = 13) (hw : gt S (2 + b) 107 80 x = Int32.ofNat w) : qfS S g b l x = 0 := by
  unfold qfS
  rcases h with rfl | rfl | rfl | rfl <;> rw [hw] <;> simp +decide only [if_true, if_false]
theorem do_n {w : Nat} (h : w = 4 ∨ w = 5 ∨ w = 6 ∨ w = 7 ∨ w = 8 ∨ w = 10) (hw : gt S (2 + b) 107 80 x = Int32.ofNat w) : doS g b l x S = S := by
  unfold doS
  rcases h with rfl | rfl | rfl | rfl | rfl | rfl <;> rw [hw] <;> simp +decide only [if_true, if_false]
section ACT
variable {a w : Nat}
theorem actR_w (h : actR S P b M A NR rk a) : ∃ w : Nat, P 0 110 a = Int32.ofNat w ∧ S (2 + b) 107 a = Int32.ofNat w ∧ 4 ≤ w ∧ w ≤ 13 := by
  obtain ⟨w, h1, h2, h3, h4, -⟩ := h
  exact ⟨w, h1, h2, h3, h4⟩
theorem actR_x (h : actR S P b M A NR rk a) (hw : P 0 110 a = Int32.ofNat w) (h13 : w ≤ 13) : S (2 + b) 107 a = Int32.ofNat w := by
  obtain ⟨w', h1, h2, h3, h4, -⟩ := h
  rw [h2, ← h1, hw]
theorem actR_n (h : actR S P b M A NR rk a) : S (2 + b) 109 a = P 0 111 a ∧ (P 0 111 a = -1 ∨ ∃ a', a' < A ∧ P 0 111 a = Int32.ofNat a' ∧ rk a' = rk a) := by
  obtain ⟨w, h1, h2, h3, h4, h5, -⟩ := h
  exact h5
theorem actR_v (h : actR S P b M A NR rk a) (hw : P 0 110 a = Int32.ofNat w) (h13 : w ≤ 13) (hh : w = 7 ∨ w = 8 ∨ w = 9 ∨ w = 12) : okc (P 0 112 a) ∧ S (2 + b) 108 a = cv (P 0 112 a) := by
  obtain ⟨w', h1, h2, h3, h4, h5, h6, -⟩ := h
  have e : w' = w := ofN_inj (Nat.lt_of_le_of_lt h4 (by decide)) (Nat.lt_of_le_of_lt h13 (by decide)) (h1.symm.trans hw)
  rw [e] at h6
  exact h6 hh
theorem actR_g (h : actR S P b M A NR rk a) (hw : P 0 110 a = Int32.ofNat 10) : ∃ t, t < M ∧ P 0 113 a = Int32.ofNat t ∧ S (2 + b) 108 a = Int32.ofNat t := by
  obtain ⟨w', h1, h2, h3, h4, h5, h6, h7, -⟩ := h
  exact h7 (ofN_inj (Nat.lt_of_le_of_lt h4 (by decide)) (by decide) (h1.symm.trans hw))
theorem actR_k (h : actR S P b M A NR rk a) (hw : P 0 110 a = Int32.ofNat 11) : ∃ r e, r < NR ∧ P 0 113 a = Int32.ofNat r ∧ S (2 + b) 108 a = Int32.ofNat r ∧ e < 400 ∧ P 0 107 r = Int32.ofNat e ∧ blkF A P rk e (rk a) := by
  obtain ⟨w', h1, h2, h3, h4, h5, h6, h7, h8, -⟩ := h
  exact h8 (ofN_inj (Nat.lt_of_le_of_lt h4 (by decide)) (by decide) (h1.symm.trans hw))
theorem actR_b (h : actR S P b M A NR rk a) (hw : P 0 110 a = Int32.ofNat w) (h13 : w ≤ 13) (hh : w = 12 ∨ w = 13) : ∃ e, e < 400 ∧ P 0 114 a = Int32.ofNat e ∧ S (2 + b) 110 a = P 0 105 e ∧ blkF A P rk e (rk a) := by
  obtain ⟨w', h1, h2, h3, h4, h5, h6, h7, h8, h9, -⟩ := h
  have e : w' = w := ofN_inj (Nat.lt_of_le_of_lt h4 (by decide)) (Nat.lt_of_le_of_lt h13 (by decide)) (h1.symm.trans hw)
  rw [e] at h9
  exact h9 hh
theorem actR_i (h : actR S P b M A NR rk a) (hw : P 0 110 a = Int32.ofNat 13) : (P 0 115 a = -1 ∧ S (2 + b) 111 a = -1 ∨ ∃ e, e < 400 ∧ P 0 115 a = Int32.ofNat e ∧ S (2 + b) 111 a = P 0 105 e ∧ blkF A P rk e (rk a)) ∧
    ∃ i0 i1, i0 ≤ i1 ∧ i1 ≤ 100 ∧ P 0 116 a = Int32.ofNat i0 ∧ P 0 117 a = Int32.ofNat i1 ∧ S (2 + b) 112 a = Int32.ofNat i0 ∧ S (2 + b) 113 a = Int32.ofNat i1 ∧
      ∀ k, i0 ≤ k → k < i1 → okc (P 0 119 k) ∧ okc (P 0 121 k) ∧ S (2 + b) 114 k = cv (P 0 119 k) ∧ S (2 + b) 116 k = cv (P 0 121 k) ∧ S (2 + b) 115 k = cs (P 0 120 k) := by
  obtain ⟨w', h1, h2, h3, h4, h5, h6, h7, h8, h9, h10⟩ := h
  exact h10 (ofN_inj (Nat.lt_of_le_of_lt h4 (by decide)) (by decide) (h1.symm.trans hw))
end ACT
/-- what is done at once -/
theorem r136 (h : ctx g b pl M A NR N β rk nt P S V) (hlN : l < N) {a o w : Nat} (ha : a < A) (ho : S g 18 l = Int32.ofNat o) (ho2 : o ≤ 36) (hr : rk a + o ≤ 36) (hw : P 0 110 a = Int32.ofNat w) (hw2 : w = 9 ∨ w = 11 ∨ w = 12 ∨ w = 13) :
    ∃ V', townR g b M A NR N (β + 1) rk nt P (doS g b l (Int32.ofNat a) S) V' ∧ sameBut (pT g) V V' ∧ ∀ (d : Nat) (Q : PO → Prop), Cp (d + 7) 136 [.ref (SA g), .int (Int32.ofNat l), .int (Int32.ofNat a)] (RP c C V W pl P R) Q = Q (.inl none, RP c C V' W pl P R) := by
  obtain ⟨ht, hb, hP, hrk, hg, hp, hβ⟩ := h
  have hA := hb.2.2.1.2.2
  have hN : N ≤ 3 := ht.2.2.2.2.2.2.2.1
  have hl : l < 3 := by omega
  have ha4 : a < 400 := by omega
  have hM := hb.1.2.1
  have hM10 := hb.1.2.2
  have hoV : V g 18 l = Int32.ofNat o := by rw [← ht.1.2.2 18 l (by omega) (by omega) hlN]; exact ho
  have hact := hb.2.2.2.2.2 a ha
  have hw13 : w ≤ 13 := by rcases hw2 with rfl | rfl | rfl | rfl <;> decide
  have g7 : gt S (2 + b) 107 80 (Int32.ofNat a) = Int32.ofNat w := by rw [gt_nat (by omega) (by omega)]; exact actR_x hact hw hw13
  have g8 : gt S (2 + b) 108 80 (Int32.ofNat a) = S (2 + b) 108 a := gt_nat (by omega) (by omega)
  rcases hw2 with rfl | rfl | rfl | rfl
  · -- note
    obtain ⟨u1, u2⟩ := actR_v hact hw (by decide) (by decide)
    obtain ⟨n, hn, hn2⟩ := ht.2.2.2.1.2.2.2 l hlN
    have hnV : V g 17 l = Int32.ofNat n := by rw [← ht.1.2.2 17 l (by omega) (by omega) hlN]; exact hn2
    have hx : valS S g b l (cv (P 0 112 a)) = valV V P g M l (cv (P 0 112 a)) := valS_eq hb ht hlN
    refine ⟨noV g l n (valV V P g M l (cv (P 0 112 a))) V, ?_, sbt_noV sbt_refl, fun d Q => ?_⟩
    · unfold doS
      rw [g7, if_pos (by decide), g8, u2, hx]
      exact townR_note ht hlN hn2 hn (by omega)
    · have e1 : ∀ Q : PO → Prop, _ := fun Q => r133 (c := c) (C := C) (W := W) (R := R) (d := d + 2) (Q := Q) hg hl hp hP hM hM10 u1
      have h20 : (20 : Int32) ≠ 0 := by decide
      have hi : 20 * l + n % 20 < 60 := by omega
      have h9 : Int32.ofNat 9 = 9 := rfl
      simp only [ce136, ↓w136_0, ↓w136_1, ↓w136_4, ↓w136_7, ↓w136_10, ↓w136_11, ↓w136_12, ↓w136_14, ↓w136_17, ↓w136_18, ↓w136_21, ↓w136_23, ↓w136_24, ↓w136_25, ↓w136_26, ↓w136_29, ↓w136_30, ↓w136_31, ↓w136_34, ↓w136_36, ↓w136_37, ↓w136_38, ↓w136_41, ↓w136_44, ↓w136_47, ↓w136_48, ↓w136_49, ↓w136_52, ↓w136_53, ↓w136_54, ↓w136_57, ↓w136_58, ↓w136_59, ↓w136_60, ↓w136_61, ↓w136_62, ↓w136_63, ↓w136_66, ↓w136_67, ↓w136_70, ↓w136_73, ↓w136_76, ↓w136_77, ↓w136_78, ↓w136_80, ↓w136_83, ↓w136_84, ↓w136_85, ↓w136_86, ↓w136_89, ↓w136_92, ↓w136_95, ↓w136_96, ↓w136_99, ↓w136_102, ↓w136_105, ↓w136_106, ↓w136_107, ↓w136_108, ↓w136_109, ↓w136_112, ↓w136_115, ↓w136_116, ↓w136_119, ↓w136_122, ↓w136_125, ↓w136_126, ↓w136_127, ↓w136_129, ↓w136_132, ↓w136_133, ↓w136_134, ↓w136_135, ↓w136_138, ↓w136_141, ↓w136_144, ↓w136_145, ↓w136_146, ↓w136_149, ↓w136_150, ↓w136_151, ↓w136_154, ↓w136_155, ↓w136_156, ↓w136_157, ↓w136_160, ↓w136_163, ↓w136_166, ↓w136_167, ↓w136_168, ↓w136_169, ↓w136_172, ↓w136_175, ↓w136_176, ↓w136_177, ↓w136_178, ↓w136_181, ↓w136_184, ↓w136_185, ↓w136_188, ↓w136_191, ↓w136_194, ↓w136_195, ↓w136_196, ↓w136_199, ↓w136_200, ↓w136_203, ↓w136_206, ↓w136_209, ↓w136_210, ↓w136_211, ↓w136_212, ↓w136_213, ↓w136_214, ↓w136_217, ↓w136_218, ↓w136_219, ↓w136_220, ↓w136_221, ↓w136_224, ↓w136_33 h20, ↓s_g0 hg, ↓s_g1 hg, ↓s_g2 hg, ↓s_g3 hg, ↓s_g4 hg, ↓s_g5 hg, ↓s_g6 hg, ↓s_g7 hg, ↓s_g8 hg, ↓s_g9 hg, ↓s_g10 hg, ↓s_g11 hg, ↓s_g12 hg, ↓s_g13 hg, ↓s_g14 hg, ↓s_g15 hg, ↓s_g16 hg, ↓s_g17 hg, ↓s_g18 hg, ↓s_g19 hg, ↓s_g20 hg, ↓s_p0 hg, ↓s_p1 hg, ↓s_p3 hg, s_r hg, ↓s_can_a hg hl, ↓s_can_s hg hl, ↓s_place_a hg hl, ↓s_place_s hg hl, ↓s_round_a hg hl, ↓s_round_s hg hl, ↓s_begun_a hg hl, ↓s_begun_s hg hl, ↓s_busy_a hg hl, ↓s_busy_s hg hl, ↓s_noted_a hg hl, ↓s_noted_s hg hl, ↓s_depth_a hg hl, ↓s_depth_s hg hl, ↓m0_g0, ↓m0_g1, ↓m0_g2, ↓m0_g3, ↓m0_g4, ↓m0_g5, ↓m0_g6, ↓m0_g7, ↓m0_g8, ↓m0_g9, ↓m0_g10, ↓m0_g11, ↓m0_g12, ↓m0_g13, ↓m0_g14, ↓m0_g15, ↓m0_p0, ↓m0_p2, ↓m0_p3, ↓m0_p8, ↓m0_p9, ↓m0_p12, m0_r, hP, ↓pl_g0 hp, ↓pl_g1 hp, ↓pl_g2 hp, ↓pl_g3 hp, ↓pl_g4 hp, ↓pl_g5 hp, ↓pl_g6 hp, ↓pl_g7 hp, ↓pl_g8 hp, ↓pl_g9 hp, ↓pl_g10 hp, ↓pl_g11 hp, ↓pl_g12 hp, ↓pl_g13 hp, ↓pl_g14 hp, ↓pl_g15 hp, ↓pl_g16 hp, ↓pl_g17 hp, ↓pl_g18 hp, ↓pl_g19 hp, ↓pl_g20 hp, ↓pl_g21 hp, pl_r hp, ↓pl_does_a hp ha4, hw, h9, hnV, ofN_20, ofN_div20 (show n < 2 ^ 31 by omega), ofN_add, icond_lt, icond_le, icond_gt, icond_ge, icond_eq, icond_ne, narrow_bool, true_or, or_true, if_true, if_false, cK_inl, toL_some, toL_none, psum_nil, psum_int, psum_ref, psum_null, psum_long, Nat.zero_le, Nat.reduceAdd, Nat.reduceLeDiff, kl_int, kl_ref, kl_none, kl_null, kl_long, ne_eq, not_true]
      rw [w136_35]
      simp only [↓w136_0, ↓w136_1, ↓w136_4, ↓w136_7, ↓w136_10, ↓w136_11, ↓w136_12, ↓w136_14, ↓w136_17, ↓w136_18, ↓w136_21, ↓w136_23, ↓w136_24, ↓w136_25, ↓w136_26, ↓w136_29, ↓w136_30, ↓w136_31, ↓w136_34, ↓w136_36, ↓w136_37, ↓w136_38, ↓w136_41, ↓w136_44, ↓w136_47, ↓w136_48, ↓w136_49, ↓w136_52, ↓w136_53, ↓w136_54, ↓w136_57, ↓w136_58, ↓w136_59, ↓w136_60, ↓w136_61, ↓w136_62, ↓w136_63, ↓w136_66, ↓w136_67, ↓w136_70, ↓w136_73, ↓w136_76, ↓w136_77, ↓w136_78, ↓w136_80, ↓w136_83, ↓w136_84, ↓w136_85, ↓w136_86, ↓w136_89, ↓w136_92, ↓w136_95, ↓w136_96, ↓w136_99, ↓w136_102, ↓w136_105, ↓w136_106, ↓w136_107, ↓w136_108, ↓w136_109, ↓w136_112, ↓w136_115, ↓w136_116, ↓w136_119, ↓w136_122, ↓w136_125, ↓w136_126, ↓w136_127, ↓w136_129, ↓w136_132, ↓w136_133, ↓w136_134, ↓w136_135, ↓w136_138, ↓w136_141, ↓w136_144, ↓w136_145, ↓w136_146, ↓w136_149, ↓w136_150, ↓w136_151, ↓w136_154, ↓w136_155, ↓w136_156, ↓w136_157, ↓w136_160, ↓w136_163, ↓w136_166, ↓w136_167, ↓w136_168, ↓w136_169, ↓w136_172, ↓w136_175, ↓w136_176, ↓w136_177, ↓w136_178, ↓w136_181, ↓w136_184, ↓w136_185, ↓w136_188, ↓w136_191, ↓w136_194, ↓w136_195, ↓w136_196, ↓w136_199, ↓w136_200, ↓w136_203, ↓w136_206, ↓w136_209, ↓w136_210, ↓w136_211, ↓w136_212, ↓w136_213, ↓w136_214, ↓w136_217, ↓w136_218, ↓w136_219, ↓w136_220, ↓w136_221, ↓w136_224, ↓s_g0 hg, ↓s_g1 hg, ↓s_g2 hg, ↓s_g3 hg, ↓s_g4 hg, ↓s_g5 hg, ↓s_g6 hg, ↓s_g7 hg, ↓s_g8 hg, ↓s_g9 hg, ↓s_g10 hg, ↓s_g11 hg, ↓s_g12 hg, ↓s_g13 hg, ↓s_g14 hg, ↓s_g15 hg, ↓s_g16 hg, ↓s_g17 hg, ↓s_g18 hg, ↓s_g19 hg, ↓s_g20 hg, ↓s_p0 hg, ↓s_p1 hg, ↓s_p3 hg, s_r hg, ↓s_can_a hg hl, ↓s_can_s hg hl, ↓s_place_a hg hl, ↓s_place_s hg hl, ↓s_round_a hg hl, ↓s_round_s hg hl, ↓s_begun_a hg hl, ↓s_begun_s hg hl, ↓s_busy_a hg hl, ↓s_busy_s hg hl, ↓s_noted_a hg hl, ↓s_noted_s hg hl, ↓s_depth_a hg hl, ↓s_depth_s hg hl, ↓m0_g0, ↓m0_g1, ↓m0_g2, ↓m0_g3, ↓m0_g4, ↓m0_g5, ↓m0_g6, ↓m0_g7, ↓m0_g8, ↓m0_g9, ↓m0_g10, ↓m0_g11, ↓m0_g12, ↓m0_g13, ↓m0_g14, ↓m0_g15, ↓m0_p0, ↓m0_p2, ↓m0_p3, ↓m0_p8, ↓m0_p9, ↓m0_p12, m0_r, hP, ↓pl_g0 hp, ↓pl_g1 hp, ↓pl_g2 hp, ↓pl_g3 hp, ↓pl_g4 hp, ↓pl_g5 hp, ↓pl_g6 hp, ↓pl_g7 hp, ↓pl_g8 hp, ↓pl_g9 hp, ↓pl_g10 hp, ↓pl_g11 hp, ↓pl_g12 hp, ↓pl_g13 hp, ↓pl_g14 hp, ↓pl_g15 hp, ↓pl_g16 hp, ↓pl_g17 hp, ↓pl_g18 hp, ↓pl_g19 hp, ↓pl_g20 hp, ↓pl_g21 hp, pl_r hp, ↓pl_value_a hp ha4, e1, ↓s_note_s hg hi, hnV, ofN_a1, icond_lt, icond_le, icond_gt, icond_ge, icond_eq, icond_ne, narrow_bool, true_or, or_true, if_true, if_false, cK_inl, toL_some, toL_none, psum_nil, psum_int, psum_ref, psum_null, psum_long, Nat.zero_le, Nat.reduceAdd, Nat.reduceLeDiff, kl_int, kl_ref, kl_none, kl_null, kl_long, su_at, sr_at, Nat.reduceEqDiff, Nat.add_eq_left, Nat.add_right_cancel_iff, and_false, false_and, and_true, true_and, and_self, if_true, if_false, ↓reduceIte, noV]
  · -- walk
    obtain ⟨r, e, u1, u2, u3, u4, u5, u6⟩ := actR_k hact hw
    obtain ⟨e', v1, v2, v3, v4⟩ := hb.2.2.2.2.1 r u1
    have ee : e' = e := ofN_inj (by omega) (by omega) (v2.symm.trans u5)
    subst ee
    have hN6 := hb.2.1.2.2
    refine ⟨enV P g l e' o 1 V, ?_, sbt_enV sbt_refl, fun d Q => ?_⟩
    · unfold doS
      rw [g7, if_neg (by decide), if_neg (by decide), if_pos (by decide), g8, u3, gt_nat (by omega) (by omega), v3]
      exact townR_mono (townR_ent (t := 0) ht hlN hrk hA u4 ho ho2 u6 hr rfl (by decide)) (by omega)
    · have e1 : ∀ Q : PO → Prop, _ := fun Q => r130 (P := P) (c := c) (C := C) (W := W) (R := R) (d := d + 5) (Q := Q) (y := 1) hg hl hp hP u4 (show o < 48 by omega) hoV
      have h11 : Int32.ofNat 11 = 11 := rfl
      have hr4 : r < 400 := by omega
      simp +decide only [ce136, ↓w136_0, ↓w136_1, ↓w136_4, ↓w136_7, ↓w136_10, ↓w136_11, ↓w136_12, ↓w136_14, ↓w136_17, ↓w136_18, ↓w136_21, ↓w136_23, ↓w136_24, ↓w136_25, ↓w136_26, ↓w136_29, ↓w136_30, ↓w136_31, ↓w136_33, ↓w136_34, ↓w136_35, ↓w136_36, ↓w136_37, ↓w136_38, ↓w136_41, ↓w136_44, ↓w136_47, ↓w136_48, ↓w136_49, ↓w136_52, ↓w136_53, ↓w136_54, ↓w136_57, ↓w136_58, ↓w136_59, ↓w136_60, ↓w136_61, ↓w136_62, ↓w136_63, ↓w136_66, ↓w136_67, ↓w136_70, ↓w136_73, ↓w136_76, ↓w136_77, ↓w136_78, ↓w136_80, ↓w136_83, ↓w136_84, ↓w136_85, ↓w136_86, ↓w136_89, ↓w136_92, ↓w136_95, ↓w136_96, ↓w136_99, ↓w136_102, ↓w136_105, ↓w136_106, ↓w136_107, ↓w136_108, ↓w136_109, ↓w136_112, ↓w136_115, ↓w136_116, ↓w136_119, ↓w136_122, ↓w136_125, ↓w136_126, ↓w136_127, ↓w136_129, ↓w136_132, ↓w136_133, ↓w136_134, ↓w136_135, ↓w136_138, ↓w136_141, ↓w136_144, ↓w136_145, ↓w136_146, ↓w136_149, ↓w136_150, ↓w136_151, ↓w136_154, ↓w136_155, ↓w136_156, ↓w136_157, ↓w136_160, ↓w136_163, ↓w136_166, ↓w136_167, ↓w136_168, ↓w136_169, ↓w136_172, ↓w136_175, ↓w136_176, ↓w136_177, ↓w136_178, ↓w136_181, ↓w136_184, ↓w136_185, ↓w136_188, ↓w136_191, ↓w136_194, ↓w136_195, ↓w136_196, ↓w136_199, ↓w136_200, ↓w136_203, ↓w136_206, ↓w136_209, ↓w136_210, ↓w136_211, ↓w136_212, ↓w136_213, ↓w136_214, ↓w136_217, ↓w136_218, ↓w136_219, ↓w136_220, ↓w136_221, ↓w136_224, ↓s_g0 hg, ↓s_g1 hg, ↓s_g2 hg, ↓s_g3 hg, ↓s_g4 hg, ↓s_g5 hg, ↓s_g6 hg, ↓s_g7 hg, ↓s_g8 hg, ↓s_g9 hg, ↓s_g10 hg, ↓s_g11 hg, ↓s_g12 hg, ↓s_g13 hg, ↓s_g14 hg, ↓s_g15 hg, ↓s_g16 hg, ↓s_g17 hg, ↓s_g18 hg, ↓s_g19 hg, ↓s_g20 hg, ↓s_p0 hg, ↓s_p1 hg, ↓s_p3 hg, s_r hg, ↓s_can_a hg hl, ↓s_can_s hg hl, ↓s_place_a hg hl, ↓s_place_s hg hl, ↓s_round_a hg hl, ↓s_round_s hg hl, ↓s_begun_a hg hl, ↓s_begun_s hg hl, ↓s_busy_a hg hl, ↓s_busy_s hg hl, ↓s_noted_a hg hl, ↓s_noted_s hg hl, ↓s_depth_a hg hl, ↓s_depth_s hg hl, ↓m0_g0, ↓m0_g1, ↓m0_g2, ↓m0_g3, ↓m0_g4, ↓m0_g5, ↓m0_g6, ↓m0_g7, ↓m0_g8, ↓m0_g9, ↓m0_g10, ↓m0_g11, ↓m0_g12, ↓m0_g13, ↓m0_g14, ↓m0_g15, ↓m0_p0, ↓m0_p2, ↓m0_p3, ↓m0_p8, ↓m0_p9, ↓m0_p12, m0_r, hP, ↓pl_g0 hp, ↓pl_g1 hp, ↓pl_g2 hp, ↓pl_g3 hp, ↓pl_g4 hp, ↓pl_g5 hp, ↓pl_g6 hp, ↓pl_g7 hp, ↓pl_g8 hp, ↓pl_g9 hp, ↓pl_g10 hp, ↓pl_g11 hp, ↓pl_g12 hp, ↓pl_g13 hp, ↓pl_g14 hp, ↓pl_g15 hp, ↓pl_g16 hp, ↓pl_g17 hp, ↓pl_g18 hp, ↓pl_g19 hp, ↓pl_g20 hp, ↓pl_g21 hp, pl_r hp, ↓pl_does_a hp ha4, hw, h11, ↓pl_target_a hp ha4, u2, ↓pl_block_a hp hr4, u5, e1, icond_lt, icond_le, icond_gt, icond_ge, icond_eq, icond_ne, narrow_bool, true_or, or_true, if_true, if_false, cK_inl, toL_some, toL_none, psum_nil, psum_int, psum_ref, psum_null, psum_long, Nat.zero_le, Nat.reduceAdd, Nat.reduceLeDiff, kl_int, kl_ref, kl_none, kl_null, kl_long, ne_eq, not_true, not_false_eq_true]
  · -- do
    obtain ⟨u1, u2⟩ := actR_v hact hw (by decide) (by decide)
    obtain ⟨e, v1, v2, v3, v4⟩ := actR_b hact hw (by decide) (by decide)
    have hx : valS S g b l (cv (P 0 112 a)) = valV V P g M l (cv (P 0 112 a)) := valS_eq hb ht hlN
    have e1 : ∀ (d : Nat) (Q : PO → Prop), _ := fun d Q => r133 (c := c) (C := C) (W := W) (R := R) (d := d + 2) (Q := Q) hg hl hp hP hM hM10 u1
    have h12 : Int32.ofNat 12 = 12 := rfl
    have hdo : doS g b l (Int32.ofNat a) S = entS g l (P 0 105 e) (valV V P g M l (cv (P 0 112 a))) S := by
      unfold doS
      rw [g7, if_neg (by decide), if_neg (by decide), if_neg (by decide), if_pos (by decide), g8, u2, hx, gt_nat (by omega) (by omega), v3]
    rw [hdo]
    generalize valV V P g M l (cv (P 0 112 a)) = z at e1
    by_cases hz : z ≤ 0
    · refine ⟨V, ?_, sbt_refl, fun d Q => ?_⟩
      · unfold entS
        have hz1 : z < 1 := Int32.lt_of_le_of_lt hz (by decide)
        rw [if_pos hz1]
        split
        · exact townR_mono ht (by omega)
        · exact townR_mono ht (by omega)
      · simp +decide only [ce136, ↓w136_0, ↓w136_1, ↓w136_4, ↓w136_7, ↓w136_10, ↓w136_11, ↓w136_12, ↓w136_14, ↓w136_17, ↓w136_18, ↓w136_21, ↓w136_23, ↓w136_24, ↓w136_25, ↓w136_26, ↓w136_29, ↓w136_30, ↓w136_31, ↓w136_33, ↓w136_34, ↓w136_35, ↓w136_36, ↓w136_37, ↓w136_38, ↓w136_41, ↓w136_44, ↓w136_47, ↓w136_48, ↓w136_49, ↓w136_52, ↓w136_53, ↓w136_54, ↓w136_57, ↓w136_58, ↓w136_59, ↓w136_60, ↓w136_61, ↓w136_62, ↓w136_63, ↓w136_66, ↓w136_67, ↓w136_70, ↓w136_73, ↓w136_76, ↓w136_77, ↓w136_78, ↓w136_80, ↓w136_83, ↓w136_84, ↓w136_85, ↓w136_86, ↓w136_89, ↓w136_92, ↓w136_95, ↓w136_96, ↓w136_99, ↓w136_102, ↓w136_105, ↓w136_106, ↓w136_107, ↓w136_108, ↓w136_109, ↓w136_112, ↓w136_115, ↓w136_116, ↓w136_119, ↓w136_122, ↓w136_125, ↓w136_126, ↓w136_127, ↓w136_129, ↓w136_132, ↓w136_133, ↓w136_134, ↓w136_135, ↓w136_138, ↓w136_141, ↓w136_144, ↓w136_145, ↓w136_146, ↓w136_149, ↓w136_150, ↓w136_151, ↓w136_154, ↓w136_155, ↓w136_156, ↓w136_157, ↓w136_160, ↓w136_163, ↓w136_166, ↓w136_167, ↓w136_168, ↓w136_169, ↓w136_172, ↓w136_175, ↓w136_176, ↓w136_177, ↓w136_178, ↓w136_181, ↓w136_184, ↓w136_185, ↓w136_188, ↓w136_191, ↓w136_194, ↓w136_195, ↓w136_196, ↓w136_199, ↓w136_200, ↓w136_203, ↓w136_206, ↓w136_209, ↓w136_210, ↓w136_211, ↓w136_212, ↓w136_213, ↓w136_214, ↓w136_217, ↓w136_218, ↓w136_219, ↓w136_220, ↓w136_221, ↓w136_224, ↓s_g0 hg, ↓s_g1 hg, ↓s_g2 hg, ↓s_g3 hg, ↓s_g4 hg, ↓s_g5 hg, ↓s_g6 hg, ↓s_g7 hg, ↓s_g8 hg, ↓s_g9 hg, ↓s_g10 hg, ↓s_g11 hg, ↓s_g12 hg, ↓s_g13 hg, ↓s_g14 hg, ↓s_g15 hg, ↓s_g16 hg, ↓s_g17 hg, ↓s_g18 hg, ↓s_g19 hg, ↓s_g20 hg, ↓s_p0 hg, ↓s_p1 hg, ↓s_p3 hg, s_r hg, ↓s_can_a hg hl, ↓s_can_s hg hl, ↓s_place_a hg hl, ↓s_place_s hg hl, ↓s_round_a hg hl, ↓s_round_s hg hl, ↓s_begun_a hg hl, ↓s_begun_s hg hl, ↓s_busy_a hg hl, ↓s_busy_s hg hl, ↓s_noted_a hg hl, ↓s_noted_s hg hl, ↓s_depth_a hg hl, ↓s_depth_s hg hl, ↓m0_g0, ↓m0_g1, ↓m0_g2, ↓m0_g3, ↓m0_g4, ↓m0_g5, ↓m0_g6, ↓m0_g7, ↓m0_g8, ↓m0_g9, ↓m0_g10, ↓m0_g11, ↓m0_g12, ↓m0_g13, ↓m0_g14, ↓m0_g15, ↓m0_p0, ↓m0_p2, ↓m0_p3, ↓m0_p8, ↓m0_p9, ↓m0_p12, m0_r, hP, ↓pl_g0 hp, ↓pl_g1 hp, ↓pl_g2 hp, ↓pl_g3 hp, ↓pl_g4 hp, ↓pl_g5 hp, ↓pl_g6 hp, ↓pl_g7 hp, ↓pl_g8 hp, ↓pl_g9 hp, ↓pl_g10 hp, ↓pl_g11 hp, ↓pl_g12 hp, ↓pl_g13 hp, ↓pl_g14 hp, ↓pl_g15 hp, ↓pl_g16 hp, ↓pl_g17 hp, ↓pl_g18 hp, ↓pl_g19 hp, ↓pl_g20 hp, ↓pl_g21 hp, pl_r hp, ↓pl_does_a hp ha4, hw, h12, ↓pl_value_a hp ha4, e1, hz, icond_lt, icond_le, icond_gt, icond_ge, icond_eq, icond_ne, narrow_bool, true_or, or_true, if_true, if_false, cK_inl, toL_some, toL_none, psum_nil, psum_int, psum_ref, psum_null, psum_long, Nat.zero_le, Nat.reduceAdd, Nat.reduceLeDiff, kl_int, kl_ref, kl_none, kl_null, kl_long, ne_eq, not_true, not_false_eq_true]
    · have hz0 : ¬ z < 0 := fun q => hz (Int32.le_of_lt q)
      have hzn := nnI hz0
      have hzp : z.toNatClampNeg ≠ 0 := fun q => hz (by rw [hzn, q]; decide)
      obtain ⟨t, hzt⟩ := Nat.exists_eq_succ_of_ne_zero hzp
      have ht2 := tN_lt (x := z)
      rw [hzt] at hzn ht2
      have e2 : ∀ (d : Nat) (Q : PO → Prop), _ := fun d Q => r130 (P := P) (c := c) (C := C) (W := W) (R := R) (d := d + 5) (Q := Q) (y := z) hg hl hp hP v1 (show o < 48 by omega) hoV
      refine ⟨enV P g l e o z V, townR_mono (townR_ent (t := t) ht hlN hrk hA v1 ho ho2 v4 hr hzn ht2) (by omega), sbt_enV sbt_refl, fun d Q => ?_⟩
      simp +decide only [ce136, ↓w136_0, ↓w136_1, ↓w136_4, ↓w136_7, ↓w136_10, ↓w136_11, ↓w136_12, ↓w136_14, ↓w136_17, ↓w136_18, ↓w136_21, ↓w136_23, ↓w136_24, ↓w136_25, ↓w136_26, ↓w136_29, ↓w136_30, ↓w136_31, ↓w136_33, ↓w136_34, ↓w136_35, ↓w136_36, ↓w136_37, ↓w136_38, ↓w136_41, ↓w136_44, ↓w136_47, ↓w136_48, ↓w136_49, ↓w136_52, ↓w136_53, ↓w136_54, ↓w136_57, ↓w136_58, ↓w136_59, ↓w136_60, ↓w136_61, ↓w136_62, ↓w136_63, ↓w136_66, ↓w136_67, ↓w136_70, ↓w136_73, ↓w136_76, ↓w136_77, ↓w136_78, ↓w136_80, ↓w136_83, ↓w136_84, ↓w136_85, ↓w136_86, ↓w136_89, ↓w136_92, ↓w136_95, ↓w136_96, ↓w136_99, ↓w136_102, ↓w136_105, ↓w136_106, ↓w136_107, ↓w136_108, ↓w136_109, ↓w136_112, ↓w136_115, ↓w136_116, ↓w136_119, ↓w136_122, ↓w136_125, ↓w136_126, ↓w136_127, ↓w136_129, ↓w136_132, ↓w136_133, ↓w136_134, ↓w136_135, ↓w136_138, ↓w136_141, ↓w136_144, ↓w136_145, ↓w136_146, ↓w136_149, ↓w136_150, ↓w136_151, ↓w136_154, ↓w136_155, ↓w136_156, ↓w136_157, ↓w136_160, ↓w136_163, ↓w136_166, ↓w136_167, ↓w136_168, ↓w136_169, ↓w136_172, ↓w136_175, ↓w136_176, ↓w136_177, ↓w136_178, ↓w136_181, ↓w136_184, ↓w136_185, ↓w136_188, ↓w136_191, ↓w136_194, ↓w136_195, ↓w136_196, ↓w136_199, ↓w136_200, ↓w136_203, ↓w136_206, ↓w136_209, ↓w136_210, ↓w136_211, ↓w136_212, ↓w136_213, ↓w136_214, ↓w136_217, ↓w136_218, ↓w136_219, ↓w136_220, ↓w136_221, ↓w136_224, ↓s_g0 hg, ↓s_g1 hg, ↓s_g2 hg, ↓s_g3 hg, ↓s_g4 hg, ↓s_g5 hg, ↓s_g6 hg, ↓s_g7 hg, ↓s_g8 hg, ↓s_g9 hg, ↓s_g10 hg, ↓s_g11 hg, ↓s_g12 hg, ↓s_g13 hg, ↓s_g14 hg, ↓s_g15 hg, ↓s_g16 hg, ↓s_g17 hg, ↓s_g18 hg, ↓s_g19 hg, ↓s_g20 hg, ↓s_p0 hg, ↓s_p1 hg, ↓s_p3 hg, s_r hg, ↓s_can_a hg hl, ↓s_can_s hg hl, ↓s_place_a hg hl, ↓s_place_s hg hl, ↓s_round_a hg hl, ↓s_round_s hg hl, ↓s_begun_a hg hl, ↓s_begun_s hg hl, ↓s_busy_a hg hl, ↓s_busy_s hg hl, ↓s_noted_a hg hl, ↓s_noted_s hg hl, ↓s_depth_a hg hl, ↓s_depth_s hg hl, ↓m0_g0, ↓m0_g1, ↓m0_g2, ↓m0_g3, ↓m0_g4, ↓m0_g5, ↓m0_g6, ↓m0_g7, ↓m0_g8, ↓m0_g9, ↓m0_g10, ↓m0_g11, ↓m0_g12, ↓m0_g13, ↓m0_g14, ↓m0_g15, ↓m0_p0, ↓m0_p2, ↓m0_p3, ↓m0_p8, ↓m0_p9, ↓m0_p12, m0_r, hP, ↓pl_g0 hp, ↓pl_g1 hp, ↓pl_g2 hp, ↓pl_g3 hp, ↓pl_g4 hp, ↓pl_g5 hp, ↓pl_g6 hp, ↓pl_g7 hp, ↓pl_g8 hp, ↓pl_g9 hp, ↓pl_g10 hp, ↓pl_g11 hp, ↓pl_g12 hp, ↓pl_g13 hp, ↓pl_g14 hp, ↓pl_g15 hp, ↓pl_g16 hp, ↓pl_g17 hp, ↓pl_g18 hp, ↓pl_g19 hp, ↓pl_g20 hp, ↓pl_g21 hp, pl_r hp, ↓pl_does_a hp ha4, hw, h12, ↓pl_value_a hp ha4, ↓pl_then_a hp ha4, v2, e1, e2, hz, icond_lt, icond_le, icond_gt, icond_ge, icond_eq, icond_ne, narrow_bool, true_or, or_true, if_true, if_false, cK_inl, toL_some, toL_none, psum_nil, psum_int, psum_ref, psum_null, psum_long, Nat.zero_le, Nat.reduceAdd, Nat.reduceLeDiff, kl_int, kl_ref, kl_none, kl_null, kl_long, ne_eq, not_true, not_false_eq_true]
  · -- if
    obtain ⟨e, v1, v2, v3, v4⟩ := actR_b hact hw (by decide) (by decide)
    obtain ⟨v5, i0, i1, w1, w2, w3, w4, w5, w6, w7⟩ := actR_i hact hw
    have hso : isS S g b l (Int32.ofNat a) = soV V P g M l (i1 - i0) i0 := by
      unfold isS
      rw [gt_nat (by omega) (by omega), gt_nat (by omega) (by omega), w5, w6, Int32.toInt_ofNat_of_lt (by omega), Int32.toInt_ofNat_of_lt (by omega), show ((i1 : Int) - (i0 : Int)).toNat = i1 - i0 by omega]
      exact soS_eq hb ht hlN w2 (i1 - i0) i0 (by omega) (fun j h1 h2 => ⟨(w7 j h1 h2).2.2.1, (w7 j h1 h2).2.2.2.1, (w7 j h1 h2).2.2.2.2⟩)
    have e1 : ∀ (d : Nat) (Q : PO → Prop), _ := fun d Q => r134 (c := c) (C := C) (W := W) (R := R) (d := d) (Q := Q) hg hl hp hP hM hM10 ha4 w3 w4 w1 w2 (fun j h1 h2 => ⟨(w7 j h1 h2).1, (w7 j h1 h2).2.1⟩)
    have h13 : Int32.ofNat 13 = 13 := rfl
    have hdo : doS g b l (Int32.ofNat a) S = entS g l (if soV V P g M l (i1 - i0) i0 = 0 then S (2 + b) 111 a else P 0 105 e) 1 S := by
      unfold doS
      rw [g7, if_neg (by decide), if_neg (by decide), if_neg (by decide), if_neg (by decide), if_pos (by decide), hso, gt_nat (by omega) (by omega), gt_nat (by omega) (by omega), v3]
    rw [hdo]
    generalize soV V P g M l (i1 - i0) i0 = z at e1
    have hne := ofN_ne (a := e) (by omega)
    by_cases hz : z = 0
    · rw [if_pos hz]
      rcases v5 with ⟨x1, x2⟩ | ⟨e', x1, x2, x3, x4⟩
      · refine ⟨V, ?_, sbt_refl, fun d Q => ?_⟩
        · unfold entS
          rw [if_pos x2]
          exact townR_mono ht (by omega)
        · simp +decide only [ce136, ↓w136_0, ↓w136_1, ↓w136_4, ↓w136_7, ↓w136_10, ↓w136_11, ↓w136_12, ↓w136_14, ↓w136_17, ↓w136_18, ↓w136_21, ↓w136_23, ↓w136_24, ↓w136_25, ↓w136_26, ↓w136_29, ↓w136_30, ↓w136_31, ↓w136_33, ↓w136_34, ↓w136_35, ↓w136_36, ↓w136_37, ↓w136_38, ↓w136_41, ↓w136_44, ↓w136_47, ↓w136_48, ↓w136_49, ↓w136_52, ↓w136_53, ↓w136_54, ↓w136_57, ↓w136_58, ↓w136_59, ↓w136_60, ↓w136_61, ↓w136_62, ↓w136_63, ↓w136_66, ↓w136_67, ↓w136_70, ↓w136_73, ↓w136_76, ↓w136_77, ↓w136_78, ↓w136_80, ↓w136_83, ↓w136_84, ↓w136_85, ↓w136_86, ↓w136_89, ↓w136_92, ↓w136_95, ↓w136_96, ↓w136_99, ↓w136_102, ↓w136_105, ↓w136_106, ↓w136_107, ↓w136_108, ↓w136_109, ↓w136_112, ↓w136_115, ↓w136_116, ↓w136_119, ↓w136_122, ↓w136_125, ↓w136_126, ↓w136_127, ↓w136_129, ↓w136_132, ↓w136_133, ↓w136_134, ↓w136_135, ↓w136_138, ↓w136_141, ↓w136_144, ↓w136_145, ↓w136_146, ↓w136_149, ↓w136_150, ↓w136_151, ↓w136_154, ↓w136_155, ↓w136_156, ↓w136_157, ↓w136_160, ↓w136_163, ↓w136_166, ↓w136_167, ↓w136_168, ↓w136_169, ↓w136_172, ↓w136_175, ↓w136_176, ↓w136_177, ↓w136_178, ↓w136_181, ↓w136_184, ↓w136_185, ↓w136_188, ↓w136_191, ↓w136_194, ↓w136_195, ↓w136_196, ↓w136_199, ↓w136_200, ↓w136_203, ↓w136_206, ↓w136_209, ↓w136_210, ↓w136_211, ↓w136_212, ↓w136_213, ↓w136_214, ↓w136_217, ↓w136_218, ↓w136_219, ↓w136_220, ↓w136_221, ↓w136_224, ↓s_g0 hg, ↓s_g1 hg, ↓s_g2 hg, ↓s_g3 hg, ↓s_g4 hg, ↓s_g5 hg, ↓s_g6 hg, ↓s_g7 hg, ↓s_g8 hg, ↓s_g9 hg, ↓s_g10 hg, ↓s_g11 hg, ↓s_g12 hg, ↓s_g13 hg, ↓s_g14 hg, ↓s_g15 hg, ↓s_g16 hg, ↓s_g17 hg, ↓s_g18 hg, ↓s_g19 hg, ↓s_g20 hg, ↓s_p0 hg, ↓s_p1 hg, ↓s_p3 hg, s_r hg, ↓s_can_a hg hl, ↓s_can_s hg hl, ↓s_place_a hg hl, ↓s_place_s hg hl, ↓s_round_a hg hl, ↓s_round_s hg hl, ↓s_begun_a hg hl, ↓s_begun_s hg hl, ↓s_busy_a hg hl, ↓s_busy_s hg hl, ↓s_noted_a hg hl, ↓s_noted_s hg hl, ↓s_depth_a hg hl, ↓s_depth_s hg hl, ↓m0_g0, ↓m0_g1, ↓m0_g2, ↓m0_g3, ↓m0_g4, ↓m0_g5, ↓m0_g6, ↓m0_g7, ↓m0_g8, ↓m0_g9, ↓m0_g10, ↓m0_g11, ↓m0_g12, ↓m0_g13, ↓m0_g14, ↓m0_g15, ↓m0_p0, ↓m0_p2, ↓m0_p3, ↓m0_p8, ↓m0_p9, ↓m0_p12, m0_r, hP, ↓pl_g0 hp, ↓pl_g1 hp, ↓pl_g2 hp, ↓pl_g3 hp, ↓pl_g4 hp, ↓pl_g5 hp, ↓pl_g6 hp, ↓pl_g7 hp, ↓pl_g8 hp, ↓pl_g9 hp, ↓pl_g10 hp, ↓pl_g11 hp, ↓pl_g12 hp, ↓pl_g13 hp, ↓pl_g14 hp, ↓pl_g15 hp, ↓pl_g16 hp, ↓pl_g17 hp, ↓pl_g18 hp, ↓pl_g19 hp, ↓pl_g20 hp, ↓pl_g21 hp, pl_r hp, ↓pl_does_a hp ha4, hw, h13, ↓pl_other_a hp ha4, x1, e1, hz, icond_lt, icond_le, icond_gt, icond_ge, icond_eq, icond_ne, narrow_bool, true_or, or_true, if_true, if_false, cK_inl, toL_some, toL_none, psum_nil, psum_int, psum_ref, psum_null, psum_long, Nat.zero_le, Nat.reduceAdd, Nat.reduceLeDiff, kl_int, kl_ref, kl_none, kl_null, kl_long, ne_eq, not_true, not_false_eq_true]
      · have hne' := ofN_ne (a := e') (by omega)
        have e2 : ∀ (d : Nat) (Q : PO → Prop), _ := fun d Q => r130 (P := P) (c := c) (C := C) (W := W) (R := R) (d := d + 5) (Q := Q) (y := 1) hg hl hp hP x1 (show o < 48 by omega) hoV
        rw [x3]
        refine ⟨enV P g l e' o 1 V, townR_mono (townR_ent (t := 0) ht hlN hrk hA x1 ho ho2 x4 hr rfl (by decide)) (by omega), sbt_enV sbt_refl, fun d Q => ?_⟩
        simp +decide only [ce136, ↓w136_0, ↓w136_1, ↓w136_4, ↓w136_7, ↓w136_10, ↓w136_11, ↓w136_12, ↓w136_14, ↓w136_17, ↓w136_18, ↓w136_21, ↓w136_23, ↓w136_24, ↓w136_25, ↓w136_26, ↓w136_29, ↓w136_30, ↓w136_31, ↓w136_33, ↓w136_34, ↓w136_35, ↓w136_36, ↓w136_37, ↓w136_38, ↓w136_41, ↓w136_44, ↓w136_47, ↓w136_48, ↓w136_49, ↓w136_52, ↓w136_53, ↓w136_54, ↓w136_57, ↓w136_58, ↓w136_59, ↓w136_60, ↓w136_61, ↓w136_62, ↓w136_63, ↓w136_66, ↓w136_67, ↓w136_70, ↓w136_73, ↓w136_76, ↓w136_77, ↓w136_78, ↓w136_80, ↓w136_83, ↓w136_84, ↓w136_85, ↓w136_86, ↓w136_89, ↓w136_92, ↓w136_95, ↓w136_96, ↓w136_99, ↓w136_102, ↓w136_105, ↓w136_106, ↓w136_107, ↓w136_108, ↓w136_109, ↓w136_112, ↓w136_115, ↓w136_116, ↓w136_119, ↓w136_122, ↓w136_125, ↓w136_126, ↓w136_127, ↓w136_129, ↓w136_132, ↓w136_133, ↓w136_134, ↓w136_135, ↓w136_138, ↓w136_141, ↓w136_144, ↓w136_145, ↓w136_146, ↓w136_149, ↓w136_150, ↓w136_151, ↓w136_154, ↓w136_155, ↓w136_156, ↓w136_157, ↓w136_160, ↓w136_163, ↓w136_166, ↓w136_167, ↓w136_168, ↓w136_169, ↓w136_172, ↓w136_175, ↓w136_176, ↓w136_177, ↓w136_178, ↓w136_181, ↓w136_184, ↓w136_185, ↓w136_188, ↓w136_191, ↓w136_194, ↓w136_195, ↓w136_196, ↓w136_199, ↓w136_200, ↓w136_203, ↓w136_206, ↓w136_209, ↓w136_210, ↓w136_211, ↓w136_212, ↓w136_213, ↓w136_214, ↓w136_217, ↓w136_218, ↓w136_219, ↓w136_220, ↓w136_221, ↓w136_224, ↓s_g0 hg, ↓s_g1 hg, ↓s_g2 hg, ↓s_g3 hg, ↓s_g4 hg, ↓s_g5 hg, ↓s_g6 hg, ↓s_g7 hg, ↓s_g8 hg, ↓s_g9 hg, ↓s_g10 hg, ↓s_g11 hg, ↓s_g12 hg, ↓s_g13 hg, ↓s_g14 hg, ↓s_g15 hg, ↓s_g16 hg, ↓s_g17 hg, ↓s_g18 hg, ↓s_g19 hg, ↓s_g20 hg, ↓s_p0 hg, ↓s_p1 hg, ↓s_p3 hg, s_r hg, ↓s_can_a hg hl, ↓s_can_s hg hl, ↓s_place_a hg hl, ↓s_place_s hg hl, ↓s_round_a hg hl, ↓s_round_s hg hl, ↓s_begun_a hg hl, ↓s_begun_s hg hl, ↓s_busy_a hg hl, ↓s_busy_s hg hl, ↓s_noted_a hg hl, ↓s_noted_s hg hl, ↓s_depth_a hg hl, ↓s_depth_s hg hl, ↓m0_g0, ↓m0_g1, ↓m0_g2, ↓m0_g3, ↓m0_g4, ↓m0_g5, ↓m0_g6, ↓m0_g7, ↓m0_g8, ↓m0_g9, ↓m0_g10, ↓m0_g11, ↓m0_g12, ↓m0_g13, ↓m0_g14, ↓m0_g15, ↓m0_p0, ↓m0_p2, ↓m0_p3, ↓m0_p8, ↓m0_p9, ↓m0_p12, m0_r, hP, ↓pl_g0 hp, ↓pl_g1 hp, ↓pl_g2 hp, ↓pl_g3 hp, ↓pl_g4 hp, ↓pl_g5 hp, ↓pl_g6 hp, ↓pl_g7 hp, ↓pl_g8 hp, ↓pl_g9 hp, ↓pl_g10 hp, ↓pl_g11 hp, ↓pl_g12 hp, ↓pl_g13 hp, ↓pl_g14 hp, ↓pl_g15 hp, ↓pl_g16 hp, ↓pl_g17 hp, ↓pl_g18 hp, ↓pl_g19 hp, ↓pl_g20 hp, ↓pl_g21 hp, pl_r hp, ↓pl_does_a hp ha4, hw, h13, ↓pl_other_a hp ha4, x2, e1, e2, hne', hz, icond_lt, icond_le, icond_gt, icond_ge, icond_eq, icond_ne, narrow_bool, true_or, or_true, if_true, if_false, cK_inl, toL_some, toL_none, psum_nil, psum_int, psum_ref, psum_null, psum_long, Nat.zero_le, Nat.reduceAdd, Nat.reduceLeDiff, kl_int, kl_ref, kl_none, kl_null, kl_long, ne_eq, not_true, not_false_eq_true]
    · rw [if_neg hz]
      have e2 : ∀ (d : Nat) (Q : PO → Prop), _ := fun d Q => r130 (P := P) (c := c) (C := C) (W := W) (R := R) (d := d + 5) (Q := Q) (y := 1) hg hl hp hP v1 (show o < 48 by omega) hoV
      refine ⟨enV P g l e o 1 V, townR_mono (townR_ent (t := 0) ht hlN hrk hA v1 ho ho2 v4 hr rfl (by decide)) (by omega), sbt_enV sbt_refl, fun d Q => ?_⟩
      simp +decide only [ce136, ↓w136_0, ↓w136_1, ↓w136_4, ↓w136_7, ↓w136_10, ↓w136_11, ↓w136_12, ↓w136_14, ↓w136_17, ↓w136_18, ↓w136_21, ↓w136_23, ↓w136_24, ↓w136_25, ↓w136_26, ↓w136_29, ↓w136_30, ↓w136_31, ↓w136_33, ↓w136_34, ↓w136_35, ↓w136_36, ↓w136_37, ↓w136_38, ↓w136_41, ↓w136_44, ↓w136_47, ↓w136_48, ↓w136_49, ↓w136_52, ↓w136_53, ↓w136_54, ↓w136_57, ↓w136_58, ↓w136_59, ↓w136_60, ↓w136_61, ↓w136_62, ↓w136_63, ↓w136_66, ↓w136_67, ↓w136_70, ↓w136_73, ↓w136_76, ↓w136_77, ↓w136_78, ↓w136_80, ↓w136_83, ↓w136_84, ↓w136_85, ↓w136_86, ↓w136_89, ↓w136_92, ↓w136_95, ↓w136_96, ↓w136_99, ↓w136_102, ↓w136_105, ↓w136_106, ↓w136_107, ↓w136_108, ↓w136_109, ↓w136_112, ↓w136_115, ↓w136_116, ↓w136_119, ↓w136_122, ↓w136_125, ↓w136_126, ↓w136_127, ↓w136_129, ↓w136_132, ↓w136_133, ↓w136_134, ↓w136_135, ↓w136_138, ↓w136_141, ↓w136_144, ↓w136_145, ↓w136_146, ↓w136_149, ↓w136_150, ↓w136_151, ↓w136_154, ↓w136_155, ↓w136_156, ↓w136_157, ↓w136_160, ↓w136_163, ↓w136_166, ↓w136_167, ↓w136_168, ↓w136_169, ↓w136_172, ↓w136_175, ↓w136_176, ↓w136_177, ↓w136_178, ↓w136_181, ↓w136_184, ↓w136_185, ↓w136_188, ↓w136_191, ↓w136_194, ↓w136_195, ↓w136_196, ↓w136_199, ↓w136_200, ↓w136_203, ↓w136_206, ↓w136_209, ↓w136_210, ↓w136_211, ↓w136_212, ↓w136_213, ↓w136_214, ↓w136_217, ↓w136_218, ↓w136_219, ↓w136_220, ↓w136_221, ↓w136_224, ↓s_g0 hg, ↓s_g1 hg, ↓s_g2 hg, ↓s_g3 hg, ↓s_g4 hg, ↓s_g5 hg, ↓s_g6 hg, ↓s_g7 hg, ↓s_g8 hg, ↓s_g9 hg, ↓s_g10 hg, ↓s_g11 hg, ↓s_g12 hg, ↓s_g13 hg, ↓s_g14 hg, ↓s_g15 hg, ↓s_g16 hg, ↓s_g17 hg, ↓s_g18 hg, ↓s_g19 hg, ↓s_g20 hg, ↓s_p0 hg, ↓s_p1 hg, ↓s_p3 hg, s_r hg, ↓s_can_a hg hl, ↓s_can_s hg hl, ↓s_place_a hg hl, ↓s_place_s hg hl, ↓s_round_a hg hl, ↓s_round_s hg hl, ↓s_begun_a hg hl, ↓s_begun_s hg hl, ↓s_busy_a hg hl, ↓s_busy_s hg hl, ↓s_noted_a hg hl, ↓s_noted_s hg hl, ↓s_depth_a hg hl, ↓s_depth_s hg hl, ↓m0_g0, ↓m0_g1, ↓m0_g2, ↓m0_g3, ↓m0_g4, ↓m0_g5, ↓m0_g6, ↓m0_g7, ↓m0_g8, ↓m0_g9, ↓m0_g10, ↓m0_g11, ↓m0_g12, ↓m0_g13, ↓m0_g14, ↓m0_g15, ↓m0_p0, ↓m0_p2, ↓m0_p3, ↓m0_p8, ↓m0_p9, ↓m0_p12, m0_r, hP, ↓pl_g0 hp, ↓pl_g1 hp, ↓pl_g2 hp, ↓pl_g3 hp, ↓pl_g4 hp, ↓pl_g5 hp, ↓pl_g6 hp, ↓pl_g7 hp, ↓pl_g8 hp, ↓pl_g9 hp, ↓pl_g10 hp, ↓pl_g11 hp, ↓pl_g12 hp, ↓pl_g13 hp, ↓pl_g14 hp, ↓pl_g15 hp, ↓pl_g16 hp, ↓pl_g17 hp, ↓pl_g18 hp, ↓pl_g19 hp, ↓pl_g20 hp, ↓pl_g21 hp, pl_r hp, ↓pl_does_a hp ha4, hw, h13, ↓pl_then_a hp ha4, v2, e1, e2, hne, hz, icond_lt, icond_le, icond_gt, icond_ge, icond_eq, icond_ne, narrow_bool, true_or, or_true, if_true, if_false, cK_inl, toL_some, toL_none, psum_nil, psum_int, psum_ref, psum_null, psum_long, Nat.zero_le, Nat.reduceAdd, Nat.reduceLeDiff, kl_int, kl_ref, kl_none, kl_null, kl_long, ne_eq, not_true, not_false_eq_true]
end SIMC
