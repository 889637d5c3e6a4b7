/-! CLASS AND REFERENCE: a town becomes another -/
section CPYA
variable {c : Nat × Nat × Nat} {C : Nat → Option PC} {W : L3} {R : Nat → Option PC} {S V P : S3} {g b pl M N A NR β : Nat} {x y : Int32} {rk : Nat → Nat} {nt : Prop}
theorem cpP_mk {n0 n1 a b : Nat} {f f' : Nat → Int32} {sp dp n : Int32} {K : PC → Prop} (ha : 300 ≤ a) (hb : 300 ≤ b) (h1 : ¬ sp < 0) (h2 : ¬ dp < 0) (h3 : ¬ n < 0) (h4 : sp.toNatClampNeg + n.toNatClampNeg ≤ n0) (h5 : dp.toNatClampNeg + n.toNatClampNeg ≤ n1) :
    cpP (some (.inl (0, n0, .inl f))) (some (.inl (0, n1, .inl f'))) b a sp dp n K = K (.inl (0, n1, .inl (va_cpy f f' sp.toNatClampNeg dp.toNatClampNeg n.toNatClampNeg))) := if_pos ⟨ha, hb, h1, h2, h3, h4, h5⟩
/-- copying a whole row -/
theorem r121 {h : PH} {a a1 a2 n d : Nat} {f f' : Nat → Int32} {Q : PO → Prop} (h1 : h.2 a1 = some (.inl (0, n, .inl f))) (h2 : h.2 a2 = some (.inl (0, n, .inl f'))) (hn : n < 2 ^ 31) (g1 : 300 ≤ a1) (g2 : 300 ≤ a2) : Cp (d + 1) 121 [.ref a, .ref a1, .ref a2] h Q = Q (.inl none, hset h a2 (.inl (0, n, .inl (va_cpy f f' 0 0 n)))) := by
  have e : cpP (some (.inl (0, n, .inl f))) (some (.inl (0, n, .inl f'))) a1 a2 (0 : Int32) (0 : Int32) (Int32.ofNat n) = fun K => K (.inl (0, n, .inl (va_cpy f f' 0 0 n))) := by
    funext K
    rw [cpP_mk g2 g1 (by decide) (by decide) (ofN_nn hn) (by rw [tN_nat hn]; exact Nat.le_of_eq (Nat.zero_add n)) (by rw [tN_nat hn]; exact Nat.le_of_eq (Nat.zero_add n)), tN_nat hn]
    rfl
  simp only [ce121, ↓w121_0, ↓w121_1, ↓w121_2, ↓w121_3, ↓w121_4, ↓w121_5, ↓w121_6, ↓w121_9, h1, h2, nP_mk, e, icond_lt, icond_le, icond_gt, icond_ge, icond_eq, icond_ne, narrow_bool, true_or, or_true, if_true, if_false, cK_inl, toL_some, toL_none, psum_nil, psum_int, psum_ref, psum_null, psum_long, Nat.zero_le, Nat.reduceAdd, Nat.reduceLeDiff, kl_int, kl_ref, kl_none, kl_null, kl_long]
def cpV (v n : Nat) (V : S3) : S3 := sr V 1 v (va_cpy (V 0 v) (V 1 v) 0 0 n)
theorem cpV_at {v n g v' i : Nat} : cpV v n V g v' i = if g = 1 ∧ v' = v ∧ i < n then V 0 v i else V g v' i := by
  unfold cpV
  rw [sr_at]
  by_cases h : g = 1 ∧ v' = v
  · obtain ⟨rfl, rfl⟩ := h
    rw [if_pos ⟨rfl, rfl⟩, va_cpy]
    by_cases hi : i < n
    · rw [if_pos ⟨by omega, by omega⟩, if_pos ⟨rfl, rfl, hi⟩, Nat.zero_add, Nat.sub_zero]
    · rw [if_neg (by omega), if_neg (fun q => hi q.2.2)]
  · rw [if_neg h, if_neg (fun q => h ⟨q.1, q.2.1⟩)]
theorem sb_cp {v n : Nat} {V' : S3} (h : sameBut (pA 1) V V') : sameBut (pA 1) V (cpV v n V') := fun g v' hg => by
  rw [← h g v' hg]
  funext i
  rw [cpV_at, if_neg (fun q => hg q.1)]
/-- lamps lit, one by one -/
def bz (x : Int32) : Int32 := vp_nar (tyOf 3) x
theorem bz_01 {x : Int32} (h : x = 0 ∨ x = 1) : bz x = x := by
  rcases h with rfl | rfl <;> rfl
theorem lit_sz {i : Nat} (hi : i < 10) {d j pc : Nat} {ls : PL} {st : List Value} {Q : PO → Prop} : asP true ((RP c C V W pl P R).2 (SA 1 + 5)) (SA 1 + 5) (Int32.ofNat i) x (fun q => Wp d j pc ls st (hset (RP c C V W pl P R) (SA 1 + 5) q) Q) = Wp d j pc ls st (RP c C (su V 1 9 i (bz x)) W pl P R) Q := by
  rw [s_lit_at (by decide), show ∀ K : PC → Prop, asP true (some (.inl (3, 10, .inl (V 1 9)))) (SA 1 + 5) (Int32.ofNat i) x K = K (.inl (3, 10, .inl (upd (V 1 9) (Int32.ofNat i).toNatClampNeg (bz x)))) from fun K => if_pos ⟨by unfold SA; omega, rfl, inB_nat hi (by omega)⟩, tN_nat (by omega), s_lit_wr (by decide)]
def clL : Nat → Nat → S3 → S3
  | 0, _, V => V
  | k + 1, i, V => clL k (i + 1) (su V 1 9 i (bz (V 0 9 i)))
theorem clL_at : ∀ (k i : Nat) (V : S3) (g v j : Nat), clL k i V g v j = if g = 1 ∧ v = 9 ∧ i ≤ j ∧ j < i + k then bz (V 0 9 j) else V g v j := by
  intro k
  induction k with
  | zero => intro i V g v j; rw [clL, if_neg (by omega)]
  | succ k ih =>
    intro i V g v j
    rw [clL, ih, su_gne (by decide), su_at]
    by_cases h1 : g = 1 ∧ v = 9 ∧ i + 1 ≤ j ∧ j < i + 1 + k
    · rw [if_pos h1, if_pos ⟨h1.1, h1.2.1, by omega, by omega⟩]
    · rw [if_neg h1]
      by_cases h2 : g = 1 ∧ v = 9 ∧ j = i
      · rw [if_pos h2, if_pos ⟨h2.1, h2.2.1, by omega, by omega⟩, h2.2.2]
      · rw [if_neg h2, if_neg (by omega)]
def bc1 (V : S3) : S3 := cpV 8 10 (cpV 7 10 (cpV 6 10 (cpV 5 10 (su (su (su (su V 1 0 0 (V 0 0 0)) 1 1 0 (V 0 1 0)) 1 3 0 (V 0 3 0)) 1 2 0 (V 0 2 0)))))
def bc2 (V : S3) : S3 := cpV 50 144 (cpV 40 144 (cpV 30 144 (cpV 18 3 (cpV 20 60 (cpV 17 3 (cpV 16 3 (cpV 15 3 (cpV 14 3 (cpV 13 3 (cpV 12 3 V))))))))))
theorem cp_row {v n d : Nat} {h : PH} {a a1 a2 : Nat} {Q : PO → Prop} (h1 : h.2 a1 = some (.inl (0, n, .inl (V 0 v)))) (h2 : h.2 a2 = some (.inl (0, n, .inl (V 1 v)))) (hn : n < 2 ^ 31) (g1 : 300 ≤ a1) (g2 : 300 ≤ a2) (hs : ∀ f, hset h a2 (.inl (0, n, .inl f)) = RP c C (sr V 1 v f) W pl P R) : Cp (d + 1) 121 [.ref a, .ref a1, .ref a2] h Q = Q (.inl none, RP c C (cpV v n V) W pl P R) := by
  rw [r121 h1 h2 hn g1 g2, hs]
  rfl
theorem SA_300 {k : Nat} : 300 ≤ SA g + k := by unfold SA; omega
section ROWSC
variable {d a : Nat} {Q : PO → Prop}
theorem cpr_oil : Cp (d + 1) 121 [.ref a, .ref (SA 0 + 1), .ref (SA 1 + 1)] (RP c C V W pl P R) Q = Q (.inl none, RP c C (cpV 5 10 V) W pl P R) := cp_row (s_oil_at (by decide)) (s_oil_at (by decide)) (by decide) SA_300 SA_300 (fun f => s_oil_wf (by decide))
theorem cpr_wick : Cp (d + 1) 121 [.ref a, .ref (SA 0 + 2), .ref (SA 1 + 2)] (RP c C V W pl P R) Q = Q (.inl none, RP c C (cpV 6 10 V) W pl P R) := cp_row (s_wick_at (by decide)) (s_wick_at (by decide)) (by decide) SA_300 SA_300 (fun f => s_wick_wf (by decide))
theorem cpr_clock : Cp (d + 1) 121 [.ref a, .ref (SA 0 + 3), .ref (SA 1 + 3)] (RP c C V W pl P R) Q = Q (.inl none, RP c C (cpV 7 10 V) W pl P R) := cp_row (s_clock_at (by decide)) (s_clock_at (by decide)) (by decide) SA_300 SA_300 (fun f => s_clock_wf (by decide))
theorem cpr_dark : Cp (d + 1) 121 [.ref a, .ref (SA 0 + 4), .ref (SA 1 + 4)] (RP c C V W pl P R) Q = Q (.inl none, RP c C (cpV 8 10 V) W pl P R) := cp_row (s_dark_at (by decide)) (s_dark_at (by decide)) (by decide) SA_300 SA_300 (fun f => s_dark_wf (by decide))
theorem cpr_can : Cp (d + 1) 121 [.ref a, .ref (SA 0 + 6), .ref (SA 1 + 6)] (RP c C V W pl P R) Q = Q (.inl none, RP c C (cpV 12 3 V) W pl P R) := cp_row (s_can_at (by decide)) (s_can_at (by decide)) (by decide) SA_300 SA_300 (fun f => s_can_wf (by decide))
theorem cpr_place : Cp (d + 1) 121 [.ref a, .ref (SA 0 + 7), .ref (SA 1 + 7)] (RP c C V W pl P R) Q = Q (.inl none, RP c C (cpV 13 3 V) W pl P R) := cp_row (s_place_at (by decide)) (s_place_at (by decide)) (by decide) SA_300 SA_300 (fun f => s_place_wf (by decide))
theorem cpr_round : Cp (d + 1) 121 [.ref a, .ref (SA 0 + 8), .ref (SA 1 + 8)] (RP c C V W pl P R) Q = Q (.inl none, RP c C (cpV 14 3 V) W pl P R) := cp_row (s_round_at (by decide)) (s_round_at (by decide)) (by decide) SA_300 SA_300 (fun f => s_round_wf (by decide))
theorem cpr_begun : Cp (d + 1) 121 [.ref a, .ref (SA 0 + 9), .ref (SA 1 + 9)] (RP c C V W pl P R) Q = Q (.inl none, RP c C (cpV 15 3 V) W pl P R) := cp_row (s_begun_at (by decide)) (s_begun_at (by decide)) (by decide) SA_300 SA_300 (fun f => s_begun_wf (by decide))
theorem cpr_busy : Cp (d + 1) 121 [.ref a, .ref (SA 0 + 10), .ref (SA 1 + 10)] (RP c C V W pl P R) Q = Q (.inl none, RP c C (cpV 16 3 V) W pl P R) := cp_row (s_busy_at (by decide)) (s_busy_at (by decide)) (by decide) SA_300 SA_300 (fun f => s_busy_wf (by decide))
theorem cpr_noted : Cp (d + 1) 121 [.ref a, .ref (SA 0 + 11), .ref (SA 1 + 11)] (RP c C V W pl P R) Q = Q (.inl none, RP c C (cpV 17 3 V) W pl P R) := cp_row (s_noted_at (by decide)) (s_noted_at (by decide)) (by decide) SA_300 SA_300 (fun f => s_noted_wf (by decide))
theorem cpr_note : Cp (d + 1) 121 [.ref a, .ref (SA 0 + 12), .ref (SA 1 + 12)] (RP c C V W pl P R) Q = Q (.inl none, RP c C (cpV 20 60 V) W pl P R) := cp_row (s_note_at (by decide)) (s_note_at (by decide)) (by decide) SA_300 SA_300 (fun f => s_note_wf (by decide))
theorem cpr_depth : Cp (d + 1) 121 [.ref a, .ref (SA 0 + 13), .ref (SA 1 + 13)] (RP c C V W pl P R) Q = Q (.inl none, RP c C (cpV 18 3 V) W pl P R) := cp_row (s_depth_at (by decide)) (s_depth_at (by decide)) (by decide) SA_300 SA_300 (fun f => s_depth_wf (by decide))
theorem cpr_ent : Cp (d + 1) 121 [.ref a, .ref (SA 0 + 14), .ref (SA 1 + 14)] (RP c C V W pl P R) Q = Q (.inl none, RP c C (cpV 30 144 V) W pl P R) := cp_row (s_ent_at (by decide)) (s_ent_at (by decide)) (by decide) SA_300 SA_300 (fun f => s_ent_wf (by decide))
theorem cpr_comes : Cp (d + 1) 121 [.ref a, .ref (SA 0 + 15), .ref (SA 1 + 15)] (RP c C V W pl P R) Q = Q (.inl none, RP c C (cpV 40 144 V) W pl P R) := cp_row (s_comes_at (by decide)) (s_comes_at (by decide)) (by decide) SA_300 SA_300 (fun f => s_comes_wf (by decide))
theorem cpr_times : Cp (d + 1) 121 [.ref a, .ref (SA 0 + 16), .ref (SA 1 + 16)] (RP c C V W pl P R) Q = Q (.inl none, RP c C (cpV 50 144 V) W pl P R) := cp_row (s_times_at (by decide)) (s_times_at (by decide)) (by decide) SA_300 SA_300 (fun f => s_times_wf (by decide))
end ROWSC
theorem r122_lit : ∀ (k i : Nat) (V' : S3), i + k = 10 → V' 0 9 = V 0 9 → ∀ (d : Nat) (Q : PO → Prop), Wp (d + 1) 122 82 [some (.ref (SA 1)), some (.ref (SA 0)), some (.int (Int32.ofNat i))] [] (RP c C V' W pl P R) Q = Wp (d + 1) 122 106 [some (.ref (SA 1)), some (.ref (SA 0)), some (.int 10)] [] (RP c C (clL k i V') W pl P R) Q := by
  have hg : 1 < 2 := by decide
  intro k
  induction k with
  | zero =>
    intro i V' hi he d Q
    have ei : i = 10 := by omega
    subst ei
    have e : (10 : Int32) ≤ Int32.ofNat 10 := by decide
    rw [w122_82]
    simp only [↓w122_83, ↓w122_85, e, clL, icond_lt, icond_le, icond_gt, icond_ge, icond_eq, icond_ne, narrow_bool, true_or, or_true, if_true, if_false, cK_inl, toL_some, toL_none, psum_nil, psum_int, psum_ref, psum_null, psum_long, Nat.zero_le, Nat.reduceAdd, Nat.reduceLeDiff, kl_int, kl_ref, kl_none, kl_null, kl_long]
    rfl
  | succ k ih =>
    intro i V' hi' he d Q
    have hi : i < 10 := by omega
    have e : ¬ (10 : Int32) ≤ Int32.ofNat i := fun q => absurd ((ofN_le (k := 10) (by omega) (by omega)).mp q) (by omega)
    rw [w122_82]
    simp only [↓w122_83, ↓w122_85, ↓w122_88, ↓w122_89, ↓w122_92, ↓w122_93, ↓w122_94, ↓w122_97, ↓w122_98, ↓w122_99, ↓w122_100, ↓w122_103, ↓s_g8 hg, ↓s_g8 (show 0 < 2 by decide), ↓s_lit_a (show 0 < 2 by decide) hi, ↓lit_sz hi, e, ofN_a1, icond_lt, icond_le, icond_gt, icond_ge, icond_eq, icond_ne, narrow_bool, true_or, or_true, if_true, if_false, cK_inl, toL_some, toL_none, psum_nil, psum_int, psum_ref, psum_null, psum_long, Nat.zero_le, Nat.reduceAdd, Nat.reduceLeDiff, kl_int, kl_ref, kl_none, kl_null, kl_long, clL]
    exact ih (i + 1) _ (by omega) (by rw [su_gne (by decide)]; exact he) d Q
/-- what becoming does -/
def copyV (M : Nat) (V V' : S3) : Prop := (∀ v, v < 4 → V' 1 v 0 = V 0 v 0) ∧ (∀ v i, 5 ≤ v → v < 10 → i < M → V' 1 v i = V 0 v i) ∧ (∀ v i, 12 ≤ v → v < 19 → i < 3 → V' 1 v i = V 0 v i) ∧ (∀ v i, (v = 30 ∨ v = 40 ∨ v = 50) → i < 144 → V' 1 v i = V 0 v i) ∧ sameBut (pA 1) V V'
theorem r122 (hM10 : M ≤ 10) (h01 : ∀ i, i < M → V 0 9 i = 0 ∨ V 0 9 i = 1) (h3 : V 0 3 0 = 0 ∨ V 0 3 0 = 1) : ∃ V', copyV M V V' ∧ ∀ (d : Nat) (Q : PO → Prop), Cp (d + 2) 122 [.ref (SA 1), .ref (SA 0)] (RP c C V W pl P R) Q = Q (.inl (some (.ref (SA 1))), RP c C V' W pl P R) := by
  have hg : 1 < 2 := by decide
  have h0 : 0 < 2 := by decide
  refine ⟨bc2 (clL 10 0 (bc1 V)), ⟨fun v hv => ?_, fun v i h1 h2 h3 => ?_, fun v i h1 h2 h3 => ?_, fun v i h1 h2 => ?_, ?_⟩, fun d Q => ?_⟩
  · unfold bc2 bc1
    simp only [cpV_at, clL_at, su_at]
    rcases (show v = 0 ∨ v = 1 ∨ v = 2 ∨ v = 3 by omega) with rfl | rfl | rfl | rfl <;> simp +decide
  · unfold bc2 bc1
    simp only [cpV_at, clL_at, su_at]
    have h4 : i < 10 := by omega
    rcases (show v = 5 ∨ v = 6 ∨ v = 7 ∨ v = 8 ∨ v = 9 by omega) with rfl | rfl | rfl | rfl | rfl <;> simp +decide [h4, bz_01 (h01 i h3)]
  · unfold bc2 bc1
    simp only [cpV_at, clL_at, su_at]
    rcases (show v = 12 ∨ v = 13 ∨ v = 14 ∨ v = 15 ∨ v = 16 ∨ v = 17 ∨ v = 18 by omega) with rfl | rfl | rfl | rfl | rfl | rfl | rfl <;> simp +decide [h3]
  · unfold bc2 bc1
    simp only [cpV_at, clL_at, su_at]
    rcases h1 with rfl | rfl | rfl <;> simp +decide [h2]
  · unfold bc2
    refine sb_cp (sb_cp (sb_cp (sb_cp (sb_cp (sb_cp (sb_cp (sb_cp (sb_cp (sb_cp (sb_cp (fun g v hg => ?_)))))))))))
    funext i
    rw [clL_at, if_neg (fun q => hg q.1)]
    unfold bc1
    have := sb_cp (v := 8) (n := 10) (sb_cp (v := 7) (n := 10) (sb_cp (v := 6) (n := 10) (sb_cp (v := 5) (n := 10) (sbt_su (v := 2) (i := 0) (x := V 0 2 0) (sbt_su (v := 3) (i := 0) (x := V 0 3 0) (sbt_su (v := 1) (i := 0) (x := V 0 1 0) (sbt_su (v := 0) (i := 0) (x := V 0 0 0) (sbt_refl (p := pA 1) (S := V)) (show pA 1 1 0 from rfl)) (show pA 1 1 1 from rfl)) (show pA 1 1 3 from rfl)) (show pA 1 1 2 from rfl)))))
    rw [this g v hg]
  · have e1 : bc1 V 0 9 = V 0 9 := by
      unfold bc1
      funext j
      simp only [cpV_at, su_at]
      simp +decide
    have lit := r122_lit (c := c) (C := C) (W := W) (pl := pl) (P := P) (R := R) (V := V) 10 0 (bc1 V) rfl e1 d Q
    unfold bc1 at lit
    simp only [ce122, ↓w122_0, ↓w122_1, ↓w122_2, ↓w122_5, ↓w122_8, ↓w122_9, ↓w122_10, ↓w122_13, ↓w122_16, ↓w122_17, ↓w122_18, ↓w122_21, ↓w122_24, ↓w122_25, ↓w122_26, ↓w122_29, ↓w122_32, ↓w122_33, ↓w122_34, ↓w122_37, ↓w122_38, ↓w122_41, ↓w122_44, ↓w122_45, ↓w122_46, ↓w122_49, ↓w122_50, ↓w122_53, ↓w122_56, ↓w122_57, ↓w122_58, ↓w122_61, ↓w122_62, ↓w122_65, ↓w122_68, ↓w122_69, ↓w122_70, ↓w122_73, ↓w122_74, ↓w122_77, ↓w122_80, ↓w122_81, ↓w122_83, ↓w122_85, ↓w122_88, ↓w122_89, ↓w122_92, ↓w122_93, ↓w122_94, ↓w122_97, ↓w122_98, ↓w122_99, ↓w122_100, ↓w122_103, ↓w122_106, ↓w122_107, ↓w122_108, ↓w122_111, ↓w122_112, ↓w122_115, ↓w122_118, ↓w122_119, ↓w122_120, ↓w122_123, ↓w122_124, ↓w122_127, ↓w122_130, ↓w122_131, ↓w122_132, ↓w122_135, ↓w122_136, ↓w122_139, ↓w122_142, ↓w122_143, ↓w122_144, ↓w122_147, ↓w122_148, ↓w122_151, ↓w122_154, ↓w122_155, ↓w122_156, ↓w122_159, ↓w122_160, ↓w122_163, ↓w122_166, ↓w122_167, ↓w122_168, ↓w122_171, ↓w122_172, ↓w122_175, ↓w122_178, ↓w122_179, ↓w122_180, ↓w122_183, ↓w122_184, ↓w122_187, ↓w122_190, ↓w122_191, ↓w122_192, ↓w122_195, ↓w122_196, ↓w122_199, ↓w122_202, ↓w122_203, ↓w122_204, ↓w122_207, ↓w122_208, ↓w122_211, ↓w122_214, ↓w122_215, ↓w122_216, ↓w122_219, ↓w122_220, ↓w122_223, ↓w122_226, ↓w122_227, ↓w122_228, ↓w122_231, ↓w122_232, ↓w122_235, ↓w122_238, ↓w122_239, ↓s_g0 h0, ↓s_g1 h0, ↓s_g2 h0, ↓s_g3 h0, ↓s_p0 hg, ↓s_p1 hg, ↓s_p2 hg, h3, ↓s_p3 hg, cK_inl, toL_some, toL_none, psum_nil, psum_int, psum_ref, psum_null, psum_long, Nat.zero_le, Nat.reduceAdd, Nat.reduceLeDiff, kl_int, kl_ref, kl_none, kl_null, kl_long, su_at, sr_at, Nat.reduceEqDiff, Nat.add_eq_left, Nat.add_right_cancel_iff, and_false, false_and, and_true, true_and, and_self, if_true, if_false, ↓reduceIte, s_r hg, ↓s_g4 h0, ↓s_g4 hg, ↓s_g5 h0, ↓s_g5 hg, ↓s_g6 h0, ↓s_g6 hg, ↓s_g7 h0, ↓s_g7 hg, cpr_oil, cpr_wick, cpr_clock, cpr_dark]
    refine lit.trans ?_
    unfold bc2 bc1
    simp only [↓w122_0, ↓w122_1, ↓w122_2, ↓w122_5, ↓w122_8, ↓w122_9, ↓w122_10, ↓w122_13, ↓w122_16, ↓w122_17, ↓w122_18, ↓w122_21, ↓w122_24, ↓w122_25, ↓w122_26, ↓w122_29, ↓w122_32, ↓w122_33, ↓w122_34, ↓w122_37, ↓w122_38, ↓w122_41, ↓w122_44, ↓w122_45, ↓w122_46, ↓w122_49, ↓w122_50, ↓w122_53, ↓w122_56, ↓w122_57, ↓w122_58, ↓w122_61, ↓w122_62, ↓w122_65, ↓w122_68, ↓w122_69, ↓w122_70, ↓w122_73, ↓w122_74, ↓w122_77, ↓w122_80, ↓w122_81, ↓w122_83, ↓w122_85, ↓w122_88, ↓w122_89, ↓w122_92, ↓w122_93, ↓w122_94, ↓w122_97, ↓w122_98, ↓w122_99, ↓w122_100, ↓w122_103, ↓w122_106, ↓w122_107, ↓w122_108, ↓w122_111, ↓w122_112, ↓w122_115, ↓w122_118, ↓w122_119, ↓w122_120, ↓w122_123, ↓w122_124, ↓w122_127, ↓w122_130, ↓w122_131, ↓w122_132, ↓w122_135, ↓w122_136, ↓w122_139, ↓w122_142, ↓w122_143, ↓w122_144, ↓w122_147, ↓w122_148, ↓w122_151, ↓w122_154, ↓w122_155, ↓w122_156, ↓w122_159, ↓w122_160, ↓w122_163, ↓w122_166, ↓w122_167, ↓w122_168, ↓w122_171, ↓w122_172, ↓w122_175, ↓w122_178, ↓w122_179, ↓w122_180, ↓w122_183, ↓w122_184, ↓w122_187, ↓w122_190, ↓w122_191, ↓w122_192, ↓w122_195, ↓w122_196, ↓w122_199, ↓w122_202, ↓w122_203, ↓w122_204, ↓w122_207, ↓w122_208, ↓w122_211, ↓w122_214, ↓w122_215, ↓w122_216, ↓w122_219, ↓w122_220, ↓w122_223, ↓w122_226, ↓w122_227, ↓w122_228, ↓w122_231, ↓w122_232, ↓w122_235, ↓w122_238, ↓w122_239, s_r hg, cK_inl, toL_some, toL_none, psum_nil, psum_int, psum_ref, psum_null, psum_long, Nat.zero_le, Nat.reduceAdd, Nat.reduceLeDiff, kl_int, kl_ref, kl_none, kl_null, kl_long, ↓s_g9 h0, ↓s_g9 hg, ↓s_g10 h0, ↓s_g10 hg, ↓s_g11 h0, ↓s_g11 hg, ↓s_g12 h0, ↓s_g12 hg, ↓s_g13 h0, ↓s_g13 hg, ↓s_g14 h0, ↓s_g14 hg, ↓s_g15 h0, ↓s_g15 hg, ↓s_g16 h0, ↓s_g16 hg, ↓s_g17 h0, ↓s_g17 hg, ↓s_g18 h0, ↓s_g18 hg, ↓s_g19 h0, ↓s_g19 hg, cpr_can, cpr_place, cpr_round, cpr_begun, cpr_busy, cpr_noted, cpr_note, cpr_depth, cpr_ent, cpr_comes, cpr_times]
end CPYA
