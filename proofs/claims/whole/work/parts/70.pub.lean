/-! THE REFERENCE'S OWN METHODS: the best round, lit lamps, notes, mean oil -/
section PUBD
variable {c : Nat × Nat × Nat} {C : Nat → Option PC} {S V P : S3} {W : L3} {R : Nat → Option PC} {g b pl M N A NR β : Nat} {x y : Int32} {rk : Nat → Nat} {nt : Prop}
theorem r225_a (h : ctx 0 b pl M A NR N β rk nt P S V) (hm : lmM N x = none) (d : Nat) (Q : PO → Prop) : Cp (d + 4) 225 [.ref 395, .int x, .int y] (RP c C V W pl P R) Q = Q (.inl (some (.int 0)), RP c C (su V 4 200 0 1) W pl P R) := by
  have hN3 := townR_N h.1
  have hN := h.1.2.2.2.2.2.2.2.2.1
  simp +decide only [ce225, ↓w225_0, ↓w225_1, ↓w225_2, ↓w225_5, ↓w225_6, ↓w225_7, ↓w225_10, ↓w225_13, ↓w225_14, ↓w225_15, ↓w225_18, ↓w225_19, ↓w225_20, ↓w225_21, ↓w225_23, ↓w225_26, ↓w225_29, ↓w225_30, ↓w225_31, ↓w225_34, ↓w225_35, ↓w225_36, ↓w225_39, ↓w225_42, ↓w225_45, ↓w225_46, ↓w225_47, ↓w225_50, ↓w225_51, ↓w225_52, ↓w225_53, ↓w225_54, ↓w225_56, ↓w225_57, ↓w225_61, ↓w225_62, ↓w225_65, ↓w225_68, ↓w225_71, ↓w225_72, ↓w225_75, ↓w225_76, ↓w225_79, ↓w225_82, ↓w225_82i, ↓w225_83, ↓w225_84, ↓w225_87, ↓w225_90, ↓w225_91, ↓w225_93, ↓w225_94, ↓w225_95, ↓w225_98, ↓w225_99, ↓w225_102, ↓w225_103, ↓w225_106, ↓w225_107, ↓w225_110, ↓w225_112, ↓w225_113, ↓w225_114, ↓w225_117, ↓w225_119, ↓w225_121, ↓w225_124, ↓w225_127, ↓w225_129, ↓w225_130, ↓w225_132, ↓w225_134, ↓w225_137, ↓w225_140, ↓w225_141, r150 (hNs hN) hN3, hm, r146, Option.isSome, ↓m0_g0, ↓m0_g1, ↓m0_g2, ↓m0_g3, ↓m0_g4, ↓m0_g5, ↓m0_g6, ↓m0_g7, ↓m0_g8, ↓m0_g9, ↓m0_g10, ↓m0_g11, ↓m0_g12, ↓m0_g13, ↓m0_g14, ↓m0_g15, ↓m0_p0, ↓m0_p2, ↓m0_p3, ↓m0_p8, ↓m0_p9, ↓m0_p12, m0_r, icond_lt, icond_le, icond_gt, icond_ge, icond_eq, icond_ne, narrow_bool, true_or, or_true, if_true, if_false, cK_inl, toL_some, toL_none, psum_nil, psum_int, psum_ref, psum_null, psum_long, Nat.zero_le, Nat.reduceAdd, Nat.reduceLeDiff, kl_int, kl_ref, kl_none, kl_null, kl_long, su_at, sr_at, Nat.reduceEqDiff, Nat.add_eq_left, Nat.add_right_cancel_iff, and_false, false_and, and_true, true_and, and_self, if_true, if_false, ↓reduceIte, su_su, ne_eq, not_true]
theorem r225_b (h : ctx 0 b pl M A NR N β rk nt P S V) {l : Nat} (hm : lmM N x = some l) (hy : y < 1 ∨ 40 < y) (d : Nat) (Q : PO → Prop) : Cp (d + 4) 225 [.ref 395, .int x, .int y] (RP c C V W pl P R) Q = Q (.inl (some (.int 0)), RP c C (su V 4 200 0 2) W pl P R) := by
  have hN3 := townR_N h.1
  have hN := h.1.2.2.2.2.2.2.2.2.1
  have hi : (if y < 1 then (0 : Int32) else if 40 < y then 0 else 1) = 0 := by
    by_cases h : y < 1
    · rw [if_pos h]
    · rw [if_neg h, if_pos (hy.resolve_left h)]
  simp +decide only [ce225, ↓w225_0, ↓w225_1, ↓w225_2, ↓w225_5, ↓w225_6, ↓w225_7, ↓w225_10, ↓w225_13, ↓w225_14, ↓w225_15, ↓w225_18, ↓w225_19, ↓w225_20, ↓w225_21, ↓w225_23, ↓w225_26, ↓w225_29, ↓w225_30, ↓w225_31, ↓w225_34, ↓w225_35, ↓w225_36, ↓w225_39, ↓w225_42, ↓w225_45, ↓w225_46, ↓w225_47, ↓w225_50, ↓w225_51, ↓w225_52, ↓w225_53, ↓w225_54, ↓w225_56, ↓w225_57, ↓w225_61, ↓w225_62, ↓w225_65, ↓w225_68, ↓w225_71, ↓w225_72, ↓w225_75, ↓w225_76, ↓w225_79, ↓w225_82, ↓w225_82i, ↓w225_83, ↓w225_84, ↓w225_87, ↓w225_90, ↓w225_91, ↓w225_93, ↓w225_94, ↓w225_95, ↓w225_98, ↓w225_99, ↓w225_102, ↓w225_103, ↓w225_106, ↓w225_107, ↓w225_110, ↓w225_112, ↓w225_113, ↓w225_114, ↓w225_117, ↓w225_119, ↓w225_121, ↓w225_124, ↓w225_127, ↓w225_129, ↓w225_130, ↓w225_132, ↓w225_134, ↓w225_137, ↓w225_140, ↓w225_141, r150 (hNs hN) hN3, hm, r148, hi, r146, Option.isSome, ↓m0_g0, ↓m0_g1, ↓m0_g2, ↓m0_g3, ↓m0_g4, ↓m0_g5, ↓m0_g6, ↓m0_g7, ↓m0_g8, ↓m0_g9, ↓m0_g10, ↓m0_g11, ↓m0_g12, ↓m0_g13, ↓m0_g14, ↓m0_g15, ↓m0_p0, ↓m0_p2, ↓m0_p3, ↓m0_p8, ↓m0_p9, ↓m0_p12, m0_r, icond_lt, icond_le, icond_gt, icond_ge, icond_eq, icond_ne, narrow_bool, true_or, or_true, if_true, if_false, cK_inl, toL_some, toL_none, psum_nil, psum_int, psum_ref, psum_null, psum_long, Nat.zero_le, Nat.reduceAdd, Nat.reduceLeDiff, kl_int, kl_ref, kl_none, kl_null, kl_long, su_at, sr_at, Nat.reduceEqDiff, Nat.add_eq_left, Nat.add_right_cancel_iff, and_false, false_and, and_true, true_and, and_self, if_true, if_false, ↓reduceIte, su_su, ne_eq, not_true]
theorem r225_d (h : ctx 0 b pl M A NR N β rk nt P S V) {l : Nat} (hm : lmM N x = some l) (h1 : ¬ y < 1) (h2 : ¬ 40 < y) (hR0 : NR = 0) (d : Nat) (Q : PO → Prop) : Cp (d + 4) 225 [.ref 395, .int x, .int y] (RP c C V W pl P R) Q = Q (.inl (some (.int 0)), RP c C (su V 4 200 0 3) W pl P R) := by
  have hN3 := townR_N h.1
  have hN := h.1.2.2.2.2.2.2.2.2.1
  have hP := h.2.2.1
  have hp := h.2.2.2.2.2.1
  have hR := h.2.1.2.1.2.1
  rw [hR0] at hR
  have e0 : Int32.ofNat 0 = 0 := rfl
  simp +decide only [ce225, ↓w225_0, ↓w225_1, ↓w225_2, ↓w225_5, ↓w225_6, ↓w225_7, ↓w225_10, ↓w225_13, ↓w225_14, ↓w225_15, ↓w225_18, ↓w225_19, ↓w225_20, ↓w225_21, ↓w225_23, ↓w225_26, ↓w225_29, ↓w225_30, ↓w225_31, ↓w225_34, ↓w225_35, ↓w225_36, ↓w225_39, ↓w225_42, ↓w225_45, ↓w225_46, ↓w225_47, ↓w225_50, ↓w225_51, ↓w225_52, ↓w225_53, ↓w225_54, ↓w225_56, ↓w225_57, ↓w225_61, ↓w225_62, ↓w225_65, ↓w225_68, ↓w225_71, ↓w225_72, ↓w225_75, ↓w225_76, ↓w225_79, ↓w225_82, ↓w225_82i, ↓w225_83, ↓w225_84, ↓w225_87, ↓w225_90, ↓w225_91, ↓w225_93, ↓w225_94, ↓w225_95, ↓w225_98, ↓w225_99, ↓w225_102, ↓w225_103, ↓w225_106, ↓w225_107, ↓w225_110, ↓w225_112, ↓w225_113, ↓w225_114, ↓w225_117, ↓w225_119, ↓w225_121, ↓w225_124, ↓w225_127, ↓w225_129, ↓w225_130, ↓w225_132, ↓w225_134, ↓w225_137, ↓w225_140, ↓w225_141, r150 (hNs hN) hN3, hm, r148, h1, h2, r146, Option.isSome, ↓m0_g0, ↓m0_g1, ↓m0_g2, ↓m0_g3, ↓m0_g4, ↓m0_g5, ↓m0_g6, ↓m0_g7, ↓m0_g8, ↓m0_g9, ↓m0_g10, ↓m0_g11, ↓m0_g12, ↓m0_g13, ↓m0_g14, ↓m0_g15, ↓m0_p0, ↓m0_p2, ↓m0_p3, ↓m0_p8, ↓m0_p9, ↓m0_p12, m0_r, hP, ↓pl_g0 hp, ↓pl_g1 hp, ↓pl_g2 hp, ↓pl_g3 hp, ↓pl_g4 hp, ↓pl_g5 hp, ↓pl_g6 hp, ↓pl_g7 hp, ↓pl_g8 hp, ↓pl_g9 hp, ↓pl_g10 hp, ↓pl_g11 hp, ↓pl_g12 hp, ↓pl_g13 hp, ↓pl_g14 hp, ↓pl_g15 hp, ↓pl_g16 hp, ↓pl_g17 hp, ↓pl_g18 hp, ↓pl_g19 hp, ↓pl_g20 hp, ↓pl_g21 hp, pl_r hp, hR, e0, icond_lt, icond_le, icond_gt, icond_ge, icond_eq, icond_ne, narrow_bool, true_or, or_true, if_true, if_false, cK_inl, toL_some, toL_none, psum_nil, psum_int, psum_ref, psum_null, psum_long, Nat.zero_le, Nat.reduceAdd, Nat.reduceLeDiff, kl_int, kl_ref, kl_none, kl_null, kl_long, su_at, sr_at, Nat.reduceEqDiff, Nat.add_eq_left, Nat.add_right_cancel_iff, and_false, false_and, and_true, true_and, and_self, if_true, if_false, ↓reduceIte, su_su, ne_eq, not_true, not_false_eq_true]
theorem r225_c (h : ctx 0 b pl M A NR N β rk nt P S V) (hb2 : b < 2) (hB : okB b (Int32.ofNat NR) S) {l : Nat} (hm : lmM N x = some l) (h1 : ¬ y < 1) (h2 : ¬ 40 < y) (hR0 : NR ≠ 0) (hβ : β + 90 * y.toNatClampNeg < 2 ^ 30) :
    ∃ V', sameBut (pA 1) (su V 4 200 0 0) V' ∧ ∀ (d : Nat) (Q : PO → Prop), Cp (d + 16) 225 [.ref 395, .int x, .int y] (RP c C V W pl P R) Q = Q (.inl (some (.int (btS b l y (Int32.ofNat NR) NR 0 0 0 S).1)), RP c C V' W pl P R) := by
  have hg : 0 < 2 := by decide
  have hN3 := townR_N h.1
  have hN := h.1.2.2.2.2.2.2.2.2.1
  have hP := h.2.2.1
  have hp := h.2.2.2.2.2.1
  have hR := h.2.1.2.1.2.1
  have hR6 := h.2.1.2.1.2.2
  obtain ⟨hlN, rfl⟩ := lmM_some (by omega) hm
  have h0 : ¬ y < 0 := fun q => h1 (Int32.lt_trans q (by decide))
  have nR : ¬ Int32.ofNat NR = 0 := fun q => hR0 (ofN_inj (b := 0) (by omega) (by omega) q)
  -- best begins as 0 in the class, as none in the reference: the first round sets it in both
  have hbt : ∀ bs : Int32, btS b l y (Int32.ofNat NR) NR 0 bs 0 S = btS b l y (Int32.ofNat NR) NR 0 0 0 S := fun bs => by
    obtain ⟨k, rfl⟩ := Nat.exists_eq_succ_of_ne_zero hR0
    have e : ¬ Int32.ofNat (k + 1) ≤ Int32.ofNat 0 := fun q => absurd ((ofN_le (by omega) (by omega)).mp q) (by omega)
    have e0 : Int32.ofNat 0 = 0 := rfl
    rw [btS, btS, if_neg e, if_neg e, if_pos e0, if_pos e0]
  obtain ⟨V', q1, q2⟩ := r225_loop (c := c) (C := C) (W := W) (R := R) hb2 hlN h0 hβ NR 0 (-1) 0 0 0 S _ none (by omega) (ctx_thr (x := 0) hg h) hB (Or.inl rfl) (Or.inl ⟨rfl, rfl⟩)
  rw [hbt] at q2
  refine ⟨V', q1, fun d Q => ?_⟩
  have q3 : Wp (d + 15) 225 59 [some (.ref 395), some (.int (Int32.ofNat l)), some (.int y), some (.int (-1)), some (.int 0), some (.int 0), none] [] (RP c C (su V 4 200 0 0) W pl P R) Q = Q (.inl (some (.int (btS b l y (Int32.ofNat NR) NR 0 0 0 S).1)), RP c C V' W pl P R) := q2 d Q
  simp +decide only [ce225, ↓w225_0, ↓w225_1, ↓w225_2, ↓w225_5, ↓w225_6, ↓w225_7, ↓w225_10, ↓w225_13, ↓w225_14, ↓w225_15, ↓w225_18, ↓w225_19, ↓w225_20, ↓w225_21, ↓w225_23, ↓w225_26, ↓w225_29, ↓w225_30, ↓w225_31, ↓w225_34, ↓w225_35, ↓w225_36, ↓w225_39, ↓w225_42, ↓w225_45, ↓w225_46, ↓w225_47, ↓w225_50, ↓w225_51, ↓w225_52, ↓w225_53, ↓w225_54, ↓w225_56, ↓w225_57, ↓w225_61, ↓w225_62, ↓w225_65, ↓w225_68, ↓w225_71, ↓w225_72, ↓w225_75, ↓w225_76, ↓w225_79, ↓w225_82, ↓w225_82i, ↓w225_83, ↓w225_84, ↓w225_87, ↓w225_90, ↓w225_91, ↓w225_93, ↓w225_94, ↓w225_95, ↓w225_98, ↓w225_99, ↓w225_102, ↓w225_103, ↓w225_106, ↓w225_107, ↓w225_110, ↓w225_112, ↓w225_113, ↓w225_114, ↓w225_117, ↓w225_119, ↓w225_121, ↓w225_124, ↓w225_127, ↓w225_129, ↓w225_130, ↓w225_132, ↓w225_134, ↓w225_137, ↓w225_140, ↓w225_141, r150 (hNs hN) hN3, hm, r148, h1, h2, nR, Option.isSome, ↓m0_g0, ↓m0_g1, ↓m0_g2, ↓m0_g3, ↓m0_g4, ↓m0_g5, ↓m0_g6, ↓m0_g7, ↓m0_g8, ↓m0_g9, ↓m0_g10, ↓m0_g11, ↓m0_g12, ↓m0_g13, ↓m0_g14, ↓m0_g15, ↓m0_p0, ↓m0_p2, ↓m0_p3, ↓m0_p8, ↓m0_p9, ↓m0_p12, m0_r, hP, ↓pl_g0 hp, ↓pl_g1 hp, ↓pl_g2 hp, ↓pl_g3 hp, ↓pl_g4 hp, ↓pl_g5 hp, ↓pl_g6 hp, ↓pl_g7 hp, ↓pl_g8 hp, ↓pl_g9 hp, ↓pl_g10 hp, ↓pl_g11 hp, ↓pl_g12 hp, ↓pl_g13 hp, ↓pl_g14 hp, ↓pl_g15 hp, ↓pl_g16 hp, ↓pl_g17 hp, ↓pl_g18 hp, ↓pl_g19 hp, ↓pl_g20 hp, ↓pl_g21 hp, pl_r hp, hR, icond_lt, icond_le, icond_gt, icond_ge, icond_eq, icond_ne, narrow_bool, true_or, or_true, if_true, if_false, cK_inl, toL_some, toL_none, psum_nil, psum_int, psum_ref, psum_null, psum_long, Nat.zero_le, Nat.reduceAdd, Nat.reduceLeDiff, kl_int, kl_ref, kl_none, kl_null, kl_long, su_at, sr_at, Nat.reduceEqDiff, Nat.add_eq_left, Nat.add_right_cancel_iff, and_false, false_and, and_true, true_and, and_self, if_true, if_false, ↓reduceIte, ne_eq, not_true, not_false_eq_true]
  exact q3
/-- lit lamps, counted -/
def ltK (S : S3) : Nat → Nat → Int32 → Int32
  | 0, _, a => a
  | k + 1, i, a => ltK S k (i + 1) (a + if S 0 9 i = 0 then 0 else 1)
theorem ltS_K (hM : M ≤ 10) : ∀ (k i : Nat) (a : Int32), i + k = M → ltS S (Int32.ofNat M) (10 - i) i a = ltK S k i a := by
  intro k
  induction k with
  | zero =>
    intro i a hi
    have e : Int32.ofNat M ≤ Int32.ofNat i := (ofN_le (by omega) (by omega)).mpr (by omega)
    cases h3 : 10 - i with
    | zero => rfl
    | succ m => rw [ltS, if_pos e]; rfl
  | succ k ih =>
    intro i a hi
    have e : ¬ Int32.ofNat M ≤ Int32.ofNat i := fun q => absurd ((ofN_le (by omega) (by omega)).mp q) (by omega)
    rw [show 10 - i = (10 - (i + 1)) + 1 by omega, ltS, if_neg e, ltK, ih (i + 1) _ (by omega)]
    congr 1
    split
    · exact (Int32.add_zero a).symm
    · rfl
theorem ltK_eq (h : townR 0 b M A NR N β rk nt P S V) : ∀ (k i : Nat) (a : Int32), i + k = M → ltK S k i a = ltK V k i a := by
  intro k
  induction k with
  | zero => intro i a _; rfl
  | succ k ih =>
    intro i a hi
    rw [ltK, ltK, h.1.2.1 9 i (by omega) (by omega) (by omega), ih (i + 1) _ (by omega)]
theorem r203_loop (hp : Pok pl) (hP : (V 4 206 0).toNatClampNeg = pl) (hM : P 0 100 0 = Int32.ofNat M) (hM10 : M ≤ 10) : ∀ (k i : Nat) (a : Int32), i + k = M → ∀ (d : Nat) (Q : PO → Prop), Wp (d + 1) 203 4 [some (.ref 395), some (.int a), some (.int (Int32.ofNat i))] [] (RP c C V W pl P R) Q = Q (.inl (some (.int (ltK V k i a))), RP c C V W pl P R) := by
  have hg : 0 < 2 := by decide
  intro k
  induction k with
  | zero =>
    intro i a hi d Q
    have e : Int32.ofNat M ≤ Int32.ofNat i := (ofN_le (by omega) (by omega)).mpr (by omega)
    rw [w203_4]
    simp only [↓w203_0, ↓w203_1, ↓w203_2, ↓w203_3, ↓w203_5, ↓w203_6, ↓w203_9, ↓w203_12, ↓w203_15, ↓w203_16, ↓w203_17, ↓w203_20, ↓w203_23, ↓w203_24, ↓w203_25, ↓w203_28, ↓w203_29, ↓w203_32, ↓w203_33, ↓w203_34, ↓w203_35, ↓w203_38, ↓w203_41, ↓w203_42, ↓m0_g0, ↓m0_g1, ↓m0_g2, ↓m0_g3, ↓m0_g4, ↓m0_g5, ↓m0_g6, ↓m0_g7, ↓m0_g8, ↓m0_g9, ↓m0_g10, ↓m0_g11, ↓m0_g12, ↓m0_g13, ↓m0_g14, ↓m0_g15, ↓m0_p0, ↓m0_p2, ↓m0_p3, ↓m0_p8, ↓m0_p9, ↓m0_p12, m0_r, hP, ↓pl_g0 hp, ↓pl_g1 hp, ↓pl_g2 hp, ↓pl_g3 hp, ↓pl_g4 hp, ↓pl_g5 hp, ↓pl_g6 hp, ↓pl_g7 hp, ↓pl_g8 hp, ↓pl_g9 hp, ↓pl_g10 hp, ↓pl_g11 hp, ↓pl_g12 hp, ↓pl_g13 hp, ↓pl_g14 hp, ↓pl_g15 hp, ↓pl_g16 hp, ↓pl_g17 hp, ↓pl_g18 hp, ↓pl_g19 hp, ↓pl_g20 hp, ↓pl_g21 hp, pl_r hp, hM, e, ltK, icond_lt, icond_le, icond_gt, icond_ge, icond_eq, icond_ne, narrow_bool, true_or, or_true, if_true, if_false, cK_inl, toL_some, toL_none, psum_nil, psum_int, psum_ref, psum_null, psum_long, Nat.zero_le, Nat.reduceAdd, Nat.reduceLeDiff, kl_int, kl_ref, kl_none, kl_null, kl_long]
  | succ k ih =>
    intro i a hi' d Q
    have e : ¬ Int32.ofNat M ≤ Int32.ofNat i := fun q => absurd ((ofN_le (by omega) (by omega)).mp q) (by omega)
    have hi : i < 10 := by omega
    rw [w203_4, ltK]
    by_cases h9 : V 0 9 i = 0
    · simp only [↓w203_0, ↓w203_1, ↓w203_2, ↓w203_3, ↓w203_5, ↓w203_6, ↓w203_9, ↓w203_12, ↓w203_15, ↓w203_16, ↓w203_17, ↓w203_20, ↓w203_23, ↓w203_24, ↓w203_25, ↓w203_28, ↓w203_29, ↓w203_32, ↓w203_33, ↓w203_34, ↓w203_35, ↓w203_38, ↓w203_41, ↓w203_42, ↓m0_g0, ↓m0_g1, ↓m0_g2, ↓m0_g3, ↓m0_g4, ↓m0_g5, ↓m0_g6, ↓m0_g7, ↓m0_g8, ↓m0_g9, ↓m0_g10, ↓m0_g11, ↓m0_g12, ↓m0_g13, ↓m0_g14, ↓m0_g15, ↓m0_p0, ↓m0_p2, ↓m0_p3, ↓m0_p8, ↓m0_p9, ↓m0_p12, m0_r, hP, ↓pl_g0 hp, ↓pl_g1 hp, ↓pl_g2 hp, ↓pl_g3 hp, ↓pl_g4 hp, ↓pl_g5 hp, ↓pl_g6 hp, ↓pl_g7 hp, ↓pl_g8 hp, ↓pl_g9 hp, ↓pl_g10 hp, ↓pl_g11 hp, ↓pl_g12 hp, ↓pl_g13 hp, ↓pl_g14 hp, ↓pl_g15 hp, ↓pl_g16 hp, ↓pl_g17 hp, ↓pl_g18 hp, ↓pl_g19 hp, ↓pl_g20 hp, ↓pl_g21 hp, pl_r hp, hM, ↓s_g0 hg, ↓s_g1 hg, ↓s_g2 hg, ↓s_g3 hg, ↓s_g4 hg, ↓s_g5 hg, ↓s_g6 hg, ↓s_g7 hg, ↓s_g8 hg, ↓s_g9 hg, ↓s_g10 hg, ↓s_g11 hg, ↓s_g12 hg, ↓s_g13 hg, ↓s_g14 hg, ↓s_g15 hg, ↓s_g16 hg, ↓s_g17 hg, ↓s_g18 hg, ↓s_g19 hg, ↓s_g20 hg, ↓s_p0 hg, ↓s_p1 hg, ↓s_p3 hg, s_r hg, ↓s_lit_a hg hi, h9, e, ofN_a1, icond_lt, icond_le, icond_gt, icond_ge, icond_eq, icond_ne, narrow_bool, true_or, or_true, if_true, if_false, cK_inl, toL_some, toL_none, psum_nil, psum_int, psum_ref, psum_null, psum_long, Nat.zero_le, Nat.reduceAdd, Nat.reduceLeDiff, kl_int, kl_ref, kl_none, kl_null, kl_long]
      exact ih (i + 1) _ (by omega) d Q
    · simp only [↓w203_0, ↓w203_1, ↓w203_2, ↓w203_3, ↓w203_5, ↓w203_6, ↓w203_9, ↓w203_12, ↓w203_15, ↓w203_16, ↓w203_17, ↓w203_20, ↓w203_23, ↓w203_24, ↓w203_25, ↓w203_28, ↓w203_29, ↓w203_32, ↓w203_33, ↓w203_34, ↓w203_35, ↓w203_38, ↓w203_41, ↓w203_42, ↓m0_g0, ↓m0_g1, ↓m0_g2, ↓m0_g3, ↓m0_g4, ↓m0_g5, ↓m0_g6, ↓m0_g7, ↓m0_g8, ↓m0_g9, ↓m0_g10, ↓m0_g11, ↓m0_g12, ↓m0_g13, ↓m0_g14, ↓m0_g15, ↓m0_p0, ↓m0_p2, ↓m0_p3, ↓m0_p8, ↓m0_p9, ↓m0_p12, m0_r, hP, ↓pl_g0 hp, ↓pl_g1 hp, ↓pl_g2 hp, ↓pl_g3 hp, ↓pl_g4 hp, ↓pl_g5 hp, ↓pl_g6 hp, ↓pl_g7 hp, ↓pl_g8 hp, ↓pl_g9 hp, ↓pl_g10 hp, ↓pl_g11 hp, ↓pl_g12 hp, ↓pl_g13 hp, ↓pl_g14 hp, ↓pl_g15 hp, ↓pl_g16 hp, ↓pl_g17 hp, ↓pl_g18 hp, ↓pl_g19 hp, ↓pl_g20 hp, ↓pl_g21 hp, pl_r hp, hM, ↓s_g0 hg, ↓s_g1 hg, ↓s_g2 hg, ↓s_g3 hg, ↓s_g4 hg, ↓s_g5 hg, ↓s_g6 hg, ↓s_g7 hg, ↓s_g8 hg, ↓s_g9 hg, ↓s_g10 hg, ↓s_g11 hg, ↓s_g12 hg, ↓s_g13 hg, ↓s_g14 hg, ↓s_g15 hg, ↓s_g16 hg, ↓s_g17 hg, ↓s_g18 hg, ↓s_g19 hg, ↓s_g20 hg, ↓s_p0 hg, ↓s_p1 hg, ↓s_p3 hg, s_r hg, ↓s_lit_a hg hi, h9, e, ofN_a1, icond_lt, icond_le, icond_gt, icond_ge, icond_eq, icond_ne, narrow_bool, true_or, or_true, if_true, if_false, cK_inl, toL_some, toL_none, psum_nil, psum_int, psum_ref, psum_null, psum_long, Nat.zero_le, Nat.reduceAdd, Nat.reduceLeDiff, kl_int, kl_ref, kl_none, kl_null, kl_long]
      exact ih (i + 1) _ (by omega) d Q
theorem r203 (hp : Pok pl) (hP : (V 4 206 0).toNatClampNeg = pl) (hM : P 0 100 0 = Int32.ofNat M) (hM10 : M ≤ 10) {d : Nat} {Q : PO → Prop} : Cp (d + 2) 203 [.ref 395] (RP c C V W pl P R) Q = Q (.inl (some (.int (ltK V M 0 0))), RP c C V W pl P R) := by
  simp only [ce203, ↓w203_0, ↓w203_1, ↓w203_2, ↓w203_3, cK_inl, toL_some, toL_none, psum_nil, psum_int, psum_ref, psum_null, psum_long, Nat.zero_le, Nat.reduceAdd, Nat.reduceLeDiff, kl_int, kl_ref, kl_none, kl_null, kl_long]
  exact r203_loop hp hP hM hM10 M 0 0 (by omega) (d + 0) Q
theorem ltK_thr {x : Int32} : ∀ (k i : Nat) (a : Int32), ltK (su V 4 200 0 x) k i a = ltK V k i a := by
  intro k
  induction k with
  | zero => intro i a; rfl
  | succ k ih => intro i a; rw [ltK, ltK, su_ne (by decide), ih]
theorem r204 (hp : Pok pl) (hP : (V 4 206 0).toNatClampNeg = pl) (hM : P 0 100 0 = Int32.ofNat M) (hM10 : M ≤ 10) (d : Nat) (Q : PO → Prop) : Cp (d + 3) 204 [.ref 395] (RP c C V W pl P R) Q = Q (.inl (some (.int (ltK V M 0 0))), RP c C (su V 4 200 0 0) W pl P R) := by
  simp only [ce204, ↓w204_0, ↓w204_1, ↓w204_2, ↓w204_5, ↓w204_6, ↓w204_9, r203 hp (hPs hP) hM hM10, ltK_thr, ↓m0_g0, ↓m0_g1, ↓m0_g2, ↓m0_g3, ↓m0_g4, ↓m0_g5, ↓m0_g6, ↓m0_g7, ↓m0_g8, ↓m0_g9, ↓m0_g10, ↓m0_g11, ↓m0_g12, ↓m0_g13, ↓m0_g14, ↓m0_g15, ↓m0_p0, ↓m0_p2, ↓m0_p3, ↓m0_p8, ↓m0_p9, ↓m0_p12, m0_r, icond_lt, icond_le, icond_gt, icond_ge, icond_eq, icond_ne, narrow_bool, true_or, or_true, if_true, if_false, cK_inl, toL_some, toL_none, psum_nil, psum_int, psum_ref, psum_null, psum_long, Nat.zero_le, Nat.reduceAdd, Nat.reduceLeDiff, kl_int, kl_ref, kl_none, kl_null, kl_long, su_at, sr_at, Nat.reduceEqDiff, Nat.add_eq_left, Nat.add_right_cancel_iff, and_false, false_and, and_true, true_and, and_self, if_true, if_false, ↓reduceIte]
/-- notes -/
theorem r219 {l : Nat} (hl : l < 3) {d : Nat} {Q : PO → Prop} : Cp (d + 1) 219 [.ref 395, .int (Int32.ofNat l)] (RP c C V W pl P R) Q = Q (.inl (some (.int (mnI 20 (V 0 17 l)))), RP c C V W pl P R) := by
  have hg : 0 < 2 := by decide
  simp only [ce219, ↓w219_0, ↓w219_2, ↓w219_3, ↓w219_6, ↓w219_9, ↓w219_10, ↓w219_11, ↓w219_14, ↓m0_g0, ↓m0_g1, ↓m0_g2, ↓m0_g3, ↓m0_g4, ↓m0_g5, ↓m0_g6, ↓m0_g7, ↓m0_g8, ↓m0_g9, ↓m0_g10, ↓m0_g11, ↓m0_g12, ↓m0_g13, ↓m0_g14, ↓m0_g15, ↓m0_p0, ↓m0_p2, ↓m0_p3, ↓m0_p8, ↓m0_p9, ↓m0_p12, m0_r, ↓s_g0 hg, ↓s_g1 hg, ↓s_g2 hg, ↓s_g3 hg, ↓s_g4 hg, ↓s_g5 hg, ↓s_g6 hg, ↓s_g7 hg, ↓s_g8 hg, ↓s_g9 hg, ↓s_g10 hg, ↓s_g11 hg, ↓s_g12 hg, ↓s_g13 hg, ↓s_g14 hg, ↓s_g15 hg, ↓s_g16 hg, ↓s_g17 hg, ↓s_g18 hg, ↓s_g19 hg, ↓s_g20 hg, ↓s_p0 hg, ↓s_p1 hg, ↓s_p3 hg, s_r hg, ↓s_noted_a hg hl, icond_lt, icond_le, icond_gt, icond_ge, icond_eq, icond_ne, narrow_bool, true_or, or_true, if_true, if_false, cK_inl, toL_some, toL_none, psum_nil, psum_int, psum_ref, psum_null, psum_long, Nat.zero_le, Nat.reduceAdd, Nat.reduceLeDiff, kl_int, kl_ref, kl_none, kl_null, kl_long, mnI]
  try rfl
theorem ofN_sub {a e : Nat} (h : e ≤ a) : Int32.ofNat a - Int32.ofNat e = Int32.ofNat (a - e) := by
  conv => lhs; lhs; rw [show a = (a - e) + e by omega]
  rw [Int32.ofNat_add]
  exact Int32.add_sub_cancel _ _
theorem r220 {l n k : Nat} (hl : l < 3) (hn : V 0 17 l = Int32.ofNat n) (hn2 : n < 2 ^ 31) (hk : k < n) {d : Nat} {Q : PO → Prop} : Cp (d + 1) 220 [.ref 395, .int (Int32.ofNat l), .int (Int32.ofNat k)] (RP c C V W pl P R) Q = Q (.inl (some (.int (V 0 20 (20 * l + (n - 1 - k) % 20)))), RP c C V W pl P R) := by
  have hg : 0 < 2 := by decide
  have h20 : (20 : Int32) ≠ 0 := by decide
  have hi : 20 * l + (n - 1 - k) % 20 < 60 := by omega
  have e1 : Int32.ofNat n - 1 = Int32.ofNat (n - 1) := ofN_sub (e := 1) (by omega)
  have e2 : Int32.ofNat (n - 1) - Int32.ofNat k = Int32.ofNat (n - 1 - k) := ofN_sub (by omega)
  simp only [ce220, ↓w220_0, ↓w220_1, ↓w220_4, ↓w220_7, ↓w220_9, ↓w220_10, ↓w220_11, ↓w220_12, ↓w220_15, ↓w220_18, ↓w220_19, ↓w220_20, ↓w220_21, ↓w220_22, ↓w220_23, ↓w220_24, ↓w220_27, ↓w220_29, ↓w220_26 h20, ↓m0_g0, ↓m0_g1, ↓m0_g2, ↓m0_g3, ↓m0_g4, ↓m0_g5, ↓m0_g6, ↓m0_g7, ↓m0_g8, ↓m0_g9, ↓m0_g10, ↓m0_g11, ↓m0_g12, ↓m0_g13, ↓m0_g14, ↓m0_g15, ↓m0_p0, ↓m0_p2, ↓m0_p3, ↓m0_p8, ↓m0_p9, ↓m0_p12, m0_r, ↓s_g0 hg, ↓s_g1 hg, ↓s_g2 hg, ↓s_g3 hg, ↓s_g4 hg, ↓s_g5 hg, ↓s_g6 hg, ↓s_g7 hg, ↓s_g8 hg, ↓s_g9 hg, ↓s_g10 hg, ↓s_g11 hg, ↓s_g12 hg, ↓s_g13 hg, ↓s_g14 hg, ↓s_g15 hg, ↓s_g16 hg, ↓s_g17 hg, ↓s_g18 hg, ↓s_g19 hg, ↓s_g20 hg, ↓s_p0 hg, ↓s_p1 hg, ↓s_p3 hg, s_r hg, ↓s_noted_a hg hl, hn, e1, e2, ofN_20, ofN_div20 (show n - 1 - k < 2 ^ 31 by omega), ofN_add, icond_lt, icond_le, icond_gt, icond_ge, icond_eq, icond_ne, narrow_bool, true_or, or_true, if_true, if_false, cK_inl, toL_some, toL_none, psum_nil, psum_int, psum_ref, psum_null, psum_long, Nat.zero_le, Nat.reduceAdd, Nat.reduceLeDiff, kl_int, kl_ref, kl_none, kl_null, kl_long]
  rw [w220_28]
  simp only [↓w220_0, ↓w220_1, ↓w220_4, ↓w220_7, ↓w220_9, ↓w220_10, ↓w220_11, ↓w220_12, ↓w220_15, ↓w220_18, ↓w220_19, ↓w220_20, ↓w220_21, ↓w220_22, ↓w220_23, ↓w220_24, ↓w220_27, ↓w220_29, ↓s_note_a hg hi, cK_inl, toL_some, toL_none, psum_nil, psum_int, psum_ref, psum_null, psum_long, Nat.zero_le, Nat.reduceAdd, Nat.reduceLeDiff, kl_int, kl_ref, kl_none, kl_null, kl_long]
theorem nbk_eq {l n k : Nat} (h : townR 0 b M A NR N β rk True P S V) (hl : l < N) (hn : S 0 17 l = Int32.ofNat n) (hn2 : n < 2 ^ 31) (hk : k < n) : nbkS 0 l S (Int32.ofNat k) = V 0 20 (20 * l + (n - 1 - k) % 20) := by
  have e1 : Int32.ofNat n - 1 = Int32.ofNat (n - 1) := ofN_sub (e := 1) (by omega)
  have e2 : Int32.ofNat (n - 1) - Int32.ofNat k = Int32.ofNat (n - 1 - k) := ofN_sub (by omega)
  rw [nbkS, hn, e1, e2, ofN_div20 (by omega), gt_nat (by omega) (by omega)]
  exact h.2.2.2.2.2.1 trivial l (by have := townR_N h; omega) _ (by omega)
/-- is there such a note? -/
theorem kept_iff {n : Nat} (hn2 : n < 2 ^ 31) : (if y < 0 then (0 : Int32) else if mnI 20 (Int32.ofNat n) - 1 < y then 0 else 1) = if y < 0 then 0 else if 20 ≤ y then 0 else if Int32.ofNat n ≤ y then 0 else 1 := by
  by_cases h0 : y < 0
  · rw [if_pos h0, if_pos h0]
  rw [if_neg h0, if_neg h0]
  have hy := nnI h0
  have hlt := tN_lt (x := y)
  generalize y.toNatClampNeg = m at hy hlt
  subst hy
  rw [show (20 : Int32) = Int32.ofNat 20 from rfl]
  by_cases hc : n < 20
  · have e : mnI (Int32.ofNat 20) (Int32.ofNat n) = Int32.ofNat n := by
      unfold mnI
      rw [if_pos ((ofN_lt (by omega) (by omega)).mpr hc)]
    rw [e]
    by_cases h1 : n ≤ m
    · rw [if_pos ?_]
      · split
        · rfl
        · rw [if_pos ((ofN_le hn2 hlt).mpr h1)]
      · by_cases hn0 : n = 0
        · subst hn0
          have : Int32.ofNat 0 - 1 = -1 := by decide
          rw [this, Int32.lt_iff_toInt_lt, Int32.toInt_ofNat_of_lt hlt]
          have : (-1 : Int32).toInt = -1 := by decide
          omega
        · have e1 : Int32.ofNat n - 1 = Int32.ofNat (n - 1) := ofN_sub (e := 1) (by omega)
          rw [e1]
          exact (ofN_lt (by omega) hlt).mpr (by omega)
    · have e1 : Int32.ofNat n - 1 = Int32.ofNat (n - 1) := ofN_sub (e := 1) (by omega)
      rw [e1, if_neg (fun q => absurd ((ofN_lt (by omega) hlt).mp q) (by omega)), if_neg (fun q => absurd ((ofN_le (by omega) hlt).mp q) (by omega)), if_neg (fun q => h1 ((ofN_le hn2 hlt).mp q))]
  · have e : mnI (Int32.ofNat 20) (Int32.ofNat n) = Int32.ofNat 20 := by
      unfold mnI
      rw [if_neg (fun q => hc ((ofN_lt (by omega) (by omega)).mp q))]
    rw [e]
    have e19 : Int32.ofNat 20 - 1 = Int32.ofNat 19 := by decide
    rw [e19]
    by_cases h1 : 20 ≤ m
    · rw [if_pos ((ofN_lt (by omega) hlt).mpr (by omega)), if_pos ((ofN_le (by omega) hlt).mpr h1)]
    · rw [if_neg (fun q => absurd ((ofN_lt (by omega) hlt).mp q) (by omega)), if_neg (fun q => h1 ((ofN_le (by omega) hlt).mp q)), if_neg (fun q => absurd ((ofN_le hn2 hlt).mp q) (by omega))]
theorem r221 (h : ctx 0 b pl M A NR N β rk True P S V) (d : Nat) (Q : PO → Prop) : Cp (d + 4) 221 [.ref 395, .int x, .int y] (RP c C V W pl P R) Q = (match lmM N x with
    | none => Q (.inl (some (.int 0)), RP c C (su V 4 200 0 1) W pl P R)
    | some l => if y < 0 then Q (.inl (some (.int 0)), RP c C (su V 4 200 0 1) W pl P R) else if 20 ≤ y then Q (.inl (some (.int 0)), RP c C (su V 4 200 0 1) W pl P R) else if S 0 17 l ≤ y then Q (.inl (some (.int 0)), RP c C (su V 4 200 0 1) W pl P R)
      else Q (.inl (some (.int (nbkS 0 l S y))), RP c C (su V 4 200 0 0) W pl P R)) := by
  have hg : 0 < 2 := by decide
  have hN3 := townR_N h.1
  have hN := h.1.2.2.2.2.2.2.2.2.1
  cases hm : lmM N x with
  | none => simp +decide only [ce221, ↓w221_0, ↓w221_1, ↓w221_2, ↓w221_5, ↓w221_6, ↓w221_7, ↓w221_10, ↓w221_13, ↓w221_14, ↓w221_15, ↓w221_16, ↓w221_17, ↓w221_20, ↓w221_21, ↓w221_22, ↓w221_25, ↓w221_28, ↓w221_29, ↓w221_30, ↓w221_31, ↓w221_34, ↓w221_37, ↓w221_38, ↓w221_39, ↓w221_42, r150 (hNs hN) hN3, hm, r146, Option.isSome, ↓m0_g0, ↓m0_g1, ↓m0_g2, ↓m0_g3, ↓m0_g4, ↓m0_g5, ↓m0_g6, ↓m0_g7, ↓m0_g8, ↓m0_g9, ↓m0_g10, ↓m0_g11, ↓m0_g12, ↓m0_g13, ↓m0_g14, ↓m0_g15, ↓m0_p0, ↓m0_p2, ↓m0_p3, ↓m0_p8, ↓m0_p9, ↓m0_p12, m0_r, icond_lt, icond_le, icond_gt, icond_ge, icond_eq, icond_ne, narrow_bool, true_or, or_true, if_true, if_false, cK_inl, toL_some, toL_none, psum_nil, psum_int, psum_ref, psum_null, psum_long, Nat.zero_le, Nat.reduceAdd, Nat.reduceLeDiff, kl_int, kl_ref, kl_none, kl_null, kl_long, su_at, sr_at, Nat.reduceEqDiff, Nat.add_eq_left, Nat.add_right_cancel_iff, and_false, false_and, and_true, true_and, and_self, if_true, if_false, ↓reduceIte, su_su]
  | some l =>
    obtain ⟨hlN, rfl⟩ := lmM_some (by omega) hm
    have hl : l < 3 := by omega
    obtain ⟨n, n1, n2⟩ := h.1.2.2.2.1.2.2.2 l hlN
    have hβ := h.2.2.2.2.2.2
    have a17 : V 0 17 l = Int32.ofNat n := by rw [← h.1.1.2.2 17 l (by omega) (by omega) hlN]; exact n2
    have ek := kept_iff (y := y) (n := n) (by omega)
    have v17 : su V 4 200 0 0 0 17 l = Int32.ofNat n := by rw [su_ne (by decide)]; exact a17
    dsimp only
    rw [n2]
    by_cases h0 : y < 0
    · simp +decide only [ce221, ↓w221_0, ↓w221_1, ↓w221_2, ↓w221_5, ↓w221_6, ↓w221_7, ↓w221_10, ↓w221_13, ↓w221_14, ↓w221_15, ↓w221_16, ↓w221_17, ↓w221_20, ↓w221_21, ↓w221_22, ↓w221_25, ↓w221_28, ↓w221_29, ↓w221_30, ↓w221_31, ↓w221_34, ↓w221_37, ↓w221_38, ↓w221_39, ↓w221_42, r150 (hNs hN) hN3, hm, r219 hl, v17, r148, h0, r146, Option.isSome, ↓m0_g0, ↓m0_g1, ↓m0_g2, ↓m0_g3, ↓m0_g4, ↓m0_g5, ↓m0_g6, ↓m0_g7, ↓m0_g8, ↓m0_g9, ↓m0_g10, ↓m0_g11, ↓m0_g12, ↓m0_g13, ↓m0_g14, ↓m0_g15, ↓m0_p0, ↓m0_p2, ↓m0_p3, ↓m0_p8, ↓m0_p9, ↓m0_p12, m0_r, icond_lt, icond_le, icond_gt, icond_ge, icond_eq, icond_ne, narrow_bool, true_or, or_true, if_true, if_false, cK_inl, toL_some, toL_none, psum_nil, psum_int, psum_ref, psum_null, psum_long, Nat.zero_le, Nat.reduceAdd, Nat.reduceLeDiff, kl_int, kl_ref, kl_none, kl_null, kl_long, su_at, sr_at, Nat.reduceEqDiff, Nat.add_eq_left, Nat.add_right_cancel_iff, and_false, false_and, and_true, true_and, and_self, if_true, if_false, ↓reduceIte, su_su]
    · simp only [if_neg h0] at ek
      have hy := nnI h0
      have hlt := tN_lt (x := y)
      by_cases h1 : 20 ≤ y
      · simp only [if_pos h1] at ek
        simp +decide only [ce221, ↓w221_0, ↓w221_1, ↓w221_2, ↓w221_5, ↓w221_6, ↓w221_7, ↓w221_10, ↓w221_13, ↓w221_14, ↓w221_15, ↓w221_16, ↓w221_17, ↓w221_20, ↓w221_21, ↓w221_22, ↓w221_25, ↓w221_28, ↓w221_29, ↓w221_30, ↓w221_31, ↓w221_34, ↓w221_37, ↓w221_38, ↓w221_39, ↓w221_42, r150 (hNs hN) hN3, hm, r219 hl, v17, r148, h0, h1, ek, r146, Option.isSome, ↓m0_g0, ↓m0_g1, ↓m0_g2, ↓m0_g3, ↓m0_g4, ↓m0_g5, ↓m0_g6, ↓m0_g7, ↓m0_g8, ↓m0_g9, ↓m0_g10, ↓m0_g11, ↓m0_g12, ↓m0_g13, ↓m0_g14, ↓m0_g15, ↓m0_p0, ↓m0_p2, ↓m0_p3, ↓m0_p8, ↓m0_p9, ↓m0_p12, m0_r, icond_lt, icond_le, icond_gt, icond_ge, icond_eq, icond_ne, narrow_bool, true_or, or_true, if_true, if_false, cK_inl, toL_some, toL_none, psum_nil, psum_int, psum_ref, psum_null, psum_long, Nat.zero_le, Nat.reduceAdd, Nat.reduceLeDiff, kl_int, kl_ref, kl_none, kl_null, kl_long, su_at, sr_at, Nat.reduceEqDiff, Nat.add_eq_left, Nat.add_right_cancel_iff, and_false, false_and, and_true, true_and, and_self, if_true, if_false, ↓reduceIte, su_su]
      · by_cases h2 : Int32.ofNat n ≤ y
        · simp only [if_neg h1, if_pos h2] at ek
          simp +decide only [ce221, ↓w221_0, ↓w221_1, ↓w221_2, ↓w221_5, ↓w221_6, ↓w221_7, ↓w221_10, ↓w221_13, ↓w221_14, ↓w221_15, ↓w221_16, ↓w221_17, ↓w221_20, ↓w221_21, ↓w221_22, ↓w221_25, ↓w221_28, ↓w221_29, ↓w221_30, ↓w221_31, ↓w221_34, ↓w221_37, ↓w221_38, ↓w221_39, ↓w221_42, r150 (hNs hN) hN3, hm, r219 hl, v17, r148, h0, h1, h2, ek, r146, Option.isSome, ↓m0_g0, ↓m0_g1, ↓m0_g2, ↓m0_g3, ↓m0_g4, ↓m0_g5, ↓m0_g6, ↓m0_g7, ↓m0_g8, ↓m0_g9, ↓m0_g10, ↓m0_g11, ↓m0_g12, ↓m0_g13, ↓m0_g14, ↓m0_g15, ↓m0_p0, ↓m0_p2, ↓m0_p3, ↓m0_p8, ↓m0_p9, ↓m0_p12, m0_r, icond_lt, icond_le, icond_gt, icond_ge, icond_eq, icond_ne, narrow_bool, true_or, or_true, if_true, if_false, cK_inl, toL_some, toL_none, psum_nil, psum_int, psum_ref, psum_null, psum_long, Nat.zero_le, Nat.reduceAdd, Nat.reduceLeDiff, kl_int, kl_ref, kl_none, kl_null, kl_long, su_at, sr_at, Nat.reduceEqDiff, Nat.add_eq_left, Nat.add_right_cancel_iff, and_false, false_and, and_true, true_and, and_self, if_true, if_false, ↓reduceIte, su_su]
        · simp only [if_neg h1, if_neg h2] at ek
          generalize y.toNatClampNeg = k at hy hlt
          subst hy
          have hkn : k < n := by
            have : ¬ n ≤ k := fun q => h2 ((ofN_le (show n < 2 ^ 31 by omega) hlt).mpr q)
            omega
          have e220 : ∀ Q : PO → Prop, _ := fun Q => r220 (c := c) (C := C) (W := W) (pl := pl) (P := P) (R := R) (d := d + 2) (Q := Q) hl v17 (show n < 2 ^ 31 by omega) hkn
          rw [nbk_eq h.1 hlN n2 (by omega) hkn]
          simp +decide only [ce221, ↓w221_0, ↓w221_1, ↓w221_2, ↓w221_5, ↓w221_6, ↓w221_7, ↓w221_10, ↓w221_13, ↓w221_14, ↓w221_15, ↓w221_16, ↓w221_17, ↓w221_20, ↓w221_21, ↓w221_22, ↓w221_25, ↓w221_28, ↓w221_29, ↓w221_30, ↓w221_31, ↓w221_34, ↓w221_37, ↓w221_38, ↓w221_39, ↓w221_42, r150 (hNs hN) hN3, hm, r219 hl, v17, r148, h0, h1, h2, ek, e220, Option.isSome, ↓m0_g0, ↓m0_g1, ↓m0_g2, ↓m0_g3, ↓m0_g4, ↓m0_g5, ↓m0_g6, ↓m0_g7, ↓m0_g8, ↓m0_g9, ↓m0_g10, ↓m0_g11, ↓m0_g12, ↓m0_g13, ↓m0_g14, ↓m0_g15, ↓m0_p0, ↓m0_p2, ↓m0_p3, ↓m0_p8, ↓m0_p9, ↓m0_p12, m0_r, icond_lt, icond_le, icond_gt, icond_ge, icond_eq, icond_ne, narrow_bool, true_or, or_true, if_true, if_false, cK_inl, toL_some, toL_none, psum_nil, psum_int, psum_ref, psum_null, psum_long, Nat.zero_le, Nat.reduceAdd, Nat.reduceLeDiff, kl_int, kl_ref, kl_none, kl_null, kl_long, su_at, sr_at, Nat.reduceEqDiff, Nat.add_eq_left, Nat.add_right_cancel_iff, and_false, false_and, and_true, true_and, and_self, if_true, if_false, ↓reduceIte]
end PUBD
