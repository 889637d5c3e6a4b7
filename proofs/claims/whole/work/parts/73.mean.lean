/-! THE MEAN OIL, IN BOTH -/
section MEANB
variable {c : Nat × Nat × Nat} {C : Nat → Option PC} {S V P : S3} {W : L3} {R : Nat → Option PC} {g b pl M N A NR β : Nat} {x y : Int32} {rk : Nat → Nat} {nt : Prop}
def moK (V : S3) : Nat → Nat → Int32 → Int32
  | 0, _, a => a
  | k + 1, i, a => moK V k (i + 1) (a + V 0 5 i)
theorem moL_K (hM : M ≤ 10) : ∀ (k i : Nat) (a : Int32), i + k = M → moL S (Int32.ofNat M) (10 - i) i a = moK S k i a := by
  intro k
  induction k with
  | zero =>
    intro i a hi
    have e : Int32.ofNat M ≤ Int32.ofNat i := (ofN_le (by omega) (by omega)).mpr (by omega)
    cases h3 : 10 - i with
    | zero => rfl
    | succ m => rw [moL, if_pos e]; rfl
  | succ k ih =>
    intro i a hi
    have e : ¬ Int32.ofNat M ≤ Int32.ofNat i := fun q => absurd ((ofN_le (by omega) (by omega)).mp q) (by omega)
    rw [show 10 - i = (10 - (i + 1)) + 1 by omega, moL, if_neg e, moK, ih (i + 1) _ (by omega)]
theorem moK_eq (h : townR 0 b M A NR N β rk nt P S V) : ∀ (k i : Nat) (a : Int32), i + k = M → moK S k i a = moK V k i a := by
  intro k
  induction k with
  | zero => intro i a _; rfl
  | succ k ih =>
    intro i a hi
    rw [moK, moK, h.1.2.1 5 i (by omega) (by omega) (by omega), ih (i + 1) _ (by omega)]
theorem moK_thr {x : Int32} : ∀ (k i : Nat) (a : Int32), moK (su V 4 200 0 x) k i a = moK V k i a := by
  intro k
  induction k with
  | zero => intro i a; rfl
  | succ k ih => intro i a; rw [moK, moK, su_ne (by decide), ih]
def moV (V : S3) (M : Nat) : UInt64 := if M = 0 then FP.dconst0 else FP.ddiv (FP.i2d (moK V M 0 0)) (FP.i2d (Int32.ofNat M))
theorem r226_loop (hp : Pok pl) (hP : (V 4 206 0).toNatClampNeg = pl) (hM : P 0 100 0 = Int32.ofNat M) (hM10 : M ≤ 10) (d : Nat) (Q : PO → Prop) : ∀ (k i : Nat) (a : Int32), i + k = M → Wp (d + 1) 226 9 [some (.ref 395), some (.int a), some (.int (Int32.ofNat i))] [] (RP c C V W pl P R) Q = Wp (d + 1) 226 38 [some (.ref 395), some (.int (moK V k i a)), some (.int (Int32.ofNat M))] [] (RP c C V W pl P R) Q := by
  have hg : 0 < 2 := by decide
  intro k
  induction k with
  | zero =>
    intro i a hi
    have e : Int32.ofNat M ≤ Int32.ofNat i := (ofN_le (by omega) (by omega)).mpr (by omega)
    rw [w226_9]
    simp only [↓w226_0, ↓w226_1, ↓w226_2, ↓w226_5, ↓w226_6, ↓w226_7, ↓w226_8, ↓w226_10, ↓w226_11, ↓w226_14, ↓w226_17, ↓w226_20, ↓w226_21, ↓w226_22, ↓w226_25, ↓w226_28, ↓w226_29, ↓w226_30, ↓w226_31, ↓w226_32, ↓w226_35, ↓w226_39, ↓w226_42, ↓w226_45, ↓w226_48, ↓w226_49, ↓w226_52, ↓w226_53, ↓w226_54, ↓w226_55, ↓w226_58, ↓w226_61, ↓w226_63, ↓m0_g0, ↓m0_g1, ↓m0_g2, ↓m0_g3, ↓m0_g4, ↓m0_g5, ↓m0_g6, ↓m0_g7, ↓m0_g8, ↓m0_g9, ↓m0_g10, ↓m0_g11, ↓m0_g12, ↓m0_g13, ↓m0_g14, ↓m0_g15, ↓m0_p0, ↓m0_p2, ↓m0_p3, ↓m0_p8, ↓m0_p9, ↓m0_p12, m0_r, hP, ↓pl_g0 hp, ↓pl_g1 hp, ↓pl_g2 hp, ↓pl_g3 hp, ↓pl_g4 hp, ↓pl_g5 hp, ↓pl_g6 hp, ↓pl_g7 hp, ↓pl_g8 hp, ↓pl_g9 hp, ↓pl_g10 hp, ↓pl_g11 hp, ↓pl_g12 hp, ↓pl_g13 hp, ↓pl_g14 hp, ↓pl_g15 hp, ↓pl_g16 hp, ↓pl_g17 hp, ↓pl_g18 hp, ↓pl_g19 hp, ↓pl_g20 hp, ↓pl_g21 hp, pl_r hp, hM, e, icond_lt, icond_le, icond_gt, icond_ge, icond_eq, icond_ne, narrow_bool, true_or, or_true, if_true, if_false, cK_inl, toL_some, toL_none, psum_nil, psum_int, psum_ref, psum_null, psum_long, Nat.zero_le, Nat.reduceAdd, Nat.reduceLeDiff, kl_int, kl_ref, kl_none, kl_null, kl_long, moK]
    rw [show i = M by omega]
  | succ k ih =>
    intro i a hi'
    have e : ¬ Int32.ofNat M ≤ Int32.ofNat i := fun q => absurd ((ofN_le (by omega) (by omega)).mp q) (by omega)
    have hi : i < 10 := by omega
    rw [w226_9]
    simp only [↓w226_0, ↓w226_1, ↓w226_2, ↓w226_5, ↓w226_6, ↓w226_7, ↓w226_8, ↓w226_10, ↓w226_11, ↓w226_14, ↓w226_17, ↓w226_20, ↓w226_21, ↓w226_22, ↓w226_25, ↓w226_28, ↓w226_29, ↓w226_30, ↓w226_31, ↓w226_32, ↓w226_35, ↓w226_39, ↓w226_42, ↓w226_45, ↓w226_48, ↓w226_49, ↓w226_52, ↓w226_53, ↓w226_54, ↓w226_55, ↓w226_58, ↓w226_61, ↓w226_63, ↓m0_g0, ↓m0_g1, ↓m0_g2, ↓m0_g3, ↓m0_g4, ↓m0_g5, ↓m0_g6, ↓m0_g7, ↓m0_g8, ↓m0_g9, ↓m0_g10, ↓m0_g11, ↓m0_g12, ↓m0_g13, ↓m0_g14, ↓m0_g15, ↓m0_p0, ↓m0_p2, ↓m0_p3, ↓m0_p8, ↓m0_p9, ↓m0_p12, m0_r, hP, ↓pl_g0 hp, ↓pl_g1 hp, ↓pl_g2 hp, ↓pl_g3 hp, ↓pl_g4 hp, ↓pl_g5 hp, ↓pl_g6 hp, ↓pl_g7 hp, ↓pl_g8 hp, ↓pl_g9 hp, ↓pl_g10 hp, ↓pl_g11 hp, ↓pl_g12 hp, ↓pl_g13 hp, ↓pl_g14 hp, ↓pl_g15 hp, ↓pl_g16 hp, ↓pl_g17 hp, ↓pl_g18 hp, ↓pl_g19 hp, ↓pl_g20 hp, ↓pl_g21 hp, pl_r hp, ↓s_g0 hg, ↓s_g1 hg, ↓s_g2 hg, ↓s_g3 hg, ↓s_g4 hg, ↓s_g5 hg, ↓s_g6 hg, ↓s_g7 hg, ↓s_g8 hg, ↓s_g9 hg, ↓s_g10 hg, ↓s_g11 hg, ↓s_g12 hg, ↓s_g13 hg, ↓s_g14 hg, ↓s_g15 hg, ↓s_g16 hg, ↓s_g17 hg, ↓s_g18 hg, ↓s_g19 hg, ↓s_g20 hg, ↓s_p0 hg, ↓s_p1 hg, ↓s_p3 hg, s_r hg, ↓s_oil_a hg hi, hM, e, ofN_a1, icond_lt, icond_le, icond_gt, icond_ge, icond_eq, icond_ne, narrow_bool, true_or, or_true, if_true, if_false, cK_inl, toL_some, toL_none, psum_nil, psum_int, psum_ref, psum_null, psum_long, Nat.zero_le, Nat.reduceAdd, Nat.reduceLeDiff, kl_int, kl_ref, kl_none, kl_null, kl_long, moK]
    exact ih (i + 1) _ (by omega)
theorem r226 (h : ctx 0 b pl M A NR N β rk nt P S V) (hf : M ≠ 0 → (FP.ddiv (FP.i2d (moK V M 0 0)) (FP.i2d (Int32.ofNat M))) &&& 0x7fffffffffffffff ≤ 0x7ff0000000000000) (d : Nat) (Q : PO → Prop) : Cp (d + 2) 226 [.ref 395] (RP c C V W pl P R) Q = Q (.inl (some (.double (moV V M))), RP c C (su V 4 200 0 0) W pl P R) := by
  have hg : 0 < 2 := by decide
  have h' := ctx_thr (x := 0) hg h
  have hp := h'.2.2.2.2.2.1
  have hP := h'.2.2.1
  have hM := h'.2.1.1.2.1
  have hM10 := h'.2.1.1.2.2
  have q := r226_loop (c := c) (C := C) (W := W) (R := R) hp hP hM hM10 d Q M 0 0 (by omega)
  rw [moK_thr] at q
  have q2 : Wp (d + 1) 226 9 [some (.ref 395), some (.int 0), some (.int 0)] [] (RP c C (su V 4 200 0 0) W pl P R) Q = _ := q
  rw [ce226]
  simp only [↓w226_0, ↓w226_1, ↓w226_2, ↓w226_5, ↓w226_6, ↓w226_7, ↓w226_8, ↓w226_10, ↓w226_11, ↓w226_14, ↓w226_17, ↓w226_20, ↓w226_21, ↓w226_22, ↓w226_25, ↓w226_28, ↓w226_29, ↓w226_30, ↓w226_31, ↓w226_32, ↓w226_35, ↓w226_39, ↓w226_42, ↓w226_45, ↓w226_48, ↓w226_49, ↓w226_52, ↓w226_53, ↓w226_54, ↓w226_55, ↓w226_58, ↓w226_61, ↓w226_63, ↓m0_g0, ↓m0_g1, ↓m0_g2, ↓m0_g3, ↓m0_g4, ↓m0_g5, ↓m0_g6, ↓m0_g7, ↓m0_g8, ↓m0_g9, ↓m0_g10, ↓m0_g11, ↓m0_g12, ↓m0_g13, ↓m0_g14, ↓m0_g15, ↓m0_p0, ↓m0_p2, ↓m0_p3, ↓m0_p8, ↓m0_p9, ↓m0_p12, m0_r, cK_inl, toL_some, toL_none, psum_nil, psum_int, psum_ref, psum_null, psum_long, Nat.zero_le, Nat.reduceAdd, Nat.reduceLeDiff, kl_int, kl_ref, kl_none, kl_null, kl_long]
  rw [q2, w226_38]
  by_cases h0 : M = 0
  · have e0 : Int32.ofNat M = 0 := by rw [h0]; rfl
    simp +decide only [↓w226_0, ↓w226_1, ↓w226_2, ↓w226_5, ↓w226_6, ↓w226_7, ↓w226_8, ↓w226_10, ↓w226_11, ↓w226_14, ↓w226_17, ↓w226_20, ↓w226_21, ↓w226_22, ↓w226_25, ↓w226_28, ↓w226_29, ↓w226_30, ↓w226_31, ↓w226_32, ↓w226_35, ↓w226_39, ↓w226_42, ↓w226_45, ↓w226_48, ↓w226_49, ↓w226_52, ↓w226_53, ↓w226_54, ↓w226_55, ↓w226_58, ↓w226_61, ↓w226_63, ↓m0_g0, ↓m0_g1, ↓m0_g2, ↓m0_g3, ↓m0_g4, ↓m0_g5, ↓m0_g6, ↓m0_g7, ↓m0_g8, ↓m0_g9, ↓m0_g10, ↓m0_g11, ↓m0_g12, ↓m0_g13, ↓m0_g14, ↓m0_g15, ↓m0_p0, ↓m0_p2, ↓m0_p3, ↓m0_p8, ↓m0_p9, ↓m0_p12, m0_r, hP, ↓pl_g0 hp, ↓pl_g1 hp, ↓pl_g2 hp, ↓pl_g3 hp, ↓pl_g4 hp, ↓pl_g5 hp, ↓pl_g6 hp, ↓pl_g7 hp, ↓pl_g8 hp, ↓pl_g9 hp, ↓pl_g10 hp, ↓pl_g11 hp, ↓pl_g12 hp, ↓pl_g13 hp, ↓pl_g14 hp, ↓pl_g15 hp, ↓pl_g16 hp, ↓pl_g17 hp, ↓pl_g18 hp, ↓pl_g19 hp, ↓pl_g20 hp, ↓pl_g21 hp, pl_r hp, hM, e0, h0, moV, icond_lt, icond_le, icond_gt, icond_ge, icond_eq, icond_ne, narrow_bool, true_or, or_true, if_true, if_false, cK_inl, toL_some, toL_none, psum_nil, psum_int, psum_ref, psum_null, psum_long, Nat.zero_le, Nat.reduceAdd, Nat.reduceLeDiff, kl_int, kl_ref, kl_none, kl_null, kl_long, ne_eq, not_true]
  · have e0 : ¬ Int32.ofNat M = 0 := fun q => h0 (ofN_inj (b := 0) (by omega) (by omega) q)
    simp +decide only [↓w226_0, ↓w226_1, ↓w226_2, ↓w226_5, ↓w226_6, ↓w226_7, ↓w226_8, ↓w226_10, ↓w226_11, ↓w226_14, ↓w226_17, ↓w226_20, ↓w226_21, ↓w226_22, ↓w226_25, ↓w226_28, ↓w226_29, ↓w226_30, ↓w226_31, ↓w226_32, ↓w226_35, ↓w226_39, ↓w226_42, ↓w226_45, ↓w226_48, ↓w226_49, ↓w226_52, ↓w226_53, ↓w226_54, ↓w226_55, ↓w226_58, ↓w226_61, ↓w226_63, ↓w226_62 (hf h0), ↓m0_g0, ↓m0_g1, ↓m0_g2, ↓m0_g3, ↓m0_g4, ↓m0_g5, ↓m0_g6, ↓m0_g7, ↓m0_g8, ↓m0_g9, ↓m0_g10, ↓m0_g11, ↓m0_g12, ↓m0_g13, ↓m0_g14, ↓m0_g15, ↓m0_p0, ↓m0_p2, ↓m0_p3, ↓m0_p8, ↓m0_p9, ↓m0_p12, m0_r, hP, ↓pl_g0 hp, ↓pl_g1 hp, ↓pl_g2 hp, ↓pl_g3 hp, ↓pl_g4 hp, ↓pl_g5 hp, ↓pl_g6 hp, ↓pl_g7 hp, ↓pl_g8 hp, ↓pl_g9 hp, ↓pl_g10 hp, ↓pl_g11 hp, ↓pl_g12 hp, ↓pl_g13 hp, ↓pl_g14 hp, ↓pl_g15 hp, ↓pl_g16 hp, ↓pl_g17 hp, ↓pl_g18 hp, ↓pl_g19 hp, ↓pl_g20 hp, ↓pl_g21 hp, pl_r hp, hM, e0, h0, moV, icond_lt, icond_le, icond_gt, icond_ge, icond_eq, icond_ne, narrow_bool, true_or, or_true, if_true, if_false, cK_inl, toL_some, toL_none, psum_nil, psum_int, psum_ref, psum_null, psum_long, Nat.zero_le, Nat.reduceAdd, Nat.reduceLeDiff, kl_int, kl_ref, kl_none, kl_null, kl_long, ne_eq, not_false_eq_true]
theorem mo_eq (h : townR 0 b M A NR N β rk nt P S V) (hM : M ≤ 10) : moS S (Int32.ofNat M) = moV V M := by
  unfold moS moV
  have e := (moL_K (S := S) hM M 0 0 (by omega)).trans (moK_eq h M 0 0 (by omega))
  by_cases h0 : M = 0
  · subst h0
    rfl
  · have e0 : ¬ Int32.ofNat M ≤ 0 := fun q => absurd ((ofN_le (k := M) (m := 0) (by omega) (by omega)).mp q) (by omega)
    rw [if_neg e0, if_neg h0]
    exact congrArg (fun w => FP.ddiv (FP.i2d w) (FP.i2d (Int32.ofNat M))) e
end MEANB
