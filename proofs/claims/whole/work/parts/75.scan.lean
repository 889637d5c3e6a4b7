/-! THE CLASS CUTS A TAPE INTO TOKENS: one token, all tokens -/
section SCANB
variable {c : Nat × Nat × Nat} {S : S3} {L : L3} {R : Nat → Option PC} {d i k n : Nat} {x y : Int32} {z : Int64} {Q : PO → Prop} {T : Nat → Int32}
theorem lgc_self : lg_cmp z z = 0 := by
  simp [lg_cmp]
theorem lgc_ne {a b : Int64} (h : ¬ a = b) : ¬ lg_cmp a b = 0 := by
  simp only [lg_cmp, if_neg h]
  split <;> decide
/-- the kind of a word -/
def kw (L : L3) : Nat → Nat → Int64 → Int32
  | 0, _, _ => 23
  | k + 1, i, z => if L 4 2 i = z then Int32.ofNat i else kw L k (i + 1) z
theorem resv_n {K : Int32 → Prop} : nP ((CH c S L R).2 322) K = K 23 := by
  rw [resv_at]
  rfl
theorem resv_l {K : Int64 → Prop} (h : i < 23) : lP ((CH c S L R).2 322) (Int32.ofNat i) K = K (L 4 2 i) := by
  rw [resv_at]
  refine (if_pos (inB_nat h (by omega))).trans ?_
  rw [tN_nat (by omega)]
theorem k47_loop {z : Int64} : ∀ (k i : Nat), i + k = 23 → Wp (d + 1) 47 2 [some (.ref 318), some (.long z), none, some (.int (Int32.ofNat i))] [] (CH c S L R) Q = Q (.inl (some (.int (kw L k i z))), CH c S L R) := by
  intro k
  induction k with
  | zero =>
    intro i hi
    have e : (23 : Int32) ≤ Int32.ofNat i := (ofN_le (k := 23) (by omega) (by omega)).mpr (by omega)
    rw [w47_2]
    simp only [↓w47_0, ↓w47_1, ↓w47_3, ↓w47_4, ↓w47_7, ↓w47_8, ↓w47_11, ↓w47_12, ↓w47_15, ↓w47_16, ↓w47_17, ↓w47_18, ↓w47_19, ↓w47_22, ↓w47_23, ↓w47_24, ↓w47_27, ↓w47_30, ↓w47_32, ↓toks_g3, ↓resv_n, e, icond_lt, icond_le, icond_gt, icond_ge, icond_eq, icond_ne, narrow_bool, true_or, or_true, if_true, if_false, cK_inl, toL_some, toL_none, psum_nil, psum_int, psum_ref, psum_null, psum_long, Nat.zero_le, Nat.reduceAdd, Nat.reduceLeDiff, kl_int, kl_ref, kl_none, kl_null, kl_long, kw]
  | succ k ih =>
    intro i hi
    have e : ¬ (23 : Int32) ≤ Int32.ofNat i := fun q => absurd ((ofN_le (k := 23) (by omega) (by omega)).mp q) (by omega)
    have hi' : i < 23 := by omega
    rw [w47_2]
    by_cases h1 : L 4 2 i = z
    · subst h1
      simp +decide only [↓w47_0, ↓w47_1, ↓w47_3, ↓w47_4, ↓w47_7, ↓w47_8, ↓w47_11, ↓w47_12, ↓w47_15, ↓w47_16, ↓w47_17, ↓w47_18, ↓w47_19, ↓w47_22, ↓w47_23, ↓w47_24, ↓w47_27, ↓w47_30, ↓w47_32, ↓toks_g3, ↓resv_n, ↓resv_l hi', lgc_self, e, ofN_a1, icond_lt, icond_le, icond_gt, icond_ge, icond_eq, icond_ne, narrow_bool, true_or, or_true, if_true, if_false, cK_inl, toL_some, toL_none, psum_nil, psum_int, psum_ref, psum_null, psum_long, Nat.zero_le, Nat.reduceAdd, Nat.reduceLeDiff, kl_int, kl_ref, kl_none, kl_null, kl_long, kw, ne_eq, not_true, not_false_eq_true]
    · have h2 := lgc_ne h1
      simp +decide only [↓w47_0, ↓w47_1, ↓w47_3, ↓w47_4, ↓w47_7, ↓w47_8, ↓w47_11, ↓w47_12, ↓w47_15, ↓w47_16, ↓w47_17, ↓w47_18, ↓w47_19, ↓w47_22, ↓w47_23, ↓w47_24, ↓w47_27, ↓w47_30, ↓w47_32, ↓toks_g3, ↓resv_n, ↓resv_l hi', e, h1, h2, ofN_a1, icond_lt, icond_le, icond_gt, icond_ge, icond_eq, icond_ne, narrow_bool, true_or, or_true, if_true, if_false, cK_inl, toL_some, toL_none, psum_nil, psum_int, psum_ref, psum_null, psum_long, Nat.zero_le, Nat.reduceAdd, Nat.reduceLeDiff, kl_int, kl_ref, kl_none, kl_null, kl_long, kw, ne_eq, not_true, not_false_eq_true]
      exact ih (i + 1) (by omega)
theorem k47 : Cp (d + 2) 47 [.ref 318, .long z] (CH c S L R) Q = Q (.inl (some (.int (kw L 23 0 z))), CH c S L R) := by
  simp only [ce47, ↓w47_0, ↓w47_1, cK_inl, toL_some, toL_none, psum_nil, psum_int, psum_ref, psum_null, psum_long, Nat.zero_le, Nat.reduceAdd, Nat.reduceLeDiff, kl_int, kl_ref, kl_none, kl_null, kl_long]
  exact k47_loop 23 0 rfl
theorem k46 {t : Nat} (ht : t < 401) : Cp (d + 2) 46 [.ref 318, .int (Int32.ofNat t), .int x, .int y, .long z] (CH c S L R) Q = Q (.inl none, CH c (su (su S 4 211 t x) 4 212 t y) (sl L 4 1 t z) R) := by
  have h2 : t < 2 ^ 31 := by omega
  simp only [ce46, ↓w46_0, ↓w46_1, ↓w46_4, ↓w46_5, ↓w46_6, ↓w46_9, ↓w46_10, ↓w46_13, ↓w46_14, ↓w46_15, ↓w46_18, ↓w46_19, ↓w46_22, ↓w46_23, ↓w46_25, ↓w46_28, ↓toks_g0, ↓toks_g1, ↓toks_g2, kinds_put, starts_put, vals_put, pt_nat ht h2, ptL_nat ht h2, cK_inl, toL_some, toL_none, psum_nil, psum_int, psum_ref, psum_null, psum_long, Nat.zero_le, Nat.reduceAdd, Nat.reduceLeDiff, kl_int, kl_ref, kl_none, kl_null, kl_long]
def wdE (T : Nat → Int32) (i : Nat) : Nat := we T (1600 - i) i
def wdV (T : Nat → Int32) (i : Nat) : Int64 := wv T (1600 - i) i 0
def dgE (T : Nat → Int32) (i : Nat) : Nat := de T (1600 - i) i
def dgV (T : Nat → Int32) (i : Nat) : Int64 := dv T (1600 - i) i 0
theorem we_in : ∀ (k i : Nat), i ≤ we T k i ∧ we T k i ≤ i + k := by
  intro k
  induction k with
  | zero => intro i; exact ⟨Nat.le_refl _, Nat.le_refl _⟩
  | succ k ih =>
    intro i
    rw [we]
    have := ih (i + 1)
    split <;> omega
theorem de_in : ∀ (k i : Nat), i ≤ de T k i ∧ de T k i ≤ i + k := by
  intro k
  induction k with
  | zero => intro i; exact ⟨Nat.le_refl _, Nat.le_refl _⟩
  | succ k ih =>
    intro i
    rw [de]
    have := ih (i + 1)
    split <;> omega
theorem wdE_in (h : i ≤ 1600) : i ≤ wdE T i ∧ wdE T i ≤ 1600 := by
  have := we_in (T := T) (1600 - i) i
  unfold wdE
  omega
theorem dgE_in (h : i ≤ 1600) : i ≤ dgE T i ∧ dgE T i ≤ 1600 := by
  have := de_in (T := T) (1600 - i) i
  unfold dgE
  omega
theorem k44 {t : Nat} (ht : t < 401) (hT : tpT S T) (hi : i ≤ 1600) : Cp (d + 4) 44 [.ref 318, .ref 301, .int (Int32.ofNat i), .int (Int32.ofNat t)] (CH c S L R) Q = Q (.inl (some (.int (Int32.ofNat (wdE T i)))), CH c (su (su S 4 211 t (if 8 < wdE T i - i then 32 else kw L 23 0 (wdV T i))) 4 212 t (Int32.ofNat i)) (sl L 4 1 t (wdV T i)) R) := by
  have h1 := wdE_in (T := T) hi
  have e : Int32.ofNat (wdE T i) - Int32.ofNat i = Int32.ofNat (wdE T i - i) := ofN_sub h1.1
  have q := k44_loop (c := c) (S := S) (L := L) (R := R) (d := d + 1) (Q := Q) hT (x2 := Int32.ofNat i) (x3 := Int32.ofNat t) (1600 - i) i 0 (by omega)
  simp only [ce44, ↓w44_0, ↓w44_1, ↓w44_3, ↓w44_4, ↓w44_8, ↓w44_11, ↓w44_14, ↓w44_15, ↓w44_17, ↓w44_20, ↓w44_23, ↓w44_26, ↓w44_28, ↓w44_29, ↓w44_31, ↓w44_34, ↓w44_37, ↓w44_39, ↓w44_42, ↓w44_46, ↓w44_47, ↓w44_49, ↓w44_50, ↓w44_51, ↓w44_53, ↓w44_56, ↓w44_58, ↓w44_61, ↓w44_62, ↓w44_64, ↓w44_67, ↓w44_68, ↓w44_70, ↓w44_73, ↓w44_75, cK_inl, toL_some, toL_none, psum_nil, psum_int, psum_ref, psum_null, psum_long, Nat.zero_le, Nat.reduceAdd, Nat.reduceLeDiff, kl_int, kl_ref, kl_none, kl_null, kl_long]
  refine q.trans ?_
  rw [show we T (1600 - i) i = wdE T i from rfl, show wv T (1600 - i) i 0 = wdV T i from rfl]
  by_cases h8 : 8 < wdE T i - i
  · have e8 : ¬ Int32.ofNat (wdE T i - i) ≤ 8 := fun q => absurd ((ofN_le (m := 8) (by omega) (by omega)).mp q) (by omega)
    simp only [↓w44_0, ↓w44_1, ↓w44_3, ↓w44_4, ↓w44_8, ↓w44_11, ↓w44_14, ↓w44_15, ↓w44_17, ↓w44_20, ↓w44_23, ↓w44_26, ↓w44_28, ↓w44_29, ↓w44_31, ↓w44_34, ↓w44_37, ↓w44_39, ↓w44_42, ↓w44_45, ↓w44_46, ↓w44_47, ↓w44_49, ↓w44_50, ↓w44_51, ↓w44_53, ↓w44_56, ↓w44_58, ↓w44_61, ↓w44_62, ↓w44_64, ↓w44_67, ↓w44_68, ↓w44_70, ↓w44_73, ↓w44_75, ↓toks_r, e, e8, k46 ht, icond_lt, icond_le, icond_gt, icond_ge, icond_eq, icond_ne, narrow_bool, true_or, or_true, if_true, if_false, cK_inl, toL_some, toL_none, psum_nil, psum_int, psum_ref, psum_null, psum_long, Nat.zero_le, Nat.reduceAdd, Nat.reduceLeDiff, kl_int, kl_ref, kl_none, kl_null, kl_long, h8]
  · have e8 : Int32.ofNat (wdE T i - i) ≤ 8 := (show Int32.ofNat (wdE T i - i) ≤ Int32.ofNat 8 from (ofN_le (by omega) (by decide)).mpr (by omega))
    simp only [↓w44_0, ↓w44_1, ↓w44_3, ↓w44_4, ↓w44_8, ↓w44_11, ↓w44_14, ↓w44_15, ↓w44_17, ↓w44_20, ↓w44_23, ↓w44_26, ↓w44_28, ↓w44_29, ↓w44_31, ↓w44_34, ↓w44_37, ↓w44_39, ↓w44_42, ↓w44_45, ↓w44_46, ↓w44_47, ↓w44_49, ↓w44_50, ↓w44_51, ↓w44_53, ↓w44_56, ↓w44_58, ↓w44_61, ↓w44_62, ↓w44_64, ↓w44_67, ↓w44_68, ↓w44_70, ↓w44_73, ↓w44_75, ↓toks_r, e, e8, k46 ht, k47, icond_lt, icond_le, icond_gt, icond_ge, icond_eq, icond_ne, narrow_bool, true_or, or_true, if_true, if_false, cK_inl, toL_some, toL_none, psum_nil, psum_int, psum_ref, psum_null, psum_long, Nat.zero_le, Nat.reduceAdd, Nat.reduceLeDiff, kl_int, kl_ref, kl_none, kl_null, kl_long, h8]
theorem k45 {t : Nat} (ht : t < 401) (hT : tpT S T) (hi : i ≤ 1600) : Cp (d + 4) 45 [.ref 318, .ref 301, .int (Int32.ofNat i), .int (Int32.ofNat t)] (CH c S L R) Q = Q (.inl (some (.int (Int32.ofNat (dgE T i)))), CH c (su (su S 4 211 t (if 3 < dgE T i - i then 32 else 24)) 4 212 t (Int32.ofNat i)) (sl L 4 1 t (dgV T i)) R) := by
  have h1 := dgE_in (T := T) hi
  have e : Int32.ofNat (dgE T i) - Int32.ofNat i = Int32.ofNat (dgE T i - i) := ofN_sub h1.1
  have q := k45_loop (c := c) (S := S) (L := L) (R := R) (d := d + 1) (Q := Q) hT (x2 := Int32.ofNat i) (x3 := Int32.ofNat t) (1600 - i) i 0 (by omega)
  simp only [ce45, ↓w45_0, ↓w45_1, ↓w45_3, ↓w45_4, ↓w45_8, ↓w45_11, ↓w45_14, ↓w45_15, ↓w45_17, ↓w45_20, ↓w45_23, ↓w45_26, ↓w45_28, ↓w45_31, ↓w45_32, ↓w45_33, ↓w45_35, ↓w45_38, ↓w45_39, ↓w45_40, ↓w45_43, ↓w45_44, ↓w45_46, ↓w45_49, ↓w45_53, ↓w45_54, ↓w45_56, ↓w45_57, ↓w45_58, ↓w45_59, ↓w45_62, ↓w45_64, ↓w45_67, ↓w45_69, ↓w45_70, ↓w45_72, ↓w45_75, ↓w45_77, cK_inl, toL_some, toL_none, psum_nil, psum_int, psum_ref, psum_null, psum_long, Nat.zero_le, Nat.reduceAdd, Nat.reduceLeDiff, kl_int, kl_ref, kl_none, kl_null, kl_long]
  refine q.trans ?_
  rw [show de T (1600 - i) i = dgE T i from rfl, show dv T (1600 - i) i 0 = dgV T i from rfl]
  by_cases h8 : 3 < dgE T i - i
  · have e8 : ¬ Int32.ofNat (dgE T i - i) ≤ 3 := fun q => absurd ((ofN_le (m := 3) (by omega) (by omega)).mp q) (by omega)
    simp only [↓w45_0, ↓w45_1, ↓w45_3, ↓w45_4, ↓w45_8, ↓w45_11, ↓w45_14, ↓w45_15, ↓w45_17, ↓w45_20, ↓w45_23, ↓w45_26, ↓w45_28, ↓w45_31, ↓w45_32, ↓w45_33, ↓w45_35, ↓w45_38, ↓w45_39, ↓w45_40, ↓w45_43, ↓w45_44, ↓w45_46, ↓w45_49, ↓w45_52, ↓w45_53, ↓w45_54, ↓w45_56, ↓w45_57, ↓w45_58, ↓w45_59, ↓w45_62, ↓w45_64, ↓w45_67, ↓w45_69, ↓w45_70, ↓w45_72, ↓w45_75, ↓w45_77, ↓toks_r, e, e8, k46 ht, icond_lt, icond_le, icond_gt, icond_ge, icond_eq, icond_ne, narrow_bool, true_or, or_true, if_true, if_false, cK_inl, toL_some, toL_none, psum_nil, psum_int, psum_ref, psum_null, psum_long, Nat.zero_le, Nat.reduceAdd, Nat.reduceLeDiff, kl_int, kl_ref, kl_none, kl_null, kl_long, h8]
  · have e8 : Int32.ofNat (dgE T i - i) ≤ 3 := (show Int32.ofNat (dgE T i - i) ≤ Int32.ofNat 3 from (ofN_le (by omega) (by decide)).mpr (by omega))
    simp only [↓w45_0, ↓w45_1, ↓w45_3, ↓w45_4, ↓w45_8, ↓w45_11, ↓w45_14, ↓w45_15, ↓w45_17, ↓w45_20, ↓w45_23, ↓w45_26, ↓w45_28, ↓w45_31, ↓w45_32, ↓w45_33, ↓w45_35, ↓w45_38, ↓w45_39, ↓w45_40, ↓w45_43, ↓w45_44, ↓w45_46, ↓w45_49, ↓w45_52, ↓w45_53, ↓w45_54, ↓w45_56, ↓w45_57, ↓w45_58, ↓w45_59, ↓w45_62, ↓w45_64, ↓w45_67, ↓w45_69, ↓w45_70, ↓w45_72, ↓w45_75, ↓w45_77, ↓toks_r, e, e8, k46 ht, icond_lt, icond_le, icond_gt, icond_ge, icond_eq, icond_ne, narrow_bool, true_or, or_true, if_true, if_false, cK_inl, toL_some, toL_none, psum_nil, psum_int, psum_ref, psum_null, psum_long, Nat.zero_le, Nat.reduceAdd, Nat.reduceLeDiff, kl_int, kl_ref, kl_none, kl_null, kl_long, h8]
end SCANB
