/-! THE FIRST OBJECTS: the words kept -/
section INTK
variable {l m : List PC} {R : Nat → Option PC} {b n2 d k j i w a : Nat} {Q : PO → Prop} {q : PC} {fs : List Value} {f : Nat → Int64} {z : Int64} {x : Int32} {h : PH} {l3 : Option Value}
def T1 : List Int32 := byS.getD 0 []
theorem T1_len : T1.length = 106 := by decide +kernel
def roT (R : Nat → Option PC) : Prop := R 1 = some (.inr (11, [.ref 100, .int 0])) ∧ R 100 = some (.inl (2, T1.length, .inl fun i => T1.getD i 0))
theorem t_g0 (hR : roT h.2) {K : Value → Prop} : gP (h.2 1) 11 0 K = K (.ref 100) := by rw [hR.1, gP_mk]; rfl
theorem t_g1 (hR : roT h.2) {K : Value → Prop} : gP (h.2 1) 11 1 K = K (.int 0) := by rw [hR.1, gP_mk]; rfl
theorem t_r (hR : roT h.2) {P : Prop} : rP (h.2 1) 11 P = P := by rw [hR.1, rP_mk]
theorem t_n (hR : roT h.2) {K : Int32 → Prop} : nP (h.2 100) K = K 106 := by
  rw [hR.2]
  show K (Int32.ofNat T1.length) = K 106
  rw [T1_len]
  rfl
theorem t_a (hR : roT h.2) (hi : i < 106) {K : Int32 → Prop} : aP true (h.2 100) (Int32.ofNat i) K = K (T1.getD i 0) := by
  rw [hR.2]
  refine (if_pos ⟨rfl, inB_nat (by rw [T1_len]; exact hi) (by omega)⟩).trans ?_
  rw [tN_nat (by omega)]
theorem t1_ch : ∀ i, i < 106 → ((T1.getD i 0 &&& 255).toUInt32 % 65536).toInt32 = T1.getD i 0 ∧ ((T1.getD i 0).toUInt32 % 65536).toInt32 = T1.getD i 0 := by decide +kernel
theorem t229 (hR : roT h.2) : Cp (d + 3) 229 [.ref 1] h Q = Q (.inl (some (.int 106)), h) := by
  simp +decide only [ce229, ↓w229_0, ↓w229_1, ↓w229_4, ↓w229_5, ↓w229_6, ↓w229_9, ↓w229_10, ce233, ↓w233_0, ↓w233_3, ↓w233_6, ↓w233_7, ↓w233_10, ↓w233_13, ↓w233_14, ↓t_g0 hR, ↓t_g1 hR, ↓t_r hR, ↓t_n hR, shr0, icond_lt, icond_le, icond_gt, icond_ge, icond_eq, icond_ne, narrow_bool, true_or, or_true, if_true, if_false, cK_inl, toL_some, toL_none, psum_nil, psum_int, psum_ref, psum_null, psum_long, Nat.zero_le, Nat.reduceAdd, Nat.reduceLeDiff, kl_int, kl_ref, kl_none, kl_null, kl_long, ne_eq, not_true, not_false_eq_true]
theorem t48 : Cp (d + 1) 48 [.long z, .int x] h Q = Q (.inl (some (.long (stL z x))), h) := by
  simp only [ce48, ↓w48_0, ↓w48_1, ↓w48_4, ↓w48_5, ↓w48_6, ↓w48_7, ↓w48_8, ↓w48_11, ↓w48_12, ↓w48_13, ↓w48_14, cK_inl, toL_some, toL_none, psum_nil, psum_int, psum_ref, psum_null, psum_long, Nat.zero_le, Nat.reduceAdd, Nat.reduceLeDiff, kl_int, kl_ref, kl_none, kl_null, kl_long]
  rfl
theorem t230 (hR : roT h.2) (hi : i < 106) : Cp (d + 5) 230 [.ref 1, .int (Int32.ofNat i)] h Q = Q (.inl (some (.int (T1.getD i 0))), h) := by
  have h0 : ¬ Int32.ofNat i < 0 := ofN_nn (by omega)
  have h1 : Int32.ofNat i < 106 := (ofN_lt (m := 106) (by omega) (by decide)).mpr hi
  have hc := (t1_ch i hi).1
  have hn : narrow FieldType.char (Value.int (T1.getD i 0)) = Value.int (T1.getD i 0) := congrArg Value.int (t1_ch i hi).2
  simp +decide only [ce230, ↓w230_0, ↓w230_1, ↓w230_4, ↓w230_7, ↓w230_8, ↓w230_11, ↓w230_12, ↓w230_15, ↓w230_16, ↓w230_17, ↓w230_20, ↓w230_24, ce234, ↓w234_0, ↓w234_3, ↓w234_6, ↓w234_7, ↓w234_10, ↓w234_13, ↓w234_14, ↓w234_17, ↓w234_18, ce236, ↓w236_0, ↓w236_1, ↓w236_2, ↓w236_3, ↓w236_6, ↓w236_7, ↓w236_8, ↓w236_9, ↓w236_12, ↓w236_13, ↓w236_14, ce235, ↓w235_0, ↓w235_1, ↓w235_2, ↓w235_5, ↓w235_8, ↓w235_8i, ↓w235_9, ce240, ↓w240_0, ↓w240_1, ↓w240_4, ↓w240_5, ↓w240_6, ↓w240_9, ↓w240_10, ↓w240_11, ↓w240_16, ↓w240_17, ↓t_g0 hR, ↓t_g1 hR, ↓t_r hR, ↓t_n hR, ↓t_a hR hi, h0, h1, hc, hn, icond_lt, icond_le, icond_gt, icond_ge, icond_eq, icond_ne, narrow_bool, true_or, or_true, if_true, if_false, cK_inl, toL_some, toL_none, psum_nil, psum_int, psum_ref, psum_null, psum_long, Nat.zero_le, Nat.reduceAdd, Nat.reduceLeDiff, kl_int, kl_ref, kl_none, kl_null, kl_long, ne_eq, not_true, not_false_eq_true]
/-- the tokens' object, with its words -/
def TK (b : Nat) (l : List PC) (f : Nat → Int64) (n2 : Nat) (R : Nat → Option PC) : PH := NB l [.inr (5, [.ref (b + 1), .ref (b + 2), .ref (b + 3), .ref (b + 4)]), .inl (0, 401, .inl fun _ => 0), .inl (0, 401, .inl fun _ => 0), .inl (1, 401, .inr (.inl fun _ => 0)), .inl (1, 23, .inr (.inl f))] n2 R
theorem tk_g (hb : b = 300 + l.length) {K : Value → Prop} : gP ((TK b l f n2 R).2 b) 5 3 K = K (.ref (b + 4)) := by
  unfold TK
  rw [NB_at0 hb, List.getElem?_cons_zero, gP_mk]
  rfl
theorem tk_4 (hb : b = 300 + l.length) : (TK b l f n2 R).2 (b + 4) = some (.inl (1, 23, .inr (.inl f))) := by
  unfold TK
  rw [NB_at hb]
  rfl
theorem tk_n (hb : b = 300 + l.length) {K : Int32 → Prop} : nP ((TK b l f n2 R).2 (b + 4)) K = K 23 := by
  rw [tk_4 hb]
  rfl
theorem tk_l (hb : b = 300 + l.length) (hw : w < 23) {K : Int64 → Prop} : lP ((TK b l f n2 R).2 (b + 4)) (Int32.ofNat w) K = K (f w) := by
  rw [tk_4 hb, lP_mk (inB_nat (by omega) (by omega)), tN_nat (by omega)]
theorem tk_s (hb : b = 300 + l.length) (hw : w < 23) {jj pc : Nat} {ls : PL} {st : List Value} : lsP ((TK b l f n2 R).2 (b + 4)) (b + 4) (Int32.ofNat w) z (fun q => Wp d jj pc ls st (hset (TK b l f n2 R) (b + 4) q) Q) = Wp d jj pc ls st (TK b l (vp_updL f w z) n2 R) Q := by
  rw [tk_4 hb, lsP_mk (by omega) (inB_nat (by omega) (by omega)), tN_nat (by omega)]
  unfold TK
  rw [NB_set hb (by simp)]
  rfl
theorem tk_T (h : roT R) : roT (TK b l f n2 R).2 := h
def rvF : List Int32 → Nat → (Nat → Int64) → (Nat → Int64)
  | [], _, f => f
  | x :: t, w, f => if x = 32 then rvF t (w + 1) f else if w < 23 then rvF t w (vp_updL f w (stL (f w) x)) else rvF t w f
theorem tk_loop (hb : b = 300 + l.length) (hR : roT R) : ∀ (k i w : Nat) (f : Nat → Int64) (l3 : Option Value), i + k = 106 → w ≤ i → Wp (d + 5) 40 43 [some (.ref b), some (.int (Int32.ofNat w)), some (.int (Int32.ofNat i)), l3] [] (TK b l f n2 R) Q = Q (.inl none, TK b l (rvF (T1.drop i) w f) n2 R) := by
  intro k
  induction k with
  | zero =>
    intro i w f l3 hi hw
    have h1 : (106 : Int32) ≤ Int32.ofNat i := (ofN_le (k := 106) (by decide) (by omega)).mpr (by omega)
    rw [List.drop_eq_nil_of_le (by rw [T1_len]; omega), rvF]
    simp +decide only [↓w40_43, ↓w40_44, ↓w40_46, ↓w40_49, ↓w40_102, ↓t_r (tk_T hR), ↓t229 (tk_T hR), h1, icond_lt, icond_le, icond_gt, icond_ge, icond_eq, icond_ne, narrow_bool, true_or, or_true, if_true, if_false, cK_inl, toL_some, toL_none, psum_nil, psum_int, psum_ref, psum_null, psum_long, Nat.zero_le, Nat.reduceAdd, Nat.reduceLeDiff, kl_int, kl_ref, kl_none, kl_null, kl_long, ne_eq, not_true, not_false_eq_true]
  | succ k ih =>
    intro i w f l3 hi hw
    have h1 : ¬ (106 : Int32) ≤ Int32.ofNat i := fun q => absurd ((ofN_le (k := 106) (by decide) (by omega)).mp q) (by omega)
    have hlt : i < T1.length := by rw [T1_len]; omega
    have ed : T1.drop i = T1.getD i 0 :: T1.drop (i + 1) := by
      rw [List.drop_eq_getElem_cons hlt, List.getD_eq_getElem?_getD, List.getElem?_eq_getElem hlt]
      rfl
    have e1 : Int32.ofNat i + 1 = Int32.ofNat (i + 1) := (Int32.ofNat_add i 1).symm
    have e2 : Int32.ofNat w + 1 = Int32.ofNat (w + 1) := (Int32.ofNat_add w 1).symm
    rw [ed, rvF]
    by_cases h32 : T1.getD i 0 = 32
    · rw [if_pos h32]
      rw [w40_43]
      simp +decide only [↓w40_44, ↓w40_46, ↓w40_49, ↓w40_52, ↓w40_54, ↓w40_55, ↓w40_58, ↓w40_59, ↓w40_60, ↓w40_62, ↓w40_65, ↓w40_68, ↓w40_96, ↓w40_99, ↓t_r (tk_T hR), ↓t229 (tk_T hR), ↓t230 (tk_T hR) (show i < 106 by omega), h1, h32, e1, e2, icond_lt, icond_le, icond_gt, icond_ge, icond_eq, icond_ne, narrow_bool, true_or, or_true, if_true, if_false, cK_inl, toL_some, toL_none, psum_nil, psum_int, psum_ref, psum_null, psum_long, Nat.zero_le, Nat.reduceAdd, Nat.reduceLeDiff, kl_int, kl_ref, kl_none, kl_null, kl_long, ne_eq, not_true, not_false_eq_true]
      exact ih (i + 1) (w + 1) _ _ (by omega) (by omega)
    · rw [if_neg h32]
      by_cases hw2 : w < 23
      · rw [if_pos hw2]
        have h2 : ¬ (23 : Int32) ≤ Int32.ofNat w := fun q => absurd ((ofN_le (k := 23) (by decide) (by omega)).mp q) (by omega)
        rw [w40_43]
        simp +decide only [↓w40_44, ↓w40_46, ↓w40_49, ↓w40_52, ↓w40_54, ↓w40_55, ↓w40_58, ↓w40_59, ↓w40_60, ↓w40_62, ↓w40_71, ↓w40_72, ↓w40_73, ↓w40_76, ↓w40_77, ↓w40_80, ↓w40_81, ↓w40_84, ↓w40_85, ↓w40_86, ↓w40_89, ↓w40_90, ↓w40_91, ↓w40_92, ↓w40_95, ↓w40_96, ↓w40_99, ↓t_r (tk_T hR), ↓t229 (tk_T hR), ↓t230 (tk_T hR) (show i < 106 by omega), ↓tk_g hb, ↓tk_n hb, ↓tk_l hb hw2, ↓tk_s hb hw2, ↓t48, h1, h32, h2, e1, icond_lt, icond_le, icond_gt, icond_ge, icond_eq, icond_ne, narrow_bool, true_or, or_true, if_true, if_false, cK_inl, toL_some, toL_none, psum_nil, psum_int, psum_ref, psum_null, psum_long, Nat.zero_le, Nat.reduceAdd, Nat.reduceLeDiff, kl_int, kl_ref, kl_none, kl_null, kl_long, ne_eq, not_true, not_false_eq_true]
        exact ih (i + 1) w _ _ (by omega) (by omega)
      · rw [if_neg hw2]
        have h2 : (23 : Int32) ≤ Int32.ofNat w := (ofN_le (k := 23) (by decide) (by omega)).mpr (by omega)
        rw [w40_43]
        simp +decide only [↓w40_44, ↓w40_46, ↓w40_49, ↓w40_52, ↓w40_54, ↓w40_55, ↓w40_58, ↓w40_59, ↓w40_60, ↓w40_62, ↓w40_71, ↓w40_72, ↓w40_73, ↓w40_76, ↓w40_77, ↓w40_96, ↓w40_99, ↓t_r (tk_T hR), ↓t229 (tk_T hR), ↓t230 (tk_T hR) (show i < 106 by omega), ↓tk_g hb, ↓tk_n hb, h1, h32, h2, e1, icond_lt, icond_le, icond_gt, icond_ge, icond_eq, icond_ne, narrow_bool, true_or, or_true, if_true, if_false, cK_inl, toL_some, toL_none, psum_nil, psum_int, psum_ref, psum_null, psum_long, Nat.zero_le, Nat.reduceAdd, Nat.reduceLeDiff, kl_int, kl_ref, kl_none, kl_null, kl_long, ne_eq, not_true, not_false_eq_true]
        exact ih (i + 1) w _ _ (by omega) (by omega)
theorem cn40 (hb : b = 300 + l.length) (hR : roT R) : Cp (d + 6) 40 [.ref b] (NB l [.inr (5, pd5)] n2 R) Q = Q (.inl none, TK b l (rvF T1 0 fun _ => 0) (n2 + 1226) R) := by
  rw [pd5]
  rw [ce40, w40_0, w40_1 ⟨by decide, by omega⟩, w40_4, w40_5, w40_8 (by decide), NB_c hb, NB_new]
  simp only [List.cons_append, List.nil_append, List.length_cons, List.length_nil, Nat.reduceAdd, arr0_0, arr0_1, tn_401]
  rw [w40_10, ft5_0, NB_put hb (by simp) fits_a nrw_a]
  simp only [List.set_cons_succ, List.set_cons_zero]
  rw [w40_13, w40_14, w40_17 (by decide), NB_c hb, NB_new]
  simp only [List.cons_append, List.nil_append, List.length_cons, List.length_nil, Nat.reduceAdd, arr0_0, arr0_1, tn_401]
  rw [w40_19, ft5_1, NB_put hb (by simp) fits_a nrw_a]
  simp only [List.set_cons_succ, List.set_cons_zero]
  rw [w40_22, w40_23, w40_26 (by decide), NB_c hb, NB_new]
  simp only [List.cons_append, List.nil_append, List.length_cons, List.length_nil, Nat.reduceAdd, arr0_0, arr0_1, tn_401]
  rw [w40_28, ft5_2, NB_put hb (by simp) fits_a nrw_a]
  simp only [List.set_cons_succ, List.set_cons_zero]
  rw [w40_31, w40_32, w40_34 (by decide), NB_c hb, NB_new]
  simp only [List.cons_append, List.nil_append, List.length_cons, List.length_nil, Nat.reduceAdd, arr0_0, arr0_1, tn_23]
  rw [w40_36, ft5_3, NB_put hb (by simp) fits_a nrw_a]
  simp only [List.set_cons_succ, List.set_cons_zero]
  have h := tk_loop (d := d) (Q := Q) (n2 := n2 + 1226) hb hR 106 0 0 (fun _ => 0) none rfl (Nat.le_refl _)
  rw [w40_39, w40_40, w40_41, w40_42]
  exact h
theorem rv_words : ∀ j, j < 23 → rvF T1 0 (fun _ => 0) j = valL (wdB j) := by decide +kernel
end INTK
