/-! FEEDING, IN BOTH -/
theorem byte_and {x : Int32} : x.toInt8.toInt32 &&& 255 = x &&& 255 := by
  apply Int32.toBitVec_inj.mp
  rw [Int32.toBitVec_and, Int32.toBitVec_and, Int8.toBitVec_toInt32, Int32.toBitVec_toInt8]
  have e : (255 : Int32).toBitVec = 255#32 := rfl
  rw [e]
  apply BitVec.eq_of_getLsbD_eq
  intro i hi
  rw [BitVec.getLsbD_and, BitVec.getLsbD_and, BitVec.getLsbD_signExtend]
  by_cases h8 : i < 8
  · rw [if_pos h8, BitVec.getLsbD_signExtend, if_pos (by omega)]
    simp [h8, hi]
  · have : (255#32).getLsbD i = false := by
      have : 8 ≤ i := by omega
      rw [BitVec.getLsbD_ofNat]
      simp only [hi, decide_true, Bool.true_and]
      exact Nat.testBit_lt_two_pow (Nat.lt_of_lt_of_le (by decide : 255 < 2 ^ 8) (Nat.pow_le_pow_right (by decide) this))
    rw [this, Bool.and_false, Bool.and_false]
section FEED
variable {c : Nat × Nat × Nat} {C : Nat → Option PC} {S V P : S3} {W : L3} {R : Nat → Option PC} {pl n : Nat} {x s : Int32}
/-- new rows in the reference's heap -/
def upR (R : Nat → Option PC) (a : Nat) (q : PC) : Nat → Option PC := fun k => if k = a then some q else R k
theorem RP_new {c : Nat × Nat × Nat} {m : Nat} {q : PC} (h1 : 453 ≤ c.1) (h2 : pl + 16 ≤ c.1) : hnew (RP c C V W pl P R) m q = RP (c.1 + 1, c.2.1 + 1, c.2.2 + m) C V W pl P (upR R c.1 q) := by
  refine Prod.ext rfl (funext fun k => ?_)
  show (if k = c.1 then some q else if k < 395 then C k else gov tR 395 V W (gov tP pl P W R) k) = if k < 395 then C k else gov tR 395 V W (gov tP pl P W (upR R c.1 q)) k
  by_cases hk : k = c.1
  · subst hk
    rw [if_pos rfl, if_neg (by omega), gov_ge (by rw [tR_len]; omega), gov_ge (by rw [show tP.length = 16 from by decide]; omega), upR, if_pos rfl]
  · rw [if_neg hk]
    by_cases h3 : k < 395
    · rw [if_pos h3, if_pos h3]
    · rw [if_neg h3, if_neg h3]
      have e2 : gov tP pl P W R k = gov tP pl P W (upR R c.1 q) k := by
        simp only [gov, upR, if_neg hk]
      simp only [gov] at e2 ⊢
      split
      · split
        · rfl
        · exact e2
      · exact e2
theorem RP_at {a : Nat} {q : PC} (h1 : 453 ≤ a) (h2 : pl + 16 ≤ a) : (RP c C V W pl P (upR R a q)).2 a = some q := by
  rw [RP_st (by omega), gov_ge (by rw [tR_len]; omega), gov_ge (by rw [show tP.length = 16 from by decide]; omega), upR, if_pos rfl]
theorem upR_up {a : Nat} {q q' : PC} : upR (upR R a q) a q' = upR R a q' := by
  funext k
  unfold upR
  split <;> rfl
theorem RP_up {a : Nat} {q q' : PC} (h1 : 453 ≤ a) (h2 : pl + 16 ≤ a) : hset (RP c C V W pl P (upR R a q)) a q' = RP c C V W pl P (upR R a q') := by
  refine Prod.ext rfl (funext fun k => ?_)
  simp only [hset, RP]
  by_cases hk : k = a
  · subst hk
    rw [if_pos rfl, if_neg (by omega), gov_ge (by rw [tR_len]; omega), gov_ge (by rw [show tP.length = 16 from by decide]; omega), upR, if_pos rfl]
  · rw [if_neg hk]
    by_cases h3 : k < 395
    · rw [if_pos h3, if_pos h3]
    · rw [if_neg h3, if_neg h3]
      have e2 : gov tP pl P W (upR R a q) k = gov tP pl P W (upR R a q') k := by
        simp only [gov, upR, if_neg hk]
      simp only [gov] at e2 ⊢
      split
      · split
        · rfl
        · exact e2
      · exact e2
section NW
variable {a m d j pc : Nat} {f : Nat → Int32} {i y : Int32} {ls : PL} {st : List Value} {Q : PO → Prop}
theorem nw_s (h1 : 453 ≤ a) (h2 : pl + 16 ≤ a) (hi : inB i m = true) : asP false ((RP c C V W pl P (upR R a (.inl (0, m, .inl f)))).2 a) a i y (fun q => Wp d j pc ls st (hset (RP c C V W pl P (upR R a (.inl (0, m, .inl f)))) a q) Q) = Wp d j pc ls st (RP c C V W pl P (upR R a (.inl (0, m, .inl (upd f i.toNatClampNeg y))))) Q := by
  rw [RP_at h1 h2, asP_mk (by omega) hi, RP_up h1 h2]
theorem nw_a (h1 : 453 ≤ a) (h2 : pl + 16 ≤ a) (hi : inB i m = true) {K : Int32 → Prop} : aP false ((RP c C V W pl P (upR R a (.inl (0, m, .inl f)))).2 a) i K = K (f i.toNatClampNeg) := by
  rw [RP_at h1 h2, aP_mk hi]
theorem nw_n (h1 : 453 ≤ a) (h2 : pl + 16 ≤ a) {K : Int32 → Prop} : nP ((RP c C V W pl P (upR R a (.inl (0, m, .inl f)))).2 a) K = K (Int32.ofNat m) := by
  rw [RP_at h1 h2]
  rfl
end NW
/-- the tapes -/
def tpR (n : Nat) (S V : S3) : Prop := S 4 206 0 = Int32.ofNat n ∧ ∀ j, j < n → S 4 210 j &&& 255 = V 4 210 j
theorem ap1_tp (h : tpR n S V) (hn : n < 1600) : tpR (n + 1) (ap1 x s S) (su V 4 210 n ((x >>> (s &&& 31)) &&& 255)) := by
  have h0 : ¬ S 4 206 0 < 0 := by rw [h.1]; exact ofN_nn (by omega)
  have h1 : ¬ 1600 ≤ S 4 206 0 := by rw [h.1]; exact fun q => absurd ((ofN_le (k := 1600) (by omega) (by omega)).mp q) (by omega)
  unfold ap1
  rw [if_neg h0, if_neg h1, h.1, tN_nat (by omega), ofN_a1]
  refine ⟨su_self, fun j hj => ?_⟩
  rw [su_ne (by decide), su_at, su_at]
  by_cases e : j = n
  · rw [if_pos ⟨rfl, rfl, e⟩, if_pos ⟨rfl, rfl, e⟩, byte_and]
  · rw [if_neg (fun q => e q.2.2), if_neg (fun q => e q.2.2)]
    exact h.2 j (by omega)
def fdK (n : Nat) (f : Nat → Int32) : Nat → Nat → S3 → S3
  | 0, _, V => V
  | k + 1, i, V => fdK n f k (i + 1) (su V 4 210 (n + i) ((f (i / 4) >>> (Int32.ofNat (24 - 8 * (i % 4)) &&& 31)) &&& 255))
def apK (f : Nat → Int32) : Nat → Nat → S3 → S3
  | 0, _, S => S
  | k + 1, i, S => apK f k (i + 1) (ap1 (f (i / 4)) (Int32.ofNat (24 - 8 * (i % 4))) S)
theorem apK_tp {f : Nat → Int32} (hn : n ≤ 1580) : ∀ (k i : Nat) (S V : S3), i + k = 20 → tpR (n + i) S V → tpR (n + 20) (apK f k i S) (fdK n f k i V) := by
  intro k
  induction k with
  | zero => intro i S V h t; rw [show 20 = i by omega]; exact t
  | succ k ih =>
    intro i S V h t
    have t' := ap1_tp (x := f (i / 4)) (s := Int32.ofNat (24 - 8 * (i % 4))) t (show n + i < 1600 by omega)
    exact ih (i + 1) _ _ (by omega) t'
theorem fdS_apK {f : Nat → Int32} : fdS (f 0) (f 1) (f 2) (f 3) (f 4) S = apK f 20 0 S := by
  simp only [apK, fdS, apS, Nat.reduceAdd, Nat.reduceDiv, Nat.reduceMod, Nat.reduceMul, Nat.reduceSub]
  rfl
theorem fd_tp {f : Nat → Int32} (h : tpR n S V) (hn : n ≤ 1580) : tpR (n + 20) (fdS (f 0) (f 1) (f 2) (f 3) (f 4) S) (fdK n f 20 0 V) := by
  rw [fdS_apK]
  exact apK_tp hn 20 0 S V rfl h
theorem div4 {k : Nat} (hk : k < 20) : Int32.ofNat k / 4 = Int32.ofNat (k / 4) ∧ Int32.ofNat k - Int32.ofNat (k / 4) * 4 = Int32.ofNat (k % 4) := by
  have h1 : Int32.ofNat k / 4 = Int32.ofNat (k / 4) := by
    apply Int32.toInt_inj.mp
    rw [Int32.toInt_div, Int32.toInt_ofNat_of_lt (by omega), Int32.toInt_ofNat_of_lt (by omega)]
    have h20 : (4 : Int32).toInt = 4 := by decide
    rw [h20, Int.tdiv_eq_ediv_of_nonneg (by omega)]
    exact Int.bmod_eq_of_le (by omega) (by omega)
  refine ⟨h1, ?_⟩
  have h2 : k = k / 4 * 4 + k % 4 := by omega
  have h3 : Int32.ofNat (k / 4) * 4 = Int32.ofNat (k / 4 * 4) := by rw [Int32.ofNat_mul]; rfl
  rw [h3]
  conv => lhs; lhs; rw [h2]
  rw [Int32.ofNat_add, Int32.add_comm]
  exact Int32.add_sub_cancel _ _
theorem r181_loop {a : Nat} {f : Nat → Int32} {y1 y2 y3 y4 y5 : Int32} (h1 : 453 ≤ a) (h2 : pl + 16 ≤ a) (hn : n ≤ 1580) : ∀ (k i : Nat) (V : S3), i + k = 20 → V 4 201 0 = Int32.ofNat n → ∀ (d : Nat) (Q : PO → Prop), Wp (d + 1) 181 51 [some (.ref 395), some (.int y1), some (.int y2), some (.int y3), some (.int y4), some (.int y5), some (.ref a), some (.int (Int32.ofNat i))] [] (RP c C V W pl P (upR R a (.inl (0, 5, .inl f)))) Q
    = Q (.inl (some (.int (Int32.ofNat (n + 20)))), RP c C (su (fdK n f k i V) 4 201 0 (Int32.ofNat (n + 20))) W pl P (upR R a (.inl (0, 5, .inl f)))) := by
  intro k
  induction k with
  | zero =>
    intro i V hi hV d Q
    have e : (20 : Int32) ≤ Int32.ofNat i := (ofN_le (k := 20) (by omega) (by omega)).mpr (by omega)
    have e20 : Int32.ofNat n + 20 = Int32.ofNat (n + 20) := by rw [Int32.ofNat_add]; rfl
    rw [w181_51]
    simp only [↓w181_0, ↓w181_1, ↓w181_2, ↓w181_5, ↓w181_6, ↓w181_9, ↓w181_12, ↓w181_15, ↓w181_16, ↓w181_17, ↓w181_20, ↓w181_21, ↓w181_22, ↓w181_24, ↓w181_24i, ↓w181_25, ↓w181_26, ↓w181_27, ↓w181_28, ↓w181_28i, ↓w181_29, ↓w181_30, ↓w181_31, ↓w181_32, ↓w181_32i, ↓w181_33, ↓w181_34, ↓w181_35, ↓w181_36, ↓w181_36i, ↓w181_37, ↓w181_38, ↓w181_40, ↓w181_41, ↓w181_41i, ↓w181_42, ↓w181_43, ↓w181_45, ↓w181_46, ↓w181_48, ↓w181_49, ↓w181_53, ↓w181_55, ↓w181_58, ↓w181_59, ↓w181_62, ↓w181_63, ↓w181_66, ↓w181_68, ↓w181_69, ↓w181_71, ↓w181_73, ↓w181_74, ↓w181_75, ↓w181_76, ↓w181_78, ↓w181_80, ↓w181_82, ↓w181_83, ↓w181_84, ↓w181_85, ↓w181_86, ↓w181_87, ↓w181_90, ↓w181_91, ↓w181_92, ↓w181_95, ↓w181_98, ↓w181_99, ↓w181_99i, ↓w181_100, ↓w181_103, ↓w181_105, ↓w181_106, ↓w181_109, ↓w181_110, ↓w181_113, ↓m0_g0, ↓m0_g1, ↓m0_g2, ↓m0_g3, ↓m0_g4, ↓m0_g5, ↓m0_g6, ↓m0_g7, ↓m0_g8, ↓m0_g9, ↓m0_g10, ↓m0_g11, ↓m0_g12, ↓m0_g13, ↓m0_g14, ↓m0_g15, ↓m0_p0, ↓m0_p2, ↓m0_p3, ↓m0_p8, ↓m0_p9, ↓m0_p12, m0_r, hV, e, e20, fdK, icond_lt, icond_le, icond_gt, icond_ge, icond_eq, icond_ne, narrow_bool, true_or, or_true, if_true, if_false, cK_inl, toL_some, toL_none, psum_nil, psum_int, psum_ref, psum_null, psum_long, Nat.zero_le, Nat.reduceAdd, Nat.reduceLeDiff, kl_int, kl_ref, kl_none, kl_null, kl_long, su_at, sr_at, Nat.reduceEqDiff, Nat.add_eq_left, Nat.add_right_cancel_iff, and_false, false_and, and_true, true_and, and_self, if_true, if_false, ↓reduceIte]
  | succ k ih =>
    intro i V hi' hV d Q
    have e : ¬ (20 : Int32) ≤ Int32.ofNat i := fun q => absurd ((ofN_le (k := 20) (by omega) (by omega)).mp q) (by omega)
    obtain ⟨d1, d2⟩ := div4 (show i < 20 by omega)
    have z4 : (4 : Int32) ≠ 0 := by decide
    have hi4 : inB (Int32.ofNat (i / 4)) 5 = true := inB_nat (by omega) (by omega)
    have e8 : (8 : Int32) * Int32.ofNat (i % 4) = Int32.ofNat (8 * (i % 4)) := (Int32.ofNat_mul 8 (i % 4)).symm
    have e24 : (24 : Int32) - Int32.ofNat (8 * (i % 4)) = Int32.ofNat (24 - 8 * (i % 4)) := ofN_sub (a := 24) (by omega)
    have hi : n + i < 1600 := by omega
    rw [w181_51, fdK]
    simp only [↓w181_0, ↓w181_1, ↓w181_2, ↓w181_5, ↓w181_6, ↓w181_9, ↓w181_12, ↓w181_15, ↓w181_16, ↓w181_17, ↓w181_20, ↓w181_21, ↓w181_22, ↓w181_24, ↓w181_24i, ↓w181_25, ↓w181_26, ↓w181_27, ↓w181_28, ↓w181_28i, ↓w181_29, ↓w181_30, ↓w181_31, ↓w181_32, ↓w181_32i, ↓w181_33, ↓w181_34, ↓w181_35, ↓w181_36, ↓w181_36i, ↓w181_37, ↓w181_38, ↓w181_40, ↓w181_41, ↓w181_41i, ↓w181_42, ↓w181_43, ↓w181_45, ↓w181_46, ↓w181_48, ↓w181_49, ↓w181_53, ↓w181_55, ↓w181_58, ↓w181_59, ↓w181_62, ↓w181_63, ↓w181_66, ↓w181_68, ↓w181_69, ↓w181_71, ↓w181_73, ↓w181_75, ↓w181_76, ↓w181_78, ↓w181_80, ↓w181_82, ↓w181_84, ↓w181_85, ↓w181_86, ↓w181_87, ↓w181_90, ↓w181_92, ↓w181_95, ↓w181_98, ↓w181_99, ↓w181_99i, ↓w181_100, ↓w181_103, ↓w181_105, ↓w181_106, ↓w181_109, ↓w181_110, ↓w181_113, ↓w181_74 z4, ↓w181_83 z4, ↓m0_g0, ↓m0_g1, ↓m0_g2, ↓m0_g3, ↓m0_g4, ↓m0_g5, ↓m0_g6, ↓m0_g7, ↓m0_g8, ↓m0_g9, ↓m0_g10, ↓m0_g11, ↓m0_g12, ↓m0_g13, ↓m0_g14, ↓m0_g15, ↓m0_p0, ↓m0_p2, ↓m0_p3, ↓m0_p8, ↓m0_p9, ↓m0_p12, m0_r, hV, e, ofN_add, d1, d2, e8, e24, ↓nw_a h1 h2 hi4, tN_nat (show i / 4 < 2 ^ 31 by omega), icond_lt, icond_le, icond_gt, icond_ge, icond_eq, icond_ne, narrow_bool, true_or, or_true, if_true, if_false, cK_inl, toL_some, toL_none, psum_nil, psum_int, psum_ref, psum_null, psum_long, Nat.zero_le, Nat.reduceAdd, Nat.reduceLeDiff, kl_int, kl_ref, kl_none, kl_null, kl_long]
    rw [w181_91]
    simp only [↓w181_0, ↓w181_1, ↓w181_2, ↓w181_5, ↓w181_6, ↓w181_9, ↓w181_12, ↓w181_15, ↓w181_16, ↓w181_17, ↓w181_20, ↓w181_21, ↓w181_22, ↓w181_24, ↓w181_24i, ↓w181_25, ↓w181_26, ↓w181_27, ↓w181_28, ↓w181_28i, ↓w181_29, ↓w181_30, ↓w181_31, ↓w181_32, ↓w181_32i, ↓w181_33, ↓w181_34, ↓w181_35, ↓w181_36, ↓w181_36i, ↓w181_37, ↓w181_38, ↓w181_40, ↓w181_41, ↓w181_41i, ↓w181_42, ↓w181_43, ↓w181_45, ↓w181_46, ↓w181_48, ↓w181_49, ↓w181_53, ↓w181_55, ↓w181_58, ↓w181_59, ↓w181_62, ↓w181_63, ↓w181_66, ↓w181_68, ↓w181_69, ↓w181_71, ↓w181_73, ↓w181_75, ↓w181_76, ↓w181_78, ↓w181_80, ↓w181_82, ↓w181_84, ↓w181_85, ↓w181_86, ↓w181_87, ↓w181_90, ↓w181_92, ↓w181_95, ↓w181_98, ↓w181_99, ↓w181_99i, ↓w181_100, ↓w181_103, ↓w181_105, ↓w181_106, ↓w181_109, ↓w181_110, ↓w181_113, ↓m_tape_s hi, ofN_a1, cK_inl, toL_some, toL_none, psum_nil, psum_int, psum_ref, psum_null, psum_long, Nat.zero_le, Nat.reduceAdd, Nat.reduceLeDiff, kl_int, kl_ref, kl_none, kl_null, kl_long]
    rw [ih (i + 1) _ (by omega) (by rw [su_ne (by decide)]; exact hV) d Q]
def fd5 (x1 x2 x3 x4 x5 : Int32) : Nat → Int32 := upd (upd (upd (upd (upd (fun _ => 0) 0 x1) 1 x2) 2 x3) 3 x4) 4 x5
theorem r181_c {x1 x2 x3 x4 x5 : Int32} (h1 : 453 ≤ c.1) (h2 : pl + 16 ≤ c.1) (hV : V 4 201 0 = Int32.ofNat n) (hn : n ≤ 1580) (d : Nat) (Q : PO → Prop) : Cp (d + 2) 181 [.ref 395, .int x1, .int x2, .int x3, .int x4, .int x5] (RP c C V W pl P R) Q = Q (.inl (some (.int (Int32.ofNat (n + 20)))), RP (c.1 + 1, c.2.1 + 1, c.2.2 + 5) C (su (fdK n (fd5 x1 x2 x3 x4 x5) 20 0 (su V 4 200 0 0)) 4 201 0 (Int32.ofNat (n + 20))) W pl P (upR R c.1 (.inl (0, 5, .inl (fd5 x1 x2 x3 x4 x5))))) := by
  have e0 : su V 4 200 0 0 4 201 0 = Int32.ofNat n := by rw [su_ne (by decide)]; exact hV
  have e : Int32.ofNat n ≤ 1580 := (show Int32.ofNat n ≤ Int32.ofNat 1580 from (ofN_le (by omega) (by decide)).mpr hn)
  rw [ce181]
  simp only [↓w181_0, ↓w181_1, ↓w181_2, ↓w181_5, ↓w181_6, ↓w181_9, ↓w181_12, ↓w181_15, ↓w181_16, ↓w181_17, ↓w181_20, ↓w181_21, ↓w181_22, ↓w181_24, ↓w181_24i, ↓w181_25, ↓w181_26, ↓w181_28, ↓w181_28i, ↓w181_29, ↓w181_30, ↓w181_31, ↓w181_32, ↓w181_32i, ↓w181_33, ↓w181_34, ↓w181_35, ↓w181_36, ↓w181_36i, ↓w181_37, ↓w181_38, ↓w181_40, ↓w181_41, ↓w181_41i, ↓w181_42, ↓w181_43, ↓w181_45, ↓w181_46, ↓w181_48, ↓w181_49, ↓w181_53, ↓w181_55, ↓w181_58, ↓w181_59, ↓w181_62, ↓w181_63, ↓w181_66, ↓w181_68, ↓w181_69, ↓w181_71, ↓w181_73, ↓w181_74, ↓w181_75, ↓w181_76, ↓w181_78, ↓w181_80, ↓w181_82, ↓w181_83, ↓w181_84, ↓w181_85, ↓w181_86, ↓w181_87, ↓w181_90, ↓w181_91, ↓w181_92, ↓w181_95, ↓w181_98, ↓w181_99, ↓w181_99i, ↓w181_100, ↓w181_103, ↓w181_105, ↓w181_106, ↓w181_109, ↓w181_110, ↓w181_113, ↓m0_g0, ↓m0_g1, ↓m0_g2, ↓m0_g3, ↓m0_g4, ↓m0_g5, ↓m0_g6, ↓m0_g7, ↓m0_g8, ↓m0_g9, ↓m0_g10, ↓m0_g11, ↓m0_g12, ↓m0_g13, ↓m0_g14, ↓m0_g15, ↓m0_p0, ↓m0_p2, ↓m0_p3, ↓m0_p8, ↓m0_p9, ↓m0_p12, m0_r, e0, e, icond_lt, icond_le, icond_gt, icond_ge, icond_eq, icond_ne, narrow_bool, true_or, or_true, if_true, if_false, cK_inl, toL_some, toL_none, psum_nil, psum_int, psum_ref, psum_null, psum_long, Nat.zero_le, Nat.reduceAdd, Nat.reduceLeDiff, kl_int, kl_ref, kl_none, kl_null, kl_long, su_at, sr_at, Nat.reduceEqDiff, Nat.add_eq_left, Nat.add_right_cancel_iff, and_false, false_and, and_true, true_and, and_self, if_true, if_false, ↓reduceIte]
  rw [w181_22 (by decide), show (5 : Int32).toNatClampNeg = 5 from by decide, show arr0 0 5 = ((5, .inl fun _ => 0) : Nat × _) from rfl]
  have ea : (RP c C (su V 4 200 0 0) W pl P R).1.1 = c.1 := rfl
  rw [ea, RP_new h1 h2]
  simp only [↓w181_0, ↓w181_1, ↓w181_2, ↓w181_5, ↓w181_6, ↓w181_9, ↓w181_12, ↓w181_15, ↓w181_16, ↓w181_17, ↓w181_20, ↓w181_21, ↓w181_22, ↓w181_24, ↓w181_24i, ↓w181_25, ↓w181_26, ↓w181_28, ↓w181_28i, ↓w181_29, ↓w181_30, ↓w181_32, ↓w181_32i, ↓w181_33, ↓w181_34, ↓w181_36, ↓w181_36i, ↓w181_37, ↓w181_38, ↓w181_41, ↓w181_41i, ↓w181_42, ↓w181_43, ↓w181_46, ↓w181_48, ↓w181_49, ↓w181_53, ↓w181_55, ↓w181_58, ↓w181_59, ↓w181_62, ↓w181_63, ↓w181_66, ↓w181_68, ↓w181_69, ↓w181_71, ↓w181_73, ↓w181_74, ↓w181_75, ↓w181_76, ↓w181_78, ↓w181_80, ↓w181_82, ↓w181_83, ↓w181_84, ↓w181_85, ↓w181_86, ↓w181_87, ↓w181_90, ↓w181_91, ↓w181_92, ↓w181_95, ↓w181_98, ↓w181_99, ↓w181_99i, ↓w181_100, ↓w181_103, ↓w181_105, ↓w181_106, ↓w181_109, ↓w181_110, ↓w181_113, cK_inl, toL_some, toL_none, psum_nil, psum_int, psum_ref, psum_null, psum_long, Nat.zero_le, Nat.reduceAdd, Nat.reduceLeDiff, kl_int, kl_ref, kl_none, kl_null, kl_long]
  rw [w181_27, nw_s h1 h2 (by decide)]
  simp only [↓w181_0, ↓w181_1, ↓w181_2, ↓w181_5, ↓w181_6, ↓w181_9, ↓w181_12, ↓w181_15, ↓w181_16, ↓w181_17, ↓w181_20, ↓w181_21, ↓w181_22, ↓w181_24, ↓w181_24i, ↓w181_25, ↓w181_26, ↓w181_28, ↓w181_28i, ↓w181_29, ↓w181_30, ↓w181_32, ↓w181_32i, ↓w181_33, ↓w181_34, ↓w181_36, ↓w181_36i, ↓w181_37, ↓w181_38, ↓w181_41, ↓w181_41i, ↓w181_42, ↓w181_43, ↓w181_46, ↓w181_48, ↓w181_49, ↓w181_53, ↓w181_55, ↓w181_58, ↓w181_59, ↓w181_62, ↓w181_63, ↓w181_66, ↓w181_68, ↓w181_69, ↓w181_71, ↓w181_73, ↓w181_74, ↓w181_75, ↓w181_76, ↓w181_78, ↓w181_80, ↓w181_82, ↓w181_83, ↓w181_84, ↓w181_85, ↓w181_86, ↓w181_87, ↓w181_90, ↓w181_91, ↓w181_92, ↓w181_95, ↓w181_98, ↓w181_99, ↓w181_99i, ↓w181_100, ↓w181_103, ↓w181_105, ↓w181_106, ↓w181_109, ↓w181_110, ↓w181_113, cK_inl, toL_some, toL_none, psum_nil, psum_int, psum_ref, psum_null, psum_long, Nat.zero_le, Nat.reduceAdd, Nat.reduceLeDiff, kl_int, kl_ref, kl_none, kl_null, kl_long]
  rw [w181_31, nw_s h1 h2 (by decide)]
  simp only [↓w181_0, ↓w181_1, ↓w181_2, ↓w181_5, ↓w181_6, ↓w181_9, ↓w181_12, ↓w181_15, ↓w181_16, ↓w181_17, ↓w181_20, ↓w181_21, ↓w181_22, ↓w181_24, ↓w181_24i, ↓w181_25, ↓w181_26, ↓w181_28, ↓w181_28i, ↓w181_29, ↓w181_30, ↓w181_32, ↓w181_32i, ↓w181_33, ↓w181_34, ↓w181_36, ↓w181_36i, ↓w181_37, ↓w181_38, ↓w181_41, ↓w181_41i, ↓w181_42, ↓w181_43, ↓w181_46, ↓w181_48, ↓w181_49, ↓w181_53, ↓w181_55, ↓w181_58, ↓w181_59, ↓w181_62, ↓w181_63, ↓w181_66, ↓w181_68, ↓w181_69, ↓w181_71, ↓w181_73, ↓w181_74, ↓w181_75, ↓w181_76, ↓w181_78, ↓w181_80, ↓w181_82, ↓w181_83, ↓w181_84, ↓w181_85, ↓w181_86, ↓w181_87, ↓w181_90, ↓w181_91, ↓w181_92, ↓w181_95, ↓w181_98, ↓w181_99, ↓w181_99i, ↓w181_100, ↓w181_103, ↓w181_105, ↓w181_106, ↓w181_109, ↓w181_110, ↓w181_113, cK_inl, toL_some, toL_none, psum_nil, psum_int, psum_ref, psum_null, psum_long, Nat.zero_le, Nat.reduceAdd, Nat.reduceLeDiff, kl_int, kl_ref, kl_none, kl_null, kl_long]
  rw [w181_35, nw_s h1 h2 (by decide)]
  simp only [↓w181_0, ↓w181_1, ↓w181_2, ↓w181_5, ↓w181_6, ↓w181_9, ↓w181_12, ↓w181_15, ↓w181_16, ↓w181_17, ↓w181_20, ↓w181_21, ↓w181_22, ↓w181_24, ↓w181_24i, ↓w181_25, ↓w181_26, ↓w181_28, ↓w181_28i, ↓w181_29, ↓w181_30, ↓w181_32, ↓w181_32i, ↓w181_33, ↓w181_34, ↓w181_36, ↓w181_36i, ↓w181_37, ↓w181_38, ↓w181_41, ↓w181_41i, ↓w181_42, ↓w181_43, ↓w181_46, ↓w181_48, ↓w181_49, ↓w181_53, ↓w181_55, ↓w181_58, ↓w181_59, ↓w181_62, ↓w181_63, ↓w181_66, ↓w181_68, ↓w181_69, ↓w181_71, ↓w181_73, ↓w181_74, ↓w181_75, ↓w181_76, ↓w181_78, ↓w181_80, ↓w181_82, ↓w181_83, ↓w181_84, ↓w181_85, ↓w181_86, ↓w181_87, ↓w181_90, ↓w181_91, ↓w181_92, ↓w181_95, ↓w181_98, ↓w181_99, ↓w181_99i, ↓w181_100, ↓w181_103, ↓w181_105, ↓w181_106, ↓w181_109, ↓w181_110, ↓w181_113, cK_inl, toL_some, toL_none, psum_nil, psum_int, psum_ref, psum_null, psum_long, Nat.zero_le, Nat.reduceAdd, Nat.reduceLeDiff, kl_int, kl_ref, kl_none, kl_null, kl_long]
  rw [w181_40, nw_s h1 h2 (by decide)]
  simp only [↓w181_0, ↓w181_1, ↓w181_2, ↓w181_5, ↓w181_6, ↓w181_9, ↓w181_12, ↓w181_15, ↓w181_16, ↓w181_17, ↓w181_20, ↓w181_21, ↓w181_22, ↓w181_24, ↓w181_24i, ↓w181_25, ↓w181_26, ↓w181_28, ↓w181_28i, ↓w181_29, ↓w181_30, ↓w181_32, ↓w181_32i, ↓w181_33, ↓w181_34, ↓w181_36, ↓w181_36i, ↓w181_37, ↓w181_38, ↓w181_41, ↓w181_41i, ↓w181_42, ↓w181_43, ↓w181_46, ↓w181_48, ↓w181_49, ↓w181_53, ↓w181_55, ↓w181_58, ↓w181_59, ↓w181_62, ↓w181_63, ↓w181_66, ↓w181_68, ↓w181_69, ↓w181_71, ↓w181_73, ↓w181_74, ↓w181_75, ↓w181_76, ↓w181_78, ↓w181_80, ↓w181_82, ↓w181_83, ↓w181_84, ↓w181_85, ↓w181_86, ↓w181_87, ↓w181_90, ↓w181_91, ↓w181_92, ↓w181_95, ↓w181_98, ↓w181_99, ↓w181_99i, ↓w181_100, ↓w181_103, ↓w181_105, ↓w181_106, ↓w181_109, ↓w181_110, ↓w181_113, cK_inl, toL_some, toL_none, psum_nil, psum_int, psum_ref, psum_null, psum_long, Nat.zero_le, Nat.reduceAdd, Nat.reduceLeDiff, kl_int, kl_ref, kl_none, kl_null, kl_long]
  rw [w181_45, nw_s h1 h2 (by decide)]
  simp only [↓w181_0, ↓w181_1, ↓w181_2, ↓w181_5, ↓w181_6, ↓w181_9, ↓w181_12, ↓w181_15, ↓w181_16, ↓w181_17, ↓w181_20, ↓w181_21, ↓w181_22, ↓w181_24, ↓w181_24i, ↓w181_25, ↓w181_26, ↓w181_28, ↓w181_28i, ↓w181_29, ↓w181_30, ↓w181_32, ↓w181_32i, ↓w181_33, ↓w181_34, ↓w181_36, ↓w181_36i, ↓w181_37, ↓w181_38, ↓w181_41, ↓w181_41i, ↓w181_42, ↓w181_43, ↓w181_46, ↓w181_48, ↓w181_49, ↓w181_53, ↓w181_55, ↓w181_58, ↓w181_59, ↓w181_62, ↓w181_63, ↓w181_66, ↓w181_68, ↓w181_69, ↓w181_71, ↓w181_73, ↓w181_74, ↓w181_75, ↓w181_76, ↓w181_78, ↓w181_80, ↓w181_82, ↓w181_83, ↓w181_84, ↓w181_85, ↓w181_86, ↓w181_87, ↓w181_90, ↓w181_91, ↓w181_92, ↓w181_95, ↓w181_98, ↓w181_99, ↓w181_99i, ↓w181_100, ↓w181_103, ↓w181_105, ↓w181_106, ↓w181_109, ↓w181_110, ↓w181_113, cK_inl, toL_some, toL_none, psum_nil, psum_int, psum_ref, psum_null, psum_long, Nat.zero_le, Nat.reduceAdd, Nat.reduceLeDiff, kl_int, kl_ref, kl_none, kl_null, kl_long]
  exact r181_loop (c := (c.1 + 1, c.2.1 + 1, c.2.2 + 5)) (a := c.1) (f := fd5 x1 x2 x3 x4 x5) h1 h2 hn 20 0 _ rfl e0 d Q
theorem r181_a {x1 x2 x3 x4 x5 : Int32} (hV : V 4 201 0 = Int32.ofNat n) (hn : 1580 < n) (hn' : n ≤ 1600) (d : Nat) (Q : PO → Prop) : Cp (d + 2) 181 [.ref 395, .int x1, .int x2, .int x3, .int x4, .int x5] (RP c C V W pl P R) Q = Q (.inl (some (.int 0)), RP c C (su V 4 200 0 1) W pl P R) := by
  have e0 : su V 4 200 0 0 4 201 0 = Int32.ofNat n := by rw [su_ne (by decide)]; exact hV
  have e : ¬ Int32.ofNat n ≤ 1580 := fun q => absurd ((ofN_le (m := 1580) (by omega) (by decide)).mp q) (by omega)
  rw [ce181]
  simp only [↓w181_0, ↓w181_1, ↓w181_2, ↓w181_5, ↓w181_6, ↓w181_9, ↓w181_12, ↓w181_15, ↓w181_16, ↓w181_17, ↓w181_20, ↓w181_21, ↓w181_22, ↓w181_24, ↓w181_24i, ↓w181_25, ↓w181_26, ↓w181_28, ↓w181_28i, ↓w181_29, ↓w181_30, ↓w181_31, ↓w181_32, ↓w181_32i, ↓w181_33, ↓w181_34, ↓w181_35, ↓w181_36, ↓w181_36i, ↓w181_37, ↓w181_38, ↓w181_40, ↓w181_41, ↓w181_41i, ↓w181_42, ↓w181_43, ↓w181_45, ↓w181_46, ↓w181_48, ↓w181_49, ↓w181_53, ↓w181_55, ↓w181_58, ↓w181_59, ↓w181_62, ↓w181_63, ↓w181_66, ↓w181_68, ↓w181_69, ↓w181_71, ↓w181_73, ↓w181_74, ↓w181_75, ↓w181_76, ↓w181_78, ↓w181_80, ↓w181_82, ↓w181_83, ↓w181_84, ↓w181_85, ↓w181_86, ↓w181_87, ↓w181_90, ↓w181_91, ↓w181_92, ↓w181_95, ↓w181_98, ↓w181_99, ↓w181_99i, ↓w181_100, ↓w181_103, ↓w181_105, ↓w181_106, ↓w181_109, ↓w181_110, ↓w181_113, r146, ↓m0_g0, ↓m0_g1, ↓m0_g2, ↓m0_g3, ↓m0_g4, ↓m0_g5, ↓m0_g6, ↓m0_g7, ↓m0_g8, ↓m0_g9, ↓m0_g10, ↓m0_g11, ↓m0_g12, ↓m0_g13, ↓m0_g14, ↓m0_g15, ↓m0_p0, ↓m0_p2, ↓m0_p3, ↓m0_p8, ↓m0_p9, ↓m0_p12, m0_r, e0, e, icond_lt, icond_le, icond_gt, icond_ge, icond_eq, icond_ne, narrow_bool, true_or, or_true, if_true, if_false, cK_inl, toL_some, toL_none, psum_nil, psum_int, psum_ref, psum_null, psum_long, Nat.zero_le, Nat.reduceAdd, Nat.reduceLeDiff, kl_int, kl_ref, kl_none, kl_null, kl_long, su_at, sr_at, Nat.reduceEqDiff, Nat.add_eq_left, Nat.add_right_cancel_iff, and_false, false_and, and_true, true_and, and_self, if_true, if_false, ↓reduceIte, su_su]
theorem fd5_0 {x1 x2 x3 x4 x5 : Int32} : fd5 x1 x2 x3 x4 x5 0 = x1 ∧ fd5 x1 x2 x3 x4 x5 1 = x2 ∧ fd5 x1 x2 x3 x4 x5 2 = x3 ∧ fd5 x1 x2 x3 x4 x5 3 = x4 ∧ fd5 x1 x2 x3 x4 x5 4 = x5 := ⟨rfl, rfl, rfl, rfl, rfl⟩
end FEED
