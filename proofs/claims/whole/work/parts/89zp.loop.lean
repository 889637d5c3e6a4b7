/-! THE LAW: ITS LOOP -/
section LAWL
variable {n i j pl : Nat} {xs : Nat → Int32} {c : Nat × Nat × Nat} {R : Nat → Option PC} {S V P : S3} {L W : L3} {l5 l6 l7 l8 : Option Value} {x y : Int32}
theorem CRs_up (hj : j < 512) (h : CRs j pl S L V P) : CRs (j + 1) pl S L V P := by
  obtain ⟨b, b0, M, A, NR, N, tl, m, rk, hb, hb0, hx, hs, hk1, hcl, hm, he, ht, hL⟩ := h
  exact ⟨b, b0, M, A, NR, N, tl, m, rk, hb, hb0, ctx_mono hx (by omega) (by omega), hs, hk1, hcl, ⟨hm.1, by omega⟩, he, ht, hL⟩
def lwP (v : Nat) : Nat := [228, 332, 388, 401, 414, 470, 538, 579, 642, 705, 773, 829, 885, 941, 954, 967, 980, 1036, 1092, 1148, 1204, 1267, 1323, 1336, 1349, 1362, 1375, 1388, 1401, 1414, 1470, 1526, 1589, 1645, 1708, 1764, 1820, 1888, 1944, 2000, 2013, 2081, 2122].getD v 2136
theorem lw_pt : ∀ v, v < 64 → ptable 40 2096 0 42 #[188, 292, 348, 361, 374, 430, 498, 539, 602, 665, 733, 789, 845, 901, 914, 927, 940, 996, 1052, 1108, 1164, 1227, 1283, 1296, 1309, 1322, 1335, 1348, 1361, 1374, 1430, 1486, 1549, 1605, 1668, 1724, 1780, 1848, 1904, 1960, 1973, 2041, 2082] (Int32.ofNat v) = lwP v := by decide +kernel
theorem lw_63 : ∃ v, v < 64 ∧ x &&& 63 = Int32.ofNat v := by
  refine ⟨x.toBitVec.toNat % 64, Nat.mod_lt _ (by decide), ?_⟩
  apply Int32.toBitVec_inj.mp
  apply BitVec.eq_of_toNat_eq
  have e : (x &&& 63).toBitVec.toNat = x.toBitVec.toNat &&& 63 := by
    rw [Int32.toBitVec_and, BitVec.toNat_and]
    rfl
  rw [e, show (63 : Nat) = 2 ^ 6 - 1 from rfl, Nat.and_two_pow_sub_one_eq_mod]
  show _ = (BitVec.ofNat 32 (x.toBitVec.toNat % 64)).toNat
  rw [BitVec.toNat_ofNat]
  omega
theorem lw_case (hi : i + 6 ≤ n) (hn : n ≤ 3072) (hj : j < 512) (h : CRs j pl S L V P) (hc : CRc j c pl) : ∀ v, v < 64 → NXT n i j (lwP v) xs c S L V W pl P R l5 l6 l7 l8 := by
  intro v hv
  match v, hv with
  | 0, _ => exact cs0 hi hn hj h hc
  | 1, _ => exact cs1 hi hn hj h hc
  | 2, _ => exact cs2 hi hn hj h hc
  | 3, _ => exact cs3 hi hn hj h hc
  | 4, _ => exact cs4 hi hn hj h hc
  | 5, _ => exact cs5 hi hn hj h hc
  | 6, _ => exact cs6 hi hn hj h hc
  | 7, _ => exact cs7 hi hn hj h hc
  | 8, _ => exact cs8 hi hn hj h hc
  | 9, _ => exact cs9 hi hn hj h hc
  | 10, _ => exact cs10 hi hn hj h hc
  | 11, _ => exact cs11 hi hn hj h hc
  | 12, _ => exact cs12 hi hn hj h hc
  | 13, _ => exact cs13 hi hn hj h hc
  | 14, _ => exact cs14 hi hn hj h hc
  | 15, _ => exact cs15 hi hn hj h hc
  | 16, _ => exact cs16 hi hn hj h hc
  | 17, _ => exact cs17 hi hn hj h hc
  | 18, _ => exact cs18 hi hn hj h hc
  | 19, _ => exact cs19 hi hn hj h hc
  | 20, _ => exact cs20 hi hn hj h hc
  | 21, _ => exact cs21 hi hn hj h hc
  | 22, _ => exact cs22 hj h hc hi hn
  | 23, _ => exact cs23 hi hn hj h hc
  | 24, _ => exact cs24 hi hn hj h hc
  | 25, _ => exact cs25 hi hn hj h hc
  | 26, _ => exact cs26 hi hn hj h hc
  | 27, _ => exact cs27 hi hn hj h hc
  | 28, _ => exact cs28 hi hn hj h hc
  | 29, _ => exact cs29 hi hn hj h hc
  | 30, _ => exact cs30 hi hn hj h hc
  | 31, _ => exact cs31 hi hn hj h hc
  | 32, _ => exact cs32 hi hn hj h hc
  | 33, _ => exact cs33 hi hn hj h hc
  | 34, _ => exact cs34 hi hn hj h hc
  | 35, _ => exact cs35 hi hn hj h hc
  | 36, _ => exact cs36 hi hn hj h hc
  | 37, _ => exact cs37 hi hn hj h hc
  | 38, _ => exact cs38 hi hn hj h hc
  | 39, _ => exact cs39 hi hn hj h hc
  | 40, _ => exact cs40 hi hn hj h hc
  | 41, _ => exact cs41 hi hn hj h hc
  | 42, _ => exact cs42 hi hn hj h hc
  | v + 43, hv =>
    have e : lwP (v + 43) = 2136 := rfl
    rw [e]
    exact ⟨c, S, L, V, W, pl, P, R, l5, l6, l7, l8, CRs_up hj h, CRc_id hc, fun Q => rfl⟩
theorem lw_sub (hn : n ≤ 3072) (hi : i ≤ 3072) : Int32.ofNat n - 6 < Int32.ofNat i ↔ n < i + 6 := by
  by_cases h : 6 ≤ n
  · rw [show Int32.ofNat n - 6 = Int32.ofNat (n - 6) from ofN_sub (e := 6) h, ofN_lt (by omega) (by omega)]
    omega
  · have : ∀ m, m < 6 → Int32.ofNat m - 6 < 0 := by decide
    exact ⟨fun _ => by omega, fun _ => Std.lt_of_lt_of_le (this n (by omega)) (Int32.not_lt.mp (ofN_nn (by omega)))⟩
theorem lw_end {Q : PO → Prop} (hn : n ≤ 3072) (hi : i ≤ 3072) (h : n < i + 6) : Wp 45 268 23 [some (.ref 0), some (.ref 300), some (.ref 395), some (.ref 452), some (.int (Int32.ofNat i)), l5, l6, l7, l8] [] (FH (RO n xs) c S L V W pl P R) Q = Q (.inl (some (.int 1)), FH (RO n xs) c S L V W pl P R) := by
  have h' := (lw_sub hn hi).mpr h
  simp only [↓w268_23, ↓w268_25, ↓w268_26, ↓w268_27, ↓w268_29, ↓w268_30, ↓w268_2142, ↓w268_2143, fh_n, h', icond_lt, icond_le, icond_gt, icond_ge, icond_eq, icond_ne, narrow_bool, true_or, or_true, if_true, if_false, cK_inl, toL_some, toL_none, psum_nil, psum_int, psum_ref, psum_null, psum_long, Nat.zero_le, Nat.reduceAdd, Nat.reduceLeDiff, kl_int, kl_ref, kl_none, kl_null, kl_long]
theorem lw_go {Q : PO → Prop} (hn : n ≤ 3072) (hi : i + 6 ≤ n) {v : Nat} (hv : v < 64) (e : xs i &&& 63 = Int32.ofNat v) : Wp 45 268 23 [some (.ref 0), some (.ref 300), some (.ref 395), some (.ref 452), some (.int (Int32.ofNat i)), l5, l6, l7, l8] [] (FH (RO n xs) c S L V W pl P R) Q = Wp 45 268 (lwP v) [some (.ref 0), some (.ref 300), some (.ref 395), some (.ref 452), some (.int (Int32.ofNat i)), l5, l6, l7, l8] [] (FH (RO n xs) c S L V W pl P R) Q := by
  have h' : ¬ Int32.ofNat n - 6 < Int32.ofNat i := fun q => absurd ((lw_sub hn (by omega)).mp q) (by omega)
  simp only [↓w268_23, ↓w268_25, ↓w268_26, ↓w268_27, ↓w268_29, ↓w268_30, ↓w268_33, ↓w268_34, ↓w268_36, ↓w268_37, ↓w268_39, ↓w268_40, fh_n, ↓fh_i0 hi hn, h', e, lw_pt v hv, icond_lt, icond_le, icond_gt, icond_ge, icond_eq, icond_ne, narrow_bool, true_or, or_true, if_true, if_false, cK_inl, toL_some, toL_none, psum_nil, psum_int, psum_ref, psum_null, psum_long, Nat.zero_le, Nat.reduceAdd, Nat.reduceLeDiff, kl_int, kl_ref, kl_none, kl_null, kl_long]
theorem lw_inc {Q : PO → Prop} : Wp 45 268 2136 [some (.ref 0), some (.ref 300), some (.ref 395), some (.ref 452), some (.int (Int32.ofNat i)), l5, l6, l7, l8] [] (FH (RO n xs) c S L V W pl P R) Q = Wp 45 268 23 [some (.ref 0), some (.ref 300), some (.ref 395), some (.ref 452), some (.int (Int32.ofNat (i + 6))), l5, l6, l7, l8] [] (FH (RO n xs) c S L V W pl P R) Q := by
  have e : Int32.ofNat i + 6 = Int32.ofNat (i + 6) := (Int32.ofNat_add i 6).symm
  simp only [↓w268_2136, ↓w268_2139, e, icond_lt, icond_le, icond_gt, icond_ge, icond_eq, icond_ne, narrow_bool, true_or, or_true, if_true, if_false, cK_inl, toL_some, toL_none, psum_nil, psum_int, psum_ref, psum_null, psum_long, Nat.zero_le, Nat.reduceAdd, Nat.reduceLeDiff, kl_int, kl_ref, kl_none, kl_null, kl_long]
theorem law_loop (hn : n ≤ 3072) : ∀ (k j : Nat), 6 * j + 6 * k ≤ n → n < 6 * j + 6 * k + 6 → ∀ (c : Nat × Nat × Nat) (S : S3) (L : L3) (V : S3) (W : L3) (pl : Nat) (P : S3) (R : Nat → Option PC) (l5 l6 l7 l8 : Option Value), CRs j pl S L V P → CRc j c pl →
    ∃ (c' : Nat × Nat × Nat) (S' : S3) (L' : L3) (V' : S3) (W' : L3) (pl' : Nat) (P' : S3) (R' : Nat → Option PC), CRc (j + k) c' pl' ∧
      ∀ Q, Wp 45 268 23 [some (.ref 0), some (.ref 300), some (.ref 395), some (.ref 452), some (.int (Int32.ofNat (6 * j))), l5, l6, l7, l8] [] (FH (RO n xs) c S L V W pl P R) Q = Q (.inl (some (.int 1)), FH (RO n xs) c' S' L' V' W' pl' P' R') := by
  intro k
  induction k with
  | zero =>
    intro j h1 h2 c S L V W pl P R l5 l6 l7 l8 h hc
    exact ⟨c, S, L, V, W, pl, P, R, hc, fun Q => lw_end hn (by omega) (by omega)⟩
  | succ k ih =>
    intro j h1 h2 c S L V W pl P R l5 l6 l7 l8 h hc
    obtain ⟨v, hv, e⟩ := lw_63 (x := xs (6 * j))
    obtain ⟨c1, S1, L1, V1, W1, pl1, P1, R1, m5, m6, m7, m8, g1, g2, g3⟩ := lw_case (xs := xs) (W := W) (R := R) (l5 := l5) (l6 := l6) (l7 := l7) (l8 := l8) (show 6 * j + 6 ≤ n by omega) hn (by omega) h hc v hv
    obtain ⟨c2, S2, L2, V2, W2, pl2, P2, R2, k1, k2⟩ := ih (j + 1) (by omega) (by omega) c1 S1 L1 V1 W1 pl1 P1 R1 m5 m6 m7 m8 g1 g2
    refine ⟨c2, S2, L2, V2, W2, pl2, P2, R2, by rw [show j + (k + 1) = j + 1 + k by omega]; exact k1, fun Q => ?_⟩
    rw [lw_go hn (by omega) hv e, g3, lw_inc, show 6 * j + 6 = 6 * (j + 1) by omega]
    exact k2 Q
end LAWL
