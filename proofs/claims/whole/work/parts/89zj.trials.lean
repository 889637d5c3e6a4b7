/-! THE LAW: QUARTERS, TRIALS AND WHAT IS READ -/
section CALL2
variable {n i j pl : Nat} {xs : Nat → Int32} {c : Nat × Nat × Nat} {R : Nat → Option PC} {S S' V V' P : S3} {L W : L3} {l5 l6 l7 l8 : Option Value} {b b0 b1 M A NR N β β' tl m m' : Nat} {rk : Nat → Nat} {x y : Int32}
/-- the trial town alone has changed -/
theorem CRs_A (hj : j < 512) (hb : b < 2) (hx : ctx 0 b pl M A NR N (18000 * j) rk True P S V) (hs : (S 4 207 0).toNatClampNeg = BA (1 - b)) (hb1 : b1 < 2) (hk1 : okG 1 b1 S') (hcl : S 0 3 0 = 0 ∨ S 0 3 0 = 1) (hm : S 0 0 0 = Int32.ofNat m ∧ m ≤ 200 * j) (he : S 4 205 0 = V 4 202 0) (ht : tpR tl S V ∧ V 4 201 0 = Int32.ofNat tl ∧ tl ≤ 1600) (hL : resL L)
    (hS : sameBut (pA 1) S S') (hV : sameBut (pA 1) (su V 4 200 0 x) V') : CRs (j + 1) pl S' L V' P := by
  have e4 : S' 4 = S 4 := funext fun v => hS 4 v (fun q => absurd (show (4 : Nat) = 1 from q) (by decide))
  have e0 : S' 0 = S 0 := funext fun v => hS 0 v (fun q => absurd (show (0 : Nat) = 1 from q) (by decide))
  have v4 : ∀ v, v ≠ 200 → V' 4 v = V 4 v := fun v hv => by rw [hV 4 v (fun q => absurd (show (4 : Nat) = 1 from q) (by decide)), su_vne hv]
  refine ⟨b, b1, M, A, NR, N, tl, m, rk, hb, hb1, ctx_A (ctx_mono (ctx_thr (by decide) hx) (show 18000 * j ≤ 18000 * (j + 1) by omega) (by omega)) hS hV, by rw [e4]; exact hs, hk1, by rw [e0]; exact hcl, by rw [e0]; exact ⟨hm.1, by omega⟩, by rw [e4, v4 202 (by decide)]; exact he, ⟨?_, by rw [v4 201 (by decide)]; exact ht.2.1, ht.2.2⟩, hL⟩
  unfold tpR
  rw [e4, v4 210 (by decide)]
  exact ht.1
theorem le_tn {k : Nat} (h1 : ¬ x < 1) (h2 : ¬ Int32.ofNat k < x) (hk : k < 2 ^ 31) : x.toNatClampNeg ≤ k := by
  have h0 : ¬ x < 0 := fun q => h1 (Int32.lt_trans q (by decide))
  rw [nnI h0] at h2
  by_cases q : k < x.toNatClampNeg
  · exact absurd ((ofN_lt hk tN_lt).mpr q) h2
  · omega
theorem cs11 (hi : i + 6 ≤ n) (hn : n ≤ 3072) (hj : j < 512) (h : CRs j pl S L V P) (hc : CRc j c pl) : NXT n i j 829 xs c S L V W pl P R l5 l6 l7 l8 := by
  obtain ⟨b, b0, M, A, NR, N, tl, m, rk, hb, hb0, hx, hs, hk1, hcl, hm, he, ht, hL⟩ := id h
  have hk0 := hx.1.2.1
  by_cases g1 : xs (i + 1) < 1
  · exact ne11_1 hi hn (fun R Q => (k80 (d := 34) hb hk0).trans (if_pos g1)) (fr (fun C Q => r192_a (Or.inl g1) 41 Q)) su_self (CRs_v hj h) (CRc_thr hc)
  by_cases g2 : 40 < xs (i + 1)
  · exact ne11_1 hi hn (fun R Q => (k80 (d := 34) hb hk0).trans ((if_neg g1).trans (if_pos g2))) (fr (fun C Q => r192_a (Or.inr g2) 41 Q)) su_self (CRs_v hj h) (CRc_thr hc)
  have hq : (xs (i + 1)).toNatClampNeg ≤ 40 := le_tn g1 g2 (by decide)
  obtain ⟨m', hm1, hm2⟩ := pass_n (b := b) (q := (xs (i + 1)).toNatClampNeg) hm.1 hm.2 (by omega)
  obtain ⟨V', t1, t2, t3⟩ := r192_c (c := c) (C := gov tC 300 (psS 0 b (xs (i + 1)).toNatClampNeg 0 S).2 L (RO n xs)) (W := sl W 5 0 0 (psS 0 b (xs (i + 1)).toNatClampNeg 0 S).1.toInt64) (R := R) hx g1 g2 (by omega)
  exact nx11 hi hn (fun R Q => (k80 (d := 34) hb hk0).trans ((if_neg g1).trans (if_neg g2))) (fun Q => t3 30 Q) (by rw [t2 4 200 (fun q => by have := q.1; omega)]; exact su_self) (CRs_T hj hb hb0 hx hs hk1 hcl he ht hL t1 (by omega) (sbt_ps sbt_refl) t2 ⟨hm1, hm2⟩) (CRc_id hc)
theorem cs12 (hi : i + 6 ≤ n) (hn : n ≤ 3072) (hj : j < 512) (h : CRs j pl S L V P) (hc : CRc j c pl) : NXT n i j 885 xs c S L V W pl P R l5 l6 l7 l8 := by
  obtain ⟨b, b0, M, A, NR, N, tl, m, rk, hb, hb0, hx, hs, hk1, hcl, hm, he, ht, hL⟩ := id h
  have hk0 := hx.1.2.1
  by_cases g1 : xs (i + 1) < 1
  · exact ne12_1 hi hn (fun R Q => (k81 (d := 34) hb hk0).trans (if_pos g1)) (fr (fun C Q => r193_a (Or.inl g1) 41 Q)) su_self (CRs_v hj h) (CRc_thr hc)
  by_cases g2 : 5 < xs (i + 1)
  · exact ne12_1 hi hn (fun R Q => (k81 (d := 34) hb hk0).trans ((if_neg g1).trans (if_pos g2))) (fr (fun C Q => r193_a (Or.inr g2) 41 Q)) su_self (CRs_v hj h) (CRc_thr hc)
  have a1 : 1 ≤ xs (i + 1) := Int32.not_lt.mp g1
  have a2 := Int32.not_lt.mp g2
  have hq : (xs (i + 1) * 40).toNatClampNeg ≤ 200 := le_tn (x := xs (i + 1) * 40) (k := 200) (by grind) (show ¬ (200 : Int32) < xs (i + 1) * 40 by grind) (by decide)
  obtain ⟨m', hm1, hm2⟩ := pass_n (b := b) (q := (xs (i + 1) * 40).toNatClampNeg) hm.1 hm.2 hq
  obtain ⟨V', t1, t2, t3⟩ := r193_c (c := c) (C := gov tC 300 (psS 0 b (xs (i + 1) * 40).toNatClampNeg 0 S).2 L (RO n xs)) (W := sl W 5 0 0 (psS 0 b (xs (i + 1) * 40).toNatClampNeg 0 S).1.toInt64) (R := R) hx g1 g2 (by omega)
  exact nx12 hi hn (fun R Q => (k81 (d := 34) hb hk0).trans ((if_neg g1).trans (if_neg g2))) (fun Q => t3 30 Q) (by rw [t2 4 200 (fun q => by have := q.1; omega)]; exact su_self) (CRs_T hj hb hb0 hx hs hk1 hcl he ht hL t1 (by omega) (sbt_ps sbt_refl) t2 ⟨hm1, hm2⟩) (CRc_id hc)
theorem cs5 (hi : i + 6 ≤ n) (hn : n ≤ 3072) (hj : j < 512) (h : CRs j pl S L V P) (hc : CRc j c pl) : NXT n i j 470 xs c S L V W pl P R l5 l6 l7 l8 := by
  obtain ⟨b, b0, M, A, NR, N, tl, m, rk, hb, hb0, hx, hs, hk1, hcl, hm, he, ht, hL⟩ := id h
  have hk0 := hx.1.2.1
  have hNN := hx.1.2.2.2.2.2.2
  have hR := hx.2.1.2.1
  cases e : lmM N (xs (i + 1)) with
  | none => exact ne5_1 hi hn (fun R Q => (k74 (d := 40) hb hk0).trans (by rw [lgt_lm hNN.1 hNN.2.1, e])) (fr (fun C Q => r186_a hx e 41 Q)) su_self (CRs_v hj h) (CRc_thr hc)
  | some l =>
    have hN3 := townR_N hx.1
    obtain ⟨hl, -⟩ := lmM_lt e (by omega)
    have el := lgt_lm (x := xs (i + 1)) hNN.1 hNN.2.1
    have eR : S (2 + b) 101 0 = Int32.ofNat NR := hR.1
    cases ey : lmM NR (xs (i + 2)) with
    | none =>
      have hy : ∀ {α : Sort _} {p q : α}, (if xs (i + 2) < 0 then p else if S (2 + b) 101 0 ≤ xs (i + 2) then p else q) = p := by
        intro α p q
        rw [eR]
        unfold lmM at ey
        by_cases g1 : xs (i + 2) < 0
        · rw [if_pos g1]
        rw [if_neg g1]
        rw [if_neg g1] at ey
        by_cases g2 : Int32.ofNat NR ≤ xs (i + 2)
        · rw [if_pos g2]
        rw [if_neg g2] at ey
        cases ey
      exact ne5_1 hi hn (fun R Q => (k74 (d := 40) hb hk0).trans (by rw [el, e]; exact hy)) (fr (fun C Q => r186_b hx e ey 41 Q)) su_self (CRs_v hj h) (CRc_thr hc)
    | some r =>
      have hy : ¬ xs (i + 2) < 0 ∧ ¬ S (2 + b) 101 0 ≤ xs (i + 2) := by
        rw [eR]
        unfold lmM at ey
        by_cases g1 : xs (i + 2) < 0
        · rw [if_pos g1] at ey; cases ey
        rw [if_neg g1] at ey
        by_cases g2 : Int32.ofNat NR ≤ xs (i + 2)
        · rw [if_pos g2] at ey; cases ey
        exact ⟨g1, g2⟩
      obtain ⟨V', t1, t2, t3⟩ := r186_c (c := c) (C := gov tC 300 (brS 0 l b (xs (i + 2)) S) L (RO n xs)) (W := sl W 5 0 0 (S 0 14 l).toInt64) (R := R) hx e ey
      have ev : S 0 14 l = V 0 14 l := hx.1.1.2.2 14 l (by decide) (by decide) hl
      refine nx5 hi hn (v := S 0 14 l) (fun R Q => (k74 (d := 40) hb hk0).trans (by rw [el, e]; exact (if_neg hy.1).trans (if_neg hy.2))) (fun Q => (t3 41 Q).trans (by rw [← ev]; rfl)) (by rw [t2 4 200 (fun q => by have := q.1; omega)]; exact su_self) (CRs_T hj hb hb0 hx hs hk1 hcl he ht hL t1 (by omega) (sbt_br sbt_refl (by omega)) t2 ⟨?_, (show m ≤ 200 * (j + 1) by omega)⟩) (CRc_id hc)
      rw [sbw_br sbt_refl (by omega) 0 0 (fun q => by have := q.2.1; omega)]
      exact hm.1
/-- what is written or read alone -/
theorem cs6 (hi : i + 6 ≤ n) (hn : n ≤ 3072) (hj : j < 512) (h : CRs j pl S L V P) (hc : CRc j c pl) : NXT n i j 538 xs c S L V W pl P R l5 l6 l7 l8 := by
  obtain ⟨b, b0, M, A, NR, N, tl, m, rk, hb, hb0, hx, hs, hk1, hcl, hm, he, ht, hL⟩ := id h
  have hk0 := hx.1.2.1
  have hxx : (if xs (i + 1) = 0 then (0 : Int32) else 1) = 0 ∨ (if xs (i + 1) = 0 then (0 : Int32) else 1) = 1 := by split <;> simp
  have ev : S 0 3 0 = V 0 3 0 := hx.1.1.1 3 (by omega)
  have hx' := ctx_mono (ctx_thr (x := 0) (by decide) hx) (show 18000 * j ≤ 18000 * (j + 1) by omega) (by omega)
  refine ⟨c, su S 0 3 0 (if xs (i + 1) = 0 then 0 else 1), L, su (su V 4 200 0 0) 0 3 0 (if xs (i + 1) = 0 then 0 else 1), W, pl, P, R, l5, l6, l7, l8, ?_, CRc_id hc, fun Q => lc6 hi hn (fc (fun R Q => k75 (d := 44) hcl hxx)) (fr (fun C Q => by rw [ev]; exact r187 (d := 44) hxx (by rw [← ev]; exact hcl)))⟩
  refine ⟨b, b0, M, A, NR, N, tl, m, rk, hb, hb0, ⟨townR_su hx'.1 (by decide) (by decide) (by decide) (by decide) (by decide) (by decide) (by decide) (by decide) (by decide) (by decide) (by decide), bookR_eq hx'.2.1 (fun v hv => by rw [su_gne (by omega)]), by rw [su_gne (by decide)]; exact hx'.2.2.1, hx'.2.2.2⟩, by rw [su_gne (by decide)]; exact hs, okG_su hk1 (by decide) (by decide) (by decide), by rw [su_self]; exact hxx, ⟨by rw [su_ne (by decide)]; exact hm.1, by omega⟩, by rw [su_gne (by decide), su_gne (by decide), su_vne (by decide)]; exact he, ⟨?_, by rw [su_gne (by decide), su_vne (by decide)]; exact ht.2.1, ht.2.2⟩, hL⟩
  unfold tpR
  rw [su_gne (by decide), su_gne (by decide), su_vne (by decide)]
  exact ht.1
theorem cs22 (hj : j < 512) (h : CRs j pl S L V P) (hc : CRc j c pl) (hi : i + 6 ≤ n) (hn : n ≤ 3072) : NXT n i j 1323 xs c S L V W pl P R l5 l6 l7 l8 := by
  obtain ⟨b, b0, M, A, NR, N, tl, m, rk, hb, hb0, hx, hs, hk1, hcl, hm, he, ht, hL⟩ := id h
  have hk0 := hx.1.2.1
  have hM := hx.2.1.1
  have ev : ltS S (S (2 + b) 100 0) 10 0 0 = ltK V M 0 0 := by
    rw [hM.1]
    exact (ltS_K hM.2.2 M 0 0 (by omega)).trans (ltK_eq hx.1 M 0 0 (by omega))
  exact nx22 hi hn (fun R Q => k91 (d := 43) hb hk0.1) (fr (fun C Q => by rw [ev]; exact r204 hx.2.2.2.2.2.1 hx.2.2.1 hM.2.1 hM.2.2 42 Q)) (CRs_v hj h) (CRc_id hc)
theorem cs36 (hi : i + 6 ≤ n) (hn : n ≤ 3072) (hj : j < 512) (h : CRs j pl S L V P) (hc : CRc j c pl) : NXT n i j 1820 xs c S L V W pl P R l5 l6 l7 l8 := by
  obtain ⟨b, b0, M, A, NR, N, tl, m, rk, hb, hb0, hx, hs, hk1, hcl, hm, he, ht, hL⟩ := id h
  have hNN := hx.1.2.2.2.2.2.2
  have el := lgt_lm (x := xs (i + 1)) hNN.1 hNN.2.1
  cases e : lmM N (xs (i + 1)) with
  | none => exact ne36_1 hi hn (fun R Q => (k105 (d := 41)).trans (by rw [el, e])) (fr (fun C Q => (r221 hx 41 Q).trans (by rw [e]))) su_self (CRs_v hj h) (CRc_thr hc)
  | some l =>
    by_cases g1 : xs (i + 2) < 0
    · exact ne36_1 hi hn (fun R Q => (k105 (d := 41)).trans (by rw [el, e]; exact if_pos g1)) (fr (fun C Q => (r221 hx 41 Q).trans (by rw [e]; exact if_pos g1))) su_self (CRs_v hj h) (CRc_thr hc)
    by_cases g2 : 20 ≤ xs (i + 2)
    · exact ne36_1 hi hn (fun R Q => (k105 (d := 41)).trans (by rw [el, e]; exact (if_neg g1).trans (if_pos g2))) (fr (fun C Q => (r221 hx 41 Q).trans (by rw [e]; exact (if_neg g1).trans (if_pos g2)))) su_self (CRs_v hj h) (CRc_thr hc)
    by_cases g3 : S 0 17 l ≤ xs (i + 2)
    · exact ne36_1 hi hn (fun R Q => (k105 (d := 41)).trans (by rw [el, e]; exact (if_neg g1).trans ((if_neg g2).trans (if_pos g3)))) (fr (fun C Q => (r221 hx 41 Q).trans (by rw [e]; exact (if_neg g1).trans ((if_neg g2).trans (if_pos g3))))) su_self (CRs_v hj h) (CRc_thr hc)
    exact nx36 hi hn (fun R Q => (k105 (d := 41)).trans (by rw [el, e]; exact (if_neg g1).trans ((if_neg g2).trans (if_neg g3)))) (fr (fun C Q => (r221 hx 41 Q).trans (by rw [e]; exact (if_neg g1).trans ((if_neg g2).trans (if_neg g3))))) su_self (CRs_v hj h) (CRc_id hc)
/-- trials -/
theorem ul_ok {i : Nat} : ∀ {k n : Nat} {S : S3}, okG 1 b S → okG 1 b (ulS b i k n S).2 := by
  intro k
  induction k with
  | zero => intro n S h; exact h
  | succ k ih =>
    intro n S h
    simp only [ulS]
    split
    · exact ih (okG_ps h)
    · exact okG_ps h
theorem cs37 (hi : i + 6 ≤ n) (hn : n ≤ 3072) (hj : j < 512) (h : CRs j pl S L V P) (hc : CRc j c pl) : NXT n i j 1888 xs c S L V W pl P R l5 l6 l7 l8 := by
  obtain ⟨b, b0, M, A, NR, N, tl, m, rk, hb, hb0, hx, hs, hk1, hcl, hm, he, ht, hL⟩ := id h
  have hk0 := hx.1.2.1
  have hM := hx.2.1.1
  have em := lmp_lm (x := xs (i + 1)) hM.1 hM.2.2
  cases e : lmM M (xs (i + 1)) with
  | none => exact ne37_1 hi hn (fun R Q => (k106 (d := 34) hb hk0 hk1 hcl).trans (by rw [em, e])) (fr (fun C Q => r222_a hx e 41 Q)) su_self (CRs_v hj h) (CRc_thr hc)
  | some l =>
    by_cases g : S 0 9 l = 0
    · obtain ⟨V', t1, t2⟩ := r222_c (c := c) (C := gov tC 300 (ulS b l 80 1 (tcS 1 b 0 S)).2 L (RO n xs)) (W := sl W 5 0 0 (ulS b l 80 1 (tcS 1 b 0 S)).1.toInt64) (R := R) hx hb hk1 hcl e (by omega)
      exact nx37 hi hn (fun R Q => (k106 (d := 34) hb hk0 hk1 hcl).trans (by rw [em, e]; exact if_pos g)) (fun Q => (t2 30 Q).trans (by rw [if_pos g]; rfl)) (by rw [t1 4 200 (fun q => absurd (show (4 : Nat) = 1 from q) (by decide))]; exact su_self) (CRs_A hj hb hx hs hb (ul_ok (okP_tc hb hk1 hk0 (by decide)).1) hcl hm he ht hL (sb_ul (sb_tc b)) t1) (CRc_id hc)
    · obtain ⟨V', t1, t2⟩ := r222_c (c := c) (C := gov tC 300 S L (RO n xs)) (W := sl W 5 0 0 (0 : Int32).toInt64) (R := R) hx hb hk1 hcl e (by omega)
      exact nx37 hi hn (fun R Q => (k106 (d := 34) hb hk0 hk1 hcl).trans (by rw [em, e]; exact if_neg g)) (fun Q => (t2 30 Q).trans (by rw [if_neg g]; rfl)) (by rw [t1 4 200 (fun q => absurd (show (4 : Nat) = 1 from q) (by decide))]; exact su_self) (CRs_A hj hb hx hs hb0 hk1 hcl hm he ht hL sbt_refl t1) (CRc_id hc)
theorem cs38 (hi : i + 6 ≤ n) (hn : n ≤ 3072) (hj : j < 512) (h : CRs j pl S L V P) (hc : CRc j c pl) : NXT n i j 1944 xs c S L V W pl P R l5 l6 l7 l8 := by
  obtain ⟨b, b0, M, A, NR, N, tl, m, rk, hb, hb0, hx, hs, hk1, hcl, hm, he, ht, hL⟩ := id h
  have hk0 := hx.1.2.1
  by_cases g1 : xs (i + 1) < 1
  · exact ne38_1 hi hn (fun R Q => (k107 (d := 34) hb hk0 hk1 hcl).trans (if_pos g1)) (fr (fun C Q => r223_a (Or.inl g1) 41 Q)) su_self (CRs_v hj h) (CRc_thr hc)
  by_cases g2 : 80 < xs (i + 1)
  · exact ne38_1 hi hn (fun R Q => (k107 (d := 34) hb hk0 hk1 hcl).trans ((if_neg g1).trans (if_pos g2))) (fr (fun C Q => r223_a (Or.inr g2) 41 Q)) su_self (CRs_v hj h) (CRc_thr hc)
  have hq : (xs (i + 1)).toNatClampNeg ≤ 80 := le_tn g1 g2 (by decide)
  obtain ⟨V', t1, t2⟩ := r223_c (c := c) (C := gov tC 300 (psS 1 b (xs (i + 1)).toNatClampNeg 0 (tcS 1 b 0 S)).2 L (RO n xs)) (W := sl W 5 0 0 (psS 1 b (xs (i + 1)).toNatClampNeg 0 (tcS 1 b 0 S)).1.toInt64) (R := R) hx hb hk1 hcl g1 g2 (by omega)
  exact nx38 hi hn (fun R Q => (k107 (d := 34) hb hk0 hk1 hcl).trans ((if_neg g1).trans (if_neg g2))) (fun Q => t2 30 Q) (by rw [t1 4 200 (fun q => absurd (show (4 : Nat) = 1 from q) (by decide))]; exact su_self) (CRs_A hj hb hx hs hb (okG_ps (okP_tc hb hk1 hk0 (by decide)).1) hcl hm he ht hL (sbt_trans (sb_tc b) (sb_TA (sbt_ps sbt_refl))) t1) (CRc_id hc)
theorem cs39 (hi : i + 6 ≤ n) (hn : n ≤ 3072) (hj : j < 512) (h : CRs j pl S L V P) (hc : CRc j c pl) : NXT n i j 2000 xs c S L V W pl P R l5 l6 l7 l8 := by
  obtain ⟨b, b0, M, A, NR, N, tl, m, rk, hb, hb0, hx, hs, hk1, hcl, hm, he, ht, hL⟩ := id h
  obtain ⟨V', t1, t2⟩ := r224 (c := c) (C := gov tC 300 S L (RO n xs)) (W := W) (R := R) hx hb hk1 hcl hm.1 (by omega)
  exact nx39 hi hn (fun R Q => k108 (d := 43)) (fun Q => t2 41 Q) (CRs_A hj hb hx hs hb0 hk1 hcl hm he ht hL sbt_refl t1) (CRc_id hc)
theorem bts_ok {l : Nat} {q M : Int32} {S0 : S3} (hb : b < 2) (hl : l < 3) : ∀ (k r : Nat) (best few : Int32) (S : S3), okB b M S → (∃ b1, b1 < 2 ∧ okG 1 b1 S) → sameBut (pA 1) S0 S → (∃ b1, b1 < 2 ∧ okG 1 b1 (btS b l q M k r best few S).2) ∧ sameBut (pA 1) S0 (btS b l q M k r best few S).2 := by
  intro k
  induction k with
  | zero => intro r best few S _ h2 h3; exact ⟨h2, h3⟩
  | succ k ih =>
    intro r best few S h1 h2 h3
    have n1 := okB_bt (x := q) (y := Int32.ofNat r) hb hl h1
    have n2 : ∃ b1, b1 < 2 ∧ okG 1 b1 (bt1 b l q (Int32.ofNat r) S).2 := ⟨b, hb, okG_ps (okG_br (okP_tc hb h2.choose_spec.2 h1.1 (by decide)).1 hl)⟩
    have n3 : sameBut (pA 1) S0 (bt1 b l q (Int32.ofNat r) S).2 := sbt_trans h3 (sb_bt hl)
    simp only [btS]
    split
    · exact ⟨h2, h3⟩
    split
    · exact ih _ _ _ _ n1 n2 n3
    split
    · exact ih _ _ _ _ n1 n2 n3
    · exact ih _ _ _ _ n1 n2 n3
theorem cs40 (hi : i + 6 ≤ n) (hn : n ≤ 3072) (hj : j < 512) (h : CRs j pl S L V P) (hc : CRc j c pl) : NXT n i j 2013 xs c S L V W pl P R l5 l6 l7 l8 := by
  obtain ⟨b, b0, M, A, NR, N, tl, m, rk, hb, hb0, hx, hs, hk1, hcl, hm, he, ht, hL⟩ := id h
  have hk0 := hx.1.2.1
  have hNN := hx.1.2.2.2.2.2.2
  have hR := hx.2.1.2.1
  have el := lgt_lm (x := xs (i + 1)) hNN.1 hNN.2.1
  have hB : okB b (Int32.ofNat NR) S := ⟨hk0, ⟨b0, hk1⟩, hcl, hR.1⟩
  have hNR : NR < 2 ^ 31 := by have := hR.2.2; omega
  cases e : lmM N (xs (i + 1)) with
  | none => exact ne40_1 hi hn (fun R Q => (k109 (d := 34) hNR hb hB).trans (by rw [el, e])) (fr (fun C Q => r225_a hx e 41 Q)) su_self (CRs_v hj h) (CRc_thr hc)
  | some l =>
    have hN3 := townR_N hx.1
    obtain ⟨hl, -⟩ := lmM_lt e (by omega)
    by_cases g1 : xs (i + 2) < 1
    · exact ne40_2 hi hn (fun R Q => (k109 (d := 34) hNR hb hB).trans (by rw [el, e]; exact if_pos g1)) (fr (fun C Q => r225_b hx e (Or.inl g1) 41 Q)) su_self (CRs_v hj h) (CRc_thr hc)
    by_cases g2 : 40 < xs (i + 2)
    · exact ne40_2 hi hn (fun R Q => (k109 (d := 34) hNR hb hB).trans (by rw [el, e]; exact (if_neg g1).trans (if_pos g2))) (fr (fun C Q => r225_b hx e (Or.inr g2) 41 Q)) su_self (CRs_v hj h) (CRc_thr hc)
    by_cases g3 : NR = 0
    · exact ne40_3 hi hn (fun R Q => (k109 (d := 34) hNR hb hB).trans (by rw [el, e]; exact (if_neg g1).trans ((if_neg g2).trans (if_pos g3)))) (fr (fun C Q => r225_d hx e g1 g2 g3 41 Q)) su_self (CRs_v hj h) (CRc_thr hc)
    have hq : (xs (i + 2)).toNatClampNeg ≤ 40 := le_tn g1 g2 (by decide)
    obtain ⟨V', t1, t2⟩ := r225_c (c := c) (C := gov tC 300 (btS b l (xs (i + 2)) (Int32.ofNat NR) NR 0 0 0 S).2 L (RO n xs)) (W := sl W 5 0 0 (btS b l (xs (i + 2)) (Int32.ofNat NR) NR 0 0 0 S).1.toInt64) (R := R) hx hb hB e g1 g2 g3 (by omega)
    obtain ⟨⟨b1, hb1, o1⟩, o2⟩ := bts_ok (q := xs (i + 2)) (S0 := S) hb (show l < 3 by omega) NR 0 0 0 S hB ⟨b0, hb0, hk1⟩ sbt_refl
    exact nx40 hi hn (fun R Q => (k109 (d := 34) hNR hb hB).trans (by rw [el, e]; exact (if_neg g1).trans ((if_neg g2).trans (if_neg g3)))) (fun Q => t2 29 Q) (by rw [t1 4 200 (fun q => absurd (show (4 : Nat) = 1 from q) (by decide))]; exact su_self) (CRs_A hj hb hx hs hb1 o1 hcl hm he ht hL o2 t1) (CRc_id hc)
end CALL2
