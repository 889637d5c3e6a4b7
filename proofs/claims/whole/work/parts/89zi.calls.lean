/-! THE LAW: CALLS THAT CHANGE THE TOWN -/
section CALL
variable {n i j pl : Nat} {xs : Nat → Int32} {c : Nat × Nat × Nat} {R : Nat → Option PC} {S S' V V' P : S3} {L W : L3} {l5 l6 l7 l8 : Option Value} {b b0 M A NR N β β' tl m m' : Nat} {rk : Nat → Nat} {x y : Int32}
/-- the town alone has changed -/
theorem CRs_T (hj : j < 512) (hb : b < 2) (hb0 : b0 < 2) (hx : ctx 0 b pl M A NR N (18000 * j) rk True P S V) (hs : (S 4 207 0).toNatClampNeg = BA (1 - b)) (hk1 : okG 1 b0 S) (hcl : S 0 3 0 = 0 ∨ S 0 3 0 = 1) (he : S 4 205 0 = V 4 202 0) (ht : tpR tl S V ∧ V 4 201 0 = Int32.ofNat tl ∧ tl ≤ 1600) (hL : resL L)
    (h1 : townR 0 b M A NR N β rk True P S' V') (hβ : β ≤ 18000 * (j + 1)) (hS : sameBut (pT 0) S S') (hV : sameBut (pT 0) (su V 4 200 0 x) V') (hm : S' 0 0 0 = Int32.ofNat m' ∧ m' ≤ 200 * (j + 1)) : CRs (j + 1) pl S' L V' P := by
  have e4 : S' 4 = S 4 := funext fun v => hS 4 v (fun q => by have := q.1; omega)
  have e1 : S' 1 = S 1 := funext fun v => hS 1 v (fun q => by have := q.1; omega)
  have e3 : S' 0 3 = S 0 3 := hS 0 3 (fun q => q.2.2.2.2.2.2 rfl)
  have v4 : ∀ v, v ≠ 200 → V' 4 v = V 4 v := fun v hv => by rw [hV 4 v (fun q => by have := q.1; omega), su_vne hv]
  have hk1' : okG 1 b0 S' := by
    unfold okG at hk1 ⊢
    rw [e1]
    exact hk1
  refine ⟨b, b0, M, A, NR, N, tl, m', rk, hb, hb0, ctx_mk (ctx_mono (ctx_thr (by decide) hx) (show 18000 * j ≤ 18000 * (j + 1) by omega) (by omega)) (townR_mono h1 hβ) hS hV (by omega), by rw [e4]; exact hs, hk1', by rw [e3]; exact hcl, hm, by rw [e4, v4 202 (by decide)]; exact he, ⟨?_, by rw [v4 201 (by decide)]; exact ht.2.1, ht.2.2⟩, hL⟩
  unfold tpR
  rw [e4, v4 210 (by decide)]
  exact ht.1
theorem mnI_comm : mnI x y = mnI y x := by
  unfold mnI
  by_cases h : x < y
  · rw [if_pos h, if_neg (fun q => absurd (Int32.lt_trans h q) (Int32.lt_irrefl))]
  · rw [if_neg h]
    split
    · rfl
    · rename_i h2
      exact Int32.le_antisymm (Int32.not_lt.mp h2) (Int32.not_lt.mp h)
theorem pT_mk {v : Nat} (h : v < 60 ∧ v ≠ 4 ∧ v ≠ 10 ∧ v ≠ 11 ∧ v ≠ 19 ∧ v ≠ 3) : pT 0 0 v := ⟨rfl, h⟩
theorem cs7 (hi : i + 6 ≤ n) (hn : n ≤ 3072) (hj : j < 512) (h : CRs j pl S L V P) (hc : CRc j c pl) : NXT n i j 579 xs c S L V W pl P R l5 l6 l7 l8 := by
  obtain ⟨b, b0, M, A, NR, N, tl, m, rk, hb, hb0, hx, hs, hk1, hcl, hm, he, ht, hL⟩ := id h
  have hk0 := hx.1.2.1
  have hM := hx.2.1.1
  have hp := hx.2.2.2.2.2.1
  have hP := hx.2.2.1
  cases e : lmM M (xs (i + 1)) with
  | none => exact ne7_1 hi hn (fun R Q => (k76 (d := 42) hb hk0).trans (by rw [lmp_lm hM.1 hM.2.2, e])) (fr (fun C Q => (r188 (d := 42) hp hP hM.2.1 hM.2.2).trans (by rw [e]))) su_self (CRs_v hj h) (CRc_thr hc)
  | some l =>
    obtain ⟨hl, -⟩ := lmM_lt e hM.2.2
    have ev : lv (S 0 5 l) (S 0 6 l) = lv (V 0 5 l) (V 0 6 l) := by rw [hx.1.1.2.1 5 l (by decide) (by decide) hl, hx.1.1.2.1 6 l (by decide) (by decide) hl]
    have hv : lv (V 0 5 l) (V 0 6 l) = 0 ∨ lv (V 0 5 l) (V 0 6 l) = 1 := by unfold lv; split <;> (try split) <;> simp
    have eV : lightS 0 l (su V 4 200 0 0) = su (su V 4 200 0 0) 0 9 l (lv (V 0 5 l) (V 0 6 l)) := by
      unfold lightS
      rw [su_gne (by decide)]
    refine nx7 hi hn (v := lv (V 0 5 l) (V 0 6 l)) (V2 := su (su V 4 200 0 0) 0 9 l (lv (V 0 5 l) (V 0 6 l))) (fun R Q => (k76 (d := 42) hb hk0).trans (by rw [lmp_lm hM.1 hM.2.2, e]; show Q (.inl (some (.int (lv (S 0 5 l) (S 0 6 l)))), CH c (lightS 0 l S) L R) = _; rw [ev])) (fr (fun C Q => (r188 (d := 42) hp hP hM.2.1 hM.2.2).trans (by rw [e, ← eV]))) (by rw [su_gne (by decide), su_self]) hv ?_ (CRc_id hc)
    have t := townR_lit (i := l) (ctx_thr (x := 0) (by decide) hx).1 hv
    unfold lightS
    rw [ev]
    exact CRs_T hj hb hb0 hx hs hk1 hcl he ht hL t (by omega) (sbt_su sbt_refl (pT_mk (by decide))) (sbt_su sbt_refl (pT_mk (by decide))) ⟨by rw [su_ne (by decide)]; exact hm.1, by omega⟩
theorem cs8 (hi : i + 6 ≤ n) (hn : n ≤ 3072) (hj : j < 512) (h : CRs j pl S L V P) (hc : CRc j c pl) : NXT n i j 642 xs c S L V W pl P R l5 l6 l7 l8 := by
  obtain ⟨b, b0, M, A, NR, N, tl, m, rk, hb, hb0, hx, hs, hk1, hcl, hm, he, ht, hL⟩ := id h
  have hk0 := hx.1.2.1
  have hM := hx.2.1.1
  have hp := hx.2.2.2.2.2.1
  have hP := hx.2.2.1
  have h01 : ∀ i, i < M → V 0 9 i = 0 ∨ V 0 9 i = 1 := fun i hi => by
    rw [← hx.1.1.2.1 9 i (by decide) (by decide) hi]
    exact hk0.2.2 i (by have := hM.2.2; omega)
  cases e : lmM M (xs (i + 1)) with
  | none => exact ne8_1 hi hn (fun R Q => (k77 (d := 42) hb hk0).trans (by rw [lmp_lm hM.1 hM.2.2, e])) (fr (fun C Q => (r189 (d := 42) hp hP hM.2.1 hM.2.2 h01).trans (by rw [e]))) su_self (CRs_v hj h) (CRc_thr hc)
  | some l =>
    obtain ⟨hl, -⟩ := lmM_lt e hM.2.2
    have ev : S 0 9 l = V 0 9 l := hx.1.1.2.1 9 l (by decide) (by decide) hl
    refine nx8 hi hn (v := S 0 9 l) (fun R Q => (k77 (d := 42) hb hk0).trans (by rw [lmp_lm hM.1 hM.2.2, e])) (fr (fun C Q => (r189 (d := 42) hp hP hM.2.1 hM.2.2 h01).trans (by rw [e, ev]))) (by rw [su_gne (by decide), su_self]) (hk0.2.2 l (by have := hM.2.2; omega)) ?_ (CRc_id hc)
    exact CRs_T hj hb hb0 hx hs hk1 hcl he ht hL (townR_lit (i := l) (ctx_thr (x := 0) (by decide) hx).1 (Or.inl rfl)) (by omega) (sbt_su sbt_refl (pT_mk (by decide))) (sbt_su sbt_refl (pT_mk (by decide))) ⟨by rw [su_ne (by decide)]; exact hm.1, by omega⟩
theorem cs9 (hi : i + 6 ≤ n) (hn : n ≤ 3072) (hj : j < 512) (h : CRs j pl S L V P) (hc : CRc j c pl) : NXT n i j 705 xs c S L V W pl P R l5 l6 l7 l8 := by
  obtain ⟨b, b0, M, A, NR, N, tl, m, rk, hb, hb0, hx, hs, hk1, hcl, hm, he, ht, hL⟩ := id h
  have hk0 := hx.1.2.1
  have hM := hx.2.1.1
  have hp := hx.2.2.2.2.2.1
  have hP := hx.2.2.1
  cases e : lmM M (xs (i + 1)) with
  | none => exact ne9_1 hi hn (fun R Q => (k78 (d := 42) hb hk0).trans (by rw [lmp_lm hM.1 hM.2.2, e])) (fr (fun C Q => (r190 (d := 42) hp hP hM.2.1 hM.2.2).trans (by rw [e]))) su_self (CRs_v hj h) (CRc_thr hc)
  | some l =>
    obtain ⟨hl, -⟩ := lmM_lt e hM.2.2
    have e5 : S 0 5 l = V 0 5 l := hx.1.1.2.1 5 l (by decide) (by decide) hl
    have e11 : S 0 11 l = P 0 104 l := (hx.1.2.2.1 l hl).2
    by_cases g1 : xs (i + 2) < 1
    · exact ne9_2 hi hn (fun R Q => (k78 (d := 42) hb hk0).trans (by rw [lmp_lm hM.1 hM.2.2, e]; exact if_pos g1)) (fr (fun C Q => (r190 (d := 42) hp hP hM.2.1 hM.2.2).trans (by rw [e]; exact if_pos g1))) su_self (CRs_v hj h) (CRc_thr hc)
    by_cases g2 : 30 < xs (i + 2)
    · exact ne9_2 hi hn (fun R Q => (k78 (d := 42) hb hk0).trans (by rw [lmp_lm hM.1 hM.2.2, e]; exact (if_neg g1).trans (if_pos g2))) (fr (fun C Q => (r190 (d := 42) hp hP hM.2.1 hM.2.2).trans (by rw [e]; exact (if_neg g1).trans (if_pos g2)))) su_self (CRs_v hj h) (CRc_thr hc)
    have ev : mnI (P 0 104 l) (V 0 5 l + xs (i + 2)) = mnI (S 0 5 l + xs (i + 2)) (S 0 11 l) := by rw [mnI_comm, e5, e11]
    refine nx9 hi hn (v := mnI (S 0 5 l + xs (i + 2)) (S 0 11 l)) (V2 := su (su V 4 200 0 0) 0 5 l (mnI (S 0 5 l + xs (i + 2)) (S 0 11 l))) (fun R Q => (k78 (d := 42) hb hk0).trans (by rw [lmp_lm hM.1 hM.2.2, e]; exact (if_neg g1).trans (if_neg g2))) (fr (fun C Q => (r190 (d := 42) hp hP hM.2.1 hM.2.2).trans (by rw [e, ← ev]; exact (if_neg g1).trans (if_neg g2)))) (by rw [su_gne (by decide), su_self]) ?_ (CRc_id hc)
    exact CRs_T hj hb hb0 hx hs hk1 hcl he ht hL (townR_su (v := 5) (i := l) (ctx_thr (x := 0) (by decide) hx).1 (by decide) (by decide) (by decide) (by decide) (by decide) (by decide) (by decide) (by decide) (by decide) (by decide) (by decide)) (by omega) (sbt_su sbt_refl (pT_mk (by decide))) (sbt_su sbt_refl (pT_mk (by decide))) ⟨by rw [su_ne (by decide)]; exact hm.1, by omega⟩
theorem cs10 (hi : i + 6 ≤ n) (hn : n ≤ 3072) (hj : j < 512) (h : CRs j pl S L V P) (hc : CRc j c pl) : NXT n i j 773 xs c S L V W pl P R l5 l6 l7 l8 := by
  obtain ⟨b, b0, M, A, NR, N, tl, m, rk, hb, hb0, hx, hs, hk1, hcl, hm, he, ht, hL⟩ := id h
  have hk0 := hx.1.2.1
  have hM := hx.2.1.1
  have hp := hx.2.2.2.2.2.1
  have hP := hx.2.2.1
  cases e : lmM M (xs (i + 1)) with
  | none => exact ne10_1 hi hn (fun R Q => (k79 (d := 42) hb hk0).trans (by rw [lmp_lm hM.1 hM.2.2, e])) (fr (fun C Q => (r191 (d := 42) hp hP hM.2.1 hM.2.2).trans (by rw [e]))) su_self (CRs_v hj h) (CRc_thr hc)
  | some l =>
    obtain ⟨hl, -⟩ := lmM_lt e hM.2.2
    have ev : S 0 6 l = V 0 6 l := hx.1.1.2.1 6 l (by decide) (by decide) hl
    refine nx10 hi hn (v := S 0 6 l) (fun R Q => (k79 (d := 42) hb hk0).trans (by rw [lmp_lm hM.1 hM.2.2, e])) (fr (fun C Q => (r191 (d := 42) hp hP hM.2.1 hM.2.2).trans (by rw [e, ev]))) (by rw [su_gne (by decide), su_self]) ?_ (CRc_id hc)
    exact CRs_T hj hb hb0 hx hs hk1 hcl he ht hL (townR_su (v := 6) (i := l) (ctx_thr (x := 0) (by decide) hx).1 (by decide) (by decide) (by decide) (by decide) (by decide) (by decide) (by decide) (by decide) (by decide) (by decide) (by decide)) (by omega) (sbt_su sbt_refl (pT_mk (by decide))) (sbt_su sbt_refl (pT_mk (by decide))) ⟨by rw [su_ne (by decide)]; exact hm.1, by omega⟩
theorem pass_n {q : Nat} (hx : S 0 0 0 = Int32.ofNat m) (hm : m ≤ 200 * j) (hq : q ≤ 200) : ∃ m', (psS 0 b q 0 S).2 0 0 0 = Int32.ofNat m' ∧ m' ≤ 200 * (j + 1) := by
  obtain ⟨m', h1, h2⟩ := ps_0 (g := 0) (b := b) q 0 S m hx
  exact ⟨m', h2, by omega⟩
end CALL
