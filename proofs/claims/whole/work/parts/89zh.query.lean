/-! THE LAW: CALLS THAT ONLY LOOK (printed by gen/query.py) -/
section QRY
variable {n i j pl : Nat} {xs : Nat → Int32} {c : Nat × Nat × Nat} {R : Nat → Option PC} {S V P : S3} {L W : L3} {l5 l6 l7 l8 : Option Value} {b g M A NR N β β' : Nat} {rk : Nat → Nat} {nt : Prop} {x : Int32}
theorem ctx_mono (h : ctx g b pl M A NR N β rk nt P S V) (h1 : β ≤ β') (h2 : β' < 2 ^ 30) : ctx g b pl M A NR N β' rk nt P S V := ⟨townR_mono h.1 h1, h.2.1, h.2.2.1, h.2.2.2.1, h.2.2.2.2.1, h.2.2.2.2.2.1, h2⟩
theorem CRs_v (hj : j < 512) (h : CRs j pl S L V P) : CRs (j + 1) pl S L (su V 4 200 0 x) P := by
  obtain ⟨b, b0, M, A, NR, N, tl, m, rk, hb, hb0, hx, hs, hk1, hcl, hm, he, ⟨ht1, ht2, ht3⟩, hL⟩ := h
  refine ⟨b, b0, M, A, NR, N, tl, m, rk, hb, hb0, ctx_mono (ctx_thr (by decide) hx) (by omega) (by omega), hs, hk1, hcl, ⟨hm.1, by omega⟩, ?_, ⟨?_, ?_, ht3⟩, hL⟩
  · rw [su_ne (by decide)]; exact he
  · unfold tpR at ht1 ⊢
    rw [su_vne (by decide)]
    exact ht1
  · rw [su_ne (by decide)]; exact ht2
theorem cs16 (hi : i + 6 ≤ n) (hn : n ≤ 3072) (hj : j < 512) (h : CRs j pl S L V P) (hc : CRc j c pl) : NXT n i j 980 xs c S L V W pl P R l5 l6 l7 l8 := by
  obtain ⟨b, b0, M, A, NR, N, tl, m, rk, hb, hb0, hx, hs, hk1, hcl, hm, he, ht, hL⟩ := id h
  have hk0 := hx.1.2.1
  have hM := hx.2.1.1
  have hp := hx.2.2.2.2.2.1
  have hP := hx.2.2.1
  have hNN := hx.1.2.2.2.2.2.2
  cases e : lmM M (xs (i + 1)) with
  | none => exact ne16_1 hi hn (fun R Q => (k85 (d := 42) hb hk0).trans (by rw [lmp_lm hM.1 hM.2.2, e])) (fr (fun C Q => (r197 (d := 42) hp hP hM.2.1 hM.2.2).trans (by rw [e]))) su_self (CRs_v hj h) (CRc_thr hc)
  | some l =>
    obtain ⟨hl, -⟩ := lmM_lt e hM.2.2
    have ev : S 0 10 l = P 0 103 l := (hx.1.2.2.1 l hl).1
    exact nx16 hi hn (v := S 0 10 l) (fun R Q => (k85 (d := 42) hb hk0).trans (by rw [lmp_lm hM.1 hM.2.2, e])) (fr (fun C Q => (r197 (d := 42) hp hP hM.2.1 hM.2.2).trans (by rw [e, ev]))) su_self (CRs_v hj h) (CRc_id hc)
theorem cs17 (hi : i + 6 ≤ n) (hn : n ≤ 3072) (hj : j < 512) (h : CRs j pl S L V P) (hc : CRc j c pl) : NXT n i j 1036 xs c S L V W pl P R l5 l6 l7 l8 := by
  obtain ⟨b, b0, M, A, NR, N, tl, m, rk, hb, hb0, hx, hs, hk1, hcl, hm, he, ht, hL⟩ := id h
  have hk0 := hx.1.2.1
  have hM := hx.2.1.1
  have hp := hx.2.2.2.2.2.1
  have hP := hx.2.2.1
  have hNN := hx.1.2.2.2.2.2.2
  cases e : lmM M (xs (i + 1)) with
  | none => exact ne17_1 hi hn (fun R Q => (k86 (d := 42) hb hk0).trans (by rw [lmp_lm hM.1 hM.2.2, e])) (fr (fun C Q => (r198 (d := 42) hp hP hM.2.1 hM.2.2).trans (by rw [e]))) su_self (CRs_v hj h) (CRc_thr hc)
  | some l =>
    obtain ⟨hl, -⟩ := lmM_lt e hM.2.2
    have ev : S 0 11 l = P 0 104 l := (hx.1.2.2.1 l hl).2
    exact nx17 hi hn (v := S 0 11 l) (fun R Q => (k86 (d := 42) hb hk0).trans (by rw [lmp_lm hM.1 hM.2.2, e])) (fr (fun C Q => (r198 (d := 42) hp hP hM.2.1 hM.2.2).trans (by rw [e, ev]))) su_self (CRs_v hj h) (CRc_id hc)
theorem cs18 (hi : i + 6 ≤ n) (hn : n ≤ 3072) (hj : j < 512) (h : CRs j pl S L V P) (hc : CRc j c pl) : NXT n i j 1092 xs c S L V W pl P R l5 l6 l7 l8 := by
  obtain ⟨b, b0, M, A, NR, N, tl, m, rk, hb, hb0, hx, hs, hk1, hcl, hm, he, ht, hL⟩ := id h
  have hk0 := hx.1.2.1
  have hM := hx.2.1.1
  have hp := hx.2.2.2.2.2.1
  have hP := hx.2.2.1
  have hNN := hx.1.2.2.2.2.2.2
  cases e : lmM M (xs (i + 1)) with
  | none => exact ne18_1 hi hn (fun R Q => (k87 (d := 42) hb hk0).trans (by rw [lmp_lm hM.1 hM.2.2, e])) (fr (fun C Q => (r199 (d := 42) hp hP hM.2.1 hM.2.2).trans (by rw [e]))) su_self (CRs_v hj h) (CRc_thr hc)
  | some l =>
    obtain ⟨hl, -⟩ := lmM_lt e hM.2.2
    have ev : S 0 5 l = V 0 5 l := hx.1.1.2.1 5 l (by decide) (by decide) hl
    exact nx18 hi hn (v := S 0 5 l) (fun R Q => (k87 (d := 42) hb hk0).trans (by rw [lmp_lm hM.1 hM.2.2, e])) (fr (fun C Q => (r199 (d := 42) hp hP hM.2.1 hM.2.2).trans (by rw [e, ev]))) su_self (CRs_v hj h) (CRc_id hc)
theorem cs19 (hi : i + 6 ≤ n) (hn : n ≤ 3072) (hj : j < 512) (h : CRs j pl S L V P) (hc : CRc j c pl) : NXT n i j 1148 xs c S L V W pl P R l5 l6 l7 l8 := by
  obtain ⟨b, b0, M, A, NR, N, tl, m, rk, hb, hb0, hx, hs, hk1, hcl, hm, he, ht, hL⟩ := id h
  have hk0 := hx.1.2.1
  have hM := hx.2.1.1
  have hp := hx.2.2.2.2.2.1
  have hP := hx.2.2.1
  have hNN := hx.1.2.2.2.2.2.2
  cases e : lmM M (xs (i + 1)) with
  | none => exact ne19_1 hi hn (fun R Q => (k88 (d := 42) hb hk0).trans (by rw [lmp_lm hM.1 hM.2.2, e])) (fr (fun C Q => (r200 (d := 42) hp hP hM.2.1 hM.2.2).trans (by rw [e]))) su_self (CRs_v hj h) (CRc_thr hc)
  | some l =>
    obtain ⟨hl, -⟩ := lmM_lt e hM.2.2
    have ev : S 0 6 l = V 0 6 l := hx.1.1.2.1 6 l (by decide) (by decide) hl
    exact nx19 hi hn (v := S 0 6 l) (fun R Q => (k88 (d := 42) hb hk0).trans (by rw [lmp_lm hM.1 hM.2.2, e])) (fr (fun C Q => (r200 (d := 42) hp hP hM.2.1 hM.2.2).trans (by rw [e, ev]))) su_self (CRs_v hj h) (CRc_id hc)
theorem cs20 (hi : i + 6 ≤ n) (hn : n ≤ 3072) (hj : j < 512) (h : CRs j pl S L V P) (hc : CRc j c pl) : NXT n i j 1204 xs c S L V W pl P R l5 l6 l7 l8 := by
  obtain ⟨b, b0, M, A, NR, N, tl, m, rk, hb, hb0, hx, hs, hk1, hcl, hm, he, ht, hL⟩ := id h
  have hk0 := hx.1.2.1
  have hM := hx.2.1.1
  have hp := hx.2.2.2.2.2.1
  have hP := hx.2.2.1
  have hNN := hx.1.2.2.2.2.2.2
  have h01 : ∀ i, i < M → V 0 9 i = 0 ∨ V 0 9 i = 1 := fun i hi => by
    rw [← hx.1.1.2.1 9 i (by decide) (by decide) hi]
    exact hk0.2.2 i (by have := hM.2.2; omega)
  cases e : lmM M (xs (i + 1)) with
  | none => exact ne20_1 hi hn (fun R Q => (k89 (d := 42) hb hk0).trans (by rw [lmp_lm hM.1 hM.2.2, e])) (fr (fun C Q => (r201 (d := 42) hp hP hM.2.1 hM.2.2 h01).trans (by rw [e]))) su_self (CRs_v hj h) (CRc_thr hc)
  | some l =>
    obtain ⟨hl, -⟩ := lmM_lt e hM.2.2
    have ev : S 0 9 l = V 0 9 l := hx.1.1.2.1 9 l (by decide) (by decide) hl
    exact nx20 hi hn (v := S 0 9 l) (fun R Q => (k89 (d := 42) hb hk0).trans (by rw [lmp_lm hM.1 hM.2.2, e])) (fr (fun C Q => (r201 (d := 42) hp hP hM.2.1 hM.2.2 h01).trans (by rw [e, ev]))) su_self (hk0.2.2 l (by have := hM.2.2; omega)) (CRs_v hj h) (CRc_id hc)
theorem cs21 (hi : i + 6 ≤ n) (hn : n ≤ 3072) (hj : j < 512) (h : CRs j pl S L V P) (hc : CRc j c pl) : NXT n i j 1267 xs c S L V W pl P R l5 l6 l7 l8 := by
  obtain ⟨b, b0, M, A, NR, N, tl, m, rk, hb, hb0, hx, hs, hk1, hcl, hm, he, ht, hL⟩ := id h
  have hk0 := hx.1.2.1
  have hM := hx.2.1.1
  have hp := hx.2.2.2.2.2.1
  have hP := hx.2.2.1
  have hNN := hx.1.2.2.2.2.2.2
  cases e : lmM M (xs (i + 1)) with
  | none => exact ne21_1 hi hn (fun R Q => (k90 (d := 42) hb hk0).trans (by rw [lmp_lm hM.1 hM.2.2, e])) (fr (fun C Q => (r202 (d := 42) hp hP hM.2.1 hM.2.2).trans (by rw [e]))) su_self (CRs_v hj h) (CRc_thr hc)
  | some l =>
    obtain ⟨hl, -⟩ := lmM_lt e hM.2.2
    have ev : S 0 8 l = V 0 8 l := hx.1.1.2.1 8 l (by decide) (by decide) hl
    exact nx21 hi hn (v := S 0 8 l) (fun R Q => (k90 (d := 42) hb hk0).trans (by rw [lmp_lm hM.1 hM.2.2, e])) (fr (fun C Q => (r202 (d := 42) hp hP hM.2.1 hM.2.2).trans (by rw [e, ev]))) su_self (CRs_v hj h) (CRc_id hc)
theorem cs29 (hi : i + 6 ≤ n) (hn : n ≤ 3072) (hj : j < 512) (h : CRs j pl S L V P) (hc : CRc j c pl) : NXT n i j 1414 xs c S L V W pl P R l5 l6 l7 l8 := by
  obtain ⟨b, b0, M, A, NR, N, tl, m, rk, hb, hb0, hx, hs, hk1, hcl, hm, he, ht, hL⟩ := id h
  have hk0 := hx.1.2.1
  have hM := hx.2.1.1
  have hp := hx.2.2.2.2.2.1
  have hP := hx.2.2.1
  have hNN := hx.1.2.2.2.2.2.2
  cases e : lmM N (xs (i + 1)) with
  | none => exact ne29_1 hi hn (fun R Q => (k98 (d := 42)).trans (by rw [lgt_lm hNN.1 hNN.2.1, e])) (fr (fun C Q => (r211 (d := 42) hNN.2.2.1 hNN.2.1).trans (by rw [e]))) su_self (CRs_v hj h) (CRc_thr hc)
  | some l =>
    obtain ⟨hl, -⟩ := lmM_lt e (show N ≤ 10 by have := hNN.2.1; omega)
    have ev : S 0 13 l = V 0 13 l := hx.1.1.2.2 13 l (by decide) (by decide) hl
    exact nx29 hi hn (v := S 0 13 l) (fun R Q => (k98 (d := 42)).trans (by rw [lgt_lm hNN.1 hNN.2.1, e])) (fr (fun C Q => (r211 (d := 42) hNN.2.2.1 hNN.2.1).trans (by rw [e, ev]))) su_self (CRs_v hj h) (CRc_id hc)
theorem cs30 (hi : i + 6 ≤ n) (hn : n ≤ 3072) (hj : j < 512) (h : CRs j pl S L V P) (hc : CRc j c pl) : NXT n i j 1470 xs c S L V W pl P R l5 l6 l7 l8 := by
  obtain ⟨b, b0, M, A, NR, N, tl, m, rk, hb, hb0, hx, hs, hk1, hcl, hm, he, ht, hL⟩ := id h
  have hk0 := hx.1.2.1
  have hM := hx.2.1.1
  have hp := hx.2.2.2.2.2.1
  have hP := hx.2.2.1
  have hNN := hx.1.2.2.2.2.2.2
  cases e : lmM N (xs (i + 1)) with
  | none => exact ne30_1 hi hn (fun R Q => (k99 (d := 42)).trans (by rw [lgt_lm hNN.1 hNN.2.1, e])) (fr (fun C Q => (r212 (d := 42) hNN.2.2.1 hNN.2.1).trans (by rw [e]))) su_self (CRs_v hj h) (CRc_thr hc)
  | some l =>
    obtain ⟨hl, -⟩ := lmM_lt e (show N ≤ 10 by have := hNN.2.1; omega)
    have ev : S 0 12 l = V 0 12 l := hx.1.1.2.2 12 l (by decide) (by decide) hl
    exact nx30 hi hn (v := S 0 12 l) (fun R Q => (k99 (d := 42)).trans (by rw [lgt_lm hNN.1 hNN.2.1, e])) (fr (fun C Q => (r212 (d := 42) hNN.2.2.1 hNN.2.1).trans (by rw [e, ev]))) su_self (CRs_v hj h) (CRc_id hc)
theorem cs31 (hi : i + 6 ≤ n) (hn : n ≤ 3072) (hj : j < 512) (h : CRs j pl S L V P) (hc : CRc j c pl) : NXT n i j 1526 xs c S L V W pl P R l5 l6 l7 l8 := by
  obtain ⟨b, b0, M, A, NR, N, tl, m, rk, hb, hb0, hx, hs, hk1, hcl, hm, he, ht, hL⟩ := id h
  have hk0 := hx.1.2.1
  have hM := hx.2.1.1
  have hp := hx.2.2.2.2.2.1
  have hP := hx.2.2.1
  have hNN := hx.1.2.2.2.2.2.2
  cases e : lmM N (xs (i + 1)) with
  | none => exact ne31_1 hi hn (fun R Q => (k100 (d := 42)).trans (by rw [lgt_lm hNN.1 hNN.2.1, e])) (fr (fun C Q => (r213 (d := 42) hNN.2.2.1 hNN.2.1).trans (by rw [e]))) su_self (CRs_v hj h) (CRc_thr hc)
  | some l =>
    obtain ⟨hl, -⟩ := lmM_lt e (show N ≤ 10 by have := hNN.2.1; omega)
    have ev : S 0 14 l = V 0 14 l := hx.1.1.2.2 14 l (by decide) (by decide) hl
    exact nx31 hi hn (v := if S 0 14 l = -1 then 0 else 1) (fun R Q => (k100 (d := 42)).trans (by rw [lgt_lm hNN.1 hNN.2.1, e])) (fr (fun C Q => (r213 (d := 42) hNN.2.2.1 hNN.2.1).trans (by rw [e, ev]))) su_self (by split <;> simp) (CRs_v hj h) (CRc_id hc)
theorem cs32 (hi : i + 6 ≤ n) (hn : n ≤ 3072) (hj : j < 512) (h : CRs j pl S L V P) (hc : CRc j c pl) : NXT n i j 1589 xs c S L V W pl P R l5 l6 l7 l8 := by
  obtain ⟨b, b0, M, A, NR, N, tl, m, rk, hb, hb0, hx, hs, hk1, hcl, hm, he, ht, hL⟩ := id h
  have hk0 := hx.1.2.1
  have hM := hx.2.1.1
  have hp := hx.2.2.2.2.2.1
  have hP := hx.2.2.1
  have hNN := hx.1.2.2.2.2.2.2
  cases e : lmM N (xs (i + 1)) with
  | none => exact ne32_1 hi hn (fun R Q => (k101 (d := 42)).trans (by rw [lgt_lm hNN.1 hNN.2.1, e])) (fr (fun C Q => (r214 (d := 42) hNN.2.2.1 hNN.2.1).trans (by rw [e]))) su_self (CRs_v hj h) (CRc_thr hc)
  | some l =>
    obtain ⟨hl, -⟩ := lmM_lt e (show N ≤ 10 by have := hNN.2.1; omega)
    have ev : S 0 14 l = V 0 14 l := hx.1.1.2.2 14 l (by decide) (by decide) hl
    by_cases g : S 0 14 l = -1
    · exact ne32_2 hi hn (fun R Q => (k101 (d := 42)).trans (by rw [lgt_lm hNN.1 hNN.2.1, e]; exact if_pos g)) (fr (fun C Q => (r214 (d := 42) hNN.2.2.1 hNN.2.1).trans (by rw [e]; exact if_pos (ev ▸ g)))) su_self (CRs_v hj h) (CRc_thr hc)
    · exact nx32 hi hn (v := S 0 14 l) (fun R Q => (k101 (d := 42)).trans (by rw [lgt_lm hNN.1 hNN.2.1, e]; exact if_neg g)) (fr (fun C Q => (r214 (d := 42) hNN.2.2.1 hNN.2.1).trans (by rw [e, ev]; exact if_neg (ev ▸ g)))) su_self (CRs_v hj h) (CRc_id hc)
theorem cs33 (hi : i + 6 ≤ n) (hn : n ≤ 3072) (hj : j < 512) (h : CRs j pl S L V P) (hc : CRc j c pl) : NXT n i j 1645 xs c S L V W pl P R l5 l6 l7 l8 := by
  obtain ⟨b, b0, M, A, NR, N, tl, m, rk, hb, hb0, hx, hs, hk1, hcl, hm, he, ht, hL⟩ := id h
  have hk0 := hx.1.2.1
  have hM := hx.2.1.1
  have hp := hx.2.2.2.2.2.1
  have hP := hx.2.2.1
  have hNN := hx.1.2.2.2.2.2.2
  cases e : lmM N (xs (i + 1)) with
  | none => exact ne33_1 hi hn (fun R Q => (k102 (d := 42)).trans (by rw [lgt_lm hNN.1 hNN.2.1, e])) (fr (fun C Q => (r216 (d := 42) hNN.2.2.1 hNN.2.1).trans (by rw [e]))) su_self (CRs_v hj h) (CRc_thr hc)
  | some l =>
    obtain ⟨hl, -⟩ := lmM_lt e (show N ≤ 10 by have := hNN.2.1; omega)
    have ev : endS 0 l S = endS 0 l V := by unfold endS; rw [hx.1.1.2.2 15 l (by decide) (by decide) hl, hx.1.1.2.2 18 l (by decide) (by decide) hl]
    exact nx33 hi hn (v := endS 0 l S) (fun R Q => (k102 (d := 42)).trans (by rw [lgt_lm hNN.1 hNN.2.1, e])) (fr (fun C Q => (r216 (d := 42) hNN.2.2.1 hNN.2.1).trans (by rw [e, ev]))) su_self (by unfold endS; split <;> (try split) <;> simp) (CRs_v hj h) (CRc_id hc)
theorem cs34 (hi : i + 6 ≤ n) (hn : n ≤ 3072) (hj : j < 512) (h : CRs j pl S L V P) (hc : CRc j c pl) : NXT n i j 1708 xs c S L V W pl P R l5 l6 l7 l8 := by
  obtain ⟨b, b0, M, A, NR, N, tl, m, rk, hb, hb0, hx, hs, hk1, hcl, hm, he, ht, hL⟩ := id h
  have hk0 := hx.1.2.1
  have hM := hx.2.1.1
  have hp := hx.2.2.2.2.2.1
  have hP := hx.2.2.1
  have hNN := hx.1.2.2.2.2.2.2
  cases e : lmM N (xs (i + 1)) with
  | none => exact ne34_1 hi hn (fun R Q => (k103 (d := 42)).trans (by rw [lgt_lm hNN.1 hNN.2.1, e])) (fr (fun C Q => (r217 (d := 42) hNN.2.2.1 hNN.2.1).trans (by rw [e]))) su_self (CRs_v hj h) (CRc_thr hc)
  | some l =>
    obtain ⟨hl, -⟩ := lmM_lt e (show N ≤ 10 by have := hNN.2.1; omega)
    have ev : S 0 16 l = V 0 16 l := hx.1.1.2.2 16 l (by decide) (by decide) hl
    exact nx34 hi hn (v := S 0 16 l) (fun R Q => (k103 (d := 42)).trans (by rw [lgt_lm hNN.1 hNN.2.1, e])) (fr (fun C Q => (r217 (d := 42) hNN.2.2.1 hNN.2.1).trans (by rw [e, ev]))) su_self (CRs_v hj h) (CRc_id hc)
theorem cs35 (hi : i + 6 ≤ n) (hn : n ≤ 3072) (hj : j < 512) (h : CRs j pl S L V P) (hc : CRc j c pl) : NXT n i j 1764 xs c S L V W pl P R l5 l6 l7 l8 := by
  obtain ⟨b, b0, M, A, NR, N, tl, m, rk, hb, hb0, hx, hs, hk1, hcl, hm, he, ht, hL⟩ := id h
  have hk0 := hx.1.2.1
  have hM := hx.2.1.1
  have hp := hx.2.2.2.2.2.1
  have hP := hx.2.2.1
  have hNN := hx.1.2.2.2.2.2.2
  cases e : lmM N (xs (i + 1)) with
  | none => exact ne35_1 hi hn (fun R Q => (k104 (d := 42)).trans (by rw [lgt_lm hNN.1 hNN.2.1, e])) (fr (fun C Q => (r218 (d := 42) hNN.2.2.1 hNN.2.1).trans (by rw [e]))) su_self (CRs_v hj h) (CRc_thr hc)
  | some l =>
    obtain ⟨hl, -⟩ := lmM_lt e (show N ≤ 10 by have := hNN.2.1; omega)
    have ev : S 0 17 l = V 0 17 l := hx.1.1.2.2 17 l (by decide) (by decide) hl
    exact nx35 hi hn (v := S 0 17 l) (fun R Q => (k104 (d := 42)).trans (by rw [lgt_lm hNN.1 hNN.2.1, e])) (fr (fun C Q => (r218 (d := 42) hNN.2.2.1 hNN.2.1).trans (by rw [e, ev]))) su_self (CRs_v hj h) (CRc_id hc)
theorem cs3 (hi : i + 6 ≤ n) (hn : n ≤ 3072) (hj : j < 512) (h : CRs j pl S L V P) (hc : CRc j c pl) : NXT n i j 401 xs c S L V W pl P R l5 l6 l7 l8 := by
  obtain ⟨b, b0, M, A, NR, N, tl, m, rk, hb, hb0, hx, hs, hk1, hcl, hm, he, ht, hL⟩ := id h
  have hk0 := hx.1.2.1
  have hM := hx.2.1.1
  have hp := hx.2.2.2.2.2.1
  have hP := hx.2.2.1
  have hNN := hx.1.2.2.2.2.2.2
  have ev : S 4 205 0 = V 4 202 0 := he
  exact nx3 hi hn (v := S 4 205 0) (fun R Q => k72 (d := 44)) (fr (fun C Q => (r184 (d := 44)).trans (by rw [ev]))) (CRs_v hj h) (CRc_id hc)
theorem cs13 (hi : i + 6 ≤ n) (hn : n ≤ 3072) (hj : j < 512) (h : CRs j pl S L V P) (hc : CRc j c pl) : NXT n i j 941 xs c S L V W pl P R l5 l6 l7 l8 := by
  obtain ⟨b, b0, M, A, NR, N, tl, m, rk, hb, hb0, hx, hs, hk1, hcl, hm, he, ht, hL⟩ := id h
  have hk0 := hx.1.2.1
  have hM := hx.2.1.1
  have hp := hx.2.2.2.2.2.1
  have hP := hx.2.2.1
  have hNN := hx.1.2.2.2.2.2.2
  have ev : S (2 + b) 100 0 = P 0 100 0 := hx.2.1.1.1.trans hx.2.1.1.2.1.symm
  exact nx13 hi hn (v := S (2 + b) 100 0) (fun R Q => k82 (d := 44) hb hk0.1) (fr (fun C Q => (r194 (d := 44) hp hP).trans (by rw [ev]))) (CRs_v hj h) (CRc_id hc)
theorem cs14 (hi : i + 6 ≤ n) (hn : n ≤ 3072) (hj : j < 512) (h : CRs j pl S L V P) (hc : CRc j c pl) : NXT n i j 954 xs c S L V W pl P R l5 l6 l7 l8 := by
  obtain ⟨b, b0, M, A, NR, N, tl, m, rk, hb, hb0, hx, hs, hk1, hcl, hm, he, ht, hL⟩ := id h
  have hk0 := hx.1.2.1
  have hM := hx.2.1.1
  have hp := hx.2.2.2.2.2.1
  have hP := hx.2.2.1
  have hNN := hx.1.2.2.2.2.2.2
  have ev : S (2 + b) 101 0 = P 0 101 0 := hx.2.1.2.1.1.trans hx.2.1.2.1.2.1.symm
  exact nx14 hi hn (v := S (2 + b) 101 0) (fun R Q => k83 (d := 44) hb hk0.1) (fr (fun C Q => (r195 (d := 44) hp hP).trans (by rw [ev]))) (CRs_v hj h) (CRc_id hc)
theorem cs15 (hi : i + 6 ≤ n) (hn : n ≤ 3072) (hj : j < 512) (h : CRs j pl S L V P) (hc : CRc j c pl) : NXT n i j 967 xs c S L V W pl P R l5 l6 l7 l8 := by
  obtain ⟨b, b0, M, A, NR, N, tl, m, rk, hb, hb0, hx, hs, hk1, hcl, hm, he, ht, hL⟩ := id h
  have hk0 := hx.1.2.1
  have hM := hx.2.1.1
  have hp := hx.2.2.2.2.2.1
  have hP := hx.2.2.1
  have hNN := hx.1.2.2.2.2.2.2
  have ev : S (2 + b) 102 0 = P 0 102 0 := hx.2.1.2.2.1.1.trans hx.2.1.2.2.1.2.1.symm
  exact nx15 hi hn (v := S (2 + b) 102 0) (fun R Q => k84 (d := 44) hb hk0.1) (fr (fun C Q => (r196 (d := 44) hp hP).trans (by rw [ev]))) (CRs_v hj h) (CRc_id hc)
theorem cs23 (hi : i + 6 ≤ n) (hn : n ≤ 3072) (hj : j < 512) (h : CRs j pl S L V P) (hc : CRc j c pl) : NXT n i j 1336 xs c S L V W pl P R l5 l6 l7 l8 := by
  obtain ⟨b, b0, M, A, NR, N, tl, m, rk, hb, hb0, hx, hs, hk1, hcl, hm, he, ht, hL⟩ := id h
  have hk0 := hx.1.2.1
  have hM := hx.2.1.1
  have hp := hx.2.2.2.2.2.1
  have hP := hx.2.2.1
  have hNN := hx.1.2.2.2.2.2.2
  have ev : S 0 2 0 = V 0 2 0 := hx.1.1.1 2 (by decide)
  exact nx23 hi hn (v := S 0 2 0) (fun R Q => k92 (d := 44)) (fr (fun C Q => (r205 (d := 44)).trans (by rw [ev]))) (CRs_v hj h) (CRc_id hc)
theorem cs24 (hi : i + 6 ≤ n) (hn : n ≤ 3072) (hj : j < 512) (h : CRs j pl S L V P) (hc : CRc j c pl) : NXT n i j 1349 xs c S L V W pl P R l5 l6 l7 l8 := by
  obtain ⟨b, b0, M, A, NR, N, tl, m, rk, hb, hb0, hx, hs, hk1, hcl, hm, he, ht, hL⟩ := id h
  have hk0 := hx.1.2.1
  have hM := hx.2.1.1
  have hp := hx.2.2.2.2.2.1
  have hP := hx.2.2.1
  have hNN := hx.1.2.2.2.2.2.2
  have ev : S 0 0 0 = V 0 0 0 := hx.1.1.1 0 (by decide)
  exact nx24 hi hn (v := S 0 0 0) (fun R Q => k93 (d := 44)) (fr (fun C Q => (r206 (d := 44)).trans (by rw [ev]))) (CRs_v hj h) (CRc_id hc)
theorem cs25 (hi : i + 6 ≤ n) (hn : n ≤ 3072) (hj : j < 512) (h : CRs j pl S L V P) (hc : CRc j c pl) : NXT n i j 1362 xs c S L V W pl P R l5 l6 l7 l8 := by
  obtain ⟨b, b0, M, A, NR, N, tl, m, rk, hb, hb0, hx, hs, hk1, hcl, hm, he, ht, hL⟩ := id h
  have hk0 := hx.1.2.1
  have hM := hx.2.1.1
  have hp := hx.2.2.2.2.2.1
  have hP := hx.2.2.1
  have hNN := hx.1.2.2.2.2.2.2
  have ev : S 0 1 0 = V 0 1 0 := hx.1.1.1 1 (by decide)
  exact nx25 hi hn (v := S 0 1 0) (fun R Q => k94 (d := 44)) (fr (fun C Q => (r207 (d := 44)).trans (by rw [ev]))) (CRs_v hj h) (CRc_id hc)
theorem cs26 (hi : i + 6 ≤ n) (hn : n ≤ 3072) (hj : j < 512) (h : CRs j pl S L V P) (hc : CRc j c pl) : NXT n i j 1375 xs c S L V W pl P R l5 l6 l7 l8 := by
  obtain ⟨b, b0, M, A, NR, N, tl, m, rk, hb, hb0, hx, hs, hk1, hcl, hm, he, ht, hL⟩ := id h
  have hk0 := hx.1.2.1
  have hM := hx.2.1.1
  have hp := hx.2.2.2.2.2.1
  have hP := hx.2.2.1
  have hNN := hx.1.2.2.2.2.2.2
  have ev : moonI (S 0 0 0) = moonI (V 0 0 0) := by rw [hx.1.1.1 0 (by decide)]
  exact nx26 hi hn (v := moonI (S 0 0 0)) (fun R Q => k95 (d := 43)) (fr (fun C Q => (r208 (d := 43)).trans (by rw [ev]))) (CRs_v hj h) (CRc_id hc)
theorem cs27 (hi : i + 6 ≤ n) (hn : n ≤ 3072) (hj : j < 512) (h : CRs j pl S L V P) (hc : CRc j c pl) : NXT n i j 1388 xs c S L V W pl P R l5 l6 l7 l8 := by
  obtain ⟨b, b0, M, A, NR, N, tl, m, rk, hb, hb0, hx, hs, hk1, hcl, hm, he, ht, hL⟩ := id h
  have hk0 := hx.1.2.1
  have hM := hx.2.1.1
  have hp := hx.2.2.2.2.2.1
  have hP := hx.2.2.1
  have hNN := hx.1.2.2.2.2.2.2
  have ev : restS S 0 = restS V 0 := by unfold restS; rw [hx.1.1.1 0 (by decide), hx.1.1.1 3 (by decide)]
  exact nx27 hi hn (v := restS S 0) (fun R Q => k96 (d := 42)) (fr (fun C Q => (r209 (d := 42)).trans (by rw [ev]))) (CRs_v hj h) (CRc_id hc)
theorem cs28 (hi : i + 6 ≤ n) (hn : n ≤ 3072) (hj : j < 512) (h : CRs j pl S L V P) (hc : CRc j c pl) : NXT n i j 1401 xs c S L V W pl P R l5 l6 l7 l8 := by
  obtain ⟨b, b0, M, A, NR, N, tl, m, rk, hb, hb0, hx, hs, hk1, hcl, hm, he, ht, hL⟩ := id h
  have hk0 := hx.1.2.1
  have hM := hx.2.1.1
  have hp := hx.2.2.2.2.2.1
  have hP := hx.2.2.1
  have hNN := hx.1.2.2.2.2.2.2
  have ev : S 0 4 0 = V 4 205 0 := hNN.1.trans hNN.2.2.1.symm
  exact nx28 hi hn (v := S 0 4 0) (fun R Q => k97 (d := 44)) (fr (fun C Q => (r210 (d := 44)).trans (by rw [ev]))) (CRs_v hj h) (CRc_id hc)
end QRY
