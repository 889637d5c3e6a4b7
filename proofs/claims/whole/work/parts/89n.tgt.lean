/-! THE GRAMMAR IN LOCKSTEP: targets -/
section TGT
variable {b pl n m k c a j A A' cc cS cc' cS' E E' M M' NR R' dp : Nat} {qf lf : Nat → Nat} {T : Nat → Int32} {S S' S0 S1 V V' V0 V1 P P' U U' : S3} {L L' L0 L1 : L3} {x y z : Int32} {hc hcR : Nat × Nat × Nat} {R RB C : Nat → Option PC} {W : L3}
theorem e2_6 (h : V 4 214 k = 6) : e2 V T qf lf k P = (if tdI V T qf lf k 1 k 0 0 = -1 then 3 else 0, su P 0 113 (P 0 102 0 - 1).toNatClampNeg (tdI V T qf lf k 1 k 0 0)) := by
  unfold e2
  rw [h]
  rfl
theorem e2_7 (h : V 4 214 k = 7) : e2 V T qf lf k P = (if tdI V T qf lf k 2 k 0 0 = -1 then 3 else if tdI V T qf lf k 2 k 0 0 = P 0 101 0 - 1 then 3 else 0, su P 0 113 (P 0 102 0 - 1).toNatClampNeg (tdI V T qf lf k 2 k 0 0)) := by
  unfold e2
  rw [h]
  rfl
theorem CO_next (h : CO b qf T k M M' NR R' A cS S L V U) (h1 : V 4 214 k ≠ 1) (h2 : V 4 214 k ≠ 2) (hS : ∀ v, 100 ≤ v → v ≤ 103 → S' (2 + b) v 0 = S (2 + b) v 0) (hU : ∀ v, 100 ≤ v → v ≤ 102 → U' 0 v 0 = U 0 v 0) : CO b qf T (k + 1) M M' NR R' A cS S' L V U' := by
  obtain ⟨c1, c2, c3, c4, c5⟩ := h
  unfold CO
  rw [hS 100 (by decide) (by decide), hS 101 (by decide) (by decide), hS 102 (by decide) (by decide), hS 103 (by decide) (by decide), hU 100 (by decide) (by decide), hU 101 (by decide) (by decide), hU 102 (by decide) (by decide)]
  exact ⟨c1, c2, c3, c4, NM_next c5 h1 h2⟩
theorem em_A (h : U 0 102 0 = Int32.ofNat (a + 1)) (ha : a < 400) : (U 0 102 0 - 1).toNatClampNeg = a := by
  rw [h, ofN_s1, tN_nat (by omega)]
/-- a target that the class looks for as w, the reference as td -/
theorem tgt_G (H : bse b pl n m qf T S0 L0 V0) (h : Gk b m qf T S0 L0 V0 k dp (a + 1) cc cS E M M' NR R' S L V P) (ha : a < 400) (hk : k < m) {ρ : Int32} {rr : Nat} (hr : rr = 6 ∨ rr = 7) (eρ : ρ = Int32.ofNat rr) {w td : Int32}
    (hw : S 4 203 0 = 0 → CO b qf T k M M' NR R' (a + 1) cS S L (su V 4 214 k ρ) (p2 V T qf k).2.2 → e2 (su V 4 214 k ρ) T qf (fun a => tkL T (qf a)) k (p2 V T qf k).2.2 = (if w = -1 then 3 else 0, su (p2 V T qf k).2.2 0 113 a td) ∧ (w ≠ -1 → td = w)) :
    Gk b m qf T S0 L0 V0 (k + 1) dp (a + 1) cc cS E M M' NR R' (stS (k + 1) (pt (if w = -1 then msS 3 S else S) (2 + b) 108 80 x w)) (stV (k + 1) L) (su (su V 4 214 k ρ) 4 203 0 (Int32.ofNat (k + 1))) (su P 0 113 a y) ∧
      (stS (k + 1) (pt (if w = -1 then msS 3 S else S) (2 + b) 108 80 x w) 4 203 0 = 0 → S 4 203 0 = 0 ∧ w ≠ -1 ∧ (p2 (su (su V 4 214 k ρ) 4 203 0 (Int32.ofNat (k + 1))) T qf (k + 1)).2.2 = su (p2 V T qf k).2.2 0 113 a w) := by
  have hb := H.1
  obtain ⟨g1, F, g3, g4, g5⟩ := id h
  have e202 : S 4 202 0 = Int32.ofNat (qf k) := g1.2.2.2.1.trans (bse_t H F g1.1).2.2.1
  have hρ1 : ρ ≠ 1 := by rw [eρ]; rcases hr with rfl | rfl <;> decide
  have hρ2 : ρ ≠ 2 := by rw [eρ]; rcases hr with rfl | rfl <;> decide
  have t := G_step (ρ := ρ) (S1 := pt (if w = -1 then msS 3 S else S) (2 + b) 108 80 x w) (L1 := L) (A' := a + 1) (cS' := cS) (M2 := M) (M3 := M') (NR2 := NR) (R3 := R') (P1 := su P 0 113 a y) H h hk (B8_eq h.1.2.2.2.2.2.2.2 (by
    rw [pt_vne (by omega)]
    split
    · exact ms_ne (by omega)
    · rfl)) (fun g v q => by
    rw [pt_vne (fun e => q (Or.inl ⟨e.1, by omega⟩))]
    split
    · exact ms_sb g v q
    · rfl) (fun _ _ _ => rfl) (CP_su (CP_next g4) (by decide) (by decide) (by decide) (by decide) (by omega)) (fun q => by
    rw [pt_vne (by omega), pt_vne (by omega)]
    split
    · rw [ms_1 q]; exact ⟨rfl, rfl⟩
    · exact ⟨rfl, rfl⟩) (fun a1 a2 a3 => by
    obtain ⟨e1, e2'⟩ := hw a1 a3
    rw [e1, pt_vne (by omega), pt_vne (by omega)]
    refine ⟨pre2_CO (r := rr) a3 (by omega) (by rw [su_self, eρ]) (by omega) (by omega), ?_, fun q => ?_, fun q => ?_⟩
    · split
      · exact (ms_0 a1).1
      · exact a1
    · have hw1 : w = -1 := by
        by_cases g : w = -1
        · exact g
        · exact absurd (if_neg g) q
      rw [if_pos hw1]
      exact (ms_0 a1).2.trans e202
    · have hw1 : w ≠ -1 := fun g => absurd ((if_pos g).symm.trans q) (by decide)
      rw [if_neg hw1]
      refine ⟨a2, CO_next a3 (by rw [su_self]; exact hρ1) (by rw [su_self]; exact hρ2) (fun v q1 q2 => by rw [pt_vne (by omega)]) (fun v q1 q2 => by show su (p2 V T qf k).2.2 0 113 a td 0 v 0 = _; rw [su_ne (by omega)])⟩)
  refine ⟨t.1, fun q0 => ?_⟩
  obtain ⟨t1, t2⟩ := t.2 q0
  have hw1 : w ≠ -1 := fun g => by
    rw [st_ne (by omega), pt_vne (by omega), if_pos g, (ms_0 t1).1] at q0
    exact absurd q0 (by decide)
  obtain ⟨e1, e2'⟩ := hw t1 (CO_V (Gk_cnt h t1) (fun u hu => su_off (by omega)))
  refine ⟨t1, hw1, ?_⟩
  rw [t2, e1, e2' hw1]
theorem told_1 (h : NM qf T k M' R' L V) (hM : M' ≤ 10) (hn : nmT T (qf k)) : tdI V T qf (fun a => tkL T (qf a)) k 1 k 0 0 = ixL (L 4 3) (tkV T (qf k)) (Int32.ofNat M') 10 0 := by
  obtain ⟨a1, a2, a3, a4⟩ := h
  have := told_ix (n0 := 10) a3 hn (by omega) (by decide) k 0 (by omega)
  rw [a1] at this
  exact this
theorem told_2 (h : NM qf T k M' R' L V) (hM : R' ≤ 6) (hn : nmT T (qf k)) : tdI V T qf (fun a => tkL T (qf a)) k 2 k 0 0 = ixL (L 4 4) (tkV T (qf k)) (Int32.ofNat R') 6 0 := by
  obtain ⟨a1, a2, a3, a4⟩ := h
  have := told_ix (n0 := 6) a4 hn (by omega) (by decide) k 0 (by omega)
  rw [a2] at this
  exact this
theorem go_sim (H : bse b pl n m qf T S0 L0 V0) (h : Gk b m qf T S0 L0 V0 k dp (a + 1) cc cS E M M NR R' S L V P) (ha : a < 400) (hw : P 0 110 a = 10) (x : Int32) :
    (∃ V' P', Fk b m qf S0 L0 V0 S L V' ∧ RC hc R 3 29 [.ref 317, .int x, .ref 323, .int (S (2 + b) 100 0)] S L 0 S L ∧ RR hcR C W pl RB 4 165 [.ref 395, .int (Int32.ofNat a)] V P 0 V' P') ∨
    ∃ S' V' w, k < m ∧ Gk b m qf T S0 L0 V0 (k + 1) dp (a + 1) cc cS E M M NR R' S' (stV (k + 1) L) V' (su P 0 113 a (Int32.ofNat k)) ∧ RC hc R 3 29 [.ref 317, .int x, .ref 323, .int (S (2 + b) 100 0)] S L 1 S' (stV (k + 1) L) ∧ RR hcR C W pl RB 4 165 [.ref 395, .int (Int32.ofNat a)] V P 1 V' (su P 0 113 a (Int32.ofNat k)) ∧
      (S' 4 203 0 = 0 → S 4 203 0 = 0 ∧ S' = stS (k + 1) (pt S (2 + b) 108 80 x w) ∧ (p2 V' T qf (k + 1)).2.2 = su (p2 V T qf k).2.2 0 113 a w ∧ ∃ t, t < M ∧ w = Int32.ofNat t) := by
  have hb := H.1
  have hp := H.2.1
  have hm := H.2.2.2.2.2.2.1
  obtain ⟨g1, F, g3, g4, g5⟩ := id h
  have hB := bse_B H F
  have hP := bse_P H F
  have u4 := g1.2.2.2.2.2.1
  by_cases h23 : S 4 211 k = Int32.ofNat 23
  · obtain ⟨hk, e40, e201, e200, -, -⟩ := acc_G H h (by decide) h23
    have hn := bse_23 H F hk h23
    have eL : L 4 0 0 = tkV T (qf k) := g1.2.2.2.2.1.trans (bse_t H F g1.1).2.2.2.1
    have t := tgt_G (ρ := 6) (rr := 6) (x := x) (y := Int32.ofNat k) (w := ixL (L 4 3) (L 4 0 0) (S (2 + b) 100 0) 10 0) (td := ixL (L 4 3) (L 4 0 0) (S (2 + b) 100 0) 10 0) H h ha hk (Or.inl rfl) rfl (fun a1 a3 => by
      obtain ⟨⟨c1, c2, c3, c4⟩, ⟨d1, d2, d3, d4⟩, ⟨e1, e2', e3⟩, e4, e5⟩ := a3
      refine ⟨?_, fun _ => rfl⟩
      rw [e2_6 su_self, told_1 e5 c4 hn, em_A e2' ha, eL, c1])
    refine Or.inr ⟨_, _, ixL (L 4 3) (L 4 0 0) (S (2 + b) 100 0) 10 0, hk, t.1, fun d Q => k29 hb hB e201 e200 (by omega) (fun d Q => k33_a), fun d Q => ?_, fun q0 => ?_⟩
    · have q := r165_1 (D := d) (Q := Q) (hcR := hcR) (C := C) (W := W) (RB := RB) hp hP ha (by omega) u4 hw e40
      rw [if_pos rfl] at q
      exact q
    · obtain ⟨t1, t2, t3⟩ := t.2 q0
      refine ⟨t1, by rw [if_neg t2], t3, ?_⟩
      have c1 := (Gk_cnt h t1).1
      rw [c1.1] at t2 ⊢
      rcases ixL_rng (f := L 4 3) (z := L 4 0 0) (c := M) (by omega) 10 0 (by decide) with q | ⟨t, q1, -, -, q2⟩
      · exact absurd q t2
      · exact ⟨t, q1, q2⟩
  · obtain ⟨n1, n2⟩ : V 4 211 k ≠ toR (Int32.ofNat 23) ∧ S 4 201 0 ≠ Int32.ofNat 23 := k_no H h (by decide) h23
    refine Or.inl ⟨su V 4 214 k 6, su P 0 113 a (Int32.ofNat k), ⟨k, g1.1, g1.2.2.2.1.trans (bse_t H F g1.1).2.2.1, by rw [su_ne (by decide)]; exact u4, fr3_V F (Or.inr (Or.inr rfl))⟩, fun d Q => k29_no n2, fun d Q => ?_⟩
    have q := r165_0 (D := d) (Q := Q) (hcR := hcR) (C := C) (W := W) (RB := RB) hp hP ha (by have := g1.1; omega) u4 hw n1
    rw [if_pos rfl] at q
    exact q
theorem w7_if {t : Int32} : (if t = -1 then (3 : Int32) else if t = Int32.ofNat NR then 3 else 0) = if (if t = Int32.ofNat NR then -1 else t) = -1 then 3 else 0 := by
  by_cases g : t = Int32.ofNat NR
  · subst g
    simp
  · simp only [if_neg g]
theorem walk_sim (H : bse b pl n m qf T S0 L0 V0) (h : Gk b m qf T S0 L0 V0 k dp (a + 1) cc cS E M M' NR (NR + 1) S L V P) (ha : a < 400) (hw : P 0 110 a = 11) (x : Int32) :
    (∃ V' P', Fk b m qf S0 L0 V0 S L V' ∧ RC hc R 3 29 [.ref 317, .int x, .ref 324, .int (S (2 + b) 101 0)] S L 0 S L ∧ RR hcR C W pl RB 4 165 [.ref 395, .int (Int32.ofNat a)] V P 0 V' P') ∨
    ∃ S' V' w, k < m ∧ Gk b m qf T S0 L0 V0 (k + 1) dp (a + 1) cc cS E M M' NR (NR + 1) S' (stV (k + 1) L) V' (su P 0 113 a (Int32.ofNat k)) ∧ RC hc R 3 29 [.ref 317, .int x, .ref 324, .int (S (2 + b) 101 0)] S L 1 S' (stV (k + 1) L) ∧ RR hcR C W pl RB 4 165 [.ref 395, .int (Int32.ofNat a)] V P 1 V' (su P 0 113 a (Int32.ofNat k)) ∧
      (S' 4 203 0 = 0 → S 4 203 0 = 0 ∧ S' = stS (k + 1) (pt S (2 + b) 108 80 x w) ∧ (p2 V' T qf (k + 1)).2.2 = su (p2 V T qf k).2.2 0 113 a w ∧ ∃ t, t < NR ∧ w = Int32.ofNat t) := by
  have hb := H.1
  have hp := H.2.1
  have hm := H.2.2.2.2.2.2.1
  obtain ⟨g1, F, g3, g4, g5⟩ := id h
  have hB := bse_B H F
  have hP := bse_P H F
  have u4 := g1.2.2.2.2.2.1
  by_cases h23 : S 4 211 k = Int32.ofNat 23
  · obtain ⟨hk, e40, e201, e200, -, -⟩ := acc_G H h (by decide) h23
    have hn := bse_23 H F hk h23
    have eL : L 4 0 0 = tkV T (qf k) := g1.2.2.2.2.1.trans (bse_t H F g1.1).2.2.2.1
    have t := tgt_G (ρ := 7) (rr := 7) (x := x) (y := Int32.ofNat k) (w := ixL (L 4 4) (L 4 0 0) (S (2 + b) 101 0) 6 0) (td := ixL (L 4 4) (L 4 0 0) (Int32.ofNat (NR + 1)) 6 0) H h ha hk (Or.inr rfl) rfl (fun a1 a3 => by
      obtain ⟨⟨c1, c2, c3, c4⟩, ⟨d1, d2, d3, d4⟩, ⟨e1, e2', e3⟩, e4, e5⟩ := a3
      have hl := ixL_less (f := L 4 4) (z := L 4 0 0) (c := NR) (by omega) 6 0 (by decide)
      rw [d1, hl]
      refine ⟨?_, fun q => ?_⟩
      · rw [e2_7 su_self, told_2 e5 d4 hn, em_A e2' ha, eL, d3, ofN_s1]
        rw [w7_if]
      · by_cases g2 : ixL (L 4 4) (L 4 0 0) (Int32.ofNat (NR + 1)) 6 0 = Int32.ofNat NR
        · rw [if_pos g2] at q; exact absurd rfl q
        · rw [if_neg g2])
    refine Or.inr ⟨_, _, ixL (L 4 4) (L 4 0 0) (S (2 + b) 101 0) 6 0, hk, t.1, fun d Q => k29 hb hB e201 e200 (by omega) (fun d Q => k33_b), fun d Q => ?_, fun q0 => ?_⟩
    · have q := r165_1 (D := d) (Q := Q) (hcR := hcR) (C := C) (W := W) (RB := RB) hp hP ha (by omega) u4 hw e40
      rw [if_neg (by decide)] at q
      exact q
    · obtain ⟨t1, t2, t3⟩ := t.2 q0
      refine ⟨t1, by rw [if_neg t2], t3, ?_⟩
      have c1 := (Gk_cnt h t1).2.1
      rw [c1.1] at t2 ⊢
      rcases ixL_rng (f := L 4 4) (z := L 4 0 0) (c := NR) (by omega) 6 0 (by decide) with q | ⟨t, q1, -, -, q2⟩
      · exact absurd q t2
      · exact ⟨t, q1, q2⟩
  · obtain ⟨n1, n2⟩ : V 4 211 k ≠ toR (Int32.ofNat 23) ∧ S 4 201 0 ≠ Int32.ofNat 23 := k_no H h (by decide) h23
    refine Or.inl ⟨su V 4 214 k 7, su P 0 113 a (Int32.ofNat k), ⟨k, g1.1, g1.2.2.2.1.trans (bse_t H F g1.1).2.2.1, by rw [su_ne (by decide)]; exact u4, fr3_V F (Or.inr (Or.inr rfl))⟩, fun d Q => k29_no n2, fun d Q => ?_⟩
    have q := r165_0 (D := d) (Q := Q) (hcR := hcR) (C := C) (W := W) (RB := RB) hp hP ha (by have := g1.1; omega) u4 hw n1
    rw [if_neg (by decide)] at q
    exact q
end TGT
