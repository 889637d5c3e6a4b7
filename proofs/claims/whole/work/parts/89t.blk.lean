/-! THE GRAMMAR IN LOCKSTEP: a block, all depths -/
section BLKT
variable {b pl n m c a j A0 c0 e0 M NR dp DC DR : Nat} {rkb : Nat → Nat} {qf : Nat → Nat} {T : Nat → Int32} {S0 Sb V0 Pb Ub : S3} {L0 Lb : L3} {hc hcR : Nat × Nat × Nat} {R RB C : Nat → Option PC} {W : L3}
/-- from the head of the loop on: both come to the block's end, or both are stuck -/
def LOOPr (hc hcR : Nat × Nat × Nat) (R RB C : Nat → Option PC) (W : L3) (pl b m : Nat) (qf : Nat → Nat) (T : Nat → Int32) (S0 : S3) (L0 : L3) (V0 : S3) (M NR DC DR dp A0 c0 e0 : Nat) (rkb : Nat → Nat) (Sb : S3) (Lb : L3) (Pb Ub : S3) (k i : Nat) (S : S3) (L : L3) (V P : S3) (x z y : Int32) (l3 l5 : Option Value) : Prop :=
  (∃ S' L' V' P', Fk b m qf S0 L0 V0 S' L' V' ∧ (∀ (d : Nat) (Q : PO → Prop), Wp (d + (DC + 2)) 24 29 [some (.ref 317), some (.int (Int32.ofNat dp)), some (.int x), some (.int z), some (.int (Int32.ofNat i)), l5] [] (CH hc S L R) Q = Q (.inl (some (.int (-2))), CH hc S' L' R)) ∧
    (∀ (d : Nat) (Q : PO → Prop), Wp (d + (DR + 2)) 163 73 [some (.ref 395), some (.int (Int32.ofNat e0)), some (.int y), l3] [] (RP hcR C V W pl P RB) Q = Q (.inl (some (.int 0)), RP hcR C V' W pl P' RB))) ∨
  ∃ (k' A' c' E' : Nat) (rk' : Nat → Nat) (S' : S3) (L' : L3) (V' P' : S3) (xf : Int32), k < k' ∧ A0 ≤ A' ∧ c0 ≤ c' ∧ e0 < E' ∧ 4 * c' ≤ k' ∧ Gk b m qf T S0 L0 V0 k' dp A' c' c' E' M M NR (NR + 1) S' L' V' P' ∧
    (∀ (d : Nat) (Q : PO → Prop), Wp (d + (DC + 2)) 24 29 [some (.ref 317), some (.int (Int32.ofNat dp)), some (.int x), some (.int z), some (.int (Int32.ofNat i)), l5] [] (CH hc S L R) Q = Q (.inl (some (.int xf)), CH hc S' L' R)) ∧
    (∀ (d : Nat) (Q : PO → Prop), Wp (d + (DR + 2)) 163 73 [some (.ref 395), some (.int (Int32.ofNat e0)), some (.int y), l3] [] (RP hcR C V W pl P RB) Q = Q (.inl (some (.int 1)), RP hcR C V' W pl P' RB)) ∧ xf ≠ -2 ∧
    (S' 4 203 0 = 0 → Sb 4 203 0 = 0 ∧ ∃ z' y', LINV b M NR A0 A' c0 c' e0 E' (6 * NR + 5 - dp) rkb rk' xf z' y' Sb Lb Pb Ub S' L' P' (p2 V' T qf k').2.2)
theorem p2_dp {V : S3} {k : Nat} {x y : Int32} : p2 (su (su V 4 204 0 x) 4 203 0 y) T qf k = p2 (su V 4 203 0 y) T qf k := p2_V (V := su V 4 203 0 y) (V1 := su (su V 4 204 0 x) 4 203 0 y) (fun u _ => by rw [su_ne (by decide), su_ne (by decide), su_ne (by decide)])
theorem rng_ne {x : Int32} (h : x = -1 ∨ ∃ a, a < 80 ∧ x = Int32.ofNat a) : x ≠ -2 := by
  rcases h with rfl | ⟨a, ha, rfl⟩
  · decide
  · revert a
    decide +kernel
theorem LINV_P {k A c E ρ : Nat} {rk : Nat → Nat} {x z y : Int32} {S P U : S3} {L : L3} {k1 : Nat} (hb : b < 2) (h : LINV b M NR A0 A c0 c e0 E ρ rkb rk x z y Sb Lb Pb Ub S L P U) : LINV b M NR A0 A c0 c e0 E ρ rkb rk x z y Sb Lb Pb Ub (stS k1 S) (stV k1 L) P U := by
  obtain ⟨h1, h2, h3, h4, h5, h6⟩ := h
  exact ⟨lowS_tr h1 (lowS_st hb) (Nat.le_refl _) (Nat.le_refl _), h2, h3, h4, fun a q1 q2 => acT_low (L := L) (L' := stV k1 L) (h5 a q1 q2) q2 (lowS_st hb) (lowP_refl (E := 0)) lowU_refl (fun _ _ _ => rfl) (Nat.le_refl _) (Nat.le_refl _) (Nat.le_refl _) (Nat.le_refl _) (fun _ _ => rfl), h6⟩
theorem blk_end (H : bse b pl n m qf T S0 L0 V0) (hdp : dp < 6) (hDC : 3 ≤ DC) {k i A E : Nat} {rk : Nat → Nat} {S V P : S3} {L : L3} {x z y : Int32} {l3 l5 : Option Value} (h : Gk b m qf T S0 L0 V0 k (dp + 1) A c c E M M NR (NR + 1) S L V P) (h4 : 4 * c ≤ k) (hA : A0 ≤ A) (hc0 : c0 ≤ c) (hE : e0 < E) (hx : x = -1 ∨ ∃ a, a < 80 ∧ x = Int32.ofNat a)
    (hI : S 4 203 0 = 0 → Sb 4 203 0 = 0 ∧ LINV b M NR A0 A c0 c e0 E (6 * NR + 5 - dp) rkb rk x z y Sb Lb Pb Ub S L P (p2 V T qf k).2.2) (hj : j ≤ 32) (ej : S 4 211 k = Int32.ofNat j) (hn : ¬ (4 ≤ j ∧ j ≤ 13)) : LOOPr hc hcR R RB C W pl b m qf T S0 L0 V0 M NR DC DR dp A0 c0 e0 rkb Sb Lb Pb Ub k i S L V P x z y l3 l5 := by
  have hm := H.2.2.2.2.2.2.1
  have km := h.1.1
  have u4 := h.1.2.2.2.2.2.1
  have u5 := h.1.2.2.2.2.2.2.1
  have e201 : S 4 201 0 = Int32.ofNat j := h.1.2.2.1.trans ej
  have hk : S 4 201 0 < 4 ∨ 13 < S 4 201 0 := by
    rw [e201]
    by_cases g : j < 4
    · exact Or.inl ((ofN_lt (m := 4) (by omega) (by omega)).mpr g)
    · exact Or.inr ((ofN_lt (k := 13) (by omega) (by omega)).mpr (by omega))
  by_cases g : j = 26
  · subst g
    obtain ⟨hk1, n1, n2, n3, G1, t1⟩ := acc_G H h (by decide) ej
    have G2 := Gk_dp (dp' := dp) G1
    rw [← su_comm (by decide)] at G2
    refine Or.inr ⟨k + 1, A, c, E, rk, _, _, _, P, x, by omega, hA, hc0, hE, by omega, G2, fun d Q => ?_, fun d Q => r163_end (D := d + (DR + 1)) (by omega) u4 n1 u5, rng_ne hx, fun q0 => ?_⟩
    · refine (c24_end (r := 1) hk (RC_D (i := 2) (fun d Q => k35 n3 (by omega) n2) (by omega)) (Or.inr rfl)).trans ?_
      rw [if_neg (by decide)]
    · obtain ⟨a1, a2⟩ := t1 q0
      obtain ⟨d1, d2⟩ := hI a1
      refine ⟨d1, z, y, ?_⟩
      have eU : (p2 (su (su V 4 204 0 (Int32.ofNat dp)) 4 203 0 (Int32.ofNat (k + 1))) T qf (k + 1)).2.2 = (p2 V T qf k).2.2 := by
        rw [← a2]
        rw [p2_dp]
      rw [eU]
      exact LINV_P (k := k) H.1 d2
  · have h26 : S 4 211 k ≠ Int32.ofNat 26 := fun q => g (ofN_inj (by omega) (by omega) (ej.symm.trans q))
    obtain ⟨n1, n2⟩ := k_no H h (by decide) h26
    have hV : V 4 211 k < 4 ∨ 13 < V 4 211 k := by
      rw [bse_eq H h.2.1 km ej]
      have key : ∀ j, j ≤ 32 → ¬ (4 ≤ j ∧ j ≤ 13) → toR (Int32.ofNat j) < 4 ∨ 13 < toR (Int32.ofNat j) := by decide +kernel
      exact key j hj hn
    refine Or.inl ⟨S, L, V, P, Gk_F h H, fun d Q => ?_, fun d Q => r163_a0 (D := d + (DR + 1)) H.2.1 (bse_P H h.2.1) (by omega) u4 n1 rfl (fun Q => r164_no (D := d + (DR + 1)) (by omega) u4 hV)⟩
    refine (c24_end (r := 0) hk (RC_D (i := 2) (fun d Q => k35_no n2) (by omega)) (Or.inl rfl)).trans ?_
    rw [if_pos rfl]
theorem blk_loop (H : bse b pl n m qf T S0 L0 V0) (hB : BLK hc hcR R RB C W pl b m qf T S0 L0 V0 M NR DC DR (dp + 1)) (hdp : dp < 6) (hDC : 3 ≤ DC) (hDR : 6 ≤ DR) (he0 : e0 < 400) : ∀ (f k i A c E : Nat) (rk : Nat → Nat) (S : S3) (L : L3) (V P : S3) (x z y : Int32) (l3 l5 : Option Value), m - k ≤ f → Gk b m qf T S0 L0 V0 k (dp + 1) A c c E M M NR (NR + 1) S L V P → 4 * c ≤ k → i ≤ k → A0 ≤ A → c0 ≤ c → e0 < E → (x = -1 ∨ ∃ a, a < 80 ∧ x = Int32.ofNat a) → (y = -1 ∨ ∃ t, t < 400 ∧ y = Int32.ofNat t) →
    (S 4 203 0 = 0 → Sb 4 203 0 = 0 ∧ LINV b M NR A0 A c0 c e0 E (6 * NR + 5 - dp) rkb rk x z y Sb Lb Pb Ub S L P (p2 V T qf k).2.2) → LOOPr hc hcR R RB C W pl b m qf T S0 L0 V0 M NR DC DR dp A0 c0 e0 rkb Sb Lb Pb Ub k i S L V P x z y l3 l5 := by
  have hm := H.2.2.2.2.2.2.1
  have hb := H.1
  have hp := H.2.1
  intro f
  induction f with
  | zero =>
    intro k i A c E rk S L V P x z y l3 l5 hf h h4 hi hA hc0 hE hx hy hI
    obtain ⟨j, hj, ej, eVj⟩ := bse_k H h.2.1 h.1.1
    refine blk_end H hdp hDC h h4 hA hc0 hE hx hI hj ej fun q => ?_
    have := (acc_G H h (by omega) ej).1
    omega
  | succ f ih =>
    intro k i A c E rk S L V P x z y l3 l5 hf h h4 hi hA hc0 hE hx hy hI
    obtain ⟨j, hj, ej, eVj⟩ := bse_k H h.2.1 h.1.1
    by_cases g : 4 ≤ j ∧ j ≤ 13
    · have hk := (acc_G H h (by omega) ej).1
      have u4 := h.1.2.2.2.2.2.1
      have e201 : S 4 201 0 = Int32.ofNat j := h.1.2.2.1.trans ej
      have hP := bse_P H h.2.1
      have k1 : ¬ S 4 201 0 < 4 := by rw [e201]; exact fun q => absurd ((ofN_lt (m := 4) (by omega) (by omega)).mp q) (by omega)
      have k2 : ¬ 13 < S 4 201 0 := by rw [e201]; exact fun q => absurd ((ofN_lt (k := 13) (by omega) (by omega)).mp q) (by omega)
      have h91 : V 4 211 k ≠ 50 + 41 := by
        rw [eVj]
        intro q
        have := toR_inj j hj 26 (by decide) q
        omega
      have h109 : P 0 109 0 = Int32.ofNat A := h.2.2.2.1.1.1
      obtain ⟨v, S1, q25, hv, hA4, res⟩ := act_sim (hc := hc) (hcR := hcR) (R := R) (RB := RB) (C := C) (W := W) H hB hdp hDC hDR h h4 ej g.1 g.2 rk
      rcases res with ⟨S', L', V', P', f1, q1, q2⟩ | ⟨k', A', c', E', rk', S', L', V', P', b1, b2, b3, b4, b5, G1, q1, q2, w1⟩
      · refine Or.inl ⟨S', L', V', P', f1, fun d Q => c24_a0 (w := 0) k1 k2 (by omega) (RC_D q25 (by omega)) (q1 d), fun d Q => r163_a0 (D := d + (DR + 1)) hp hP (by omega) u4 h91 h109 (q2 d)⟩
      · have hB1 := bse_B H G1.2.1
        have hP1 := bse_P H G1.2.1
        have qC := fun d Q => c24_a1 (D := d + (DC + 1)) (Q := Q) (x := x) (z := z) (w := 0) (y := Int32.ofNat dp) (l5 := l5) hb hB1 k1 k2 (show i < 400 by omega) (RC_D q25 (by omega)) (q1 d)
        have G2 : Gk b m qf T S0 L0 V0 k' (dp + 1) A' c' c' E' M M NR (NR + 1) (if z = -1 then S' else pt S' (2 + b) 109 80 z v) L' V' (if y = -1 then su P' 0 105 e0 (Int32.ofNat A) else su P' 0 111 y.toNatClampNeg (Int32.ofNat A)) := by
          have G3 : Gk b m qf T S0 L0 V0 k' (dp + 1) A' c' c' E' M M NR (NR + 1) (if z = -1 then S' else pt S' (2 + b) 109 80 z v) L' V' P' := by
            split
            · exact G1
            · exact Gk_bk (v := 109) hb G1 (by decide)
          by_cases hy0 : y = -1
          · rw [if_pos hy0]
            exact Gk_P (v := 105) G3 (by decide) (by decide) (by decide) (by decide) (by omega)
          · rw [if_neg hy0]
            exact Gk_P (v := 111) G3 (by decide) (by decide) (by decide) (by decide) (by omega)
        have qR : ∀ (d : Nat) (Q : PO → Prop), Wp (d + (DR + 2)) 163 73 [some (.ref 395), some (.int (Int32.ofNat e0)), some (.int y), l3] [] (RP hcR C V W pl P RB) Q = Wp (d + (DR + 2)) 163 73 [some (.ref 395), some (.int (Int32.ofNat e0)), some (.int (Int32.ofNat A)), some (.int (Int32.ofNat A))] [] (RP hcR C V' W pl (if y = -1 then su P' 0 105 e0 (Int32.ofNat A) else su P' 0 111 y.toNatClampNeg (Int32.ofNat A)) RB) Q := fun d Q => by
          rcases hy with rfl | ⟨t, ht, rfl⟩
          · rw [if_pos rfl]
            exact r163_f (D := d + (DR + 1)) hp hP hP1 he0 (by omega) u4 h91 h109 (q2 d)
          · rw [if_neg (ofN_ne (by omega)), tN_nat (by omega)]
            exact r163_n (D := d + (DR + 1)) hp hP hP1 ht (by omega) u4 h91 h109 (q2 d)
        have hx' : (if z = -1 then v else x) = -1 ∨ ∃ a, a < 80 ∧ (if z = -1 then v else x) = Int32.ofNat a := by
          split
          · exact hv
          · exact hx
        have e203 : (if z = -1 then S' else pt S' (2 + b) 109 80 z v) 4 203 0 = S' 4 203 0 := by
          split
          · rfl
          · rw [pt_vne (by omega)]
        rcases ih k' (i + 1) A' c' E' rk' _ _ _ _ (if z = -1 then v else x) v (Int32.ofNat A) (some (.int (Int32.ofNat A))) (some (.int v)) (by omega) G2 b5 (by omega) (by omega) (by omega) (by omega) hx' (Or.inr ⟨A, hA4, rfl⟩) (fun q0 => by
          rw [e203] at q0
          obtain ⟨d1, d2, d3, d4, d5⟩ := w1 q0
          obtain ⟨i1, i2⟩ := hI d1
          subst d2
          have st := LINV_step hA hc0 hE b2 b3 b4 d3 i2 d4 d5
          have ezy : (z = -1) = (y = -1) := by
            rcases i2.2.2.2.2.2 with ⟨y1, z1, -⟩ | ⟨t, t0, ht, y1, z1, -⟩
            · rw [y1, z1]
            · rw [y1, z1]
          refine ⟨i1, ?_⟩
          simp only [ezy] at st ⊢
          exact st) with ⟨S2, L2, V2, P2, f1, q3, q4⟩ | ⟨k2', A2, c2, E2, rk2, S2, L2, V2, P2, xf, d1, d2, d3, d4, d5, G3, q3, q4, hxf, w2⟩
        · exact Or.inl ⟨S2, L2, V2, P2, f1, fun d Q => (qC d Q).trans (q3 d Q), fun d Q => (qR d Q).trans (q4 d Q)⟩
        · exact Or.inr ⟨k2', A2, c2, E2, rk2, S2, L2, V2, P2, xf, by omega, d2, d3, d4, d5, G3, fun d Q => (qC d Q).trans (q3 d Q), fun d Q => (qR d Q).trans (q4 d Q), hxf, w2⟩
    · exact blk_end H hdp hDC h h4 hA hc0 hE hx hI hj ej g
/-- a block, over blocks one deeper -/
theorem blk_up (H : bse b pl n m qf T S0 L0 V0) (hB : BLK hc hcR R RB C W pl b m qf T S0 L0 V0 M NR DC DR (dp + 1)) (hdp : dp < 6) (hDC : 3 ≤ DC) (hDR : 6 ≤ DR) : BLK hc hcR R RB C W pl b m qf T S0 L0 V0 M NR (DC + 3) (DR + 3) dp := by
  have hm := H.2.2.2.2.2.2.1
  have hb := H.1
  have hp := H.2.1
  intro k A c E rk S L V P h h4
  have km := h.1.1
  have u4 := h.1.2.2.2.2.2.1
  have u5 := h.1.2.2.2.2.2.2.1
  by_cases h25 : S 4 211 k = Int32.ofNat 25
  · obtain ⟨hk, n1, n2, n3, -, -⟩ := acc_G H h (by decide) h25
    have h106 : P 0 106 0 = Int32.ofNat E := h.2.2.2.1.2.2.1.1
    have hE : E ≤ k := h.2.2.2.1.2.2.1.2
    have cp : CP (k + 1) A c (E + 1) (NR + 1) (su (su P 0 106 0 (Int32.ofNat (E + 1))) 0 105 E (-1)) := by
      refine CP_su ?_ (by decide) (by decide) (by decide) (by decide) (by omega)
      obtain ⟨⟨a1, a2⟩, ⟨b1, b2⟩, ⟨c1, c2⟩, ⟨d1, d2⟩, e⟩ := h.2.2.2.1
      unfold CP
      rw [su_self, su_ne (v' := 109) (by decide), su_ne (v' := 118) (by decide), su_ne (v' := 108) (by decide)]
      exact ⟨⟨a1, by omega⟩, ⟨b1, by omega⟩, ⟨rfl, by omega⟩, ⟨d1, by omega⟩, fun v i g1 g2 => by rw [su_vne (by omega)]; exact e v i g1 g2⟩
    obtain ⟨G1, t1⟩ := tok_G (S1 := S) H h hk sbt_refl cp
    have G2 := Gk_dp (dp' := dp + 1) G1
    rw [← su_comm (by decide)] at G2
    have dp6 : Int32.ofNat dp < 6 := (ofN_lt (m := 6) (by omega) (by omega)).mpr hdp
    have lp : lowP A c E P (su (su P 0 106 0 (Int32.ofNat (E + 1))) 0 105 E (-1)) := lowP_tr (lowP_su (by omega) (by omega) (by omega) (by decide)) (lowP_su (by omega) (by omega) (by omega) (by decide)) (Nat.le_refl _) (Nat.le_refl _) (Nat.le_refl _)
    rcases blk_loop (A0 := A) (c0 := c) (e0 := E) (rkb := rk) (Sb := S) (Lb := L) (Pb := P) (Ub := (p2 V T qf k).2.2) (hc := hc) (hcR := hcR) (R := R) (RB := RB) (C := C) (W := W) H hB hdp hDC hDR (by omega) (m - (k + 1)) (k + 1) 0 A c (E + 1) rk _ _ _ _ (-1) (-1) (-1) none none (Nat.le_refl _) G2 (by omega) (by omega) (Nat.le_refl _) (Nat.le_refl _) (by omega) (Or.inl rfl) (Or.inl rfl) (fun q0 => by
      obtain ⟨a1, a2⟩ := t1 q0
      have eU : (p2 (su (su V 4 204 0 (Int32.ofNat (dp + 1))) 4 203 0 (Int32.ofNat (k + 1))) T qf (k + 1)).2.2 = (p2 V T qf k).2.2 := by
        rw [← a2]
        rw [p2_dp]
      rw [eU]
      exact ⟨a1, lowS_st hb, lp, lowU_refl, fun _ _ => rfl, fun a q1 q2 => by omega, Or.inl ⟨rfl, rfl, rfl, su_self⟩⟩) with ⟨S2, L2, V2, P2, f1, q3, q4⟩ | ⟨k2, A2, c2, E2, rk2, S2, L2, V2, P2, xf, d1, d2, d3, d4, d5, G3, q3, q4, hxf, w2⟩
    · refine Or.inl ⟨S2, L2, V2, P2, f1, fun d Q => ?_, fun d Q => ?_⟩
      · exact (c24_h (D := d + (DC + 1)) n2 dp6 n3 (by omega)).trans (q3 d Q)
      · exact (r163_h (D := d + (DR + 1)) hp (bse_P H h.2.1) (by omega) (by omega) u4 n1 u5 hdp h106).trans (q4 d Q)
    · refine Or.inr ⟨k2, A2, c2, E2, rk2, S2, L2, V2, P2, xf, hdp, by omega, d2, d3, d4, d5, G3, fun d Q => ?_, fun d Q => ?_, hxf, fun q0 => ?_⟩
      · exact (c24_h (D := d + (DC + 1)) n2 dp6 n3 (by omega)).trans (q3 d Q)
      · exact (r163_h (D := d + (DR + 1)) hp (bse_P H h.2.1) (by omega) (by omega) u4 n1 u5 hdp h106).trans (q4 d Q)
      · obtain ⟨e1, z', y', l1, l2, l3, l4, l5, l6⟩ := w2 q0
        refine ⟨e1, ⟨l1, l2, l3, l4, fun a q1 q2 => ?_⟩, ?_, ?_⟩
        · exact acT_low (L := L) (L' := L) (l5 a q1 q2) q2 lowS_refl (lowP_refl (E := 0)) lowU_refl (fun _ _ _ => rfl) (Nat.le_refl _) (by omega) (Nat.le_refl _) (Nat.le_refl _) (fun _ _ => rfl)
        · rcases l6 with ⟨y1, z1, x1, p1⟩ | ⟨t, t0, ht, y1, z1, t1, t2, t3, t4, x1, p1, r1, r2⟩
          · rw [x1]; exact p1
          · exact p1
        · rcases l6 with ⟨y1, z1, x1, p1⟩ | ⟨t, t0, ht, y1, z1, t1, t2, t3, t4, x1, p1, r1, r2⟩
          · exact Or.inl x1
          · exact Or.inr ⟨t0, t3, t4, x1, r2⟩
  · obtain ⟨n1, n2⟩ := k_no H h (by decide) h25
    exact Or.inl ⟨S, L, V, P, Gk_F h H, fun d Q => c24_no (D := d + (DC + 2)) (Or.inl n2), fun d Q => r163_no (D := d + (DR + 1)) (by omega) u4 (Or.inl n1)⟩
theorem blk_6 (H : bse b pl n m qf T S0 L0 V0) : BLK hc hcR R RB C W pl b m qf T S0 L0 V0 M NR 3 6 6 := by
  have hm := H.2.2.2.2.2.2.1
  intro k A c E rk S L V P h h4
  have km := h.1.1
  exact Or.inl ⟨S, L, V, P, Gk_F h H, fun d Q => c24_no (D := d + 2) (Or.inr (by decide)), fun d Q => r163_no (D := d + 4) (by omega) h.1.2.2.2.2.2.1 (Or.inr h.1.2.2.2.2.2.2.1)⟩
/-- a round's block -/
theorem blk_0 (H : bse b pl n m qf T S0 L0 V0) : BLK hc hcR R RB C W pl b m qf T S0 L0 V0 M NR 21 24 0 := by
  have h6 := blk_6 (hc := hc) (hcR := hcR) (R := R) (RB := RB) (C := C) (W := W) (M := M) (NR := NR) H
  have h5 := blk_up (dp := 5) H h6 (by decide) (by decide) (by decide)
  have h4 := blk_up (dp := 4) H h5 (by decide) (by decide) (by decide)
  have h3 := blk_up (dp := 3) H h4 (by decide) (by decide) (by decide)
  have h2 := blk_up (dp := 2) H h3 (by decide) (by decide) (by decide)
  have h1 := blk_up (dp := 1) H h2 (by decide) (by decide) (by decide)
  exact blk_up (dp := 0) H h1 (by decide) (by decide) (by decide)
end BLKT
