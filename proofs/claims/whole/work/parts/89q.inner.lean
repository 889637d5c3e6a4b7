/-! THE GRAMMAR IN LOCKSTEP: acts with blocks -/
section INNR
variable {b pl n m k c a j A A' A1 A2 cc cS cc' cS' c1 c2 E E' E1 E2 lo hi lo' hi' M M' NR R' dp DC DR : Nat} {rk rk' rk1 : Nat → Nat} {qf lf : Nat → Nat} {T : Nat → Int32} {S S' S0 S1 S2 V V' V0 V1 V2 P P' P1 P2 U U' U1 : S3} {L L' L0 L1 L2 : L3} {x y z : Int32} {hc hcR : Nat × Nat × Nat} {R RB C : Nat → Option PC} {W : L3}
/-- another act's row is written -/
theorem acT_pt (h : acT b M NR A lo hi c rk S P U a) {v i : Nat} (hi' : i ≠ a) (hi2 : i < 2 ^ 31) (hv : 107 ≤ v) (hv2 : v ≤ 113) : acT b M NR A lo hi c rk (pt S (2 + b) v 80 (Int32.ofNat i) y) P U a := by
  have e : ∀ v', pt S (2 + b) v 80 (Int32.ofNat i) y (2 + b) v' a = S (2 + b) v' a := fun v' => by
    by_cases g : v' = v
    · rw [g, pt_off (fun q => hi' q.symm) hi2]
    · rw [pt_vne (by omega)]
  obtain ⟨w, a1, a2, a3, a4, a5, a7, a8, a9, a10, a11, a12⟩ := h
  refine ⟨w, ?_⟩
  rw [e, e, e, e, e, e, e]
  refine ⟨a1, a2, a3, a4, a5, a7, a8, a9, a10, fun q => ⟨(a11 q).1, ?_⟩, a12⟩
  obtain ⟨-, i0, i1, g1, g2, g3, g4, g5, g6, g7⟩ := a11 q
  refine ⟨i0, i1, g1, g2, g3, g4, g5, g6, fun k g8 g9 => ?_⟩
  have := g7 k g8 g9
  unfold cmpR at this ⊢
  rw [pt_vne (v' := 114) (by omega), pt_vne (v' := 115) (by omega), pt_vne (v' := 116) (by omega)]
  exact this
/-- the plan's row of another act is written -/
theorem acT_su (h : acT b M NR A lo hi c rk S P U a) {v i : Nat} (hi' : i ≠ a) (hv : 110 ≤ v) (hv2 : v ≤ 117) : acT b M NR A lo hi c rk S (su P 0 v i y) U a := by
  have e : ∀ v', su P 0 v i y 0 v' a = P 0 v' a := fun v' => su_off (fun q => hi' q.symm)
  have e5 : ∀ i', su P 0 v i y 0 105 i' = P 0 105 i' := fun i' => by rw [su_ne (by omega)]
  obtain ⟨w, a1, a2, a3, a4, a5, a7, a8, a9, a10, a11, a12⟩ := h
  have hB : ∀ e, blkF A P rk e (rk a) → blkF A (su P 0 v i y) rk e (rk a) := fun e g => blkF_low g (e5 e) (Nat.le_refl _) (fun _ _ => rfl)
  refine ⟨w, ?_⟩
  rw [e, e, e, e, e, e, e]
  refine ⟨a1, a2, a3, a4, a5, a7, a8, a9, fun q => ?_, fun q => ⟨(a11 q).1.imp id ?_, ?_⟩, a12⟩
  · obtain ⟨e, g1, g2, g3, g4, g5⟩ := a10 q
    exact ⟨e, g1, g2, g3, by rw [e5]; exact g4, hB e g5⟩
  · rintro ⟨e, g1, g2, g3, g4, g5⟩
    exact ⟨e, g1, g2, g3, by rw [e5]; exact g4, hB e g5⟩
  · obtain ⟨-, i0, i1, g1, g2, g3, g4, g5, g6, g7⟩ := a11 q
    refine ⟨i0, i1, g1, g2, g3, g4, g5, g6, fun k g8 g9 => ?_⟩
    have := g7 k g8 g9
    unfold cmpR at this ⊢
    rw [su_ne (v' := 119) (by omega), su_ne (v' := 120) (by omega), su_ne (v' := 121) (by omega)]
    exact this
theorem Fk_bk (h : Fk b m qf S0 L0 V0 S L V) {v nn : Nat} (hv : 104 ≤ v) : Fk b m qf S0 L0 V0 (pt S (2 + b) v nn x y) L V ∨ b = 2 := by
  by_cases hb : b = 2
  · exact Or.inr hb
  · obtain ⟨k, h1, h2, h3, h4⟩ := h
    refine Or.inl ⟨k, h1, by rw [pt_vne (by omega)]; exact h2, h3, fun g w q => ?_, h4.2⟩
    rw [pt_vne (fun e => q (Or.inl ⟨e.1, by omega⟩)), h4.1 g w q]
theorem Fk_b (hb : b < 2) (h : Fk b m qf S0 L0 V0 S L V) {v nn : Nat} (hv : 104 ≤ v) : Fk b m qf S0 L0 V0 (pt S (2 + b) v nn x y) L V := (Fk_bk h hv).resolve_right (by omega)
/-- a block comes to its end in both, or is stuck in both -/
def BLKr (hc hcR : Nat × Nat × Nat) (R RB C : Nat → Option PC) (W : L3) (pl b m : Nat) (qf : Nat → Nat) (T : Nat → Int32) (S0 : S3) (L0 : L3) (V0 : S3) (M NR DC DR dp k A c E : Nat) (rk : Nat → Nat) (S : S3) (L : L3) (V P : S3) : Prop :=
  (∃ S' L' V' P', Fk b m qf S0 L0 V0 S' L' V' ∧ RC hc R DC 24 [.ref 317, .int (Int32.ofNat dp)] S L (-2) S' L' ∧ RR hcR C W pl RB DR 163 [.ref 395] V P 0 V' P') ∨
  ∃ (k' A' c' E' : Nat) (rk' : Nat → Nat) (S' : S3) (L' : L3) (V' P' : S3) (x : Int32), dp < 6 ∧ k < k' ∧ A ≤ A' ∧ c ≤ c' ∧ E < E' ∧ 4 * c' ≤ k' ∧ Gk b m qf T S0 L0 V0 k' dp A' c' c' E' M M NR (NR + 1) S' L' V' P' ∧
    RC hc R DC 24 [.ref 317, .int (Int32.ofNat dp)] S L x S' L' ∧ RR hcR C W pl RB DR 163 [.ref 395] V P 1 V' P' ∧ x ≠ -2 ∧
    (S' 4 203 0 = 0 → S 4 203 0 = 0 ∧ ctB b M NR A A' c c' E E' rk rk' S L P (p2 V T qf k).2.2 S' L' P' (p2 V' T qf k').2.2 ∧ P' 0 105 E = x ∧ (x = -1 ∨ ∃ a, A ≤ a ∧ a < A' ∧ x = Int32.ofNat a ∧ rk' a = 6 * NR + 5 - dp))
def BLK (hc hcR : Nat × Nat × Nat) (R RB C : Nat → Option PC) (W : L3) (pl b m : Nat) (qf : Nat → Nat) (T : Nat → Int32) (S0 : S3) (L0 : L3) (V0 : S3) (M NR DC DR dp : Nat) : Prop := ∀ (k A c E : Nat) (rk : Nat → Nat) (S : S3) (L : L3) (V P : S3), Gk b m qf T S0 L0 V0 k dp A c c E M M NR (NR + 1) S L V P → 4 * c ≤ k → BLKr hc hcR R RB C W pl b m qf T S0 L0 V0 M NR DC DR dp k A c E rk S L V P
/-- an act with its first block behind it -/
theorem ct_in (hb : b < 2) (h1 : lowS b A c S L S1 L1) (h2 : lowP A c E P P1) (h3 : lowU A U U1) (hc1 : c ≤ c1)
    (hi : ctB b M NR (A + 1) A2 c1 c2 E E2 rk rk' S1 L1 P1 U1 S2 L2 P2 U') (hA : A < 80) (hA2 : A + 1 ≤ A2) : 
    lowS b A c S L (pt S2 (2 + b) 110 80 (Int32.ofNat A) x) L2 ∧ lowP A c E P P2 ∧ lowU A U U' ∧ (∀ a, a < A → rk' a = rk a) ∧ rk' A = rk A ∧ ∀ a, A + 1 ≤ a → a < A2 → acT b M NR A2 E E2 c2 rk' (pt S2 (2 + b) 110 80 (Int32.ofNat A) x) P2 U' a := by
  obtain ⟨i1, i2, i3, i4, i5⟩ := hi
  have l : lowS b A c S2 L2 (pt S2 (2 + b) 110 80 (Int32.ofNat A) x) L2 := lowS_pt (v := 110) (by decide) (fun _ => Nat.le_refl _) (by omega) (by omega)
  exact ⟨lowS_tr (lowS_tr h1 i1 (by omega) hc1) l (Nat.le_refl _) (Nat.le_refl _), lowP_tr h2 i2 (by omega) hc1 (Nat.le_refl _), lowU_tr h3 i3 (by omega), fun a ha => i4 a (by omega), i4 A (by omega), fun a q1 q2 => acT_pt (i5 a q1 q2) (by omega) (by omega) (by decide) (by decide)⟩
theorem arm_12 (H : bse b pl n m qf T S0 L0 V0) (hB : BLK hc hcR R RB C W pl b m qf T S0 L0 V0 M NR DC DR (dp + 1)) (h : Gk b m qf T S0 L0 V0 k (dp + 1) (A + 1) c c E M M NR (NR + 1) S L V P) (h4 : 4 * c ≤ k) (hA : A < 400) (hDC : 3 ≤ DC) (hDR : 4 ≤ DR) : ARMr hc hcR R RB C W pl b m qf T S0 L0 V0 M NR dp (DC + 1) (DR + 1) 12 A k c E rk x S L V P := by
  have hb := H.1
  have hB0 := bse_B H h.2.1
  have u4 := h.1.2.2.2.2.2.1
  have ea : arm 12 = 150 := rfl
  have hj4 : 12 = 7 ∨ 12 = 8 ∨ 12 = 9 ∨ 12 = 12 := Or.inr (Or.inr (Or.inr rfl))
  unfold ARMr
  rw [ea]
  rcases val_sim (hc := hc) (hcR := hcR) (R := R) (RB := RB) (C := C) (W := W) (a := BA b + 5) (v := 108) (nn := 80) (x := x) H h (by decide) (fun L S y d Q => b_values_put hb) with ⟨q1, q2⟩ | ⟨S1, V1, hk1, G2, q1, q2, z1, w1⟩
  · exact Or.inl ⟨S, L, V, P, Gk_F h H, fun d Q => c26_150_0 hb hB0 (RC_D q1 (by omega)), fun d Q => r164_v0 hj4 u4 (RR_E q2 (by omega))⟩
  · have hP1 := bse_P H G2.2.1
    have hB1 := bse_B H G2.2.1
    have qv : ∀ D, 3 ≤ D → RE hcR C W pl RB D 169 [.ref 395, .int (Int32.ofNat k)] V1 P (zv V0 T qf k) V1 P := fun D hD => RR_E (val_at H G2.2.1 hk1) hD
    have G3 := valP_G (a := A) (z := zv V0 T qf k) G2
    have h106 : P 0 106 0 = Int32.ofNat E := h.2.2.2.1.2.2.1.1
    rcases hB (k + 1) (A + 1) c E rk _ _ _ _ G3 (by omega) with ⟨S2, L2, V2, P2, f1, q3, q4⟩ | ⟨k', A', c', E', rk', S2, L2, V2, P2, xb, hdp, b1, b2, b3, b4, b5, G4, q3, q4, hx, w2⟩
    · refine Or.inl ⟨pt S2 (2 + b) 110 80 x (-2), L2, V2, P2, Fk_b hb f1 (by decide), fun d Q => c26_150_1 hb hB0 hB1 (RC_D q1 (by omega)) (c27' (D1 := d + DC) rfl (by omega) (by rw [ofN_a1]; exact q3 d) (fun S y d Q => b_bodies_put hb)) (Or.inl rfl), fun d Q => ?_⟩
      exact r164_v1 H.2.1 hP1 hA hj4 u4 (RR_E q2 (by omega)) (qv _ (by omega)) (by rw [if_pos rfl, if_pos rfl]; exact RR_E q4 (by omega)) (Or.inl rfl)
    · refine Or.inr ⟨k', A', c', E', rk', pt S2 (2 + b) 110 80 x xb, L2, V2, P2, by omega, b2, b3, by omega, b5, Gk_bk hb G4 (by decide), fun d Q => ?_, fun d Q => ?_, fun q0 => ?_⟩
      · have q := c27' (D1 := d + DC) (D2 := d + (DC + 1)) (x := x) (a := BA b + 7) (F := fun S y => pt S (2 + b) 110 80 x y) rfl (by omega) (by rw [ofN_a1]; exact q3 d) (fun S y d Q => b_bodies_put hb)
        rw [if_neg hx] at q
        exact c26_150_1 hb hB0 hB1 (RC_D q1 (by omega)) q (Or.inr rfl)
      · exact r164_v1 H.2.1 hP1 hA hj4 u4 (RR_E q2 (by omega)) (qv _ (by omega)) (by rw [if_pos rfl, if_pos rfl]; exact RR_E q4 (by omega)) (Or.inr rfl)
      · rw [pt_vne (by omega)] at q0
        obtain ⟨d1, d2, d3, d4⟩ := w2 q0
        obtain ⟨e1, e2', e3⟩ := w1 d1
        have h5' := NR_5 h e1
        refine ⟨e1, fun g1 g2 g3 g4 => ?_⟩
        subst g1
        have l1 : lowS b A c S L S1 (stV (k + 1) L) := by rw [e3]; exact lowS_tr (lowS_pt (v := 108) (by decide) (fun _ => Nat.le_refl _) (by omega) (by omega)) (lowS_st hb) (Nat.le_refl _) (Nat.le_refl _)
        have d2' := d2
        obtain ⟨i1, i2, i3, i4, i5⟩ := d2'
        obtain ⟨f1, f2, f3, f4, f5, f6⟩ := ct_in (x := xb) (U := (p2 V T qf k).2.2) hb l1 (valP_low (z := zv V0 T qf k)) (by rw [e2']; exact lowU_refl) (Nat.le_refl _) d2 g2 b2
        refine ⟨⟨f1, f2, f3, f4, fun a q1 q2 => ?_⟩, f5⟩
        by_cases ea2 : a = A
        · subst ea2
          obtain ⟨h1, h2, h3, h5, h6, h7⟩ := g3
          have eS : ∀ v, 107 ≤ v → v ≤ 113 → S2 (2 + b) v a = S1 (2 + b) v a := fun v p1 p2 => i1.1 v a p1 p2 (by omega)
          have eP : ∀ v, 110 ≤ v → v ≤ 117 → v ≠ 113 → P2 0 v a = valP a (zv V0 T qf k) P 0 v a := fun v p1 p2 p3 => i2.1 v a p1 p2 p3 (by omega)
          refine ⟨12, ?_, ?_, by decide, by decide, ⟨?_, Or.inl ?_⟩, fun _ => ⟨?_, ?_⟩, fun q => absurd q (by decide), fun q => absurd q (by decide), fun _ => ⟨E, Nat.le_refl _, b4, ?_, ?_, ?_⟩, fun q => absurd q (by decide), by rw [f5]; omega⟩
          · rw [eP 110 (by decide) (by decide) (by decide)]; unfold valP; rw [su_ne (by decide), su_ne (by decide)]; exact h5
          · rw [pt_vne (by omega), eS 107 (by decide) (by decide), e3, st_ne (by omega), pt_vne (by omega)]; exact h1
          · rw [pt_vne (by omega), eS 109 (by decide) (by decide), e3, st_ne (by omega), pt_vne (by omega), eP 111 (by decide) (by decide) (by decide)]; unfold valP; rw [su_ne (by decide), su_ne (by decide), h2, h6]
          · rw [eP 111 (by decide) (by decide) (by decide)]; unfold valP; rw [su_ne (by decide), su_ne (by decide)]; exact h6
          · rw [eP 112 (by decide) (by decide) (by decide)]; unfold valP; rw [su_ne (by decide), su_self]; exact z1
          · rw [eP 112 (by decide) (by decide) (by decide)]; unfold valP; rw [su_ne (by decide), su_self, pt_vne (by omega), eS 108 (by decide) (by decide), e3, st_ne (by omega), pt_self g2 (by omega)]
          · rw [eP 114 (by decide) (by decide) (by decide)]; unfold valP; rw [su_self]; exact h106
          · rw [pt_self g2 (by omega), d3]
          · unfold blkF
            rw [d3]
            refine d4.imp id ?_
            rintro ⟨a', p1, p2, p3, p4⟩
            exact ⟨a', p2, p3, by rw [f5, g4, p4]; omega⟩
        · exact f6 a (by omega) q2
end INNR
