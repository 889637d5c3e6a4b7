/-! THE GRAMMAR IN LOCKSTEP: an if -/
section IFF
variable {b pl n m k c a j A A' A1 A2 cc cS cc' cS' c1 c2 E E' E1 E2 lo hi lo' hi' M M' NR R' dp DC DR D1 : Nat} {rk rk' rk1 : Nat → Nat} {qf lf : Nat → Nat} {T : Nat → Int32} {S S' S0 S1 S2 V V' V0 V1 V2 P P' P1 P2 U U' U1 : S3} {L L' L0 L1 L2 : L3} {x y z r : Int32} {hc hcR : Nat × Nat × Nat} {R RB C : Nat → Option PC} {W : L3} {Q : PO → Prop}
theorem r166_t1' (h2 : 2 ≤ D1) (hk : k < 401) (q : RE hcR C W pl RB D1 163 [.ref 395] V P 1 V1 P1) (e203 : V1 4 203 0 = Int32.ofNat k) (h : V1 4 211 k ≠ 15) : Wp D1 166 75 [some (.ref 395), some (.int x)] [] (RP hcR C V W pl P RB) Q = Q (.inl (some (.int 1)), RP hcR C V1 W pl P1 RB) := by
  obtain ⟨D, rfl⟩ : ∃ D, D1 = D + 2 := ⟨D1 - 2, by omega⟩
  exact r166_t1 hk q e203 h
theorem r166_t2' (h2 : 2 ≤ D1) (hp : Pok pl) (hP1 : (V1 4 207 0).toNatClampNeg = pl) (ha : a < 400) (hk : k < 401) (q : RE hcR C W pl RB D1 163 [.ref 395] V P 1 V1 P1) (e203 : V1 4 203 0 = Int32.ofNat k) (h : V1 4 211 k = 15) (q2 : RE hcR C W pl RB D1 163 [.ref 395] (su V1 4 203 0 (Int32.ofNat (k + 1))) (su P1 0 115 a (P1 0 106 0)) r V2 P2) (hr : r = 0 ∨ r = 1) : Wp D1 166 75 [some (.ref 395), some (.int (Int32.ofNat a))] [] (RP hcR C V W pl P RB) Q = Q (.inl (some (.int r)), RP hcR C V2 W pl P2 RB) := by
  obtain ⟨D, rfl⟩ : ∃ D, D1 = D + 2 := ⟨D1 - 2, by omega⟩
  exact r166_t2 hp hP1 ha hk q e203 h q2 hr
theorem q166 (hDR : 6 ≤ DR) (q : ∀ (d : Nat) (Q : PO → Prop), Cp (d + 7) 166 [.ref 395, .int (Int32.ofNat a)] (RP hcR C V W pl P RB) Q = Wp (d + 6) 166 75 [some (.ref 395), some (.int (Int32.ofNat a))] [] (RP hcR C V1 W pl P1 RB) Q) (d : Nat) (h : ∀ Q, Wp (d + DR) 166 75 [some (.ref 395), some (.int (Int32.ofNat a))] [] (RP hcR C V1 W pl P1 RB) Q = Q (.inl (some (.int r)), RP hcR C V2 W pl P2 RB)) : RE hcR C W pl RB (d + (DR + 1)) 166 [.ref 395, .int (Int32.ofNat a)] V P r V2 P2 := fun Q => by
  have := q (d + DR - 6) Q
  rw [show d + DR - 6 + 7 = d + (DR + 1) by omega, show d + DR - 6 + 6 = d + DR by omega] at this
  rw [this]
  exact h Q
/-- what stands of an if -/
def if7 (b A c c1 E : Nat) (x : Int32) (S P : S3) : Prop := (S (2 + b) 107 A = Int32.ofNat 13 ∧ S (2 + b) 109 A = -1 ∧ S (2 + b) 110 A = x ∧ S (2 + b) 112 A = Int32.ofNat c ∧ S (2 + b) 113 A = Int32.ofNat c1) ∧ (P 0 110 A = Int32.ofNat 13 ∧ P 0 111 A = -1 ∧ P 0 114 A = Int32.ofNat E ∧ P 0 116 A = Int32.ofNat c ∧ P 0 117 A = Int32.ofNat c1) ∧ ∀ j, c ≤ j → j < c1 → cmpR b S P j
theorem if7_low (h : if7 b A c c1 E x S P) (h1 : lowS b A2 c2 S L S' L') (h2 : lowP A2 c2 E2 P P') (hA : A < A2) (hc : c1 ≤ c2) : if7 b A c c1 E x S' P' := by
  obtain ⟨a1, a2, a3⟩ := h
  unfold if7
  rw [h1.1 107 A (by decide) (by decide) hA, h1.1 109 A (by decide) (by decide) hA, h1.1 110 A (by decide) (by decide) hA, h1.1 112 A (by decide) (by decide) hA, h1.1 113 A (by decide) (by decide) hA, h2.1 110 A (by decide) (by decide) (by decide) hA, h2.1 111 A (by decide) (by decide) (by decide) hA, h2.1 114 A (by decide) (by decide) (by decide) hA, h2.1 116 A (by decide) (by decide) (by decide) hA, h2.1 117 A (by decide) (by decide) (by decide) hA]
  exact ⟨a1, a2, fun j g1 g2 => cmpR_low (a3 j g1 g2) h1 h2 (by omega)⟩
theorem if7_111 (h : if7 b A c c1 E x S P) : if7 b A c c1 E x (pt S (2 + b) 111 80 y z) P := by
  obtain ⟨a1, a2, a3⟩ := h
  unfold if7
  rw [pt_vne (v' := 107) (by omega), pt_vne (v' := 109) (by omega), pt_vne (v' := 110) (by omega), pt_vne (v' := 112) (by omega), pt_vne (v' := 113) (by omega)]
  refine ⟨a1, a2, fun j g1 g2 => ?_⟩
  have := a3 j g1 g2
  unfold cmpR at this ⊢
  rw [pt_vne (v' := 114) (by omega), pt_vne (v' := 115) (by omega), pt_vne (v' := 116) (by omega)]
  exact this
theorem if7_115 (h : if7 b A c c1 E x S P) {i : Nat} : if7 b A c c1 E x S (su P 0 115 i y) := by
  obtain ⟨a1, a2, a3⟩ := h
  unfold if7
  rw [su_ne (v' := 110) (by decide), su_ne (v' := 111) (by decide), su_ne (v' := 114) (by decide), su_ne (v' := 116) (by decide), su_ne (v' := 117) (by decide)]
  refine ⟨a1, a2, fun j g1 g2 => ?_⟩
  have := a3 j g1 g2
  unfold cmpR at this ⊢
  rw [su_ne (v' := 119) (by decide), su_ne (v' := 120) (by decide), su_ne (v' := 121) (by decide)]
  exact this
theorem if7_T (h : if7 b A c c1 E x S P) (hc : c ≤ c1) (hc2 : c1 ≤ c2) (hlo : lo ≤ E) (hhi : E < hi) (hx : P 0 105 E = x) (hB : blkF A' P rk E (rk A)) (hrk : rk A ≤ 35) (hE : P 0 115 A = -1 ∧ S (2 + b) 111 A = -1 ∨ ∃ e, lo ≤ e ∧ e < hi ∧ P 0 115 A = Int32.ofNat e ∧ S (2 + b) 111 A = P 0 105 e ∧ blkF A' P rk e (rk A)) : acT b M NR A' lo hi c2 rk S P U A := by
  obtain ⟨⟨a1, a2, a3, a4, a5⟩, ⟨b1, b2, b3, b4, b5⟩, d⟩ := h
  exact ⟨13, b1, a1, by decide, by decide, ⟨a2.trans b2.symm, Or.inl b2⟩, fun q => absurd q (by decide), fun q => absurd q (by decide), fun q => absurd q (by decide), fun _ => ⟨E, hlo, hhi, b3, a3.trans hx.symm, hB⟩, fun _ => ⟨hE, c, c1, hc, hc2, b4, b5, a4, a5, d⟩, hrk⟩
theorem arm_13 (H : bse b pl n m qf T S0 L0 V0) (hB : BLK hc hcR R RB C W pl b m qf T S0 L0 V0 M NR DC DR (dp + 1)) (h : Gk b m qf T S0 L0 V0 k (dp + 1) (A + 1) c c E M M NR (NR + 1) S L V P) (h4 : 4 * c + 1 ≤ k) (hA : A < 400) (hDC : 3 ≤ DC) (hDR : 6 ≤ DR) : ARMr hc hcR R RB C W pl b m qf T S0 L0 V0 M NR dp (DC + 1) (DR + 1) 13 A k c E rk x S L V P := by
  have hb := H.1
  have hm := H.2.2.2.2.2.2.1
  have ea : arm 13 = 187 := rfl
  unfold ARMr
  rw [ea]
  rcases ifh_sim (hc := hc) (hcR := hcR) (R := R) (RB := RB) (C := C) (W := W) H h h4 hA (Nat.lt_succ_self A) x with ⟨S1, L1, V1, P1, f1, q1, q2⟩ | ⟨k1, c1, S1, L1, V1, P1, b1, b2, b3, G1, q1, q2, wI⟩
  · exact Or.inl ⟨S1, L1, V1, P1, f1, fun d Q => c26_187_0 (RC_D q1 (by omega)), fun d Q => r164_13 (RR_E q2 (by omega)) (Or.inl rfl)⟩
  have hB1 := bse_B H G1.2.1
  rcases hB k1 (A + 1) c1 E rk _ _ _ _ G1 b3 with ⟨S2, L2, V2, P2, f1, q3, q4⟩ | ⟨k2, A2, c2, E2, rk2, S2, L2, V2, P2, xb, hdp, d1, d2, d3, d4, d5, G2, q3, q4, hx, w2⟩
  · refine Or.inl ⟨pt S2 (2 + b) 110 80 x (-2), L2, V2, P2, Fk_b hb f1 (by decide), fun d Q => c26_187_1 hb hB1 (RC_D q1 (by omega)) (c27' (D1 := d + DC) rfl (by omega) (by rw [ofN_a1]; exact q3 d) (fun S y d Q => b_bodies_put hb)), fun d Q => r164_13 (q166 hDR q2 d (fun Q => r166_t0 (q4 d))) (Or.inl rfl)⟩
  have q27 : ∀ d, RD hc R (d + (DC + 1)) 27 [.ref 317, .ref (BA b + 7), .int x, .int (Int32.ofNat dp)] S1 L1 1 (pt S2 (2 + b) 110 80 x xb) L2 := fun d => by
    have q := c27' (D1 := d + DC) (D2 := d + (DC + 1)) (x := x) (a := BA b + 7) (F := fun S y => pt S (2 + b) 110 80 x y) rfl (by omega) (by rw [ofN_a1]; exact q3 d) (fun S y d Q => b_bodies_put hb)
    rw [if_neg hx] at q
    exact q
  have G3 : Gk b m qf T S0 L0 V0 k2 (dp + 1) A2 c2 c2 E2 M M NR (NR + 1) (pt S2 (2 + b) 110 80 x xb) L2 V2 P2 := Gk_bk hb G2 (by decide)
  have u4 := G3.1.2.2.2.2.2.1
  have km2 := G3.1.1
  -- what stands behind the first block
  have fst : pt S2 (2 + b) 110 80 x xb 4 203 0 = 0 → S 4 203 0 = 0 ∧ (x = Int32.ofNat A → A < 80 → hd5 b A 13 S P → rk A = 6 * NR + 5 - dp →
      (lowS b A c S L (pt S2 (2 + b) 110 80 x xb) L2 ∧ lowP A c E P P2 ∧ lowU A (p2 V T qf k).2.2 (p2 V2 T qf k2).2.2 ∧ (∀ a, a < A → rk2 a = rk a) ∧ rk2 A = rk A ∧ ∀ a, A + 1 ≤ a → a < A2 → acT b M NR A2 E E2 c2 rk2 (pt S2 (2 + b) 110 80 x xb) P2 (p2 V2 T qf k2).2.2 a) ∧
      if7 b A c c1 E xb (pt S2 (2 + b) 110 80 x xb) P2 ∧ P2 0 105 E = xb ∧ blkF A2 P2 rk2 E (rk2 A) ∧ P2 0 115 A = -1 ∧ pt S2 (2 + b) 110 80 x xb (2 + b) 111 A = -1) := by
    intro q0
    rw [pt_vne (by omega)] at q0
    obtain ⟨e1, e2', e3, e4⟩ := w2 q0
    obtain ⟨i1, i2⟩ := wI e1
    refine ⟨i1, fun g1 g2 g3 g4 => ?_⟩
    obtain ⟨j1, j2, j3, j4, j5, j6, j7, j8, j9, j10, j11⟩ := i2 g1 g2
    subst g1
    have cin := ct_in (x := xb) hb j1 j2 (by rw [j3]; exact lowU_refl (U := (p2 V T qf k).2.2)) b2 e2' g2 d2
    obtain ⟨l1, l2, l3, l4, l5⟩ := e2'
    obtain ⟨h1, h2, h3, h5, h6, h7⟩ := g3
    have i0 : if7 b A c c1 E (S1 (2 + b) 110 A) S1 P1 := ⟨⟨(j4 107 (by decide) (by decide)).trans h1, (j4 109 (by decide) (by decide)).trans h2, rfl, j9, j10⟩, ⟨(j5 110 (by decide) (by decide) (by decide) (by decide)).trans h5, (j5 111 (by decide) (by decide) (by decide) (by decide)).trans h6, j6, j7, j8⟩, j11⟩
    obtain ⟨⟨m1, m2, m3, m4, m5⟩, m6, m7⟩ := if7_low i0 l1 l2 (Nat.lt_succ_self A) (Nat.le_refl _)
    refine ⟨cin, ⟨⟨?_, ?_, ?_, ?_, ?_⟩, m6, fun j n1 n2 => ?_⟩, e3, ?_, ?_, ?_⟩
    · rw [pt_vne (by omega)]; exact m1
    · rw [pt_vne (by omega)]; exact m2
    · rw [pt_self g2 (by omega)]
    · rw [pt_vne (by omega)]; exact m4
    · rw [pt_vne (by omega)]; exact m5
    · have := m7 j n1 n2
      unfold cmpR at this ⊢
      rw [pt_vne (v' := 114) (by omega), pt_vne (v' := 115) (by omega), pt_vne (v' := 116) (by omega)]
      exact this
    · unfold blkF
      rw [e3]
      refine e4.imp id ?_
      rintro ⟨a', p1, p2, p3, p4⟩
      exact ⟨a', p2, p3, by rw [cin.2.2.2.2.1, g4, p4]; omega⟩
    · rw [l2.1 115 A (by decide) (by decide) (by decide) (by omega), j5 115 (by decide) (by decide) (by decide) (by decide)]
      exact h7
    · rw [pt_vne (by omega), l1.1 111 A (by decide) (by decide) (by omega), j4 111 (by decide) (by decide)]
      exact h3
  by_cases h15 : pt S2 (2 + b) 110 80 x xb 4 211 k2 = Int32.ofNat 15
  · obtain ⟨hk, n1, n2, n3, G4, t4⟩ := acc_G H G3 (by decide) h15
    have h106 : P2 0 106 0 = Int32.ofNat E2 := G2.2.2.2.1.2.2.1.1
    have hP2 := bse_P H G2.2.1
    have hB4 := bse_B H G4.2.1
    have G5 : Gk b m qf T S0 L0 V0 (k2 + 1) (dp + 1) A2 c2 c2 E2 M M NR (NR + 1) (stS (k2 + 1) (pt S2 (2 + b) 110 80 x xb)) (stV (k2 + 1) L2) (su V2 4 203 0 (Int32.ofNat (k2 + 1))) (su P2 0 115 A (P2 0 106 0)) := Gk_P G4 (by decide) (by decide) (by decide) (by decide) (by omega)
    rcases hB (k2 + 1) A2 c2 E2 rk2 _ _ _ _ G5 (by omega) with ⟨S6, L6, V6, P6, f1, q5, q6⟩ | ⟨k6, A6, c6, E6, rk6, S6, L6, V6, P6, xe, hdp2, o1, o2, o3, o4, o5, G6, q5, q6, hx2, w6⟩
    · refine Or.inl ⟨pt S6 (2 + b) 111 80 x (-2), L6, V6, P6, Fk_b hb f1 (by decide), fun d Q => c26_187_3 hb hB1 hB4 (RC_D q1 (by omega)) (q27 d) (RC_D (i := 2) (fun d Q => k35 n3 (by omega) n2) (by omega)) (c27' (D1 := d + DC) rfl (by omega) (by rw [ofN_a1]; exact q5 d) (fun S y d Q => b_elses_put hb)) (Or.inl rfl), fun d Q => r164_13 (q166 hDR q2 d (fun Q => r166_t2' (by omega) H.2.1 hP2 hA (by omega) (q4 d) u4 n1 (q6 d) (Or.inl rfl))) (Or.inl rfl)⟩
    · refine Or.inr ⟨k6, A6, c6, E6, rk6, pt S6 (2 + b) 111 80 x xe, L6, V6, P6, by omega, by omega, by omega, by omega, o5, Gk_bk hb G6 (by decide), fun d Q => ?_, fun d Q => r164_13 (q166 hDR q2 d (fun Q => r166_t2' (by omega) H.2.1 hP2 hA (by omega) (q4 d) u4 n1 (q6 d) (Or.inr rfl))) (Or.inr rfl), fun q0 => ?_⟩
      · have q := c27' (D1 := d + DC) (D2 := d + (DC + 1)) (x := x) (a := BA b + 8) (F := fun S y => pt S (2 + b) 111 80 x y) rfl (by omega) (by rw [ofN_a1]; exact q5 d) (fun S y d Q => b_elses_put hb)
        rw [if_neg hx2] at q
        exact c26_187_3 hb hB1 hB4 (RC_D q1 (by omega)) (q27 d) (RC_D (i := 2) (fun d Q => k35 n3 (by omega) n2) (by omega)) q (Or.inr rfl)
      · rw [pt_vne (by omega)] at q0
        obtain ⟨e1, ⟨l1, l2, l3, l4, l5⟩, e3, e4⟩ := w6 q0
        obtain ⟨t5, t6⟩ := t4 e1
        obtain ⟨i1, i2⟩ := fst t5
        have h5' := NR_5 h i1
        refine ⟨i1, fun g1 g2 g3 g4 => ?_⟩
        obtain ⟨⟨m1, m2, m3, m4, m5, m6⟩, m7, m8, m9, m10, m11⟩ := i2 g1 g2 g3 g4
        subst g1
        rw [t6] at l3
        have ls : ∀ {A' c' : Nat}, lowS b A' c' (pt S2 (2 + b) 110 80 (Int32.ofNat A) xb) L2 (stS (k2 + 1) (pt S2 (2 + b) 110 80 (Int32.ofNat A) xb)) (stV (k2 + 1) L2) := fun {A' c'} => lowS_st hb
        have lp : lowP A c E P2 (su P2 0 115 A (P2 0 106 0)) := lowP_su (by omega) (by omega) (by omega) (by decide)
        have le : lowS b A c S6 L6 (pt S6 (2 + b) 111 80 (Int32.ofNat A) xe) L6 := lowS_pt (by decide) (fun _ => Nat.le_refl _) (by omega) (by omega)
        have r1 : ∀ a, a < A2 → rk6 a = rk2 a := l4
        have rA : rk6 A = rk A := (l4 A (by omega)).trans m5
        refine ⟨⟨lowS_tr (lowS_tr (lowS_tr m1 ls (Nat.le_refl _) (Nat.le_refl _)) l1 (by omega) (by omega)) le (Nat.le_refl _) (Nat.le_refl _), lowP_tr (lowP_tr m2 lp (Nat.le_refl _) (Nat.le_refl _) (Nat.le_refl _)) l2 (by omega) (by omega) (by omega), lowU_tr m3 l3 (by omega), fun a ha => (l4 a (by omega)).trans (m4 a ha), fun a s1 s2 => ?_⟩, rA⟩
        have e105 : P6 0 105 E = P2 0 105 E := by rw [l2.2.2.1 E (by omega), su_ne (by decide)]
        by_cases ea2 : a = A
        · subst ea2
          refine if7_T (c := c) (c1 := c1) (E := E) (x := xb) (if7_111 (if7_low (if7_115 (if7_low (A2 := a + 1) (c2 := c1) (E2 := 0) m7 ls lowP_refl (by omega) (Nat.le_refl _))) l1 l2 (by omega) (by omega))) b2 (by omega) (Nat.le_refl _) (by omega) (e105.trans m8) ?_ (by omega) (Or.inr ⟨E2, by omega, o4, ?_, ?_, ?_⟩)
          · exact rA ▸ m5 ▸ blkF_low m9 e105 (by omega) r1
          · rw [l2.1 115 a (by decide) (by decide) (by decide) (by omega), su_self, h106]
          · rw [pt_self g2 (by omega), e3]
          · unfold blkF
            rw [e3]
            refine e4.imp id ?_
            rintro ⟨a', p1, p2, p3, p4⟩
            exact ⟨a', p2, p3, by rw [rA, g4, p4]; omega⟩
        · by_cases hs : a < A2
          · have t1 := m6 a (by omega) hs
            have t2 := acT_su (y := P2 0 106 0) (v := 115) (acT_low t1 hs ls (lowP_refl (E := 0)) lowU_refl (fun _ _ _ => rfl) (Nat.le_refl _) (Nat.le_refl _) (Nat.le_refl _) (Nat.le_refl _) (fun _ _ => rfl)) (i := A) (by omega) (by decide) (by decide)
            have t3 := acT_low (lo' := E) (hi' := E6) t2 hs l1 l2 l3 (fun e _ p2 => l2.2.2.1 e p2) o2 (Nat.le_refl _) (by omega) o3 r1
            exact acT_pt t3 (by omega) (by omega) (by decide) (by decide)
          · have t1 := l5 a (by omega) s2
            have t3 := acT_low (L := L6) (L' := L6) (lo' := E) (hi' := E6) t1 s2 lowS_refl (lowP_refl (E := 0)) lowU_refl (fun _ _ _ => rfl) (Nat.le_refl _) (by omega) (Nat.le_refl _) (Nat.le_refl _) (fun _ _ => rfl)
            exact acT_pt t3 (by omega) (by omega) (by decide) (by decide)
  · obtain ⟨n1, n2⟩ : V2 4 211 k2 ≠ toR (Int32.ofNat 15) ∧ pt S2 (2 + b) 110 80 x xb 4 201 0 ≠ Int32.ofNat 15 := k_no H G3 (by decide) h15
    refine Or.inr ⟨k2, A2, c2, E2, rk2, pt S2 (2 + b) 110 80 x xb, L2, V2, P2, by omega, d2, by omega, by omega, d5, G3, fun d Q => c26_187_2 hb hB1 (RC_D q1 (by omega)) (q27 d) (RC_D (i := 2) (fun d Q => k35_no n2) (by omega)), fun d Q => r164_13 (q166 hDR q2 d (fun Q => r166_t1' (by omega) (by omega) (q4 d) u4 n1)) (Or.inr rfl), fun q0 => ?_⟩
    obtain ⟨i1, i2⟩ := fst q0
    have h5' := NR_5 h i1
    refine ⟨i1, fun g1 g2 g3 g4 => ?_⟩
    obtain ⟨⟨m1, m2, m3, m4, m5, m6⟩, m7, m8, m9, m10, m11⟩ := i2 g1 g2 g3 g4
    refine ⟨⟨m1, m2, m3, m4, fun a s1 s2 => ?_⟩, m5⟩
    by_cases ea2 : a = A
    · subst ea2
      exact if7_T m7 b2 (by omega) (Nat.le_refl _) d4 m8 m9 (by omega) (Or.inl ⟨m10, m11⟩)
    · exact m6 a (by omega) s2
end IFF
