/-! THE GRAMMAR IN LOCKSTEP: blocks -/
section BLKS
variable {b pl n m k c a j A A' A0 A1 A2 cc cS cc' cS' c0 c1 c2 E E' e0 E1 E2 lo hi lo' hi' M M' NR R' dp dp' DC DR D1 : Nat} {rk rk' rk1 rkb : Nat → Nat} {qf lf : Nat → Nat} {T : Nat → Int32} {S S' S0 S1 S2 Sb V V' V0 V1 V2 P P' P1 P2 Pb U U' U1 Ub : S3} {L L' L0 L1 L2 Lb : L3} {x y z r : Int32} {hc hcR : Nat × Nat × Nat} {R RB C : Nat → Option PC} {W : L3} {Q : PO → Prop}
theorem act_arm (H : bse b pl n m qf T S0 L0 V0) (hB : BLK hc hcR R RB C W pl b m qf T S0 L0 V0 M NR DC DR (dp + 1)) (hdp : dp < 6) (hDC : 3 ≤ DC) (hDR : 6 ≤ DR) (h : Gk b m qf T S0 L0 V0 k (dp + 1) (A + 1) c c E M M NR (NR + 1) S L V P) (h4 : 4 * c + 1 ≤ k) (hA : A < 400) (h1 : 4 ≤ j) (h2 : j ≤ 13) (h110 : P 0 110 A = Int32.ofNat j) : ARMr hc hcR R RB C W pl b m qf T S0 L0 V0 M NR dp (DC + 1) (DR + 1) j A k c E rk x S L V P := by
  by_cases g1 : j ≤ 6
  · exact arm_d H h (by omega) ⟨h1, g1⟩ (by omega) (by omega)
  by_cases g2 : j ≤ 9
  · exact arm_v H h (by omega) hA ⟨by omega, g2⟩ (by omega) (by omega)
  have : j = 10 ∨ j = 11 ∨ j = 12 ∨ j = 13 := by omega
  rcases this with rfl | rfl | rfl | rfl
  · exact arm_10 H h (by omega) hA h110 (by omega) (by omega)
  · exact arm_11 H h (by omega) hA h110 hdp (by omega) (by omega)
  · exact arm_12 H hB h (by omega) hA hDC (by omega)
  · exact arm_13 H hB h h4 hA hDC hDR
theorem act_sim (H : bse b pl n m qf T S0 L0 V0) (hB : BLK hc hcR R RB C W pl b m qf T S0 L0 V0 M NR DC DR (dp + 1)) (hdp : dp < 6) (hDC : 3 ≤ DC) (hDR : 6 ≤ DR) (h : Gk b m qf T S0 L0 V0 k (dp + 1) A c c E M M NR (NR + 1) S L V P) (h4 : 4 * c ≤ k) (ej : S 4 211 k = Int32.ofNat j) (h1 : 4 ≤ j) (h2 : j ≤ 13) (rk : Nat → Nat) :
    ∃ x S1, RC hc R 2 25 [.ref 317] S L x S1 L ∧ (x = -1 ∨ ∃ a, a < 80 ∧ x = Int32.ofNat a) ∧ A < 400 ∧
      ((∃ S' L' V' P', Fk b m qf S0 L0 V0 S' L' V' ∧ RC hc R (DC + 2) 26 [.ref 317, .int x, .int (Int32.ofNat dp)] S1 L 0 S' L' ∧ RR hcR C W pl RB (DR + 2) 164 [.ref 395, .int (Int32.ofNat A)] V P 0 V' P') ∨
      ∃ (k' A' c' E' : Nat) (rk' : Nat → Nat) (S' : S3) (L' : L3) (V' P' : S3), k < k' ∧ A < A' ∧ c ≤ c' ∧ E ≤ E' ∧ 4 * c' ≤ k' ∧ Gk b m qf T S0 L0 V0 k' (dp + 1) A' c' c' E' M M NR (NR + 1) S' L' V' P' ∧ RC hc R (DC + 2) 26 [.ref 317, .int x, .int (Int32.ofNat dp)] S1 L 1 S' L' ∧ RR hcR C W pl RB (DR + 2) 164 [.ref 395, .int (Int32.ofNat A)] V P 1 V' P' ∧
        (S' 4 203 0 = 0 → S 4 203 0 = 0 ∧ x = Int32.ofNat A ∧ A < 80 ∧ ctB b M NR A A' c c' E E' rk rk' S L P (p2 V T qf k).2.2 S' L' P' (p2 V' T qf k').2.2 ∧ rk' A = 6 * NR + 5 - dp)) := by
  obtain ⟨x, S1, S2, L2, V2, P1, hk, hA, hx8, q25, q26, q164, G1, h110, w1⟩ := act_head (hc := hc) (hcR := hcR) (R := R) (RB := RB) (C := C) (W := W) H h ej h1 h2 (Int32.ofNat dp)
  refine ⟨x, S1, q25, hx8, hA, ?_⟩
  rcases act_arm (rk := fun a => if a = A then 6 * NR + 5 - dp else rk a) (x := x) H hB hdp hDC hDR G1 (by omega) hA h1 h2 h110 with ⟨S', L', V', P', f1, q1, q2⟩ | ⟨k', A', c', E', rk', S', L', V', P', b1, b2, b3, b4, b5, G2, q1, q2, w2⟩
  · refine Or.inl ⟨S', L', V', P', f1, fun d Q => ?_, fun d Q => ?_⟩
    · exact (q26 (d + DC) Q).trans (q1 d Q)
    · exact (q164 (d + (DR + 1)) Q).trans (q2 d Q)
  · refine Or.inr ⟨k', A', c', E', rk', S', L', V', P', by omega, by omega, b3, b4, b5, G2, fun d Q => ?_, fun d Q => ?_, fun q0 => ?_⟩
    · exact (q26 (d + DC) Q).trans (q1 d Q)
    · exact (q164 (d + (DR + 1)) Q).trans (q2 d Q)
    · obtain ⟨d1, d2⟩ := w2 q0
      obtain ⟨e1, e2', e3, e4, e5, e6, e7⟩ := w1 d1
      obtain ⟨⟨f1, f2, f3, f4, f5⟩, f6⟩ := d2 e3 e2' e7 (if_pos rfl)
      refine ⟨e1, e3, e2', ⟨lowS_tr e4 f1 (Nat.le_refl _) (Nat.le_refl _), lowP_tr e5 f2 (Nat.le_refl _) (Nat.le_refl _) (Nat.le_refl _), lowU_tr e6 f3 (Nat.le_refl _), fun a ha => (f4 a ha).trans (if_neg (by omega)), f5⟩, f6.trans (if_pos rfl)⟩
/-- the depth changes -/
theorem Gk_dp (h : Gk b m qf T S0 L0 V0 k dp A cc cS E M M' NR R' S L V P) : Gk b m qf T S0 L0 V0 k dp' A cc cS E M M' NR R' S L (su V 4 204 0 (Int32.ofNat dp')) P := by
  obtain ⟨⟨u0, u1, u2, u3, u4, u5, u6, u7⟩, F, g3, g4, s1, s2, s3, s4⟩ := h
  have eV : ∀ u, su V 4 204 0 (Int32.ofNat dp') 4 214 u = V 4 214 u := fun u => by rw [su_ne (by decide)]
  have eP : p2 (su V 4 204 0 (Int32.ofNat dp')) T qf k = p2 V T qf k := p2_V (fun u _ => eV u)
  refine ⟨⟨u0, u1, u2, u3, u4, by rw [su_ne (by decide)]; exact u5, su_self, u7⟩, fr3_V F (Or.inr (Or.inl rfl)), fun u q1 q2 => by rw [eV]; exact g3 u q1 q2, g4, ?_⟩
  unfold SE
  rw [eP]
  exact ⟨pr2_c2 k 0 G0 (fun u _ => eV u) s1, s2, s3, fun q => ⟨(s4 q).1, CO_V (s4 q).2 (fun u _ => eV u)⟩⟩
/-- the loop of a block -/
def lnk (e0 A0 A ρ : Nat) (rk : Nat → Nat) (x z y : Int32) (P : S3) : Prop := (y = -1 ∧ z = -1 ∧ x = -1 ∧ P 0 105 e0 = -1) ∨ ∃ t t0, t < 80 ∧ y = Int32.ofNat t ∧ z = Int32.ofNat t ∧ A0 ≤ t ∧ t < A ∧ A0 ≤ t0 ∧ t0 < A ∧ x = Int32.ofNat t0 ∧ P 0 105 e0 = x ∧ rk t = ρ ∧ rk t0 = ρ
def LINV (b M NR A0 A c0 c e0 E ρ : Nat) (rkb rk : Nat → Nat) (x z y : Int32) (Sb : S3) (Lb : L3) (Pb Ub S : S3) (L : L3) (P U : S3) : Prop := lowS b A0 c0 Sb Lb S L ∧ lowP A0 c0 e0 Pb P ∧ lowU A0 Ub U ∧ (∀ a, a < A0 → rk a = rkb a) ∧ (∀ a, A0 ≤ a → a < A → acT b M NR A (e0 + 1) E c rk S P U a) ∧ lnk e0 A0 A ρ rk x z y P
theorem LINV_step (hA0 : A0 ≤ A) (hc0 : c0 ≤ c) (he0 : e0 < E) (hA' : A < A') (hcc : c ≤ cc') (hEE : E ≤ E') (hA80 : A < 80) (h : LINV b M NR A0 A c0 c e0 E (6 * NR + 5 - dp) rkb rk x z y Sb Lb Pb Ub S L P U) (hn : ctB b M NR A A' c cc' E E' rk rk' S L P U S' L' P' U') (hr : rk' A = 6 * NR + 5 - dp) :
    LINV b M NR A0 A' c0 cc' e0 E' (6 * NR + 5 - dp) rkb rk' (if z = -1 then Int32.ofNat A else x) (Int32.ofNat A) (Int32.ofNat A) Sb Lb Pb Ub (if z = -1 then S' else pt S' (2 + b) 109 80 z (Int32.ofNat A)) L' (if z = -1 then su P' 0 105 e0 (Int32.ofNat A) else su P' 0 111 y.toNatClampNeg (Int32.ofNat A)) U' := by
  obtain ⟨h1, h2, h3, h4, h5, h6⟩ := h
  obtain ⟨n1, n2, n3, n4, n5⟩ := hn
  have old : ∀ a, A0 ≤ a → a < A' → acT b M NR A' (e0 + 1) E' cc' rk' S' P' U' a := fun a q1 q2 => by
    by_cases g : a < A
    · exact acT_low (h5 a q1 g) g n1 n2 n3 (fun e _ p2 => n2.2.2.1 e p2) (by omega) (Nat.le_refl _) hEE hcc n4
    · exact acT_low (L := L) (L' := L) (n5 a (by omega) q2) q2 lowS_refl (lowP_refl (E := 0)) lowU_refl (fun _ _ _ => rfl) (Nat.le_refl _) (by omega) (Nat.le_refl _) (Nat.le_refl _) (fun _ _ => rfl)
  have m1 := lowS_tr h1 n1 hA0 hc0
  have m2 := lowP_tr h2 n2 hA0 hc0 (by omega)
  have m3 := lowU_tr h3 n3 hA0
  have m4 : ∀ a, a < A0 → rk' a = rkb a := fun a ha => (n4 a (by omega)).trans (h4 a ha)
  rcases h6 with ⟨y1, z1, x1, p1⟩ | ⟨t, t0, ht, y1, z1, t1, t2, t3, t4, x1, p1, r1, r2⟩
  · subst z1
    rw [if_pos rfl, if_pos rfl, if_pos rfl]
    have lp : lowP A' cc' 0 P' (su P' 0 105 e0 (Int32.ofNat A)) := lowP_su (by omega) (by omega) (by omega) (by decide)
    have lp0 : lowP A0 c0 e0 P' (su P' 0 105 e0 (Int32.ofNat A)) := lowP_su (by omega) (by omega) (by omega) (by decide)
    refine ⟨m1, lowP_tr m2 lp0 (Nat.le_refl _) (Nat.le_refl _) (Nat.le_refl _), m3, m4, fun a q1 q2 => ?_, Or.inr ⟨A, A, hA80, rfl, rfl, hA0, hA', hA0, hA', rfl, su_self, hr, hr⟩⟩
    exact acT_low (L := L) (L' := L) (old a q1 q2) q2 lowS_refl lp lowU_refl (fun e g1 _ => su_off (by omega)) (Nat.le_refl _) (Nat.le_refl _) (Nat.le_refl _) (Nat.le_refl _) (fun _ _ => rfl)
  · have hz : z ≠ -1 := by rw [z1]; exact ofN_ne (by omega)
    have ey : y.toNatClampNeg = t := by rw [y1, tN_nat (by omega)]
    rw [if_neg hz, if_neg hz, if_neg hz, ey, z1]
    have ls : lowS b A0 c0 S' L' (pt S' (2 + b) 109 80 (Int32.ofNat t) (Int32.ofNat A)) L' := lowS_pt (by decide) (fun _ => t1) (by omega) (by omega)
    have lp0 : lowP A0 c0 e0 P' (su P' 0 111 t (Int32.ofNat A)) := lowP_su (by omega) (by omega) (by omega) (by decide)
    refine ⟨lowS_tr m1 ls (Nat.le_refl _) (Nat.le_refl _), lowP_tr m2 lp0 (Nat.le_refl _) (Nat.le_refl _) (Nat.le_refl _), m3, m4, fun a q1 q2 => ?_, Or.inr ⟨A, t0, hA80, rfl, rfl, hA0, hA', t3, by omega, x1, ?_, hr, (n4 t0 t4).trans r2⟩⟩
    · by_cases g : a = t
      · subst g
        exact acT_link (old a q1 q2) ht hA' (hr.trans (((n4 a t2).trans r1).symm))
      · exact acT_su (acT_pt (old a q1 q2) (by omega) (by omega) (by decide) (by decide)) (by omega) (by decide) (by decide)
    · rw [su_ne (by decide), n2.2.2.1 e0 he0]
      exact p1
end BLKS
