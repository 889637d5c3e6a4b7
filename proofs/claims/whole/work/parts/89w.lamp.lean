/-! THE GRAMMAR IN LOCKSTEP: lamps -/
section LMPW
variable {b pl n m k c a j A A' cc cS cc' cS' E E' M M' NR R' dp nn : Nat} {qf lf : Nat → Nat} {T : Nat → Int32} {S S' S0 S1 V V' V0 V1 P P' P1 U U' : S3} {L L' L0 L1 : L3} {x y z w lo hi ρ : Int32} {hc hcR : Nat × Nat × Nat} {R RB C : Nat → Option PC} {W : L3} {l1 : Option Value}
def LMP (b M : Nat) (S U : S3) : Prop := ∀ i, i < M → S (2 + b) 104 i = U 0 103 i ∧ S (2 + b) 105 i = U 0 104 i ∧ ∃ q, q ≤ 29 ∧ U 0 103 i = Int32.ofNat q
theorem Gk_100 (hb : b < 2) (h : Gk b m qf T S0 L0 V0 k dp A cc cS E M (M + 1) NR R' S L V P) (hx : S 4 203 0 = 0 → x = Int32.ofNat M ∧ M < 10) : Gk b m qf T S0 L0 V0 k dp A cc cS E (M + 1) (M + 1) NR R' (if x < 10 then su S (2 + b) 100 0 (x + 1) else S) L V P := by
  obtain ⟨g1, F, g3, g4, s1, s2, s3, s4⟩ := h
  have e : ∀ g v, ¬ (g = 2 + b ∧ v = 100) → (if x < 10 then su S (2 + b) 100 0 (x + 1) else S) g v = S g v := fun g v q => by
    split
    · funext i
      exact if_neg fun q2 => q ⟨q2.1, q2.2.1⟩
    · rfl
  refine ⟨?_, ⟨fun g v q => by rw [e g v (fun q2 => q (Or.inl ⟨q2.1, by omega⟩)), F.1 g v q], F.2⟩, g3, g4, ?_⟩
  · unfold cu B8 at g1 ⊢
    rw [e 4 200 (by omega), e 4 201 (by omega), e 4 202 (by omega), e 4 211 (by omega), e 4 212 (by omega), e (2 + b) 102 (by omega)]
    exact g1
  · unfold SE
    rw [e 4 203 (by omega), e 4 204 (by omega)]
    refine ⟨s1, s2, s3, fun q => ⟨(s4 q).1, ?_⟩⟩
    obtain ⟨hx1, hx2⟩ := hx (s2.trans q)
    obtain ⟨⟨c1, c2, c3, c4⟩, c5, c6, c7, c8⟩ := (s4 q).2
    have hlt : x < 10 := by rw [hx1]; exact (ofN_lt (m := 10) (by omega) (by omega)).mpr hx2
    unfold CO
    rw [e (2 + b) 101 (by omega), e (2 + b) 102 (by omega), e (2 + b) 103 (by omega), if_pos hlt, su_self, hx1, ofN_a1]
    exact ⟨⟨rfl, by omega, c3, c4⟩, c5, c6, c7, c8⟩
/-- a token in between -/
theorem acc_sim (H : bse b pl n m qf T S0 L0 V0) (h : Gk b m qf T S0 L0 V0 k dp A cc cS E M M' NR R' S L V P) {j : Nat} (hj : j ≤ 30) {jr : Int32} (hjr : toR (Int32.ofNat j) = jr) :
    (RC hc R 2 35 [.ref 317, .int (Int32.ofNat j)] S L 0 S L ∧ RR hcR C W pl RB 2 159 [.ref 395, .int jr] V P 0 V P) ∨
    (k < m ∧ Gk b m qf T S0 L0 V0 (k + 1) dp A cc cS E M M' NR R' (stS (k + 1) S) (stV (k + 1) L) (su V 4 203 0 (Int32.ofNat (k + 1))) P ∧ RC hc R 2 35 [.ref 317, .int (Int32.ofNat j)] S L 1 (stS (k + 1) S) (stV (k + 1) L) ∧ RR hcR C W pl RB 2 159 [.ref 395, .int jr] V P 1 (su V 4 203 0 (Int32.ofNat (k + 1))) P ∧
      (stS (k + 1) S 4 203 0 = 0 → S 4 203 0 = 0 ∧ (p2 (su V 4 203 0 (Int32.ofNat (k + 1))) T qf (k + 1)).2.2 = (p2 V T qf k).2.2)) := by
  have hm := H.2.2.2.2.2.2.1
  have km := h.1.1
  have u4 := h.1.2.2.2.2.2.1
  subst hjr
  by_cases h27 : S 4 211 k = Int32.ofNat j
  · obtain ⟨hk, n1, n2, n3, G1, t1⟩ := acc_G H h hj h27
    exact Or.inr ⟨hk, G1, fun d Q => k35 n3 (by omega) n2, fun d Q => r159 u4 (by omega) n1, t1⟩
  · obtain ⟨n1, n2⟩ := k_no H h hj h27
    exact Or.inl ⟨fun d Q => k35_no n2, fun d Q => r159_no u4 (by omega) n1⟩
theorem lamp_sim (H : bse b pl n m qf T S0 L0 V0) (h : Gk b m qf T S0 L0 V0 k dp A cc cS E M M NR NR S L V P) (h0 : S 4 211 k = Int32.ofNat 0) (l1 : Option Value) :
    (∃ S' L' V' P', Fk b m qf S0 L0 V0 S' L' V' ∧ RC hc R 4 22 [.ref 317] S L 0 S' L' ∧ (∀ (d : Nat) (Q : PO → Prop), Wp (d + 24) 162 0 [some (.ref 395), l1] [] (RP hcR C V W pl P RB) Q = Q (.inl (some (.int 0)), RP hcR C V' W pl P' RB))) ∨
    ∃ S' L' V', k + 7 ≤ m ∧ Gk b m qf T S0 L0 V0 (k + 7) dp A cc cS E (M + 1) (M + 1) NR NR S' L' V' P ∧ RC hc R 4 22 [.ref 317] S L 1 S' L' ∧ (∀ (d : Nat) (Q : PO → Prop), Wp (d + 24) 162 0 [some (.ref 395), l1] [] (RP hcR C V W pl P RB) Q = Wp (d + 24) 162 0 [some (.ref 395), l1] [] (RP hcR C V' W pl P RB) Q) ∧
      (S' 4 203 0 = 0 → S 4 203 0 = 0 ∧ (LMP b M S (p2 V T qf k).2.2 → LMP b (M + 1) S' (p2 V' T qf (k + 7)).2.2)) := by
  have hb := H.1
  have hm := H.2.2.2.2.2.2.1
  obtain ⟨hk, n1, n2, n3, G1, t1⟩ := acc_G H h (by decide) h0
  have u4 := h.1.2.2.2.2.2.1
  have e203 := G1.1.2.2.2.2.2.1
  have u5 := G1.1.2.2.1
  have qC := fun (d : Nat) (Q : PO → Prop) => c22_a (hc := hc) (R := R) (D := d + 2) (Q := Q) (L := L) n3 (by omega)
  have qR := fun (d : Nat) (Q : PO → Prop) => r162_l (hcR := hcR) (C := C) (W := W) (pl := pl) (P := P) (RB := RB) (D := d + 23) (Q := Q) (l1 := l1) (show k < 401 by omega) u4 n1
  by_cases h23 : stS (k + 1) S 4 211 (k + 1) = Int32.ofNat 23
  case neg =>
    obtain ⟨m1, m2⟩ := k_no H G1 (by decide) h23
    refine Or.inl ⟨stS (k + 1) S, stV (k + 1) L, su (su V 4 203 0 (Int32.ofNat (k + 1))) 4 214 (k + 1) 1, P, ⟨k + 1, G1.1.1, G1.1.2.2.2.1.trans (bse_t H G1.2.1 G1.1.1).2.2.1, by rw [su_ne (by decide)]; exact e203, fr3_V G1.2.1 (Or.inr (Or.inr rfl))⟩, fun d Q => (qC d Q).trans (c22_no m2), fun d Q => ?_⟩
    refine (qR d Q).trans ((r162_18 (r := 0) (RR_E (i := 3) (fun d Q => r161_no e203 (by omega) m1) (by omega)) (Or.inl rfl)).trans ?_)
    rw [if_pos rfl]
  obtain ⟨hk1, m1, m2, m3, -, -⟩ := acc_G H G1 (by decide) h23
  obtain ⟨G2, t2⟩ := lname_G H G1 h23
  have eN : nmS b (stS (k + 1) S) (stV (k + 1) L) (if stS (k + 1) S (2 + b) 100 0 < 10 then 0 else 1) 4 200 0 + 1 = Int32.ofNat (k + 1 + 1) := by
    rw [nm_8 hb (by omega)]; exact m3
  have qC2 := fun (d : Nat) (Q : PO → Prop) => c22_n (hc := hc) (R := R) (D := d) (Q := Q) (L := stV (k + 1) L) hb (bse_B H G1.2.1) m2 rfl eN (by omega)
  have qR2 := fun (d : Nat) (Q : PO → Prop) => (qR d Q).trans ((r162_18 (r := 1) (RR_E (n' := d + 24) (i := 3) (fun d Q => r161 e203 (by omega) m1) (by omega)) (Or.inr rfl)).trans (if_neg (by decide)))
  generalize hx : stS (k + 1) S (2 + b) 100 0 = x at G2 t2 eN qC2
  generalize eS2 : stS (k + 1 + 1) (nmS b (stS (k + 1) S) (stV (k + 1) L) (if x < 10 then 0 else 1)) = S2 at G2 t2 qC2
  generalize eL2 : stV (k + 1 + 1) (ptL (stV (k + 1) L) 4 3 10 x (stV (k + 1) L 4 0 0)) = L2 at G2 t2 qC2
  generalize eV2 : su (su (su V 4 203 0 (Int32.ofNat (k + 1))) 4 214 (k + 1) 1) 4 203 0 (Int32.ofNat (k + 1 + 1)) = V2 at G2 t2 qR2
  have qC3 := fun (d : Nat) (Q : PO → Prop) => (qC d Q).trans (qC2 d Q)
  rcases acc_sim (hc := hc) (hcR := hcR) (R := R) (RB := RB) (C := C) (W := W) H G2 (j := 1) (by decide) rfl with ⟨q1, q2⟩ | ⟨hk2, G3, q1, q2, t3⟩
  · refine Or.inl ⟨S2, L2, V2, P, Gk_F G2 H, fun d Q => (qC3 d Q).trans (c22_1 (RC_D q1 (by omega))), fun d Q => (qR2 d Q).trans ((r162_28 (r := 0) (RR_E q2 (by omega)) (Or.inl rfl)).trans (if_pos rfl))⟩
  have qR3 := fun (d : Nat) (Q : PO → Prop) => (qR2 d Q).trans ((r162_28 (r := 1) (RR_E (n' := d + 24) q2 (by omega)) (Or.inr rfl)).trans (if_neg (by decide)))
  rcases num_G (hc := hc) (hcR := hcR) (R := R) (RB := RB) (C := C) (W := W) (ρ := 3) (rr := 3) (vv := 103) (lo := 0) (hi := 29) (a := BA b + 1) (x := x) H G3 (Or.inl rfl) (Or.inl rfl) rfl (fun L S y d Q => b_posts_put hb) (fun V1 U q => e2_3 q) num_29 with ⟨f1, q3, q4⟩ | ⟨S4, V4, hk3, G4, q3, q4, t4⟩
  · exact Or.inl ⟨_, _, _, P, f1, fun d Q => (qC3 d Q).trans (c22_2 hb (bse_B H G3.2.1) (RC_D q1 (by omega)) (RC_D q3 (by omega))), fun d Q => (qR3 d Q).trans ((r162_36 (r := 0) (RR_E q4 (by omega)) (Or.inl rfl)).trans (if_pos rfl))⟩
  have qC4 := fun (d : Nat) (Q : PO → Prop) => (qC3 d Q).trans (c22_3 hb (bse_B H G3.2.1) (RC_D (n' := d + 3) q1 (by omega)) (RC_D q3 (by omega)))
  have qR4 := fun (d : Nat) (Q : PO → Prop) => (qR3 d Q).trans ((r162_36 (r := 1) (RR_E (n' := d + 24) q4 (by omega)) (Or.inr rfl)).trans (if_neg (by decide)))
  rcases acc_sim (hc := hc) (hcR := hcR) (R := R) (RB := RB) (C := C) (W := W) H G4 (j := 2) (by decide) rfl with ⟨q5, q6⟩ | ⟨hk4, G5, q5, q6, t5⟩
  · exact Or.inl ⟨_, _, _, P, Gk_F G4 H, fun d Q => (qC4 d Q).trans (c22_4 (RC_D q5 (by omega))), fun d Q => (qR4 d Q).trans ((r162_46 (r := 0) (RR_E q6 (by omega)) (Or.inl rfl)).trans (if_pos rfl))⟩
  have qR5 := fun (d : Nat) (Q : PO → Prop) => (qR4 d Q).trans ((r162_46 (r := 1) (RR_E (n' := d + 24) q6 (by omega)) (Or.inr rfl)).trans (if_neg (by decide)))
  rcases num_G (hc := hc) (hcR := hcR) (R := R) (RB := RB) (C := C) (W := W) (ρ := 4) (rr := 4) (vv := 104) (lo := 1) (hi := 30) (a := BA b + 2) (x := x) H G5 (Or.inr rfl) (Or.inr rfl) rfl (fun L S y d Q => b_rooms_put hb) (fun V1 U q => e2_4 q) num_30 with ⟨f1, q7, q8⟩ | ⟨S6, V6, hk5, G6, q7, q8, t6⟩
  · exact Or.inl ⟨_, _, _, P, f1, fun d Q => (qC4 d Q).trans (c22_5 hb (bse_B H G5.2.1) (RC_D q5 (by omega)) (RC_D q7 (by omega))), fun d Q => (qR5 d Q).trans ((r162_54 (r := 0) (RR_E q8 (by omega)) (Or.inl rfl)).trans (if_pos rfl))⟩
  have qC6 := fun (d : Nat) (Q : PO → Prop) => (qC4 d Q).trans (c22_6 hb (bse_B H G5.2.1) (RC_D (n' := d + 3) q5 (by omega)) (RC_D q7 (by omega)))
  have qR6 := fun (d : Nat) (Q : PO → Prop) => (qR5 d Q).trans ((r162_54 (r := 1) (RR_E (n' := d + 24) q8 (by omega)) (Or.inr rfl)).trans (if_neg (by decide)))
  have back : S6 4 203 0 = 0 → S 4 203 0 = 0 ∧ M < 10 ∧ x = Int32.ofNat M ∧ (LMP b M S (p2 V T qf k).2.2 → LMP b (M + 1) S6 (p2 V6 T qf (k + 1 + 1 + 1 + 1 + 1 + 1)).2.2) := fun q0 => by
    obtain ⟨a1, v2, hv2, o2, b2, c2⟩ := t6 q0
    obtain ⟨a3, b3⟩ := t5 a1
    obtain ⟨a4, v1, hv1, o1, b4, c4⟩ := t4 a3
    obtain ⟨a5, b5⟩ := t3 a4
    obtain ⟨a6, hM, a7, a8, a9⟩ := t2 a5
    obtain ⟨a10, a11⟩ := t1 a6
    refine ⟨a10, hM, a7, fun hL i hi => ?_⟩
    have eU : (p2 V6 T qf (k + 1 + 1 + 1 + 1 + 1 + 1)).2.2 = su (su (su (p2 V T qf k).2.2 0 100 0 (Int32.ofNat (M + 1))) 0 103 M (Int32.ofNat v1)) 0 104 M (Int32.ofNat v2) := by rw [c2, b3, c4, b5, a9, a11]
    have f4 : ∀ i, S6 (2 + b) 104 i = if i = M then Int32.ofNat v1 else S (2 + b) 104 i := fun i => by
      rw [b2, st_ne (by omega), pt_vne (by omega), st_ne (by omega), b4, st_ne (by omega), a7]
      by_cases e : i = M
      · rw [if_pos e, e, pt_self hM (by omega)]
      · rw [if_neg e, pt_off e (by omega), st_ne (by omega), ← eS2, st_ne (by omega), nm_8 hb (by omega), st_ne (by omega)]
    have f5 : ∀ i, S6 (2 + b) 105 i = if i = M then Int32.ofNat v2 else S (2 + b) 105 i := fun i => by
      rw [b2, st_ne (by omega), a7]
      by_cases e : i = M
      · rw [if_pos e, e, pt_self hM (by omega)]
      · rw [if_neg e, pt_off e (by omega), st_ne (by omega), b4, st_ne (by omega), pt_vne (by omega), st_ne (by omega), ← eS2, st_ne (by omega), nm_8 hb (by omega), st_ne (by omega)]
    rw [eU, f4, f5]
    by_cases e : i = M
    · rw [if_pos e, if_pos e, e, su_ne (by decide), su_self, su_self]
      exact ⟨rfl, rfl, v1, ok_29 v1 hv1 o1, rfl⟩
    · obtain ⟨h1, h2, h3⟩ := hL i (by omega)
      rw [if_neg e, if_neg e, su_ne (v := 104) (by decide), su_off e, su_ne (v := 100) (by decide), su_off e, su_ne (v := 103) (by decide), su_ne (v := 100) (by decide)]
      exact ⟨h1, h2, h3⟩
  have G7 := Gk_100 (x := x) hb G6 (fun q0 => ⟨(back q0).2.2.1, (back q0).2.1⟩)
  have eN7 : ∀ g v, ¬ (g = 2 + b ∧ v = 100) → (if x < 10 then su S6 (2 + b) 100 0 (x + 1) else S6) g v = S6 g v := fun g v q => by
    split
    · funext i
      exact if_neg fun q2 => q ⟨q2.1, q2.2.1⟩
    · rfl
  rcases semi_sim (hc := hc) (hcR := hcR) (R := R) (RB := RB) (C := C) (W := W) H G7 with ⟨q9, q10⟩ | ⟨hk6, G8, q9, q10, t8⟩
  · exact Or.inl ⟨_, _, _, P, Gk_F G7 H, fun d Q => (qC6 d Q).trans (c22_7 hb (bse_B H G6.2.1) (RC_D q9 (by omega)) (Or.inl rfl)), fun d Q => (qR6 d Q).trans ((r162_64 (r := 0) (RR_E q10 (by omega)) (Or.inl rfl)).trans (if_pos rfl))⟩
  · refine Or.inr ⟨_, _, _, by omega, G8, fun d Q => (qC6 d Q).trans (c22_7 hb (bse_B H G6.2.1) (RC_D q9 (by omega)) (Or.inr rfl)), fun d Q => (qR6 d Q).trans ((r162_64 (r := 1) (RR_E q10 (by omega)) (Or.inr rfl)).trans (if_neg (by decide))), fun q0 => ?_⟩
    obtain ⟨a1, a2⟩ := t8 q0
    rw [eN7 4 203 (by omega)] at a1
    obtain ⟨b1, -, -, b4⟩ := back a1
    refine ⟨b1, fun hL i hi => ?_⟩
    have := b4 hL i hi
    rw [show (k + 7) = k + 1 + 1 + 1 + 1 + 1 + 1 + 1 from rfl, a2, st_ne (by omega), st_ne (by omega), eN7 (2 + b) 104 (by omega), eN7 (2 + b) 105 (by omega)]
    exact this
end LMPW
