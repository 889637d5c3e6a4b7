/-! THE GRAMMAR IN LOCKSTEP: acts without blocks -/
section ARMS
variable {b pl n m k c a j A A' cc cS cc' cS' E E' M M' NR R' dp D1 D2 : Nat} {rk rk' : Nat → Nat} {qf lf : Nat → Nat} {T : Nat → Int32} {S S' S0 S1 V V' V0 V1 P P' P1 U U' : S3} {L L' L0 L1 : L3} {x y z : Int32} {hc hcR : Nat × Nat × Nat} {R RB C : Nat → Option PC} {W : L3}
theorem c27' {v : Int32} {F : S3 → Int32 → S3} (hD : D2 = D1 + 1) (h1 : 1 ≤ D1) (q : RD hc R D1 24 [.ref 317, .int (y + 1)] S L v S1 L1) (hp : putF hc L1 R a x F) : RD hc R D2 27 [.ref 317, .ref a, .int x, .int y] S L (if v = -2 then 0 else 1) (F S1 v) L1 := by
  obtain ⟨D, rfl⟩ : ∃ D, D1 = D + 1 := ⟨D1 - 1, by omega⟩
  subst hD
  exact c27 q hp
/-- a semicolon -/
theorem semi_sim (H : bse b pl n m qf T S0 L0 V0) (h : Gk b m qf T S0 L0 V0 k dp A cc cS E M M' NR R' S L V P) :
    (RC hc R 2 35 [.ref 317, .int 27] S L 0 S L ∧ RR hcR C W pl RB 3 160 [.ref 395, .int 59] V P 0 V P) ∨
    (k < m ∧ Gk b m qf T S0 L0 V0 (k + 1) dp A cc cS E M M' NR R' (stS (k + 1) S) (stV (k + 1) L) (su V 4 203 0 (Int32.ofNat (k + 1))) P ∧ RC hc R 2 35 [.ref 317, .int 27] S L 1 (stS (k + 1) S) (stV (k + 1) L) ∧ RR hcR C W pl RB 3 160 [.ref 395, .int 59] V P 1 (su V 4 203 0 (Int32.ofNat (k + 1))) P ∧
      (stS (k + 1) S 4 203 0 = 0 → S 4 203 0 = 0 ∧ (p2 (su V 4 203 0 (Int32.ofNat (k + 1))) T qf (k + 1)).2.2 = (p2 V T qf k).2.2)) := by
  have hm := H.2.2.2.2.2.2.1
  have km := h.1.1
  have u4 := h.1.2.2.2.2.2.1
  by_cases h27 : S 4 211 k = Int32.ofNat 27
  · obtain ⟨hk, n1, n2, n3, G1, t1⟩ := acc_G H h (by decide) h27
    exact Or.inr ⟨hk, G1, fun d Q => k35 n3 (by omega) n2, fun d Q => r160 u4 (by omega) n1, t1⟩
  · obtain ⟨n1, n2⟩ := k_no H h (by decide) h27
    exact Or.inl ⟨fun d Q => k35_no n2, fun d Q => r160_no u4 (by omega) n1⟩
/-- what an act's head leaves -/
def hd5 (b A j : Nat) (S P : S3) : Prop := S (2 + b) 107 A = Int32.ofNat j ∧ S (2 + b) 109 A = -1 ∧ S (2 + b) 111 A = -1 ∧ P 0 110 A = Int32.ofNat j ∧ P 0 111 A = -1 ∧ P 0 115 A = -1
theorem hd5_eq (h : hd5 b A j S P) (hS : ∀ v, v = 107 ∨ v = 109 ∨ v = 111 → S' (2 + b) v A = S (2 + b) v A) (hP : ∀ v, v = 110 ∨ v = 111 ∨ v = 115 → P' 0 v A = P 0 v A) : hd5 b A j S' P' := by
  unfold hd5
  rw [hS 107 (Or.inl rfl), hS 109 (Or.inr (Or.inl rfl)), hS 111 (Or.inr (Or.inr rfl)), hP 110 (Or.inl rfl), hP 111 (Or.inr (Or.inl rfl)), hP 115 (Or.inr (Or.inr rfl))]
  exact h
theorem act_head (H : bse b pl n m qf T S0 L0 V0) (h : Gk b m qf T S0 L0 V0 k dp A c c E M M' NR R' S L V P) (ej : S 4 211 k = Int32.ofNat j) (h1 : 4 ≤ j) (h2 : j ≤ 13) (y : Int32) :
    ∃ x S1 S2 L2 V2 P1, k < m ∧ A < 400 ∧ (x = -1 ∨ ∃ a, a < 80 ∧ x = Int32.ofNat a) ∧ RC hc R 2 25 [.ref 317] S L x S1 L ∧ (∀ (D : Nat) (Q : PO → Prop), Cp (D + 2) 26 [.ref 317, .int x, .int y] (CH hc S1 L R) Q = Wp (D + 1) 26 (arm j) [some (.ref 317), some (.int x), some (.int y), some (.int (Int32.ofNat j))] [] (CH hc S2 L2 R) Q) ∧
      (∀ (D : Nat) (Q : PO → Prop), Cp (D + 1) 164 [.ref 395, .int (Int32.ofNat A)] (RP hcR C V W pl P RB) Q = Wp D 164 96 [some (.ref 395), some (.int (Int32.ofNat A)), some (.int (Int32.ofNat j)), none] [] (RP hcR C V2 W pl P1 RB) Q) ∧
      Gk b m qf T S0 L0 V0 (k + 1) dp (A + 1) c c E M M' NR R' S2 L2 V2 P1 ∧ P1 0 110 A = Int32.ofNat j ∧
      (S2 4 203 0 = 0 → S 4 203 0 = 0 ∧ A < 80 ∧ x = Int32.ofNat A ∧ lowS b A c S L S2 L2 ∧ lowP A c E P P1 ∧ lowU A (p2 V T qf k).2.2 (p2 V2 T qf (k + 1)).2.2 ∧ hd5 b A j S2 P1) := by
  have hb := H.1
  have hm := H.2.2.2.2.2.2.1
  obtain ⟨g1, F, g3, g4, g5⟩ := id h
  obtain ⟨x, S1, hk, hA4, hx8, q25, e201, e200, G1, w1⟩ := head_sim (hc := hc) (R := R) H h ej h1 h2
  refine ⟨x, S1, _, _, _, _, hk, hA4, hx8, q25, fun D Q => c26_h h1 h2 e201 e200 (by omega), fun D Q => ?_, G1, ?_, fun q0 => ?_⟩
  · have e3 : V 4 211 k = Int32.ofNat j := by
      rw [bse_eq H F g1.1 ej]
      exact toR_j j (by omega)
    exact r164_h H.2.1 (bse_P H F) hA4 (by omega) g1.2.2.2.2.2.1 g4.1.1 e3 h1 h2
  · unfold actP
    rw [su_ne (by decide), su_ne (by decide), su_ne (by decide), su_self]
  · obtain ⟨t1, t2, t3, t4, t5, t6⟩ := w1 q0
    have r := aa_row t5 t2
    refine ⟨t1, t2, t3, ?_, actP_low, ?_, ?_⟩
    · rw [t4]
      exact lowS_tr (aa_low hb t5 t2) (lowS_st hb) (Nat.le_refl _) (Nat.le_refl _)
    · rw [t6]
      exact ⟨fun i _ => by rw [su_vne (by decide)], fun v hv => by rw [su_vne (by omega)]⟩
    · unfold hd5
      rw [t4, st_ne (by omega), st_ne (by omega), st_ne (by omega), r.1, r.2.1, r.2.2]
      refine ⟨(t4 ▸ e201 : aaS b S 4 201 0 = Int32.ofNat j) ▸ (by rw [aa_4 hb]), rfl, rfl, ?_, ?_, ?_⟩
      · unfold actP
        rw [su_ne (by decide), su_ne (by decide), su_ne (by decide), su_self]
      · unfold actP
        rw [su_ne (by decide), su_ne (by decide), su_self]
      · unfold actP
        rw [su_self]
/-- what an act adds -/
def ctB (b M NR A A' c c' E E' : Nat) (rk rk' : Nat → Nat) (S : S3) (L : L3) (P U S' : S3) (L' : L3) (P' U' : S3) : Prop := lowS b A c S L S' L' ∧ lowP A c E P P' ∧ lowU A U U' ∧ (∀ a, a < A → rk' a = rk a) ∧ ∀ a, A ≤ a → a < A' → acT b M NR A' E E' c' rk' S' P' U' a
/-- an act without a block, at its end -/
theorem act_fin (h1 : lowS b A c S L S' L') (h2 : lowP A c E P P') (h3 : lowU A U U') (h5 : hd5 b A j S' P') (hj1 : 4 ≤ j) (hj2 : j ≤ 11) (hrk : rk A ≤ 35)
    (hv : j = 7 ∨ j = 8 ∨ j = 9 → okc (P' 0 112 A) ∧ S' (2 + b) 108 A = cv (P' 0 112 A)) (hg : j = 10 → ∃ t, t < M ∧ U' 0 113 A = Int32.ofNat t ∧ S' (2 + b) 108 A = Int32.ofNat t) (hw : j = 11 → ∃ r, r < NR ∧ U' 0 113 A = Int32.ofNat r ∧ S' (2 + b) 108 A = Int32.ofNat r ∧ 6 * r + 5 < rk A) : ctB b M NR A (A + 1) c c E E rk rk S L P U S' L' P' U' := by
  refine ⟨h1, h2, h3, fun _ _ => rfl, fun a q1 q2 => ?_⟩
  have e : a = A := by omega
  subst e
  obtain ⟨f1, f2, f3, f4, f5, f6⟩ := h5
  exact ⟨j, f4, f1, hj1, by omega, ⟨f2.trans f5.symm, Or.inl f5⟩, fun q => hv (by omega), hg, hw, fun q => absurd q (by omega), fun q => absurd q (by omega), hrk⟩
theorem NR_5 (h : Gk b m qf T S0 L0 V0 k dp A cc cS E M M' NR (NR + 1) S L V P) (h0 : S 4 203 0 = 0) : NR ≤ 5 := by
  have := (Gk_cnt h h0).2.1.2.2.2
  omega
end ARMS
