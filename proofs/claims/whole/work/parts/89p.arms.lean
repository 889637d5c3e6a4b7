/-! THE GRAMMAR IN LOCKSTEP: acts without blocks, in both -/
section ARMT
variable {b pl n m k c a j A A' cc cS cc' cS' E E' M M' NR R' dp DC DR : Nat} {rk rk' : Nat → Nat} {qf lf : Nat → Nat} {T : Nat → Int32} {S S' S0 S1 V V' V0 V1 P P' P1 U U' : S3} {L L' L0 L1 : L3} {x y z : Int32} {hc hcR : Nat × Nat × Nat} {R RB C : Nat → Option PC} {W : L3}
/-- an act behind its head comes to its end in both, or is stuck in both -/
def ARMr (hc hcR : Nat × Nat × Nat) (R RB C : Nat → Option PC) (W : L3) (pl b m : Nat) (qf : Nat → Nat) (T : Nat → Int32) (S0 : S3) (L0 : L3) (V0 : S3) (M NR dp DC DR j A k c E : Nat) (rk : Nat → Nat) (x : Int32) (S : S3) (L : L3) (V P : S3) : Prop :=
  (∃ S' L' V' P', Fk b m qf S0 L0 V0 S' L' V' ∧ (∀ (d : Nat) (Q : PO → Prop), Wp (d + DC) 26 (arm j) [some (.ref 317), some (.int x), some (.int (Int32.ofNat dp)), some (.int (Int32.ofNat j))] [] (CH hc S L R) Q = Q (.inl (some (.int 0)), CH hc S' L' R)) ∧
    (∀ (d : Nat) (Q : PO → Prop), Wp (d + DR) 164 96 [some (.ref 395), some (.int (Int32.ofNat A)), some (.int (Int32.ofNat j)), none] [] (RP hcR C V W pl P RB) Q = Q (.inl (some (.int 0)), RP hcR C V' W pl P' RB))) ∨
  ∃ (k' A' c' E' : Nat) (rk' : Nat → Nat) (S' : S3) (L' : L3) (V' P' : S3), k ≤ k' ∧ A + 1 ≤ A' ∧ c ≤ c' ∧ E ≤ E' ∧ 4 * c' ≤ k' ∧ Gk b m qf T S0 L0 V0 k' (dp + 1) A' c' c' E' M M NR (NR + 1) S' L' V' P' ∧
    (∀ (d : Nat) (Q : PO → Prop), Wp (d + DC) 26 (arm j) [some (.ref 317), some (.int x), some (.int (Int32.ofNat dp)), some (.int (Int32.ofNat j))] [] (CH hc S L R) Q = Q (.inl (some (.int 1)), CH hc S' L' R)) ∧
    (∀ (d : Nat) (Q : PO → Prop), Wp (d + DR) 164 96 [some (.ref 395), some (.int (Int32.ofNat A)), some (.int (Int32.ofNat j)), none] [] (RP hcR C V W pl P RB) Q = Q (.inl (some (.int 1)), RP hcR C V' W pl P' RB)) ∧
    (S' 4 203 0 = 0 → S 4 203 0 = 0 ∧ (x = Int32.ofNat A → A < 80 → hd5 b A j S P → rk A = 6 * NR + 5 - dp → ctB b M NR A A' c c' E E' rk rk' S L P (p2 V T qf k).2.2 S' L' P' (p2 V' T qf k').2.2 ∧ rk' A = rk A))
theorem arm_d (H : bse b pl n m qf T S0 L0 V0) (h : Gk b m qf T S0 L0 V0 k (dp + 1) (A + 1) c c E M M NR (NR + 1) S L V P) (h4 : 4 * c ≤ k) (hj : 4 ≤ j ∧ j ≤ 6) (hDC : 2 ≤ DC) (hDR : 3 ≤ DR) : ARMr hc hcR R RB C W pl b m qf T S0 L0 V0 M NR dp DC DR j A k c E rk x S L V P := by
  have ea : arm j = 242 := by unfold arm; rw [if_pos hj.2]
  unfold ARMr
  rw [ea]
  rcases semi_sim (hc := hc) (hcR := hcR) (R := R) (RB := RB) (C := C) (W := W) H h with ⟨q1, q2⟩ | ⟨hk, G1, q1, q2, w⟩
  · exact Or.inl ⟨S, L, V, P, Gk_F h H, fun d Q => c26_242 (RC_D q1 (by omega)) (Or.inl rfl), fun d Q => r164_d hj (RR_E q2 (by omega)) (Or.inl rfl)⟩
  · refine Or.inr ⟨k + 1, A + 1, c, E, rk, _, _, _, P, by omega, Nat.le_refl _, Nat.le_refl _, Nat.le_refl _, by omega, G1, fun d Q => c26_242 (RC_D q1 (by omega)) (Or.inr rfl), fun d Q => r164_d hj (RR_E q2 (by omega)) (Or.inr rfl), fun q0 => ?_⟩
    obtain ⟨w1, w2⟩ := w q0
    have h5 := NR_5 h w1
    refine ⟨w1, fun _ _ g3 g4 => ⟨act_fin (lowS_st H.1) lowP_refl (by rw [w2]; exact lowU_refl) (hd5_eq g3 (fun v hv => by rw [st_ne (by omega)]) (fun _ _ => rfl)) hj.1 (by omega) (by omega) (by omega) (by omega) (by omega), rfl⟩⟩
theorem valP_low : lowP A c E P (valP A z P) := by
  have h1 : lowP A c E P (su P 0 112 A z) := lowP_su (by omega) (by omega) (by omega) (by decide)
  have h2 : ∀ {P : S3} {x : Int32}, lowP A c E P (su P 0 114 A x) := fun {P x} => lowP_su (by omega) (by omega) (by omega) (by decide)
  exact lowP_tr h1 h2 (Nat.le_refl _) (Nat.le_refl _) (Nat.le_refl _)
theorem valP_G (h : Gk b m qf T S0 L0 V0 k dp A cc cS E M M' NR R' S L V P) : Gk b m qf T S0 L0 V0 k dp A cc cS E M M' NR R' S L V (valP a z P) := Gk_P (Gk_P h (by decide) (by decide) (by decide) (by decide) (by omega)) (by decide) (by decide) (by decide) (by decide) (by omega)
theorem arm_v (H : bse b pl n m qf T S0 L0 V0) (h : Gk b m qf T S0 L0 V0 k (dp + 1) (A + 1) c c E M M NR (NR + 1) S L V P) (h4 : 4 * c ≤ k) (hA : A < 400) (hj : 7 ≤ j ∧ j ≤ 9) (hDC : 2 ≤ DC) (hDR : 4 ≤ DR) : ARMr hc hcR R RB C W pl b m qf T S0 L0 V0 M NR dp DC DR j A k c E rk x S L V P := by
  have hb := H.1
  have hB := bse_B H h.2.1
  have u4 := h.1.2.2.2.2.2.1
  have ea : arm j = 52 := by unfold arm; rw [if_neg (by omega), if_pos hj.2]
  have hj4 : j = 7 ∨ j = 8 ∨ j = 9 ∨ j = 12 := by omega
  unfold ARMr
  rw [ea]
  rcases val_sim (hc := hc) (hcR := hcR) (R := R) (RB := RB) (C := C) (W := W) (a := BA b + 5) (v := 108) (nn := 80) (x := x) H h (by decide) (fun L S y d Q => b_values_put hb) with ⟨q1, q2⟩ | ⟨S1, V1, hk1, G2, q1, q2, z1, w1⟩
  · exact Or.inl ⟨S, L, V, P, Gk_F h H, fun d Q => c26_52_0 hb hB (RC_D q1 (by omega)), fun d Q => r164_v0 hj4 u4 (RR_E q2 (by omega))⟩
  · have hP1 := bse_P H G2.2.1
    have qv : ∀ D, 3 ≤ D → RE hcR C W pl RB D 169 [.ref 395, .int (Int32.ofNat k)] V1 P (zv V0 T qf k) V1 P := fun D hD => RR_E (val_at H G2.2.1 hk1) hD
    have G3 := valP_G (a := A) (z := zv V0 T qf k) G2
    rcases semi_sim (hc := hc) (hcR := hcR) (R := R) (RB := RB) (C := C) (W := W) H G3 with ⟨q3, q4⟩ | ⟨hk, G4, q3, q4, w⟩
    · refine Or.inl ⟨_, _, V1, valP A (zv V0 T qf k) P, Gk_F G2 H, fun d Q => c26_52_1 hb hB (RC_D q1 (by omega)) (RC_D q3 (by omega)) (Or.inl rfl), fun d Q => ?_⟩
      exact r164_v1 H.2.1 hP1 hA hj4 u4 (RR_E q2 (by omega)) (qv _ (by omega)) (by rw [if_neg (by omega), if_neg (by omega)]; exact RR_E q4 (by omega)) (Or.inl rfl)
    · refine Or.inr ⟨k + 1 + 1, A + 1, c, E, rk, _, _, _, valP A (zv V0 T qf k) P, by omega, Nat.le_refl _, Nat.le_refl _, Nat.le_refl _, by omega, G4, fun d Q => c26_52_1 hb hB (RC_D q1 (by omega)) (RC_D q3 (by omega)) (Or.inr rfl), fun d Q => ?_, fun q0 => ?_⟩
      · exact r164_v1 H.2.1 hP1 hA hj4 u4 (RR_E q2 (by omega)) (qv _ (by omega)) (by rw [if_neg (by omega), if_neg (by omega)]; exact RR_E q4 (by omega)) (Or.inr rfl)
      · obtain ⟨a1, a2⟩ := w q0
        obtain ⟨b1, b2, b3⟩ := w1 a1
        have h5 := NR_5 h b1
        refine ⟨b1, fun g1 g2 g3 g4 => ⟨?_, rfl⟩⟩
        subst g1
        have l1 : lowS b A c S L S1 (stV (k + 1) L) := by rw [b3]; exact lowS_tr (lowS_pt (v := 108) (by decide) (fun _ => Nat.le_refl _) (by omega) (by omega)) (lowS_st hb) (Nat.le_refl _) (Nat.le_refl _)
        refine act_fin (lowS_tr l1 (lowS_st hb) (Nat.le_refl _) (Nat.le_refl _)) valP_low (by rw [a2, b2]; exact lowU_refl) (hd5_eq g3 (fun v hv => ?_) (fun v hv => ?_)) (by omega) (by omega) (by omega) (fun _ => ⟨?_, ?_⟩) (by omega) (by omega)
        · rw [b3, st_ne (by omega), st_ne (by omega), pt_vne (by omega)]
        · unfold valP
          rw [su_ne (by omega), su_ne (by omega)]
        · unfold valP
          rw [su_ne (by decide), su_self]
          exact z1
        · unfold valP
          rw [su_ne (by decide), su_self, b3, st_ne (by omega), st_ne (by omega), pt_self g2 (by omega)]
theorem arm_10 (H : bse b pl n m qf T S0 L0 V0) (h : Gk b m qf T S0 L0 V0 k (dp + 1) (A + 1) c c E M M NR (NR + 1) S L V P) (h4 : 4 * c ≤ k) (hA : A < 400) (h110 : P 0 110 A = 10) (hDC : 3 ≤ DC) (hDR : 4 ≤ DR) : ARMr hc hcR R RB C W pl b m qf T S0 L0 V0 M NR dp DC DR 10 A k c E rk x S L V P := by
  have hb := H.1
  have hB := bse_B H h.2.1
  have ea : arm 10 = 82 := rfl
  unfold ARMr
  rw [ea]
  rcases go_sim (hc := hc) (hcR := hcR) (R := R) (RB := RB) (C := C) (W := W) H h hA h110 x with ⟨V1, P1, f1, q1, q2⟩ | ⟨S1, V1, w, hk1, G2, q1, q2, w1⟩
  · exact Or.inl ⟨S, L, V1, P1, f1, fun d Q => c26_82_0 hb hB (RC_D q1 (by omega)), fun d Q => r164_t0 (Or.inl rfl) (RR_E q2 (by omega))⟩
  · rcases semi_sim (hc := hc) (hcR := hcR) (R := R) (RB := RB) (C := C) (W := W) H G2 with ⟨q3, q4⟩ | ⟨hk, G4, q3, q4, w2⟩
    · exact Or.inl ⟨S1, _, V1, _, Gk_F G2 H, fun d Q => c26_82_1 hb hB (RC_D q1 (by omega)) (RC_D q3 (by omega)) (Or.inl rfl), fun d Q => r164_t1 (Or.inl rfl) (RR_E q2 (by omega)) (RR_E q4 (by omega)) (Or.inl rfl)⟩
    · refine Or.inr ⟨k + 1 + 1, A + 1, c, E, rk, _, _, _, su P 0 113 A (Int32.ofNat k), by omega, Nat.le_refl _, Nat.le_refl _, Nat.le_refl _, by omega, G4, fun d Q => c26_82_1 hb hB (RC_D q1 (by omega)) (RC_D q3 (by omega)) (Or.inr rfl), fun d Q => r164_t1 (Or.inl rfl) (RR_E q2 (by omega)) (RR_E q4 (by omega)) (Or.inr rfl), fun q0 => ?_⟩
      obtain ⟨a1, a2⟩ := w2 q0
      obtain ⟨b1, b2, b3, t, b4, b5⟩ := w1 a1
      have h5 := NR_5 h b1
      refine ⟨b1, fun g1 g2 g3 g4 => ⟨?_, rfl⟩⟩
      subst g1
      have l1 : lowS b A c S L S1 (stV (k + 1) L) := by rw [b2]; exact lowS_tr (lowS_pt (v := 108) (by decide) (fun _ => Nat.le_refl _) (by omega) (by omega)) (lowS_st hb) (Nat.le_refl _) (Nat.le_refl _)
      refine act_fin (lowS_tr l1 (lowS_st hb) (Nat.le_refl _) (Nat.le_refl _)) (lowP_su (by omega) (by omega) (by omega) (by decide)) (by rw [a2, b3]; exact ⟨fun i hi => by rw [su_off (by omega)], fun v hv => by rw [su_vne (by omega)]⟩) (hd5_eq g3 (fun v hv => ?_) (fun v hv => ?_)) (by decide) (by decide) (by omega) (by omega) (fun _ => ⟨t, b4, ?_, ?_⟩) (by omega)
      · rw [b2, st_ne (by omega), st_ne (by omega), pt_vne (by omega)]
      · rw [su_ne (by omega)]
      · rw [a2, b3, su_self, b5]
      · rw [b2, st_ne (by omega), st_ne (by omega), pt_self g2 (by omega), b5]
theorem arm_11 (H : bse b pl n m qf T S0 L0 V0) (h : Gk b m qf T S0 L0 V0 k (dp + 1) (A + 1) c c E M M NR (NR + 1) S L V P) (h4 : 4 * c ≤ k) (hA : A < 400) (h110 : P 0 110 A = 11) (hdp : dp < 6) (hDC : 3 ≤ DC) (hDR : 4 ≤ DR) : ARMr hc hcR R RB C W pl b m qf T S0 L0 V0 M NR dp DC DR 11 A k c E rk x S L V P := by
  have hb := H.1
  have hB := bse_B H h.2.1
  have ea : arm 11 = 116 := rfl
  unfold ARMr
  rw [ea]
  rcases walk_sim (hc := hc) (hcR := hcR) (R := R) (RB := RB) (C := C) (W := W) H h hA h110 x with ⟨V1, P1, f1, q1, q2⟩ | ⟨S1, V1, w, hk1, G2, q1, q2, w1⟩
  · exact Or.inl ⟨S, L, V1, P1, f1, fun d Q => c26_116_0 hb hB (RC_D q1 (by omega)), fun d Q => r164_t0 (Or.inr rfl) (RR_E q2 (by omega))⟩
  · rcases semi_sim (hc := hc) (hcR := hcR) (R := R) (RB := RB) (C := C) (W := W) H G2 with ⟨q3, q4⟩ | ⟨hk, G4, q3, q4, w2⟩
    · exact Or.inl ⟨S1, _, V1, _, Gk_F G2 H, fun d Q => c26_116_1 hb hB (RC_D q1 (by omega)) (RC_D q3 (by omega)) (Or.inl rfl), fun d Q => r164_t1 (Or.inr rfl) (RR_E q2 (by omega)) (RR_E q4 (by omega)) (Or.inl rfl)⟩
    · refine Or.inr ⟨k + 1 + 1, A + 1, c, E, rk, _, _, _, su P 0 113 A (Int32.ofNat k), by omega, Nat.le_refl _, Nat.le_refl _, Nat.le_refl _, by omega, G4, fun d Q => c26_116_1 hb hB (RC_D q1 (by omega)) (RC_D q3 (by omega)) (Or.inr rfl), fun d Q => r164_t1 (Or.inr rfl) (RR_E q2 (by omega)) (RR_E q4 (by omega)) (Or.inr rfl), fun q0 => ?_⟩
      obtain ⟨a1, a2⟩ := w2 q0
      obtain ⟨b1, b2, b3, t, b4, b5⟩ := w1 a1
      have h5 := NR_5 h b1
      refine ⟨b1, fun g1 g2 g3 g4 => ⟨?_, rfl⟩⟩
      subst g1
      have l1 : lowS b A c S L S1 (stV (k + 1) L) := by rw [b2]; exact lowS_tr (lowS_pt (v := 108) (by decide) (fun _ => Nat.le_refl _) (by omega) (by omega)) (lowS_st hb) (Nat.le_refl _) (Nat.le_refl _)
      refine act_fin (lowS_tr l1 (lowS_st hb) (Nat.le_refl _) (Nat.le_refl _)) (lowP_su (by omega) (by omega) (by omega) (by decide)) (by rw [a2, b3]; exact ⟨fun i hi => by rw [su_off (by omega)], fun v hv => by rw [su_vne (by omega)]⟩) (hd5_eq g3 (fun v hv => ?_) (fun v hv => ?_)) (by decide) (by decide) (by omega) (by omega) (by omega) (fun _ => ⟨t, b4, ?_, ?_, by omega⟩)
      · rw [b2, st_ne (by omega), st_ne (by omega), pt_vne (by omega)]
      · rw [su_ne (by omega)]
      · rw [a2, b3, su_self, b5]
      · rw [b2, st_ne (by omega), st_ne (by omega), pt_self g2 (by omega), b5]
end ARMT
