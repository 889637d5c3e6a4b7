/-! THE GRAMMAR IN LOCKSTEP: rounds, a book -/
section BOOKX
variable {b pl n m k c a i j A A' cc cS cc' cS' E E' M M' NR R' dp nn D : Nat} {rk rk' : Nat → Nat} {qf lf : Nat → Nat} {T : Nat → Int32} {S S' S0 S1 V V' V0 V1 P P' P1 U U' : S3} {L L' L0 L1 : L3} {x y z w lo hi ρ r : Int32} {hc hcR : Nat × Nat × Nat} {R RB C : Nat → Option PC} {W : L3} {l1 l2 l3 : Option Value} {Q : PO → Prop}
theorem acT_hi {lo hi : Nat} (h : acT b M NR A lo hi c rk S P U a) (hS : ∀ v, 107 ≤ v → S' (2 + b) v = S (2 + b) v) (hN : NR ≤ R') : acT b M R' A lo hi c rk S' P U a := by
  obtain ⟨w, a1, a2, a3, a4, a5, a7, a8, a9, a10, a11, a12⟩ := h
  refine ⟨w, ?_⟩
  rw [hS 107 (by decide), hS 109 (by decide), hS 108 (by decide), hS 110 (by decide), hS 111 (by decide), hS 112 (by decide), hS 113 (by decide)]
  refine ⟨a1, a2, a3, a4, a5, a7, a8, fun q => ?_, a10, fun q => ⟨(a11 q).1, ?_⟩, a12⟩
  · obtain ⟨r, g1, g2, g3, g4⟩ := a9 q
    exact ⟨r, by omega, g2, g3, g4⟩
  · obtain ⟨-, i0, i1, g1, g2, g3, g4, g5, g6, g7⟩ := a11 q
    refine ⟨i0, i1, g1, g2, g3, g4, g5, g6, fun k g8 g9 => ?_⟩
    have := g7 k g8 g9
    unfold cmpR at this ⊢
    rw [hS 114 (by decide), hS 115 (by decide), hS 116 (by decide)]
    exact this
theorem acT_U {lo hi : Nat} (h : acT b M NR A lo hi c rk S P U a) (hU : U' 0 113 a = U 0 113 a) : acT b M NR A lo hi c rk S P U' a := by
  unfold acT at h ⊢
  rw [hU]
  exact h
theorem acT_P {lo hi : Nat} (h : acT b M NR A lo hi c rk S P U a) (hP : ∀ v i, v ≠ 107 → v ≠ 108 → P' 0 v i = P 0 v i) : acT b M NR A lo hi c rk S P' U a := by
  unfold acT blkF cmpR at h ⊢
  simp only [hP 110 _ (by decide) (by decide), hP 111 _ (by decide) (by decide), hP 112 _ (by decide) (by decide), hP 114 _ (by decide) (by decide), hP 105 _ (by decide) (by decide), hP 115 _ (by decide) (by decide), hP 116 _ (by decide) (by decide), hP 117 _ (by decide) (by decide), hP 119 _ (by decide) (by decide), hP 120 _ (by decide) (by decide), hP 121 _ (by decide) (by decide)]
  exact h
def ROU (b NR A E : Nat) (rk : Nat → Nat) (S P : S3) : Prop := ∀ r, r < NR → ∃ e, e < E ∧ P 0 107 r = Int32.ofNat e ∧ S (2 + b) 106 r = P 0 105 e ∧ (P 0 105 e = -1 ∨ ∃ a, a < A ∧ P 0 105 e = Int32.ofNat a ∧ rk a = 6 * r + 5)
/-- what a book says so far, in both -/
def SBK (b M NR A c E : Nat) (rk : Nat → Nat) (S P U : S3) : Prop := LMP b M S U ∧ ROU b NR A E rk S P ∧ ∀ a, a < A → acT b M NR A 0 E c rk S P U a
theorem Gk_101 (hb : b < 2) (h : Gk b m qf T S0 L0 V0 k dp A cc cS E M M' NR (NR + 1) S L V P) (hx : S 4 203 0 = 0 → x = Int32.ofNat NR ∧ NR < 6) : Gk b m qf T S0 L0 V0 k dp A cc cS E M M' (NR + 1) (NR + 1) (if x < 6 then su S (2 + b) 101 0 (x + 1) else S) L V P := by
  obtain ⟨g1, F, g3, g4, s1, s2, s3, s4⟩ := h
  have e : ∀ g v, ¬ (g = 2 + b ∧ v = 101) → (if x < 6 then su S (2 + b) 101 0 (x + 1) else S) g v = S g v := fun g v q => by
    split
    · funext i
      exact if_neg fun q2 => q ⟨q2.1, q2.2.1⟩
    · rfl
  refine ⟨?_, ⟨fun g v q => by rw [e g v (fun q2 => q (Or.inl ⟨q2.1, by omega⟩)), F.1 g v q], F.2⟩, g3, g4, ?_⟩
  · unfold cu B8 at g1 ⊢
    rw [e 4 200 (by omega), e 4 201 (by omega), e 4 202 (by omega), e 4 211 (by omega), e 4 212 (by omega), e (2 + b) 102 (by omega)]
    exact g1
  · unfold SE
    rw [e 4 203 (by omega), e 4 204 (by omega)]
    refine ⟨s1, s2, s3, fun q => ⟨(s4 q).1, ?_⟩⟩
    obtain ⟨hx1, hx2⟩ := hx (s2.trans q)
    obtain ⟨c5, ⟨c1, c2, c3, c4⟩, c6, c7, c8⟩ := (s4 q).2
    have hlt : x < 6 := by rw [hx1]; exact (ofN_lt (m := 6) (by omega) (by omega)).mpr hx2
    unfold CO
    rw [e (2 + b) 100 (by omega), e (2 + b) 102 (by omega), e (2 + b) 103 (by omega), if_pos hlt, su_self, hx1, ofN_a1]
    exact ⟨c5, ⟨rfl, by omega, c3, c4⟩, c6, c7, c8⟩
theorem round_sim (H : bse b pl n m qf T S0 L0 V0) (h : Gk b m qf T S0 L0 V0 k 0 A c c E M M NR NR S L V P) (h4 : 4 * c ≤ k) (h3 : S 4 211 k = Int32.ofNat 3) (rk : Nat → Nat) (l1 : Option Value) :
    (∃ S' L' V' P', Fk b m qf S0 L0 V0 S' L' V' ∧ RC hc R 22 23 [.ref 317] S L 0 S' L' ∧ (∀ (d : Nat) (Q : PO → Prop), Wp (d + 24) 162 75 [some (.ref 395), l1] [] (RP hcR C V W pl P RB) Q = Q (.inl (some (.int 0)), RP hcR C V' W pl P' RB))) ∨
    ∃ (k' A' c' E' : Nat) (rk' : Nat → Nat) (S' : S3) (L' : L3) (V' P' : S3), k + 2 < k' ∧ 4 * c' ≤ k' ∧ Gk b m qf T S0 L0 V0 k' 0 A' c' c' E' M M (NR + 1) (NR + 1) S' L' V' P' ∧ RC hc R 22 23 [.ref 317] S L 1 S' L' ∧ (∀ (d : Nat) (Q : PO → Prop), Wp (d + 24) 162 75 [some (.ref 395), l1] [] (RP hcR C V W pl P RB) Q = Wp (d + 24) 162 75 [some (.ref 395), some (.int (Int32.ofNat NR))] [] (RP hcR C V' W pl P' RB) Q) ∧
      (S' 4 203 0 = 0 → S 4 203 0 = 0 ∧ (SBK b M NR A c E rk S P (p2 V T qf k).2.2 → SBK b M (NR + 1) A' c' E' rk' S' P' (p2 V' T qf k').2.2)) := by
  have hb := H.1
  have hp := H.2.1
  have hm := H.2.2.2.2.2.2.1
  obtain ⟨hk, n1, n2, n3, G1, t1⟩ := acc_G H h (by decide) h3
  have u4 := h.1.2.2.2.2.2.1
  have e203 := G1.1.2.2.2.2.2.1
  have h108 : P 0 108 0 = Int32.ofNat NR := h.2.2.2.1.2.2.2.1.1
  have hNR : NR ≤ k := h.2.2.2.1.2.2.2.1.2
  have hP := bse_P H h.2.1
  have qC := fun (d : Nat) (Q : PO → Prop) => c23_a (hc := hc) (R := R) (D := d + 20) (Q := Q) (L := L) n3 (by omega)
  by_cases h23 : stS (k + 1) S 4 211 (k + 1) = Int32.ofNat 23
  case neg =>
    obtain ⟨m1, m2⟩ := k_no H G1 (by decide) h23
    refine Or.inl ⟨stS (k + 1) S, stV (k + 1) L, su (su V 4 203 0 (Int32.ofNat (k + 1))) 4 214 (k + 1) 2, su P 0 108 0 (Int32.ofNat (NR + 1)), ⟨k + 1, G1.1.1, G1.1.2.2.2.1.trans (bse_t H G1.2.1 G1.1.1).2.2.1, by rw [su_ne (by decide)]; exact e203, fr3_V G1.2.1 (Or.inr (Or.inr rfl))⟩, fun d Q => (qC d Q).trans (c23_no m2), fun d Q => ?_⟩
    refine (r162_r (D := d + 23) (r := 0) hp hP (by omega) u4 n1 h108 (RR_E (i := 3) (fun d Q => r161_no e203 (by omega) m1) (by omega)) (Or.inl rfl)).trans ?_
    rw [if_pos rfl]
  obtain ⟨hk1, m1, m2, m3, -, -⟩ := acc_G H G1 (by decide) h23
  obtain ⟨G2, t2⟩ := rname_G H G1 h23
  have eN : nmS b (stS (k + 1) S) (stV (k + 1) L) (if stS (k + 1) S (2 + b) 101 0 < 6 then 0 else 1) 4 200 0 + 1 = Int32.ofNat (k + 1 + 1) := by
    rw [nm_8 hb (by omega)]; exact m3
  have qC2 := fun (d : Nat) (Q : PO → Prop) => c23_n (hc := hc) (R := R) (D := d + 18) (Q := Q) (L := stV (k + 1) L) hb (bse_B H G1.2.1) m2 rfl eN (by omega)
  have qR2 := fun (d : Nat) (Q : PO → Prop) => (r162_r (hcR := hcR) (C := C) (W := W) (RB := RB) (l1 := l1) (Q := Q) (D := d + 23) (r := 1) hp hP (by omega) u4 n1 h108 (RR_E (i := 3) (fun d Q => r161 e203 (by omega) m1) (by omega)) (Or.inr rfl)).trans (if_neg (by decide))
  generalize hx : stS (k + 1) S (2 + b) 101 0 = x at G2 t2 eN qC2
  generalize eS2 : stS (k + 1 + 1) (nmS b (stS (k + 1) S) (stV (k + 1) L) (if x < 6 then 0 else 1)) = S2 at G2 t2 qC2
  generalize eL2 : stV (k + 1 + 1) (ptL (stV (k + 1) L) 4 4 6 x (stV (k + 1) L 4 0 0)) = L2 at G2 t2 qC2
  generalize eV2 : su (su (su V 4 203 0 (Int32.ofNat (k + 1))) 4 214 (k + 1) 2) 4 203 0 (Int32.ofNat (k + 1 + 1)) = V2 at G2 t2 qR2
  have qC3 := fun (d : Nat) (Q : PO → Prop) => (qC d Q).trans (qC2 d Q)
  have hP2 := bse_P H G2.2.1
  have h106 : su P 0 108 0 (Int32.ofNat (NR + 1)) 0 106 0 = Int32.ofNat E := G2.2.2.2.1.2.2.1.1
  have G3 : Gk b m qf T S0 L0 V0 (k + 1 + 1) 0 A c c E M M NR (NR + 1) S2 L2 V2 (su (su P 0 108 0 (Int32.ofNat (NR + 1))) 0 107 NR (Int32.ofNat E)) := Gk_P G2 (by decide) (by decide) (by decide) (by decide) (by omega)
  rcases blk_0 (hc := hc) (hcR := hcR) (R := R) (RB := RB) (C := C) (W := W) (M := M) (NR := NR) H (k + 1 + 1) A c E rk S2 L2 V2 _ G3 (by omega) with ⟨S4, L4, V4, P4, f1, q1, q2⟩ | ⟨k', A', c', E', rk', S4, L4, V4, P4, v, hdp, b1, b2, b3, b4, b5, G4, q1, q2, hv, w4⟩
  · refine Or.inl ⟨S4, L4, V4, P4, f1, fun d Q => (qC3 d Q).trans (c23_b0 (q1 d)), fun d Q => (qR2 d Q).trans ((r162_b (r := 0) hp hP2 (by omega) h106 (q2 d) (Or.inl rfl)).trans (if_pos rfl))⟩
  · have hB4 := bse_B H G4.2.1
    have G5 : Gk b m qf T S0 L0 V0 k' 0 A' c' c' E' M M NR (NR + 1) (pt S4 (2 + b) 106 6 x v) L4 V4 P4 := Gk_bk hb G4 (by decide)
    have back : S4 4 203 0 = 0 → S 4 203 0 = 0 ∧ NR < 6 ∧ x = Int32.ofNat NR := fun q0 => by
      obtain ⟨a1, -⟩ := w4 q0
      obtain ⟨a2, a3, a4, -⟩ := t2 a1
      exact ⟨(t1 a2).1, a3, a4⟩
    have G6 := Gk_101 (x := x) hb G5 (fun q0 => by
      rw [pt_vne (by omega)] at q0
      exact ⟨(back q0).2.2, (back q0).2.1⟩)
    refine Or.inr ⟨k', A', c', E', rk', _, L4, V4, P4, by omega, b5, G6, fun d Q => (qC3 d Q).trans (c23_b1 (D := d + 20) hb hB4 hv (q1 d)), fun d Q => (qR2 d Q).trans ((r162_b (r := 1) hp hP2 (by omega) h106 (q2 d) (Or.inr rfl)).trans (if_neg (by decide))), fun q0 => ?_⟩
    have eF : ∀ g v', ¬ (g = 2 + b ∧ (v' = 101 ∨ v' = 106)) → (if x < 6 then su (pt S4 (2 + b) 106 6 x v) (2 + b) 101 0 (x + 1) else pt S4 (2 + b) 106 6 x v) g v' = S4 g v' := fun g v' q => by
      split
      · funext i
        refine (if_neg fun q2 => q ⟨q2.1, Or.inl q2.2.1⟩).trans ?_
        rw [pt_vne (fun q2 => q ⟨q2.1, Or.inr q2.2⟩)]
      · exact pt_vne (fun q2 => q ⟨q2.1, Or.inr q2.2⟩)
    rw [eF 4 203 (by omega)] at q0
    obtain ⟨a1, ⟨l1', l2', l3', l4', l5'⟩, a5, a6⟩ := w4 q0
    obtain ⟨a7, hN6, a8, a9, a10⟩ := t2 a1
    obtain ⟨a11, a12⟩ := t1 a7
    refine ⟨a11, ?_⟩
    rintro ⟨hL, hR, hA⟩
    have eS : ∀ v, v ≠ 101 → S2 (2 + b) v = S (2 + b) v := fun v hv => by
      rw [← eS2, st_ne (by omega), nm_8 hb (by omega), st_ne (by omega)]
    have eU2 : ∀ v, v ≠ 101 → (p2 V2 T qf (k + 1 + 1)).2.2 0 v = (p2 V T qf k).2.2 0 v := fun v hv => by
      rw [a10, su_vne hv, a12]
    have eP : ∀ v i, v ≠ 108 → ¬ (v = 107 ∧ i = NR) → su (su P 0 108 0 (Int32.ofNat (NR + 1))) 0 107 NR (Int32.ofNat E) 0 v i = P 0 v i := fun v i g1 g2 => by
      rw [su_at, if_neg (fun q => g2 ⟨q.2.1, q.2.2⟩), su_ne g1]
    have e106 : ∀ r, (if x < 6 then su (pt S4 (2 + b) 106 6 x v) (2 + b) 101 0 (x + 1) else pt S4 (2 + b) 106 6 x v) (2 + b) 106 r = if r = NR then v else S (2 + b) 106 r := fun r => by
      have : (if x < 6 then su (pt S4 (2 + b) 106 6 x v) (2 + b) 101 0 (x + 1) else pt S4 (2 + b) 106 6 x v) (2 + b) 106 r = pt S4 (2 + b) 106 6 x v (2 + b) 106 r := by
        split
        · rw [su_ne (by decide)]
        · rfl
      rw [this, a8]
      by_cases e : r = NR
      · rw [if_pos e, e, pt_self hN6 (by omega)]
      · rw [if_neg e, pt_off e (by omega), l1'.2.2.1 106 (by omega), eS 106 (by decide)]
    refine ⟨fun i hi => ?_, fun r hr => ?_, fun a ha => ?_⟩
    · rw [eF (2 + b) 104 (by omega), eF (2 + b) 105 (by omega), l1'.2.2.1 104 (by omega), l1'.2.2.1 105 (by omega), l3'.2 103 (by omega), l3'.2 104 (by omega), eS 104 (by decide), eS 105 (by decide), eU2 103 (by decide), eU2 104 (by decide)]
      exact hL i hi
    · rw [e106]
      by_cases e : r = NR
      · rw [if_pos e, e]
        refine ⟨E, b4, ?_, a5.symm, ?_⟩
        · rw [l2'.2.2.2, su_self]
        · rw [a5]
          refine a6.imp id ?_
          rintro ⟨a, p1, p2, p3, p4⟩
          exact ⟨a, p2, p3, by rw [p4]; omega⟩
      · obtain ⟨e', g1, g2, g3, g4⟩ := hR r (by omega)
        rw [if_neg e]
        refine ⟨e', by omega, ?_, ?_, ?_⟩
        · rw [l2'.2.2.2, eP 107 r (by decide) (fun q => e q.2)]; exact g2
        · rw [l2'.2.2.1 e' g1, eP 105 e' (by decide) (by omega)]; exact g3
        · rw [l2'.2.2.1 e' g1, eP 105 e' (by decide) (by omega)]
          refine g4.imp id ?_
          rintro ⟨a, p1, p2, p3⟩
          exact ⟨a, by omega, p2, by rw [l4' a p1, p3]⟩
    · have hi7 : ∀ v', 107 ≤ v' → (if x < 6 then su (pt S4 (2 + b) 106 6 x v) (2 + b) 101 0 (x + 1) else pt S4 (2 + b) 106 6 x v) (2 + b) v' = S4 (2 + b) v' := fun v' hv' => eF (2 + b) v' (by omega)
      by_cases g : a < A
      · have o1 := acT_P (acT_U (acT_hi (S' := S2) (hA a g) (fun v' hv' => eS v' (by omega)) (Nat.le_refl _)) (U' := (p2 V2 T qf (k + 1 + 1)).2.2) (by rw [eU2 113 (by decide)])) (fun v i g1 g2 => eP v i g2 (fun q => g1 q.1))
        exact acT_hi (acT_low (lo' := 0) o1 g l1' l2' l3' (fun e _ p2 => l2'.2.2.1 e p2) b2 (Nat.le_refl _) (by omega) b3 l4') hi7 (Nat.le_succ _)
      · exact acT_hi (acT_low (L := L4) (L' := L4) (E := 0) (l5' a (by omega) ha) ha lowS_refl lowP_refl lowU_refl (fun _ _ _ => rfl) (Nat.le_refl _) (Nat.zero_le _) (Nat.le_refl _) (Nat.le_refl _) (fun _ _ => rfl)) hi7 (Nat.le_succ _)
end BOOKX
