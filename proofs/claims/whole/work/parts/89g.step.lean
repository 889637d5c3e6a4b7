/-! THE GRAMMAR IN LOCKSTEP: a step, frames, values -/
section GRN
variable {b pl n m k A A' cc cS cc' cS' E E' M M' NR R' M2 M3 NR2 R3 dp : Nat} {qf lf : Nat → Nat} {T : Nat → Int32} {S S' S0 S1 V V' V0 V1 P P' P1 U U' U1 : S3} {L L' L0 L1 : L3} {x y ρ : Int32}
theorem e2_0 (h : V 4 214 k = 0) : e2 V T qf lf k P = (0, P) := by
  unfold e2
  rw [h]
  rfl
theorem e2_5 (h : V 4 214 k = 5) : e2 V T qf lf k P = if P 0 102 0 = 80 then (4, P) else (0, su P 0 102 0 (P 0 102 0 + 1)) := by
  unfold e2
  rw [h]
  rfl
theorem e2_8 (h : V 4 214 k = 8) : e2 V T qf lf k P = (if nmI T (qf k) (lf k) 0 0 < 0 then 5 else if 99 < nmI T (qf k) (lf k) 0 0 then 5 else 0, P) := by
  unfold e2
  rw [h]
  rfl
theorem NM_next (h : NM qf T k M' R' L V) (h1 : V 4 214 k ≠ 1) (h2 : V 4 214 k ≠ 2) : NM qf T (k + 1) M' R' L V := by
  obtain ⟨a1, a2, a3, a4⟩ := h
  refine ⟨by rw [rc, if_neg h1]; exact a1, by rw [rc, if_neg h2]; exact a2, fun u hu q => ?_, fun u hu q => ?_⟩
  · by_cases e : u = k
    · rw [e] at q; exact absurd q h1
    · exact a3 u (by omega) q
  · by_cases e : u = k
    · rw [e] at q; exact absurd q h2
    · exact a4 u (by omega) q
theorem pre2_CO (h : CO b qf T k M M' NR R' A cS S L V1 U) {r : Nat} (hr : r ≤ 8) (hV : V1 4 214 k = Int32.ofNat r) (h3 : r = 3 ∨ r = 4 → 0 < M') (h6 : r = 6 ∨ r = 7 → 0 < A) : pre2 V1 k U := by
  obtain ⟨⟨-, -, a3, a4⟩, ⟨-, -, b3, b4⟩, ⟨-, c2, c3⟩, -⟩ := h
  refine ⟨⟨r, hr, hV⟩, M', R', A, a3, a4, b3, b4, c2, c3, fun q => h3 ?_, fun q => h6 ?_⟩
  · rw [hV] at q
    exact q.imp (fun q => ofN_inj (b := 3) (by omega) (by omega) q) (fun q => ofN_inj (b := 4) (by omega) (by omega) q)
  · rw [hV] at q
    exact q.imp (fun q => ofN_inj (b := 6) (by omega) (by omega) q) (fun q => ofN_inj (b := 7) (by omega) (by omega) q)
/-- one token on -/
theorem G_step (H : bse b pl n m qf T S0 L0 V0) (h : Gk b m qf T S0 L0 V0 k dp A cc cS E M M' NR R' S L V P) (hk : k < m) (h8 : B8 b S1) (hS : sameBut (pS b) S S1) (hL : ∀ g v, ¬ (g = 4 ∧ (v = 0 ∨ v = 3 ∨ v = 4)) → L1 g v = L g v) (hP : CP (k + 1) A' cc' E' R3 P1)
    (h1 : S 4 203 0 ≠ 0 → S1 4 203 0 = S 4 203 0 ∧ S1 4 204 0 = S 4 204 0)
    (h2 : S 4 203 0 = 0 → S 4 204 0 = -1 → CO b qf T k M M' NR R' A cS S L (su V 4 214 k ρ) (p2 V T qf k).2.2 → pre2 (su V 4 214 k ρ) k (p2 V T qf k).2.2 ∧ S1 4 203 0 = (e2 (su V 4 214 k ρ) T qf (fun a => tkL T (qf a)) k (p2 V T qf k).2.2).1 ∧
      ((e2 (su V 4 214 k ρ) T qf (fun a => tkL T (qf a)) k (p2 V T qf k).2.2).1 ≠ 0 → S1 4 204 0 = Int32.ofNat (qf k)) ∧
      ((e2 (su V 4 214 k ρ) T qf (fun a => tkL T (qf a)) k (p2 V T qf k).2.2).1 = 0 → S1 4 204 0 = -1 ∧ CO b qf T (k + 1) M2 M3 NR2 R3 A' cS' S1 L1 (su V 4 214 k ρ) (e2 (su V 4 214 k ρ) T qf (fun a => tkL T (qf a)) k (p2 V T qf k).2.2).2)) :
    Gk b m qf T S0 L0 V0 (k + 1) dp A' cc' cS' E' M2 M3 NR2 R3 (stS (k + 1) S1) (stV (k + 1) L1) (su (su V 4 214 k ρ) 4 203 0 (Int32.ofNat (k + 1))) P1 ∧
      (stS (k + 1) S1 4 203 0 = 0 → S 4 203 0 = 0 ∧ (p2 (su (su V 4 214 k ρ) 4 203 0 (Int32.ofNat (k + 1))) T qf (k + 1)).2.2 = (e2 (su V 4 214 k ρ) T qf (fun a => tkL T (qf a)) k (p2 V T qf k).2.2).2) := by
  obtain ⟨g1, g2, g3, g4, g5⟩ := h
  have q := SE_step g5 H.1 (V1 := su V 4 214 k ρ) (fun u hu => su_off (by omega)) h1 h2
  have F1 : fr3 b S0 L0 V0 S1 L1 V := ⟨sbt_trans g2.1 hS, g2.2.1, fun g v e => (hL g v e).trans (g2.2.2 g v e)⟩
  exact ⟨⟨cu_step g1 H.1 h8 hk, fr3_V (fr3_V (fr3_st F1) (Or.inr (Or.inr rfl))) (Or.inl rfl), ah_step g3, hP, q.1⟩, q.2⟩
theorem CP_next (h : CP k A cc E R' P) : CP (k + 1) A cc E R' P := by
  obtain ⟨⟨a1, a2⟩, ⟨b1, b2⟩, ⟨c1, c2⟩, ⟨d1, d2⟩, e⟩ := h
  exact ⟨⟨a1, by omega⟩, ⟨b1, by omega⟩, ⟨c1, by omega⟩, ⟨d1, by omega⟩, e⟩
/-- a token that is only stepped over; S1 may have written rows of the book behind the counts -/
theorem tok_G (H : bse b pl n m qf T S0 L0 V0) (h : Gk b m qf T S0 L0 V0 k dp A cc cS E M M' NR R' S L V P) (hk : k < m) (hS : sameBut (fun g v => g = 2 + b ∧ 104 ≤ v) S S1) (hP : CP (k + 1) A cc' E' R' P1) :
    Gk b m qf T S0 L0 V0 (k + 1) dp A cc' cS E' M M' NR R' (stS (k + 1) S1) (stV (k + 1) L) (su V 4 203 0 (Int32.ofNat (k + 1))) P1 ∧
      (stS (k + 1) S1 4 203 0 = 0 → S 4 203 0 = 0 ∧ (p2 (su V 4 203 0 (Int32.ofNat (k + 1))) T qf (k + 1)).2.2 = (p2 V T qf k).2.2) := by
  have hb := H.1
  have e0 : V 4 214 k = 0 := h.2.2.1 k (Nat.le_refl _) (by omega)
  have eV : su V 4 214 k 0 = V := su_same e0
  have e3 : S1 4 203 0 = S 4 203 0 := by rw [hS 4 203 (fun q => by omega)]
  have e4 : S1 4 204 0 = S 4 204 0 := by rw [hS 4 204 (fun q => by omega)]
  have ee : e2 (su V 4 214 k 0) T qf (fun a => tkL T (qf a)) k (p2 V T qf k).2.2 = (0, (p2 V T qf k).2.2) := e2_0 su_self
  have q := G_step (ρ := 0) (L1 := L) (A' := A) (cS' := cS) (M2 := M) (M3 := M') (NR2 := NR) H h hk (B8_eq h.1.2.2.2.2.2.2.2 (hS (2 + b) 102 (fun q => by omega))) (fun g v e => hS g v (fun e2 => e (Or.inl ⟨e2.1, by omega⟩))) (fun _ _ _ => rfl) hP (fun _ => ⟨e3, e4⟩) (fun a1 a2 a3 => by
    rw [ee]
    refine ⟨pre2_CO (r := 0) a3 (by decide) su_self (by omega) (by omega), e3.trans a1, fun q => absurd rfl q, fun _ => ⟨e4.trans a2, ?_⟩⟩
    obtain ⟨c1, c2, c3, c4, c5⟩ := a3
    unfold CO
    rw [hS (2 + b) 100 (fun q => by omega), hS (2 + b) 101 (fun q => by omega), hS (2 + b) 102 (fun q => by omega), hS (2 + b) 103 (fun q => by omega)]
    exact ⟨c1, c2, c3, c4, NM_next c5 (by rw [su_self]; decide) (by rw [su_self]; decide)⟩)
  rw [ee, eV] at q
  exact q
/-- frames of a block's parts -/
def lowS (b A cc : Nat) (S : S3) (L : L3) (S' : S3) (L' : L3) : Prop := (∀ v i, 107 ≤ v → v ≤ 113 → i < A → S' (2 + b) v i = S (2 + b) v i) ∧ (∀ v i, 114 ≤ v → v ≤ 116 → i < cc → S' (2 + b) v i = S (2 + b) v i) ∧ (∀ v, v = 100 ∨ v = 101 ∨ v = 104 ∨ v = 105 ∨ v = 106 → S' (2 + b) v = S (2 + b) v) ∧ ∀ v, v = 3 ∨ v = 4 → L' 4 v = L 4 v
def lowP (A cc E : Nat) (P P' : S3) : Prop := (∀ v i, 110 ≤ v → v ≤ 117 → v ≠ 113 → i < A → P' 0 v i = P 0 v i) ∧ (∀ v i, 119 ≤ v → v ≤ 121 → i < cc → P' 0 v i = P 0 v i) ∧ (∀ i, i < E → P' 0 105 i = P 0 105 i) ∧ P' 0 107 = P 0 107
def lowU (A : Nat) (U U' : S3) : Prop := (∀ i, i < A → U' 0 113 i = U 0 113 i) ∧ ∀ v, v = 100 ∨ v = 101 ∨ v = 103 ∨ v = 104 → U' 0 v = U 0 v
theorem lowS_refl : lowS b A cc S L S L := ⟨fun _ _ _ _ _ => rfl, fun _ _ _ _ _ => rfl, fun _ _ => rfl, fun _ _ => rfl⟩
theorem lowP_refl : lowP A cc E P P := ⟨fun _ _ _ _ _ _ => rfl, fun _ _ _ _ _ => rfl, fun _ _ => rfl, rfl⟩
theorem lowU_refl : lowU A U U := ⟨fun _ _ => rfl, fun _ _ => rfl⟩
theorem lowS_tr (h : lowS b A cc S L S1 L1) (h1 : lowS b A' cc' S1 L1 S' L') (hA : A ≤ A') (hc : cc ≤ cc') : lowS b A cc S L S' L' := ⟨fun v i a1 a2 a3 => (h1.1 v i a1 a2 (by omega)).trans (h.1 v i a1 a2 a3), fun v i a1 a2 a3 => (h1.2.1 v i a1 a2 (by omega)).trans (h.2.1 v i a1 a2 a3), fun v a => (h1.2.2.1 v a).trans (h.2.2.1 v a), fun v a => (h1.2.2.2 v a).trans (h.2.2.2 v a)⟩
theorem lowP_tr (h : lowP A cc E P P1) (h1 : lowP A' cc' E' P1 P') (hA : A ≤ A') (hc : cc ≤ cc') (hE : E ≤ E') : lowP A cc E P P' := ⟨fun v i a1 a2 a3 a4 => (h1.1 v i a1 a2 a3 (by omega)).trans (h.1 v i a1 a2 a3 a4), fun v i a1 a2 a3 => (h1.2.1 v i a1 a2 (by omega)).trans (h.2.1 v i a1 a2 a3), fun i a => (h1.2.2.1 i (by omega)).trans (h.2.2.1 i a), h1.2.2.2.trans h.2.2.2⟩
theorem lowU_tr (h : lowU A U U1) (h1 : lowU A' U1 U') (hA : A ≤ A') : lowU A U U' := ⟨fun i a => (h1.1 i (by omega)).trans (h.1 i a), fun v a => (h1.2 v a).trans (h.2 v a)⟩
theorem lowS_4 (h : sameBut (fun g v => g = 4 ∨ g = 2 + b ∧ (v = 102 ∨ v = 103)) S S1) (hL : ∀ v, v = 3 ∨ v = 4 → L1 4 v = L 4 v) (hb : b < 2) : lowS b A cc S L S1 L1 := ⟨fun v i a1 a2 _ => by rw [h (2 + b) v (fun q => by omega)], fun v i a1 a2 _ => by rw [h (2 + b) v (fun q => by omega)], fun v a => h (2 + b) v (fun q => by omega), hL⟩
theorem lowS_st {k : Nat} (hb : b < 2) : lowS b A cc S L (stS k S) (stV k L) := lowS_4 (fun g v q => st_ne (fun e => q (Or.inl e.1))) (fun v hv => by unfold stV; rw [sl_vne (by omega)]) hb
theorem pt_vne {g v nn g' v' : Nat} (h : ¬ (g' = g ∧ v' = v)) : pt S g v nn x y g' v' = S g' v' := by
  unfold pt
  split
  · funext j
    exact if_neg fun q => h ⟨q.1, q.2.1⟩
  · rfl
theorem pt_off {g v nn i j : Nat} (h : j ≠ i) (hi : i < 2 ^ 31) : pt S g v nn (Int32.ofNat i) y g v j = S g v j := by
  unfold pt
  split
  · rw [tN_nat hi, su_off h]
  · rfl
theorem pt_self {g v nn i : Nat} (h : i < nn) (hi : i < 2 ^ 31) : pt S g v nn (Int32.ofNat i) y g v i = y := by
  unfold pt
  rw [if_pos (inB_nat h hi), tN_nat hi, su_self]
theorem lowS_pt {v nn i : Nat} (hv : 107 ≤ v) (h1 : v ≤ 113 → A ≤ i) (h2 : 114 ≤ v → cc ≤ i) (hi : i < 2 ^ 31) : lowS b A cc S L (pt S (2 + b) v nn (Int32.ofNat i) y) L := by
  refine ⟨fun v' j a1 a2 a3 => ?_, fun v' j a1 a2 a3 => ?_, fun v' a => pt_vne (by omega), fun _ _ => rfl⟩
  · by_cases e : v' = v
    · rw [e, pt_off (by omega) hi]
    · rw [pt_vne (by omega)]
  · by_cases e : v' = v
    · rw [e, pt_off (by omega) hi]
    · rw [pt_vne (by omega)]
theorem lowP_su {v i : Nat} (h1 : v ≤ 117 → v ≠ 113 → 110 ≤ v → A ≤ i) (h2 : 119 ≤ v → v ≤ 121 → cc ≤ i) (h3 : v = 105 → E ≤ i) (h4 : v ≠ 107) : lowP A cc E P (su P 0 v i x) := by
  refine ⟨fun v' j a1 a2 a3 a4 => ?_, fun v' j a1 a2 a3 => ?_, fun j a => ?_, su_vne h4.symm⟩
  · by_cases e : v' = v
    · rw [e, su_off (by omega)]
    · rw [su_vne e]
  · by_cases e : v' = v
    · rw [e, su_off (by omega)]
    · rw [su_vne e]
  · by_cases e : v = 105
    · rw [su_off (by omega)]
    · rw [su_vne (fun q => e q.symm)]
/-- runs -/
def RC (hc : Nat × Nat × Nat) (R : Nat → Option PC) (nn j : Nat) (as : List Value) (S : S3) (L : L3) (r : Int32) (S' : S3) (L' : L3) : Prop := ∀ (d : Nat) (Q : PO → Prop), Cp (d + nn) j as (CH hc S L R) Q = Q (.inl (some (.int r)), CH hc S' L' R)
def RR (hc : Nat × Nat × Nat) (C : Nat → Option PC) (W : L3) (pl : Nat) (R : Nat → Option PC) (nn j : Nat) (as : List Value) (V P : S3) (r : Int32) (V' P' : S3) : Prop := ∀ (d : Nat) (Q : PO → Prop), Cp (d + nn) j as (RP hc C V W pl P R) Q = Q (.inl (some (.int r)), RP hc C V' W pl P' R)
theorem ms_0 (h : S 4 203 0 = 0) : msS x S 4 203 0 = x ∧ msS x S 4 204 0 = S 4 202 0 := by
  unfold msS
  rw [if_pos h]
  exact ⟨by rw [su_ne (by decide), su_self], su_self⟩
theorem ms_1 (h : S 4 203 0 ≠ 0) : msS x S = S := if_neg h
theorem num_99 : ∀ v, v < 1000 → (lg_cmp (Int64.ofNat v) 99 ≤ 0 ↔ v ≤ 99) ∧ (Int64.ofNat v).toInt32 = Int32.ofNat v ∧ (if Int32.ofNat v < 0 then (5 : Int32) else if 99 < Int32.ofNat v then 5 else 0) = if v ≤ 99 then 0 else 5 := by decide +kernel
/-- the value at a token, in the reference -/
def zv (V0 : S3) (T : Nat → Int32) (qf : Nat → Nat) (k : Nat) : Int32 := if V0 4 211 k = 41 then nmI T (qf k) (tkL T (qf k)) 0 0 else 1000 + V0 4 211 k
variable {hc hcR : Nat × Nat × Nat} {R RB C : Nat → Option PC} {W : L3}
theorem val_at (H : bse b pl n m qf T S0 L0 V0) (F : fr3 b S0 L0 V0 S L V) (hk : k < m) : RR hcR C W pl RB 3 169 [.ref 395, .int (Int32.ofNat k)] V P (zv V0 T qf k) V P := fun d Q => by
  rw [r169 (bse_T H F) (bse_on H F hk) d Q]
  unfold zv
  rw [F.2.1 4 211 (nV_211 (by decide) (by decide) (by decide))]
theorem wd_z : ∀ j, j < 23 → 16 ≤ j → okc (1000 + Int32.ofNat j) ∧ cv (1000 + Int32.ofNat j) = -Int32.ofNat j := by
  intro j h1 h2
  have : j = 16 ∨ j = 17 ∨ j = 18 ∨ j = 19 ∨ j = 20 ∨ j = 21 ∨ j = 22 := by omega
  rcases this with rfl | rfl | rfl | rfl | rfl | rfl | rfl
  · exact ⟨Or.inr (Or.inl (by decide)), by decide⟩
  · exact ⟨Or.inr (Or.inr (Or.inl (by decide))), by decide⟩
  · exact ⟨Or.inr (Or.inr (Or.inr (Or.inl (by decide)))), by decide⟩
  · exact ⟨Or.inr (Or.inr (Or.inr (Or.inr (Or.inl (by decide))))), by decide⟩
  · exact ⟨Or.inr (Or.inr (Or.inr (Or.inr (Or.inr (Or.inl (by decide)))))), by decide⟩
  · exact ⟨Or.inr (Or.inr (Or.inr (Or.inr (Or.inr (Or.inr (Or.inl (by decide))))))), by decide⟩
  · exact ⟨Or.inr (Or.inr (Or.inr (Or.inr (Or.inr (Or.inr (Or.inr (by decide))))))), by decide⟩
theorem wd_in : ∀ j, j ≤ 32 → (¬ Int32.ofNat j < 16 ∧ ¬ 22 < Int32.ofNat j ↔ 16 ≤ j ∧ j < 23) ∧ (¬ toR (Int32.ofNat j) < 16 ∧ ¬ 22 < toR (Int32.ofNat j) ↔ 16 ≤ j ∧ j < 23) ∧ (16 ≤ j → j < 23 → toR (Int32.ofNat j) = Int32.ofNat j) := by decide +kernel
theorem val_sim (H : bse b pl n m qf T S0 L0 V0) (h : Gk b m qf T S0 L0 V0 k dp A cc cS E M M' NR R' S L V P) {a v nn : Nat} (hv : 107 ≤ v) (hp : ∀ L, putF hc L R a x (fun S y => pt S (2 + b) v nn x y)) :
    (RC hc R 2 30 [.ref 317, .ref a, .int x] S L 0 S L ∧ RR hcR C W pl RB 4 168 [.ref 395] V P 0 V P) ∨
    ∃ S' V', k < m ∧ Gk b m qf T S0 L0 V0 (k + 1) dp A cc cS E M M' NR R' S' (stV (k + 1) L) V' P ∧ RC hc R 2 30 [.ref 317, .ref a, .int x] S L 1 S' (stV (k + 1) L) ∧ RR hcR C W pl RB 4 168 [.ref 395] V P 1 V' P ∧ okc (zv V0 T qf k) ∧
      (S' 4 203 0 = 0 → S 4 203 0 = 0 ∧ (p2 V' T qf (k + 1)).2.2 = (p2 V T qf k).2.2 ∧ S' = stS (k + 1) (pt S (2 + b) v nn x (cv (zv V0 T qf k)))) := by
  have hb := H.1
  have hF : ∀ (S : S3) (y : Int32), pt S (2 + b) v nn x y 4 200 0 = S 4 200 0 := fun S y => by rw [pt_vne (by omega)]
  obtain ⟨⟨km, u0, u1, u2, u3, u4, u5, u6⟩, F, hah, hcp, hse⟩ := id h
  obtain ⟨j, hj, ej, eVj⟩ := bse_k H F km
  obtain ⟨w1, w2, w3⟩ := wd_in j hj
  have hm := H.2.2.2.2.2.2.1
  have eV0 : V0 4 211 k = V 4 211 k := by rw [F.2.1 4 211 (nV_211 (by decide) (by decide) (by decide))]
  by_cases h24 : S 4 211 k = 24
  · have hk : k < m := bse_n H F km (by rw [h24]; decide)
    have e41 : V 4 211 k = 41 := bse_eq H F km h24
    obtain ⟨w, hw, ew, en⟩ := num_v (bse_24 H F hk h24)
    obtain ⟨n1, n2, n3⟩ := num_99 w (by omega)
    have eL : L 4 0 0 = Int64.ofNat w := by rw [u3, (bse_t H F km).2.2.2.1, ew]
    have ez : zv V0 T qf k = Int32.ofNat w := by unfold zv; rw [eV0, if_pos e41, en]
    have ec : cv (Int32.ofNat w) = Int32.ofNat w := by
      unfold cv
      exact if_pos ((ofN_lt (k := w) (m := 1000) (by omega) (by omega)).mpr (by omega))
    have e204 : S 4 202 0 = Int32.ofNat (qf k) := by rw [u2, (bse_t H F km).2.2.1]
    have ee : e2 (su V 4 214 k 8) T qf (fun a => tkL T (qf a)) k (p2 V T qf k).2.2 = (if w ≤ 99 then 0 else 5, (p2 V T qf k).2.2) := by
      rw [e2_8 su_self, en, n3]
    have hms : ∀ g v', ¬ (g = 4 ∧ (v' = 203 ∨ v' = 204)) → (if lg_cmp (L 4 0 0) 99 ≤ 0 then S else msS 5 S) g v' = S g v' := fun g v' q => by
      split
      · rfl
      · exact ms_ne q
    have q := G_step (ρ := 8) (S1 := pt (if lg_cmp (L 4 0 0) 99 ≤ 0 then S else msS 5 S) (2 + b) v nn x (L 4 0 0).toInt32) (L1 := L) (A' := A) (cS' := cS) (M2 := M) (M3 := M') (NR2 := NR) H h hk (B8_eq h.1.2.2.2.2.2.2.2 ((pt_vne (by omega)).trans (hms (2 + b) 102 (by omega)))) (fun g v' q => by
      rw [pt_vne (fun e => q (Or.inl ⟨e.1, by omega⟩)), hms g v' (fun e => q (Or.inr ⟨e.1, by omega⟩))]) (fun _ _ _ => rfl) (CP_next hcp) (fun hne => by
      rw [pt_vne (by omega), pt_vne (by omega)]
      split
      · exact ⟨rfl, rfl⟩
      · rw [ms_1 hne]; exact ⟨rfl, rfl⟩) (fun a1 a2 a3 => by
      rw [ee, pt_vne (by omega), pt_vne (by omega), eL]
      refine ⟨pre2_CO (r := 8) a3 (by decide) su_self (by omega) (by omega), ?_, fun q => ?_, fun q => ?_⟩
      · by_cases c9 : w ≤ 99
        · rw [if_pos (n1.mpr c9), if_pos c9]; exact a1
        · rw [if_neg (fun q => c9 (n1.mp q)), if_neg c9]; exact (ms_0 a1).1
      · by_cases c9 : w ≤ 99
        · exact absurd (if_pos c9) q
        · rw [if_neg (fun q => c9 (n1.mp q)), (ms_0 a1).2, e204]
      · have c9 : w ≤ 99 := by
          by_cases c9 : w ≤ 99
          · exact c9
          · exact absurd ((if_neg c9).symm.trans q) (by decide)
        rw [if_pos (n1.mpr c9)]
        refine ⟨a2, ?_⟩
        obtain ⟨c1, c2, c3, c4, c5⟩ := a3
        unfold CO
        rw [pt_vne (by omega), pt_vne (by omega), pt_vne (by omega), pt_vne (by omega)]
        exact ⟨c1, c2, c3, c4, NM_next c5 (by rw [su_self]; decide) (by rw [su_self]; decide)⟩)
    refine Or.inr ⟨_, _, hk, q.1, fun d Q => ?_, fun d Q => ?_, ?_, fun q0 => ?_⟩
    · have q30 := k30_num (S := S) (k := k + 1) (d := d) (Q := Q) (F := fun S y => pt S (2 + b) v nn x y) (hp L) hF (u1.trans h24) (by rw [u0, ofN_a1]) (by omega)
      exact q30
    · exact r168_num u4 (by omega) e41
    · rw [ez]; exact Or.inl ⟨w, by omega, rfl⟩
    · obtain ⟨q1, q2⟩ := q.2 q0
      refine ⟨q1, by rw [q2, ee], ?_⟩
      have c9 : w ≤ 99 := by
        by_cases c9 : w ≤ 99
        · exact c9
        · rw [st_ne (by omega), pt_vne (by omega), eL, if_neg (fun q => c9 (n1.mp q)), (ms_0 q1).1] at q0
          exact absurd q0 (by decide)
      rw [eL, if_pos (n1.mpr c9), n2, ez, ec]
  · have e41 : V 4 211 k ≠ 41 := bse_ne (j := 24) H F km (by decide) h24
    by_cases hjw : 16 ≤ j ∧ j < 23
    · have hn : ¬ (S 4 211 k = 31 ∨ S 4 211 k = 32) := fun q => by
        rw [ej] at q
        rcases q with q | q
        · exact absurd (ofN_inj (b := 31) (by omega) (by omega) q) (by omega)
        · exact absurd (ofN_inj (b := 32) (by omega) (by omega) q) (by omega)
      have hk : k < m := bse_n H F km hn
      have ez : zv V0 T qf k = 1000 + Int32.ofNat j := by unfold zv; rw [eV0, if_neg e41, eVj, w3 hjw.1 hjw.2]
      obtain ⟨z1, z2⟩ := wd_z j hjw.2 hjw.1
      have q := tok_G (S1 := pt S (2 + b) v nn x (-S 4 201 0)) H h hk (fun g v' q => pt_vne (fun e => q ⟨e.1, by omega⟩)) (CP_next hcp)
      refine Or.inr ⟨_, _, hk, q.1, fun d Q => ?_, fun d Q => ?_, by rw [ez]; exact z1, fun q0 => ?_⟩
      · have q30 := k30_wrd (S := S) (k := k + 1) (d := d) (Q := Q) (F := fun S y => pt S (2 + b) v nn x y) (hp L) hF (by rw [u1, ej]; exact (w1.mpr hjw).1) (by rw [u1, ej]; exact (w1.mpr hjw).2) (by rw [u0, ofN_a1]) (by omega)
        exact q30
      · exact r168_wrd u4 (by omega) (by rw [eVj]; exact (w2.mpr hjw).1) (by rw [eVj]; exact (w2.mpr hjw).2)
      · obtain ⟨q1, q2⟩ := q.2 q0
        refine ⟨q1, q2, ?_⟩
        rw [ez, z2, u1, ej]
    · refine Or.inl ⟨fun d Q => ?_, fun d Q => ?_⟩
      · refine k30_no (by rw [u1]; exact h24) ?_
        rw [u1, ej]
        by_cases g1 : Int32.ofNat j < 16
        · exact Or.inl g1
        · by_cases g2 : 22 < Int32.ofNat j
          · exact Or.inr g2
          · exact absurd (w1.mp ⟨g1, g2⟩) hjw
      · refine r168_no u4 (by omega) e41 ?_
        rw [eVj]
        by_cases g1 : toR (Int32.ofNat j) < 16
        · exact Or.inl g1
        · by_cases g2 : 22 < toR (Int32.ofNat j)
          · exact Or.inr g2
          · exact absurd (w2.mp ⟨g1, g2⟩) hjw
end GRN
