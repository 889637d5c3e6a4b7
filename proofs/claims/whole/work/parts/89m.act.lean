/-! THE GRAMMAR IN LOCKSTEP: an act's head, its target; what acts say -/
section ACTA
variable {b pl n m k c a j A A' cc cS cc' cS' E E' lo hi lo' hi' M M' NR R' dp : Nat} {rk rk' : Nat → Nat} {qf lf : Nat → Nat} {T : Nat → Int32} {S S' S0 S1 V V' V0 V1 V2 V3 P P' P1 P2 P3 U U' : S3} {L L' L0 L1 : L3} {x y z z1 z2 s aC aR : Int32} {hc hcR : Nat × Nat × Nat} {R RB C : Nat → Option PC} {W : L3} {l4 l2 : Option Value}
/-- class and reference (with the second pass U) say the same of act a; the blocks in it have numbers from lo on below hi -/
def acT (b M NR A lo hi c : Nat) (rk : Nat → Nat) (S P U : S3) (a : Nat) : Prop := ∃ w : Nat, P 0 110 a = Int32.ofNat w ∧ S (2 + b) 107 a = Int32.ofNat w ∧ 4 ≤ w ∧ w ≤ 13 ∧
  (S (2 + b) 109 a = P 0 111 a ∧ (P 0 111 a = -1 ∨ ∃ a', a' < A ∧ P 0 111 a = Int32.ofNat a' ∧ rk a' = rk a)) ∧
  (w = 7 ∨ w = 8 ∨ w = 9 ∨ w = 12 → okc (P 0 112 a) ∧ S (2 + b) 108 a = cv (P 0 112 a)) ∧
  (w = 10 → ∃ t, t < M ∧ U 0 113 a = Int32.ofNat t ∧ S (2 + b) 108 a = Int32.ofNat t) ∧
  (w = 11 → ∃ r, r < NR ∧ U 0 113 a = Int32.ofNat r ∧ S (2 + b) 108 a = Int32.ofNat r ∧ 6 * r + 5 < rk a) ∧
  (w = 12 ∨ w = 13 → ∃ e, lo ≤ e ∧ e < hi ∧ P 0 114 a = Int32.ofNat e ∧ S (2 + b) 110 a = P 0 105 e ∧ blkF A P rk e (rk a)) ∧
  (w = 13 → (P 0 115 a = -1 ∧ S (2 + b) 111 a = -1 ∨ ∃ e, lo ≤ e ∧ e < hi ∧ P 0 115 a = Int32.ofNat e ∧ S (2 + b) 111 a = P 0 105 e ∧ blkF A P rk e (rk a)) ∧
    ∃ i0 i1, i0 ≤ i1 ∧ i1 ≤ c ∧ P 0 116 a = Int32.ofNat i0 ∧ P 0 117 a = Int32.ofNat i1 ∧ S (2 + b) 112 a = Int32.ofNat i0 ∧ S (2 + b) 113 a = Int32.ofNat i1 ∧ ∀ k, i0 ≤ k → k < i1 → cmpR b S P k) ∧ rk a ≤ 35
theorem blkF_low {e ρ : Nat} (h : blkF A P rk e ρ) (he : P' 0 105 e = P 0 105 e) (hA : A ≤ A') (hrk : ∀ a, a < A → rk' a = rk a) : blkF A' P' rk' e ρ := by
  unfold blkF
  rw [he]
  refine h.imp id ?_
  rintro ⟨a, h1, h2, h3⟩
  exact ⟨a, by omega, h2, by rw [hrk a h1]; exact h3⟩
theorem acT_low (h : acT b M NR A lo hi c rk S P U a) (ha : a < A) (h1 : lowS b A c S L S' L') (h2 : lowP A c E P P') (h3 : lowU A U U') (h105 : ∀ e, lo ≤ e → e < hi → P' 0 105 e = P 0 105 e) (hA : A ≤ A') (hlo : lo' ≤ lo) (hhi : hi ≤ hi') (hcc : c ≤ cc') (hrk : ∀ a, a < A → rk' a = rk a) : acT b M NR A' lo' hi' cc' rk' S' P' U' a := by
  obtain ⟨w, a1, a2, a3, a4, ⟨a5, a6⟩, a7, a8, a9, a10, a11, a12⟩ := h
  have eP : ∀ v, 110 ≤ v → v ≤ 117 → v ≠ 113 → P' 0 v a = P 0 v a := fun v g1 g2 g3 => h2.1 v a g1 g2 g3 ha
  have eS : ∀ v, 107 ≤ v → v ≤ 113 → S' (2 + b) v a = S (2 + b) v a := fun v g1 g2 => h1.1 v a g1 g2 ha
  have eU : U' 0 113 a = U 0 113 a := h3.1 a ha
  have er := hrk a ha
  have hB : ∀ e, lo ≤ e → e < hi → blkF A P rk e (rk a) → blkF A' P' rk' e (rk a) := fun e g1 g2 g => blkF_low g (h105 e g1 g2) hA hrk
  refine ⟨w, ?_⟩
  rw [eP 110 (by decide) (by decide) (by decide), eS 107 (by decide) (by decide), eS 109 (by decide) (by decide), eP 111 (by decide) (by decide) (by decide), eP 112 (by decide) (by decide) (by decide), eS 108 (by decide) (by decide), eU, eP 114 (by decide) (by decide) (by decide), eS 110 (by decide) (by decide), eP 115 (by decide) (by decide) (by decide), eS 111 (by decide) (by decide), eP 116 (by decide) (by decide) (by decide), eP 117 (by decide) (by decide) (by decide), eS 112 (by decide) (by decide), eS 113 (by decide) (by decide), er]
  refine ⟨a1, a2, a3, a4, ⟨a5, a6.imp id ?_⟩, a7, a8, a9, fun q => ?_, fun q => ⟨(a11 q).1.imp id ?_, ?_⟩, a12⟩
  · rintro ⟨a', g1, g2, g3⟩
    exact ⟨a', by omega, g2, by rw [hrk a' g1]; exact g3⟩
  · obtain ⟨e, g1, g2, g3, g4, g5⟩ := a10 q
    exact ⟨e, by omega, by omega, g3, by rw [h105 e g1 g2]; exact g4, hB e g1 g2 g5⟩
  · rintro ⟨e, g1, g2, g3, g4, g5⟩
    exact ⟨e, by omega, by omega, g3, by rw [h105 e g1 g2]; exact g4, hB e g1 g2 g5⟩
  · obtain ⟨-, i0, i1, g1, g2, g3, g4, g5, g6, g7⟩ := a11 q
    exact ⟨i0, i1, g1, by omega, g3, g4, g5, g6, fun k g8 g9 => cmpR_low (g7 k g8 g9) h1 h2 (by omega)⟩
/-- an act is linked to the next one -/
theorem acT_link {a' : Nat} (h : acT b M NR A lo hi c rk S P U a) (ha : a < 80) (h1 : a' < A) (h2 : rk a' = rk a) : acT b M NR A lo hi c rk (pt S (2 + b) 109 80 (Int32.ofNat a) (Int32.ofNat a')) (su P 0 111 a (Int32.ofNat a')) U a := by
  obtain ⟨w, a1, a2, a3, a4, -, a7, a8, a9, a10, a11, a12⟩ := h
  have hB : ∀ e, blkF A P rk e (rk a) → blkF A (su P 0 111 a (Int32.ofNat a')) rk e (rk a) := fun e g => blkF_low g (by rw [su_ne (by decide)]) (Nat.le_refl _) (fun _ _ => rfl)
  refine ⟨w, ?_⟩
  rw [su_ne (v' := 110) (by decide), su_ne (v' := 112) (by decide), su_ne (v' := 114) (by decide), su_ne (v' := 115) (by decide), su_ne (v' := 116) (by decide), su_ne (v' := 117) (by decide), su_self, pt_self ha (by omega), pt_vne (v' := 107) (by omega), pt_vne (v' := 108) (by omega), pt_vne (v' := 110) (by omega), pt_vne (v' := 111) (by omega), pt_vne (v' := 112) (by omega), pt_vne (v' := 113) (by omega)]
  refine ⟨a1, a2, a3, a4, ⟨rfl, Or.inr ⟨a', h1, rfl, h2⟩⟩, a7, a8, a9, fun q => ?_, fun q => ⟨(a11 q).1.imp id ?_, ?_⟩, a12⟩
  · obtain ⟨e, g1, g2, g3, g4, g5⟩ := a10 q
    exact ⟨e, g1, g2, g3, by rw [su_ne (by decide)]; exact g4, hB e g5⟩
  · rintro ⟨e, g1, g2, g3, g4, g5⟩
    exact ⟨e, g1, g2, g3, by rw [su_ne (by decide)]; exact g4, hB e g5⟩
  · obtain ⟨-, i0, i1, g1, g2, g3, g4, g5, g6, g7⟩ := a11 q
    refine ⟨i0, i1, g1, g2, g3, g4, g5, g6, fun k g8 g9 => ?_⟩
    have := g7 k g8 g9
    unfold cmpR at this ⊢
    rw [su_ne (v' := 119) (by decide), su_ne (v' := 120) (by decide), su_ne (v' := 121) (by decide), pt_vne (v' := 114) (by omega), pt_vne (v' := 115) (by omega), pt_vne (v' := 116) (by omega)]
    exact this
/-- an act's head -/
theorem aa_4 (hb : b < 2) {v : Nat} : aaS b S 4 v = S 4 v := by
  unfold aaS
  rw [su_gne (by omega), pt_vne (by omega), pt_vne (by omega), pt_vne (by omega)]
theorem aa_v (hb : b < 2) {v : Nat} (h : v ≠ 102) (h2 : v ≠ 107) (h3 : v ≠ 109) (h4 : v ≠ 111) : aaS b S (2 + b) v = S (2 + b) v := by
  unfold aaS
  rw [su_vne h, pt_vne (by omega), pt_vne (by omega), pt_vne (by omega)]
theorem aa_sb (hb : b < 2) : sameBut (pS b) S (aaS b S) := fun g v q => by
  unfold aaS
  have h : ∀ w, 100 ≤ w → ¬ (g = 2 + b ∧ v = w) := fun w hw e => q (Or.inl ⟨e.1, by omega⟩)
  have e : ∀ {S' : S3} {x : Int32}, su S' (2 + b) 102 0 x g v = S' g v := fun {S' x} => by
    funext i
    exact if_neg fun e => h 102 (by decide) ⟨e.1, e.2.1⟩
  rw [e, pt_vne (h 111 (by decide)), pt_vne (h 109 (by decide)), pt_vne (h 107 (by decide))]
theorem aa_8 (h : B8 b S) (hx : S (2 + b) 102 0 < 80) : B8 b (aaS b S) := by
  obtain ⟨A2, h1, h2⟩ := h
  rw [h2] at hx
  have := (ofN_lt (m := 80) (by omega) (by omega)).mp hx
  refine ⟨A2 + 1, by omega, ?_⟩
  unfold aaS
  rw [su_self, h2, ofN_a1]
theorem aa_row (h : S (2 + b) 102 0 = Int32.ofNat A) (hA : A < 80) : aaS b S (2 + b) 107 A = S 4 201 0 ∧ aaS b S (2 + b) 109 A = -1 ∧ aaS b S (2 + b) 111 A = -1 := by
  unfold aaS
  rw [h, su_vne (v' := 107) (by decide), su_vne (v' := 109) (by decide), su_vne (v' := 111) (by decide), pt_vne (v' := 107) (by omega), pt_vne (v' := 107) (by omega), pt_self hA (by omega), pt_vne (v' := 109) (by omega), pt_self hA (by omega), pt_self hA (by omega)]
  exact ⟨rfl, rfl, rfl⟩
theorem aa_low (hb : b < 2) (h : S (2 + b) 102 0 = Int32.ofNat A) (hA : A < 80) : lowS b A c S L (aaS b S) L := by
  unfold aaS
  rw [h]
  have h1 : lowS b A c S L (pt S (2 + b) 107 80 (Int32.ofNat A) (S 4 201 0)) L := lowS_pt (by decide) (by omega) (by omega) (by omega)
  have h2 : ∀ {S : S3}, lowS b A c S L (pt S (2 + b) 109 80 (Int32.ofNat A) (-1)) L := fun {S} => lowS_pt (by decide) (by omega) (by omega) (by omega)
  have h3 : ∀ {S : S3}, lowS b A c S L (pt S (2 + b) 111 80 (Int32.ofNat A) (-1)) L := fun {S} => lowS_pt (by decide) (by omega) (by omega) (by omega)
  have h4 : ∀ {S : S3} {x : Int32}, lowS b A c S L (su S (2 + b) 102 0 x) L := fun {S x} => lowS_4 (sbt_su sbt_refl (Or.inr ⟨rfl, Or.inl rfl⟩)) (fun _ _ => rfl) hb
  exact lowS_tr (lowS_tr (lowS_tr h1 h2 (Nat.le_refl _) (Nat.le_refl _)) h3 (Nat.le_refl _) (Nat.le_refl _)) h4 (Nat.le_refl _) (Nat.le_refl _)
theorem actP_low : lowP A c E P (actP A j P) := by
  have h1 : lowP A c E P (su P 0 109 0 (Int32.ofNat (A + 1))) := lowP_su (by omega) (by omega) (by omega) (by decide)
  have h2 : ∀ {P : S3} {x : Int32}, lowP A c E P (su P 0 110 A x) := fun {P x} => lowP_su (by omega) (by omega) (by omega) (by decide)
  have h3 : ∀ {P : S3} {x : Int32}, lowP A c E P (su P 0 111 A x) := fun {P x} => lowP_su (by omega) (by omega) (by omega) (by decide)
  have h4 : ∀ {P : S3} {x : Int32}, lowP A c E P (su P 0 114 A x) := fun {P x} => lowP_su (by omega) (by omega) (by omega) (by decide)
  have h5 : ∀ {P : S3} {x : Int32}, lowP A c E P (su P 0 115 A x) := fun {P x} => lowP_su (by omega) (by omega) (by omega) (by decide)
  have le := Nat.le_refl
  exact lowP_tr (lowP_tr (lowP_tr (lowP_tr h1 h2 (le _) (le _) (le _)) h3 (le _) (le _) (le _)) h4 (le _) (le _) (le _)) h5 (le _) (le _) (le _)
theorem actP_CP (h : CP k A cc E R' P) : CP (k + 1) (A + 1) cc E R' (actP A j P) := by
  obtain ⟨⟨a1, a2⟩, ⟨b1, b2⟩, ⟨c1, c2⟩, ⟨d1, d2⟩, e⟩ := h
  have q : CP (k + 1) (A + 1) cc E R' (su P 0 109 0 (Int32.ofNat (A + 1))) := by
    unfold CP
    rw [su_self, su_ne (v' := 118) (by decide), su_ne (v' := 106) (by decide), su_ne (v' := 108) (by decide)]
    exact ⟨⟨rfl, by omega⟩, ⟨b1, by omega⟩, ⟨c1, by omega⟩, ⟨d1, by omega⟩, fun v i g1 g2 => by rw [su_vne (by omega)]; exact e v i g1 g2⟩
  unfold actP
  exact CP_su (CP_su (CP_su (CP_su q (by decide) (by decide) (by decide) (by decide) (by omega)) (by decide) (by decide) (by decide) (by decide) (by omega)) (by decide) (by decide) (by decide) (by decide) (by omega)) (by decide) (by decide) (by decide) (by decide) (by omega)
theorem ms_sb {x : Int32} : sameBut (pS b) S (msS x S) := fun g v q => ms_ne (fun e => q (Or.inr ⟨e.1, by omega⟩))
theorem head_sim (H : bse b pl n m qf T S0 L0 V0) (h : Gk b m qf T S0 L0 V0 k dp A cc cS E M M' NR R' S L V P) (ej : S 4 211 k = Int32.ofNat j) (h1 : 4 ≤ j) (h2 : j ≤ 13) :
    ∃ x S1, k < m ∧ A < 400 ∧ (x = -1 ∨ ∃ a, a < 80 ∧ x = Int32.ofNat a) ∧ RC hc R 2 25 [.ref 317] S L x S1 L ∧ S1 4 201 0 = Int32.ofNat j ∧ S1 4 200 0 + 1 = Int32.ofNat (k + 1) ∧ Gk b m qf T S0 L0 V0 (k + 1) dp (A + 1) cc cS E M M' NR R' (stS (k + 1) S1) (stV (k + 1) L) (su (su V 4 214 k 5) 4 203 0 (Int32.ofNat (k + 1))) (actP A j P) ∧
      (stS (k + 1) S1 4 203 0 = 0 → S 4 203 0 = 0 ∧ A < 80 ∧ x = Int32.ofNat A ∧ S1 = aaS b S ∧ S (2 + b) 102 0 = Int32.ofNat A ∧ (p2 (su (su V 4 214 k 5) 4 203 0 (Int32.ofNat (k + 1))) T qf (k + 1)).2.2 = su (p2 V T qf k).2.2 0 102 0 (Int32.ofNat (A + 1))) := by
  have hb := H.1
  have hm := H.2.2.2.2.2.2.1
  obtain ⟨g1, F, g3, g4, g5⟩ := id h
  obtain ⟨hk, -, e201, e200, -, -⟩ := acc_G H h (by omega) ej
  have hA : A ≤ k := g4.1.2
  have hB := bse_B H F
  by_cases hx : S (2 + b) 102 0 < 80
  · have t := G_step (ρ := 5) (S1 := aaS b S) (L1 := L) (A' := A + 1) (cS' := cS) (M2 := M) (M3 := M') (NR2 := NR) (R3 := R') (P1 := actP A j P) H h hk (aa_8 h.1.2.2.2.2.2.2.2 hx) (aa_sb hb) (fun _ _ _ => rfl) (actP_CP g4) (fun _ => ⟨by rw [aa_4 hb], by rw [aa_4 hb]⟩) (fun a1 a2 a3 => by
      have a3' := a3
      obtain ⟨⟨c1, c2, c3, c4⟩, ⟨d1, d2, d3, d4⟩, ⟨e1, e2, e3⟩, e4, e5⟩ := a3
      have hA80 : A < 80 := by
        rw [e1] at hx
        exact (ofN_lt (m := 80) (by omega) (by omega)).mp hx
      have hne : ¬ (p2 V T qf k).2.2 0 102 0 = 80 := by
        rw [e2]
        exact fun q => absurd (ofN_inj (b := 80) (by omega) (by omega) q) (by omega)
      rw [e2_5 su_self, if_neg hne, aa_4 hb, aa_4 hb]
      refine ⟨pre2_CO (r := 5) a3' (by decide) su_self (by omega) (by omega), a1, fun q => absurd rfl q, fun _ => ⟨a2, ?_⟩⟩
      show CO b qf T (k + 1) M M' NR R' (A + 1) cS (aaS b S) L (su V 4 214 k 5) (su (p2 V T qf k).2.2 0 102 0 ((p2 V T qf k).2.2 0 102 0 + 1))
      unfold CO
      rw [aa_v (v := 100) hb (by decide) (by decide) (by decide) (by decide), aa_v (v := 101) hb (by decide) (by decide) (by decide) (by decide), aa_v (v := 103) hb (by decide) (by decide) (by decide) (by decide), su_vne (v := 102) (v' := 100) (by decide), su_vne (v := 102) (v' := 101) (by decide), su_self, e2]
      refine ⟨⟨c1, c2, c3, c4⟩, ⟨d1, d2, d3, d4⟩, ⟨?_, ofN_a1, by omega⟩, e4, NM_next e5 (by rw [su_self]; decide) (by rw [su_self]; decide)⟩
      unfold aaS
      rw [su_self, e1, ofN_a1])
    have hx8 : S (2 + b) 102 0 = -1 ∨ ∃ a, a < 80 ∧ S (2 + b) 102 0 = Int32.ofNat a := by
      obtain ⟨A2, q1, q2⟩ := h.1.2.2.2.2.2.2.2
      rw [q2] at hx
      exact Or.inr ⟨A2, (ofN_lt (m := 80) (by omega) (by omega)).mp hx, q2⟩
    refine ⟨S (2 + b) 102 0, aaS b S, hk, by omega, hx8, fun d Q => k25 hb hB hx, by rw [aa_4 hb]; exact e201, by rw [aa_4 hb]; exact e200, t.1, fun q0 => ?_⟩
    obtain ⟨t1, t2⟩ := t.2 q0
    obtain ⟨-, -, ⟨e1, e2, e3⟩, -⟩ := Gk_cnt h t1
    have hA80 : A < 80 := by
      rw [e1] at hx
      exact (ofN_lt (m := 80) (by omega) (by omega)).mp hx
    refine ⟨t1, hA80, e1, rfl, e1, ?_⟩
    rw [t2, e2_5 su_self, if_neg, e2, ofN_a1]
    rw [e2]
    exact fun q => absurd (ofN_inj (b := 80) (by omega) (by omega) q) (by omega)
  · have key : S 4 203 0 = 0 → e2 (su V 4 214 k 5) T qf (fun a => tkL T (qf a)) k (p2 V T qf k).2.2 = (4, (p2 V T qf k).2.2) := fun q0 => by
      obtain ⟨-, -, ⟨e1, e2', e3⟩, -⟩ := Gk_cnt h q0
      rw [e1] at hx
      have : A = 80 := by
        by_cases g : A < 80
        · exact absurd ((ofN_lt (m := 80) (by omega) (by omega)).mpr g) hx
        · omega
      rw [e2_5 su_self, if_pos (by rw [e2', this]; rfl)]
    have e202 : S 4 202 0 = Int32.ofNat (qf k) := g1.2.2.2.1.trans (bse_t H F g1.1).2.2.1
    have t := G_step (ρ := 5) (S1 := msS 4 S) (L1 := L) (A' := A + 1) (cS' := cS) (M2 := M) (M3 := M') (NR2 := NR) (R3 := R') (P1 := actP A j P) H h hk (B8_eq h.1.2.2.2.2.2.2.2 (ms_ne (by omega))) ms_sb (fun _ _ _ => rfl) (actP_CP g4) (fun q => by rw [ms_1 q]; exact ⟨rfl, rfl⟩) (fun a1 a2 a3 => by
      rw [key a1]
      exact ⟨pre2_CO (r := 5) a3 (by decide) su_self (by omega) (by omega), (ms_0 a1).1, fun _ => (ms_0 a1).2.trans e202, fun q => absurd (show (4 : Int32) = 0 from q) (by decide)⟩)
    refine ⟨-1, msS 4 S, hk, by omega, Or.inl rfl, fun d Q => k25_no hb hB hx, by rw [ms_v (by decide) (by decide)]; exact e201, by rw [ms_v (by decide) (by decide)]; exact e200, t.1, fun q0 => ?_⟩
    obtain ⟨t1, t2⟩ := t.2 q0
    rw [st_ne (by omega), (ms_0 t1).1] at q0
    exact absurd q0 (by decide)
end ACTA
