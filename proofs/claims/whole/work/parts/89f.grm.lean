/-! THE GRAMMAR IN LOCKSTEP: what ties class and reference at a token -/
section GRM
variable {b pl n m k p A A' cc cS c' cS' E E' M M' NR R' M2 M3 NR2 R3 dp dp' : Nat} {qf : Nat → Nat} {T : Nat → Int32} {S S0 S1 V V0 V1 P P1 U U1 : S3} {L L0 L1 : L3} {x y ρ : Int32}
/-- the second pass begins with this -/
def G0 : S3 := fun _ v _ => if v = 113 then -2 else 0
def p2 (V : S3) (T : Nat → Int32) (qf : Nat → Nat) (k : Nat) : Int32 × Nat × S3 := ps2 V T qf (fun a => tkL T (qf a)) k 0 G0
/-- what does not change while a book is read -/
def bse (b pl n m : Nat) (qf : Nat → Nat) (T : Nat → Int32) (S0 : S3) (L0 : L3) (V0 : S3) : Prop :=
  b < 2 ∧ Pok pl ∧ (S0 4 208 0).toNatClampNeg = BA b ∧ (V0 4 207 0).toNatClampNeg = pl ∧ tpV V0 T n ∧ resL L0 ∧ m ≤ 400 ∧
  (∀ a, a ≤ m → qf a ≤ 1600 ∧ S0 4 211 a = kf a (tkK L0 T (qf a)) ∧ S0 4 212 a = Int32.ofNat (qf a) ∧ L0 4 1 a = tkV T (qf a) ∧ V0 4 211 a = toR (S0 4 211 a) ∧ V0 4 212 a = Int32.ofNat (qf a) ∧ V0 4 213 a = Int32.ofNat (tkL T (qf a))) ∧
  (∀ a, a < m → ¬ (S0 4 211 a = 31 ∨ S0 4 211 a = 32)) ∧ (S0 4 211 m = 31 ∨ S0 4 211 m = 32)
def pS (b : Nat) (g v : Nat) : Prop := g = 2 + b ∧ 100 ≤ v ∨ g = 4 ∧ 200 ≤ v ∧ v ≤ 204
def pV3 (g v : Nat) : Prop := g = 4 ∧ (v = 203 ∨ v = 204 ∨ v = 214)
def fr3 (b : Nat) (S0 : S3) (L0 : L3) (V0 S : S3) (L : L3) (V : S3) : Prop := sameBut (pS b) S0 S ∧ sameBut pV3 V0 V ∧ ∀ g v, ¬ (g = 4 ∧ (v = 0 ∨ v = 3 ∨ v = 4)) → L g v = L0 g v
/-- the class's count of acts, also behind a mistake -/
def B8 (b : Nat) (S : S3) : Prop := ∃ A2, A2 ≤ 80 ∧ S (2 + b) 102 0 = Int32.ofNat A2
theorem B8_eq (h : B8 b S) (e : S1 (2 + b) 102 = S (2 + b) 102) : B8 b S1 := by
  unfold B8
  rw [e]
  exact h
/-- both stand at token k -/
def cu (b m k dp : Nat) (S : S3) (L : L3) (V : S3) : Prop := k ≤ m ∧ S 4 200 0 = Int32.ofNat k ∧ S 4 201 0 = S 4 211 k ∧ S 4 202 0 = S 4 212 k ∧ L 4 0 0 = L 4 1 k ∧ V 4 203 0 = Int32.ofNat k ∧ V 4 204 0 = Int32.ofNat dp ∧ B8 b S
/-- names ahead -/
def NM (qf : Nat → Nat) (T : Nat → Int32) (k M' R' : Nat) (L : L3) (V : S3) : Prop := rc V 1 k = M' ∧ rc V 2 k = R' ∧ nmO V T qf (L 4 3) 1 k ∧ nmO V T qf (L 4 4) 2 k
/-- without a mistake so far: the counts -/
def CO (b : Nat) (qf : Nat → Nat) (T : Nat → Int32) (k M M' NR R' A cS : Nat) (S : S3) (L : L3) (V U : S3) : Prop :=
  (S (2 + b) 100 0 = Int32.ofNat M ∧ M ≤ 10 ∧ U 0 100 0 = Int32.ofNat M' ∧ M' ≤ 10) ∧ (S (2 + b) 101 0 = Int32.ofNat NR ∧ NR ≤ 6 ∧ U 0 101 0 = Int32.ofNat R' ∧ R' ≤ 6) ∧
  (S (2 + b) 102 0 = Int32.ofNat A ∧ U 0 102 0 = Int32.ofNat A ∧ A ≤ 80) ∧ S (2 + b) 103 0 = Int32.ofNat cS ∧ NM qf T k M' R' L V
/-- what the second pass will say of the tokens ahead -/
def SE (b : Nat) (qf : Nat → Nat) (T : Nat → Int32) (k M M' NR R' A cS : Nat) (S : S3) (L : L3) (V : S3) : Prop :=
  pr2 V T qf (fun a => tkL T (qf a)) k 0 G0 ∧ S 4 203 0 = (p2 V T qf k).1 ∧ ((p2 V T qf k).1 ≠ 0 → S 4 204 0 = Int32.ofNat (qf (p2 V T qf k).2.1) ∧ (p2 V T qf k).2.1 < k) ∧
  ((p2 V T qf k).1 = 0 → S 4 204 0 = -1 ∧ CO b qf T k M M' NR R' A cS S L V (p2 V T qf k).2.2)
/-- the reference's counts of the first pass -/
def CP (k A cc E R' : Nat) (P : S3) : Prop := (P 0 109 0 = Int32.ofNat A ∧ A ≤ k) ∧ (P 0 118 0 = Int32.ofNat cc ∧ 4 * cc ≤ k + 3) ∧ (P 0 106 0 = Int32.ofNat E ∧ E ≤ k) ∧ (P 0 108 0 = Int32.ofNat R' ∧ R' ≤ k) ∧ ∀ v i, 100 ≤ v → v ≤ 104 → P 0 v i = 0
def Gk (b m : Nat) (qf : Nat → Nat) (T : Nat → Int32) (S0 : S3) (L0 : L3) (V0 : S3) (k dp A cc cS E M M' NR R' : Nat) (S : S3) (L : L3) (V P : S3) : Prop :=
  cu b m k dp S L V ∧ fr3 b S0 L0 V0 S L V ∧ (∀ u, k ≤ u → u ≤ m → V 4 214 u = 0) ∧ CP k A cc E R' P ∧ SE b qf T k M M' NR R' A cS S L V
/-- both are stuck at one token -/
def Fk (b m : Nat) (qf : Nat → Nat) (S0 : S3) (L0 : L3) (V0 S : S3) (L : L3) (V : S3) : Prop := ∃ k, k ≤ m ∧ S 4 202 0 = Int32.ofNat (qf k) ∧ V 4 203 0 = Int32.ofNat k ∧ fr3 b S0 L0 V0 S L V
/-- rows that are not written -/
theorem nS_ge (hb : b < 2) {v : Nat} (h : 205 ≤ v) : ¬ pS b 4 v := fun q => by
  rcases q with q | q <;> omega
theorem nV_211 {v : Nat} (h1 : v ≠ 203) (h2 : v ≠ 204) (h3 : v ≠ 214) : ¬ pV3 4 v := fun q => by
  rcases q.2 with q | q | q
  · exact h1 q
  · exact h2 q
  · exact h3 q
theorem bse_B (H : bse b pl n m qf T S0 L0 V0) (F : fr3 b S0 L0 V0 S L V) : (S 4 208 0).toNatClampNeg = BA b := by
  rw [F.1 4 208 (nS_ge H.1 (by decide))]
  exact H.2.2.1
theorem bse_P (H : bse b pl n m qf T S0 L0 V0) (F : fr3 b S0 L0 V0 S L V) : (V 4 207 0).toNatClampNeg = pl := by
  rw [F.2.1 4 207 (nV_211 (by decide) (by decide) (by decide))]
  exact H.2.2.2.1
theorem bse_T (H : bse b pl n m qf T S0 L0 V0) (F : fr3 b S0 L0 V0 S L V) : tpV V T n := by
  have h := H.2.2.2.2.1
  unfold tpV at h ⊢
  rw [F.2.1 4 201 (nV_211 (by decide) (by decide) (by decide)), F.2.1 4 210 (nV_211 (by decide) (by decide) (by decide))]
  exact h
theorem bse_t (H : bse b pl n m qf T S0 L0 V0) (F : fr3 b S0 L0 V0 S L V) {a : Nat} (ha : a ≤ m) : qf a ≤ 1600 ∧ S 4 211 a = kf a (tkK L0 T (qf a)) ∧ S 4 212 a = Int32.ofNat (qf a) ∧ L 4 1 a = tkV T (qf a) ∧ V 4 211 a = toR (S 4 211 a) ∧ V 4 212 a = Int32.ofNat (qf a) ∧ V 4 213 a = Int32.ofNat (tkL T (qf a)) := by
  have h := H.2.2.2.2.2.2.2.1 a ha
  rw [F.1 4 211 (nS_ge H.1 (by decide)), F.1 4 212 (nS_ge H.1 (by decide)), F.2.1 4 211 (nV_211 (by decide) (by decide) (by decide)), F.2.1 4 212 (nV_211 (by decide) (by decide) (by decide)), F.2.1 4 213 (nV_211 (by decide) (by decide) (by decide)), F.2.2 4 1 (by decide)]
  exact h
theorem bse_n (H : bse b pl n m qf T S0 L0 V0) (F : fr3 b S0 L0 V0 S L V) {a : Nat} (ha : a ≤ m) (h : ¬ (S 4 211 a = 31 ∨ S 4 211 a = 32)) : a < m := by
  rw [F.1 4 211 (nS_ge H.1 (by decide))] at h
  by_cases e : a = m
  · exact absurd H.2.2.2.2.2.2.2.2.2 (e ▸ h)
  · omega
/-- a kind, in both -/
theorem bse_k (H : bse b pl n m qf T S0 L0 V0) (F : fr3 b S0 L0 V0 S L V) {a : Nat} (ha : a ≤ m) : ∃ j, j ≤ 32 ∧ S 4 211 a = Int32.ofNat j ∧ V 4 211 a = toR (Int32.ofNat j) := by
  obtain ⟨-, h2, -, -, h5, -, -⟩ := bse_t H F ha
  obtain ⟨j1, hj1, e1⟩ := tkK_rng (L := L0) (T := T) (p := qf a)
  obtain ⟨j, hj, e⟩ := kf_rng (k := a) hj1
  refine ⟨j, hj, ?_, ?_⟩
  · rw [h2, e1, e]
  · rw [h5, h2, e1, e]
theorem toR_inj : ∀ i, i ≤ 32 → ∀ j, j ≤ 32 → toR (Int32.ofNat i) = toR (Int32.ofNat j) → i = j := by decide +kernel
theorem bse_ne (H : bse b pl n m qf T S0 L0 V0) (F : fr3 b S0 L0 V0 S L V) {a j : Nat} (ha : a ≤ m) (hj : j ≤ 32) (h : S 4 211 a ≠ Int32.ofNat j) : V 4 211 a ≠ toR (Int32.ofNat j) := by
  obtain ⟨i, h1, h2, h3⟩ := bse_k H F ha
  rw [h3]
  intro q
  exact h (by rw [h2, toR_inj i h1 j hj q])
theorem bse_eq (H : bse b pl n m qf T S0 L0 V0) (F : fr3 b S0 L0 V0 S L V) {a : Nat} (ha : a ≤ m) (h : S 4 211 a = x) : V 4 211 a = toR x := by
  rw [(bse_t H F ha).2.2.2.2.1, h]
theorem s6_25 : ∀ s, s < 6 → 25 + Int32.ofNat s ≠ 24 ∧ 25 + Int32.ofNat s ≠ 23 := by decide +kernel
theorem ix6_25 : 25 + ix6 x ≠ 24 ∧ 25 + ix6 x ≠ 23 ∨ ix6 x < 0 := by
  rcases ix6_c (x := x) with h | ⟨s, h1, h2, -⟩
  · exact Or.inr h
  · refine Or.inl ?_
    rw [h2]
    exact s6_25 s h1
theorem tk_24 (h : tkK L0 T p = 24) : nuT T p := by
  unfold tkK at h
  unfold nuT
  by_cases h1 : il (T p) = 0
  · rw [if_pos h1] at h
    by_cases h2 : idg (T p) = 0
    · rw [if_pos h2] at h
      by_cases h3 : T p = -1
      · rw [if_pos h3] at h; exact absurd h (by decide)
      · rw [if_neg h3] at h
        by_cases h4 : ix6 (T p) < 0
        · rw [if_pos h4] at h; exact absurd h (by decide)
        · rw [if_neg h4] at h
          exact absurd h (ix6_25.resolve_right h4).1
    · rw [if_neg h2] at h
      by_cases h3 : 3 < dgE T p - p
      · rw [if_pos h3] at h; exact absurd h (by decide)
      · exact ⟨h1, idg_01.resolve_left h2, by omega⟩
  · rw [if_neg h1] at h
    by_cases h3 : 8 < wdE T p - p
    · rw [if_pos h3] at h; exact absurd h (by decide)
    · rw [if_neg h3] at h
      obtain ⟨a, ha, ea⟩ := kw_rng (L := L0) (z := wdV T p) 23 0 rfl
      rw [ea] at h
      exact absurd (ofN_inj (b := 24) (by omega) (by omega) h) (by omega)
theorem tk_23 (h : tkK L0 T p = 23) : nmT T p := by
  unfold tkK at h
  unfold nmT
  by_cases h1 : il (T p) = 0
  · rw [if_pos h1] at h
    by_cases h2 : idg (T p) = 0
    · rw [if_pos h2] at h
      by_cases h3 : T p = -1
      · rw [if_pos h3] at h; exact absurd h (by decide)
      · rw [if_neg h3] at h
        by_cases h4 : ix6 (T p) < 0
        · rw [if_pos h4] at h; exact absurd h (by decide)
        · rw [if_neg h4] at h
          exact absurd h (ix6_25.resolve_right h4).2
    · rw [if_neg h2] at h
      by_cases h3 : 3 < dgE T p - p
      · rw [if_pos h3] at h; exact absurd h (by decide)
      · rw [if_neg h3] at h; exact absurd h (by decide)
  · rw [if_neg h1] at h
    by_cases h3 : 8 < wdE T p - p
    · rw [if_pos h3] at h; exact absurd h (by decide)
    · exact ⟨il_01.resolve_left h1, by omega⟩
theorem bse_kf (H : bse b pl n m qf T S0 L0 V0) (F : fr3 b S0 L0 V0 S L V) {a : Nat} (ha : a < m) : S 4 211 a = tkK L0 T (qf a) := by
  rw [(bse_t H F (by omega)).2.1]
  unfold kf
  have := H.2.2.2.2.2.2.1
  rw [if_neg (by omega)]
theorem bse_24 (H : bse b pl n m qf T S0 L0 V0) (F : fr3 b S0 L0 V0 S L V) {a : Nat} (ha : a < m) (h : S 4 211 a = 24) : nuT T (qf a) := tk_24 ((bse_kf H F ha).symm.trans h)
theorem bse_23 (H : bse b pl n m qf T S0 L0 V0) (F : fr3 b S0 L0 V0 S L V) {a : Nat} (ha : a < m) (h : S 4 211 a = 23) : nmT T (qf a) := tk_23 ((bse_kf H F ha).symm.trans h)
/-- a token that is not the last one lies on the tape -/
theorem byte_n (hT : tpV V T n) {i : Nat} (h : T i ≠ -1) : i < n := by
  have := hT.2.2 i
  by_cases e : i < n
  · exact e
  · rw [if_neg e] at this; exact absurd this h
theorem il_ne (h : il x = 1) : x ≠ -1 := fun q => by rw [q] at h; exact absurd h (by decide)
theorem idg_ne (h : idg x = 1) : x ≠ -1 := fun q => by rw [q] at h; exact absurd h (by decide)
theorem tk_on (hT : tpV V T n) (h : tkK L0 T p ≠ 31) : p + tkL T p ≤ n := by
  unfold tkK at h
  unfold tkL
  by_cases h1 : il (T p) = 0
  · rw [if_pos h1] at h ⊢
    by_cases h2 : idg (T p) = 0
    · rw [if_pos h2] at h ⊢
      by_cases h3 : T p = -1
      · rw [if_pos h3] at h; exact absurd rfl h
      · have := byte_n hT h3; omega
    · rw [if_neg h2]
      have h4 : idg (T p) = 1 := idg_01.resolve_left h2
      have hp := byte_n hT (idg_ne h4)
      by_cases e : dgE T p - p = 0
      · omega
      · have := byte_n hT (idg_ne (de_dg (T := T) (1600 - p) p (dgE T p - 1) (by omega) (by unfold dgE at e ⊢; omega)))
        omega
  · rw [if_neg h1]
    have h4 : il (T p) = 1 := il_01.resolve_left h1
    have hp := byte_n hT (il_ne h4)
    by_cases e : wdE T p - p = 0
    · omega
    · have := byte_n hT (il_ne (wd_il (T := T) (p := p) (wdE T p - p - 1) (by omega)))
      omega
theorem bse_on (H : bse b pl n m qf T S0 L0 V0) (F : fr3 b S0 L0 V0 S L V) {a : Nat} (ha : a < m) : onT V n a (qf a) (tkL T (qf a)) := by
  have h400 := H.2.2.2.2.2.2.1
  obtain ⟨-, -, -, -, -, h6, h7⟩ := bse_t H F (show a ≤ m by omega)
  refine ⟨by omega, h6, h7, tk_on (L0 := L0) H.2.2.2.2.1 fun q => ?_⟩
  have h8 := H.2.2.2.2.2.2.2.2.1 a ha
  rw [← F.1 4 211 (nS_ge H.1 (by decide)), bse_kf H F ha] at h8
  exact h8 (Or.inl q)
/-- frames -/
theorem fr3_refl : fr3 b S L V S L V := ⟨sbt_refl, sbt_refl, fun _ _ _ => rfl⟩
theorem fr3_trans {S2 V2 : S3} {L2 : L3} (h1 : fr3 b S0 L0 V0 S1 L1 V1) (h2 : fr3 b S1 L1 V1 S2 L2 V2) : fr3 b S0 L0 V0 S2 L2 V2 := ⟨sbt_trans h1.1 h2.1, sbt_trans h1.2.1 h2.2.1, fun g v h => (h2.2.2 g v h).trans (h1.2.2 g v h)⟩
theorem sl_vne {g v i g' v' : Nat} {z : Int64} (h : ¬ (g' = g ∧ v' = v)) : sl L g v i z g' v' = L g' v' := by
  funext j
  exact if_neg fun q => h ⟨q.1, q.2.1⟩
theorem st_ne {k g v : Nat} (h : ¬ (g = 4 ∧ (v = 200 ∨ v = 201 ∨ v = 202))) : stS k S g v = S g v := by
  have h1 : ∀ {S : S3} {v' i : Nat} {x : Int32}, (v' = 200 ∨ v' = 201 ∨ v' = 202) → su S 4 v' i x g v = S g v := fun {S v' i x} h1 => by
    funext j
    refine if_neg fun q => h ⟨q.1, ?_⟩
    rw [q.2.1]
    exact h1
  unfold stS
  rw [h1 (Or.inr (Or.inr rfl)), h1 (Or.inr (Or.inl rfl)), h1 (Or.inl rfl)]
theorem fr3_st {k : Nat} (h : fr3 b S0 L0 V0 S L V) : fr3 b S0 L0 V0 (stS k S) (stV k L) V := by
  refine ⟨fun g v q => ?_, h.2.1, fun g v q => ?_⟩
  · rw [st_ne (fun e => q (Or.inr ⟨e.1, by omega⟩)), h.1 g v q]
  · unfold stV
    rw [sl_vne (fun e => q ⟨e.1, Or.inl e.2⟩), h.2.2 g v q]
/-- a step, in both, over a token with the role ρ -/
theorem cu_step (h : cu b m k dp S1 L1 V) (hb : b < 2) (h8 : B8 b S) (hk : k < m) : cu b m (k + 1) dp (stS (k + 1) S) (stV (k + 1) L) (su (su V 4 214 k ρ) 4 203 0 (Int32.ofNat (k + 1))) := by
  obtain ⟨-, -, -, -, -, -, h7, -⟩ := h
  refine ⟨by omega, ?_, ?_, ?_, ?_, su_self, ?_, B8_eq h8 (st_ne (by omega))⟩
  · unfold stS; rw [su_ne (by decide), su_ne (by decide), su_self]
  · rw [st_ne (v := 211) (by omega)]; unfold stS; rw [su_ne (by decide), su_self]
  · rw [st_ne (v := 212) (by omega)]; unfold stS; rw [su_self]
  · unfold stV
    rw [sl_self, sl_vne (by omega)]
  · rw [su_ne (by decide), su_ne (by decide)]; exact h7
theorem fr3_V (h : fr3 b S0 L0 V0 S L V) {v i : Nat} {x : Int32} (hv : v = 203 ∨ v = 204 ∨ v = 214) : fr3 b S0 L0 V0 S L (su V 4 v i x) := ⟨h.1, sbt_su h.2.1 ⟨rfl, hv⟩, h.2.2⟩
theorem ah_step (h : ∀ u, k ≤ u → u ≤ m → V 4 214 u = 0) : ∀ u, k + 1 ≤ u → u ≤ m → su (su V 4 214 k ρ) 4 203 0 (Int32.ofNat (k + 1)) 4 214 u = 0 := fun u h1 h2 => by
  rw [su_ne (by decide), su_off (by omega)]
  exact h u (by omega) h2
theorem CO_st {k1 : Nat} (h : CO b qf T k M M' NR R' A cS S L V U) (hb : b < 2) : CO b qf T k M M' NR R' A cS (stS k1 S) (stV k1 L) V U := by
  unfold CO NM at h ⊢
  unfold stV
  rw [st_ne (by omega), st_ne (by omega), st_ne (by omega), st_ne (by omega), sl_vne (by omega), sl_vne (by omega)]
  exact h
theorem CO_V (h : CO b qf T k M M' NR R' A cS S L V U) (hV : ∀ u, u < k → V1 4 214 u = V 4 214 u) : CO b qf T k M M' NR R' A cS S L V1 U := by
  obtain ⟨h1, h2, h3, h4, h5, h6, h7, h8⟩ := h
  have hc : ∀ u, u ≤ k → ∀ ρ, rc V1 ρ u = rc V ρ u := fun u hu ρ => rc_c2 u (fun a ha => hV a (by omega))
  refine ⟨h1, h2, h3, h4, ?_, ?_, fun u hu q => ?_, fun u hu q => ?_⟩
  · rw [hc k (Nat.le_refl _)]; exact h5
  · rw [hc k (Nat.le_refl _)]; exact h6
  · rw [hc u (by omega)]; rw [hV u hu] at q; exact h7 u hu q
  · rw [hc u (by omega)]; rw [hV u hu] at q; exact h8 u hu q
theorem p2_V (hV : ∀ u, u < k → V1 4 214 u = V 4 214 u) : p2 V1 T qf k = p2 V T qf k := ps2_c2 k 0 G0 (fun u hu => hV u (by omega))
theorem p2_snoc : p2 V T qf (k + 1) = if (p2 V T qf k).1 = 0 then (if (e2 V T qf (fun a => tkL T (qf a)) k (p2 V T qf k).2.2).1 = 0 then (0, k + 1, (e2 V T qf (fun a => tkL T (qf a)) k (p2 V T qf k).2.2).2) else ((e2 V T qf (fun a => tkL T (qf a)) k (p2 V T qf k).2.2).1, k, (e2 V T qf (fun a => tkL T (qf a)) k (p2 V T qf k).2.2).2)) else p2 V T qf k := by
  have := ps2_snoc (V := V) (T := T) (qf := qf) (lf := fun a => tkL T (qf a)) k 0 G0
  simp only [Nat.zero_add] at this
  exact this
/-- the second pass goes one token on: V1 has the role of token k, S1 what the class has noted -/
theorem SE_step (h : SE b qf T k M M' NR R' A cS S L V) (hb : b < 2) (hV : ∀ u, u < k → V1 4 214 u = V 4 214 u)
    (h1 : S 4 203 0 ≠ 0 → S1 4 203 0 = S 4 203 0 ∧ S1 4 204 0 = S 4 204 0)
    (h2 : S 4 203 0 = 0 → S 4 204 0 = -1 → CO b qf T k M M' NR R' A cS S L V1 (p2 V T qf k).2.2 → pre2 V1 k (p2 V T qf k).2.2 ∧ S1 4 203 0 = (e2 V1 T qf (fun a => tkL T (qf a)) k (p2 V T qf k).2.2).1 ∧
      ((e2 V1 T qf (fun a => tkL T (qf a)) k (p2 V T qf k).2.2).1 ≠ 0 → S1 4 204 0 = Int32.ofNat (qf k)) ∧
      ((e2 V1 T qf (fun a => tkL T (qf a)) k (p2 V T qf k).2.2).1 = 0 → S1 4 204 0 = -1 ∧ CO b qf T (k + 1) M2 M3 NR2 R3 A' cS' S1 L1 V1 (e2 V1 T qf (fun a => tkL T (qf a)) k (p2 V T qf k).2.2).2)) :
    SE b qf T (k + 1) M2 M3 NR2 R3 A' cS' (stS (k + 1) S1) (stV (k + 1) L1) (su V1 4 203 0 (Int32.ofNat (k + 1))) ∧
      (stS (k + 1) S1 4 203 0 = 0 → S 4 203 0 = 0 ∧ (p2 (su V1 4 203 0 (Int32.ofNat (k + 1))) T qf (k + 1)).2.2 = (e2 V1 T qf (fun a => tkL T (qf a)) k (p2 V T qf k).2.2).2) := by
  obtain ⟨s1, s2, s3, s4⟩ := h
  have eV : ∀ u, su V1 4 203 0 (Int32.ofNat (k + 1)) 4 214 u = V1 4 214 u := fun u => by rw [su_ne (by decide)]
  have eP : p2 V1 T qf k = p2 V T qf k := p2_V hV
  have eS : ∀ v, v = 203 ∨ v = 204 → stS (k + 1) S1 4 v 0 = S1 4 v 0 := fun v hv => by rw [st_ne (by omega)]
  have e3 := eS 203 (Or.inl rfl)
  have e4 := eS 204 (Or.inr rfl)
  have ePn : p2 (su V1 4 203 0 (Int32.ofNat (k + 1))) T qf (k + 1) = p2 V1 T qf (k + 1) := p2_V (fun u _ => eV u)
  have hpr : pr2 V1 T qf (fun a => tkL T (qf a)) k 0 G0 := pr2_c2 k 0 G0 (fun u hu => hV u (by omega)) s1
  have hprV : pr2 V1 T qf (fun a => tkL T (qf a)) (k + 1) 0 G0 → pr2 (su V1 4 203 0 (Int32.ofNat (k + 1))) T qf (fun a => tkL T (qf a)) (k + 1) 0 G0 := fun q => pr2_c2 (k + 1) 0 G0 (fun u _ => eV u) q
  unfold SE
  rw [ePn, p2_snoc, eP, e3, e4]
  by_cases h0 : (p2 V T qf k).1 = 0
  · have hS0 : S 4 203 0 = 0 := s2.trans h0
    obtain ⟨s5, s6⟩ := s4 h0
    obtain ⟨t1, t2, t3, t4⟩ := h2 hS0 s5 (CO_V s6 hV)
    rw [if_pos h0]
    by_cases g : (e2 V1 T qf (fun a => tkL T (qf a)) k (p2 V T qf k).2.2).1 = 0
    · rw [if_pos g]
      refine ⟨⟨hprV (pr2_snoc k 0 G0 hpr (fun _ => ?_)), t2.trans g, fun q => absurd rfl q, fun _ => ⟨(t4 g).1, ?_⟩⟩, fun _ => ⟨hS0, rfl⟩⟩
      · rw [Nat.zero_add]
        exact (show (ps2 V1 T qf (fun a => tkL T (qf a)) k 0 G0) = p2 V T qf k from eP) ▸ t1
      · exact CO_V (CO_st (t4 g).2 hb) (fun u _ => eV u)
    · rw [if_neg g]
      refine ⟨⟨hprV (pr2_snoc k 0 G0 hpr (fun _ => ?_)), t2, fun _ => ⟨t3 g, by show k < k + 1; omega⟩, fun q => absurd q g⟩, fun q => absurd (t2.symm.trans q) g⟩
      rw [Nat.zero_add]
      exact (show (ps2 V1 T qf (fun a => tkL T (qf a)) k 0 G0) = p2 V T qf k from eP) ▸ t1
  · have hS0 : S 4 203 0 ≠ 0 := fun q => h0 (s2.symm.trans q)
    obtain ⟨t1, t2⟩ := h1 hS0
    obtain ⟨t3, t4⟩ := s3 h0
    rw [if_neg h0, t1, t2]
    refine ⟨⟨hprV (pr2_snoc k 0 G0 hpr (fun q => absurd ((congrArg Prod.fst eP).symm.trans q) h0)), s2, fun _ => ⟨t3, by omega⟩, fun q => absurd q h0⟩, fun q => absurd q hS0⟩
end GRM
