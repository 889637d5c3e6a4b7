/-! BOTH CUT ALIKE: kinds, all tokens -/
section TOKD
variable {S V : S3} {L L0 : L3} {d i j k n m p l : Nat} {x y ch : Int32} {z : Int64} {T : Nat → Int32}
/-- the reference's word for a kind of the class -/
def toR (x : Int32) : Int32 := if x = 31 then 900 else if x = 32 then 901 else if x = 24 then 41 else if x = 23 then 40 else if x = 25 then 90 else if x = 26 then 91 else if x = 27 then 109 else if x = 28 then 110 else if x = 29 then 112 else if x = 30 then 111 else x
theorem toR_j : ∀ j, j < 23 → toR (Int32.ofNat j) = Int32.ofNat j := by decide +kernel
theorem toR_900 : ∀ a, a ≤ 32 → (toR (Int32.ofNat a) = 900 ↔ Int32.ofNat a = 31) := by decide +kernel
theorem toR_lt : ∀ a, a ≤ 32 → (toR (Int32.ofNat a) < 900 ↔ ¬ (Int32.ofNat a = 31 ∨ Int32.ofNat a = 32)) := by decide +kernel
theorem kw_R (hL : resL L) (h8 : wdE T p - p ≤ 8) : ∀ (k j : Nat), j + k = 23 → kR T p (wdE T p - p) k j = toR (kw L k j (wdV T p)) := by
  intro k
  induction k with
  | zero => intro j _; rfl
  | succ k ih =>
    intro j hj
    have hw := wq_word (j := j) (by omega) hL h8
    rw [kR, kw]
    by_cases e : L 4 2 j = wdV T p
    · rw [if_neg (fun q => hw.mp q e), if_pos e, toR_j j (by omega)]
    · rw [if_pos (hw.mpr e), if_neg e]
      exact ih (j + 1) (by omega)
theorem kw_rng : ∀ (k j : Nat), j + k = 23 → ∃ a, a ≤ 23 ∧ kw L k j z = Int32.ofNat a := by
  intro k
  induction k with
  | zero => intro j _; exact ⟨23, by decide, rfl⟩
  | succ k ih =>
    intro j hj
    rw [kw]
    split
    · exact ⟨j, by omega, rfl⟩
    · exact ih (j + 1) (by omega)
theorem ix6_c : ix6 x < 0 ∨ ∃ s, s < 6 ∧ ix6 x = Int32.ofNat s ∧ x = f6 s := by
  unfold ix6
  by_cases g0 : x = 40
  · exact Or.inr ⟨0, by decide, by rw [if_pos g0]; rfl, g0⟩
  by_cases g1 : x = 41
  · exact Or.inr ⟨1, by decide, by rw [if_neg g0, if_pos g1]; rfl, g1⟩
  by_cases g2 : x = 59
  · exact Or.inr ⟨2, by decide, by rw [if_neg g0, if_neg g1, if_pos g2]; rfl, g2⟩
  by_cases g3 : x = 60
  · exact Or.inr ⟨3, by decide, by rw [if_neg g0, if_neg g1, if_neg g2, if_pos g3]; rfl, g3⟩
  by_cases g4 : x = 62
  · exact Or.inr ⟨4, by decide, by rw [if_neg g0, if_neg g1, if_neg g2, if_neg g3, if_pos g4]; rfl, g4⟩
  by_cases g5 : x = 61
  · exact Or.inr ⟨5, by decide, by rw [if_neg g0, if_neg g1, if_neg g2, if_neg g3, if_neg g4, if_pos g5]; rfl, g5⟩
  · refine Or.inl ?_
    rw [if_neg g0, if_neg g1, if_neg g2, if_neg g3, if_neg g4, if_neg g5]
    decide
theorem sg_R : ∀ s, s < 6 → 50 + f6 s = toR (25 + Int32.ofNat s) := by decide +kernel
theorem sg_nn : ∀ s, s < 6 → ¬ Int32.ofNat s < 0 := by decide +kernel
theorem sg_rng : ∀ s, s < 6 → 25 + Int32.ofNat s = Int32.ofNat (25 + s) := by decide +kernel
theorem tkR_K (hL : resL L) : tkR T p = toR (tkK L T p) := by
  unfold tkR tkK
  by_cases h1 : il (T p) = 0
  · rw [if_pos h1, if_pos h1]
    by_cases h2 : idg (T p) = 0
    · rw [if_pos h2, if_pos h2]
      by_cases h3 : T p = -1
      · rw [if_pos h3, if_pos h3]; rfl
      · rw [if_neg h3, if_neg h3]
        rcases ix6_c (x := T p) with h4 | ⟨s, h4, h5, h6⟩
        · rw [if_pos h4, if_pos h4]; rfl
        · rw [h5, if_neg (sg_nn s h4), if_neg (sg_nn s h4), h6]
          exact sg_R s h4
    · rw [if_neg h2, if_neg h2]
      split <;> rfl
  · rw [if_neg h1, if_neg h1]
    by_cases h8 : 8 < wdE T p - p
    · rw [if_pos h8, if_pos h8]; rfl
    · rw [if_neg h8, if_neg h8]
      exact kw_R hL (by omega) 23 0 rfl
theorem tkK_rng : ∃ a, a ≤ 32 ∧ tkK L T p = Int32.ofNat a := by
  unfold tkK
  split
  · split
    · split
      · exact ⟨31, by decide, rfl⟩
      · rcases ix6_c (x := T p) with h4 | ⟨s, h4, h5, h6⟩
        · rw [if_pos h4]; exact ⟨32, by decide, rfl⟩
        · rw [h5, if_neg (sg_nn s h4)]
          exact ⟨25 + s, by omega, sg_rng s h4⟩
    · split
      · exact ⟨32, by decide, rfl⟩
      · exact ⟨24, by decide, rfl⟩
  · split
    · exact ⟨32, by decide, rfl⟩
    · obtain ⟨a, h1, h2⟩ := kw_rng (L := L) (z := wdV T p) 23 0 rfl
      exact ⟨a, by omega, h2⟩
theorem kf_rng {a : Nat} (ha : a ≤ 32) : ∃ b, b ≤ 32 ∧ kf k (Int32.ofNat a) = Int32.ofNat b := by
  unfold kf
  split
  · split
    · exact ⟨31, by decide, rfl⟩
    · exact ⟨32, by decide, rfl⟩
  · exact ⟨a, ha, rfl⟩
theorem kf_R {a : Nat} (ha : a ≤ 32) : kfR k (toR (Int32.ofNat a)) = toR (kf k (Int32.ofNat a)) := by
  unfold kfR kf
  have h := toR_900 a ha
  by_cases hk : k = 400
  · rw [if_pos hk, if_pos hk]
    by_cases h1 : Int32.ofNat a = 31
    · rw [if_pos h1, if_pos (h.mpr h1)]; rfl
    · rw [if_neg h1, if_neg (fun q => h1 (h.mp q))]; rfl
  · rw [if_neg hk, if_neg hk]
theorem tkN_L (h : tkK L T p ≠ 31) (hp : p ≤ 1600) : tkN T p = p + tkL T p := by
  have a1 := wdE_in (T := T) hp
  have a2 := dgE_in (T := T) hp
  unfold tkN tkL
  unfold tkK at h
  by_cases h1 : il (T p) = 0
  · rw [if_pos h1, if_pos h1]
    by_cases h2 : idg (T p) = 0
    · rw [if_pos h2, if_pos h2]
      by_cases h3 : T p = -1
      · rw [if_pos h1, if_pos h2, if_pos h3] at h
        exact absurd rfl h
      · rw [if_neg h3]
    · rw [if_neg h2, if_neg h2]
      omega
  · rw [if_neg h1, if_neg h1]
    omega
/-- a token, in both -/
def tkRow (L0 : L3) (T : Nat → Int32) (a q : Nat) (S : S3) (L : L3) (V : S3) : Prop := q ≤ 1600 ∧ S 4 211 a = kf a (tkK L0 T q) ∧ S 4 212 a = Int32.ofNat q ∧ L 4 1 a = tkV T q ∧ V 4 211 a = toR (S 4 211 a) ∧ V 4 212 a = Int32.ofNat q ∧ V 4 213 a = Int32.ofNat (tkL T q) ∧ V 4 214 a = 0
def pK (g v : Nat) : Prop := g = 4 ∧ 211 ≤ v ∧ v ≤ 214
theorem sb_K {v : Nat} {S' : S3} (h : sameBut pK S S') (h1 : 211 ≤ v) (h2 : v ≤ 214) : sameBut pK S (su S' 4 v i x) := sbt_su h ⟨rfl, h1, h2⟩
theorem row_1 (hL : resL L0) {q : Nat} (hq : q ≤ 1600) : tkRow L0 T k q (su (su S 4 211 k (kf k (tkK L0 T q))) 4 212 k (Int32.ofNat q)) (sl L 4 1 k (tkV T q)) (ct1 T k q V) := by
  obtain ⟨a, ha, ea⟩ := tkK_rng (L := L0) (T := T) (p := q)
  unfold tkRow ct1
  refine ⟨hq, ?_, su_self, sl_self, ?_, ?_, ?_, ?_⟩
  · rw [su_ne (by decide), su_self]
  · rw [su_self, su_ne (by decide), su_self, tkR_K hL, ea, kf_R ha]
  · rw [su_ne (by decide), su_ne (by decide), su_ne (by decide), su_self]
  · rw [su_ne (by decide), su_self]
  · rw [su_ne (by decide), su_ne (by decide), su_self]
theorem su_off {S : S3} {g v i j : Nat} {x : Int32} (h : j ≠ i) {g' v' : Nat} : su S g v i x g' v' j = S g' v' j := if_neg fun q => h q.2.2
theorem sl_off {L : L3} {g v i j : Nat} {x : Int64} (h : j ≠ i) {g' v' : Nat} : sl L g v i x g' v' j = L g' v' j := if_neg fun q => h q.2.2
/-- the same numbers at place a -/
def lowR (a : Nat) (S S' : S3) (L L' : L3) (V V' : S3) : Prop := S' 4 211 a = S 4 211 a ∧ S' 4 212 a = S 4 212 a ∧ L' 4 1 a = L 4 1 a ∧ V' 4 211 a = V 4 211 a ∧ V' 4 212 a = V 4 212 a ∧ V' 4 213 a = V 4 213 a ∧ V' 4 214 a = V 4 214 a
theorem low_1 {a q : Nat} {x : Int32} (h : a ≠ k) : lowR a S (su (su S 4 211 k x) 4 212 k (Int32.ofNat q)) L (sl L 4 1 k z) V (ct1 T k q V) := by
  unfold lowR ct1
  simp only [su_off h, sl_off h, and_self]
theorem tkRow_low {a q : Nat} {S' : S3} {L' : L3} {V' : S3} (h : tkRow L0 T a q S L V) (hl : lowR a S S' L L' V V') : tkRow L0 T a q S' L' V' := by
  obtain ⟨h0, h1, h2, h3, h4, h5, h6, h7⟩ := h
  obtain ⟨l1, l2, l3, l4, l5, l6, l7⟩ := hl
  exact ⟨h0, l1.trans h1, l2.trans h2, l3.trans h3, by rw [l4, l1]; exact h4, l5.trans h5, l6.trans h6, l7.trans h7⟩
theorem cut_rel (hL : resL L0) (h16 : T 1600 = -1) : ∀ (f k p : Nat) (S : S3) (L : L3) (V : S3), k + f = 400 → p ≤ 1600 → ∃ (m : Nat) (q : Nat → Nat), k ≤ m ∧ m ≤ 400 ∧ (∀ a, k ≤ a → a ≤ m → tkRow L0 T a (q a) (scR L0 T (f + 1) k p S L).1 (scR L0 T (f + 1) k p S L).2 (ctR T (f + 1) k p V)) ∧
    (∀ a, k ≤ a → a < m → ¬ ((scR L0 T (f + 1) k p S L).1 4 211 a = 31 ∨ (scR L0 T (f + 1) k p S L).1 4 211 a = 32)) ∧ ((scR L0 T (f + 1) k p S L).1 4 211 m = 31 ∨ (scR L0 T (f + 1) k p S L).1 4 211 m = 32) ∧
    (∀ a, a < k → lowR a S (scR L0 T (f + 1) k p S L).1 L (scR L0 T (f + 1) k p S L).2 V (ctR T (f + 1) k p V)) ∧ sameBut pK S (scR L0 T (f + 1) k p S L).1 ∧ sameBut pK V (ctR T (f + 1) k p V) ∧ (∀ g v, ¬ (g = 4 ∧ v = 1) → (scR L0 T (f + 1) k p S L).2 g v = L g v) := by
  intro f
  induction f with
  | zero =>
    intro k p S L V hk hp
    obtain ⟨a, ha, ea⟩ := tkK_rng (L := L0) (T := T) (p := tkP T p)
    have hP := tkP_le (T := T) hp
    have row := row_1 (T := T) (S := S) (L := L) (V := V) (k := k) hL hP
    have hstop : kf k (tkK L0 T (tkP T p)) = 31 ∨ kf k (tkK L0 T (tkP T p)) = 32 := by
      unfold kf
      rw [if_pos (show k = 400 by omega)]
      split
      · exact Or.inl rfl
      · exact Or.inr rfl
    obtain ⟨b, hb, eb⟩ := kf_rng (k := k) ha
    have hst2 : ¬ kfR k (tkR T (tkP T p)) < 900 := by
      rw [tkR_K hL, ea, kf_R ha, eb, toR_lt b hb, ← eb, ← ea]
      exact not_not_intro hstop
    have e1 : scR L0 T (0 + 1) k p S L = (su (su S 4 211 k (kf k (tkK L0 T (tkP T p)))) 4 212 k (Int32.ofNat (tkP T p)), sl L 4 1 k (tkV T (tkP T p))) := by rw [scR, if_pos hstop]
    have e2 : ctR T (0 + 1) k p V = ct1 T k (tkP T p) V := by rw [ctR, if_neg hst2]
    rw [e1, e2]
    refine ⟨k, fun _ => tkP T p, Nat.le_refl _, by omega, fun a h1 h2 => ?_, fun a h1 h2 => absurd h2 (by omega), ?_, fun a h => low_1 (by omega), sb_K (sb_K sbt_refl (by decide) (by decide)) (by decide) (by decide), sb_K (sb_K (sb_K (sb_K sbt_refl (by decide) (by decide)) (by decide) (by decide)) (by decide) (by decide)) (by decide) (by decide), fun g v h => ?_⟩
    · rw [show a = k by omega]; exact row
    · have := row.2.1
      refine Or.imp (fun q => ?_) (fun q => ?_) hstop
      · exact this.trans q
      · exact this.trans q
    · funext j
      exact if_neg fun q => h ⟨q.1, q.2.1⟩
  | succ f ih =>
    intro k p S L V hk hp
    obtain ⟨a, ha, ea⟩ := tkK_rng (L := L0) (T := T) (p := tkP T p)
    have hP := tkP_le (T := T) hp
    have row := row_1 (T := T) (S := S) (L := L) (V := V) (k := k) hL hP
    obtain ⟨b, hb, eb⟩ := kf_rng (k := k) ha
    have hiff : kfR k (tkR T (tkP T p)) < 900 ↔ ¬ (kf k (tkK L0 T (tkP T p)) = 31 ∨ kf k (tkK L0 T (tkP T p)) = 32) := by
      rw [tkR_K hL, ea, kf_R ha, eb, toR_lt b hb]
    have fr : ∀ g v, ¬ (g = 4 ∧ v = 1) → sl L 4 1 k (tkV T (tkP T p)) g v = L g v := fun g v h => by
      funext j
      exact if_neg fun q => h ⟨q.1, q.2.1⟩
    by_cases hstop : kf k (tkK L0 T (tkP T p)) = 31 ∨ kf k (tkK L0 T (tkP T p)) = 32
    · have e1 : scR L0 T (f + 1 + 1) k p S L = (su (su S 4 211 k (kf k (tkK L0 T (tkP T p)))) 4 212 k (Int32.ofNat (tkP T p)), sl L 4 1 k (tkV T (tkP T p))) := by rw [scR, if_pos hstop]
      have e2 : ctR T (f + 1 + 1) k p V = ct1 T k (tkP T p) V := by rw [ctR, if_neg (fun q => hiff.mp q hstop)]
      rw [e1, e2]
      refine ⟨k, fun _ => tkP T p, Nat.le_refl _, by omega, fun a h1 h2 => ?_, fun a h1 h2 => absurd h2 (by omega), ?_, fun a h => low_1 (by omega), sb_K (sb_K sbt_refl (by decide) (by decide)) (by decide) (by decide), sb_K (sb_K (sb_K (sb_K sbt_refl (by decide) (by decide)) (by decide) (by decide)) (by decide) (by decide)) (by decide) (by decide), fr⟩
      · rw [show a = k by omega]; exact row
      · have := row.2.1
        refine Or.imp (fun q => ?_) (fun q => ?_) hstop
        · exact this.trans q
        · exact this.trans q
    · have hk4 : kf k (tkK L0 T (tkP T p)) = tkK L0 T (tkP T p) := by unfold kf; rw [if_neg (by omega)]
      have hn31 : tkK L0 T (tkP T p) ≠ 31 := fun q => hstop (Or.inl (hk4.trans q))
      have e1 : scR L0 T (f + 1 + 1) k p S L = scR L0 T (f + 1) (k + 1) (tkN T (tkP T p)) (su (su S 4 211 k (kf k (tkK L0 T (tkP T p)))) 4 212 k (Int32.ofNat (tkP T p))) (sl L 4 1 k (tkV T (tkP T p))) := by rw [scR, if_neg hstop]
      have e2 : ctR T (f + 1 + 1) k p V = ctR T (f + 1) (k + 1) (tkN T (tkP T p)) (ct1 T k (tkP T p) V) := by rw [ctR, if_pos (hiff.mpr hstop), tkN_L hn31 hP]
      rw [e1, e2]
      obtain ⟨m, q, i1, i2, i3, i4, i5, i6, i7, i8, i9⟩ := ih (k + 1) (tkN T (tkP T p)) (su (su S 4 211 k (kf k (tkK L0 T (tkP T p)))) 4 212 k (Int32.ofNat (tkP T p))) (sl L 4 1 k (tkV T (tkP T p))) (ct1 T k (tkP T p) V) (by omega) (tkN_le h16 hP)
      have rowk := tkRow_low row (i6 k (by omega))
      refine ⟨m, fun a => if a = k then tkP T p else q a, by omega, i2, fun a h1 h2 => ?_, fun a h1 h2 => ?_, i5, fun a h => ?_, ?_, ?_, fun g v h => (i9 g v h).trans (fr g v h)⟩
      · by_cases e : a = k
        · subst e
          simp only [if_true]
          exact rowk
        · simp only [if_neg e]
          exact i3 a (by omega) h2
      · by_cases e : a = k
        · rw [e, rowk.2.1]; exact hstop
        · exact i4 a (by omega) h2
      · obtain ⟨l1, l2, l3, l4, l5, l6, l7⟩ := i6 a (by omega)
        obtain ⟨g1, g2, g3, g4, g5, g6, g7⟩ := low_1 (S := S) (L := L) (V := V) (T := T) (k := k) (q := tkP T p) (x := kf k (tkK L0 T (tkP T p))) (z := tkV T (tkP T p)) (show a ≠ k by omega)
        exact ⟨l1.trans g1, l2.trans g2, l3.trans g3, l4.trans g4, l5.trans g5, l6.trans g6, l7.trans g7⟩
      · exact sbt_trans (sb_K (sb_K sbt_refl (by decide) (by decide)) (by decide) (by decide)) i7
      · exact sbt_trans (sb_K (sb_K (sb_K (sb_K sbt_refl (by decide) (by decide)) (by decide) (by decide)) (by decide) (by decide)) (by decide) (by decide)) i8
end TOKD
