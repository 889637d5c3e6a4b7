/-! THE CLASS'S TOWN: quarters go by; copying; beginning -/
section CLASSG
variable {c : Nat × Nat × Nat} {S : S3} {L : L3} {R : Nat → Option PC} {g i l b d : Nat} {x y M : Int32} {z : Int64} {Q : PO → Prop}
/-- S' shows what S shows at all but some names -/
def sameBut (p : Nat → Nat → Prop) (S S' : S3) : Prop := ∀ g v, ¬ p g v → S' g v = S g v
theorem sbt_refl {p : Nat → Nat → Prop} : sameBut p S S := fun _ _ _ => rfl
theorem sbt_su {p : Nat → Nat → Prop} {S' : S3} {v : Nat} (h : sameBut p S S') (hp : p g v) : sameBut p S (su S' g v i x) := fun g' v' h' => by
  rw [← h g' v' h']
  funext j
  exact if_neg fun q => h' (by rw [q.1, q.2.1]; exact hp)
theorem sbt_pt {p : Nat → Nat → Prop} {S' : S3} {v n : Nat} (h : sameBut p S S') (hp : p g v) : sameBut p S (pt S' g v n x y) := by
  unfold pt
  split
  · exact sbt_su h hp
  · exact h
theorem sbt_trans {p : Nat → Nat → Prop} {S1 S2 : S3} (h1 : sameBut p S S1) (h2 : sameBut p S1 S2) : sameBut p S S2 := fun g v h => (h2 g v h).trans (h1 g v h)
/-- names of a town that working and time change -/
def pT (g : Nat) : Nat → Nat → Prop := fun g' v => g' = g ∧ v < 60 ∧ v ≠ 4 ∧ v ≠ 10 ∧ v ≠ 11 ∧ v ≠ 19 ∧ v ≠ 3
theorem pT_l {k : Nat} (hl : l < 3) (h1 : 20 ≤ k) (h2 : k ≤ 50) : pT g g (l + k) := ⟨rfl, by omega, by omega, by omega, by omega, by omega, by omega⟩
theorem sbt_give {S' : S3} (h : sameBut (pT g) S S') : sameBut (pT g) S (giveS g l S') := by
  unfold giveS
  exact sbt_su (sbt_su (sbt_su h (by simp [pT])) (by simp [pT])) (by simp [pT])
theorem sbt_home {S' : S3} (h : sameBut (pT g) S S') : sameBut (pT g) S (homeS g l S') := by
  unfold homeS
  exact sbt_give (sbt_su (sbt_su h (by simp [pT])) (by simp [pT]))
theorem sbt_ent {S' : S3} (h : sameBut (pT g) S S') (hl : l < 3) : sameBut (pT g) S (entS g l x y S') := by
  unfold entS
  split
  · exact h
  split
  · exact h
  split
  · exact sbt_su (sbt_pt (sbt_pt (sbt_pt h (pT_l hl (by omega) (by omega))) (pT_l hl (by omega) (by omega))) (pT_l hl (by omega) (by omega))) (by simp [pT])
  · exact h
theorem sbt_br {S' : S3} (h : sameBut (pT g) S S') (hl : l < 3) : sameBut (pT g) S (brS g l b x S') := by
  unfold brS
  exact sbt_ent (sbt_give (sbt_su h (by simp [pT]))) hl
theorem sbt_note {S' : S3} (h : sameBut (pT g) S S') (hl : l < 3) : sameBut (pT g) S (noteS g l x S') := by
  unfold noteS
  exact sbt_su (sbt_pt h (pT_l hl (by omega) (by omega))) (by simp [pT])
theorem sbt_na (hl : l < 3) : ∀ {k : Nat} {S' : S3}, sameBut (pT g) S S' → sameBut (pT g) S (naS g l b k S').2 := by
  intro k
  induction k with
  | zero => intro S' h; exact h
  | succ k ih =>
    intro S' h
    have hp : sameBut (pT g) S (naP g l S' (Int32.ofNat k)) := by
      unfold naP
      split
      · exact sbt_pt h (pT_l hl (by omega) (by omega))
      · exact h
    simp only [naS]
    split
    · exact ih (sbt_su hp (by simp [pT]))
    · exact sbt_pt hp (pT_l hl (by omega) (by omega))
theorem sbt_do {S' : S3} (h : sameBut (pT g) S S') (hl : l < 3) : sameBut (pT g) S (doS g b l x S') := by
  unfold doS
  split
  · exact sbt_note h hl
  split
  · exact h
  split
  · exact sbt_ent h hl
  split
  · exact sbt_ent h hl
  split
  · exact sbt_ent h hl
  · exact h
theorem sbt_fin {S' : S3} (h : sameBut (pT g) S S') : sameBut (pT g) S (finS g b l S') := by
  have h1 : sameBut (pT g) S (su S' g 15 l (-1)) := sbt_su h (by simp [pT])
  unfold finS
  generalize su S' g 15 l (-1) = S1 at h1
  unfold finT
  split
  · exact sbt_su h1 (by simp [pT])
  split
  · exact h1
  split
  · exact sbt_su h1 (by simp [pT])
  split
  · exact sbt_su h1 (by simp [pT])
  split
  · exact sbt_su h1 (by simp [pT])
  split
  · exact sbt_su (sbt_su h1 (by simp [pT])) (by simp [pT])
  · exact h1
theorem sbt_ch (hl : l < 3) : ∀ {k : Nat} {S' : S3}, sameBut (pT g) S S' → sameBut (pT g) S (chS g b l k S') := by
  intro k
  induction k with
  | zero => intro S' h; exact sbt_give h
  | succ k ih =>
    intro S' h
    simp only [chS]
    split
    · exact sbt_na hl h
    split
    · exact sbt_su (sbt_su (sbt_na hl h) (by simp [pT])) (by simp [pT])
    · exact ih (sbt_do (sbt_na hl h) hl)
theorem sbt_wk {S' : S3} (hl : l < 3) (h : sameBut (pT g) S S') : sameBut (pT g) S (wkS g b l S') := by
  have h1 : sameBut (pT g) S (if S' g 15 l = -1 then chS g b l 30 S' else S') := by
    split
    · exact sbt_ch hl h
    · exact h
  unfold wkS
  generalize (if S' g 15 l = -1 then chS g b l 30 S' else S') = S1 at h1
  unfold wkT
  split
  · exact h1
  split
  · exact sbt_su h1 (by simp [pT])
  · exact sbt_fin (sbt_su h1 (by simp [pT]))
theorem sbt_cd : ∀ {k i : Nat} {a : Int32} {S' : S3}, sameBut (pT g) S S' → sameBut (pT g) S (cdS g M k i a S').2 := by
  intro k
  induction k with
  | zero => intro i a S' h; exact h
  | succ k ih =>
    intro i a S' h
    simp only [cdS]
    split
    · exact h
    split
    · exact ih (sbt_su h (by simp [pT]))
    · exact ih h
theorem sbt_burn {S' : S3} (h : sameBut (pT g) S S') : sameBut (pT g) S (burnS g i S') := fun g' v hv => by
  rw [← h g' v hv]
  funext j
  by_cases hg : g' = g
  · subst hg
    have hv : ¬ (v < 60 ∧ v ≠ 4 ∧ v ≠ 10 ∧ v ≠ 11 ∧ v ≠ 19 ∧ v ≠ 3) := fun q => hv ⟨rfl, q⟩
    exact burnS_ne (by omega) (by omega) (by omega) (by omega)
  · unfold burnS burnC burnB burnA
    simp only [su_at, hg, false_and, if_false]
    repeat' split
    all_goals simp only [su_at, hg, false_and, if_false]
theorem sbt_ba : ∀ {k i : Nat} {S' : S3}, sameBut (pT g) S S' → sameBut (pT g) S (baS g M k i S') := by
  intro k
  induction k with
  | zero => intro i S' h; exact h
  | succ k ih =>
    intro i S' h
    simp only [baS]
    split
    · exact h
    split
    · exact ih h
    · exact ih (sbt_su (sbt_burn h) (by simp [pT]))
theorem sbt_dl : ∀ {k i : Nat} {S' : S3}, sameBut (pT g) S S' → sameBut (pT g) S (dlS g M k i S') := by
  intro k
  induction k with
  | zero => intro i S' h; exact h
  | succ k ih =>
    intro i S' h
    simp only [dlS]
    split
    · exact h
    · exact ih (sbt_su h (by simp [pT]))
theorem sbt_dg : ∀ {k i : Nat} {S' : S3}, i + k = 3 → sameBut (pT g) S S' → sameBut (pT g) S (dgS g b k i S') := by
  intro k
  induction k with
  | zero => intro i S' _ h; exact h
  | succ k ih =>
    intro i S' hi h
    simp only [dgS]
    split
    · exact h
    · refine ih (by omega) ?_
      unfold dg1
      split
      · exact sbt_home h
      · exact sbt_br (sbt_home h) (by omega)
theorem sbt_dawn {S' : S3} (h : sameBut (pT g) S S') : sameBut (pT g) S (dawnS g b S') := by
  unfold dawnS
  exact sbt_dg rfl (sbt_dl (sbt_su (sbt_su h (by simp [pT])) (by simp [pT])))
theorem okG_cd : ∀ {k i : Nat} {a : Int32} {S : S3}, okG g b S → okG g b (cdS g M k i a S).2 := by
  intro k
  induction k with
  | zero => intro i a S h; exact h
  | succ k ih =>
    intro i a S h
    simp only [cdS]
    split
    · exact h
    split
    · exact ih (okG_su h (by decide) (by decide) (by decide))
    · exact ih h
theorem okG_ba : ∀ {k i : Nat} {S : S3}, okG g b S → okG g b (baS g M k i S) := by
  intro k
  induction k with
  | zero => intro i S h; exact h
  | succ k ih =>
    intro i S h
    simp only [baS]
    split
    · exact h
    split
    · exact ih h
    · exact ih (okG_su (okG_burn h) (by decide) (by decide) (by decide))
theorem okG_dl : ∀ {k i : Nat} {S : S3}, okG g b S → okG g b (dlS g M k i S) := by
  intro k
  induction k with
  | zero => intro i S h; exact h
  | succ k ih =>
    intro i S h
    simp only [dlS]
    split
    · exact h
    · exact ih (okG_lit h (Or.inl rfl))
theorem okG_dg : ∀ {k i : Nat} {S : S3}, i + k = 3 → okG g b S → okG g b (dgS g b k i S) := by
  intro k
  induction k with
  | zero => intro i S _ h; exact h
  | succ k ih =>
    intro i S hi h
    simp only [dgS]
    split
    · exact h
    · exact ih (by omega) (okG_dg1 (okG_home h) (by omega))
theorem okG_dawn (h : okG g b S) : okG g b (dawnS g b S) := by
  unfold dawnS
  exact okG_dg rfl (okG_dl (okG_su (okG_su h (by decide) (by decide) (by decide)) (by decide) (by decide) (by decide)))
/-- all lighters work -/
def wlS (g b : Nat) : Nat → Nat → S3 → S3
  | 0, _, S => S
  | k + 1, i, S => if S g 4 0 ≤ Int32.ofNat i then S else wlS g b k (i + 1) (wkS g b i S)
theorem okG_wl : ∀ {k i : Nat} {S : S3}, i + k = 3 → okG g b S → okG g b (wlS g b k i S) := by
  intro k
  induction k with
  | zero => intro i S _ h; exact h
  | succ k ih =>
    intro i S hi h
    simp only [wlS]
    split
    · exact h
    · exact ih (by omega) (okG_wk (by omega) h)
theorem sbt_wl : ∀ {k i : Nat} {S' : S3}, i + k = 3 → sameBut (pT g) S S' → sameBut (pT g) S (wlS g b k i S') := by
  intro k
  induction k with
  | zero => intro i S' _ h; exact h
  | succ k ih =>
    intro i S' hi h
    simp only [wlS]
    split
    · exact h
    · exact ih (by omega) (sbt_wk (by omega) h)
/-- the dark ones of a quarter, and the state ahead of burning -/
def dqS (g b : Nat) (S : S3) : Int32 × S3 := cdS g ((wlS g b 3 0 S) (2 + b) 100 0) 10 0 0 (wlS g b 3 0 S)
/-- a quarter's end -/
def qeS (g b : Nat) (S : S3) : S3 := if S g 1 0 + 1 = 40 then dawnS g b (su S g 1 0 (S g 1 0 + 1)) else su S g 1 0 (S g 1 0 + 1)
def qtS (g b : Nat) (S : S3) : Int32 × S3 := if restS S g = 0 then ((dqS g b S).1, qeS g b (baS g ((dqS g b S).2 (2 + b) 100 0) 10 0 (dqS g b S).2))
  else (0, qeS g b (baS g (S (2 + b) 100 0) 10 0 S))
theorem k55_end (hg : g < 2) (hb : b < 2) {q a n : Int32} {l4 : Option Value} (h : okG g b S) : Wp (d + 6) 55 62 [some (.ref (TA g)), some (.int q), some (.int a), some (.int n), l4] [] (CH c S L R) Q
    = Wp (d + 6) 55 4 [some (.ref (TA g)), some (.int q), some (.int a), some (.int (n + 1)), l4] [] (CH c (qeS g b (baS g (S (2 + b) 100 0) 10 0 S)) L R) Q := by
  have h1 : okG g b (baS g (S (2 + b) 100 0) 10 0 S) := okG_ba h
  simp only [↓w55_62, ↓w55_63, k57 hg hb h.1, ↓town_g0 hg, ↓town_g1 hg, ↓town_g2 hg, ↓town_g3 hg, ↓town_g4 hg, ↓town_g5 hg, ↓town_g6 hg, ↓town_g7 hg, ↓town_p3 hg, ↓town_p4 hg, ↓town_p5 hg, ↓town_p6 hg, ↓town_p7 hg, ↓town_r hg, ↓lmps_n hg, ↓lgts_n hg, cK_inl, toL_some, toL_none, psum_nil, psum_int, psum_ref, psum_null, psum_long, Nat.zero_le, Nat.reduceAdd, Nat.reduceLeDiff, kl_int, kl_ref, kl_none, kl_null, kl_long]
  generalize baS g (S (2 + b) 100 0) 10 0 S = S1 at h1
  have hd : okG g b (su S1 g 1 0 (S1 g 1 0 + 1)) := okG_su h1 (by decide) (by decide) (by decide)
  by_cases e : S1 g 1 0 + 1 = 40
  · rw [e] at hd
    simp only [↓w55_0, ↓w55_1, ↓w55_2, ↓w55_3, ↓w55_5, ↓w55_6, ↓w55_9, ↓w55_10, ↓w55_13, ↓w55_16, ↓w55_17, ↓w55_19, ↓w55_21, ↓w55_22, ↓w55_25, ↓w55_28, ↓w55_30, ↓w55_31, ↓w55_34, ↓w55_35, ↓w55_38, ↓w55_39, ↓w55_40, ↓w55_43, ↓w55_45, ↓w55_46, ↓w55_49, ↓w55_52, ↓w55_55, ↓w55_56, ↓w55_57, ↓w55_60, ↓w55_61, ↓w55_62, ↓w55_63, ↓w55_66, ↓w55_67, ↓w55_67i, ↓w55_68, ↓w55_71, ↓w55_72, ↓w55_73, ↓w55_76, ↓w55_77, ↓w55_80, ↓w55_82, ↓w55_85, ↓w55_86, ↓w55_89, ↓w55_92, ↓w55_95, ↓w55_96, ↓town_g0 hg, ↓town_g1 hg, ↓town_g2 hg, ↓town_g3 hg, ↓town_g4 hg, ↓town_g5 hg, ↓town_g6 hg, ↓town_g7 hg, ↓town_p3 hg, ↓town_p4 hg, ↓town_p5 hg, ↓town_p6 hg, ↓town_p7 hg, ↓town_r hg, ↓lmps_n hg, ↓lgts_n hg, k58 hg hb hd, icond_lt, icond_le, icond_gt, icond_ge, icond_eq, icond_ne, narrow_bool, true_or, or_true, if_true, if_false, cK_inl, toL_some, toL_none, psum_nil, psum_int, psum_ref, psum_null, psum_long, Nat.zero_le, Nat.reduceAdd, Nat.reduceLeDiff, kl_int, kl_ref, kl_none, kl_null, kl_long, su_at, sr_at, Nat.reduceEqDiff, Nat.add_eq_left, Nat.add_right_cancel_iff, and_false, false_and, and_true, true_and, and_self, if_true, if_false, ↓reduceIte, qeS, e, ne_eq, not_true]
  · simp only [↓w55_0, ↓w55_1, ↓w55_2, ↓w55_3, ↓w55_5, ↓w55_6, ↓w55_9, ↓w55_10, ↓w55_13, ↓w55_16, ↓w55_17, ↓w55_19, ↓w55_21, ↓w55_22, ↓w55_25, ↓w55_28, ↓w55_30, ↓w55_31, ↓w55_34, ↓w55_35, ↓w55_38, ↓w55_39, ↓w55_40, ↓w55_43, ↓w55_45, ↓w55_46, ↓w55_49, ↓w55_52, ↓w55_55, ↓w55_56, ↓w55_57, ↓w55_60, ↓w55_61, ↓w55_62, ↓w55_63, ↓w55_66, ↓w55_67, ↓w55_67i, ↓w55_68, ↓w55_71, ↓w55_72, ↓w55_73, ↓w55_76, ↓w55_77, ↓w55_80, ↓w55_82, ↓w55_85, ↓w55_86, ↓w55_89, ↓w55_92, ↓w55_95, ↓w55_96, ↓town_g0 hg, ↓town_g1 hg, ↓town_g2 hg, ↓town_g3 hg, ↓town_g4 hg, ↓town_g5 hg, ↓town_g6 hg, ↓town_g7 hg, ↓town_p3 hg, ↓town_p4 hg, ↓town_p5 hg, ↓town_p6 hg, ↓town_p7 hg, ↓town_r hg, ↓lmps_n hg, ↓lgts_n hg, icond_lt, icond_le, icond_gt, icond_ge, icond_eq, icond_ne, narrow_bool, true_or, or_true, if_true, if_false, cK_inl, toL_some, toL_none, psum_nil, psum_int, psum_ref, psum_null, psum_long, Nat.zero_le, Nat.reduceAdd, Nat.reduceLeDiff, kl_int, kl_ref, kl_none, kl_null, kl_long, su_at, sr_at, Nat.reduceEqDiff, Nat.add_eq_left, Nat.add_right_cancel_iff, and_false, false_and, and_true, true_and, and_self, if_true, if_false, ↓reduceIte, qeS, e, ne_eq, not_true, not_false_eq_true]
theorem k55_wl (hg : g < 2) (hb : b < 2) {q a n : Int32} {P : Prop} : ∀ (k i : Nat) (S : S3), i + k = 3 → okG g b S → (∀ x, Wp (d + 8) 55 55 [some (.ref (TA g)), some (.int q), some (.int a), some (.int n), some (.int x)] [] (CH c (wlS g b k i S) L R) Q = P) →
    Wp (d + 8) 55 19 [some (.ref (TA g)), some (.int q), some (.int a), some (.int n), some (.int (Int32.ofNat i))] [] (CH c S L R) Q = P := by
  intro k
  induction k with
  | zero =>
    intro i S hi h hP
    have e : (3 : Int32) ≤ Int32.ofNat i := (ofN_le (k := 3) (by omega) (by omega)).mpr (by omega)
    simp only [wlS] at hP
    simp only [↓w55_19, ↓w55_21, ↓w55_22, ↓w55_25, ↓w55_28, ↓w55_30, ↓w55_31, ↓w55_34, ↓w55_35, ↓town_g0 hg, ↓town_g1 hg, ↓town_g2 hg, ↓town_g3 hg, ↓town_g4 hg, ↓town_g5 hg, ↓town_g6 hg, ↓town_g7 hg, ↓town_p3 hg, ↓town_p4 hg, ↓town_p5 hg, ↓town_p6 hg, ↓town_p7 hg, ↓town_r hg, ↓lmps_n hg, ↓lgts_n hg, icond_lt, icond_le, icond_gt, icond_ge, icond_eq, icond_ne, narrow_bool, true_or, or_true, if_true, if_false, cK_inl, toL_some, toL_none, psum_nil, psum_int, psum_ref, psum_null, psum_long, Nat.zero_le, Nat.reduceAdd, Nat.reduceLeDiff, kl_int, kl_ref, kl_none, kl_null, kl_long, su_at, sr_at, Nat.reduceEqDiff, Nat.add_eq_left, Nat.add_right_cancel_iff, and_false, false_and, and_true, true_and, and_self, if_true, if_false, ↓reduceIte, e]
    split <;> exact hP _
  | succ k ih =>
    intro i S hi h hP
    have e : ¬ (3 : Int32) ≤ Int32.ofNat i := fun q => absurd ((ofN_le (k := 3) (by omega) (by omega)).mp q) (by omega)
    have hl : i < 3 := by omega
    simp only [wlS] at hP
    rw [w55_19]
    by_cases h1 : S g 4 0 ≤ Int32.ofNat i
    · simp only [if_pos h1] at hP
      simp only [↓w55_21, ↓w55_22, ↓w55_25, ↓town_g0 hg, ↓town_g1 hg, ↓town_g2 hg, ↓town_g3 hg, ↓town_g4 hg, ↓town_g5 hg, ↓town_g6 hg, ↓town_g7 hg, ↓town_p3 hg, ↓town_p4 hg, ↓town_p5 hg, ↓town_p6 hg, ↓town_p7 hg, ↓town_r hg, ↓lmps_n hg, ↓lgts_n hg, icond_lt, icond_le, icond_gt, icond_ge, icond_eq, icond_ne, narrow_bool, true_or, or_true, if_true, if_false, cK_inl, toL_some, toL_none, psum_nil, psum_int, psum_ref, psum_null, psum_long, Nat.zero_le, Nat.reduceAdd, Nat.reduceLeDiff, kl_int, kl_ref, kl_none, kl_null, kl_long, su_at, sr_at, Nat.reduceEqDiff, Nat.add_eq_left, Nat.add_right_cancel_iff, and_false, false_and, and_true, true_and, and_self, if_true, if_false, ↓reduceIte, h1]
      exact hP _
    · simp only [if_neg h1] at hP
      simp only [↓w55_21, ↓w55_22, ↓w55_25, ↓w55_28, ↓w55_30, ↓w55_31, ↓w55_34, ↓w55_35, ↓w55_38, ↓w55_39, ↓w55_40, ↓w55_43, ↓w55_45, ↓w55_46, ↓w55_49, ↓w55_52, ↓town_g0 hg, ↓town_g1 hg, ↓town_g2 hg, ↓town_g3 hg, ↓town_g4 hg, ↓town_g5 hg, ↓town_g6 hg, ↓town_g7 hg, ↓town_p3 hg, ↓town_p4 hg, ↓town_p5 hg, ↓town_p6 hg, ↓town_p7 hg, ↓town_r hg, ↓lmps_n hg, ↓lgts_n hg, ↓lgts_q hg hl, k59 hg hl hb h, icond_lt, icond_le, icond_gt, icond_ge, icond_eq, icond_ne, narrow_bool, true_or, or_true, if_true, if_false, cK_inl, toL_some, toL_none, psum_nil, psum_int, psum_ref, psum_null, psum_long, Nat.zero_le, Nat.reduceAdd, Nat.reduceLeDiff, kl_int, kl_ref, kl_none, kl_null, kl_long, su_at, sr_at, Nat.reduceEqDiff, Nat.add_eq_left, Nat.add_right_cancel_iff, and_false, false_and, and_true, true_and, and_self, if_true, if_false, ↓reduceIte, e, h1, ofN_a1]
      exact ih (i + 1) _ (by omega) (okG_wk hl h) hP
theorem okG_dq (h : okG g b S) : okG g b (dqS g b S).2 := okG_cd (okG_wl rfl h)
theorem okG_qe (h : okG g b S) : okG g b (qeS g b S) := by
  unfold qeS
  split
  · exact okG_dawn (okG_su h (by decide) (by decide) (by decide))
  · exact okG_su h (by decide) (by decide) (by decide)
theorem okG_qt (h : okG g b S) : okG g b (qtS g b S).2 := by
  unfold qtS
  split
  · exact okG_qe (okG_ba (okG_dq h))
  · exact okG_qe (okG_ba h)
def psS (g b : Nat) : Nat → Int32 → S3 → Int32 × S3
  | 0, a, S => (a, S)
  | n + 1, a, S => psS g b n (a + (qtS g b S).1) (qtS g b S).2
theorem okG_ps : ∀ {n : Nat} {a : Int32} {S : S3}, okG g b S → okG g b (psS g b n a S).2 := by
  intro n
  induction n with
  | zero => intro a S h; exact h
  | succ n ih => intro a S h; exact ih (okG_qt h)
theorem k55_loop (hg : g < 2) (hb : b < 2) {N : Nat} (hN : N < 2 ^ 31) : ∀ (n m : Nat) (a x : Int32) (S : S3) (l4 : Option Value), m + n = N → okG g b S → (l4 = none ∨ l4 = some (.int x)) →
    Wp (d + 8) 55 4 [some (.ref (TA g)), some (.int (Int32.ofNat N)), some (.int a), some (.int (Int32.ofNat m)), l4] [] (CH c S L R) Q = Q (.inl (some (.int (psS g b n a S).1)), CH c (psS g b n a S).2 L R) := by
  intro n
  induction n with
  | zero =>
    intro m a x S l4 hm h _
    have e : Int32.ofNat N ≤ Int32.ofNat m := (ofN_le (by omega) (by omega)).mpr (by omega)
    simp only [↓w55_4, ↓w55_5, ↓w55_6, ↓w55_95, ↓w55_96, icond_lt, icond_le, icond_gt, icond_ge, icond_eq, icond_ne, narrow_bool, true_or, or_true, if_true, if_false, cK_inl, toL_some, toL_none, psum_nil, psum_int, psum_ref, psum_null, psum_long, Nat.zero_le, Nat.reduceAdd, Nat.reduceLeDiff, kl_int, kl_ref, kl_none, kl_null, kl_long, e, psS]
  | succ n ih =>
    intro m a x S l4 hm h hl4
    have e : ¬ Int32.ofNat N ≤ Int32.ofNat m := fun q => absurd ((ofN_le (by omega) (by omega)).mp q) (by omega)
    by_cases hr : restS S g = 0
    · have hw := okG_wl (k := 3) (i := 0) rfl h
      have key : Wp (d + 8) 55 19 [some (.ref (TA g)), some (.int (Int32.ofNat N)), some (.int a), some (.int (Int32.ofNat m)), some (.int (Int32.ofNat 0))] [] (CH c S L R) Q = Q (.inl (some (.int (psS g b (n + 1) a S).1)), CH c (psS g b (n + 1) a S).2 L R) := by
        refine k55_wl hg hb 3 0 S rfl h fun x => ?_
        simp only [↓w55_55, ↓w55_56, ↓w55_57, ↓w55_60, ↓w55_61, k56 hg hb hw.1, ↓town_g0 hg, ↓town_g1 hg, ↓town_g2 hg, ↓town_g3 hg, ↓town_g4 hg, ↓town_g5 hg, ↓town_g6 hg, ↓town_g7 hg, ↓town_p3 hg, ↓town_p4 hg, ↓town_p5 hg, ↓town_p6 hg, ↓town_p7 hg, ↓town_r hg, ↓lmps_n hg, ↓lgts_n hg, cK_inl, toL_some, toL_none, psum_nil, psum_int, psum_ref, psum_null, psum_long, Nat.zero_le, Nat.reduceAdd, Nat.reduceLeDiff, kl_int, kl_ref, kl_none, kl_null, kl_long]
        rw [k55_end hg hb (okG_cd hw), ofN_a1, ih (m + 1) _ x _ _ (by omega) (okG_qe (okG_ba (okG_cd hw))) (Or.inr rfl)]
        simp only [psS, qtS, dqS, hr, if_true]
      have key' : Wp (d + 8) 55 19 [some (.ref (TA g)), some (.int (Int32.ofNat N)), some (.int a), some (.int (Int32.ofNat m)), some (.int 0)] [] (CH c S L R) Q = Q (.inl (some (.int (psS g b (n + 1) a S).1)), CH c (psS g b (n + 1) a S).2 L R) := key
      rcases hl4 with rfl | rfl <;> simp only [↓w55_4, ↓w55_5, ↓w55_6, ↓w55_9, ↓w55_10, ↓w55_13, ↓w55_16, ↓w55_17, k54 hg, ↓town_g0 hg, ↓town_g1 hg, ↓town_g2 hg, ↓town_g3 hg, ↓town_g4 hg, ↓town_g5 hg, ↓town_g6 hg, ↓town_g7 hg, ↓town_p3 hg, ↓town_p4 hg, ↓town_p5 hg, ↓town_p6 hg, ↓town_p7 hg, ↓town_r hg, ↓lmps_n hg, ↓lgts_n hg, icond_lt, icond_le, icond_gt, icond_ge, icond_eq, icond_ne, narrow_bool, true_or, or_true, if_true, if_false, cK_inl, toL_some, toL_none, psum_nil, psum_int, psum_ref, psum_null, psum_long, Nat.zero_le, Nat.reduceAdd, Nat.reduceLeDiff, kl_int, kl_ref, kl_none, kl_null, kl_long, e, hr, ne_eq, not_true, key']
    · have key : Wp (d + 8) 55 62 [some (.ref (TA g)), some (.int (Int32.ofNat N)), some (.int a), some (.int (Int32.ofNat m)), l4] [] (CH c S L R) Q = Q (.inl (some (.int (psS g b (n + 1) a S).1)), CH c (psS g b (n + 1) a S).2 L R) := by
        rw [k55_end hg hb h, ofN_a1, ih (m + 1) _ x _ _ (by omega) (okG_qe (okG_ba h)) hl4]
        simp only [psS, qtS, hr, if_false, Int32.add_zero]
      simp only [↓w55_4, ↓w55_5, ↓w55_6, ↓w55_9, ↓w55_10, ↓w55_13, k54 hg, ↓town_g0 hg, ↓town_g1 hg, ↓town_g2 hg, ↓town_g3 hg, ↓town_g4 hg, ↓town_g5 hg, ↓town_g6 hg, ↓town_g7 hg, ↓town_p3 hg, ↓town_p4 hg, ↓town_p5 hg, ↓town_p6 hg, ↓town_p7 hg, ↓town_r hg, ↓lmps_n hg, ↓lgts_n hg, icond_lt, icond_le, icond_gt, icond_ge, icond_eq, icond_ne, narrow_bool, true_or, or_true, if_true, if_false, cK_inl, toL_some, toL_none, psum_nil, psum_int, psum_ref, psum_null, psum_long, Nat.zero_le, Nat.reduceAdd, Nat.reduceLeDiff, kl_int, kl_ref, kl_none, kl_null, kl_long, e, hr, ne_eq, not_false_eq_true, key]
theorem k55 (hg : g < 2) (hb : b < 2) {N : Nat} (hN : N < 2 ^ 31) (h : okG g b S) : Cp (d + 9) 55 [.ref (TA g), .int (Int32.ofNat N)] (CH c S L R) Q = Q (.inl (some (.int (psS g b N 0 S).1)), CH c (psS g b N 0 S).2 L R) := by
  simp only [ce55, ↓w55_0, ↓w55_1, ↓w55_2, ↓w55_3, cK_inl, toL_some, toL_none, psum_nil, psum_int, psum_ref, psum_null, psum_long, Nat.zero_le, Nat.reduceAdd, Nat.reduceLeDiff, kl_int, kl_ref, kl_none, kl_null, kl_long]
  exact k55_loop hg hb hN N 0 0 0 S _ (by omega) h (Or.inl rfl)
end CLASSG
