/-! NIGHTS ARE COUNTED -/
section NIGHT
variable {c : Nat × Nat × Nat} {S : S3} {L : L3} {R : Nat → Option PC} {g i l b d : Nat} {x y M : Int32} {z : Int64} {Q : PO → Prop}
/-- names of a town that change while no quarter ends -/
def pW (g : Nat) : Nat → Nat → Prop := fun g' v => g' = g ∧ 2 ≤ v ∧ v < 60 ∧ v ≠ 4 ∧ v ≠ 10 ∧ v ≠ 11 ∧ v ≠ 19 ∧ v ≠ 3
theorem pW_l {k : Nat} (hl : l < 3) (h1 : 20 ≤ k) (h2 : k ≤ 50) : pW g g (l + k) := ⟨rfl, by omega, by omega, by omega, by omega, by omega, by omega, by omega⟩
theorem sbw_give {S' : S3} (h : sameBut (pW g) S S') : sameBut (pW g) S (giveS g l S') := by
  unfold giveS
  exact sbt_su (sbt_su (sbt_su h (by simp [pW])) (by simp [pW])) (by simp [pW])
theorem sbw_home {S' : S3} (h : sameBut (pW g) S S') : sameBut (pW g) S (homeS g l S') := by
  unfold homeS
  exact sbw_give (sbt_su (sbt_su h (by simp [pW])) (by simp [pW]))
theorem sbw_ent {S' : S3} (h : sameBut (pW g) S S') (hl : l < 3) : sameBut (pW g) S (entS g l x y S') := by
  unfold entS
  split
  · exact h
  split
  · exact h
  split
  · exact sbt_su (sbt_pt (sbt_pt (sbt_pt h (pW_l hl (by omega) (by omega))) (pW_l hl (by omega) (by omega))) (pW_l hl (by omega) (by omega))) (by simp [pW])
  · exact h
theorem sbw_br {S' : S3} (h : sameBut (pW g) S S') (hl : l < 3) : sameBut (pW g) S (brS g l b x S') := by
  unfold brS
  exact sbw_ent (sbw_give (sbt_su h (by simp [pW]))) hl
theorem sbw_note {S' : S3} (h : sameBut (pW g) S S') (hl : l < 3) : sameBut (pW g) S (noteS g l x S') := by
  unfold noteS
  exact sbt_su (sbt_pt h (pW_l hl (by omega) (by omega))) (by simp [pW])
theorem sbw_na (hl : l < 3) : ∀ {k : Nat} {S' : S3}, sameBut (pW g) S S' → sameBut (pW g) S (naS g l b k S').2 := by
  intro k
  induction k with
  | zero => intro S' h; exact h
  | succ k ih =>
    intro S' h
    have hp : sameBut (pW g) S (naP g l S' (Int32.ofNat k)) := by
      unfold naP
      split
      · exact sbt_pt h (pW_l hl (by omega) (by omega))
      · exact h
    simp only [naS]
    split
    · exact ih (sbt_su hp (by simp [pW]))
    · exact sbt_pt hp (pW_l hl (by omega) (by omega))
theorem sbw_do {S' : S3} (h : sameBut (pW g) S S') (hl : l < 3) : sameBut (pW g) S (doS g b l x S') := by
  unfold doS
  split
  · exact sbw_note h hl
  split
  · exact h
  split
  · exact sbw_ent h hl
  split
  · exact sbw_ent h hl
  split
  · exact sbw_ent h hl
  · exact h
theorem sbw_fin {S' : S3} (h : sameBut (pW g) S S') : sameBut (pW g) S (finS g b l S') := by
  have h1 : sameBut (pW g) S (su S' g 15 l (-1)) := sbt_su h (by simp [pW])
  unfold finS
  generalize su S' g 15 l (-1) = S1 at h1
  unfold finT
  split
  · exact sbt_su h1 (by simp [pW])
  split
  · exact h1
  split
  · exact sbt_su h1 (by simp [pW])
  split
  · exact sbt_su h1 (by simp [pW])
  split
  · exact sbt_su h1 (by simp [pW])
  split
  · exact sbt_su (sbt_su h1 (by simp [pW])) (by simp [pW])
  · exact h1
theorem sbw_ch (hl : l < 3) : ∀ {k : Nat} {S' : S3}, sameBut (pW g) S S' → sameBut (pW g) S (chS g b l k S') := by
  intro k
  induction k with
  | zero => intro S' h; exact sbw_give h
  | succ k ih =>
    intro S' h
    simp only [chS]
    split
    · exact sbw_na hl h
    split
    · exact sbt_su (sbt_su (sbw_na hl h) (by simp [pW])) (by simp [pW])
    · exact ih (sbw_do (sbw_na hl h) hl)
theorem sbw_wk {S' : S3} (hl : l < 3) (h : sameBut (pW g) S S') : sameBut (pW g) S (wkS g b l S') := by
  have h1 : sameBut (pW g) S (if S' g 15 l = -1 then chS g b l 30 S' else S') := by
    split
    · exact sbw_ch hl h
    · exact h
  unfold wkS
  generalize (if S' g 15 l = -1 then chS g b l 30 S' else S') = S1 at h1
  unfold wkT
  split
  · exact h1
  split
  · exact sbt_su h1 (by simp [pW])
  · exact sbw_fin (sbt_su h1 (by simp [pW]))
theorem sbw_cd : ∀ {k i : Nat} {a : Int32} {S' : S3}, sameBut (pW g) S S' → sameBut (pW g) S (cdS g M k i a S').2 := by
  intro k
  induction k with
  | zero => intro i a S' h; exact h
  | succ k ih =>
    intro i a S' h
    simp only [cdS]
    split
    · exact h
    split
    · exact ih (sbt_su h (by simp [pW]))
    · exact ih h
theorem sbw_burn {S' : S3} (h : sameBut (pW g) S S') : sameBut (pW g) S (burnS g i S') := fun g' v hv => by
  rw [← h g' v hv]
  funext j
  by_cases hg : g' = g
  · subst hg
    have hv : ¬ (2 ≤ v ∧ v < 60 ∧ v ≠ 4 ∧ v ≠ 10 ∧ v ≠ 11 ∧ v ≠ 19 ∧ v ≠ 3) := fun q => hv ⟨rfl, q⟩
    exact burnS_ne (by omega) (by omega) (by omega) (by omega)
  · unfold burnS burnC burnB burnA
    simp only [su_at, hg, false_and, if_false]
    repeat' split
    all_goals simp only [su_at, hg, false_and, if_false]
theorem sbw_ba : ∀ {k i : Nat} {S' : S3}, sameBut (pW g) S S' → sameBut (pW g) S (baS g M k i S') := by
  intro k
  induction k with
  | zero => intro i S' h; exact h
  | succ k ih =>
    intro i S' h
    simp only [baS]
    split
    · exact h
    split
    · exact ih h
    · exact ih (sbt_su (sbw_burn h) (by simp [pW]))
theorem sbw_dl : ∀ {k i : Nat} {S' : S3}, sameBut (pW g) S S' → sameBut (pW g) S (dlS g M k i S') := by
  intro k
  induction k with
  | zero => intro i S' h; exact h
  | succ k ih =>
    intro i S' h
    simp only [dlS]
    split
    · exact h
    · exact ih (sbt_su h (by simp [pW]))
theorem sbw_dg : ∀ {k i : Nat} {S' : S3}, i + k = 3 → sameBut (pW g) S S' → sameBut (pW g) S (dgS g b k i S') := by
  intro k
  induction k with
  | zero => intro i S' _ h; exact h
  | succ k ih =>
    intro i S' hi h
    simp only [dgS]
    split
    · exact h
    · refine ih (by omega) ?_
      unfold dg1
      split
      · exact sbw_home h
      · exact sbw_br (sbw_home h) (by omega)
theorem sbw_wl : ∀ {k i : Nat} {S' : S3}, i + k = 3 → sameBut (pW g) S S' → sameBut (pW g) S (wlS g b k i S') := by
  intro k
  induction k with
  | zero => intro i S' _ h; exact h
  | succ k ih =>
    intro i S' hi h
    simp only [wlS]
    split
    · exact h
    · exact ih (by omega) (sbw_wk (by omega) h)
theorem dawn_0 : dawnS g b S g 0 0 = S g 0 0 + 1 := by
  unfold dawnS
  have h := sbw_dg (g := g) (b := b) (k := 3) (i := 0) rfl (sbw_dl (g := g) (M := S (2 + b) 100 0) (k := 10) (i := 0) (sbt_refl (p := pW g) (S := su (su S g 1 0 0) g 0 0 (S g 0 0 + 1)))) g 0 (fun q => by have := q.2.1; omega)
  rw [h, su_self]
theorem qe_0 : qeS g b S g 0 0 = S g 0 0 ∨ qeS g b S g 0 0 = S g 0 0 + 1 := by
  unfold qeS
  split
  · rw [dawn_0, su_at, if_neg (by omega)]
    exact Or.inr rfl
  · rw [su_at, if_neg (by omega)]
    exact Or.inl rfl
theorem qt_0 : (qtS g b S).2 g 0 0 = S g 0 0 ∨ (qtS g b S).2 g 0 0 = S g 0 0 + 1 := by
  unfold qtS
  split
  · have h : sameBut (pW g) S (baS g ((dqS g b S).2 (2 + b) 100 0) 10 0 (dqS g b S).2) := sbw_ba (sbw_cd (sbw_wl rfl sbt_refl))
    have e := congrFun (h g 0 (fun q => by have := q.2.1; omega)) 0
    have := qe_0 (g := g) (b := b) (S := baS g ((dqS g b S).2 (2 + b) 100 0) 10 0 (dqS g b S).2)
    rw [e] at this
    exact this
  · have h : sameBut (pW g) S (baS g (S (2 + b) 100 0) 10 0 S) := sbw_ba sbt_refl
    have e := congrFun (h g 0 (fun q => by have := q.2.1; omega)) 0
    have := qe_0 (g := g) (b := b) (S := baS g (S (2 + b) 100 0) 10 0 S)
    rw [e] at this
    exact this
theorem ps_0 : ∀ (n : Nat) (a : Int32) (S : S3) (m : Nat), S g 0 0 = Int32.ofNat m → ∃ m', m' ≤ m + n ∧ (psS g b n a S).2 g 0 0 = Int32.ofNat m' := by
  intro n
  induction n with
  | zero => intro a S m h; exact ⟨m, by omega, h⟩
  | succ n ih =>
    intro a S m h
    rcases qt_0 (g := g) (b := b) (S := S) with e | e
    · obtain ⟨m', h1, h2⟩ := ih (a + (qtS g b S).1) (qtS g b S).2 m (by rw [e, h])
      exact ⟨m', by omega, h2⟩
    · obtain ⟨m', h1, h2⟩ := ih (a + (qtS g b S).1) (qtS g b S).2 (m + 1) (by rw [e, h, ofN_a1])
      exact ⟨m', by omega, h2⟩
end NIGHT
