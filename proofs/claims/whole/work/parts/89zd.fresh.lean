/-! A TOWN THAT BEGINS, IN BOTH -/
section FRSH
variable {b pl g i j k l v M N A NR β β' : Nat} {rk rk' : Nat → Nat} {nt : Prop} {S S' V V' P P1 : S3} {x : Int32}
def lmv (b : Nat) (S : S3) (v j : Nat) : Int32 := if v = 10 then S (2 + b) 104 j else if v = 11 ∨ v = 5 then S (2 + b) 105 j else if v = 6 then 10 else 0
def lb1 (b i : Nat) (S : S3) : S3 := su (su (su (su (su (su (su S 0 10 i (S (2 + b) 104 i)) 0 11 i (S (2 + b) 105 i)) 0 5 i (S (2 + b) 105 i)) 0 6 i 10) 0 7 i 0) 0 8 i 0) 0 9 i 0
theorem lb1_at : lb1 b i S g v j = if g = 0 ∧ 5 ≤ v ∧ v ≤ 11 ∧ j = i then lmv b S v j else S g v j := by
  unfold lb1 lmv
  simp only [su_at]
  by_cases h : g = 0 ∧ j = i
  · obtain ⟨rfl, rfl⟩ := h
    by_cases h2 : 5 ≤ v ∧ v ≤ 11
    · have : v = 5 ∨ v = 6 ∨ v = 7 ∨ v = 8 ∨ v = 9 ∨ v = 10 ∨ v = 11 := by omega
      rcases this with rfl | rfl | rfl | rfl | rfl | rfl | rfl <;> simp
    · rw [if_neg (by omega), if_neg (by omega), if_neg (by omega), if_neg (by omega), if_neg (by omega), if_neg (by omega), if_neg (by omega), if_neg (by omega)]
  · rw [if_neg (by omega), if_neg (by omega), if_neg (by omega), if_neg (by omega), if_neg (by omega), if_neg (by omega), if_neg (by omega), if_neg (by omega)]
theorem lbL_at (hM : M ≤ 10) : ∀ (k i : Nat) (S : S3), i + k = 10 → S (2 + b) 100 0 = Int32.ofNat M → ∀ g v j, lbL 0 b k i S g v j = if g = 0 ∧ 5 ≤ v ∧ v ≤ 11 ∧ i ≤ j ∧ j < M then lmv b S v j else S g v j := by
  intro k
  induction k with
  | zero =>
    intro i S hi hS g v j
    rw [lbL, if_neg (by omega)]
  | succ k ih =>
    intro i S hi hS g v j
    rw [lbL, hS]
    by_cases h1 : M ≤ i
    · rw [if_pos ((ofN_le (by omega) (by omega)).mpr h1), if_neg (by omega)]
    · rw [if_neg (fun q => h1 ((ofN_le (by omega) (by omega)).mp q))]
      have hb1 : ∀ v j, lb1 b i S (2 + b) v j = S (2 + b) v j := fun v j => by rw [lb1_at, if_neg (by omega)]
      have := ih (i + 1) (lb1 b i S) (by omega) ((hb1 100 0).trans hS) g v j
      have el : lmv b (lb1 b i S) v j = lmv b S v j := by unfold lmv; rw [hb1, hb1]
      rw [show (su (su (su (su (su (su (su S 0 10 i (S (2 + b) 104 i)) 0 11 i (S (2 + b) 105 i)) 0 5 i (S (2 + b) 105 i)) 0 6 i 10) 0 7 i 0) 0 8 i 0) 0 9 i 0) = lb1 b i S from rfl, this, el, lb1_at]
      by_cases h2 : g = 0 ∧ 5 ≤ v ∧ v ≤ 11 ∧ i + 1 ≤ j ∧ j < M
      · rw [if_pos h2, if_pos (by omega)]
      · rw [if_neg h2]
        by_cases h3 : g = 0 ∧ 5 ≤ v ∧ v ≤ 11 ∧ j = i
        · rw [if_pos h3, if_pos (by omega)]
        · rw [if_neg h3, if_neg (by omega)]
def lgv (x : Int32) (v : Nat) : Int32 := if v = 12 then x else if v = 14 ∨ v = 15 then -1 else 0
theorem beg_at : begS 0 i (S 0 19 i) S g v j = if g = 0 ∧ 12 ≤ v ∧ v ≤ 18 ∧ j = i then lgv (S 0 19 j) v else S g v j := by
  unfold begS homeS giveS lgv
  simp only [su_at]
  by_cases h : g = 0 ∧ j = i
  · obtain ⟨rfl, rfl⟩ := h
    by_cases h2 : 12 ≤ v ∧ v ≤ 18
    · have : v = 12 ∨ v = 13 ∨ v = 14 ∨ v = 15 ∨ v = 16 ∨ v = 17 ∨ v = 18 := by omega
      rcases this with rfl | rfl | rfl | rfl | rfl | rfl | rfl <;> simp
    · by_cases h3 : v = 19
      · subst h3; simp
      · rw [if_neg (by omega), if_neg (by omega), if_neg (by omega), if_neg (by omega), if_neg (by omega), if_neg (by omega), if_neg (by omega), if_neg (by omega), if_neg (by omega)]
  · rw [if_neg (by omega), if_neg (by omega), if_neg (by omega), if_neg (by omega), if_neg (by omega), if_neg (by omega), if_neg (by omega), if_neg (by omega), if_neg (by omega)]
theorem gbL_at (hN : N ≤ 3) : ∀ (k i : Nat) (S : S3), i + k = 3 → S 0 4 0 = Int32.ofNat N → ∀ g v j, gbL 0 k i S g v j = if g = 0 ∧ 12 ≤ v ∧ v ≤ 18 ∧ i ≤ j ∧ j < N then lgv (S 0 19 j) v else S g v j := by
  intro k
  induction k with
  | zero =>
    intro i S hi hS g v j
    rw [gbL, if_neg (by omega)]
  | succ k ih =>
    intro i S hi hS g v j
    rw [gbL, hS]
    by_cases h1 : N ≤ i
    · rw [if_pos ((ofN_le (by omega) (by omega)).mpr h1), if_neg (by omega)]
    · have e19 : begS 0 i (S 0 19 i) S 0 19 j = S 0 19 j := by rw [beg_at, if_neg (by omega)]
      rw [if_neg (fun q => h1 ((ofN_le (by omega) (by omega)).mp q)), ih (i + 1) _ (by omega) (by rw [beg_at, if_neg (by omega)]; exact hS), e19, beg_at]
      by_cases h2 : g = 0 ∧ 12 ≤ v ∧ v ≤ 18 ∧ i + 1 ≤ j ∧ j < N
      · rw [if_pos h2, if_pos (by omega)]
      · rw [if_neg h2]
        by_cases h3 : g = 0 ∧ 12 ≤ v ∧ v ≤ 18 ∧ j = i
        · rw [if_pos h3, if_pos (by omega)]
        · rw [if_neg h3, if_neg (by omega)]
theorem tbS_at (hM : M ≤ 10) (hN : N ≤ 3) (h1 : S (2 + b) 100 0 = Int32.ofNat M) (h2 : S 0 4 0 = Int32.ofNat N) : tbS 0 b S g v j = if g = 0 ∧ 12 ≤ v ∧ v ≤ 18 ∧ j < N then lgv (S 0 19 j) v else if g = 0 ∧ 5 ≤ v ∧ v ≤ 11 ∧ j < M then lmv b S v j else if g = 0 ∧ v = 60 ∧ j = 0 then bk b else if g = 0 ∧ v < 4 ∧ j = 0 then 0 else S g v j := by
  have t0 : ∀ g v j, tb0 0 b S g v j = if g = 0 ∧ v = 60 ∧ j = 0 then bk b else if g = 0 ∧ v < 4 ∧ j = 0 then 0 else S g v j := fun g v j => by
    unfold tb0
    simp only [su_at]
    by_cases h : g = 0 ∧ j = 0
    · obtain ⟨rfl, rfl⟩ := h
      by_cases h2 : v < 4
      · have : v = 0 ∨ v = 1 ∨ v = 2 ∨ v = 3 := by omega
        rcases this with rfl | rfl | rfl | rfl <;> simp
      · by_cases h3 : v = 60
        · subst h3; simp
        · rw [if_neg (by omega), if_neg (by omega), if_neg (by omega), if_neg (by omega), if_neg (by omega), if_neg (by omega), if_neg (by omega)]
    · rw [if_neg (by omega), if_neg (by omega), if_neg (by omega), if_neg (by omega), if_neg (by omega), if_neg (by omega), if_neg (by omega)]
  have hb : ∀ v j, tb0 0 b S (2 + b) v j = S (2 + b) v j := fun v j => by rw [t0, if_neg (by omega), if_neg (by omega)]
  have e1 : tb0 0 b S (2 + b) 100 0 = Int32.ofNat M := (hb 100 0).trans h1
  have e2' : ∀ v j, v = 4 ∨ v = 19 → lbL 0 b 10 0 (tb0 0 b S) 0 v j = S 0 v j := fun v j hv => by
    rw [lbL_at hM 10 0 _ rfl e1, if_neg (by omega), t0, if_neg (by omega), if_neg (by omega)]
  have el : lmv b (tb0 0 b S) v j = lmv b S v j := by unfold lmv; rw [hb, hb]
  unfold tbS
  rw [gbL_at hN 3 0 _ rfl ((e2' 4 0 (Or.inl rfl)).trans h2), e2' 19 j (Or.inr rfl), lbL_at hM 10 0 _ rfl e1, el, t0]
  by_cases g1 : g = 0 ∧ 12 ≤ v ∧ v ≤ 18 ∧ j < N
  · rw [if_pos g1, if_pos (by omega)]
  · rw [if_neg g1, if_neg (by omega)]
    by_cases g2 : g = 0 ∧ 5 ≤ v ∧ v ≤ 11 ∧ j < M
    · rw [if_pos g2, if_pos (by omega)]
    · rw [if_neg g2, if_neg (by omega)]
/-- the reference -/
def lmw (P : S3) (v j : Nat) : Int32 := if v = 5 then P 0 104 j else if v = 6 then 10 else 0
theorem lmR_at : ∀ (k i : Nat) (V : S3), i + k = 10 → ∀ g v j, lmR P k i V g v j = if g = 0 ∧ 5 ≤ v ∧ v ≤ 9 ∧ i ≤ j ∧ j < 10 then lmw P v j else V g v j := by
  intro k
  induction k with
  | zero => intro i V hi g v j; rw [lmR, if_neg (by omega)]
  | succ k ih =>
    intro i V hi g v j
    have e1 : su (su (su (su (su V 0 5 i (P 0 104 i)) 0 6 i 10) 0 7 i 0) 0 8 i 0) 0 9 i 0 g v j = if g = 0 ∧ 5 ≤ v ∧ v ≤ 9 ∧ j = i then lmw P v j else V g v j := by
      unfold lmw
      simp only [su_at]
      by_cases h : g = 0 ∧ j = i
      · obtain ⟨rfl, rfl⟩ := h
        by_cases h2 : 5 ≤ v ∧ v ≤ 9
        · have : v = 5 ∨ v = 6 ∨ v = 7 ∨ v = 8 ∨ v = 9 := by omega
          rcases this with rfl | rfl | rfl | rfl | rfl <;> simp
        · rw [if_neg (by omega), if_neg (by omega), if_neg (by omega), if_neg (by omega), if_neg (by omega), if_neg (by omega)]
      · rw [if_neg (by omega), if_neg (by omega), if_neg (by omega), if_neg (by omega), if_neg (by omega), if_neg (by omega)]
    rw [lmR, ih (i + 1) _ (by omega), e1]
    by_cases h2 : g = 0 ∧ 5 ≤ v ∧ v ≤ 9 ∧ i + 1 ≤ j ∧ j < 10
    · rw [if_pos h2, if_pos (by omega)]
    · rw [if_neg h2]
      by_cases h3 : g = 0 ∧ 5 ≤ v ∧ v ≤ 9 ∧ j = i
      · rw [if_pos h3, if_pos (by omega)]
      · rw [if_neg h3, if_neg (by omega)]
theorem lgR_at : ∀ (k l : Nat) (V : S3), l + k = N → ∀ g v j, lgR k l V g v j = if g = 0 ∧ 12 ≤ v ∧ v ≤ 18 ∧ l ≤ j ∧ j < N then lgv (V 4 215 j) v else V g v j := by
  intro k
  induction k with
  | zero => intro l V hl g v j; rw [lgR, if_neg (by omega)]
  | succ k ih =>
    intro l V hl g v j
    have e1 : ∀ g v j, giveS 0 l (su (su (su (su V 0 12 l (V 4 215 l)) 0 13 l 0) 0 14 l (-1)) 0 17 l 0) g v j = if g = 0 ∧ 12 ≤ v ∧ v ≤ 18 ∧ j = l then lgv (V 4 215 j) v else V g v j := fun g v j => by
      unfold giveS lgv
      simp only [su_at]
      by_cases h : g = 0 ∧ j = l
      · obtain ⟨rfl, rfl⟩ := h
        by_cases h2 : 12 ≤ v ∧ v ≤ 18
        · have : v = 12 ∨ v = 13 ∨ v = 14 ∨ v = 15 ∨ v = 16 ∨ v = 17 ∨ v = 18 := by omega
          rcases this with rfl | rfl | rfl | rfl | rfl | rfl | rfl <;> simp
        · rw [if_neg (by omega), if_neg (by omega), if_neg (by omega), if_neg (by omega), if_neg (by omega), if_neg (by omega), if_neg (by omega), if_neg (by omega)]
      · rw [if_neg (by omega), if_neg (by omega), if_neg (by omega), if_neg (by omega), if_neg (by omega), if_neg (by omega), if_neg (by omega), if_neg (by omega)]
    rw [lgR, ih (l + 1) _ (by omega), e1, e1, if_neg (show ¬ ((4 : Nat) = 0 ∧ _) by omega)]
    by_cases h2 : g = 0 ∧ 12 ≤ v ∧ v ≤ 18 ∧ l + 1 ≤ j ∧ j < N
    · rw [if_pos h2, if_pos (by omega)]
    · rw [if_neg h2]
      by_cases h3 : g = 0 ∧ 12 ≤ v ∧ v ≤ 18 ∧ j = l
      · rw [if_pos h3, if_pos (by omega)]
      · rw [if_neg h3, if_neg (by omega)]
/-- the towns as they begin -/
theorem townR_fresh (hM : M ≤ 10) (hN : N ≤ 3) (hb2 : b < 2) (h1 : S (2 + b) 100 0 = Int32.ofNat M) (h2 : S 0 4 0 = Int32.ofNat N) (hVN : V 4 205 0 = Int32.ofNat N) (hsz : ∀ l, l < N → S 0 19 l = V 4 215 l) (hop : ∀ l, l < 3 → ∃ o, o ≤ 36 ∧ S 0 18 l = Int32.ofNat o) (hlit : ∀ i, i < 10 → S 0 9 i = 0 ∨ S 0 9 i = 1) (hnt : nt → ntR 0 N S V)
    (hbk : ∀ i, i < M → S (2 + b) 104 i = P 0 103 i ∧ S (2 + b) 105 i = P 0 104 i) : townR 0 b M A NR N β rk nt P (tbS 0 b S) (lgR N 0 (lmR P 10 0 (su (su (su (su V 0 0 0 0) 0 1 0 0) 0 3 0 0) 0 2 0 0))) := by
  have hS : ∀ g v j, tbS 0 b S g v j = _ := fun g v j => tbS_at (g := g) (v := v) (j := j) hM hN h1 h2
  have h4 : ∀ g v j, su (su (su (su V 0 0 0 0) 0 1 0 0) 0 3 0 0) 0 2 0 0 g v j = if g = 0 ∧ v < 4 ∧ j = 0 then 0 else V g v j := fun g v j => by
    simp only [su_at]
    by_cases h : g = 0 ∧ j = 0
    · obtain ⟨rfl, rfl⟩ := h
      by_cases h2 : v < 4
      · have : v = 0 ∨ v = 1 ∨ v = 2 ∨ v = 3 := by omega
        rcases this with rfl | rfl | rfl | rfl <;> simp
      · rw [if_neg (by omega), if_neg (by omega), if_neg (by omega), if_neg (by omega), if_neg (by omega)]
    · rw [if_neg (by omega), if_neg (by omega), if_neg (by omega), if_neg (by omega), if_neg (by omega)]
  have hV : ∀ g v j, lgR N 0 (lmR P 10 0 (su (su (su (su V 0 0 0 0) 0 1 0 0) 0 3 0 0) 0 2 0 0)) g v j = if g = 0 ∧ 12 ≤ v ∧ v ≤ 18 ∧ j < N then lgv (V 4 215 j) v else if g = 0 ∧ 5 ≤ v ∧ v ≤ 9 ∧ j < 10 then lmw P v j else if g = 0 ∧ v < 4 ∧ j = 0 then 0 else V g v j := fun g v j => by
    rw [lgR_at N 0 _ (Nat.zero_add N), lmR_at 10 0 _ rfl, lmR_at 10 0 _ rfl, if_neg (show ¬ ((4 : Nat) = 0 ∧ _) by omega), h4, h4, if_neg (show ¬ ((4 : Nat) = 0 ∧ _) by omega)]
    by_cases g1 : g = 0 ∧ 12 ≤ v ∧ v ≤ 18 ∧ j < N
    · rw [if_pos g1, if_pos (by omega)]
    · rw [if_neg g1, if_neg (by omega)]
      by_cases g2 : g = 0 ∧ 5 ≤ v ∧ v ≤ 9 ∧ j < 10
      · rw [if_pos g2, if_pos (by omega)]
      · rw [if_neg g2, if_neg (by omega)]
  have gS : ∀ l v, l < N → 12 ≤ v → v ≤ 18 → tbS 0 b S 0 v l = lgv (S 0 19 l) v := fun l v q1 q2 q3 => by rw [hS, if_pos (by omega)]
  have gV : ∀ l v, l < N → 12 ≤ v → v ≤ 18 → lgR N 0 (lmR P 10 0 (su (su (su (su V 0 0 0 0) 0 1 0 0) 0 3 0 0) 0 2 0 0)) 0 v l = lgv (V 4 215 l) v := fun l v q1 q2 q3 => by rw [hV, if_pos (by omega)]
  have lS : ∀ i v, i < M → 5 ≤ v → v ≤ 11 → tbS 0 b S 0 v i = lmv b S v i := fun i v q1 q2 q3 => by rw [hS, if_neg (by omega), if_pos (by omega)]
  refine ⟨⟨fun v hv => ?_, fun v i q1 q2 q3 => ?_, fun v l q1 q2 q3 => ?_⟩, ⟨?_, fun l hl => ?_, fun i hi => ?_⟩, fun i hi => ?_, ⟨fun l hl => ⟨0, by decide, ?_⟩, fun l hl => Or.inl ?_, fun l hl => Or.inl ?_, fun l hl => ⟨0, Nat.zero_le _, ?_⟩⟩, fun l hl => ⟨0, by decide, ?_, fun k hk => by omega⟩, fun q => fun l hl j hj => ?_, ?_, hN, ?_, fun l hl => ?_⟩
  · rw [hS, hV, if_neg (by omega), if_neg (by omega), if_neg (by omega), if_pos (by omega), if_neg (by omega), if_neg (by omega), if_pos (by omega)]
  · rw [lS i v q3 q1 (by omega), hV, if_neg (by omega), if_pos (by omega)]
    unfold lmv lmw
    have : v = 5 ∨ v = 6 ∨ v = 7 ∨ v = 8 ∨ v = 9 := by omega
    rcases this with rfl | rfl | rfl | rfl | rfl <;> simp [(hbk i q3).2]
  · rw [gS l v q3 q1 (by omega), gV l v q3 q1 (by omega), hsz l q3]
  · rw [hS, if_neg (by omega), if_neg (by omega), if_pos (by omega)]
    exact bk_BA hb2
  · by_cases hl2 : l < N
    · exact ⟨0, by decide, by rw [gS l 18 hl2 (by decide) (by decide)]; rfl⟩
    · rw [hS, if_neg (by omega), if_neg (by omega), if_neg (by omega), if_neg (by omega)]
      exact hop l hl
  · by_cases hi2 : i < M
    · rw [lS i 9 hi2 (by decide) (by decide)]; exact Or.inl rfl
    · rw [hS, if_neg (by omega), if_neg (by omega), if_neg (by omega), if_neg (by omega)]
      exact hlit i hi
  · rw [lS i 10 hi (by decide) (by decide), lS i 11 hi (by decide) (by decide)]
    exact hbk i hi
  · rw [gS l 13 hl (by decide) (by decide)]; rfl
  · rw [gS l 14 hl (by decide) (by decide)]; rfl
  · rw [gS l 15 hl (by decide) (by decide)]; rfl
  · rw [gS l 17 hl (by decide) (by decide)]; rfl
  · rw [gS l 18 hl (by decide) (by decide)]; rfl
  · rw [hS, hV, if_neg (by omega), if_neg (by omega), if_neg (by omega), if_neg (by omega), if_neg (by omega), if_neg (by omega), if_neg (by omega)]
    exact hnt q l hl j hj
  · rw [hS, if_neg (by omega), if_neg (by omega), if_neg (by omega), if_neg (by omega)]; exact h2
  · rw [hV, if_neg (by omega), if_neg (by omega), if_neg (by omega)]; exact hVN
  · rw [hS, hV, if_neg (by omega), if_neg (by omega), if_neg (by omega), if_neg (by omega), if_neg (by omega), if_neg (by omega), if_neg (by omega)]
    exact hsz l hl
end FRSH
