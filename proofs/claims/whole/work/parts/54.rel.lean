/-! CLASS AND REFERENCE: what ties their towns together -/
section RELA
variable {S V P : S3} {g i l b d pl M N A NR β : Nat} {x y : Int32} {rk : Nat → Nat} {nt : Prop}
/-- the numbers that both keep -/
def agS (g M N : Nat) (S V : S3) : Prop := (∀ v, v < 4 → S g v 0 = V g v 0) ∧ (∀ v i, 5 ≤ v → v < 10 → i < M → S g v i = V g v i) ∧ ∀ v l, 12 ≤ v → v < 19 → l < N → S g v l = V g v l
theorem agS_su {g' v : Nat} (h : agS g M N S V) : agS g M N (su S g' v i x) (su V g' v i x) := by
  refine ⟨fun v' h' => ?_, fun v' j h1 h2 h3 => ?_, fun v' j h1 h2 h3 => ?_⟩ <;> rw [su_at, su_at] <;> split
  · rfl
  · exact h.1 v' h'
  · rfl
  · exact h.2.1 v' j h1 h2 h3
  · rfl
  · exact h.2.2 v' j h1 h2 h3
def postR (g M : Nat) (S P : S3) : Prop := ∀ i, i < M → S g 10 i = P 0 103 i ∧ S g 11 i = P 0 104 i
def plR (g N : Nat) (S : S3) : Prop := ∀ l, l < N → ∃ q, q ≤ 29 ∧ S g 13 l = Int32.ofNat q
def roR (g N NR : Nat) (S : S3) : Prop := ∀ l, l < N → S g 14 l = -1 ∨ ∃ r, r < NR ∧ S g 14 l = Int32.ofNat r
def beR (g N A : Nat) (S : S3) : Prop := ∀ l, l < N → S g 15 l = -1 ∨ ∃ a, a < A ∧ S g 15 l = Int32.ofNat a
def noR (g N β : Nat) (S : S3) : Prop := ∀ l, l < N → ∃ n, n ≤ β ∧ S g 17 l = Int32.ofNat n
/-- an open block, in both -/
def frm (g A : Nat) (P : S3) (rk : Nat → Nat) (l k : Nat) (S V : S3) : Prop := ∃ e a0 t, e < 400 ∧ a0 < A ∧ V g 30 (48 * l + k) = Int32.ofNat e ∧ P 0 105 e = Int32.ofNat a0 ∧ rk a0 + k ≤ 35 ∧ S g (l + 30) k = Int32.ofNat a0 ∧ S g (l + 40) k = V g 40 (48 * l + k) ∧
  (V g 40 (48 * l + k) = -1 ∨ ∃ a, a < A ∧ V g 40 (48 * l + k) = Int32.ofNat a ∧ rk a = rk a0) ∧ t + 1 < 2 ^ 31 ∧ S g (l + 50) k = Int32.ofNat t ∧ V g 50 (48 * l + k) = Int32.ofNat (t + 1)
def frR (g N A : Nat) (P : S3) (rk : Nat → Nat) (S V : S3) : Prop := ∀ l, l < N → ∃ o, o ≤ 36 ∧ S g 18 l = Int32.ofNat o ∧ ∀ k, k < o → frm g A P rk l k S V
def ntR (g N : Nat) (S V : S3) : Prop := ∀ l, l < 3 → ∀ j, j < 20 → S g (l + 20) j = V g 20 (20 * l + j)
theorem su_ne {g v g' v' : Nat} (h : v' ≠ v) {j : Nat} : su S g v i x g' v' j = S g' v' j := if_neg fun q => h q.2.1
theorem postR_su {g' v : Nat} (h : postR g M S P) (h1 : v ≠ 10) (h2 : v ≠ 11) : postR g M (su S g' v i x) P := fun j hj => by
  rw [su_ne h1.symm, su_ne h2.symm]; exact h j hj
theorem plR_su {g' v : Nat} (h : plR g N S) (h1 : v ≠ 13) : plR g N (su S g' v i x) := fun j hj => by
  rw [su_ne h1.symm]; exact h j hj
theorem roR_su {g' v : Nat} (h : roR g N NR S) (h1 : v ≠ 14) : roR g N NR (su S g' v i x) := fun j hj => by
  rw [su_ne h1.symm]; exact h j hj
theorem beR_su {g' v : Nat} (h : beR g N A S) (h1 : v ≠ 15) : beR g N A (su S g' v i x) := fun j hj => by
  rw [su_ne h1.symm]; exact h j hj
theorem noR_su {g' v : Nat} (h : noR g N β S) (h1 : v ≠ 17) : noR g N β (su S g' v i x) := fun j hj => by
  rw [su_ne h1.symm]; exact h j hj
theorem frm_su {g' g2 v v2 i2 : Nat} {y : Int32} (h : frm g A P rk l i S V) (h1 : v < 30) (h2 : v2 < 30) {j : Nat} : frm g A P rk l i (su S g' v j x) (su V g2 v2 i2 y) := by
  obtain ⟨e, a0, t, h⟩ := h
  refine ⟨e, a0, t, ?_⟩
  rw [su_ne (by omega), su_ne (by omega), su_ne (by omega), su_ne (by omega), su_ne (by omega), su_ne (by omega)]
  exact h
theorem frR_su {g' g2 v v2 i2 : Nat} {y : Int32} (h : frR g N A P rk S V) (h1 : v < 30) (h2 : v2 < 30) (h3 : v ≠ 18) : frR g N A P rk (su S g' v i x) (su V g2 v2 i2 y) := fun l hl => by
  obtain ⟨o, ho, h4, h5⟩ := h l hl
  exact ⟨o, ho, by rw [su_ne h3.symm]; exact h4, fun k hk => frm_su (h5 k hk) h1 h2⟩
theorem ntR_su {g' g2 v v2 i2 : Nat} {y : Int32} (h : ntR g N S V) (h1 : v < 20) (h2 : v2 < 20) : ntR g N (su S g' v i x) (su V g2 v2 i2 y) := fun l hl j hj => by
  rw [su_ne (by omega), su_ne (by omega)]
  exact h l hl j hj
/-- a block whose first act lies deeper -/
def blkF (A : Nat) (P : S3) (rk : Nat → Nat) (e ρ : Nat) : Prop := P 0 105 e = -1 ∨ ∃ a, a < A ∧ P 0 105 e = Int32.ofNat a ∧ rk a < ρ
def actR (S P : S3) (b M A NR : Nat) (rk : Nat → Nat) (a : Nat) : Prop := ∃ w : Nat, P 0 110 a = Int32.ofNat w ∧ S (2 + b) 107 a = Int32.ofNat w ∧ 4 ≤ w ∧ w ≤ 13 ∧
  (S (2 + b) 109 a = P 0 111 a ∧ (P 0 111 a = -1 ∨ ∃ a', a' < A ∧ P 0 111 a = Int32.ofNat a' ∧ rk a' = rk a)) ∧
  (w = 7 ∨ w = 8 ∨ w = 9 ∨ w = 12 → okc (P 0 112 a) ∧ S (2 + b) 108 a = cv (P 0 112 a)) ∧
  (w = 10 → ∃ t, t < M ∧ P 0 113 a = Int32.ofNat t ∧ S (2 + b) 108 a = Int32.ofNat t) ∧
  (w = 11 → ∃ r e, r < NR ∧ P 0 113 a = Int32.ofNat r ∧ S (2 + b) 108 a = Int32.ofNat r ∧ e < 400 ∧ P 0 107 r = Int32.ofNat e ∧ blkF A P rk e (rk a)) ∧
  (w = 12 ∨ w = 13 → ∃ e, e < 400 ∧ P 0 114 a = Int32.ofNat e ∧ S (2 + b) 110 a = P 0 105 e ∧ blkF A P rk e (rk a)) ∧
  (w = 13 → (P 0 115 a = -1 ∧ S (2 + b) 111 a = -1 ∨ ∃ e, e < 400 ∧ P 0 115 a = Int32.ofNat e ∧ S (2 + b) 111 a = P 0 105 e ∧ blkF A P rk e (rk a)) ∧
    ∃ i0 i1, i0 ≤ i1 ∧ i1 ≤ 100 ∧ P 0 116 a = Int32.ofNat i0 ∧ P 0 117 a = Int32.ofNat i1 ∧ S (2 + b) 112 a = Int32.ofNat i0 ∧ S (2 + b) 113 a = Int32.ofNat i1 ∧
      ∀ k, i0 ≤ k → k < i1 → okc (P 0 119 k) ∧ okc (P 0 121 k) ∧ S (2 + b) 114 k = cv (P 0 119 k) ∧ S (2 + b) 116 k = cv (P 0 121 k) ∧ S (2 + b) 115 k = cs (P 0 120 k))
/-- a book and a plan say the same -/
def bookR (S P : S3) (b M A NR : Nat) (rk : Nat → Nat) : Prop :=
  (S (2 + b) 100 0 = Int32.ofNat M ∧ P 0 100 0 = Int32.ofNat M ∧ M ≤ 10) ∧ (S (2 + b) 101 0 = Int32.ofNat NR ∧ P 0 101 0 = Int32.ofNat NR ∧ NR ≤ 6) ∧ (S (2 + b) 102 0 = Int32.ofNat A ∧ P 0 102 0 = Int32.ofNat A ∧ A ≤ 80) ∧
  (∀ i, i < M → S (2 + b) 104 i = P 0 103 i ∧ S (2 + b) 105 i = P 0 104 i ∧ ∃ q, q ≤ 29 ∧ P 0 103 i = Int32.ofNat q) ∧
  (∀ r, r < NR → ∃ e, e < 400 ∧ P 0 107 r = Int32.ofNat e ∧ S (2 + b) 106 r = P 0 105 e ∧ blkF A P rk e 36) ∧ ∀ a, a < A → actR S P b M A NR rk a
/-- a book is read at names from 100 on alone -/
theorem bookR_eq {S' : S3} (h : bookR S P b M A NR rk) (hs : ∀ v, 100 ≤ v → S' (2 + b) v = S (2 + b) v) : bookR S' P b M A NR rk := by
  unfold bookR actR at h ⊢
  simp only [hs 100 (by decide), hs 101 (by decide), hs 102 (by decide), hs 104 (by decide), hs 105 (by decide), hs 106 (by decide), hs 107 (by decide), hs 108 (by decide), hs 109 (by decide), hs 110 (by decide), hs 111 (by decide), hs 112 (by decide), hs 113 (by decide), hs 114 (by decide), hs 115 (by decide), hs 116 (by decide)]
  exact h
/-- the two towns -/
def townR (g b M A NR N β : Nat) (rk : Nat → Nat) (nt : Prop) (P S V : S3) : Prop :=
  agS g M N S V ∧ okG g b S ∧ postR g M S P ∧ (plR g N S ∧ roR g N NR S ∧ beR g N A S ∧ noR g N β S) ∧ frR g N A P rk S V ∧ (nt → ntR g N S V) ∧
  (S g 4 0 = Int32.ofNat N ∧ N ≤ 3 ∧ V 4 205 0 = Int32.ofNat N ∧ ∀ l, l < N → S g 19 l = V 4 215 l)
/-- a number without a condition changes in both -/
theorem townR_su {v : Nat} (h : townR g b M A NR N β rk nt P S V) (h1 : v < 20) (h2 : v ≠ 4) (h3 : v ≠ 9) (h4 : v ≠ 10) (h5 : v ≠ 11) (h6 : v ≠ 13) (h7 : v ≠ 14) (h8 : v ≠ 15) (h9 : v ≠ 17) (h10 : v ≠ 18) (h11 : v ≠ 19) : townR g b M A NR N β rk nt P (su S g v i x) (su V g v i x) := by
  obtain ⟨a1, a2, a3, ⟨a4, a5, a6, a7⟩, a8, a9, a10, a11, a12, a13⟩ := h
  refine ⟨agS_su a1, okG_su a2 (by omega) h10 h3, postR_su a3 h4 h5, ⟨plR_su a4 h6, roR_su a5 h7, beR_su a6 h8, noR_su a7 h9⟩, frR_su a8 (by omega) (by omega) h10, fun q => ntR_su (a9 q) h1 h1, ?_, a11, ?_, fun l hl => ?_⟩
  · rw [su_ne h2.symm]; exact a10
  · rw [su_ne (by omega)]; exact a12
  · rw [su_ne h11.symm, su_ne (by omega)]; exact a13 l hl
theorem townR_lit (h : townR g b M A NR N β rk nt P S V) (hx : x = 0 ∨ x = 1) : townR g b M A NR N β rk nt P (su S g 9 i x) (su V g 9 i x) := by
  obtain ⟨a1, a2, a3, ⟨a4, a5, a6, a7⟩, a8, a9, a10, a11, a12, a13⟩ := h
  refine ⟨agS_su a1, okG_lit a2 hx, postR_su a3 (by decide) (by decide), ⟨plR_su a4 (by decide), roR_su a5 (by decide), beR_su a6 (by decide), noR_su a7 (by decide)⟩, frR_su a8 (by decide) (by decide) (by decide), fun q => ntR_su (a9 q) (by decide) (by decide), ?_, a11, ?_, fun l hl => ?_⟩
  · rw [su_ne (by decide)]; exact a10
  · rw [su_ne (by decide)]; exact a12
  · rw [su_ne (by decide), su_ne (by decide)]; exact a13 l hl
theorem townR_place (h : townR g b M A NR N β rk nt P S V) {q : Nat} (hq : q ≤ 29) : townR g b M A NR N β rk nt P (su S g 13 i (Int32.ofNat q)) (su V g 13 i (Int32.ofNat q)) := by
  obtain ⟨a1, a2, a3, ⟨a4, a5, a6, a7⟩, a8, a9, a10, a11, a12, a13⟩ := h
  refine ⟨agS_su a1, okG_su a2 (by decide) (by decide) (by decide), postR_su a3 (by decide) (by decide), ⟨fun l hl => ?_, roR_su a5 (by decide), beR_su a6 (by decide), noR_su a7 (by decide)⟩, frR_su a8 (by decide) (by decide) (by decide), fun q => ntR_su (a9 q) (by decide) (by decide), ?_, a11, ?_, fun l hl => ?_⟩
  · rw [su_at]
    split
    · exact ⟨q, hq, rfl⟩
    · exact a4 l hl
  · rw [su_ne (by decide)]; exact a10
  · rw [su_ne (by decide)]; exact a12
  · rw [su_ne (by decide), su_ne (by decide)]; exact a13 l hl
theorem townR_round (h : townR g b M A NR N β rk nt P S V) (hx : x = -1 ∨ ∃ r, r < NR ∧ x = Int32.ofNat r) : townR g b M A NR N β rk nt P (su S g 14 i x) (su V g 14 i x) := by
  obtain ⟨a1, a2, a3, ⟨a4, a5, a6, a7⟩, a8, a9, a10, a11, a12, a13⟩ := h
  refine ⟨agS_su a1, okG_su a2 (by decide) (by decide) (by decide), postR_su a3 (by decide) (by decide), ⟨plR_su a4 (by decide), fun l hl => ?_, beR_su a6 (by decide), noR_su a7 (by decide)⟩, frR_su a8 (by decide) (by decide) (by decide), fun q => ntR_su (a9 q) (by decide) (by decide), ?_, a11, ?_, fun l hl => ?_⟩
  · rw [su_at]
    split
    · exact hx
    · exact a5 l hl
  · rw [su_ne (by decide)]; exact a10
  · rw [su_ne (by decide)]; exact a12
  · rw [su_ne (by decide), su_ne (by decide)]; exact a13 l hl
theorem townR_begun (h : townR g b M A NR N β rk nt P S V) (hx : x = -1 ∨ ∃ a, a < A ∧ x = Int32.ofNat a) : townR g b M A NR N β rk nt P (su S g 15 i x) (su V g 15 i x) := by
  obtain ⟨a1, a2, a3, ⟨a4, a5, a6, a7⟩, a8, a9, a10, a11, a12, a13⟩ := h
  refine ⟨agS_su a1, okG_su a2 (by decide) (by decide) (by decide), postR_su a3 (by decide) (by decide), ⟨plR_su a4 (by decide), roR_su a5 (by decide), fun l hl => ?_, noR_su a7 (by decide)⟩, frR_su a8 (by decide) (by decide) (by decide), fun q => ntR_su (a9 q) (by decide) (by decide), ?_, a11, ?_, fun l hl => ?_⟩
  · rw [su_at]
    split
    · exact hx
    · exact a6 l hl
  · rw [su_ne (by decide)]; exact a10
  · rw [su_ne (by decide)]; exact a12
  · rw [su_ne (by decide), su_ne (by decide)]; exact a13 l hl
/-- fewer blocks are open -/
theorem townR_less (h : townR g b M A NR N β rk nt P S V) {o o' : Nat} (ho : S g 18 l = Int32.ofNat o) (ho2 : o ≤ 36) (hle : o' ≤ o) : townR g b M A NR N β rk nt P (su S g 18 l (Int32.ofNat o')) (su V g 18 l (Int32.ofNat o')) := by
  obtain ⟨a1, a2, a3, ⟨a4, a5, a6, a7⟩, a8, a9, a10, a11, a12, a13⟩ := h
  refine ⟨agS_su a1, okG_open a2 (by omega), postR_su a3 (by decide) (by decide), ⟨plR_su a4 (by decide), roR_su a5 (by decide), beR_su a6 (by decide), noR_su a7 (by decide)⟩, fun l' hl' => ?_, fun q => ntR_su (a9 q) (by decide) (by decide), ?_, a11, ?_, fun l hl => ?_⟩
  · obtain ⟨o2, h1, h2, h3⟩ := a8 l' hl'
    by_cases e : l' = l
    · subst e
      have e2 : o2 = o := by
        have e3 := h2.symm.trans ho
        have e4 := congrArg Int32.toNatClampNeg e3
        rwa [tN_nat (by omega), tN_nat (by omega)] at e4
      subst e2
      exact ⟨o', by omega, by rw [su_self], fun k hk => frm_su (h3 k (by omega)) (by decide) (by decide)⟩
    · exact ⟨o2, h1, by rw [su_at, if_neg (fun q => e q.2.2)]; exact h2, fun k hk => frm_su (h3 k hk) (by decide) (by decide)⟩
  · rw [su_ne (by decide)]; exact a10
  · rw [su_ne (by decide)]; exact a12
  · rw [su_ne (by decide), su_ne (by decide)]; exact a13 l hl
end RELA
