/-! WHICH PLAN IS LOOKED AT -/
section VIEW
variable {c : Nat × Nat × Nat} {C : Nat → Option PC} {V P P' : S3} {W : L3} {R R' : Nat → Option PC} {pl pl' d a j k n1 n2 : Nat} {x : Int32} {Q : PO → Prop}
theorem RP_eq (h : ∀ k, gov tP pl P W R k = gov tP pl' P' W R' k) : RP c C V W pl P R = RP c C V W pl' P' R' := by
  have e : gov tP pl P W R = gov tP pl' P' W R' := funext h
  unfold RP
  rw [e]
theorem tP_all : ∀ j, j < 16 → (tP[j]?.join).isSome = true := by decide +kernel
theorem tP_s (hj : j < 16) : ∃ s, tP[j]? = some (some s) := by
  have h := tP_all j hj
  cases h1 : tP[j]? with
  | none => rw [h1] at h; exact absurd h (by decide)
  | some o =>
    cases o with
    | none => rw [h1] at h; exact absurd h (by decide)
    | some s => exact ⟨s, rfl⟩
theorem tP_16 : tP.length = 16 := by decide
theorem gov_free (h1 : a ≤ k) (h2 : k < a + 16) : gov tP a P W R k = gov tP a P W R' k := by
  obtain ⟨s, hs⟩ := tP_s (show k - a < 16 by omega)
  rw [show k = a + (k - a) by omega, gov_in hs, gov_in hs]
/-- two plans side by side: either may be looked at -/
theorem RP_turn (h : pl + 16 ≤ a) : RP c C V W a P' (gov tP pl P W R) = RP c C V W pl P (gov tP a P' W R) := by
  refine RP_eq fun k => ?_
  by_cases h1 : k < pl
  · rw [gov_lt (by omega), gov_lt h1, gov_lt h1, gov_lt (by omega)]
  by_cases h2 : k < pl + 16
  · rw [gov_lt (by omega)]
    exact gov_free (by omega) h2
  by_cases h3 : k < a
  · rw [gov_lt h3, gov_ge (by rw [tP_16]; omega), gov_ge (by rw [tP_16]; omega), gov_lt h3]
  by_cases h4 : k < a + 16
  · rw [gov_ge (tb := tP) (b := pl) (by rw [tP_16]; omega)]
    exact gov_free (by omega) h4
  · rw [gov_ge (by rw [tP_16]; omega), gov_ge (by rw [tP_16]; omega), gov_ge (by rw [tP_16]; omega), gov_ge (by rw [tP_16]; omega)]
/-- a plan just made -/
def P0 : S3 := fun _ _ _ => 0
theorem pl0_cell : ∀ (W : L3) (j : Nat), j < 16 → gov tP a P0 W R (a + j) = pn R a 15 (plF a) (a + j) := by
  intro W j hj
  have : j = 0 ∨ j = 1 ∨ j = 2 ∨ j = 3 ∨ j = 4 ∨ j = 5 ∨ j = 6 ∨ j = 7 ∨ j = 8 ∨ j = 9 ∨ j = 10 ∨ j = 11 ∨ j = 12 ∨ j = 13 ∨ j = 14 ∨ j = 15 := by omega
  unfold pn
  rcases this with rfl | rfl | rfl | rfl | rfl | rfl | rfl | rfl | rfl | rfl | rfl | rfl | rfl | rfl | rfl | rfl
  · rw [gov_in (show tP[0]? = some (some _) from rfl), if_pos (by omega)]
    rfl
  all_goals
    rw [gov_in (show tP[_]? = some (some _) from rfl), if_neg (by omega), if_pos (by omega), Nat.add_sub_cancel_left]
    rfl
theorem pn_view (h : pl + 16 ≤ a) : RP c C V W pl P (pn R a 15 (plF a)) = RP c C V W a P0 (gov tP pl P W R) := by
  refine RP_eq fun k => ?_
  by_cases h1 : a ≤ k ∧ k < a + 16
  · rw [gov_ge (by rw [tP_16]; omega)]
    have := pl0_cell (a := a) (R := R) W (k - a) (by omega)
    rw [show a + (k - a) = k by omega] at this
    rw [← this]
    exact gov_free h1.1 h1.2
  · have e : pn R a 15 (plF a) k = R k := by
      unfold pn
      rw [if_neg (by omega), if_neg (by omega)]
    have e2 : gov tP a P0 W (gov tP pl P W R) k = gov tP pl P W R k := by
      by_cases h3 : k < a
      · rw [gov_lt h3]
      · rw [gov_ge (by rw [tP_16]; omega)]
    rw [e2]
    by_cases h3 : k < pl
    · rw [gov_lt h3, gov_lt h3, e]
    by_cases h4 : k < pl + 16
    · exact gov_free (by omega) h4
    · rw [gov_ge (by rw [tP_16]; omega), gov_ge (by rw [tP_16]; omega), e]
end VIEW
