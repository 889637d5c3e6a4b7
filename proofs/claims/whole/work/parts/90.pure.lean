/-! THE PLAIN MACHINE'S RUN OF THE LAW -/
theorem pure_law (L : Nat) (xs : Nat → Int32) (hL : L ≤ 3072) : ∃ (d F : Nat) (h' : PH), d ≤ 60 ∧ prun F (d + 1) 268 [.ref 0] ((300, 0, 0), RO L xs) = some (.inl (some (.int 1)), h') ∧ h'.1.2.1 ≤ 583155 ∧ h'.1.2.2 ≤ 7346640 := by
  sorry
