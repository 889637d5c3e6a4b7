/-! THE PLAIN MACHINE'S RUN OF THE LAW -/
theorem pure_law (L : Nat) (xs : Nat → Int32) (hL : L ≤ 3072) : ∃ (d F : Nat) (h' : PH), d ≤ 60 ∧ prun F (d + 1) 268 [.ref 0] ((300, 0, 0), RO L xs) = some (.inl (some (.int 1)), h') ∧ h'.1.2.1 ≤ 583155 ∧ h'.1.2.2 ≤ 7346640 := by
  obtain ⟨h', h1, h2, hq⟩ := law_run (xs := xs) hL
  have e := hq fun o => o = (.inl (some (.int 1)), h')
  have hc : Cp 46 268 [.ref 0] ((300, 0, 0), RO L xs) fun o => o = (.inl (some (.int 1)), h') := by rw [e]
  obtain ⟨F, o, q1, q2⟩ := hc
  exact ⟨45, F, h', by decide, by rw [q1, q2], h1, h2⟩
