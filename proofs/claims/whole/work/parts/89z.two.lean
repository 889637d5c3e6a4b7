/-! THE SECOND PASS OVER THE REAL PLAN; A BOOK IS READ ALIKE -/
section TWOP
variable {b pl n m k t c A E M NR R' dp : Nat} {rk : Nat → Nat} {qf lf : Nat → Nat} {T : Nat → Int32} {S S0 V V0 P P' G G' Q U : S3} {L L0 : L3}
/-- P: the plan, G: what the second pass makes of nothing, Q: the plan ahead of the second pass -/
def PG (P G Q : S3) : Prop := (∀ v, 100 ≤ v → v ≤ 104 → P 0 v = G 0 v) ∧ (∀ v, ¬ (100 ≤ v ∧ v ≤ 104) → v ≠ 113 → P 0 v = Q 0 v) ∧ ∀ i, P 0 113 i = G 0 113 i ∨ G 0 113 i = -2
theorem PG_su (h : PG P G Q) {v i : Nat} {x : Int32} (hv : 100 ≤ v ∧ v ≤ 104 ∨ v = 113) : PG (su P 0 v i x) (su G 0 v i x) Q := by
  obtain ⟨h1, h2, h3⟩ := h
  refine ⟨fun w g1 g2 => ?_, fun w g1 g2 => ?_, fun j => ?_⟩
  · funext j
    rw [su_at, su_at, h1 w g1 g2]
  · rw [su_vne (by omega)]
    exact h2 w g1 g2
  · rw [su_at, su_at]
    split
    · exact Or.inl rfl
    · exact h3 j
theorem PG_e2 (h : PG P G Q) : (e2 V T qf lf t P).1 = (e2 V T qf lf t G).1 ∧ PG (e2 V T qf lf t P).2 (e2 V T qf lf t G).2 Q := by
  have e100 : P 0 100 0 = G 0 100 0 := congrFun (h.1 100 (by decide) (by decide)) 0
  have e101 : P 0 101 0 = G 0 101 0 := congrFun (h.1 101 (by decide) (by decide)) 0
  have e102 : P 0 102 0 = G 0 102 0 := congrFun (h.1 102 (by decide) (by decide)) 0
  unfold e2
  rw [e100, e101, e102]
  by_cases g1 : V 4 214 t = 1
  · rw [if_pos g1, if_pos g1]
    split
    · exact ⟨rfl, h⟩
    · split
      · exact ⟨rfl, h⟩
      · exact ⟨rfl, PG_su h (by omega)⟩
  rw [if_neg g1, if_neg g1]
  by_cases g2 : V 4 214 t = 2
  · rw [if_pos g2, if_pos g2]
    split
    · exact ⟨rfl, h⟩
    · split
      · exact ⟨rfl, h⟩
      · exact ⟨rfl, PG_su h (by omega)⟩
  rw [if_neg g2, if_neg g2]
  by_cases g3 : V 4 214 t = 3
  · rw [if_pos g3, if_pos g3]
    exact ⟨rfl, PG_su h (by omega)⟩
  rw [if_neg g3, if_neg g3]
  by_cases g4 : V 4 214 t = 4
  · rw [if_pos g4, if_pos g4]
    exact ⟨rfl, PG_su h (by omega)⟩
  rw [if_neg g4, if_neg g4]
  by_cases g5 : V 4 214 t = 5
  · rw [if_pos g5, if_pos g5]
    split
    · exact ⟨rfl, h⟩
    · exact ⟨rfl, PG_su h (by omega)⟩
  rw [if_neg g5, if_neg g5]
  by_cases g6 : V 4 214 t = 6
  · rw [if_pos g6, if_pos g6]
    exact ⟨rfl, PG_su h (by omega)⟩
  rw [if_neg g6, if_neg g6]
  by_cases g7 : V 4 214 t = 7
  · rw [if_pos g7, if_pos g7]
    exact ⟨rfl, PG_su h (by omega)⟩
  rw [if_neg g7, if_neg g7]
  by_cases g8 : V 4 214 t = 8
  · rw [if_pos g8, if_pos g8]
    exact ⟨rfl, h⟩
  rw [if_neg g8, if_neg g8]
  exact ⟨rfl, h⟩
theorem PG_pre (h : PG P G Q) (q : pre2 V t G) : pre2 V t P := by
  unfold pre2 at q ⊢
  rw [h.1 100 (by decide) (by decide), h.1 101 (by decide) (by decide), h.1 102 (by decide) (by decide)]
  exact q
theorem PG_ps2 : ∀ (k t : Nat) (P G : S3), PG P G Q → (ps2 V T qf lf k t P).1 = (ps2 V T qf lf k t G).1 ∧ (ps2 V T qf lf k t P).2.1 = (ps2 V T qf lf k t G).2.1 ∧ PG (ps2 V T qf lf k t P).2.2 (ps2 V T qf lf k t G).2.2 Q := by
  intro k
  induction k with
  | zero => intro t P G h; exact ⟨rfl, rfl, h⟩
  | succ k ih =>
    intro t P G h
    obtain ⟨h1, h2⟩ := PG_e2 (V := V) (T := T) (qf := qf) (lf := lf) (t := t) h
    rw [ps2, ps2, h1]
    split
    · exact ih (t + 1) _ _ h2
    · exact ⟨rfl, rfl, h2⟩
theorem PG_pr2 : ∀ (k t : Nat) (P G : S3), PG P G Q → pr2 V T qf lf k t G → pr2 V T qf lf k t P := by
  intro k
  induction k with
  | zero => intro t P G _ _; trivial
  | succ k ih =>
    intro t P G h q
    obtain ⟨h1, h2⟩ := PG_e2 (V := V) (T := T) (qf := qf) (lf := lf) (t := t) h
    exact ⟨PG_pre h q.1, fun q2 => ih (t + 1) _ _ h2 (q.2 (h1.symm.trans q2))⟩
theorem PG_0 (h : ∀ v i, 100 ≤ v → v ≤ 104 → P 0 v i = 0) : PG P G0 P := by
  refine ⟨fun v g1 g2 => ?_, fun _ _ _ => rfl, fun i => Or.inr rfl⟩
  funext i
  rw [h v i g1 g2]
  unfold G0
  rw [if_neg (by omega)]
/-- what was read is what the reference makes of it -/
theorem book_of (hk : k ≤ 400) (h4 : 4 * c ≤ k) (hE : E ≤ k) (hS : SBK b M NR A c E rk S Q U) (hc : CO b qf T k M M NR NR A c S L V U) (hp : PG P U Q) : bookR S P b M A NR rk ∧ ∀ a, a < A → rk a ≤ 35 := by
  obtain ⟨⟨c1, c2, c3, c4⟩, ⟨d1, d2, d3, d4⟩, ⟨e1, e2', e3⟩, -, -⟩ := hc
  obtain ⟨hL, hR, hA⟩ := hS
  obtain ⟨p1, p2', p3⟩ := hp
  have eP : ∀ v, 105 ≤ v → v ≠ 113 → P 0 v = Q 0 v := fun v g1 g2 => p2' v (by omega) g2
  have e105 := eP 105 (by decide) (by decide)
  have hB : ∀ e ρ, blkF A Q rk e ρ → blkF A P rk e ρ := fun e ρ g => by
    unfold blkF at g ⊢
    rw [e105]
    exact g
  refine ⟨?_, fun a ha => by
    obtain ⟨w, -, -, -, -, -, -, -, -, -, -, a12⟩ := hA a ha
    exact a12⟩
  refine ⟨⟨c1, by rw [p1 100 (by decide) (by decide)]; exact c3, c2⟩, ⟨d1, by rw [p1 101 (by decide) (by decide)]; exact d3, d2⟩, ⟨e1, by rw [p1 102 (by decide) (by decide)]; exact e2', e3⟩, fun i hi => ?_, fun r hr => ?_, fun a ha => ?_⟩
  · rw [p1 103 (by decide) (by decide), p1 104 (by decide) (by decide)]
    exact hL i hi
  · obtain ⟨e, g1, g2, g3, g4⟩ := hR r hr
    refine ⟨e, by omega, by rw [eP 107 (by decide) (by decide)]; exact g2, by rw [e105]; exact g3, hB e 36 (g4.imp id ?_)⟩
    rintro ⟨a, h1, h2, h3⟩
    exact ⟨a, h1, h2, by omega⟩
  · obtain ⟨w, a1, a2, a3, a4, a5, a7, a8, a9, a10, a11, -⟩ := hA a ha
    have e113 : ∀ t, U 0 113 a = Int32.ofNat t → t < 100 → P 0 113 a = Int32.ofNat t := fun t g1 g2 => by
      rcases p3 a with h | h
      · rw [h, g1]
      · rw [g1] at h
        have key : ∀ t, t < 100 → Int32.ofNat t ≠ -2 := by decide +kernel
        exact absurd h (key t g2)
    refine ⟨w, by rw [eP 110 (by decide) (by decide)]; exact a1, a2, a3, a4, by rw [eP 111 (by decide) (by decide)]; exact a5, by rw [eP 112 (by decide) (by decide)]; exact a7, fun q => ?_, fun q => ?_, fun q => ?_, fun q => ⟨?_, ?_⟩⟩
    · obtain ⟨t, g1, g2, g3⟩ := a8 q
      exact ⟨t, g1, e113 t g2 (by omega), g3⟩
    · obtain ⟨r, g1, g2, g3, g4⟩ := a9 q
      obtain ⟨e, h1, h2, h3, h5⟩ := hR r g1
      refine ⟨r, e, g1, e113 r g2 (by omega), g3, by omega, by rw [eP 107 (by decide) (by decide)]; exact h2, hB e _ (h5.imp id ?_)⟩
      rintro ⟨a', i1, i2, i3⟩
      exact ⟨a', i1, i2, by omega⟩
    · obtain ⟨e, -, g1, g2, g3, g4⟩ := a10 q
      exact ⟨e, by omega, by rw [eP 114 (by decide) (by decide)]; exact g2, by rw [e105]; exact g3, hB e _ g4⟩
    · refine (a11 q).1.imp (fun g => by rw [eP 115 (by decide) (by decide)]; exact g) ?_
      rintro ⟨e, -, g1, g2, g3, g4⟩
      exact ⟨e, by omega, by rw [eP 115 (by decide) (by decide)]; exact g2, by rw [e105]; exact g3, hB e _ g4⟩
    · obtain ⟨-, i0, i1, g1, g2, g3, g4, g5, g6, g7⟩ := a11 q
      refine ⟨i0, i1, g1, by omega, by rw [eP 116 (by decide) (by decide)]; exact g3, by rw [eP 117 (by decide) (by decide)]; exact g4, g5, g6, fun j h1 h2 => ?_⟩
      have := g7 j h1 h2
      unfold cmpR at this
      rw [eP 119 (by decide) (by decide), eP 120 (by decide) (by decide), eP 121 (by decide) (by decide)]
      exact this
end TWOP
