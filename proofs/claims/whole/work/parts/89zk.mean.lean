/-! A MEAN OF WHOLE NUMBERS IS A NUMBER (over the definitions alone) -/
section MEANNUM
theorem fe_bound {s : Bool} {c : Nat} {q : Int} (hc : c < 2 ^ 53) : FP.Core.encode FP.Core.b64 (FP.Core.bound FP.Core.b64 s c q) % 2 ^ 63 ≤ 9218868437227405312 := by
  have e1 : FP.Core.b64.qmax = 971 := by decide
  have e2 : FP.Core.b64.qmin = -1074 := by decide
  have e3 : FP.Core.b64.tails = 4503599627370496 := by decide
  have e4 : FP.Core.b64.exps = 2048 := by decide
  unfold FP.Core.bound
  by_cases h : q ≤ FP.Core.b64.qmax
  · rw [if_pos h]
    rw [e1] at h
    simp only [FP.Core.encode, FP.Core.assemble, e2, e3, e4]
    have hq : (q - -1074).toNat ≤ 2045 := by omega
    generalize (q - -1074).toNat = k at hq
    by_cases h2 : c < 4503599627370496
    · rw [if_pos h2]
      cases s <;> simp only [Bool.toNat_true, Bool.toNat_false] <;> omega
    · rw [if_neg h2]
      cases s <;> simp only [Bool.toNat_true, Bool.toNat_false] <;> omega
  · rw [if_neg h]
    simp only [FP.Core.encode, FP.Core.assemble, e3, e4]
    cases s <;> decide
theorem fe_ratio {s : Bool} {num den : Nat} {e : Int} : FP.Core.encode FP.Core.b64 (FP.Core.roundRatio FP.Core.b64 s num den e) % 2 ^ 63 ≤ 9218868437227405312 := by
  unfold FP.Core.roundRatio
  split
  · cases s <;> decide
  · unfold FP.Core.roundAt FP.Core.settle
    split
    · rename_i h
      exact fe_bound h
    · exact fe_bound (by decide)
theorem fe_dec {s : Bool} {e t : Nat} (h1 : 1 ≤ e) (h2 : e ≤ 2046) (ht : t < 4503599627370496) : ∃ s' c q, FP.Core.decode FP.Core.b64 (UInt64.ofNat (FP.Core.assemble FP.Core.b64 s e t)).toNat = .fin s' c q ∧ c ≠ 0 := by
  have e3 : FP.Core.b64.tails = 4503599627370496 := by decide
  have e4 : FP.Core.b64.exps = 2048 := by decide
  have en : (UInt64.ofNat (FP.Core.assemble FP.Core.b64 s e t)).toNat = FP.Core.assemble FP.Core.b64 s e t := by
    rw [UInt64.toNat_ofNat_of_lt']
    unfold FP.Core.assemble
    rw [e3, e4]
    have ez : UInt64.size = 18446744073709551616 := rfl
    cases s <;> simp only [Bool.toNat_true, Bool.toNat_false] <;> omega
  have ef : FP.Core.fieldE FP.Core.b64 (FP.Core.assemble FP.Core.b64 s e t) = e := by
    unfold FP.Core.fieldE FP.Core.assemble
    rw [e3, e4]
    cases s <;> simp only [Bool.toNat_true, Bool.toNat_false] <;> omega
  rw [en]
  unfold FP.Core.decode
  rw [ef, e4, if_neg (by omega), if_neg (by omega), e3]
  exact ⟨_, _, _, rfl, by omega⟩
theorem fe_lead {s : Bool} {c : Nat} (h0 : c ≠ 0) (hl : c.log2 ≤ 31) : ∃ e t, 1 ≤ e ∧ e ≤ 2046 ∧ t < 4503599627370496 ∧ FP.Core.encode FP.Core.b64 (FP.Core.round FP.Core.b64 (.fin s c 0)) = FP.Core.assemble FP.Core.b64 s e t := by
  have e1 : FP.Core.b64.qmax = 971 := by decide
  have e2 : FP.Core.b64.qmin = -1074 := by decide
  have e3 : FP.Core.b64.tails = 4503599627370496 := by decide
  have e5 : FP.Core.b64.p = 53 := rfl
  have hp1 := Nat.log2_self_le h0
  have hp2 : c < 2 ^ (c.log2 + 1) := Nat.lt_log2_self
  generalize hL : c.log2 = L at hl hp1 hp2
  have d1 : FP.Core.leading c 1 = (L : Int) := by
    unfold FP.Core.leading
    rw [hL, show Nat.log2 1 = 0 from by decide]
    rw [if_pos]
    · omega
    · rw [show ((L : Int) - (0 : Nat)).toNat = L by omega, show (-((L : Int) - (0 : Nat))).toNat = 0 by omega]
      omega
  have d2 : FP.Core.quantum FP.Core.b64 c 1 0 = (L : Int) - 52 := by
    unfold FP.Core.quantum
    rw [d1, e2, e5]
    omega
  have d3 : FP.Core.nearest (FP.Core.unitsNum c 0 ((L : Int) - 52)) (FP.Core.unitsDen 1 0 ((L : Int) - 52)) = c * 2 ^ (52 - L) := by
    unfold FP.Core.unitsNum FP.Core.unitsDen FP.Core.nearest
    rw [show (0 - ((L : Int) - 52)).toNat = 52 - L by omega, show ((L : Int) - 52 - 0).toNat = 0 by omega]
    rw [Nat.pow_zero, Nat.mul_one, Nat.mod_one, if_pos (by decide), Nat.div_one]
  have d4 : 2 ^ 52 ≤ c * 2 ^ (52 - L) := by
    have := Nat.mul_le_mul_right (2 ^ (52 - L)) hp1
    rw [← Nat.pow_add, show L + (52 - L) = 52 by omega] at this
    exact this
  have d5 : c * 2 ^ (52 - L) < 2 ^ 53 := by
    have := Nat.mul_lt_mul_of_pos_right hp2 (show 0 < 2 ^ (52 - L) from Nat.two_pow_pos _)
    rw [← Nat.pow_add, show L + 1 + (52 - L) = 53 by omega] at this
    exact this
  refine ⟨((L : Int) - 52 - -1074).toNat + 1, c * 2 ^ (52 - L) - 4503599627370496, by omega, by omega, by omega, ?_⟩
  show FP.Core.encode FP.Core.b64 (FP.Core.roundRatio FP.Core.b64 s c 1 0) = _
  unfold FP.Core.roundRatio
  rw [if_neg h0]
  unfold FP.Core.roundAt FP.Core.settle
  rw [d2, d3, e5, if_pos d5]
  unfold FP.Core.bound
  rw [e1, if_pos (by omega)]
  simp only [FP.Core.encode, e2, e3]
  rw [if_neg (by omega)]
theorem fe_int {i : Int} (h1 : -2147483648 ≤ i) (h2 : i < 2147483648) : ∃ s c q, FP.Core.decode FP.Core.b64 (UInt64.ofNat (FP.Core.fromInt FP.Core.b64 i)).toNat = .fin s c q ∧ (i ≠ 0 → c ≠ 0) := by
  by_cases h0 : i = 0
  · subst h0
    exact ⟨false, 0, -1074, by decide, fun q => absurd rfl q⟩
  have hc0 : i.natAbs ≠ 0 := by omega
  have hc : i.natAbs ≤ 2147483648 := by omega
  have hl : i.natAbs.log2 ≤ 31 := by
    have := (Nat.log2_lt hc0 (k := 32)).mpr (by omega)
    omega
  have hp1 := Nat.log2_self_le hc0
  have hp2 : i.natAbs < 2 ^ (i.natAbs.log2 + 1) := Nat.lt_log2_self
  unfold FP.Core.fromInt
  have : ∃ e t, 1 ≤ e ∧ e ≤ 2046 ∧ t < 4503599627370496 ∧ FP.Core.encode FP.Core.b64 (FP.Core.round FP.Core.b64 (FP.Core.ofInt i)) = FP.Core.assemble FP.Core.b64 (decide (i < 0)) e t := by
    have hd := fe_lead (s := decide (i < 0)) (c := i.natAbs) hc0 hl
    exact hd
  obtain ⟨e, t, q1, q2, q3, q4⟩ := this
  rw [q4]
  obtain ⟨s', c, q, w1, w2⟩ := fe_dec (s := decide (i < 0)) q1 q2 q3
  exact ⟨s', c, q, w1, fun _ => w2⟩
theorem fp_mean {s m : Int32} (h : ¬ m ≤ 0) : (FP.ddiv (FP.i2d s) (FP.i2d m)) &&& 0x7fffffffffffffff ≤ 0x7ff0000000000000 := by
  have hm : m.toInt ≠ 0 := fun q => h (by rw [Int32.le_iff_toInt_le, q]; decide)
  obtain ⟨s1, c1, q1, w1, -⟩ := fe_int (i := s.toInt) s.le_toInt s.toInt_lt
  obtain ⟨s2, c2, q2, w2, w3⟩ := fe_int (i := m.toInt) m.le_toInt m.toInt_lt
  have e : FP.ddiv (FP.i2d s) (FP.i2d m) = UInt64.ofNat (FP.Core.encode FP.Core.b64 (FP.Core.roundRatio FP.Core.b64 (s1 != s2) c1 c2 (q1 - q2))) := by
    show UInt64.ofNat (FP.Core.encode FP.Core.b64 (FP.Core.quotient FP.Core.b64 (FP.Core.decode FP.Core.b64 (UInt64.ofNat (FP.Core.fromInt FP.Core.b64 s.toInt)).toNat) (FP.Core.decode FP.Core.b64 (UInt64.ofNat (FP.Core.fromInt FP.Core.b64 m.toInt)).toNat))) = _
    rw [w1, w2]
    simp only [FP.Core.quotient, w3 hm, if_false]
  have h1 := fe_ratio (s := s1 != s2) (num := c1) (den := c2) (e := q1 - q2)
  rw [e, UInt64.le_iff_toNat_le, UInt64.toNat_and]
  have e1 : (0x7fffffffffffffff : UInt64).toNat = 2 ^ 63 - 1 := by decide
  have e2 : (0x7ff0000000000000 : UInt64).toNat = 9218868437227405312 := by decide
  rw [e1, e2, Nat.and_two_pow_sub_one_eq_mod, UInt64.toNat_ofNat', show (2 : Nat) ^ 64 = 2 ^ 63 * 2 from by decide, Nat.mod_mul_right_mod]
  exact h1
end MEANNUM
