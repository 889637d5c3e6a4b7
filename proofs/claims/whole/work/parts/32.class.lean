def lampR (post : Nat → Int32) (p : Nat → Nat) (x : Int32) : Nat → Nat → Value
  | 0, _ => .null
  | k + 1, i => if post i = x then .ref (p i) else lampR post p x k (i + 1)
theorem c67_loop {d a bk ar L n : Nat} {fs bs : List Value} {f : Nat → Option Nat} {p : Nat → Nat} {post : Nat → Int32} {x : Int32} {h : PH} {Q : PO → Prop} (ha : h.2 a = some (.inr (6, fs))) (h0 : fs[0]? = some (.ref bk)) (h1 : fs[1]? = some (.ref ar)) (hb : h.2 bk = some (.inr (0, bs))) (hL : bs[0]? = some (.int (Int32.ofNat L)))
    (hr : h.2 ar = some (.inl (4, n, .inr (.inr (.inr (.inr f)))))) (hf : ∀ i, i < n → f i = some (p i)) (hp : ∀ i, i < L → ∃ gs, h.2 (p i) = some (.inr (1, gs)) ∧ gs[0]? = some (.int (post i))) (hLn : L ≤ n) (hn : n < 2 ^ 31) : ∀ (k i : Nat), i + k = L → Wp d 67 2 [some (.ref a), some (.int x), some (.int (Int32.ofNat i))] [] h Q = Q (.inl (some (lampR post p x k i)), h) := by
  intro k
  induction k with
  | zero =>
    intro i hi
    have e : Int32.ofNat L ≤ Int32.ofNat i := (Int32.ofNat_le_ofNat (by omega) (by omega)).mpr (by omega)
    rw [w67_2]
    simp only [ce67, ↓w67_0, ↓w67_1, ↓w67_3, ↓w67_3n, ↓w67_4, ↓w67_7, ↓w67_10, ↓w67_13, ↓w67_14, ↓w67_14n, ↓w67_15, ↓w67_18, ↓w67_19, ↓w67_22, ↓w67_22n, ↓w67_23, ↓w67_26, ↓w67_27, ↓w67_28, ↓w67_31, ↓w67_32, ↓w67_35, ↓w67_35n, ↓w67_36, ↓w67_39, ↓w67_40, ↓w67_41, ↓w67_41n, ↓w67_42, ↓w67_45, ↓w67_48, ↓w67_49, ↓w67_49n, icond_ge, ha, hb, gP_mk, h0, hL, oP_some, if_pos e, lampR]
  | succ k ih =>
    intro i hi
    have e : ¬ Int32.ofNat L ≤ Int32.ofNat i := fun q => absurd ((Int32.ofNat_le_ofNat (by omega) (by omega)).mp q) (by omega)
    have e2 : ¬ Int32.ofNat n ≤ Int32.ofNat i := fun q => absurd ((Int32.ofNat_le_ofNat (by omega) (by omega)).mp q) (by omega)
    have et : (Int32.ofNat i).toNatClampNeg = i := by
      unfold Int32.toNatClampNeg
      rw [Int32.toInt_ofNat_of_lt (by omega)]
      rfl
    have hz : ¬ Int32.ofNat i < 0 := fun q => by
      rw [Int32.lt_iff_toInt_lt, Int32.toInt_ofNat_of_lt (by omega)] at q
      simp at q
      omega
    have hi2 : inB (Int32.ofNat i) n = true := inB_iff.mpr ⟨hz, by rw [et]; omega⟩
    obtain ⟨gs, hg, hg0⟩ := hp i (by omega)
    rw [w67_2]
    simp only [ce67, ↓w67_0, ↓w67_1, ↓w67_3, ↓w67_3n, ↓w67_4, ↓w67_7, ↓w67_10, ↓w67_13, ↓w67_14, ↓w67_14n, ↓w67_15, ↓w67_18, ↓w67_19, ↓w67_22, ↓w67_22n, ↓w67_23, ↓w67_26, ↓w67_27, ↓w67_28, ↓w67_31, ↓w67_32, ↓w67_35, ↓w67_35n, ↓w67_36, ↓w67_39, ↓w67_40, ↓w67_41, ↓w67_41n, ↓w67_42, ↓w67_45, ↓w67_48, ↓w67_49, ↓w67_49n, icond_ge, icond_ne, ha, hb, gP_mk, h0, h1, hL, oP_some, if_neg e, if_neg e2, hr, nP_mk, qP_mk (show 4 ≤ 4 ∧ 4 ≤ 6 by omega) hi2, et, hf i (by omega), va_rf, hg, hg0, kl_int, show Int32.ofNat i + 1 = Int32.ofNat (i + 1) from by rw [Int32.ofNat_add]; rfl, ih (i + 1) (by omega), lampR]
    by_cases hx : post i = x
    · simp [hx]
    · simp [hx]
/-- the lamp at a post, or null -/
theorem c67 {d a bk ar L n : Nat} {fs bs : List Value} {f : Nat → Option Nat} {p : Nat → Nat} {post : Nat → Int32} {x : Int32} {h : PH} {Q : PO → Prop} (ha : h.2 a = some (.inr (6, fs))) (h0 : fs[0]? = some (.ref bk)) (h1 : fs[1]? = some (.ref ar)) (hb : h.2 bk = some (.inr (0, bs))) (hL : bs[0]? = some (.int (Int32.ofNat L)))
    (hr : h.2 ar = some (.inl (4, n, .inr (.inr (.inr (.inr f)))))) (hf : ∀ i, i < n → f i = some (p i)) (hp : ∀ i, i < L → ∃ gs, h.2 (p i) = some (.inr (1, gs)) ∧ gs[0]? = some (.int (post i))) (hLn : L ≤ n) (hn : n < 2 ^ 31) : Cp (d + 1) 67 [.ref a, .int x] h Q = Q (.inl (some (lampR post p x L 0)), h) := by
  rw [ce67, w67_0, w67_1]
  exact c67_loop (d := d) ha h0 h1 hb hL hr hf hp hLn hn L 0 (Nat.zero_add L)
