/-! CLASS AND REFERENCE: values, compares, blocks, notes -/
theorem ofN_div20 {n : Nat} (hn : n < 2 ^ 31) : Int32.ofNat n - Int32.ofNat n / 20 * 20 = Int32.ofNat (n % 20) := by
  have h1 : Int32.ofNat n / 20 = Int32.ofNat (n / 20) := by
    apply Int32.toInt_inj.mp
    rw [Int32.toInt_div, Int32.toInt_ofNat_of_lt hn, Int32.toInt_ofNat_of_lt (by omega)]
    have h20 : (20 : Int32).toInt = 20 := by decide
    rw [h20, Int.tdiv_eq_ediv_of_nonneg (by omega)]
    exact Int.bmod_eq_of_le (by omega) (by omega)
  have h2 : n = n / 20 * 20 + n % 20 := by omega
  rw [h1]
  have h3 : Int32.ofNat (n / 20) * 20 = Int32.ofNat (n / 20 * 20) := by rw [Int32.ofNat_mul]; rfl
  rw [h3]
  conv => lhs; lhs; rw [h2]
  rw [Int32.ofNat_add, Int32.add_comm]
  exact Int32.add_sub_cancel _ _
section SIMA
variable {S V P : S3} {g i l b d pl M N A NR β : Nat} {x y : Int32} {rk : Nat → Nat} {nt : Prop}
theorem lampK_fnd (hM : M ≤ 10) (hp : ∀ i, i < M → S g 10 i = P 0 103 i) : ∀ (k i : Nat), i + k = 10 → lampK S g (Int32.ofNat M) x k i = fnd (P 0 103) x (M - i) i := by
  intro k
  induction k with
  | zero =>
    intro i hi
    rw [show M - i = 0 by omega]
    rfl
  | succ k ih =>
    intro i hi
    simp only [lampK]
    by_cases h : M ≤ i
    · rw [if_pos ((ofN_le (by omega) (by omega)).mpr h), show M - i = 0 by omega]
      rfl
    · rw [if_neg (fun q => h ((ofN_le (by omega) (by omega)).mp q)), show M - i = (M - (i + 1)) + 1 by omega, fnd, hp i (by omega), ih (i + 1) (by omega)]
theorem laS_fnd (hb : bookR S P b M A NR rk) (ht : townR g b M A NR N β rk nt P S V) : laS S g b x = fnd (P 0 103) x M 0 := by
  rw [laS, hb.1.1, lampK_fnd hb.1.2.2 (fun i hi => (ht.2.2.1 i hi).1) 10 0 rfl, Nat.sub_zero]
theorem oV_eq {f f' : Nat → Int32} (h : ∀ i, i < M → f i = f' i) : oV (fnd (P 0 103) x M 0) f = oV (fnd (P 0 103) x M 0) f' := by
  cases hm : fnd (P 0 103) x M 0 with
  | none => rfl
  | some m =>
    have := fnd_lt hm
    exact h m (by omega)
theorem valS_eq (hb : bookR S P b M A NR rk) (ht : townR g b M A NR N β rk nt P S V) (hl : l < N) : valS S g b l x = valV V P g M l x := by
  have hA := ht.1
  unfold valS valV
  rw [laS_fnd hb ht, hA.2.2 13 l (by omega) (by omega) hl, hA.2.2 12 l (by omega) (by omega) hl, hA.1 0 (by omega), hA.1 1 (by omega),
    oV_eq (f := S g 5) (f' := V g 5) (fun i hi => hA.2.1 5 i (by omega) (by omega) hi), oV_eq (f := S g 6) (f' := V g 6) (fun i hi => hA.2.1 6 i (by omega) (by omega) hi),
    oV_eq (f := fun i => if S g 9 i = 0 then (0 : Int32) else 1) (f' := fun i => if V g 9 i = 0 then (0 : Int32) else 1) (fun i hi => by rw [hA.2.1 9 i (by omega) (by omega) hi])]
theorem soS_eq (hb : bookR S P b M A NR rk) (ht : townR g b M A NR N β rk nt P S V) (hl : l < N) {i1 : Nat} (h1 : i1 ≤ 100) : ∀ (k i : Nat), i + k = i1 → (∀ j, i ≤ j → j < i1 → S (2 + b) 114 j = cv (P 0 119 j) ∧ S (2 + b) 116 j = cv (P 0 121 j) ∧ S (2 + b) 115 j = cs (P 0 120 j)) →
    soS S g b l (Int32.ofNat i1) k (Int32.ofNat i) = soV V P g M l k i := by
  intro k
  induction k with
  | zero => intro i _ _; rfl
  | succ k ih =>
    intro i hi hc
    obtain ⟨c1, c2, c3⟩ := hc i (by omega) (by omega)
    have e : ¬ Int32.ofNat i1 ≤ Int32.ofNat i := fun q => absurd ((ofN_le (by omega) (by omega)).mp q) (by omega)
    rw [soS, if_neg e, gt_nat (by omega) (by omega), gt_nat (by omega) (by omega), gt_nat (by omega) (by omega), c1, c2, c3, valS_eq hb ht hl, valS_eq hb ht hl, ofN_a1, ih (i + 1) (by omega) (fun j h2 h3 => hc j (by omega) h3)]
    rfl
/-- a block is entered in both -/
theorem townR_ent (ht : townR g b M A NR N β rk nt P S V) (hl : l < N) (hrk : ∀ a, a < A → rk a ≤ 35) (hA80 : A ≤ 80) {e o ρ t : Nat} (he : e < 400) (ho : S g 18 l = Int32.ofNat o) (ho2 : o ≤ 36) (hF : blkF A P rk e ρ) (hρ : ρ + o ≤ 36) (hy : y = Int32.ofNat (t + 1)) (ht2 : t + 1 < 2 ^ 31) :
    townR g b M A NR N β rk nt P (entS g l (P 0 105 e) y S) (enV P g l e o y V) := by
  unfold entS enV
  rcases hF with hF | ⟨a0, h0, h1, h2⟩
  · rw [if_pos hF, if_pos hF]
    exact ht
  have hn : ¬ P 0 105 e = -1 := fun q => by
    have h4 := ofN_nn (k := a0) (by omega)
    rw [← h1, q] at h4
    exact h4 (by decide)
  have hy1 : ¬ y < 1 := fun q => by
    rw [hy] at q
    have := (ofN_lt (k := t + 1) (m := 1) (by omega) (by omega)).mp q
    omega
  have ho3 : S g 18 l < 36 := by rw [ho]; exact (ofN_lt (m := 36) (by omega) (by omega)).mpr (by omega)
  rw [if_neg hn, if_neg hn, if_neg hy1, if_pos ho3, ho, pt_nat (by omega) (by omega), pt_nat (by omega) (by omega), pt_nat (by omega) (by omega), ofN_a1]
  obtain ⟨a1, a2, a3, ⟨a4, a5, a6, a7⟩, a8, a9, a10, a11, a12, a13⟩ := ht
  have hl3 : l < 3 := by omega
  refine ⟨?_, okG_open (okG_su (okG_su (okG_su a2 (by omega) (by omega) (by omega)) (by omega) (by omega) (by omega)) (by omega) (by omega) (by omega)) (by omega), postR_su (postR_su (postR_su (postR_su a3 (by omega) (by omega)) (by omega) (by omega)) (by omega) (by omega)) (by decide) (by decide),
    ⟨plR_su (plR_su (plR_su (plR_su a4 (by omega)) (by omega)) (by omega)) (by decide), roR_su (roR_su (roR_su (roR_su a5 (by omega)) (by omega)) (by omega)) (by decide), beR_su (beR_su (beR_su (beR_su a6 (by omega)) (by omega)) (by omega)) (by decide), noR_su (noR_su (noR_su (noR_su a7 (by omega)) (by omega)) (by omega)) (by decide)⟩, ?_, fun q l' hl' j hj => ?_, ?_, a11, ?_, fun l' hl' => ?_⟩
  · refine agS_su ⟨fun v' h' => ?_, fun v' j h1 h2 h3 => ?_, fun v' j h1 h2 h3 => ?_⟩
    · rw [su_ne (by omega), su_ne (by omega), su_ne (by omega), su_ne (by omega), su_ne (by omega), su_ne (by omega)]; exact a1.1 v' h'
    · rw [su_ne (by omega), su_ne (by omega), su_ne (by omega), su_ne (by omega), su_ne (by omega), su_ne (by omega)]; exact a1.2.1 v' j h1 h2 h3
    · rw [su_ne (by omega), su_ne (by omega), su_ne (by omega), su_ne (by omega), su_ne (by omega), su_ne (by omega)]; exact a1.2.2 v' j h1 h2 h3
  · intro l' hl'
    obtain ⟨o2, h3, h4, h5⟩ := a8 l' hl'
    -- an old block
    have old : ∀ k, k < o2 → (l' = l → k ≠ o) → frm g A P rk l' k (su (su (su (su S g (l + 30) o (P 0 105 e)) g (l + 40) o (P 0 105 e)) g (l + 50) o (y - 1)) g 18 l (Int32.ofNat (o + 1))) (su (su (su (su V g 30 (48 * l + o) (Int32.ofNat e)) g 40 (48 * l + o) (P 0 105 e)) g 50 (48 * l + o) y) g 18 l (Int32.ofNat (o + 1))) := by
      intro k hk hne
      obtain ⟨e', a', t', q⟩ := h5 k hk
      refine ⟨e', a', t', ?_⟩
      have s1 : ∀ v, (v = l' + 30 ∨ v = l' + 40 ∨ v = l' + 50) → su (su (su (su S g (l + 30) o (P 0 105 e)) g (l + 40) o (P 0 105 e)) g (l + 50) o (y - 1)) g 18 l (Int32.ofNat (o + 1)) g v k = S g v k := fun v hv => by
        rw [su_at, if_neg (by omega), su_at, if_neg (by omega), su_at, if_neg (by omega), su_at, if_neg (by omega)]
      have s2 : ∀ v, (v = 30 ∨ v = 40 ∨ v = 50) → su (su (su (su V g 30 (48 * l + o) (Int32.ofNat e)) g 40 (48 * l + o) (P 0 105 e)) g 50 (48 * l + o) y) g 18 l (Int32.ofNat (o + 1)) g v (48 * l' + k) = V g v (48 * l' + k) := fun v hv => by
        rw [su_at, if_neg (by omega), su_at, if_neg (by omega), su_at, if_neg (by omega), su_at, if_neg (by omega)]
      rw [s1 _ (Or.inl rfl), s1 _ (Or.inr (Or.inl rfl)), s1 _ (Or.inr (Or.inr rfl)), s2 _ (Or.inl rfl), s2 _ (Or.inr (Or.inl rfl)), s2 _ (Or.inr (Or.inr rfl))]
      exact q
    by_cases el : l' = l
    · subst el
      have e2 : o2 = o := by
        have e4 := congrArg Int32.toNatClampNeg (h4.symm.trans ho)
        rwa [tN_nat (by omega), tN_nat (by omega)] at e4
      subst e2
      refine ⟨o2 + 1, by omega, by rw [su_self], fun k hk => ?_⟩
      by_cases ek : k = o2
      · subst ek
        refine ⟨e, a0, t, he, h0, ?_, h1, by omega, ?_, ?_, Or.inr ⟨a0, h0, ?_, rfl⟩, ht2, ?_, ?_⟩
        · rw [su_ne (by omega), su_ne (by omega), su_ne (by omega), su_self]
        · rw [su_ne (by omega), su_ne (by omega), su_ne (by omega), su_self, h1]
        · rw [su_ne (by omega), su_ne (by omega), su_self, su_ne (by omega), su_ne (by omega), su_self]
        · rw [su_ne (by omega), su_ne (by omega), su_self, h1]
        · rw [su_ne (by omega), su_self, hy, ofN_s1]
        · rw [su_ne (by omega), su_self, hy]
      · exact old k (by omega) (fun _ => ek)
    · exact ⟨o2, h3, by rw [su_at, if_neg (fun q => el q.2.2), su_ne (by omega), su_ne (by omega), su_ne (by omega)]; exact h4, fun k hk => old k hk (fun q => absurd q el)⟩
  · rw [su_ne (by omega), su_ne (by omega), su_ne (by omega), su_ne (by omega), su_ne (by omega), su_ne (by omega), su_ne (by omega), su_ne (by omega)]
    exact a9 q l' hl' j hj
  · rw [su_ne (by omega), su_ne (by omega), su_ne (by omega), su_ne (by omega)]; exact a10
  · rw [su_ne (by omega), su_ne (by omega), su_ne (by omega), su_ne (by omega)]; exact a12
  · rw [su_ne (by omega), su_ne (by omega), su_ne (by omega), su_ne (by omega), su_ne (by omega), su_ne (by omega), su_ne (by omega), su_ne (by omega)]; exact a13 l' hl'
theorem noR_mono {β' : Nat} (h : noR g N β S) (hb : β ≤ β') : noR g N β' S := fun l hl => by
  obtain ⟨n, h1, h2⟩ := h l hl
  exact ⟨n, by omega, h2⟩
theorem townR_mono {β' : Nat} (h : townR g b M A NR N β rk nt P S V) (hb : β ≤ β') : townR g b M A NR N β' rk nt P S V := ⟨h.1, h.2.1, h.2.2.1, ⟨h.2.2.2.1.1, h.2.2.2.1.2.1, h.2.2.2.1.2.2.1, noR_mono h.2.2.2.1.2.2.2 hb⟩, h.2.2.2.2.1, h.2.2.2.2.2.1, h.2.2.2.2.2.2⟩
/-- a note in both -/
def noV (g l n : Nat) (x : Int32) (V : S3) : S3 := su (su V g 20 (20 * l + n % 20) x) g 17 l (Int32.ofNat (n + 1))
theorem townR_note (ht : townR g b M A NR N β rk nt P S V) (hl : l < N) {n : Nat} (hn : S g 17 l = Int32.ofNat n) (hnβ : n ≤ β) (hβ : β + 1 < 2 ^ 31) : townR g b M A NR N (β + 1) rk nt P (noteS g l x S) (noV g l n x V) := by
  unfold noteS noV
  rw [hn, ofN_div20 (by omega), pt_nat (by omega) (by omega), ofN_a1]
  obtain ⟨a1, a2, a3, ⟨a4, a5, a6, a7⟩, a8, a9, a10, a11, a12, a13⟩ := townR_mono ht (Nat.le_add_right β 1)
  have hl3 : l < 3 := by omega
  refine ⟨?_, okG_su (okG_su a2 (by omega) (by omega) (by omega)) (by omega) (by omega) (by omega), postR_su (postR_su a3 (by omega) (by omega)) (by omega) (by omega),
    ⟨plR_su (plR_su a4 (by omega)) (by omega), roR_su (roR_su a5 (by omega)) (by omega), beR_su (beR_su a6 (by omega)) (by omega), fun l' hl' => ?_⟩, ?_, fun q l' hl' j hj => ?_, ?_, a11, ?_, fun l' hl' => ?_⟩
  · refine agS_su ⟨fun v' h' => ?_, fun v' j h1 h2 h3 => ?_, fun v' j h1 h2 h3 => ?_⟩
    · rw [su_ne (by omega), su_ne (by omega)]; exact a1.1 v' h'
    · rw [su_ne (by omega), su_ne (by omega)]; exact a1.2.1 v' j h1 h2 h3
    · rw [su_ne (by omega), su_ne (by omega)]; exact a1.2.2 v' j h1 h2 h3
  · rw [su_at]
    split
    · exact ⟨n + 1, by omega, rfl⟩
    · rw [su_ne (by omega)]; exact a7 l' hl'
  · intro l' hl'
    obtain ⟨o2, h3, h4, h5⟩ := a8 l' hl'
    exact ⟨o2, h3, by rw [su_ne (by omega), su_ne (by omega)]; exact h4, fun k hk => frm_su (frm_su (h5 k hk) (by omega) (by omega)) (by omega) (by omega)⟩
  · have s1 : su (su S g (l + 20) (n % 20) x) g 17 l (Int32.ofNat (n + 1)) g (l' + 20) j = su S g (l + 20) (n % 20) x g (l' + 20) j := su_ne (by omega)
    have s2 : su (su V g 20 (20 * l + n % 20) x) g 17 l (Int32.ofNat (n + 1)) g 20 (20 * l' + j) = su V g 20 (20 * l + n % 20) x g 20 (20 * l' + j) := su_ne (by omega)
    rw [s1, s2, su_at, su_at]
    by_cases hh : l' = l ∧ j = n % 20
    · rw [if_pos ⟨rfl, by omega, hh.2⟩, if_pos ⟨rfl, rfl, by omega⟩]
    · rw [if_neg (by omega), if_neg (by omega)]; exact a9 q l' hl' j hj
  · rw [su_ne (by omega), su_ne (by omega)]; exact a10
  · rw [su_ne (by omega), su_ne (by omega)]; exact a12
  · rw [su_ne (by omega), su_ne (by omega), su_ne (by omega), su_ne (by omega)]; exact a13 l' hl'
end SIMA
