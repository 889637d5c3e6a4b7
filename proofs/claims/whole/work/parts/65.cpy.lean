/-! CLASS AND REFERENCE: what a copied town shows -/
section CPYB
variable {S V P : S3} {g g' b pl M N A NR β : Nat} {x y : Int32} {rk : Nat → Nat} {nt : Prop}
theorem lcp_at {i v j : Nat} (hne : g' ≠ g) : lcpS g i g' S g v j = if (5 ≤ v ∧ v ≤ 11) ∧ j = i then S g' v i else S g v j := by
  unfold lcpS
  by_cases hj : j = i
  · subst hj
    by_cases hv : 5 ≤ v ∧ v ≤ 11
    · rw [if_pos ⟨hv, rfl⟩]
      rcases (show v = 5 ∨ v = 6 ∨ v = 7 ∨ v = 8 ∨ v = 9 ∨ v = 10 ∨ v = 11 by omega) with rfl | rfl | rfl | rfl | rfl | rfl | rfl <;> simp +decide only [su_at, if_true, if_false, and_true, true_and, and_self, and_false]
    · rw [if_neg (fun q => hv q.1)]
      rw [su_ne (by omega), su_ne (by omega), su_ne (by omega), su_ne (by omega), su_ne (by omega), su_ne (by omega), su_ne (by omega)]
  · rw [if_neg (fun q => hj q.2)]
    rw [su_at, if_neg (fun q => hj q.2.2), su_at, if_neg (fun q => hj q.2.2), su_at, if_neg (fun q => hj q.2.2), su_at, if_neg (fun q => hj q.2.2), su_at, if_neg (fun q => hj q.2.2), su_at, if_neg (fun q => hj q.2.2), su_at, if_neg (fun q => hj q.2.2)]
theorem lcp_g {i : Nat} (hne : g' ≠ g) : lcpS g i g' S g' = S g' := by
  unfold lcpS
  rw [su_gne hne, su_gne hne, su_gne hne, su_gne hne, su_gne hne, su_gne hne, su_gne hne]
theorem lcL_at (hne : g' ≠ g) (hM : M ≤ 10) : ∀ (k i : Nat) (S : S3), i + k = M → ∀ v j, lcL g g' (Int32.ofNat M) (10 - i) i S g v j = if (5 ≤ v ∧ v ≤ 11) ∧ i ≤ j ∧ j < M then S g' v j else S g v j := by
  intro k
  induction k with
  | zero =>
    intro i S hi v j
    have e : Int32.ofNat M ≤ Int32.ofNat i := (ofN_le (by omega) (by omega)).mpr (by omega)
    rw [if_neg (by omega)]
    cases h3 : 10 - i with
    | zero => rfl
    | succ m => rw [lcL, if_pos e]
  | succ k ih =>
    intro i S hi v j
    have e : ¬ Int32.ofNat M ≤ Int32.ofNat i := fun q => absurd ((ofN_le (by omega) (by omega)).mp q) (by omega)
    rw [show 10 - i = (10 - (i + 1)) + 1 by omega, lcL, if_neg e, ih (i + 1) _ (by omega), lcp_g hne, lcp_at hne]
    by_cases h1 : (5 ≤ v ∧ v ≤ 11) ∧ i + 1 ≤ j ∧ j < M
    · rw [if_pos h1, if_pos ⟨h1.1, by omega, h1.2.2⟩]
    · rw [if_neg h1]
      by_cases h2 : (5 ≤ v ∧ v ≤ 11) ∧ j = i
      · rw [if_pos h2, if_pos ⟨h2.1, by omega, by omega⟩, h2.2]
      · rw [if_neg h2, if_neg (by omega)]
theorem fc_ne2 {l g2 v : Nat} (h1 : v ≠ l + 30) (h2 : v ≠ l + 40) (h3 : v ≠ l + 50) : ∀ (k i : Nat) (S : S3), fcS g l g' k i S g2 v = S g2 v := by
  intro k
  induction k with
  | zero => intro i S; rfl
  | succ k ih =>
    intro i S
    simp only [fcS]
    split
    · rfl
    · rw [ih, su_vne h3, su_vne h2, su_vne h1]
theorem fc_g {l g2 : Nat} (hne : g2 ≠ g) : ∀ (k i : Nat) (S : S3), fcS g l g' k i S g2 = S g2 := by
  intro k
  induction k with
  | zero => intro i S; rfl
  | succ k ih =>
    intro i S
    simp only [fcS]
    split
    · rfl
    · rw [ih, su_gne hne, su_gne hne, su_gne hne]
theorem fc_at {l o : Nat} (hne : g' ≠ g) (hl : l < 3) (ho : o ≤ 36) : ∀ (k i : Nat) (S : S3), i + k = 36 → S g 18 l = Int32.ofNat o → ∀ w j, (w = 30 ∨ w = 40 ∨ w = 50) → fcS g l g' k i S g (l + w) j = if i ≤ j ∧ j < o then S g' (l + w) j else S g (l + w) j := by
  intro k
  induction k with
  | zero =>
    intro i S hi h18 w j hw
    rw [if_neg (by omega)]
    rfl
  | succ k ih =>
    intro i S hi h18 w j hw
    rw [fcS, h18]
    by_cases h : o ≤ i
    · rw [if_pos ((ofN_le (by omega) (by omega)).mpr h), if_neg (by omega)]
    · rw [if_neg (fun q => h ((ofN_le (by omega) (by omega)).mp q)), ih (i + 1) _ (by omega) (by rw [su_ne (by omega), su_ne (by omega), su_ne (by omega)]; exact h18) w j hw, su_gne hne, su_gne hne, su_gne hne]
      by_cases h1 : i + 1 ≤ j ∧ j < o
      · rw [if_pos h1, if_pos ⟨by omega, h1.2⟩]
      · rw [if_neg h1]
        by_cases h2 : j = i
        · rw [if_pos ⟨by omega, by omega⟩]
          subst h2
          rcases hw with rfl | rfl | rfl
          · rw [su_ne (by omega), su_ne (by omega), su_self]
          · rw [su_ne (by omega), su_self]
          · rw [su_self]
        · rw [if_neg (by omega), su_at, if_neg (fun q => h2 q.2.2), su_at, if_neg (fun q => h2 q.2.2), su_at, if_neg (fun q => h2 q.2.2)]
theorem gc_at {l v j : Nat} (hne : g' ≠ g) : gcS g l g' S g v j = if (12 ≤ v ∧ v ≤ 19) ∧ j = l then S g' v l else S g v j := by
  unfold gcS
  by_cases hj : j = l
  · subst hj
    by_cases hv : 12 ≤ v ∧ v ≤ 19
    · rw [if_pos ⟨hv, rfl⟩]
      rcases (show v = 12 ∨ v = 13 ∨ v = 14 ∨ v = 15 ∨ v = 16 ∨ v = 17 ∨ v = 18 ∨ v = 19 by omega) with rfl | rfl | rfl | rfl | rfl | rfl | rfl | rfl <;> simp +decide only [su_at, if_true, if_false, and_true, true_and, and_self, and_false]
    · rw [if_neg (fun q => hv q.1)]
      rw [su_ne (by omega), su_ne (by omega), su_ne (by omega), su_ne (by omega), su_ne (by omega), su_ne (by omega), su_ne (by omega), su_ne (by omega)]
  · rw [if_neg (fun q => hj q.2)]
    rw [su_at, if_neg (fun q => hj q.2.2), su_at, if_neg (fun q => hj q.2.2), su_at, if_neg (fun q => hj q.2.2), su_at, if_neg (fun q => hj q.2.2), su_at, if_neg (fun q => hj q.2.2), su_at, if_neg (fun q => hj q.2.2), su_at, if_neg (fun q => hj q.2.2), su_at, if_neg (fun q => hj q.2.2)]
theorem gc_g {l : Nat} (hne : g' ≠ g) : gcS g l g' S g' = S g' := by
  unfold gcS
  rw [su_gne hne, su_gne hne, su_gne hne, su_gne hne, su_gne hne, su_gne hne, su_gne hne, su_gne hne]
/-- one lighter copied -/
def l1S (g l g' : Nat) (S : S3) : S3 := fcS g l g' 36 0 (gcS g l g' S)
theorem l1_g {l : Nat} (hne : g' ≠ g) : l1S g l g' S g' = S g' := by
  unfold l1S
  rw [fc_g hne, gc_g hne]
theorem l1_sc {l v j : Nat} (hne : g' ≠ g) (hl : l < 3) (hv : v < 30) : l1S g l g' S g v j = if (12 ≤ v ∧ v ≤ 19) ∧ j = l then S g' v l else S g v j := by
  unfold l1S
  rw [fc_ne2 (by omega) (by omega) (by omega), gc_at hne]
theorem l1_60 {l j : Nat} (hne : g' ≠ g) (hl : l < 3) : l1S g l g' S g 60 j = S g 60 j := by
  unfold l1S
  rw [fc_ne2 (by omega) (by omega) (by omega), gc_at hne, if_neg (by omega)]
theorem l1_fr {l l' o w j : Nat} (hne : g' ≠ g) (hl : l < 3) (hl' : l' < 3) (ho : o ≤ 36) (h18 : S g' 18 l = Int32.ofNat o) (hw : w = 30 ∨ w = 40 ∨ w = 50) : l1S g l g' S g (l' + w) j = if l' = l ∧ j < o then S g' (l + w) j else S g (l' + w) j := by
  unfold l1S
  by_cases h : l' = l
  · subst h
    have e : gcS g l' g' S g (l' + w) j = S g (l' + w) j := by rw [gc_at hne, if_neg (by omega)]
    rw [fc_at hne hl ho 36 0 _ rfl (by rw [gc_at hne, if_pos ⟨by omega, rfl⟩]; exact h18) w j hw, gc_g hne, e]
    by_cases h2 : j < o
    · rw [if_pos ⟨by omega, h2⟩, if_pos ⟨rfl, h2⟩]
    · rw [if_neg (fun q => h2 q.2), if_neg (fun q => h2 q.2)]
  · rw [if_neg (fun q => h q.1), fc_ne2 (by omega) (by omega) (by omega), gc_at hne, if_neg (by omega)]
theorem lgL_g (hne : g' ≠ g) : ∀ (k i : Nat) (S : S3), lgL g g' k i S g' = S g' := by
  intro k
  induction k with
  | zero => intro i S; rfl
  | succ k ih =>
    intro i S
    simp only [lgL]
    split
    · rfl
    · rw [ih]; exact l1_g hne
theorem lgL_sc (hne : g' ≠ g) (hN : N ≤ 3) : ∀ (k i : Nat) (S : S3), i + k = N → S g 4 0 = Int32.ofNat N → ∀ v j, v < 30 → lgL g g' (3 - i) i S g v j = if (12 ≤ v ∧ v ≤ 19) ∧ i ≤ j ∧ j < N then S g' v j else S g v j := by
  intro k
  induction k with
  | zero =>
    intro i S hi h4 v j hv
    have e : Int32.ofNat N ≤ Int32.ofNat i := (ofN_le (by omega) (by omega)).mpr (by omega)
    rw [if_neg (by omega)]
    cases h3 : 3 - i with
    | zero => rfl
    | succ m => rw [lgL, h4, if_pos e]
  | succ k ih =>
    intro i S hi h4 v j hv
    have e : ¬ Int32.ofNat N ≤ Int32.ofNat i := fun q => absurd ((ofN_le (by omega) (by omega)).mp q) (by omega)
    rw [show 3 - i = (3 - (i + 1)) + 1 by omega, lgL, h4, if_neg e]
    have e4 : l1S g i g' S g 4 0 = Int32.ofNat N := by rw [l1_sc hne (by omega) (by omega), if_neg (by omega)]; exact h4
    rw [show fcS g i g' 36 0 (gcS g i g' S) = l1S g i g' S from rfl, ih (i + 1) _ (by omega) e4 v j hv, l1_g hne, l1_sc hne (by omega) hv]
    by_cases h1 : (12 ≤ v ∧ v ≤ 19) ∧ i + 1 ≤ j ∧ j < N
    · rw [if_pos h1, if_pos ⟨h1.1, by omega, h1.2.2⟩]
    · rw [if_neg h1]
      by_cases h2 : (12 ≤ v ∧ v ≤ 19) ∧ j = i
      · rw [if_pos h2, if_pos ⟨h2.1, by omega, by omega⟩, h2.2]
      · rw [if_neg h2, if_neg (by omega)]
theorem lgL_fr (hne : g' ≠ g) (hN : N ≤ 3) {l o : Nat} (hl : l < N) (ho : o ≤ 36) : ∀ (k i : Nat) (S : S3), i + k = N → S g 4 0 = Int32.ofNat N → S g' 18 l = Int32.ofNat o → (∀ l', l' < N → ∃ o', o' ≤ 36 ∧ S g' 18 l' = Int32.ofNat o') → ∀ w j, (w = 30 ∨ w = 40 ∨ w = 50) → lgL g g' (3 - i) i S g (l + w) j = if i ≤ l ∧ j < o then S g' (l + w) j else S g (l + w) j := by
  intro k
  induction k with
  | zero =>
    intro i S hi h4 h18 _ w j hw
    have e : Int32.ofNat N ≤ Int32.ofNat i := (ofN_le (by omega) (by omega)).mpr (by omega)
    rw [if_neg (by omega)]
    cases h3 : 3 - i with
    | zero => rfl
    | succ m => rw [lgL, h4, if_pos e]
  | succ k ih =>
    intro i S hi h4 h18 hall w j hw
    have e : ¬ Int32.ofNat N ≤ Int32.ofNat i := fun q => absurd ((ofN_le (by omega) (by omega)).mp q) (by omega)
    rw [show 3 - i = (3 - (i + 1)) + 1 by omega, lgL, h4, if_neg e]
    have e4 : l1S g i g' S g 4 0 = Int32.ofNat N := by rw [l1_sc hne (by omega) (by omega), if_neg (by omega)]; exact h4
    obtain ⟨o', ho', h18'⟩ := hall i (by omega)
    rw [show fcS g i g' 36 0 (gcS g i g' S) = l1S g i g' S from rfl, ih (i + 1) _ (by omega) e4 (by rw [l1_g hne]; exact h18) (fun l' hl' => by rw [l1_g hne]; exact hall l' hl') w j hw, l1_g hne, l1_fr hne (by omega) (by omega) ho' h18' hw]
    by_cases h1 : i + 1 ≤ l ∧ j < o
    · rw [if_pos h1, if_pos ⟨by omega, h1.2⟩]
    · rw [if_neg h1]
      by_cases h2 : l = i
      · subst h2
        have eo := ofN_inj (by omega) (by omega) (h18'.symm.trans h18)
        subst eo
        by_cases h3 : j < o'
        · rw [if_pos ⟨rfl, h3⟩, if_pos ⟨Nat.le_refl _, h3⟩]
        · rw [if_neg (fun q => h3 q.2), if_neg (fun q => h3 q.2)]
      · rw [if_neg (fun q => h2 q.1), if_neg (by omega)]
/-- the copied towns are tied -/
theorem townR_copy {V' : S3} {b0 : Nat} (hb2 : b < 2) (h : townR 0 b M A NR N β rk nt P S V) (hb : bookR S P b M A NR rk) (h1 : okG 1 b0 S) (hc : copyV M V V') : townR 1 b M A NR N β rk False P (tcS 1 b 0 S) V' := by
  have hne : (0 : Nat) ≠ 1 := by decide
  obtain ⟨a1, a2, a3, ⟨a4, a5, a6, a7⟩, a8, a9, a10, a11, a12, a13⟩ := h
  obtain ⟨c1, c2, c3, c4, c5⟩ := hc
  have hM10 := hb.1.2.2
  have hok := (okP_tc hb2 h1 a2 hne).1
  -- what the class's copy shows
  have t0 : ∀ v j, tc0 1 b 0 S 0 v j = S 0 v j := fun v j => by unfold tc0; rw [su_gne hne, su_gne hne, su_gne hne, su_gne hne, su_gne hne, su_gne hne]
  have t1 : ∀ v, v < 5 → tc0 1 b 0 S 1 v 0 = S 0 v 0 := fun v hv => by
    unfold tc0
    rcases (show v = 0 ∨ v = 1 ∨ v = 2 ∨ v = 3 ∨ v = 4 by omega) with rfl | rfl | rfl | rfl | rfl <;> simp +decide only [su_at, if_true, if_false, and_true, true_and, and_self, and_false]
  have eM : S (2 + b) 100 0 = Int32.ofNat M := hb.1.1
  have L0 : ∀ v j, lcL 1 0 (Int32.ofNat M) 10 0 (tc0 1 b 0 S) 0 v j = S 0 v j := fun v j => by
    have : ∀ (k i : Nat) (S : S3) (v j : Nat), lcL 1 0 (Int32.ofNat M) k i S 0 v j = S 0 v j := by
      intro k
      induction k with
      | zero => intro i S v j; rfl
      | succ k ih =>
        intro i S v j
        simp only [lcL]
        split
        · rfl
        · rw [ih, lcp_g hne]
    rw [this, t0]
  have L1 : ∀ v j, lcL 1 0 (Int32.ofNat M) 10 0 (tc0 1 b 0 S) 1 v j = if (5 ≤ v ∧ v ≤ 11) ∧ 0 ≤ j ∧ j < M then S 0 v j else tc0 1 b 0 S 1 v j := fun v j => by
    have := lcL_at (g := 1) (g' := 0) hne hM10 M 0 (tc0 1 b 0 S) (by omega) v j
    rw [show 10 - 0 = 10 from rfl] at this
    rw [this, t0]
  have L4 : lcL 1 0 (Int32.ofNat M) 10 0 (tc0 1 b 0 S) 1 4 0 = Int32.ofNat N := by rw [L1, if_neg (by omega), t1 4 (by omega)]; exact a10
  have T : ∀ v j, v < 30 → tcS 1 b 0 S 1 v j = if (12 ≤ v ∧ v ≤ 19) ∧ 0 ≤ j ∧ j < N then S 0 v j else lcL 1 0 (Int32.ofNat M) 10 0 (tc0 1 b 0 S) 1 v j := fun v j hv => by
    have := lgL_sc (g := 1) (g' := 0) hne a11 N 0 (lcL 1 0 (Int32.ofNat M) 10 0 (tc0 1 b 0 S)) (by omega) L4 v j hv
    rw [show 3 - 0 = 3 from rfl] at this
    rw [tcS, eM, this, L0]
  have s1 : ∀ v, v < 5 → tcS 1 b 0 S 1 v 0 = S 0 v 0 := fun v hv => by rw [T v 0 (by omega), if_neg (by omega), L1, if_neg (by omega), t1 v hv]
  have s2 : ∀ v i, 5 ≤ v → v ≤ 11 → i < M → tcS 1 b 0 S 1 v i = S 0 v i := fun v i h1 h2 h3 => by rw [T v i (by omega), if_neg (by omega), L1, if_pos ⟨⟨h1, h2⟩, by omega, h3⟩]
  have s3 : ∀ v l, 12 ≤ v → v ≤ 19 → l < N → tcS 1 b 0 S 1 v l = S 0 v l := fun v l h1 h2 h3 => by rw [T v l (by omega), if_pos ⟨⟨h1, h2⟩, by omega, h3⟩]
  have v4 : V' 4 = V 4 := funext fun v => c5 4 v (fun q => absurd (show (4 : Nat) = 1 from q) (by decide))
  refine ⟨⟨fun v hv => ?_, fun v i h1 h2 h3 => ?_, fun v l h1 h2 h3 => ?_⟩, hok, fun i hi => ?_, ⟨fun l hl => ?_, fun l hl => ?_, fun l hl => ?_, fun l hl => ?_⟩, fun l hl => ?_, fun q => q.elim, ?_, a11, ?_, fun l hl => ?_⟩
  · rw [s1 v (by omega), c1 v hv]; exact a1.1 v hv
  · rw [s2 v i h1 (by omega) h3, c2 v i h1 h2 h3]; exact a1.2.1 v i h1 h2 h3
  · rw [s3 v l h1 (by omega) h3, c3 v l h1 h2 (by omega)]; exact a1.2.2 v l h1 h2 h3
  · rw [s2 10 i (by omega) (by omega) hi, s2 11 i (by omega) (by omega) hi]; exact a3 i hi
  · rw [s3 13 l (by omega) (by omega) hl]; exact a4 l hl
  · rw [s3 14 l (by omega) (by omega) hl]; exact a5 l hl
  · rw [s3 15 l (by omega) (by omega) hl]; exact a6 l hl
  · rw [s3 17 l (by omega) (by omega) hl]; exact a7 l hl
  · obtain ⟨o, h1, h2, h3⟩ := a8 l hl
    have fr : ∀ w j, (w = 30 ∨ w = 40 ∨ w = 50) → j < o → tcS 1 b 0 S 1 (l + w) j = S 0 (l + w) j := fun w j hw hj => by
      have := lgL_fr (g := 1) (g' := 0) hne a11 hl h1 N 0 (lcL 1 0 (Int32.ofNat M) 10 0 (tc0 1 b 0 S)) (by omega) L4 (by rw [L0]; exact h2) (fun l' hl' => by
        obtain ⟨o', q1, q2, -⟩ := a8 l' hl'
        exact ⟨o', q1, by rw [L0]; exact q2⟩) w j hw
      rw [show 3 - 0 = 3 from rfl] at this
      rw [tcS, eM, this, if_pos ⟨by omega, hj⟩, L0]
    refine ⟨o, h1, by rw [s3 18 l (by omega) (by omega) hl]; exact h2, fun k hk => ?_⟩
    obtain ⟨e, a0, t, q⟩ := h3 k hk
    refine ⟨e, a0, t, ?_⟩
    rw [fr 30 k (by omega) hk, fr 40 k (by omega) hk, fr 50 k (by omega) hk, c4 30 _ (by omega) (by omega), c4 40 _ (by omega) (by omega), c4 50 _ (by omega) (by omega)]
    exact q
  · rw [s1 4 (by omega)]; exact a10
  · rw [v4]; exact a12
  · rw [s3 19 l (by omega) (by omega) hl, v4]; exact a13 l hl
end CPYB
