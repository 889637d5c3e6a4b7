/-! CLASS AND REFERENCE: quarters go by -/
section SIMH
variable {c : Nat × Nat × Nat} {C : Nat → Option PC} {W : L3} {R : Nat → Option PC} {S V P : S3} {g b pl M N A NR β : Nat} {x y : Int32} {rk : Nat → Nat} {nt : Prop}
/-- dark and burning, lamp by lamp -/
def lmS (off : Bool) (g i : Nat) (S : S3) : Int32 × S3 := if S g 9 i = 0 then (if off = true then (0, S) else (1, su S g 8 i (S g 8 i + 1))) else (0, su (burnS g i S) g 2 0 (S g 2 0 + burnR g i S))
def cmS (off : Bool) (g : Nat) : Nat → Nat → Int32 → S3 → Int32 × S3
  | 0, _, a, S => (a, S)
  | k + 1, i, a, S => cmS off g k (i + 1) (a + (lmS off g i S).1) (lmS off g i S).2
def cdK (g : Nat) : Nat → Nat → Int32 → S3 → Int32 × S3
  | 0, _, a, S => (a, S)
  | k + 1, i, a, S => if S g 9 i = 0 then cdK g k (i + 1) (a + 1) (su S g 8 i (S g 8 i + 1)) else cdK g k (i + 1) a S
def baK (g : Nat) : Nat → Nat → S3 → S3
  | 0, _, S => S
  | k + 1, i, S => if S g 9 i = 0 then baK g k (i + 1) S else baK g k (i + 1) (su (burnS g i S) g 2 0 (S g 2 0 + burnR g i S))
theorem cdS_K (hM : M ≤ 10) : ∀ (k i : Nat) (a : Int32) (S : S3), i + k = M → cdS g (Int32.ofNat M) (10 - i) i a S = cdK g k i a S := by
  intro k
  induction k with
  | zero =>
    intro i a S hi
    have e : Int32.ofNat M ≤ Int32.ofNat i := (ofN_le (by omega) (by omega)).mpr (by omega)
    cases h3 : 10 - i with
    | zero => rfl
    | succ m => rw [cdS, if_pos e]; rfl
  | succ k ih =>
    intro i a S hi
    have e : ¬ Int32.ofNat M ≤ Int32.ofNat i := fun q => absurd ((ofN_le (by omega) (by omega)).mp q) (by omega)
    rw [show 10 - i = (10 - (i + 1)) + 1 by omega, cdS, if_neg e, cdK, ih (i + 1) _ _ (by omega), ih (i + 1) _ _ (by omega)]
theorem baS_K (hM : M ≤ 10) : ∀ (k i : Nat) (S : S3), i + k = M → baS g (Int32.ofNat M) (10 - i) i S = baK g k i S := by
  intro k
  induction k with
  | zero =>
    intro i S hi
    have e : Int32.ofNat M ≤ Int32.ofNat i := (ofN_le (by omega) (by omega)).mpr (by omega)
    cases h3 : 10 - i with
    | zero => rfl
    | succ m => rw [baS, if_pos e]; rfl
  | succ k ih =>
    intro i S hi
    have e : ¬ Int32.ofNat M ≤ Int32.ofNat i := fun q => absurd ((ofN_le (by omega) (by omega)).mp q) (by omega)
    rw [show 10 - i = (10 - (i + 1)) + 1 by omega, baS, if_neg e, baK, ih (i + 1) _ (by omega), ih (i + 1) _ (by omega)]
theorem burn_su8 {i j : Nat} : burnS g i (su S g 8 j x) = su (burnS g i S) g 8 j x := by
  have hA : ∀ S : S3, burnA g i (su S g 8 j x) = su (burnA g i S) g 8 j x := fun S => by
    unfold burnA
    simp only [su_at, Nat.reduceEqDiff, and_false, false_and, if_false]
    split
    · exact su_comm (by decide)
    · rfl
  have hB : ∀ S : S3, burnB g i (su S g 8 j x) = su (burnB g i S) g 8 j x := fun S => by
    unfold burnB
    simp only [su_at, Nat.reduceEqDiff, and_false, false_and, if_false]
    split
    · exact su_comm (by decide)
    · rfl
  have hC : ∀ S : S3, burnC g i (su S g 8 j x) = su (burnC g i S) g 8 j x := fun S => by
    unfold burnC
    simp only [su_at, Nat.reduceEqDiff, and_false, false_and, if_false]
    split
    · exact su_comm (by decide)
    · split
      · rfl
      · exact su_comm (by decide)
  unfold burnS
  rw [show su S g 8 j x g 7 i = S g 7 i from su_ne (by decide), su_comm (v := 8) (by decide), hA, hB, hC]
theorem burn_9 {i j : Nat} (h : j ≠ i) : burnS g i S g 9 j = S g 9 j := by
  have hA : ∀ S : S3, burnA g i S g 9 j = S g 9 j := fun S => by
    unfold burnA
    split
    · exact su_ne (by decide)
    · rfl
  have hB : ∀ S : S3, burnB g i S g 9 j = S g 9 j := fun S => by
    unfold burnB
    split
    · exact su_ne (by decide)
    · rfl
  have hC : ∀ S : S3, burnC g i S g 9 j = S g 9 j := fun S => by
    unfold burnC
    split
    · rw [su_at, if_neg (fun q => h q.2.2)]
    · split
      · rfl
      · rw [su_at, if_neg (fun q => h q.2.2)]
  rw [burnS, hC, hB, hA, su_ne (by decide)]
def bB (g i : Nat) (S : S3) : S3 := su (burnS g i S) g 2 0 (S g 2 0 + burnR g i S)
theorem bB_su8 {i j : Nat} : bB g i (su S g 8 j x) = su (bB g i S) g 8 j x := by
  unfold bB burnR
  rw [burn_su8, su_comm (v := 8) (by decide), show su S g 8 j x g 2 0 = S g 2 0 from su_ne (by decide), show su S g 8 j x g 7 i = S g 7 i from su_ne (by decide)]
theorem cdK_B {i : Nat} : ∀ (k j : Nat) (a : Int32) (S : S3), i < j → cdK g k j a (bB g i S) = ((cdK g k j a S).1, bB g i (cdK g k j a S).2) := by
  intro k
  induction k with
  | zero => intro j a S _; rfl
  | succ k ih =>
    intro j a S hj
    have e9 : bB g i S g 9 j = S g 9 j := by rw [bB, su_ne (by decide), burn_9 (by omega)]
    have e8 : bB g i S g 8 j = S g 8 j := by rw [bB, su_ne (by decide), burnS_ne (by decide) (by decide) (by decide) (by decide)]
    simp only [cdK]
    rw [e9, e8, ← bB_su8]
    split
    · exact ih (j + 1) _ _ (by omega)
    · exact ih (j + 1) _ _ (by omega)
theorem cdK_9 : ∀ (k j : Nat) (a : Int32) (S : S3), (cdK g k j a S).2 g 9 = S g 9 := by
  intro k
  induction k with
  | zero => intro j a S; rfl
  | succ k ih =>
    intro j a S
    simp only [cdK]
    split
    · rw [ih, su_vne (by decide)]
    · exact ih _ _ _
theorem cm_on : ∀ (k i : Nat) (a : Int32) (S : S3), (cdK g k i a S).1 = (cmS false g k i a S).1 ∧ baK g k i (cdK g k i a S).2 = (cmS false g k i a S).2 := by
  intro k
  induction k with
  | zero => intro i a S; exact ⟨rfl, rfl⟩
  | succ k ih =>
    intro i a S
    simp only [cdK, cmS, baK, lmS]
    by_cases h : S g 9 i = 0
    · simp only [if_pos h, cdK_9, su_vne (show (9 : Nat) ≠ 8 by decide), Bool.false_eq_true, if_false]
      exact ih _ _ _
    · simp only [if_neg h, cdK_9, Int32.add_zero]
      have e := cdK_B (g := g) (i := i) k (i + 1) a S (by omega)
      have e2 := ih (i + 1) a (bB g i S)
      rw [e] at e2
      exact e2
theorem cm_off : ∀ (k i : Nat) (a : Int32) (S : S3), cmS true g k i a S = (a, baK g k i S) := by
  intro k
  induction k with
  | zero => intro i a S; rfl
  | succ k ih =>
    intro i a S
    simp only [cmS, baK, lmS]
    by_cases h : S g 9 i = 0
    · simp only [if_pos h, if_true, Int32.add_zero]
      exact ih _ _ _
    · simp only [if_neg h, Int32.add_zero]
      exact ih _ _ _
theorem townR_burn {i : Nat} (h : townR g b M A NR N β rk nt P S V) (hi : i < M) : townR g b M A NR N β rk nt P (burnS g i S) (burnS g i V) := by
  have t1 : townR g b M A NR N β rk nt P (su S g 7 i (S g 7 i + 1)) (su V g 7 i (V g 7 i + 1)) := by
    rw [h.1.2.1 7 i (by omega) (by omega) hi]
    exact townR_sv h (by omega)
  unfold burnS
  generalize su S g 7 i (S g 7 i + 1) = S1 at t1
  generalize su V g 7 i (V g 7 i + 1) = V1 at t1
  have t2 : townR g b M A NR N β rk nt P (burnA g i S1) (burnA g i V1) := by
    unfold burnA
    rw [t1.1.2.1 7 i (by omega) (by omega) hi, t1.1.2.1 5 i (by omega) (by omega) hi]
    split
    · exact townR_sv t1 (by omega)
    · exact t1
  generalize burnA g i S1 = S2 at t2
  generalize burnA g i V1 = V2 at t2
  have t3 : townR g b M A NR N β rk nt P (burnB g i S2) (burnB g i V2) := by
    unfold burnB
    rw [t2.1.2.1 7 i (by omega) (by omega) hi, t2.1.2.1 6 i (by omega) (by omega) hi]
    split
    · exact townR_sv t2 (by omega)
    · exact t2
  generalize burnB g i S2 = S3 at t3
  generalize burnB g i V2 = V3 at t3
  unfold burnC
  rw [t3.1.2.1 5 i (by omega) (by omega) hi, t3.1.2.1 6 i (by omega) (by omega) hi]
  split
  · exact townR_lit t3 (Or.inl rfl)
  split
  · exact t3
  · exact townR_lit t3 (Or.inl rfl)
theorem townR_lm {i : Nat} {off : Bool} (h : townR g b M A NR N β rk nt P S V) (hi : i < M) : (lmS off g i S).1 = (lmS off g i V).1 ∧ townR g b M A NR N β rk nt P (lmS off g i S).2 (lmS off g i V).2 := by
  have a9 := h.1.2.1 9 i (by omega) (by omega) hi
  have a8 := h.1.2.1 8 i (by omega) (by omega) hi
  have a7 := h.1.2.1 7 i (by omega) (by omega) hi
  have a2 := h.1.1 2 (by omega)
  unfold lmS burnR
  rw [a9, a8, a7, a2]
  split
  · split
    · exact ⟨rfl, h⟩
    · exact ⟨rfl, townR_sv h (by omega)⟩
  · exact ⟨rfl, townR_sv (townR_burn h hi) (by omega)⟩
theorem sbt_lm {i : Nat} {off : Bool} : sameBut (pT g) S (lmS off g i S).2 := by
  unfold lmS
  split
  · split
    · exact sbt_refl
    · exact sbt_su sbt_refl (pT_v (by decide))
  · exact sbt_su (sbt_burn sbt_refl) (pT_v (by decide))
/-- dark and burning in the reference -/
theorem r142_lamp {off : Bool} {x1 : Int32} (hx1 : x1 = if off = true then 1 else 0) : ∀ (k i : Nat) (a y4 : Int32) (S V : S3) (l4 : Option Value), i + k = M → ctx g b pl M A NR N β rk nt P S V → (l4 = none ∨ l4 = some (.int y4)) →
    ∃ V' l4', townR g b M A NR N β rk nt P (cmS off g k i a S).2 V' ∧ sameBut (pT g) V V' ∧
      ∀ (d : Nat) (Q : PO → Prop), Wp (d + 2) 142 37 [some (.ref (SA g)), some (.int x1), some (.int a), some (.int (Int32.ofNat i)), l4] [] (RP c C V W pl P R) Q = Wp (d + 2) 142 107 [some (.ref (SA g)), some (.int x1), some (.int (cmS off g k i a S).1), some (.int (Int32.ofNat M)), l4'] [] (RP c C V' W pl P R) Q := by
  intro k
  induction k with
  | zero =>
    intro i a y4 S V l4 hi h h4
    obtain ⟨ht, hb, hP, hrk, hg, hp, hβ⟩ := h
    have hM := hb.1.2.1
    have hM10 := hb.1.2.2
    have ei : i = M := by omega
    subst ei
    have e : Int32.ofNat i ≤ Int32.ofNat i := Int32.le_refl _
    refine ⟨V, l4, ht, sbt_refl, fun d Q => ?_⟩
    rw [w142_37]
    simp only [↓w142_0, ↓w142_1, ↓w142_4, ↓w142_5, ↓w142_6, ↓w142_7, ↓w142_8, ↓w142_9, ↓w142_10, ↓w142_11, ↓w142_14, ↓w142_17, ↓w142_20, ↓w142_21, ↓w142_24, ↓w142_25, ↓w142_26, ↓w142_29, ↓w142_32, ↓w142_35, ↓w142_36, ↓w142_38, ↓w142_39, ↓w142_42, ↓w142_45, ↓w142_48, ↓w142_51, ↓w142_52, ↓w142_55, ↓w142_56, ↓w142_57, ↓w142_60, ↓w142_61, ↓w142_64, ↓w142_65, ↓w142_68, ↓w142_69, ↓w142_71, ↓w142_72, ↓w142_75, ↓w142_76, ↓w142_77, ↓w142_78, ↓w142_80, ↓w142_81, ↓w142_82, ↓w142_83, ↓w142_85, ↓w142_86, ↓w142_87, ↓w142_88, ↓w142_88i, ↓w142_89, ↓w142_92, ↓w142_93, ↓w142_94, ↓w142_97, ↓w142_98, ↓w142_101, ↓w142_104, ↓w142_108, ↓w142_108i, ↓w142_109, ↓w142_112, ↓w142_113, ↓w142_114, ↓w142_117, ↓w142_118, ↓w142_121, ↓w142_123, ↓w142_126, ↓w142_127, ↓w142_130, ↓w142_131, ↓s_g0 hg, ↓s_g1 hg, ↓s_g2 hg, ↓s_g3 hg, ↓s_g4 hg, ↓s_g5 hg, ↓s_g6 hg, ↓s_g7 hg, ↓s_g8 hg, ↓s_g9 hg, ↓s_g10 hg, ↓s_g11 hg, ↓s_g12 hg, ↓s_g13 hg, ↓s_g14 hg, ↓s_g15 hg, ↓s_g16 hg, ↓s_g17 hg, ↓s_g18 hg, ↓s_g19 hg, ↓s_g20 hg, ↓s_p0 hg, ↓s_p1 hg, ↓s_p3 hg, s_r hg, ↓m0_g0, ↓m0_g1, ↓m0_g2, ↓m0_g3, ↓m0_g4, ↓m0_g5, ↓m0_g6, ↓m0_g7, ↓m0_g8, ↓m0_g9, ↓m0_g10, ↓m0_g11, ↓m0_g12, ↓m0_g13, ↓m0_g14, ↓m0_g15, ↓m0_p0, ↓m0_p2, ↓m0_p3, ↓m0_p8, ↓m0_p9, ↓m0_p12, m0_r, hP, ↓pl_g0 hp, ↓pl_g1 hp, ↓pl_g2 hp, ↓pl_g3 hp, ↓pl_g4 hp, ↓pl_g5 hp, ↓pl_g6 hp, ↓pl_g7 hp, ↓pl_g8 hp, ↓pl_g9 hp, ↓pl_g10 hp, ↓pl_g11 hp, ↓pl_g12 hp, ↓pl_g13 hp, ↓pl_g14 hp, ↓pl_g15 hp, ↓pl_g16 hp, ↓pl_g17 hp, ↓pl_g18 hp, ↓pl_g19 hp, ↓pl_g20 hp, ↓pl_g21 hp, pl_r hp, hM, e, cmS, icond_lt, icond_le, icond_gt, icond_ge, icond_eq, icond_ne, narrow_bool, true_or, or_true, if_true, if_false, cK_inl, toL_some, toL_none, psum_nil, psum_int, psum_ref, psum_null, psum_long, Nat.zero_le, Nat.reduceAdd, Nat.reduceLeDiff, kl_int, kl_ref, kl_none, kl_null, kl_long]
  | succ k ih =>
    intro i a y4 S V l4 hi' h h4
    have hc := h
    obtain ⟨ht, hb, hP, hrk, hg, hp, hβ⟩ := h
    have hM := hb.1.2.1
    have hM10 := hb.1.2.2
    have hiM : i < M := by omega
    have hi : i < 10 := by omega
    have e : ¬ Int32.ofNat M ≤ Int32.ofNat i := fun q => absurd ((ofN_le (by omega) (by omega)).mp q) (by omega)
    obtain ⟨b1, b2⟩ := townR_lm (off := off) ht hiM
    have hc1 := ctx_mk hc b2 sbt_lm sbt_lm hβ
    have a9 := ht.1.2.1 9 i (by omega) (by omega) hiM
    have h01 : V g 9 i = 0 ∨ V g 9 i = 1 := by rw [← a9]; exact ht.2.1.2.2 i hi
    have e126 : ∀ (V : S3) (h01 : V g 9 i = 0 ∨ V g 9 i = 1) (d : Nat) (Q : PO → Prop), _ := fun V h01 d Q => r126 (c := c) (C := C) (V := V) (W := W) (R := R) (pl := pl) (P := P) (d := d) (Q := Q) hg hi h01
    rw [cmS]
    by_cases h9 : V g 9 i = 0
    · cases off with
      | false =>
        have eS : lmS false g i S = (1, su S g 8 i (S g 8 i + 1)) := by rw [lmS, a9, if_pos h9]; simp
        have eV : lmS false g i V = (1, su V g 8 i (V g 8 i + 1)) := by rw [lmS, if_pos h9]; simp
        rw [eS] at b2 hc1
        rw [eV] at b2 hc1
        rw [eS]
        obtain ⟨V', l4', q1, q2, q3⟩ := ih (i + 1) (a + 1) 1 _ _ (some (.int 1)) (by omega) hc1 (Or.inr rfl)
        refine ⟨V', l4', q1, sbt_trans (sbt_su sbt_refl (pT_v (by decide))) q2, fun d Q => ?_⟩
        have e0 : x1 = 0 := by rw [hx1]; simp
        subst e0
        have w9 : su V g 8 i (V g 8 i + 1) g 9 i = 0 := by rw [su_ne (by decide)]; exact h9
        have e5 := e126 (su V g 8 i (V g 8 i + 1)) (Or.inl w9)
        simp only [w9, if_true] at e5
        have w2 : su (su V g 8 i (V g 8 i + 1)) g 2 0 (V g 2 0) = su V g 8 i (V g 8 i + 1) := su_same (su_ne (by decide))
        rw [← q3 d Q]
        rcases h4 with rfl | rfl
        all_goals
          rw [w142_37]
          simp only [↓w142_0, ↓w142_1, ↓w142_4, ↓w142_5, ↓w142_6, ↓w142_7, ↓w142_8, ↓w142_9, ↓w142_10, ↓w142_11, ↓w142_14, ↓w142_17, ↓w142_20, ↓w142_21, ↓w142_24, ↓w142_25, ↓w142_26, ↓w142_29, ↓w142_32, ↓w142_35, ↓w142_36, ↓w142_38, ↓w142_39, ↓w142_42, ↓w142_45, ↓w142_48, ↓w142_51, ↓w142_52, ↓w142_55, ↓w142_56, ↓w142_57, ↓w142_60, ↓w142_61, ↓w142_64, ↓w142_65, ↓w142_68, ↓w142_69, ↓w142_71, ↓w142_72, ↓w142_75, ↓w142_76, ↓w142_77, ↓w142_78, ↓w142_80, ↓w142_81, ↓w142_82, ↓w142_83, ↓w142_85, ↓w142_86, ↓w142_87, ↓w142_88, ↓w142_88i, ↓w142_89, ↓w142_92, ↓w142_93, ↓w142_94, ↓w142_97, ↓w142_98, ↓w142_101, ↓w142_104, ↓w142_108, ↓w142_108i, ↓w142_109, ↓w142_112, ↓w142_113, ↓w142_114, ↓w142_117, ↓w142_118, ↓w142_121, ↓w142_123, ↓w142_126, ↓w142_127, ↓w142_130, ↓w142_131, ↓s_g0 hg, ↓s_g1 hg, ↓s_g2 hg, ↓s_g3 hg, ↓s_g4 hg, ↓s_g5 hg, ↓s_g6 hg, ↓s_g7 hg, ↓s_g8 hg, ↓s_g9 hg, ↓s_g10 hg, ↓s_g11 hg, ↓s_g12 hg, ↓s_g13 hg, ↓s_g14 hg, ↓s_g15 hg, ↓s_g16 hg, ↓s_g17 hg, ↓s_g18 hg, ↓s_g19 hg, ↓s_g20 hg, ↓s_p0 hg, ↓s_p1 hg, ↓s_p3 hg, s_r hg, ↓s_oil_a hg hi, ↓s_oil_s hg hi, ↓s_wick_a hg hi, ↓s_wick_s hg hi, ↓s_clock_a hg hi, ↓s_clock_s hg hi, ↓s_dark_a hg hi, ↓s_dark_s hg hi, ↓s_lit_a hg hi, ↓s_lit_s hg hi, ↓s_dark_a hg hi, ↓s_dark_s hg hi, ↓m0_g0, ↓m0_g1, ↓m0_g2, ↓m0_g3, ↓m0_g4, ↓m0_g5, ↓m0_g6, ↓m0_g7, ↓m0_g8, ↓m0_g9, ↓m0_g10, ↓m0_g11, ↓m0_g12, ↓m0_g13, ↓m0_g14, ↓m0_g15, ↓m0_p0, ↓m0_p2, ↓m0_p3, ↓m0_p8, ↓m0_p9, ↓m0_p12, m0_r, hP, ↓pl_g0 hp, ↓pl_g1 hp, ↓pl_g2 hp, ↓pl_g3 hp, ↓pl_g4 hp, ↓pl_g5 hp, ↓pl_g6 hp, ↓pl_g7 hp, ↓pl_g8 hp, ↓pl_g9 hp, ↓pl_g10 hp, ↓pl_g11 hp, ↓pl_g12 hp, ↓pl_g13 hp, ↓pl_g14 hp, ↓pl_g15 hp, ↓pl_g16 hp, ↓pl_g17 hp, ↓pl_g18 hp, ↓pl_g19 hp, ↓pl_g20 hp, ↓pl_g21 hp, pl_r hp, hM, e, h9, e5, w2, Int32.add_zero, ofN_a1, icond_lt, icond_le, icond_gt, icond_ge, icond_eq, icond_ne, narrow_bool, true_or, or_true, if_true, if_false, cK_inl, toL_some, toL_none, psum_nil, psum_int, psum_ref, psum_null, psum_long, Nat.zero_le, Nat.reduceAdd, Nat.reduceLeDiff, kl_int, kl_ref, kl_none, kl_null, kl_long, su_at, sr_at, Nat.reduceEqDiff, Nat.add_eq_left, Nat.add_right_cancel_iff, and_false, false_and, and_true, true_and, and_self, if_true, if_false, ↓reduceIte, ne_eq, not_true]
      | true =>
        have eS : lmS true g i S = (0, S) := by rw [lmS, a9, if_pos h9]; simp
        have eV : lmS true g i V = (0, V) := by rw [lmS, if_pos h9]; simp
        rw [eS]
        obtain ⟨V', l4', q1, q2, q3⟩ := ih (i + 1) (a + 0) 0 _ _ (some (.int 0)) (by omega) hc (Or.inr rfl)
        refine ⟨V', l4', q1, q2, fun d Q => ?_⟩
        have e0 : x1 = 1 := by rw [hx1]; simp
        subst e0
        have e5 := e126 V (Or.inl h9)
        simp only [h9, if_true] at e5
        have w8 : su V g 8 i (V g 8 i) = V := su_id
        have w2 : su V g 2 0 (V g 2 0) = V := su_id
        rw [← q3 d Q]
        rcases h4 with rfl | rfl
        all_goals
          rw [w142_37]
          simp +decide only [↓w142_0, ↓w142_1, ↓w142_4, ↓w142_5, ↓w142_6, ↓w142_7, ↓w142_8, ↓w142_9, ↓w142_10, ↓w142_11, ↓w142_14, ↓w142_17, ↓w142_20, ↓w142_21, ↓w142_24, ↓w142_25, ↓w142_26, ↓w142_29, ↓w142_32, ↓w142_35, ↓w142_36, ↓w142_38, ↓w142_39, ↓w142_42, ↓w142_45, ↓w142_48, ↓w142_51, ↓w142_52, ↓w142_55, ↓w142_56, ↓w142_57, ↓w142_60, ↓w142_61, ↓w142_64, ↓w142_65, ↓w142_68, ↓w142_69, ↓w142_71, ↓w142_72, ↓w142_75, ↓w142_76, ↓w142_77, ↓w142_78, ↓w142_80, ↓w142_81, ↓w142_82, ↓w142_83, ↓w142_85, ↓w142_86, ↓w142_87, ↓w142_88, ↓w142_88i, ↓w142_89, ↓w142_92, ↓w142_93, ↓w142_94, ↓w142_97, ↓w142_98, ↓w142_101, ↓w142_104, ↓w142_108, ↓w142_108i, ↓w142_109, ↓w142_112, ↓w142_113, ↓w142_114, ↓w142_117, ↓w142_118, ↓w142_121, ↓w142_123, ↓w142_126, ↓w142_127, ↓w142_130, ↓w142_131, ↓s_g0 hg, ↓s_g1 hg, ↓s_g2 hg, ↓s_g3 hg, ↓s_g4 hg, ↓s_g5 hg, ↓s_g6 hg, ↓s_g7 hg, ↓s_g8 hg, ↓s_g9 hg, ↓s_g10 hg, ↓s_g11 hg, ↓s_g12 hg, ↓s_g13 hg, ↓s_g14 hg, ↓s_g15 hg, ↓s_g16 hg, ↓s_g17 hg, ↓s_g18 hg, ↓s_g19 hg, ↓s_g20 hg, ↓s_p0 hg, ↓s_p1 hg, ↓s_p3 hg, s_r hg, ↓s_oil_a hg hi, ↓s_oil_s hg hi, ↓s_wick_a hg hi, ↓s_wick_s hg hi, ↓s_clock_a hg hi, ↓s_clock_s hg hi, ↓s_dark_a hg hi, ↓s_dark_s hg hi, ↓s_lit_a hg hi, ↓s_lit_s hg hi, ↓s_dark_a hg hi, ↓s_dark_s hg hi, ↓m0_g0, ↓m0_g1, ↓m0_g2, ↓m0_g3, ↓m0_g4, ↓m0_g5, ↓m0_g6, ↓m0_g7, ↓m0_g8, ↓m0_g9, ↓m0_g10, ↓m0_g11, ↓m0_g12, ↓m0_g13, ↓m0_g14, ↓m0_g15, ↓m0_p0, ↓m0_p2, ↓m0_p3, ↓m0_p8, ↓m0_p9, ↓m0_p12, m0_r, hP, ↓pl_g0 hp, ↓pl_g1 hp, ↓pl_g2 hp, ↓pl_g3 hp, ↓pl_g4 hp, ↓pl_g5 hp, ↓pl_g6 hp, ↓pl_g7 hp, ↓pl_g8 hp, ↓pl_g9 hp, ↓pl_g10 hp, ↓pl_g11 hp, ↓pl_g12 hp, ↓pl_g13 hp, ↓pl_g14 hp, ↓pl_g15 hp, ↓pl_g16 hp, ↓pl_g17 hp, ↓pl_g18 hp, ↓pl_g19 hp, ↓pl_g20 hp, ↓pl_g21 hp, pl_r hp, hM, e, h9, e5, w2, w8, Int32.add_zero, ofN_a1, icond_lt, icond_le, icond_gt, icond_ge, icond_eq, icond_ne, narrow_bool, true_or, or_true, if_true, if_false, cK_inl, toL_some, toL_none, psum_nil, psum_int, psum_ref, psum_null, psum_long, Nat.zero_le, Nat.reduceAdd, Nat.reduceLeDiff, kl_int, kl_ref, kl_none, kl_null, kl_long, su_at, sr_at, Nat.reduceEqDiff, Nat.add_eq_left, Nat.add_right_cancel_iff, and_false, false_and, and_true, true_and, and_self, if_true, if_false, ↓reduceIte, ne_eq, not_true]
    · have eS : lmS off g i S = (0, bB g i S) := by rw [lmS, a9, if_neg h9]; rfl
      have eV : lmS off g i V = (0, bB g i V) := by rw [lmS, if_neg h9]; rfl
      rw [eS] at b2 hc1
      rw [eV] at b2 hc1
      rw [eS]
      obtain ⟨V', l4', q1, q2, q3⟩ := ih (i + 1) (a + 0) 0 _ _ (some (.int 0)) (by omega) hc1 (Or.inr rfl)
      refine ⟨V', l4', q1, sbt_trans (by unfold bB; exact sbt_su (sbt_burn sbt_refl) (pT_v (by decide))) q2, fun d Q => ?_⟩
      have e5 := e126 V h01
      simp only [if_neg h9] at e5
      have w8 : su V g 8 i (V g 8 i) = V := su_id
      rw [← q3 d Q]
      rcases h4 with rfl | rfl
      all_goals
        rw [w142_37]
        simp only [↓w142_0, ↓w142_1, ↓w142_4, ↓w142_5, ↓w142_6, ↓w142_7, ↓w142_8, ↓w142_9, ↓w142_10, ↓w142_11, ↓w142_14, ↓w142_17, ↓w142_20, ↓w142_21, ↓w142_24, ↓w142_25, ↓w142_26, ↓w142_29, ↓w142_32, ↓w142_35, ↓w142_36, ↓w142_38, ↓w142_39, ↓w142_42, ↓w142_45, ↓w142_48, ↓w142_51, ↓w142_52, ↓w142_55, ↓w142_56, ↓w142_57, ↓w142_60, ↓w142_61, ↓w142_64, ↓w142_65, ↓w142_68, ↓w142_69, ↓w142_71, ↓w142_72, ↓w142_75, ↓w142_76, ↓w142_77, ↓w142_78, ↓w142_80, ↓w142_81, ↓w142_82, ↓w142_83, ↓w142_85, ↓w142_86, ↓w142_87, ↓w142_88, ↓w142_88i, ↓w142_89, ↓w142_92, ↓w142_93, ↓w142_94, ↓w142_97, ↓w142_98, ↓w142_101, ↓w142_104, ↓w142_108, ↓w142_108i, ↓w142_109, ↓w142_112, ↓w142_113, ↓w142_114, ↓w142_117, ↓w142_118, ↓w142_121, ↓w142_123, ↓w142_126, ↓w142_127, ↓w142_130, ↓w142_131, ↓s_g0 hg, ↓s_g1 hg, ↓s_g2 hg, ↓s_g3 hg, ↓s_g4 hg, ↓s_g5 hg, ↓s_g6 hg, ↓s_g7 hg, ↓s_g8 hg, ↓s_g9 hg, ↓s_g10 hg, ↓s_g11 hg, ↓s_g12 hg, ↓s_g13 hg, ↓s_g14 hg, ↓s_g15 hg, ↓s_g16 hg, ↓s_g17 hg, ↓s_g18 hg, ↓s_g19 hg, ↓s_g20 hg, ↓s_p0 hg, ↓s_p1 hg, ↓s_p3 hg, s_r hg, ↓s_oil_a hg hi, ↓s_oil_s hg hi, ↓s_wick_a hg hi, ↓s_wick_s hg hi, ↓s_clock_a hg hi, ↓s_clock_s hg hi, ↓s_dark_a hg hi, ↓s_dark_s hg hi, ↓s_lit_a hg hi, ↓s_lit_s hg hi, ↓s_dark_a hg hi, ↓s_dark_s hg hi, ↓m0_g0, ↓m0_g1, ↓m0_g2, ↓m0_g3, ↓m0_g4, ↓m0_g5, ↓m0_g6, ↓m0_g7, ↓m0_g8, ↓m0_g9, ↓m0_g10, ↓m0_g11, ↓m0_g12, ↓m0_g13, ↓m0_g14, ↓m0_g15, ↓m0_p0, ↓m0_p2, ↓m0_p3, ↓m0_p8, ↓m0_p9, ↓m0_p12, m0_r, hP, ↓pl_g0 hp, ↓pl_g1 hp, ↓pl_g2 hp, ↓pl_g3 hp, ↓pl_g4 hp, ↓pl_g5 hp, ↓pl_g6 hp, ↓pl_g7 hp, ↓pl_g8 hp, ↓pl_g9 hp, ↓pl_g10 hp, ↓pl_g11 hp, ↓pl_g12 hp, ↓pl_g13 hp, ↓pl_g14 hp, ↓pl_g15 hp, ↓pl_g16 hp, ↓pl_g17 hp, ↓pl_g18 hp, ↓pl_g19 hp, ↓pl_g20 hp, ↓pl_g21 hp, pl_r hp, hM, e, h9, e5, w8, Int32.add_zero, ofN_a1, bB, icond_lt, icond_le, icond_gt, icond_ge, icond_eq, icond_ne, narrow_bool, true_or, or_true, if_true, if_false, cK_inl, toL_some, toL_none, psum_nil, psum_int, psum_ref, psum_null, psum_long, Nat.zero_le, Nat.reduceAdd, Nat.reduceLeDiff, kl_int, kl_ref, kl_none, kl_null, kl_long, su_at, sr_at, Nat.reduceEqDiff, Nat.add_eq_left, Nat.add_right_cancel_iff, and_false, false_and, and_true, true_and, and_self, if_true, if_false, ↓reduceIte, ne_eq, not_true, not_false_eq_true]
end SIMH
