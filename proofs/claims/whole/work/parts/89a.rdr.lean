/-! THE REFERENCE'S READER: the second pass, all of it -/
section RDRV
variable {c : Nat × Nat × Nat} {C : Nat → Option PC} {V V' P : S3} {W : L3} {R : Nat → Option PC} {pl d i j k n m p t u l q M N A NR a k1 : Nat} {x y ρ : Int32} {z : Int64} {Q : PO → Prop} {T : Nat → Int32} {qf lf : Nat → Nat}
theorem tdI_cg (h : V' 4 214 = V 4 214) : ∀ (k u cnt : Nat), tdI V' T qf lf t ρ k u cnt = tdI V T qf lf t ρ k u cnt := by
  intro k
  induction k with
  | zero => intro u cnt; rfl
  | succ k ih => intro u cnt; rw [tdI, tdI, h, ih, ih]
theorem tkn_cg (h : V' 4 214 = V 4 214) : tkn V' T qf lf t = tkn V T qf lf t := by
  unfold tkn
  rw [tdI_cg h, tdI_cg h]
/-- what the second pass makes of token t: its mistake, the plan behind it -/
def e2 (V : S3) (T : Nat → Int32) (qf lf : Nat → Nat) (t : Nat) (P : S3) : Int32 × S3 :=
  if V 4 214 t = 1 then (if tkn V T qf lf t = true then (2, P) else if P 0 100 0 = 10 then (4, P) else (0, su P 0 100 0 (P 0 100 0 + 1))) else
  if V 4 214 t = 2 then (if tkn V T qf lf t = true then (2, P) else if P 0 101 0 = 6 then (4, P) else (0, su P 0 101 0 (P 0 101 0 + 1))) else
  if V 4 214 t = 3 then (if nmI T (qf t) (lf t) 0 0 < 0 then 5 else if 29 < nmI T (qf t) (lf t) 0 0 then 5 else 0, su P 0 103 (P 0 100 0 - 1).toNatClampNeg (nmI T (qf t) (lf t) 0 0)) else
  if V 4 214 t = 4 then (if nmI T (qf t) (lf t) 0 0 < 1 then 5 else if 30 < nmI T (qf t) (lf t) 0 0 then 5 else 0, su P 0 104 (P 0 100 0 - 1).toNatClampNeg (nmI T (qf t) (lf t) 0 0)) else
  if V 4 214 t = 5 then (if P 0 102 0 = 80 then (4, P) else (0, su P 0 102 0 (P 0 102 0 + 1))) else
  if V 4 214 t = 6 then (if tdI V T qf lf t 1 t 0 0 = -1 then 3 else 0, su P 0 113 (P 0 102 0 - 1).toNatClampNeg (tdI V T qf lf t 1 t 0 0)) else
  if V 4 214 t = 7 then (if tdI V T qf lf t 2 t 0 0 = -1 then 3 else if tdI V T qf lf t 2 t 0 0 = P 0 101 0 - 1 then 3 else 0, su P 0 113 (P 0 102 0 - 1).toNatClampNeg (tdI V T qf lf t 2 t 0 0)) else
  if V 4 214 t = 8 then (if nmI T (qf t) (lf t) 0 0 < 0 then 5 else if 99 < nmI T (qf t) (lf t) 0 0 then 5 else 0, P) else (0, P)
theorem e2_cg (h : V' 4 214 = V 4 214) : e2 V' T qf lf t P = e2 V T qf lf t P := by
  unfold e2
  rw [h, tkn_cg h, tdI_cg h, tdI_cg h]
/-- what it needs -/
def pre2 (V : S3) (t : Nat) (P : S3) : Prop := (∃ r, r ≤ 8 ∧ V 4 214 t = Int32.ofNat r) ∧ ∃ M NR A, P 0 100 0 = Int32.ofNat M ∧ M ≤ 10 ∧ P 0 101 0 = Int32.ofNat NR ∧ NR ≤ 6 ∧ P 0 102 0 = Int32.ofNat A ∧ A ≤ 80 ∧ (V 4 214 t = 3 ∨ V 4 214 t = 4 → 0 < M) ∧ (V 4 214 t = 6 ∨ V 4 214 t = 7 → 0 < A)
theorem r179 (hT : tpV V T n) (hO : ∀ u, u ≤ t → onT V n u (qf u) (lf u)) (hp : Pok pl) (hP : (V 4 207 0).toNatClampNeg = pl) (h : pre2 V t P) (d : Nat) (Q : PO → Prop) : Cp (d + 6) 179 [.ref 395, .int (Int32.ofNat t)] (RP c C V W pl P R) Q
    = Q (.inl (some (.int (e2 V T qf lf t P).1)), RP c C V W pl (e2 V T qf lf t P).2 R) := by
  have ht := hO t (Nat.le_refl _)
  obtain ⟨⟨r, hr, er⟩, M, NR, A, m1, m2, n1, n2, a1, a2, m3, a3⟩ := h
  have em : ∀ {k : Nat}, 0 < k → k < 2 ^ 31 → (Int32.ofNat k - 1).toNatClampNeg = k - 1 := fun {k} h1 h2 => by
    rw [show Int32.ofNat k - 1 = Int32.ofNat (k - 1) from ofN_sub (e := 1) (by omega), tN_nat (by omega)]
  by_cases h1 : V 4 214 t = 1
  · rw [r179_1 (d := d) hT hO hp hP m1 m2 h1]
    unfold e2
    rw [if_pos h1, m1, ofN_a1]
    by_cases g1 : tkn V T qf lf t = true
    · rw [if_pos g1, if_pos g1, if_pos g1]
    · rw [if_neg g1, if_neg g1, if_neg g1]
      by_cases g2 : M = 10
      · rw [if_pos g2, if_pos g2, if_pos (show Int32.ofNat M = 10 by rw [g2]; rfl)]
      · rw [if_neg g2, if_neg g2, if_neg (show ¬ Int32.ofNat M = 10 from fun q => g2 (ofN_inj (b := 10) (by omega) (by omega) q))]
  by_cases h2 : V 4 214 t = 2
  · rw [r179_2 (d := d) hT hO hp hP n1 n2 h2]
    unfold e2
    rw [if_neg h1, if_pos h2, n1, ofN_a1]
    by_cases g1 : tkn V T qf lf t = true
    · rw [if_pos g1, if_pos g1, if_pos g1]
    · rw [if_neg g1, if_neg g1, if_neg g1]
      by_cases g2 : NR = 6
      · rw [if_pos g2, if_pos g2, if_pos (show Int32.ofNat NR = 6 by rw [g2]; rfl)]
      · rw [if_neg g2, if_neg g2, if_neg (show ¬ Int32.ofNat NR = 6 from fun q => g2 (ofN_inj (b := 6) (by omega) (by omega) q))]
  by_cases h3 : V 4 214 t = 3
  · have hM := m3 (Or.inl h3)
    rw [r179_3 (d := d + 2) (m := M - 1) hT ht hp hP (by rw [m1, show M - 1 + 1 = M by omega]) (by omega) h3]
    unfold e2
    rw [if_neg h1, if_neg h2, if_pos h3, m1, em hM (by omega)]
  by_cases h4 : V 4 214 t = 4
  · have hM := m3 (Or.inr h4)
    rw [r179_4 (d := d + 2) (m := M - 1) hT ht hp hP (by rw [m1, show M - 1 + 1 = M by omega]) (by omega) h4]
    unfold e2
    rw [if_neg h1, if_neg h2, if_neg h3, if_pos h4, m1, em hM (by omega)]
  by_cases h5 : V 4 214 t = 5
  · rw [r179_5 (d := d + 4) ht.1 hp hP a1 a2 h5]
    unfold e2
    rw [if_neg h1, if_neg h2, if_neg h3, if_neg h4, if_pos h5, a1, ofN_a1]
    by_cases g2 : A = 80
    · rw [if_pos g2, if_pos g2, if_pos (show Int32.ofNat A = 80 by rw [g2]; rfl)]
    · rw [if_neg g2, if_neg g2, if_neg (show ¬ Int32.ofNat A = 80 from fun q => g2 (ofN_inj (b := 80) (by omega) (by omega) q))]
  by_cases h6 : V 4 214 t = 6
  · have hA := a3 (Or.inl h6)
    rw [r179_6 (d := d + 1) (a := A - 1) hT hO hp hP (by rw [a1, show A - 1 + 1 = A by omega]) (by omega) h6]
    unfold e2
    rw [if_neg h1, if_neg h2, if_neg h3, if_neg h4, if_neg h5, if_pos h6, a1, em hA (by omega)]
  by_cases h7 : V 4 214 t = 7
  · have hA := a3 (Or.inr h7)
    rw [r179_7 (d := d + 1) (a := A - 1) hT hO hp hP (by rw [a1, show A - 1 + 1 = A by omega]) (by omega) h7]
    unfold e2
    rw [if_neg h1, if_neg h2, if_neg h3, if_neg h4, if_neg h5, if_neg h6, if_pos h7, a1, em hA (by omega)]
  by_cases h8 : V 4 214 t = 8
  · rw [r179_8 (d := d + 3) hT ht h8]
    unfold e2
    rw [if_neg h1, if_neg h2, if_neg h3, if_neg h4, if_neg h5, if_neg h6, if_neg h7, if_pos h8]
  have h0 : V 4 214 t = 0 := by
    rw [er] at h1 h2 h3 h4 h5 h6 h7 h8 ⊢
    have : r = 0 ∨ r = 1 ∨ r = 2 ∨ r = 3 ∨ r = 4 ∨ r = 5 ∨ r = 6 ∨ r = 7 ∨ r = 8 := by omega
    rcases this with rfl | rfl | rfl | rfl | rfl | rfl | rfl | rfl | rfl
    · rfl
    · exact absurd rfl h1
    · exact absurd rfl h2
    · exact absurd rfl h3
    · exact absurd rfl h4
    · exact absurd rfl h5
    · exact absurd rfl h6
    · exact absurd rfl h7
    · exact absurd rfl h8
  rw [r179_0 (d := d + 5) h0 ht.1]
  unfold e2
  rw [if_neg h1, if_neg h2, if_neg h3, if_neg h4, if_neg h5, if_neg h6, if_neg h7, if_neg h8]
/-- the second pass from token t on: mistake, its token, the plan -/
def ps2 (V : S3) (T : Nat → Int32) (qf lf : Nat → Nat) : Nat → Nat → S3 → Int32 × Nat × S3
  | 0, t, P => (0, t, P)
  | k + 1, t, P => if (e2 V T qf lf t P).1 = 0 then ps2 V T qf lf k (t + 1) (e2 V T qf lf t P).2 else ((e2 V T qf lf t P).1, t, (e2 V T qf lf t P).2)
def pr2 (V : S3) (T : Nat → Int32) (qf lf : Nat → Nat) : Nat → Nat → S3 → Prop
  | 0, _, _ => True
  | k + 1, t, P => pre2 V t P ∧ ((e2 V T qf lf t P).1 = 0 → pr2 V T qf lf k (t + 1) (e2 V T qf lf t P).2)
theorem r180_loop (hp : Pok pl) (hk1 : k1 < 401) {l2 : Option Value} : ∀ (k t : Nat) (V0 P : S3), t + k = k1 → V0 4 214 = V 4 214 → V0 4 212 = V 4 212 → tpV V0 T n → (∀ u, u < k1 → onT V0 n u (qf u) (lf u)) → (V0 4 207 0).toNatClampNeg = pl → V0 4 203 0 = Int32.ofNat t → pr2 V T qf lf k t P → ∀ (l2 : Option Value), ∃ V1, sameBut (fun g v => g = 4 ∧ (v = 203 ∨ v = 202)) V0 V1 ∧ ((ps2 V T qf lf k t P).1 ≠ 0 → V1 4 202 0 = V 4 212 (ps2 V T qf lf k t P).2.1) ∧ ((ps2 V T qf lf k t P).1 = 0 → V1 4 202 = V0 4 202) ∧ ∀ (d : Nat) (Q : PO → Prop), Wp (d + 7) 180 57 [some (.ref 395), some (.int (Int32.ofNat k1)), l2] [] (RP c C V0 W pl P R) Q
    = Q (.inl (some (.int (ps2 V T qf lf k t P).1)), RP c C V1 W pl (ps2 V T qf lf k t P).2.2 R) := by
  intro k
  induction k with
  | zero =>
    intro t V0 P ht h214 h212 hT hO hP h203 hpr l2
    have e : Int32.ofNat k1 ≤ Int32.ofNat t := (ofN_le (by omega) (by omega)).mpr (by omega)
    refine ⟨V0, sbt_refl, fun q => absurd rfl q, fun _ => rfl, fun d Q => ?_⟩
    rw [w180_57]
    simp +decide only [↓w180_0, ↓w180_1, ↓w180_4, ↓w180_4i, ↓w180_5, ↓w180_8, ↓w180_11, ↓w180_12, ↓w180_15, ↓w180_16, ↓w180_17, ↓w180_20, ↓w180_21, ↓w180_22, ↓w180_25, ↓w180_26, ↓w180_29, ↓w180_32, ↓w180_33, ↓w180_34, ↓w180_37, ↓w180_38, ↓w180_41, ↓w180_42, ↓w180_45, ↓w180_46, ↓w180_47, ↓w180_48, ↓w180_51, ↓w180_52, ↓w180_53, ↓w180_54, ↓w180_58, ↓w180_61, ↓w180_62, ↓w180_65, ↓w180_66, ↓w180_67, ↓w180_70, ↓w180_73, ↓w180_74, ↓w180_75, ↓w180_78, ↓w180_81, ↓w180_82, ↓w180_83, ↓w180_86, ↓w180_87, ↓w180_90, ↓w180_91, ↓w180_94, ↓w180_95, ↓w180_96, ↓w180_97, ↓w180_97i, ↓w180_98, ↓w180_101, ↓w180_102, ↓w180_103, ↓w180_106, ↓w180_109, ↓w180_110, ↓m0_g0, ↓m0_g1, ↓m0_g2, ↓m0_g3, ↓m0_g4, ↓m0_g5, ↓m0_g6, ↓m0_g7, ↓m0_g8, ↓m0_g9, ↓m0_g10, ↓m0_g11, ↓m0_g12, ↓m0_g13, ↓m0_g14, ↓m0_g15, ↓m0_p0, ↓m0_p2, ↓m0_p3, ↓m0_p8, ↓m0_p9, ↓m0_p12, m0_r, h203, e, icond_lt, icond_le, icond_gt, icond_ge, icond_eq, icond_ne, narrow_bool, true_or, or_true, if_true, if_false, cK_inl, toL_some, toL_none, psum_nil, psum_int, psum_ref, psum_null, psum_long, Nat.zero_le, Nat.reduceAdd, Nat.reduceLeDiff, kl_int, kl_ref, kl_none, kl_null, kl_long, ps2]
  | succ k ih =>
    intro t V0 P ht h214 h212 hT hO hP h203 hpr l2
    have e : ¬ Int32.ofNat k1 ≤ Int32.ofNat t := fun q => absurd ((ofN_le (by omega) (by omega)).mp q) (by omega)
    obtain ⟨hq1, hq2⟩ := hpr
    have hpre : pre2 V0 t P := by
      unfold pre2 at hq1 ⊢
      rw [h214]
      exact hq1
    have q179 : ∀ (d : Nat) (Q : PO → Prop), Cp (d + 6) 179 [.ref 395, .int (Int32.ofNat t)] (RP c C V0 W pl P R) Q = _ := fun d Q => r179 hT (fun u hu => hO u (by omega)) hp hP hpre d Q
    rw [e2_cg h214] at q179
    have ht401 : t < 401 := by omega
    by_cases h0 : (e2 V T qf lf t P).1 = 0
    · obtain ⟨V1, s1, s2, s3, q⟩ := ih (t + 1) (su V0 4 203 0 (Int32.ofNat (t + 1))) (e2 V T qf lf t P).2 (by omega) (by rw [su_vne (by decide)]; exact h214) (by rw [su_vne (by decide)]; exact h212) (tpV_su hT (by decide) (by decide)) (fun u hu => by
        obtain ⟨o1, o2, o3, o4⟩ := hO u hu
        exact ⟨o1, by rw [su_ne (by decide)]; exact o2, by rw [su_ne (by decide)]; exact o3, o4⟩) (by rw [su_ne (by decide)]; exact hP) su_self (hq2 h0) (some (.int 0))
      rw [ps2, if_pos h0]
      refine ⟨V1, sbt_trans (sbt_su sbt_refl ⟨rfl, Or.inl rfl⟩) s1, s2, fun h => (s3 h).trans (su_vne (by decide)), fun d Q => ?_⟩
      rw [w180_57]
      simp +decide only [↓w180_0, ↓w180_1, ↓w180_4, ↓w180_4i, ↓w180_5, ↓w180_8, ↓w180_11, ↓w180_12, ↓w180_15, ↓w180_16, ↓w180_17, ↓w180_20, ↓w180_21, ↓w180_22, ↓w180_25, ↓w180_26, ↓w180_29, ↓w180_32, ↓w180_33, ↓w180_34, ↓w180_37, ↓w180_38, ↓w180_41, ↓w180_42, ↓w180_45, ↓w180_46, ↓w180_47, ↓w180_48, ↓w180_51, ↓w180_52, ↓w180_53, ↓w180_54, ↓w180_58, ↓w180_61, ↓w180_62, ↓w180_65, ↓w180_66, ↓w180_67, ↓w180_70, ↓w180_73, ↓w180_74, ↓w180_75, ↓w180_78, ↓w180_81, ↓w180_82, ↓w180_83, ↓w180_86, ↓w180_87, ↓w180_90, ↓w180_91, ↓w180_94, ↓w180_95, ↓w180_96, ↓w180_97, ↓w180_97i, ↓w180_98, ↓w180_101, ↓w180_102, ↓w180_103, ↓w180_106, ↓w180_109, ↓w180_110, ↓m0_g0, ↓m0_g1, ↓m0_g2, ↓m0_g3, ↓m0_g4, ↓m0_g5, ↓m0_g6, ↓m0_g7, ↓m0_g8, ↓m0_g9, ↓m0_g10, ↓m0_g11, ↓m0_g12, ↓m0_g13, ↓m0_g14, ↓m0_g15, ↓m0_p0, ↓m0_p2, ↓m0_p3, ↓m0_p8, ↓m0_p9, ↓m0_p12, m0_r, h203, e, q179, h0, ofN_a1, icond_lt, icond_le, icond_gt, icond_ge, icond_eq, icond_ne, narrow_bool, true_or, or_true, if_true, if_false, cK_inl, toL_some, toL_none, psum_nil, psum_int, psum_ref, psum_null, psum_long, Nat.zero_le, Nat.reduceAdd, Nat.reduceLeDiff, kl_int, kl_ref, kl_none, kl_null, kl_long, ne_eq, not_true, not_false_eq_true]
      exact q d Q
    · rw [ps2, if_neg h0]
      refine ⟨su V0 4 202 0 (V0 4 212 t), sbt_su sbt_refl ⟨rfl, Or.inr rfl⟩, fun _ => by rw [su_self, h212], fun h => absurd h h0, fun d Q => ?_⟩
      rw [w180_57]
      simp +decide only [↓w180_0, ↓w180_1, ↓w180_4, ↓w180_4i, ↓w180_5, ↓w180_8, ↓w180_11, ↓w180_12, ↓w180_15, ↓w180_16, ↓w180_17, ↓w180_20, ↓w180_21, ↓w180_22, ↓w180_25, ↓w180_26, ↓w180_29, ↓w180_32, ↓w180_33, ↓w180_34, ↓w180_37, ↓w180_38, ↓w180_41, ↓w180_42, ↓w180_45, ↓w180_46, ↓w180_47, ↓w180_48, ↓w180_51, ↓w180_52, ↓w180_53, ↓w180_54, ↓w180_58, ↓w180_61, ↓w180_62, ↓w180_65, ↓w180_66, ↓w180_67, ↓w180_70, ↓w180_73, ↓w180_74, ↓w180_75, ↓w180_78, ↓w180_81, ↓w180_82, ↓w180_83, ↓w180_86, ↓w180_87, ↓w180_90, ↓w180_91, ↓w180_94, ↓w180_95, ↓w180_96, ↓w180_97, ↓w180_97i, ↓w180_98, ↓w180_101, ↓w180_102, ↓w180_103, ↓w180_106, ↓w180_109, ↓w180_110, ↓m0_g0, ↓m0_g1, ↓m0_g2, ↓m0_g3, ↓m0_g4, ↓m0_g5, ↓m0_g6, ↓m0_g7, ↓m0_g8, ↓m0_g9, ↓m0_g10, ↓m0_g11, ↓m0_g12, ↓m0_g13, ↓m0_g14, ↓m0_g15, ↓m0_p0, ↓m0_p2, ↓m0_p3, ↓m0_p8, ↓m0_p9, ↓m0_p12, m0_r, h203, e, q179, h0, ↓m_from_a ht401, ofN_a1, icond_lt, icond_le, icond_gt, icond_ge, icond_eq, icond_ne, narrow_bool, true_or, or_true, if_true, if_false, cK_inl, toL_some, toL_none, psum_nil, psum_int, psum_ref, psum_null, psum_long, Nat.zero_le, Nat.reduceAdd, Nat.reduceLeDiff, kl_int, kl_ref, kl_none, kl_null, kl_long, ne_eq, not_true, not_false_eq_true]
end RDRV
