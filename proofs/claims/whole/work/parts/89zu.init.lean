/-! THE FIRST OBJECTS: the reference's first morning -/
section INIB
variable {l m : List PC} {R : Nat → Option PC} {b n2 d k j i q a jj pc : Nat} {Q : PO → Prop} {x : Int32} {f4 f5 f6 f7 f8 : Nat → Int32} {ls : PL} {st : List Value}
def HB (b : Nat) (l : List PC) (f4 f5 f6 f7 f8 : Nat → Int32) (n2 : Nat) (R : Nat → Option PC) : PH := NB l (MB b f4 f5 f6 f7 f8) n2 R
theorem hb_at {q : PC} (hb : b = 300 + l.length) (h : (MB b f4 f5 f6 f7 f8)[j]? = some q) : (HB b l f4 f5 f6 f7 f8 n2 R).2 (b + j) = some q := by
  unfold HB
  rw [NB_at hb]
  exact h
theorem hb_at0 {q : PC} (hb : b = 300 + l.length) (h : (MB b f4 f5 f6 f7 f8)[0]? = some q) : (HB b l f4 f5 f6 f7 f8 n2 R).2 b = some q := hb_at (j := 0) hb h
theorem hs_g4 (hb : b = 300 + l.length) {K : Value → Prop} : gP ((HB b l f4 f5 f6 f7 f8 n2 R).2 (b + 23)) 9 4 K = K (.ref (b + 24)) := by
  rw [hb_at (j := 23) hb rfl, gP_mk]
  rfl
theorem hs_g5 (hb : b = 300 + l.length) {K : Value → Prop} : gP ((HB b l f4 f5 f6 f7 f8 n2 R).2 (b + 23)) 9 5 K = K (.ref (b + 25)) := by
  rw [hb_at (j := 23) hb rfl, gP_mk]
  rfl
theorem hs_g6 (hb : b = 300 + l.length) {K : Value → Prop} : gP ((HB b l f4 f5 f6 f7 f8 n2 R).2 (b + 23)) 9 6 K = K (.ref (b + 26)) := by
  rw [hb_at (j := 23) hb rfl, gP_mk]
  rfl
theorem hs_g7 (hb : b = 300 + l.length) {K : Value → Prop} : gP ((HB b l f4 f5 f6 f7 f8 n2 R).2 (b + 23)) 9 7 K = K (.ref (b + 27)) := by
  rw [hb_at (j := 23) hb rfl, gP_mk]
  rfl
theorem hs_g8 (hb : b = 300 + l.length) {K : Value → Prop} : gP ((HB b l f4 f5 f6 f7 f8 n2 R).2 (b + 23)) 9 8 K = K (.ref (b + 28)) := by
  rw [hb_at (j := 23) hb rfl, gP_mk]
  rfl
theorem hs_g20 (hb : b = 300 + l.length) {K : Value → Prop} : gP ((HB b l f4 f5 f6 f7 f8 n2 R).2 (b + 23)) 9 20 K = K (.ref b) := by
  rw [hb_at (j := 23) hb rfl, gP_mk]
  rfl
theorem hm_g10 (hb : b = 300 + l.length) {K : Value → Prop} : gP ((HB b l f4 f5 f6 f7 f8 n2 R).2 b) 10 10 K = K (.ref (b + 6)) := by
  rw [hb_at0 hb rfl, gP_mk]
  rfl
theorem hm_g12 (hb : b = 300 + l.length) {K : Value → Prop} : gP ((HB b l f4 f5 f6 f7 f8 n2 R).2 b) 10 12 K = K (.int 0) := by
  rw [hb_at0 hb rfl, gP_mk]
  rfl
theorem hm_g14 (hb : b = 300 + l.length) {K : Value → Prop} : gP ((HB b l f4 f5 f6 f7 f8 n2 R).2 b) 10 14 K = K (.ref (b + 23)) := by
  rw [hb_at0 hb rfl, gP_mk]
  rfl
theorem hp_g4 (hb : b = 300 + l.length) {K : Value → Prop} : gP ((HB b l f4 f5 f6 f7 f8 n2 R).2 (b + 6)) 8 4 K = K (.ref (b + 8)) := by
  rw [hb_at (j := 6) hb rfl, gP_mk]
  rfl
theorem hp_a (hb : b = 300 + l.length) (hi : i < 10) {K : Int32 → Prop} : aP false ((HB b l f4 f5 f6 f7 f8 n2 R).2 (b + 8)) (Int32.ofNat i) K = K 0 := by
  rw [hb_at (j := 8) hb rfl, aP_mk (inB_nat (by omega) (by omega))]
theorem hs_r (hb : b = 300 + l.length) {P : Prop} : rP ((HB b l f4 f5 f6 f7 f8 n2 R).2 (b + 23)) 9 P = P := by
  rw [hb_at (j := 23) hb rfl, rP_mk]
theorem hs_p0 (hb : b = 300 + l.length) : pP ((HB b l f4 f5 f6 f7 f8 n2 R).2 (b + 23)) 9 0 (ftOf 9 0) (.int 0) (b + 23) (fun q => Wp d jj pc ls st (hset (HB b l f4 f5 f6 f7 f8 n2 R) (b + 23) q) Q) = Wp d jj pc ls st (HB b l f4 f5 f6 f7 f8 n2 R) Q := by
  rw [hb_at (j := 23) hb rfl, ft9_0, pP_mk (by omega) (by simp) rfl rfl]
  unfold HB
  rw [NB_set hb (by simp [MB])]
  rfl
theorem hs_p1 (hb : b = 300 + l.length) : pP ((HB b l f4 f5 f6 f7 f8 n2 R).2 (b + 23)) 9 1 (ftOf 9 1) (.int 0) (b + 23) (fun q => Wp d jj pc ls st (hset (HB b l f4 f5 f6 f7 f8 n2 R) (b + 23) q) Q) = Wp d jj pc ls st (HB b l f4 f5 f6 f7 f8 n2 R) Q := by
  rw [hb_at (j := 23) hb rfl, ft9_1, pP_mk (by omega) (by simp) rfl rfl]
  unfold HB
  rw [NB_set hb (by simp [MB])]
  rfl
theorem hs_p2 (hb : b = 300 + l.length) : pP ((HB b l f4 f5 f6 f7 f8 n2 R).2 (b + 23)) 9 2 (ftOf 9 2) (.int 0) (b + 23) (fun q => Wp d jj pc ls st (hset (HB b l f4 f5 f6 f7 f8 n2 R) (b + 23) q) Q) = Wp d jj pc ls st (HB b l f4 f5 f6 f7 f8 n2 R) Q := by
  rw [hb_at (j := 23) hb rfl, ft9_2, pP_mk (by omega) (by simp) rfl rfl]
  unfold HB
  rw [NB_set hb (by simp [MB])]
  rfl
theorem hs_p3 (hb : b = 300 + l.length) : pP ((HB b l f4 f5 f6 f7 f8 n2 R).2 (b + 23)) 9 3 (ftOf 9 3) (.int 0) (b + 23) (fun q => Wp d jj pc ls st (hset (HB b l f4 f5 f6 f7 f8 n2 R) (b + 23) q) Q) = Wp d jj pc ls st (HB b l f4 f5 f6 f7 f8 n2 R) Q := by
  rw [hb_at (j := 23) hb rfl, ft9_3, pP_mk (by omega) (by simp) rfl rfl]
  unfold HB
  rw [NB_set hb (by simp [MB])]
  rfl
theorem hs_s4 (hb : b = 300 + l.length) (hi : i < 10) : asP false ((HB b l f4 f5 f6 f7 f8 n2 R).2 (b + 24)) (b + 24) (Int32.ofNat i) 0 (fun q => Wp d jj pc ls st (hset (HB b l f4 f5 f6 f7 f8 n2 R) (b + 24) q) Q) = Wp d jj pc ls st (HB b l (upd f4 i 0) f5 f6 f7 f8 n2 R) Q := by
  rw [hb_at (j := 24) hb rfl]
  refine (if_pos ⟨by omega, rfl, inB_nat (by omega) (by omega)⟩).trans ?_
  rw [tN_nat (by omega)]
  unfold HB
  rw [NB_set hb (by simp [MB])]
  rfl
theorem hs_s5 (hb : b = 300 + l.length) (hi : i < 10) : asP false ((HB b l f4 f5 f6 f7 f8 n2 R).2 (b + 25)) (b + 25) (Int32.ofNat i) 10 (fun q => Wp d jj pc ls st (hset (HB b l f4 f5 f6 f7 f8 n2 R) (b + 25) q) Q) = Wp d jj pc ls st (HB b l f4 (upd f5 i 10) f6 f7 f8 n2 R) Q := by
  rw [hb_at (j := 25) hb rfl]
  refine (if_pos ⟨by omega, rfl, inB_nat (by omega) (by omega)⟩).trans ?_
  rw [tN_nat (by omega)]
  unfold HB
  rw [NB_set hb (by simp [MB])]
  rfl
theorem hs_s6 (hb : b = 300 + l.length) (hi : i < 10) : asP false ((HB b l f4 f5 f6 f7 f8 n2 R).2 (b + 26)) (b + 26) (Int32.ofNat i) 0 (fun q => Wp d jj pc ls st (hset (HB b l f4 f5 f6 f7 f8 n2 R) (b + 26) q) Q) = Wp d jj pc ls st (HB b l f4 f5 (upd f6 i 0) f7 f8 n2 R) Q := by
  rw [hb_at (j := 26) hb rfl]
  refine (if_pos ⟨by omega, rfl, inB_nat (by omega) (by omega)⟩).trans ?_
  rw [tN_nat (by omega)]
  unfold HB
  rw [NB_set hb (by simp [MB])]
  rfl
theorem hs_s7 (hb : b = 300 + l.length) (hi : i < 10) : asP false ((HB b l f4 f5 f6 f7 f8 n2 R).2 (b + 27)) (b + 27) (Int32.ofNat i) 0 (fun q => Wp d jj pc ls st (hset (HB b l f4 f5 f6 f7 f8 n2 R) (b + 27) q) Q) = Wp d jj pc ls st (HB b l f4 f5 f6 (upd f7 i 0) f8 n2 R) Q := by
  rw [hb_at (j := 27) hb rfl]
  refine (if_pos ⟨by omega, rfl, inB_nat (by omega) (by omega)⟩).trans ?_
  rw [tN_nat (by omega)]
  unfold HB
  rw [NB_set hb (by simp [MB])]
  rfl
theorem hs_s8 (hb : b = 300 + l.length) (hi : i < 10) : asP true ((HB b l f4 f5 f6 f7 f8 n2 R).2 (b + 28)) (b + 28) (Int32.ofNat i) 0 (fun q => Wp d jj pc ls st (hset (HB b l f4 f5 f6 f7 f8 n2 R) (b + 28) q) Q) = Wp d jj pc ls st (HB b l f4 f5 f6 f7 (upd f8 i 0) n2 R) Q := by
  rw [hb_at (j := 28) hb rfl]
  refine (if_pos ⟨by omega, rfl, inB_nat (by omega) (by omega)⟩).trans ?_
  rw [tN_nat (by omega)]
  unfold HB
  rw [NB_set hb (by simp [MB])]
  rfl
def upK (x : Int32) : Nat → Nat → (Nat → Int32) → (Nat → Int32)
  | 0, _, f => f
  | k + 1, i, f => upK x k (i + 1) (upd f i x)
theorem mo_loop (hb : b = 300 + l.length) : ∀ (k i : Nat) (f4 f5 f6 f7 f8 : Nat → Int32), i + k = 10 → Wp (d + 1) 123 22 [some (.ref (b + 23)), some (.int (Int32.ofNat i))] [] (HB b l f4 f5 f6 f7 f8 n2 R) Q = Q (.inl none, HB b l (upK 0 k i f4) (upK 10 k i f5) (upK 0 k i f6) (upK 0 k i f7) (upK 0 k i f8) n2 R) := by
  intro k
  induction k with
  | zero =>
    intro i f4 f5 f6 f7 f8 hi
    have h1 : (10 : Int32) ≤ Int32.ofNat i := (ofN_le (k := 10) (by decide) (by omega)).mpr (by omega)
    simp +decide only [↓w123_22, ↓w123_23, ↓w123_25, ↓w123_81, ↓w123_82, ↓w123_83, ↓w123_84, ↓w123_85, ↓w123_88, ↓w123_91, ↓w123_105, ↓hs_g20 hb, ↓hm_g12 hb, h1, upK, icond_lt, icond_le, icond_gt, icond_ge, icond_eq, icond_ne, narrow_bool, true_or, or_true, if_true, if_false, cK_inl, toL_some, toL_none, psum_nil, psum_int, psum_ref, psum_null, psum_long, Nat.zero_le, Nat.reduceAdd, Nat.reduceLeDiff, kl_int, kl_ref, kl_none, kl_null, kl_long, ne_eq, not_true, not_false_eq_true]
  | succ k ih =>
    intro i f4 f5 f6 f7 f8 hi
    have h1 : ¬ (10 : Int32) ≤ Int32.ofNat i := fun q => absurd ((ofN_le (k := 10) (by decide) (by omega)).mp q) (by omega)
    have hi2 : i < 10 := by omega
    have e1 : Int32.ofNat i + 1 = Int32.ofNat (i + 1) := (Int32.ofNat_add i 1).symm
    rw [w123_22]
    simp +decide only [↓w123_0, ↓w123_1, ↓w123_2, ↓w123_5, ↓w123_6, ↓w123_7, ↓w123_10, ↓w123_11, ↓w123_12, ↓w123_15, ↓w123_16, ↓w123_17, ↓w123_20, ↓w123_21, ↓w123_23, ↓w123_25, ↓w123_28, ↓w123_29, ↓w123_32, ↓w123_33, ↓w123_34, ↓w123_37, ↓w123_40, ↓w123_43, ↓w123_44, ↓w123_45, ↓w123_46, ↓w123_47, ↓w123_50, ↓w123_51, ↓w123_53, ↓w123_54, ↓w123_55, ↓w123_58, ↓w123_59, ↓w123_60, ↓w123_61, ↓w123_62, ↓w123_65, ↓w123_66, ↓w123_67, ↓w123_68, ↓w123_69, ↓w123_72, ↓w123_73, ↓w123_74, ↓w123_75, ↓w123_78, ↓w123_82, ↓w123_83, ↓w123_84, ↓w123_85, ↓w123_88, ↓w123_91, ↓w123_94, ↓w123_95, ↓w123_96, ↓w123_99, ↓w123_102, ↓w123_105, ↓hs_g4 hb, ↓hs_g5 hb, ↓hs_g6 hb, ↓hs_g7 hb, ↓hs_g8 hb, ↓hs_g20 hb, ↓hm_g10 hb, ↓hp_g4 hb, ↓hp_a hb hi2, ↓hs_s4 hb hi2, ↓hs_s5 hb hi2, ↓hs_s6 hb hi2, ↓hs_s7 hb hi2, ↓hs_s8 hb hi2, h1, e1, icond_lt, icond_le, icond_gt, icond_ge, icond_eq, icond_ne, narrow_bool, true_or, or_true, if_true, if_false, cK_inl, toL_some, toL_none, psum_nil, psum_int, psum_ref, psum_null, psum_long, Nat.zero_le, Nat.reduceAdd, Nat.reduceLeDiff, kl_int, kl_ref, kl_none, kl_null, kl_long, ne_eq, not_true, not_false_eq_true]
    exact ih (i + 1) _ _ _ _ _ (by omega)
theorem mo_begin (hb : b = 300 + l.length) : Cp (d + 2) 123 [.ref (b + 23)] (HB b l f4 f5 f6 f7 f8 n2 R) Q = Q (.inl none, HB b l (upK 0 10 0 f4) (upK 10 10 0 f5) (upK 0 10 0 f6) (upK 0 10 0 f7) (upK 0 10 0 f8) n2 R) := by
  have h := mo_loop (d := d) (Q := Q) (n2 := n2) (R := R) hb 10 0 f4 f5 f6 f7 f8 rfl
  rw [ce123]
  simp +decide only [↓w123_0, ↓w123_1, ↓w123_2, ↓w123_5, ↓w123_6, ↓w123_7, ↓w123_10, ↓w123_11, ↓w123_12, ↓w123_15, ↓w123_16, ↓w123_17, ↓w123_20, ↓w123_21, ↓w123_23, ↓w123_25, ↓w123_28, ↓w123_29, ↓w123_32, ↓w123_33, ↓w123_34, ↓w123_37, ↓w123_40, ↓w123_43, ↓w123_44, ↓w123_45, ↓w123_46, ↓w123_47, ↓w123_50, ↓w123_51, ↓w123_53, ↓w123_54, ↓w123_55, ↓w123_58, ↓w123_59, ↓w123_60, ↓w123_61, ↓w123_62, ↓w123_65, ↓w123_66, ↓w123_67, ↓w123_68, ↓w123_69, ↓w123_72, ↓w123_73, ↓w123_74, ↓w123_75, ↓w123_78, ↓w123_82, ↓w123_83, ↓w123_84, ↓w123_85, ↓w123_88, ↓w123_91, ↓w123_94, ↓w123_95, ↓w123_96, ↓w123_99, ↓w123_102, ↓w123_105, ↓hs_p0 hb, ↓hs_p1 hb, ↓hs_p2 hb, ↓hs_p3 hb, icond_lt, icond_le, icond_gt, icond_ge, icond_eq, icond_ne, narrow_bool, true_or, or_true, if_true, if_false, cK_inl, toL_some, toL_none, psum_nil, psum_int, psum_ref, psum_null, psum_long, Nat.zero_le, Nat.reduceAdd, Nat.reduceLeDiff, kl_int, kl_ref, kl_none, kl_null, kl_long, ne_eq, not_true, not_false_eq_true]
  exact h
theorem mo_end (hb : b = 300 + l.length) : Wp (d + 2) 144 104 [some (.ref b)] [] (HB b l f4 f5 f6 f7 f8 n2 R) Q = Q (.inl none, HB b l (upK 0 10 0 f4) (upK 10 10 0 f5) (upK 0 10 0 f6) (upK 0 10 0 f7) (upK 0 10 0 f8) n2 R) := by
  simp +decide only [↓w144_104, ↓w144_105, ↓w144_108, ↓w144_111, ↓hm_g14 hb, ↓hs_r hb, ↓mo_begin hb, icond_lt, icond_le, icond_gt, icond_ge, icond_eq, icond_ne, narrow_bool, true_or, or_true, if_true, if_false, cK_inl, toL_some, toL_none, psum_nil, psum_int, psum_ref, psum_null, psum_long, Nat.zero_le, Nat.reduceAdd, Nat.reduceLeDiff, kl_int, kl_ref, kl_none, kl_null, kl_long, ne_eq, not_true, not_false_eq_true]
end INIB
