/-! ONE TOKEN, ALL TOKENS, IN THE CLASS -/
section TOKC
variable {c : Nat × Nat × Nat} {S : S3} {L : L3} {R : Nat → Option PC} {d i k n m : Nat} {x y : Int32} {z : Int64} {Q : PO → Prop} {T : Nat → Int32}
theorem CH_ro (h : roS R) : roS (CH c S L R).2 := by
  refine ⟨?_, ?_⟩
  · show gov tC 300 S L R 2 = _
    rw [gov_lt (by decide)]; exact h.1
  · show gov tC 300 S L R 101 = _
    rw [gov_lt (by decide)]; exact h.2
/-- bytes -/
def byT (T : Nat → Int32) : Prop := ∀ i, T i = -1 ∨ ∃ m, m < 256 ∧ T i = Int32.ofNat m
def tkK (L : L3) (T : Nat → Int32) (i : Nat) : Int32 := if il (T i) = 0 then (if idg (T i) = 0 then (if T i = -1 then 31 else if ix6 (T i) < 0 then 32 else 25 + ix6 (T i)) else if 3 < dgE T i - i then 32 else 24) else if 8 < wdE T i - i then 32 else kw L 23 0 (wdV T i)
def tkV (T : Nat → Int32) (i : Nat) : Int64 := if il (T i) = 0 then (if idg (T i) = 0 then 0 else dgV T i) else wdV T i
def tkN (T : Nat → Int32) (i : Nat) : Nat := if il (T i) = 0 then (if idg (T i) = 0 then (if T i = -1 then i else i + 1) else dgE T i) else wdE T i
theorem k43 {t : Nat} (ht : t < 401) (hT : tpT S T) (hB : byT T) (hR : roS R) (hi : i ≤ 1600) : Cp (d + 8) 43 [.ref 318, .ref 301, .int (Int32.ofNat i), .int (Int32.ofNat t)] (CH c S L R) Q = Q (.inl (some (.int (Int32.ofNat (tkN T i)))), CH c (su (su S 4 211 t (tkK L T i)) 4 212 t (Int32.ofNat i)) (sl L 4 1 t (tkV T i)) R) := by
  have hb := hT i (by omega)
  by_cases h1 : il (T i) = 0
  · by_cases h2 : idg (T i) = 0
    · by_cases h3 : T i = -1
      · unfold il at h1
        unfold idg at h2
        rw [h3] at h1 h2 hb
        unfold tkN tkK tkV
        rw [h3, if_pos (show il (-1) = 0 by decide), if_pos (show il (-1) = 0 by decide), if_pos (show il (-1) = 0 by decide), if_pos (show idg (-1) = 0 by decide), if_pos (show idg (-1) = 0 by decide), if_pos (show idg (-1) = 0 by decide), if_pos rfl, if_pos rfl]
        simp +decide only [ce43, ↓w43_0, ↓w43_1, ↓w43_2, ↓w43_5, ↓w43_7, ↓w43_9, ↓w43_12, ↓w43_15, ↓w43_16, ↓w43_17, ↓w43_18, ↓w43_19, ↓w43_22, ↓w43_23, ↓w43_25, ↓w43_28, ↓w43_31, ↓w43_32, ↓w43_33, ↓w43_34, ↓w43_35, ↓w43_38, ↓w43_39, ↓w43_41, ↓w43_42, ↓w43_45, ↓w43_46, ↓w43_47, ↓w43_49, ↓w43_50, ↓w43_51, ↓w43_54, ↓w43_55, ↓w43_56, ↓w43_58, ↓w43_60, ↓w43_61, ↓w43_64, ↓w43_66, ↓w43_67, ↓w43_68, ↓w43_70, ↓w43_73, ↓w43_75, ↓w43_78, ↓w43_80, ↓w43_82, ↓w43_83, ↓w43_84, ↓w43_85, ↓w43_88, ↓w43_89, ↓w43_90, ↓w43_91, ↓tape_r, ↓toks_r, k39, c49, c50, k46 ht, hb, h1, h2, icond_lt, icond_le, icond_gt, icond_ge, icond_eq, icond_ne, narrow_bool, true_or, or_true, if_true, if_false, cK_inl, toL_some, toL_none, psum_nil, psum_int, psum_ref, psum_null, psum_long, Nat.zero_le, Nat.reduceAdd, Nat.reduceLeDiff, kl_int, kl_ref, kl_none, kl_null, kl_long, ne_eq, not_true, not_false_eq_true]
      · obtain ⟨m, hm, e⟩ := (hB i).resolve_left h3
        have h1' := h1
        have h2' := h2
        unfold il at h1'
        unfold idg at h2'
        unfold tkN tkK tkV
        simp only [h1, h2, h3, if_true, if_false]
        rw [e] at h1' h2' hb h3 ⊢
        by_cases h4 : ix6 (Int32.ofNat m) < 0
        · have h5 : ¬ (0 : Int32) ≤ ix6 (Int32.ofNat m) := Int32.not_le.mpr h4
          simp +decide only [ce43, ↓w43_0, ↓w43_1, ↓w43_2, ↓w43_5, ↓w43_7, ↓w43_9, ↓w43_12, ↓w43_15, ↓w43_16, ↓w43_17, ↓w43_18, ↓w43_19, ↓w43_22, ↓w43_23, ↓w43_25, ↓w43_28, ↓w43_31, ↓w43_32, ↓w43_33, ↓w43_34, ↓w43_35, ↓w43_38, ↓w43_39, ↓w43_41, ↓w43_42, ↓w43_45, ↓w43_46, ↓w43_47, ↓w43_49, ↓w43_50, ↓w43_51, ↓w43_54, ↓w43_55, ↓w43_56, ↓w43_58, ↓w43_60, ↓w43_61, ↓w43_64, ↓w43_66, ↓w43_67, ↓w43_68, ↓w43_70, ↓w43_73, ↓w43_75, ↓w43_78, ↓w43_80, ↓w43_82, ↓w43_83, ↓w43_84, ↓w43_85, ↓w43_88, ↓w43_89, ↓w43_90, ↓w43_91, ↓tape_r, ↓toks_r, k39, c49, c50, k46 ht, s231 (CH_ro hR) hm, ↓s2_r (CH_ro hR), b16 m hm, hb, h1', h2', h3, h4, h5, ofN_a1, icond_lt, icond_le, icond_gt, icond_ge, icond_eq, icond_ne, narrow_bool, true_or, or_true, if_true, if_false, cK_inl, toL_some, toL_none, psum_nil, psum_int, psum_ref, psum_null, psum_long, Nat.zero_le, Nat.reduceAdd, Nat.reduceLeDiff, kl_int, kl_ref, kl_none, kl_null, kl_long, ne_eq, not_true, not_false_eq_true]
        · have h5 : (0 : Int32) ≤ ix6 (Int32.ofNat m) := Int32.not_lt.mp h4
          simp +decide only [ce43, ↓w43_0, ↓w43_1, ↓w43_2, ↓w43_5, ↓w43_7, ↓w43_9, ↓w43_12, ↓w43_15, ↓w43_16, ↓w43_17, ↓w43_18, ↓w43_19, ↓w43_22, ↓w43_23, ↓w43_25, ↓w43_28, ↓w43_31, ↓w43_32, ↓w43_33, ↓w43_34, ↓w43_35, ↓w43_38, ↓w43_39, ↓w43_41, ↓w43_42, ↓w43_45, ↓w43_46, ↓w43_47, ↓w43_49, ↓w43_50, ↓w43_51, ↓w43_54, ↓w43_55, ↓w43_56, ↓w43_58, ↓w43_60, ↓w43_61, ↓w43_64, ↓w43_66, ↓w43_67, ↓w43_68, ↓w43_70, ↓w43_73, ↓w43_75, ↓w43_78, ↓w43_80, ↓w43_82, ↓w43_83, ↓w43_84, ↓w43_85, ↓w43_88, ↓w43_89, ↓w43_90, ↓w43_91, ↓tape_r, ↓toks_r, k39, c49, c50, k46 ht, s231 (CH_ro hR) hm, ↓s2_r (CH_ro hR), b16 m hm, hb, h1', h2', h3, h4, h5, ofN_a1, icond_lt, icond_le, icond_gt, icond_ge, icond_eq, icond_ne, narrow_bool, true_or, or_true, if_true, if_false, cK_inl, toL_some, toL_none, psum_nil, psum_int, psum_ref, psum_null, psum_long, Nat.zero_le, Nat.reduceAdd, Nat.reduceLeDiff, kl_int, kl_ref, kl_none, kl_null, kl_long, ne_eq, not_true, not_false_eq_true]
    · have h1' := h1
      have h2' := h2
      unfold il at h1'
      unfold idg at h2'
      have e2 : ¬ (T i < 48 ∨ 57 < T i) := fun q => h2' (if_pos q)
      unfold tkN tkK tkV
      simp only [h1, h2, if_true, if_false]
      simp +decide only [ce43, ↓w43_0, ↓w43_1, ↓w43_2, ↓w43_5, ↓w43_7, ↓w43_9, ↓w43_12, ↓w43_15, ↓w43_16, ↓w43_17, ↓w43_18, ↓w43_19, ↓w43_22, ↓w43_23, ↓w43_25, ↓w43_28, ↓w43_31, ↓w43_32, ↓w43_33, ↓w43_34, ↓w43_35, ↓w43_38, ↓w43_39, ↓w43_41, ↓w43_42, ↓w43_45, ↓w43_46, ↓w43_47, ↓w43_49, ↓w43_50, ↓w43_51, ↓w43_54, ↓w43_55, ↓w43_56, ↓w43_58, ↓w43_60, ↓w43_61, ↓w43_64, ↓w43_66, ↓w43_67, ↓w43_68, ↓w43_70, ↓w43_73, ↓w43_75, ↓w43_78, ↓w43_80, ↓w43_82, ↓w43_83, ↓w43_84, ↓w43_85, ↓w43_88, ↓w43_89, ↓w43_90, ↓w43_91, ↓tape_r, ↓toks_r, k39, c49, c50, k45 ht hT hi, hb, h1', e2, icond_lt, icond_le, icond_gt, icond_ge, icond_eq, icond_ne, narrow_bool, true_or, or_true, if_true, if_false, cK_inl, toL_some, toL_none, psum_nil, psum_int, psum_ref, psum_null, psum_long, Nat.zero_le, Nat.reduceAdd, Nat.reduceLeDiff, kl_int, kl_ref, kl_none, kl_null, kl_long, ne_eq, not_true, not_false_eq_true]
  · have h1' := h1
    unfold il at h1'
    have e2 : ¬ (T i < 97 ∨ 122 < T i) := fun q => h1' (if_pos q)
    unfold tkN tkK tkV
    simp only [h1, if_true, if_false]
    simp +decide only [ce43, ↓w43_0, ↓w43_1, ↓w43_2, ↓w43_5, ↓w43_7, ↓w43_9, ↓w43_12, ↓w43_15, ↓w43_16, ↓w43_17, ↓w43_18, ↓w43_19, ↓w43_22, ↓w43_23, ↓w43_25, ↓w43_28, ↓w43_31, ↓w43_32, ↓w43_33, ↓w43_34, ↓w43_35, ↓w43_38, ↓w43_39, ↓w43_41, ↓w43_42, ↓w43_45, ↓w43_46, ↓w43_47, ↓w43_49, ↓w43_50, ↓w43_51, ↓w43_54, ↓w43_55, ↓w43_56, ↓w43_58, ↓w43_60, ↓w43_61, ↓w43_64, ↓w43_66, ↓w43_67, ↓w43_68, ↓w43_70, ↓w43_73, ↓w43_75, ↓w43_78, ↓w43_80, ↓w43_82, ↓w43_83, ↓w43_84, ↓w43_85, ↓w43_88, ↓w43_89, ↓w43_90, ↓w43_91, ↓tape_r, ↓toks_r, k39, c49, c50, k44 ht hT hi, hb, e2, icond_lt, icond_le, icond_gt, icond_ge, icond_eq, icond_ne, narrow_bool, true_or, or_true, if_true, if_false, cK_inl, toL_some, toL_none, psum_nil, psum_int, psum_ref, psum_null, psum_long, Nat.zero_le, Nat.reduceAdd, Nat.reduceLeDiff, kl_int, kl_ref, kl_none, kl_null, kl_long, ne_eq, not_true, not_false_eq_true]
/-- all tokens -/
theorem tpT_tk {t : Nat} {x y : Int32} (h : tpT S T) : tpT (su (su S 4 211 t x) 4 212 t y) T := fun i hi => by
  rw [← h i hi]
  unfold bat
  rw [su_ne (by decide), su_ne (by decide), su_ne (by decide), su_ne (by decide)]
theorem kw_sl {t : Nat} {z' : Int64} : ∀ (k i : Nat), kw (sl L 4 1 t z) k i z' = kw L k i z' := by
  intro k
  induction k with
  | zero => intro i; rfl
  | succ k ih =>
    intro i
    rw [kw, kw, ih]
    have e : sl L 4 1 t z 4 2 i = L 4 2 i := if_neg (fun q => absurd q.2.1 (by decide))
    rw [e]
theorem tkK_sl {t : Nat} : tkK (sl L 4 1 t z) T i = tkK L T i := by
  unfold tkK
  rw [kw_sl]
def kf (k : Nat) (x : Int32) : Int32 := if k = 400 then (if x = 31 then 31 else 32) else x
def tkP (T : Nat → Int32) (p : Nat) : Nat := bl T (1600 - p) p
theorem tkP_le {p : Nat} (h : p ≤ 1600) : tkP T p ≤ 1600 := by
  have := bl_le (T := T) (1600 - p) p
  unfold tkP
  omega
theorem tkN_le (h1 : T 1600 = -1) (h : i ≤ 1600) : tkN T i ≤ 1600 := by
  have a1 := wdE_in (T := T) h
  have a2 := dgE_in (T := T) h
  unfold tkN
  split
  · split
    · split
      · omega
      · rename_i h3
        have : i ≠ 1600 := fun q => h3 (by rw [q]; exact h1)
        omega
    · omega
  · omega
/-- what the class's scan leaves behind from token k at place p on -/
def scR (L0 : L3) (T : Nat → Int32) : Nat → Nat → Nat → S3 → L3 → S3 × L3
  | 0, _, _, S, L => (S, L)
  | f + 1, k, p, S, L => if kf k (tkK L0 T (tkP T p)) = 31 ∨ kf k (tkK L0 T (tkP T p)) = 32 then
      (su (su S 4 211 k (kf k (tkK L0 T (tkP T p)))) 4 212 k (Int32.ofNat (tkP T p)), sl L 4 1 k (tkV T (tkP T p)))
    else scR L0 T f (k + 1) (tkN T (tkP T p)) (su (su S 4 211 k (kf k (tkK L0 T (tkP T p)))) 4 212 k (Int32.ofNat (tkP T p))) (sl L 4 1 k (tkV T (tkP T p)))
theorem kinds_al {K : Int32 → Prop} (h : k < 401) : aP false ((CH c S L R).2 319) (Int32.ofNat k) K = K (S 4 211 k) := by
  rw [kinds_at]
  refine (if_pos ⟨rfl, inB_nat h (by omega)⟩).trans ?_
  rw [tN_nat (by omega)]
theorem kinds_n {K : Int32 → Prop} : nP ((CH c S L R).2 319) K = K 401 := by
  rw [kinds_at]
  rfl
theorem kinds_as {a : Int32} {j pc : Nat} {ls : PL} {st : List Value} (h : k < 401) : asP false ((CH c S L R).2 319) 319 (Int32.ofNat k) a (fun q => Wp d j pc ls st (hset (CH c S L R) 319 q) Q) = Wp d j pc ls st (CH c (su S 4 211 k a) L R) Q := by
  rw [kinds_at, asP_mk (by omega) (inB_nat h (by omega)), kinds_wr, tN_nat (by omega)]
theorem k41_loop (hB : byT T) (h16 : T 1600 = -1) (hR : roS R) {L0 : L3} : ∀ (f k p : Nat) (S : S3) (L : L3), k + f = 401 → p ≤ 1600 → tpT S T → (∀ i, tkK L T i = tkK L0 T i) → ∀ (d : Nat) (Q : PO → Prop), Wp (d + 9) 41 7 [some (.ref 318), some (.ref 301), some (.int (Int32.ofNat p)), some (.int 1), some (.int (Int32.ofNat k))] [] (CH c S L R) Q
    = Q (.inl none, CH c (scR L0 T f k p S L).1 (scR L0 T f k p S L).2 R) := by
  intro f
  induction f with
  | zero =>
    intro k p S L hk hp hT hL d Q
    have e : (400 : Int32) < Int32.ofNat k := (ofN_lt (k := 400) (by omega) (by omega)).mpr (by omega)
    rw [w41_7]
    simp +decide only [↓w41_0, ↓w41_1, ↓w41_2, ↓w41_3, ↓w41_4, ↓w41_5, ↓w41_8, ↓w41_11, ↓w41_13, ↓w41_16, ↓w41_19, ↓w41_21, ↓w41_22, ↓w41_25, ↓w41_26, ↓w41_29, ↓w41_30, ↓w41_31, ↓w41_32, ↓w41_33, ↓w41_36, ↓w41_38, ↓w41_41, ↓w41_42, ↓w41_44, ↓w41_47, ↓w41_50, ↓w41_51, ↓w41_54, ↓w41_56, ↓w41_57, ↓w41_59, ↓w41_62, ↓w41_63, ↓w41_66, ↓w41_68, ↓w41_70, ↓w41_71, ↓w41_72, ↓w41_75, ↓w41_77, ↓w41_78, ↓w41_80, ↓w41_83, ↓w41_84, ↓w41_87, ↓w41_89, ↓w41_90, ↓w41_92, ↓w41_95, ↓w41_96, ↓w41_99, ↓w41_100, ↓w41_101, ↓w41_104, ↓w41_107, e, icond_lt, icond_le, icond_gt, icond_ge, icond_eq, icond_ne, narrow_bool, true_or, or_true, if_true, if_false, cK_inl, toL_some, toL_none, psum_nil, psum_int, psum_ref, psum_null, psum_long, Nat.zero_le, Nat.reduceAdd, Nat.reduceLeDiff, kl_int, kl_ref, kl_none, kl_null, kl_long, scR]
  | succ f ih =>
    intro k p S L hk hp hT hL d Q
    have e : ¬ (400 : Int32) < Int32.ofNat k := fun q => absurd ((ofN_lt (k := 400) (by omega) (by omega)).mp q) (by omega)
    have e2 : ¬ (401 : Int32) ≤ Int32.ofNat k := fun q => absurd ((ofN_le (k := 401) (by omega) (by omega)).mp q) (by omega)
    have ht : k < 401 := by omega
    have hP := tkP_le (T := T) hp
    have q42 : ∀ (d : Nat) (Q : PO → Prop), Cp (d + 3) 42 [.ref 301, .int (Int32.ofNat p)] (CH c S L R) Q = Q (.inl (some (.int (Int32.ofNat (tkP T p)))), CH c S L R) := fun d Q => k42 hT hp
    have q43 : ∀ (d : Nat) (Q : PO → Prop), Cp (d + 8) 43 [.ref 318, .ref 301, .int (Int32.ofNat (tkP T p)), .int (Int32.ofNat k)] (CH c S L R) Q = _ := fun d Q => k43 ht hT hB hR hP
    rw [hL] at q43
    have s1 : ∀ {a b x : Int32}, su (su (su S 4 211 k a) 4 212 k b) 4 211 k x = su (su S 4 211 k x) 4 212 k b := fun {a b x} => by rw [su_comm (by decide), su_su]
    have s2 : ∀ {a b : Int32}, su (su S 4 211 k a) 4 212 k b 4 211 k = a := fun {a b} => by rw [su_ne (by decide), su_self]
    have fin := ih (k + 1) (tkN T (tkP T p)) (su (su S 4 211 k (kf k (tkK L0 T (tkP T p)))) 4 212 k (Int32.ofNat (tkP T p))) (sl L 4 1 k (tkV T (tkP T p))) (by omega) (tkN_le h16 hP) (tpT_tk hT) (fun i => by rw [tkK_sl]; exact hL i) d Q
    rw [scR]
    generalize tkK L0 T (tkP T p) = κ at q43 fin ⊢
    rw [w41_7]
    by_cases hk4 : k = 400
    · have e4 : (Int32.ofNat k = 400) = True := eq_true (by rw [hk4]; rfl)
      by_cases h31 : κ = 31
      · subst h31
        have ek : kf k 31 = 31 := by unfold kf; rw [if_pos hk4, if_pos rfl]
        simp +decide only [↓w41_0, ↓w41_1, ↓w41_2, ↓w41_3, ↓w41_4, ↓w41_5, ↓w41_8, ↓w41_11, ↓w41_13, ↓w41_16, ↓w41_19, ↓w41_21, ↓w41_22, ↓w41_25, ↓w41_26, ↓w41_29, ↓w41_30, ↓w41_31, ↓w41_32, ↓w41_33, ↓w41_36, ↓w41_38, ↓w41_41, ↓w41_42, ↓w41_44, ↓w41_47, ↓w41_50, ↓w41_51, ↓w41_54, ↓w41_56, ↓w41_57, ↓w41_59, ↓w41_62, ↓w41_63, ↓w41_66, ↓w41_68, ↓w41_70, ↓w41_71, ↓w41_72, ↓w41_75, ↓w41_77, ↓w41_78, ↓w41_80, ↓w41_83, ↓w41_84, ↓w41_87, ↓w41_89, ↓w41_90, ↓w41_92, ↓w41_95, ↓w41_96, ↓w41_99, ↓w41_100, ↓w41_101, ↓w41_104, ↓w41_107, ↓toks_g0, ↓toks_r, ↓tape_r, q42, q43, ↓kinds_n, ↓kinds_al ht, ↓kinds_as ht, s1, s2, e, e2, e4, ek, ofN_a1, icond_lt, icond_le, icond_gt, icond_ge, icond_eq, icond_ne, narrow_bool, true_or, or_true, if_true, if_false, cK_inl, toL_some, toL_none, psum_nil, psum_int, psum_ref, psum_null, psum_long, Nat.zero_le, Nat.reduceAdd, Nat.reduceLeDiff, kl_int, kl_ref, kl_none, kl_null, kl_long, ne_eq, not_true, not_false_eq_true]
        rw [w41_7]
        simp +decide only [↓w41_0, ↓w41_1, ↓w41_2, ↓w41_3, ↓w41_4, ↓w41_5, ↓w41_8, ↓w41_11, ↓w41_13, ↓w41_16, ↓w41_19, ↓w41_21, ↓w41_22, ↓w41_25, ↓w41_26, ↓w41_29, ↓w41_30, ↓w41_31, ↓w41_32, ↓w41_33, ↓w41_36, ↓w41_38, ↓w41_41, ↓w41_42, ↓w41_44, ↓w41_47, ↓w41_50, ↓w41_51, ↓w41_54, ↓w41_56, ↓w41_57, ↓w41_59, ↓w41_62, ↓w41_63, ↓w41_66, ↓w41_68, ↓w41_70, ↓w41_71, ↓w41_72, ↓w41_75, ↓w41_77, ↓w41_78, ↓w41_80, ↓w41_83, ↓w41_84, ↓w41_87, ↓w41_89, ↓w41_90, ↓w41_92, ↓w41_95, ↓w41_96, ↓w41_99, ↓w41_100, ↓w41_101, ↓w41_104, ↓w41_107, icond_lt, icond_le, icond_gt, icond_ge, icond_eq, icond_ne, narrow_bool, true_or, or_true, if_true, if_false, cK_inl, toL_some, toL_none, psum_nil, psum_int, psum_ref, psum_null, psum_long, Nat.zero_le, Nat.reduceAdd, Nat.reduceLeDiff, kl_int, kl_ref, kl_none, kl_null, kl_long]
      · have ek : kf k κ = 32 := by unfold kf; rw [if_pos hk4, if_neg h31]
        simp +decide only [↓w41_0, ↓w41_1, ↓w41_2, ↓w41_3, ↓w41_4, ↓w41_5, ↓w41_8, ↓w41_11, ↓w41_13, ↓w41_16, ↓w41_19, ↓w41_21, ↓w41_22, ↓w41_25, ↓w41_26, ↓w41_29, ↓w41_30, ↓w41_31, ↓w41_32, ↓w41_33, ↓w41_36, ↓w41_38, ↓w41_41, ↓w41_42, ↓w41_44, ↓w41_47, ↓w41_50, ↓w41_51, ↓w41_54, ↓w41_56, ↓w41_57, ↓w41_59, ↓w41_62, ↓w41_63, ↓w41_66, ↓w41_68, ↓w41_70, ↓w41_71, ↓w41_72, ↓w41_75, ↓w41_77, ↓w41_78, ↓w41_80, ↓w41_83, ↓w41_84, ↓w41_87, ↓w41_89, ↓w41_90, ↓w41_92, ↓w41_95, ↓w41_96, ↓w41_99, ↓w41_100, ↓w41_101, ↓w41_104, ↓w41_107, ↓toks_g0, ↓toks_r, ↓tape_r, q42, q43, ↓kinds_n, ↓kinds_al ht, ↓kinds_as ht, s1, s2, e, e2, e4, ek, h31, ofN_a1, icond_lt, icond_le, icond_gt, icond_ge, icond_eq, icond_ne, narrow_bool, true_or, or_true, if_true, if_false, cK_inl, toL_some, toL_none, psum_nil, psum_int, psum_ref, psum_null, psum_long, Nat.zero_le, Nat.reduceAdd, Nat.reduceLeDiff, kl_int, kl_ref, kl_none, kl_null, kl_long, ne_eq, not_true, not_false_eq_true]
        rw [w41_7]
        simp +decide only [↓w41_0, ↓w41_1, ↓w41_2, ↓w41_3, ↓w41_4, ↓w41_5, ↓w41_8, ↓w41_11, ↓w41_13, ↓w41_16, ↓w41_19, ↓w41_21, ↓w41_22, ↓w41_25, ↓w41_26, ↓w41_29, ↓w41_30, ↓w41_31, ↓w41_32, ↓w41_33, ↓w41_36, ↓w41_38, ↓w41_41, ↓w41_42, ↓w41_44, ↓w41_47, ↓w41_50, ↓w41_51, ↓w41_54, ↓w41_56, ↓w41_57, ↓w41_59, ↓w41_62, ↓w41_63, ↓w41_66, ↓w41_68, ↓w41_70, ↓w41_71, ↓w41_72, ↓w41_75, ↓w41_77, ↓w41_78, ↓w41_80, ↓w41_83, ↓w41_84, ↓w41_87, ↓w41_89, ↓w41_90, ↓w41_92, ↓w41_95, ↓w41_96, ↓w41_99, ↓w41_100, ↓w41_101, ↓w41_104, ↓w41_107, icond_lt, icond_le, icond_gt, icond_ge, icond_eq, icond_ne, narrow_bool, true_or, or_true, if_true, if_false, cK_inl, toL_some, toL_none, psum_nil, psum_int, psum_ref, psum_null, psum_long, Nat.zero_le, Nat.reduceAdd, Nat.reduceLeDiff, kl_int, kl_ref, kl_none, kl_null, kl_long]
    · have e4 : (Int32.ofNat k = 400) = False := eq_false (fun q => hk4 (ofN_inj (b := 400) (by omega) (by omega) q))
      have ek : kf k κ = κ := by unfold kf; rw [if_neg hk4]
      rw [ek] at fin ⊢
      by_cases h31 : κ = 31
      · simp +decide only [↓w41_0, ↓w41_1, ↓w41_2, ↓w41_3, ↓w41_4, ↓w41_5, ↓w41_8, ↓w41_11, ↓w41_13, ↓w41_16, ↓w41_19, ↓w41_21, ↓w41_22, ↓w41_25, ↓w41_26, ↓w41_29, ↓w41_30, ↓w41_31, ↓w41_32, ↓w41_33, ↓w41_36, ↓w41_38, ↓w41_41, ↓w41_42, ↓w41_44, ↓w41_47, ↓w41_50, ↓w41_51, ↓w41_54, ↓w41_56, ↓w41_57, ↓w41_59, ↓w41_62, ↓w41_63, ↓w41_66, ↓w41_68, ↓w41_70, ↓w41_71, ↓w41_72, ↓w41_75, ↓w41_77, ↓w41_78, ↓w41_80, ↓w41_83, ↓w41_84, ↓w41_87, ↓w41_89, ↓w41_90, ↓w41_92, ↓w41_95, ↓w41_96, ↓w41_99, ↓w41_100, ↓w41_101, ↓w41_104, ↓w41_107, ↓toks_g0, ↓toks_r, ↓tape_r, q42, q43, ↓kinds_n, ↓kinds_al ht, ↓kinds_as ht, s1, s2, e, e2, e4, h31, ofN_a1, icond_lt, icond_le, icond_gt, icond_ge, icond_eq, icond_ne, narrow_bool, true_or, or_true, if_true, if_false, cK_inl, toL_some, toL_none, psum_nil, psum_int, psum_ref, psum_null, psum_long, Nat.zero_le, Nat.reduceAdd, Nat.reduceLeDiff, kl_int, kl_ref, kl_none, kl_null, kl_long, ne_eq, not_true, not_false_eq_true]
        rw [w41_7]
        simp +decide only [↓w41_0, ↓w41_1, ↓w41_2, ↓w41_3, ↓w41_4, ↓w41_5, ↓w41_8, ↓w41_11, ↓w41_13, ↓w41_16, ↓w41_19, ↓w41_21, ↓w41_22, ↓w41_25, ↓w41_26, ↓w41_29, ↓w41_30, ↓w41_31, ↓w41_32, ↓w41_33, ↓w41_36, ↓w41_38, ↓w41_41, ↓w41_42, ↓w41_44, ↓w41_47, ↓w41_50, ↓w41_51, ↓w41_54, ↓w41_56, ↓w41_57, ↓w41_59, ↓w41_62, ↓w41_63, ↓w41_66, ↓w41_68, ↓w41_70, ↓w41_71, ↓w41_72, ↓w41_75, ↓w41_77, ↓w41_78, ↓w41_80, ↓w41_83, ↓w41_84, ↓w41_87, ↓w41_89, ↓w41_90, ↓w41_92, ↓w41_95, ↓w41_96, ↓w41_99, ↓w41_100, ↓w41_101, ↓w41_104, ↓w41_107, icond_lt, icond_le, icond_gt, icond_ge, icond_eq, icond_ne, narrow_bool, true_or, or_true, if_true, if_false, cK_inl, toL_some, toL_none, psum_nil, psum_int, psum_ref, psum_null, psum_long, Nat.zero_le, Nat.reduceAdd, Nat.reduceLeDiff, kl_int, kl_ref, kl_none, kl_null, kl_long]
      · by_cases h32 : κ = 32
        · simp +decide only [↓w41_0, ↓w41_1, ↓w41_2, ↓w41_3, ↓w41_4, ↓w41_5, ↓w41_8, ↓w41_11, ↓w41_13, ↓w41_16, ↓w41_19, ↓w41_21, ↓w41_22, ↓w41_25, ↓w41_26, ↓w41_29, ↓w41_30, ↓w41_31, ↓w41_32, ↓w41_33, ↓w41_36, ↓w41_38, ↓w41_41, ↓w41_42, ↓w41_44, ↓w41_47, ↓w41_50, ↓w41_51, ↓w41_54, ↓w41_56, ↓w41_57, ↓w41_59, ↓w41_62, ↓w41_63, ↓w41_66, ↓w41_68, ↓w41_70, ↓w41_71, ↓w41_72, ↓w41_75, ↓w41_77, ↓w41_78, ↓w41_80, ↓w41_83, ↓w41_84, ↓w41_87, ↓w41_89, ↓w41_90, ↓w41_92, ↓w41_95, ↓w41_96, ↓w41_99, ↓w41_100, ↓w41_101, ↓w41_104, ↓w41_107, ↓toks_g0, ↓toks_r, ↓tape_r, q42, q43, ↓kinds_n, ↓kinds_al ht, ↓kinds_as ht, s1, s2, e, e2, e4, h31, h32, ofN_a1, icond_lt, icond_le, icond_gt, icond_ge, icond_eq, icond_ne, narrow_bool, true_or, or_true, if_true, if_false, cK_inl, toL_some, toL_none, psum_nil, psum_int, psum_ref, psum_null, psum_long, Nat.zero_le, Nat.reduceAdd, Nat.reduceLeDiff, kl_int, kl_ref, kl_none, kl_null, kl_long, ne_eq, not_true, not_false_eq_true]
          rw [w41_7]
          simp +decide only [↓w41_0, ↓w41_1, ↓w41_2, ↓w41_3, ↓w41_4, ↓w41_5, ↓w41_8, ↓w41_11, ↓w41_13, ↓w41_16, ↓w41_19, ↓w41_21, ↓w41_22, ↓w41_25, ↓w41_26, ↓w41_29, ↓w41_30, ↓w41_31, ↓w41_32, ↓w41_33, ↓w41_36, ↓w41_38, ↓w41_41, ↓w41_42, ↓w41_44, ↓w41_47, ↓w41_50, ↓w41_51, ↓w41_54, ↓w41_56, ↓w41_57, ↓w41_59, ↓w41_62, ↓w41_63, ↓w41_66, ↓w41_68, ↓w41_70, ↓w41_71, ↓w41_72, ↓w41_75, ↓w41_77, ↓w41_78, ↓w41_80, ↓w41_83, ↓w41_84, ↓w41_87, ↓w41_89, ↓w41_90, ↓w41_92, ↓w41_95, ↓w41_96, ↓w41_99, ↓w41_100, ↓w41_101, ↓w41_104, ↓w41_107, icond_lt, icond_le, icond_gt, icond_ge, icond_eq, icond_ne, narrow_bool, true_or, or_true, if_true, if_false, cK_inl, toL_some, toL_none, psum_nil, psum_int, psum_ref, psum_null, psum_long, Nat.zero_le, Nat.reduceAdd, Nat.reduceLeDiff, kl_int, kl_ref, kl_none, kl_null, kl_long]
        · simp +decide only [↓w41_0, ↓w41_1, ↓w41_2, ↓w41_3, ↓w41_4, ↓w41_5, ↓w41_8, ↓w41_11, ↓w41_13, ↓w41_16, ↓w41_19, ↓w41_21, ↓w41_22, ↓w41_25, ↓w41_26, ↓w41_29, ↓w41_30, ↓w41_31, ↓w41_32, ↓w41_33, ↓w41_36, ↓w41_38, ↓w41_41, ↓w41_42, ↓w41_44, ↓w41_47, ↓w41_50, ↓w41_51, ↓w41_54, ↓w41_56, ↓w41_57, ↓w41_59, ↓w41_62, ↓w41_63, ↓w41_66, ↓w41_68, ↓w41_70, ↓w41_71, ↓w41_72, ↓w41_75, ↓w41_77, ↓w41_78, ↓w41_80, ↓w41_83, ↓w41_84, ↓w41_87, ↓w41_89, ↓w41_90, ↓w41_92, ↓w41_95, ↓w41_96, ↓w41_99, ↓w41_100, ↓w41_101, ↓w41_104, ↓w41_107, ↓toks_g0, ↓toks_r, ↓tape_r, q42, q43, ↓kinds_n, ↓kinds_al ht, ↓kinds_as ht, s1, s2, e, e2, e4, h31, h32, ofN_a1, icond_lt, icond_le, icond_gt, icond_ge, icond_eq, icond_ne, narrow_bool, true_or, or_true, if_true, if_false, cK_inl, toL_some, toL_none, psum_nil, psum_int, psum_ref, psum_null, psum_long, Nat.zero_le, Nat.reduceAdd, Nat.reduceLeDiff, kl_int, kl_ref, kl_none, kl_null, kl_long, ne_eq, not_true, not_false_eq_true]
          exact fin
theorem k41 (hT : tpT S T) (hB : byT T) (h16 : T 1600 = -1) (hR : roS R) (d : Nat) (Q : PO → Prop) : Cp (d + 10) 41 [.ref 318, .ref 301] (CH c S L R) Q = Q (.inl none, CH c (scR L T 401 0 0 S L).1 (scR L T 401 0 0 S L).2 R) := by
  simp only [ce41, ↓w41_0, ↓w41_1, ↓w41_2, ↓w41_3, ↓w41_4, ↓w41_5, cK_inl, toL_some, toL_none, psum_nil, psum_int, psum_ref, psum_null, psum_long, Nat.zero_le, Nat.reduceAdd, Nat.reduceLeDiff, kl_int, kl_ref, kl_none, kl_null, kl_long]
  exact k41_loop hB h16 hR 401 0 0 S L rfl (by omega) hT (fun _ => rfl) d Q
end TOKC
