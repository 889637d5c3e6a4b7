/-! WHERE THINGS LIE IN THE REFERENCE'S HEAP -/
def SA (g : Nat) : Nat := 418 + 17 * g
def Pok (p : Nat) : Prop := p = 401 ∨ 453 ≤ p
def RP (c : Nat × Nat × Nat) (C : Nat → Option PC) (V : S3) (W : L3) (p : Nat) (P : S3) (R : Nat → Option PC) : PH := (c, fun a => if a < 395 then C a else gov tR 395 V W (gov tP p P W R) a)
theorem tR_hole : ∀ j < 16, tR[6 + j]? = some none := fun j hj => tq_eq ((by decide +kernel : ∀ j < 16, tq (tR[6 + j]?) none = true) j hj)
theorem tR_len : tR.length = 58 := by decide
theorem gov_hole {tb : List SH} {b a : Nat} {S : S3} {L : L3} {R : Nat → Option PC} (hb : b ≤ a) (h : tb[a - b]? = some none) : gov tb b S L R a = R a := by
  simp only [gov, if_pos hb, h]
section LOOKR
variable {c : Nat × Nat × Nat} {C : Nat → Option PC} {V P : S3} {W : L3} {R : Nat → Option PC} {g i l d pl : Nat} {x y : Int32} {z : Int64} {Q : PO → Prop}
theorem tR_plan (hp : Pok pl) {j : Nat} (hj : j < 16) {R' : Nat → Option PC} : gov tR 395 V W R' (pl + j) = R' (pl + j) := by
  rcases hp with rfl | hp
  · refine gov_hole (by omega) ?_
    rw [show 401 + j - 395 = 6 + j by omega]
    exact tR_hole j hj
  · exact gov_ge (by rw [tR_len]; omega)
theorem RP_st {a : Nat} (ha : 395 ≤ a) : (RP c C V W pl P R).2 a = gov tR 395 V W (gov tP pl P W R) a := if_neg (by omega)
theorem RP_pl (hp : Pok pl) {j : Nat} (hj : j < 16) {s} (ht : tP[j]? = some (some s)) : (RP c C V W pl P R).2 (pl + j) = some (cellS P W pl s) := by
  have h5 : 395 ≤ pl := by rcases hp with h | h <;> omega
  rw [RP_st (by omega), tR_plan hp hj, gov_in ht]
/-- a write into the static part -/
theorem RP_set {a : Nat} {q : PC} {V' : S3} {W' : L3} (ha : 395 ≤ a) (h : ∀ R, hset (c, gov tR 395 V W R) a q = (c, gov tR 395 V' W' R)) (hw : ∀ R, gov tP pl P W R = gov tP pl P W' R) : hset (RP c C V W pl P R) a q = RP c C V' W' pl P R := by
  refine Prod.ext rfl (funext fun k => ?_)
  have := congrFun (congrArg Prod.snd (h (gov tP pl P W R))) k
  simp only [hset] at this
  simp only [hset, RP]
  by_cases hk : k < 395
  · rw [if_neg (by omega), if_pos hk, if_pos hk]
  · rw [if_neg hk, if_neg hk, this, hw]
/-- a write into the plan -/
theorem RP_setP (hp : Pok pl) {j : Nat} (hj : j < 16) {q : PC} {P' : S3} (h : hset (c, gov tP pl P W R) (pl + j) q = (c, gov tP pl P' W R)) : hset (RP c C V W pl P R) (pl + j) q = RP c C V W pl P' R := by
  refine Prod.ext rfl (funext fun k => ?_)
  have := congrFun (congrArg Prod.snd h) k
  simp only [hset] at this
  have h5 : 395 ≤ pl := by rcases hp with h | h <;> omega
  simp only [hset, RP]
  by_cases hk : k < 395
  · rw [if_neg (by omega), if_pos hk, if_pos hk]
  rw [if_neg hk, if_neg hk]
  by_cases hkj : k = pl + j
  · subst hkj
    rw [if_pos rfl, tR_plan hp hj, ← this, if_pos rfl]
  · rw [if_neg hkj]
    rw [if_neg hkj] at this
    simp only [gov] at this ⊢
    split
    · split
      · rfl
      · exact this
    · exact this
theorem t_m0 : tR[0]? = some (some (.inl (10, [(0, 4, 200, 0), (3, 396, 0, 0), (0, 4, 201, 0), (0, 4, 202, 0), (3, 397, 0, 0), (3, 398, 0, 0), (3, 399, 0, 0), (3, 400, 0, 0), (0, 4, 203, 0), (0, 4, 204, 0), (2, 4, 206, 0), (2, 4, 207, 0), (0, 4, 205, 0), (3, 417, 0, 0), (3, 418, 0, 0), (3, 435, 0, 0)]))) := tq_eq (by decide +kernel)
theorem m0_at : (RP c C V W pl P R).2 395 = some (.inr (10, [.int (V 4 200 0), .ref (396), .int (V 4 201 0), .int (V 4 202 0), .ref (397), .ref (398), .ref (399), .ref (400), .int (V 4 203 0), .int (V 4 204 0), .ref (V 4 206 0).toNatClampNeg, .ref (V 4 207 0).toNatClampNeg, .int (V 4 205 0), .ref (417), .ref (SA 0), .ref (SA 1)])) := by
  rw [RP_st (by omega)]
  exact gov_in (b := 395) (S := V) (L := W) t_m0
theorem m0_thrown : hset (RP c C V W pl P R) 395 (.inr (10, [.int x, .ref (396), .int (V 4 201 0), .int (V 4 202 0), .ref (397), .ref (398), .ref (399), .ref (400), .int (V 4 203 0), .int (V 4 204 0), .ref (V 4 206 0).toNatClampNeg, .ref (V 4 207 0).toNatClampNeg, .int (V 4 205 0), .ref (417), .ref (SA 0), .ref (SA 1)])) = RP c C (su V 4 200 0 x) W pl P R := RP_set (by omega) (fun R => hs_fld hokR (b := 395) (k := 0) (c := c) (S := V) (L := W) (R := R) (x := x) t_m0 rfl) (fun _ => rfl)
theorem m0_size : hset (RP c C V W pl P R) 395 (.inr (10, [.int (V 4 200 0), .ref (396), .int x, .int (V 4 202 0), .ref (397), .ref (398), .ref (399), .ref (400), .int (V 4 203 0), .int (V 4 204 0), .ref (V 4 206 0).toNatClampNeg, .ref (V 4 207 0).toNatClampNeg, .int (V 4 205 0), .ref (417), .ref (SA 0), .ref (SA 1)])) = RP c C (su V 4 201 0 x) W pl P R := RP_set (by omega) (fun R => hs_fld hokR (b := 395) (k := 2) (c := c) (S := V) (L := W) (R := R) (x := x) t_m0 rfl) (fun _ => rfl)
theorem m0_erra : hset (RP c C V W pl P R) 395 (.inr (10, [.int (V 4 200 0), .ref (396), .int (V 4 201 0), .int x, .ref (397), .ref (398), .ref (399), .ref (400), .int (V 4 203 0), .int (V 4 204 0), .ref (V 4 206 0).toNatClampNeg, .ref (V 4 207 0).toNatClampNeg, .int (V 4 205 0), .ref (417), .ref (SA 0), .ref (SA 1)])) = RP c C (su V 4 202 0 x) W pl P R := RP_set (by omega) (fun R => hs_fld hokR (b := 395) (k := 3) (c := c) (S := V) (L := W) (R := R) (x := x) t_m0 rfl) (fun _ => rfl)
theorem m0_token : hset (RP c C V W pl P R) 395 (.inr (10, [.int (V 4 200 0), .ref (396), .int (V 4 201 0), .int (V 4 202 0), .ref (397), .ref (398), .ref (399), .ref (400), .int x, .int (V 4 204 0), .ref (V 4 206 0).toNatClampNeg, .ref (V 4 207 0).toNatClampNeg, .int (V 4 205 0), .ref (417), .ref (SA 0), .ref (SA 1)])) = RP c C (su V 4 203 0 x) W pl P R := RP_set (by omega) (fun R => hs_fld hokR (b := 395) (k := 8) (c := c) (S := V) (L := W) (R := R) (x := x) t_m0 rfl) (fun _ => rfl)
theorem m0_depth : hset (RP c C V W pl P R) 395 (.inr (10, [.int (V 4 200 0), .ref (396), .int (V 4 201 0), .int (V 4 202 0), .ref (397), .ref (398), .ref (399), .ref (400), .int (V 4 203 0), .int x, .ref (V 4 206 0).toNatClampNeg, .ref (V 4 207 0).toNatClampNeg, .int (V 4 205 0), .ref (417), .ref (SA 0), .ref (SA 1)])) = RP c C (su V 4 204 0 x) W pl P R := RP_set (by omega) (fun R => hs_fld hokR (b := 395) (k := 9) (c := c) (S := V) (L := W) (R := R) (x := x) t_m0 rfl) (fun _ => rfl)
theorem m0_ligs : hset (RP c C V W pl P R) 395 (.inr (10, [.int (V 4 200 0), .ref (396), .int (V 4 201 0), .int (V 4 202 0), .ref (397), .ref (398), .ref (399), .ref (400), .int (V 4 203 0), .int (V 4 204 0), .ref (V 4 206 0).toNatClampNeg, .ref (V 4 207 0).toNatClampNeg, .int x, .ref (417), .ref (SA 0), .ref (SA 1)])) = RP c C (su V 4 205 0 x) W pl P R := RP_set (by omega) (fun R => hs_fld hokR (b := 395) (k := 12) (c := c) (S := V) (L := W) (R := R) (x := x) t_m0 rfl) (fun _ => rfl)
theorem m0_plan : hset (RP c C V W pl P R) 395 (.inr (10, [.int (V 4 200 0), .ref (396), .int (V 4 201 0), .int (V 4 202 0), .ref (397), .ref (398), .ref (399), .ref (400), .int (V 4 203 0), .int (V 4 204 0), .ref x.toNatClampNeg, .ref (V 4 207 0).toNatClampNeg, .int (V 4 205 0), .ref (417), .ref (SA 0), .ref (SA 1)])) = RP c C (su V 4 206 0 x) W pl P R := RP_set (by omega) (fun R => hs_ref hokR (b := 395) (k := 10) (c := c) (S := V) (L := W) (R := R) (x := x) t_m0 rfl) (fun _ => rfl)
theorem m0_reading : hset (RP c C V W pl P R) 395 (.inr (10, [.int (V 4 200 0), .ref (396), .int (V 4 201 0), .int (V 4 202 0), .ref (397), .ref (398), .ref (399), .ref (400), .int (V 4 203 0), .int (V 4 204 0), .ref (V 4 206 0).toNatClampNeg, .ref x.toNatClampNeg, .int (V 4 205 0), .ref (417), .ref (SA 0), .ref (SA 1)])) = RP c C (su V 4 207 0 x) W pl P R := RP_set (by omega) (fun R => hs_ref hokR (b := 395) (k := 11) (c := c) (S := V) (L := W) (R := R) (x := x) t_m0 rfl) (fun _ => rfl)
theorem m0_g0  {K : Value → Prop} : gP ((RP c C V W pl P R).2 (395)) 10 0 K = K (.int (V 4 200 0)) := by
  rw [m0_at ]
  rfl
theorem m0_g1  {K : Value → Prop} : gP ((RP c C V W pl P R).2 (395)) 10 1 K = K (.ref (396)) := by
  rw [m0_at ]
  rfl
theorem m0_g2  {K : Value → Prop} : gP ((RP c C V W pl P R).2 (395)) 10 2 K = K (.int (V 4 201 0)) := by
  rw [m0_at ]
  rfl
theorem m0_g3  {K : Value → Prop} : gP ((RP c C V W pl P R).2 (395)) 10 3 K = K (.int (V 4 202 0)) := by
  rw [m0_at ]
  rfl
theorem m0_g4  {K : Value → Prop} : gP ((RP c C V W pl P R).2 (395)) 10 4 K = K (.ref (397)) := by
  rw [m0_at ]
  rfl
theorem m0_g5  {K : Value → Prop} : gP ((RP c C V W pl P R).2 (395)) 10 5 K = K (.ref (398)) := by
  rw [m0_at ]
  rfl
theorem m0_g6  {K : Value → Prop} : gP ((RP c C V W pl P R).2 (395)) 10 6 K = K (.ref (399)) := by
  rw [m0_at ]
  rfl
theorem m0_g7  {K : Value → Prop} : gP ((RP c C V W pl P R).2 (395)) 10 7 K = K (.ref (400)) := by
  rw [m0_at ]
  rfl
theorem m0_g8  {K : Value → Prop} : gP ((RP c C V W pl P R).2 (395)) 10 8 K = K (.int (V 4 203 0)) := by
  rw [m0_at ]
  rfl
theorem m0_g9  {K : Value → Prop} : gP ((RP c C V W pl P R).2 (395)) 10 9 K = K (.int (V 4 204 0)) := by
  rw [m0_at ]
  rfl
theorem m0_g10  {K : Value → Prop} : gP ((RP c C V W pl P R).2 (395)) 10 10 K = K (.ref (V 4 206 0).toNatClampNeg) := by
  rw [m0_at ]
  rfl
theorem m0_g11  {K : Value → Prop} : gP ((RP c C V W pl P R).2 (395)) 10 11 K = K (.ref (V 4 207 0).toNatClampNeg) := by
  rw [m0_at ]
  rfl
theorem m0_g12  {K : Value → Prop} : gP ((RP c C V W pl P R).2 (395)) 10 12 K = K (.int (V 4 205 0)) := by
  rw [m0_at ]
  rfl
theorem m0_g13  {K : Value → Prop} : gP ((RP c C V W pl P R).2 (395)) 10 13 K = K (.ref (417)) := by
  rw [m0_at ]
  rfl
theorem m0_g14  {K : Value → Prop} : gP ((RP c C V W pl P R).2 (395)) 10 14 K = K (.ref (SA 0)) := by
  rw [m0_at ]
  rfl
theorem m0_g15  {K : Value → Prop} : gP ((RP c C V W pl P R).2 (395)) 10 15 K = K (.ref (SA 1)) := by
  rw [m0_at ]
  rfl
theorem m0_r  {X : Prop} : rP ((RP c C V W pl P R).2 (395)) 10 X = X := by
  rw [m0_at ]
  exact rP_mk
theorem m0_p0  {j pc : Nat} {ls : PL} {st : List Value} : pP ((RP c C V W pl P R).2 (395)) 10 0 (ftOf 10 0) (.int x) (395) (fun q => Wp d j pc ls st (hset (RP c C V W pl P R) (395) q) Q) = Wp d j pc ls st (RP c C (su V 4 200 0 x) W pl P R) Q := by
  rw [m0_at , ft10_0, pP_int (by omega) (by simp)]
  simp only [List.set_cons_zero, List.set_cons_succ]
  rw [m0_thrown]
theorem m0_p2  {j pc : Nat} {ls : PL} {st : List Value} : pP ((RP c C V W pl P R).2 (395)) 10 2 (ftOf 10 2) (.int x) (395) (fun q => Wp d j pc ls st (hset (RP c C V W pl P R) (395) q) Q) = Wp d j pc ls st (RP c C (su V 4 201 0 x) W pl P R) Q := by
  rw [m0_at , ft10_2, pP_int (by omega) (by simp)]
  simp only [List.set_cons_zero, List.set_cons_succ]
  rw [m0_size]
theorem m0_p3  {j pc : Nat} {ls : PL} {st : List Value} : pP ((RP c C V W pl P R).2 (395)) 10 3 (ftOf 10 3) (.int x) (395) (fun q => Wp d j pc ls st (hset (RP c C V W pl P R) (395) q) Q) = Wp d j pc ls st (RP c C (su V 4 202 0 x) W pl P R) Q := by
  rw [m0_at , ft10_3, pP_int (by omega) (by simp)]
  simp only [List.set_cons_zero, List.set_cons_succ]
  rw [m0_erra]
theorem m0_p8  {j pc : Nat} {ls : PL} {st : List Value} : pP ((RP c C V W pl P R).2 (395)) 10 8 (ftOf 10 8) (.int x) (395) (fun q => Wp d j pc ls st (hset (RP c C V W pl P R) (395) q) Q) = Wp d j pc ls st (RP c C (su V 4 203 0 x) W pl P R) Q := by
  rw [m0_at , ft10_8, pP_int (by omega) (by simp)]
  simp only [List.set_cons_zero, List.set_cons_succ]
  rw [m0_token]
theorem m0_p9  {j pc : Nat} {ls : PL} {st : List Value} : pP ((RP c C V W pl P R).2 (395)) 10 9 (ftOf 10 9) (.int x) (395) (fun q => Wp d j pc ls st (hset (RP c C V W pl P R) (395) q) Q) = Wp d j pc ls st (RP c C (su V 4 204 0 x) W pl P R) Q := by
  rw [m0_at , ft10_9, pP_int (by omega) (by simp)]
  simp only [List.set_cons_zero, List.set_cons_succ]
  rw [m0_depth]
theorem m0_p12  {j pc : Nat} {ls : PL} {st : List Value} : pP ((RP c C V W pl P R).2 (395)) 10 12 (ftOf 10 12) (.int x) (395) (fun q => Wp d j pc ls st (hset (RP c C V W pl P R) (395) q) Q) = Wp d j pc ls st (RP c C (su V 4 205 0 x) W pl P R) Q := by
  rw [m0_at , ft10_12, pP_int (by omega) (by simp)]
  simp only [List.set_cons_zero, List.set_cons_succ]
  rw [m0_ligs]
theorem m0_p10  {j pc : Nat} {ls : PL} {st : List Value} : pP ((RP c C V W pl P R).2 (395)) 10 10 (ftOf 10 10) (.ref x.toNatClampNeg) (395) (fun q => Wp d j pc ls st (hset (RP c C V W pl P R) (395) q) Q) = Wp d j pc ls st (RP c C (su V 4 206 0 x) W pl P R) Q := by
  rw [m0_at , ft10_10, pP_obj (by omega) (by simp)]
  simp only [List.set_cons_zero, List.set_cons_succ]
  rw [m0_plan]
theorem m0_p11  {j pc : Nat} {ls : PL} {st : List Value} : pP ((RP c C V W pl P R).2 (395)) 10 11 (ftOf 10 11) (.ref x.toNatClampNeg) (395) (fun q => Wp d j pc ls st (hset (RP c C V W pl P R) (395) q) Q) = Wp d j pc ls st (RP c C (su V 4 207 0 x) W pl P R) Q := by
  rw [m0_at , ft10_11, pP_obj (by omega) (by simp)]
  simp only [List.set_cons_zero, List.set_cons_succ]
  rw [m0_reading]
theorem asP_mk3 {n a : Nat} {f : Nat → Int32} {i x : Int32} {K : PC → Prop} (ha : 300 ≤ a) (hx : x = 0 ∨ x = 1) (hi : inB i n = true) : asP true (some (.inl (3, n, .inl f))) a i x K = K (.inl (3, n, .inl (upd f i.toNatClampNeg x))) := by
  rcases hx with rfl | rfl <;> exact if_pos ⟨ha, rfl, hi⟩
theorem t_m_tape : tR[1]? = some (some (.inr (0, 1600, (0, 4, 210, 0)))) := tq_eq (by decide +kernel)
theorem m_tape_at : (RP c C V W pl P R).2 396 = some (.inl (0, 1600, .inl (V 4 210))) := by
  rw [RP_st (by omega)]
  exact gov_in (b := 395) (S := V) (L := W) t_m_tape
theorem m_tape_wr {k : Nat} : hset (RP c C V W pl P R) 396 (.inl (0, 1600, .inl (upd (V 4 210) k x))) = RP c C (su V 4 210 k x) W pl P R := RP_set (by omega) (fun R => hs_row1 hokR (b := 395) (c := c) (S := V) (L := W) (R := R) (x := x) (i := k) t_m_tape) (fun _ => rfl)
theorem m_tape_a  (hi : i < 1600) {K : Int32 → Prop} : aP false ((RP c C V W pl P R).2 (396)) (Int32.ofNat i) K = K (V 4 210 i) := by
  rw [m_tape_at , aP_mk (inB_nat hi (by omega)), tN_nat (by omega)]
theorem m_tape_n  {K : Int32 → Prop} : nP ((RP c C V W pl P R).2 (396)) K = K 1600 := by
  rw [m_tape_at ]
  rfl
theorem m_tape_s  (hi : i < 1600) {j pc : Nat} {ls : PL} {st : List Value} : asP false ((RP c C V W pl P R).2 (396)) (396) (Int32.ofNat i) x (fun q => Wp d j pc ls st (hset (RP c C V W pl P R) (396) q) Q) = Wp d j pc ls st (RP c C (su V 4 210 i x) W pl P R) Q := by
  rw [m_tape_at , asP_mk (by omega) (inB_nat hi (by omega)), tN_nat (by omega), m_tape_wr ]
theorem t_m_kind : tR[2]? = some (some (.inr (0, 401, (0, 4, 211, 0)))) := tq_eq (by decide +kernel)
theorem m_kind_at : (RP c C V W pl P R).2 397 = some (.inl (0, 401, .inl (V 4 211))) := by
  rw [RP_st (by omega)]
  exact gov_in (b := 395) (S := V) (L := W) t_m_kind
theorem m_kind_wr {k : Nat} : hset (RP c C V W pl P R) 397 (.inl (0, 401, .inl (upd (V 4 211) k x))) = RP c C (su V 4 211 k x) W pl P R := RP_set (by omega) (fun R => hs_row1 hokR (b := 395) (c := c) (S := V) (L := W) (R := R) (x := x) (i := k) t_m_kind) (fun _ => rfl)
theorem m_kind_a  (hi : i < 401) {K : Int32 → Prop} : aP false ((RP c C V W pl P R).2 (397)) (Int32.ofNat i) K = K (V 4 211 i) := by
  rw [m_kind_at , aP_mk (inB_nat hi (by omega)), tN_nat (by omega)]
theorem m_kind_n  {K : Int32 → Prop} : nP ((RP c C V W pl P R).2 (397)) K = K 401 := by
  rw [m_kind_at ]
  rfl
theorem m_kind_s  (hi : i < 401) {j pc : Nat} {ls : PL} {st : List Value} : asP false ((RP c C V W pl P R).2 (397)) (397) (Int32.ofNat i) x (fun q => Wp d j pc ls st (hset (RP c C V W pl P R) (397) q) Q) = Wp d j pc ls st (RP c C (su V 4 211 i x) W pl P R) Q := by
  rw [m_kind_at , asP_mk (by omega) (inB_nat hi (by omega)), tN_nat (by omega), m_kind_wr ]
theorem t_m_from : tR[3]? = some (some (.inr (0, 401, (0, 4, 212, 0)))) := tq_eq (by decide +kernel)
theorem m_from_at : (RP c C V W pl P R).2 398 = some (.inl (0, 401, .inl (V 4 212))) := by
  rw [RP_st (by omega)]
  exact gov_in (b := 395) (S := V) (L := W) t_m_from
theorem m_from_wr {k : Nat} : hset (RP c C V W pl P R) 398 (.inl (0, 401, .inl (upd (V 4 212) k x))) = RP c C (su V 4 212 k x) W pl P R := RP_set (by omega) (fun R => hs_row1 hokR (b := 395) (c := c) (S := V) (L := W) (R := R) (x := x) (i := k) t_m_from) (fun _ => rfl)
theorem m_from_a  (hi : i < 401) {K : Int32 → Prop} : aP false ((RP c C V W pl P R).2 (398)) (Int32.ofNat i) K = K (V 4 212 i) := by
  rw [m_from_at , aP_mk (inB_nat hi (by omega)), tN_nat (by omega)]
theorem m_from_n  {K : Int32 → Prop} : nP ((RP c C V W pl P R).2 (398)) K = K 401 := by
  rw [m_from_at ]
  rfl
theorem m_from_s  (hi : i < 401) {j pc : Nat} {ls : PL} {st : List Value} : asP false ((RP c C V W pl P R).2 (398)) (398) (Int32.ofNat i) x (fun q => Wp d j pc ls st (hset (RP c C V W pl P R) (398) q) Q) = Wp d j pc ls st (RP c C (su V 4 212 i x) W pl P R) Q := by
  rw [m_from_at , asP_mk (by omega) (inB_nat hi (by omega)), tN_nat (by omega), m_from_wr ]
theorem t_m_many : tR[4]? = some (some (.inr (0, 401, (0, 4, 213, 0)))) := tq_eq (by decide +kernel)
theorem m_many_at : (RP c C V W pl P R).2 399 = some (.inl (0, 401, .inl (V 4 213))) := by
  rw [RP_st (by omega)]
  exact gov_in (b := 395) (S := V) (L := W) t_m_many
theorem m_many_wr {k : Nat} : hset (RP c C V W pl P R) 399 (.inl (0, 401, .inl (upd (V 4 213) k x))) = RP c C (su V 4 213 k x) W pl P R := RP_set (by omega) (fun R => hs_row1 hokR (b := 395) (c := c) (S := V) (L := W) (R := R) (x := x) (i := k) t_m_many) (fun _ => rfl)
theorem m_many_a  (hi : i < 401) {K : Int32 → Prop} : aP false ((RP c C V W pl P R).2 (399)) (Int32.ofNat i) K = K (V 4 213 i) := by
  rw [m_many_at , aP_mk (inB_nat hi (by omega)), tN_nat (by omega)]
theorem m_many_n  {K : Int32 → Prop} : nP ((RP c C V W pl P R).2 (399)) K = K 401 := by
  rw [m_many_at ]
  rfl
theorem m_many_s  (hi : i < 401) {j pc : Nat} {ls : PL} {st : List Value} : asP false ((RP c C V W pl P R).2 (399)) (399) (Int32.ofNat i) x (fun q => Wp d j pc ls st (hset (RP c C V W pl P R) (399) q) Q) = Wp d j pc ls st (RP c C (su V 4 213 i x) W pl P R) Q := by
  rw [m_many_at , asP_mk (by omega) (inB_nat hi (by omega)), tN_nat (by omega), m_many_wr ]
theorem t_m_role : tR[5]? = some (some (.inr (0, 401, (0, 4, 214, 0)))) := tq_eq (by decide +kernel)
theorem m_role_at : (RP c C V W pl P R).2 400 = some (.inl (0, 401, .inl (V 4 214))) := by
  rw [RP_st (by omega)]
  exact gov_in (b := 395) (S := V) (L := W) t_m_role
theorem m_role_wr {k : Nat} : hset (RP c C V W pl P R) 400 (.inl (0, 401, .inl (upd (V 4 214) k x))) = RP c C (su V 4 214 k x) W pl P R := RP_set (by omega) (fun R => hs_row1 hokR (b := 395) (c := c) (S := V) (L := W) (R := R) (x := x) (i := k) t_m_role) (fun _ => rfl)
theorem m_role_a  (hi : i < 401) {K : Int32 → Prop} : aP false ((RP c C V W pl P R).2 (400)) (Int32.ofNat i) K = K (V 4 214 i) := by
  rw [m_role_at , aP_mk (inB_nat hi (by omega)), tN_nat (by omega)]
theorem m_role_n  {K : Int32 → Prop} : nP ((RP c C V W pl P R).2 (400)) K = K 401 := by
  rw [m_role_at ]
  rfl
theorem m_role_s  (hi : i < 401) {j pc : Nat} {ls : PL} {st : List Value} : asP false ((RP c C V W pl P R).2 (400)) (400) (Int32.ofNat i) x (fun q => Wp d j pc ls st (hset (RP c C V W pl P R) (400) q) Q) = Wp d j pc ls st (RP c C (su V 4 214 i x) W pl P R) Q := by
  rw [m_role_at , asP_mk (by omega) (inB_nat hi (by omega)), tN_nat (by omega), m_role_wr ]
theorem t_m_hired : tR[22]? = some (some (.inr (0, 3, (0, 4, 215, 0)))) := tq_eq (by decide +kernel)
theorem m_hired_at : (RP c C V W pl P R).2 417 = some (.inl (0, 3, .inl (V 4 215))) := by
  rw [RP_st (by omega)]
  exact gov_in (b := 395) (S := V) (L := W) t_m_hired
theorem m_hired_wr {k : Nat} : hset (RP c C V W pl P R) 417 (.inl (0, 3, .inl (upd (V 4 215) k x))) = RP c C (su V 4 215 k x) W pl P R := RP_set (by omega) (fun R => hs_row1 hokR (b := 395) (c := c) (S := V) (L := W) (R := R) (x := x) (i := k) t_m_hired) (fun _ => rfl)
theorem m_hired_a  (hi : i < 3) {K : Int32 → Prop} : aP false ((RP c C V W pl P R).2 (417)) (Int32.ofNat i) K = K (V 4 215 i) := by
  rw [m_hired_at , aP_mk (inB_nat hi (by omega)), tN_nat (by omega)]
theorem m_hired_n  {K : Int32 → Prop} : nP ((RP c C V W pl P R).2 (417)) K = K 3 := by
  rw [m_hired_at ]
  rfl
theorem m_hired_s  (hi : i < 3) {j pc : Nat} {ls : PL} {st : List Value} : asP false ((RP c C V W pl P R).2 (417)) (417) (Int32.ofNat i) x (fun q => Wp d j pc ls st (hset (RP c C V W pl P R) (417) q) Q) = Wp d j pc ls st (RP c C (su V 4 215 i x) W pl P R) Q := by
  rw [m_hired_at , asP_mk (by omega) (inB_nat hi (by omega)), tN_nat (by omega), m_hired_wr ]
theorem t_s0 : tR[23]? = some (some (.inl (9, [(0, 0, 0, 0), (0, 0, 1, 0), (0, 0, 3, 0), (0, 0, 2, 0), (3, 419, 0, 0), (3, 420, 0, 0), (3, 421, 0, 0), (3, 422, 0, 0), (3, 423, 0, 0), (3, 424, 0, 0), (3, 425, 0, 0), (3, 426, 0, 0), (3, 427, 0, 0), (3, 428, 0, 0), (3, 429, 0, 0), (3, 430, 0, 0), (3, 431, 0, 0), (3, 432, 0, 0), (3, 433, 0, 0), (3, 434, 0, 0), (3, 395, 0, 0)]))) := tq_eq (by decide +kernel)
theorem t_s1 : tR[40]? = some (some (.inl (9, [(0, 1, 0, 0), (0, 1, 1, 0), (0, 1, 3, 0), (0, 1, 2, 0), (3, 436, 0, 0), (3, 437, 0, 0), (3, 438, 0, 0), (3, 439, 0, 0), (3, 440, 0, 0), (3, 441, 0, 0), (3, 442, 0, 0), (3, 443, 0, 0), (3, 444, 0, 0), (3, 445, 0, 0), (3, 446, 0, 0), (3, 447, 0, 0), (3, 448, 0, 0), (3, 449, 0, 0), (3, 450, 0, 0), (3, 451, 0, 0), (3, 395, 0, 0)]))) := tq_eq (by decide +kernel)
theorem s_at (hg : g < 2) : (RP c C V W pl P R).2 (SA g) = some (.inr (9, [.int (V g 0 0), .int (V g 1 0), .int (V g 3 0), .int (V g 2 0), .ref (SA g + 1), .ref (SA g + 2), .ref (SA g + 3), .ref (SA g + 4), .ref (SA g + 5), .ref (SA g + 6), .ref (SA g + 7), .ref (SA g + 8), .ref (SA g + 9), .ref (SA g + 10), .ref (SA g + 11), .ref (SA g + 12), .ref (SA g + 13), .ref (SA g + 14), .ref (SA g + 15), .ref (SA g + 16), .ref 395])) := by
  rw [RP_st (by unfold SA; omega)]
  obtain rfl | rfl : g = 0 ∨ g = 1 := by omega
  · exact gov_in (b := 395) (S := V) (L := W) t_s0
  · exact gov_in (b := 395) (S := V) (L := W) t_s1
theorem s_night (hg : g < 2) : hset (RP c C V W pl P R) (SA g) (.inr (9, [.int x, .int (V g 1 0), .int (V g 3 0), .int (V g 2 0), .ref (SA g + 1), .ref (SA g + 2), .ref (SA g + 3), .ref (SA g + 4), .ref (SA g + 5), .ref (SA g + 6), .ref (SA g + 7), .ref (SA g + 8), .ref (SA g + 9), .ref (SA g + 10), .ref (SA g + 11), .ref (SA g + 12), .ref (SA g + 13), .ref (SA g + 14), .ref (SA g + 15), .ref (SA g + 16), .ref 395])) = RP c C (su V g 0 0 x) W pl P R := by
  obtain rfl | rfl : g = 0 ∨ g = 1 := by omega
  · exact RP_set (by decide) (fun R => hs_fld hokR (b := 395) (k := 0) (c := c) (S := V) (L := W) (R := R) (x := x) t_s0 rfl) (fun _ => rfl)
  · exact RP_set (by decide) (fun R => hs_fld hokR (b := 395) (k := 0) (c := c) (S := V) (L := W) (R := R) (x := x) t_s1 rfl) (fun _ => rfl)
theorem s_quarter (hg : g < 2) : hset (RP c C V W pl P R) (SA g) (.inr (9, [.int (V g 0 0), .int x, .int (V g 3 0), .int (V g 2 0), .ref (SA g + 1), .ref (SA g + 2), .ref (SA g + 3), .ref (SA g + 4), .ref (SA g + 5), .ref (SA g + 6), .ref (SA g + 7), .ref (SA g + 8), .ref (SA g + 9), .ref (SA g + 10), .ref (SA g + 11), .ref (SA g + 12), .ref (SA g + 13), .ref (SA g + 14), .ref (SA g + 15), .ref (SA g + 16), .ref 395])) = RP c C (su V g 1 0 x) W pl P R := by
  obtain rfl | rfl : g = 0 ∨ g = 1 := by omega
  · exact RP_set (by decide) (fun R => hs_fld hokR (b := 395) (k := 1) (c := c) (S := V) (L := W) (R := R) (x := x) t_s0 rfl) (fun _ => rfl)
  · exact RP_set (by decide) (fun R => hs_fld hokR (b := 395) (k := 1) (c := c) (S := V) (L := W) (R := R) (x := x) t_s1 rfl) (fun _ => rfl)
theorem s_cloudy (hg : g < 2) : hset (RP c C V W pl P R) (SA g) (.inr (9, [.int (V g 0 0), .int (V g 1 0), .int x, .int (V g 2 0), .ref (SA g + 1), .ref (SA g + 2), .ref (SA g + 3), .ref (SA g + 4), .ref (SA g + 5), .ref (SA g + 6), .ref (SA g + 7), .ref (SA g + 8), .ref (SA g + 9), .ref (SA g + 10), .ref (SA g + 11), .ref (SA g + 12), .ref (SA g + 13), .ref (SA g + 14), .ref (SA g + 15), .ref (SA g + 16), .ref 395])) = RP c C (su V g 3 0 x) W pl P R := by
  obtain rfl | rfl : g = 0 ∨ g = 1 := by omega
  · exact RP_set (by decide) (fun R => hs_fld hokR (b := 395) (k := 2) (c := c) (S := V) (L := W) (R := R) (x := x) t_s0 rfl) (fun _ => rfl)
  · exact RP_set (by decide) (fun R => hs_fld hokR (b := 395) (k := 2) (c := c) (S := V) (L := W) (R := R) (x := x) t_s1 rfl) (fun _ => rfl)
theorem s_burnt (hg : g < 2) : hset (RP c C V W pl P R) (SA g) (.inr (9, [.int (V g 0 0), .int (V g 1 0), .int (V g 3 0), .int x, .ref (SA g + 1), .ref (SA g + 2), .ref (SA g + 3), .ref (SA g + 4), .ref (SA g + 5), .ref (SA g + 6), .ref (SA g + 7), .ref (SA g + 8), .ref (SA g + 9), .ref (SA g + 10), .ref (SA g + 11), .ref (SA g + 12), .ref (SA g + 13), .ref (SA g + 14), .ref (SA g + 15), .ref (SA g + 16), .ref 395])) = RP c C (su V g 2 0 x) W pl P R := by
  obtain rfl | rfl : g = 0 ∨ g = 1 := by omega
  · exact RP_set (by decide) (fun R => hs_fld hokR (b := 395) (k := 3) (c := c) (S := V) (L := W) (R := R) (x := x) t_s0 rfl) (fun _ => rfl)
  · exact RP_set (by decide) (fun R => hs_fld hokR (b := 395) (k := 3) (c := c) (S := V) (L := W) (R := R) (x := x) t_s1 rfl) (fun _ => rfl)
theorem s_g0 (hg : g < 2) {K : Value → Prop} : gP ((RP c C V W pl P R).2 (SA g)) 9 0 K = K (.int (V g 0 0)) := by
  rw [s_at hg]
  rfl
theorem s_g1 (hg : g < 2) {K : Value → Prop} : gP ((RP c C V W pl P R).2 (SA g)) 9 1 K = K (.int (V g 1 0)) := by
  rw [s_at hg]
  rfl
theorem s_g2 (hg : g < 2) {K : Value → Prop} : gP ((RP c C V W pl P R).2 (SA g)) 9 2 K = K (.int (V g 3 0)) := by
  rw [s_at hg]
  rfl
theorem s_g3 (hg : g < 2) {K : Value → Prop} : gP ((RP c C V W pl P R).2 (SA g)) 9 3 K = K (.int (V g 2 0)) := by
  rw [s_at hg]
  rfl
theorem s_g4 (hg : g < 2) {K : Value → Prop} : gP ((RP c C V W pl P R).2 (SA g)) 9 4 K = K (.ref (SA g + 1)) := by
  rw [s_at hg]
  rfl
theorem s_g5 (hg : g < 2) {K : Value → Prop} : gP ((RP c C V W pl P R).2 (SA g)) 9 5 K = K (.ref (SA g + 2)) := by
  rw [s_at hg]
  rfl
theorem s_g6 (hg : g < 2) {K : Value → Prop} : gP ((RP c C V W pl P R).2 (SA g)) 9 6 K = K (.ref (SA g + 3)) := by
  rw [s_at hg]
  rfl
theorem s_g7 (hg : g < 2) {K : Value → Prop} : gP ((RP c C V W pl P R).2 (SA g)) 9 7 K = K (.ref (SA g + 4)) := by
  rw [s_at hg]
  rfl
theorem s_g8 (hg : g < 2) {K : Value → Prop} : gP ((RP c C V W pl P R).2 (SA g)) 9 8 K = K (.ref (SA g + 5)) := by
  rw [s_at hg]
  rfl
theorem s_g9 (hg : g < 2) {K : Value → Prop} : gP ((RP c C V W pl P R).2 (SA g)) 9 9 K = K (.ref (SA g + 6)) := by
  rw [s_at hg]
  rfl
theorem s_g10 (hg : g < 2) {K : Value → Prop} : gP ((RP c C V W pl P R).2 (SA g)) 9 10 K = K (.ref (SA g + 7)) := by
  rw [s_at hg]
  rfl
theorem s_g11 (hg : g < 2) {K : Value → Prop} : gP ((RP c C V W pl P R).2 (SA g)) 9 11 K = K (.ref (SA g + 8)) := by
  rw [s_at hg]
  rfl
theorem s_g12 (hg : g < 2) {K : Value → Prop} : gP ((RP c C V W pl P R).2 (SA g)) 9 12 K = K (.ref (SA g + 9)) := by
  rw [s_at hg]
  rfl
theorem s_g13 (hg : g < 2) {K : Value → Prop} : gP ((RP c C V W pl P R).2 (SA g)) 9 13 K = K (.ref (SA g + 10)) := by
  rw [s_at hg]
  rfl
theorem s_g14 (hg : g < 2) {K : Value → Prop} : gP ((RP c C V W pl P R).2 (SA g)) 9 14 K = K (.ref (SA g + 11)) := by
  rw [s_at hg]
  rfl
theorem s_g15 (hg : g < 2) {K : Value → Prop} : gP ((RP c C V W pl P R).2 (SA g)) 9 15 K = K (.ref (SA g + 12)) := by
  rw [s_at hg]
  rfl
theorem s_g16 (hg : g < 2) {K : Value → Prop} : gP ((RP c C V W pl P R).2 (SA g)) 9 16 K = K (.ref (SA g + 13)) := by
  rw [s_at hg]
  rfl
theorem s_g17 (hg : g < 2) {K : Value → Prop} : gP ((RP c C V W pl P R).2 (SA g)) 9 17 K = K (.ref (SA g + 14)) := by
  rw [s_at hg]
  rfl
theorem s_g18 (hg : g < 2) {K : Value → Prop} : gP ((RP c C V W pl P R).2 (SA g)) 9 18 K = K (.ref (SA g + 15)) := by
  rw [s_at hg]
  rfl
theorem s_g19 (hg : g < 2) {K : Value → Prop} : gP ((RP c C V W pl P R).2 (SA g)) 9 19 K = K (.ref (SA g + 16)) := by
  rw [s_at hg]
  rfl
theorem s_g20 (hg : g < 2) {K : Value → Prop} : gP ((RP c C V W pl P R).2 (SA g)) 9 20 K = K (.ref 395) := by
  rw [s_at hg]
  rfl
theorem s_r (hg : g < 2) {X : Prop} : rP ((RP c C V W pl P R).2 (SA g)) 9 X = X := by
  rw [s_at hg]
  exact rP_mk
theorem s_p0 (hg : g < 2) {j pc : Nat} {ls : PL} {st : List Value} : pP ((RP c C V W pl P R).2 (SA g)) 9 0 (ftOf 9 0) (.int x) (SA g) (fun q => Wp d j pc ls st (hset (RP c C V W pl P R) (SA g) q) Q) = Wp d j pc ls st (RP c C (su V g 0 0 x) W pl P R) Q := by
  rw [s_at hg, ft9_0, pP_int (by unfold SA; omega) (by simp)]
  simp only [List.set_cons_zero, List.set_cons_succ]
  rw [s_night hg]
theorem s_p1 (hg : g < 2) {j pc : Nat} {ls : PL} {st : List Value} : pP ((RP c C V W pl P R).2 (SA g)) 9 1 (ftOf 9 1) (.int x) (SA g) (fun q => Wp d j pc ls st (hset (RP c C V W pl P R) (SA g) q) Q) = Wp d j pc ls st (RP c C (su V g 1 0 x) W pl P R) Q := by
  rw [s_at hg, ft9_1, pP_int (by unfold SA; omega) (by simp)]
  simp only [List.set_cons_zero, List.set_cons_succ]
  rw [s_quarter hg]
theorem s_p2 (hg : g < 2) (hx : x = 0 ∨ x = 1) {j pc : Nat} {ls : PL} {st : List Value} : pP ((RP c C V W pl P R).2 (SA g)) 9 2 (ftOf 9 2) (.int x) (SA g) (fun q => Wp d j pc ls st (hset (RP c C V W pl P R) (SA g) q) Q) = Wp d j pc ls st (RP c C (su V g 3 0 x) W pl P R) Q := by
  rw [s_at hg, ft9_2, pP_bool (by unfold SA; omega) (by simp) hx]
  simp only [List.set_cons_zero, List.set_cons_succ]
  rw [s_cloudy hg]
theorem s_p3 (hg : g < 2) {j pc : Nat} {ls : PL} {st : List Value} : pP ((RP c C V W pl P R).2 (SA g)) 9 3 (ftOf 9 3) (.int x) (SA g) (fun q => Wp d j pc ls st (hset (RP c C V W pl P R) (SA g) q) Q) = Wp d j pc ls st (RP c C (su V g 2 0 x) W pl P R) Q := by
  rw [s_at hg, ft9_3, pP_int (by unfold SA; omega) (by simp)]
  simp only [List.set_cons_zero, List.set_cons_succ]
  rw [s_burnt hg]
theorem t_s_oil0 : tR[24]? = some (some (.inr (0, 10, (0, 0, 5, 0)))) := tq_eq (by decide +kernel)
theorem t_s_oil1 : tR[41]? = some (some (.inr (0, 10, (0, 1, 5, 0)))) := tq_eq (by decide +kernel)
theorem s_oil_at (hg : g < 2) : (RP c C V W pl P R).2 (SA g + 1) = some (.inl (0, 10, .inl (V g 5))) := by
  rw [RP_st (by unfold SA; omega)]
  obtain rfl | rfl : g = 0 ∨ g = 1 := by omega
  · exact gov_in (b := 395) (S := V) (L := W) t_s_oil0
  · exact gov_in (b := 395) (S := V) (L := W) t_s_oil1
theorem s_oil_wr (hg : g < 2) {k : Nat} : hset (RP c C V W pl P R) (SA g + 1) (.inl (0, 10, .inl (upd (V g 5) k x))) = RP c C (su V g 5 k x) W pl P R := by
  obtain rfl | rfl : g = 0 ∨ g = 1 := by omega
  · exact RP_set (by decide) (fun R => hs_row1 hokR (b := 395) (c := c) (S := V) (L := W) (R := R) (x := x) (i := k) t_s_oil0) (fun _ => rfl)
  · exact RP_set (by decide) (fun R => hs_row1 hokR (b := 395) (c := c) (S := V) (L := W) (R := R) (x := x) (i := k) t_s_oil1) (fun _ => rfl)
theorem s_oil_wf (hg : g < 2) {f : Nat → Int32} : hset (RP c C V W pl P R) (SA g + 1) (.inl (0, 10, .inl f)) = RP c C (sr V g 5 f) W pl P R := by
  obtain rfl | rfl : g = 0 ∨ g = 1 := by omega
  · exact RP_set (by decide) (fun R => hs_row hokR (b := 395) (c := c) (S := V) (L := W) (R := R) t_s_oil0) (fun _ => rfl)
  · exact RP_set (by decide) (fun R => hs_row hokR (b := 395) (c := c) (S := V) (L := W) (R := R) t_s_oil1) (fun _ => rfl)
theorem s_oil_a (hg : g < 2) (hi : i < 10) {K : Int32 → Prop} : aP false ((RP c C V W pl P R).2 (SA g + 1)) (Int32.ofNat i) K = K (V g 5 i) := by
  rw [s_oil_at hg, aP_mk (inB_nat hi (by omega)), tN_nat (by omega)]
theorem s_oil_n (hg : g < 2) {K : Int32 → Prop} : nP ((RP c C V W pl P R).2 (SA g + 1)) K = K 10 := by
  rw [s_oil_at hg]
  rfl
theorem s_oil_s (hg : g < 2) (hi : i < 10) {j pc : Nat} {ls : PL} {st : List Value} : asP false ((RP c C V W pl P R).2 (SA g + 1)) (SA g + 1) (Int32.ofNat i) x (fun q => Wp d j pc ls st (hset (RP c C V W pl P R) (SA g + 1) q) Q) = Wp d j pc ls st (RP c C (su V g 5 i x) W pl P R) Q := by
  rw [s_oil_at hg, asP_mk (by unfold SA; omega) (inB_nat hi (by omega)), tN_nat (by omega), s_oil_wr hg]
theorem t_s_wick0 : tR[25]? = some (some (.inr (0, 10, (0, 0, 6, 0)))) := tq_eq (by decide +kernel)
theorem t_s_wick1 : tR[42]? = some (some (.inr (0, 10, (0, 1, 6, 0)))) := tq_eq (by decide +kernel)
theorem s_wick_at (hg : g < 2) : (RP c C V W pl P R).2 (SA g + 2) = some (.inl (0, 10, .inl (V g 6))) := by
  rw [RP_st (by unfold SA; omega)]
  obtain rfl | rfl : g = 0 ∨ g = 1 := by omega
  · exact gov_in (b := 395) (S := V) (L := W) t_s_wick0
  · exact gov_in (b := 395) (S := V) (L := W) t_s_wick1
theorem s_wick_wr (hg : g < 2) {k : Nat} : hset (RP c C V W pl P R) (SA g + 2) (.inl (0, 10, .inl (upd (V g 6) k x))) = RP c C (su V g 6 k x) W pl P R := by
  obtain rfl | rfl : g = 0 ∨ g = 1 := by omega
  · exact RP_set (by decide) (fun R => hs_row1 hokR (b := 395) (c := c) (S := V) (L := W) (R := R) (x := x) (i := k) t_s_wick0) (fun _ => rfl)
  · exact RP_set (by decide) (fun R => hs_row1 hokR (b := 395) (c := c) (S := V) (L := W) (R := R) (x := x) (i := k) t_s_wick1) (fun _ => rfl)
theorem s_wick_wf (hg : g < 2) {f : Nat → Int32} : hset (RP c C V W pl P R) (SA g + 2) (.inl (0, 10, .inl f)) = RP c C (sr V g 6 f) W pl P R := by
  obtain rfl | rfl : g = 0 ∨ g = 1 := by omega
  · exact RP_set (by decide) (fun R => hs_row hokR (b := 395) (c := c) (S := V) (L := W) (R := R) t_s_wick0) (fun _ => rfl)
  · exact RP_set (by decide) (fun R => hs_row hokR (b := 395) (c := c) (S := V) (L := W) (R := R) t_s_wick1) (fun _ => rfl)
theorem s_wick_a (hg : g < 2) (hi : i < 10) {K : Int32 → Prop} : aP false ((RP c C V W pl P R).2 (SA g + 2)) (Int32.ofNat i) K = K (V g 6 i) := by
  rw [s_wick_at hg, aP_mk (inB_nat hi (by omega)), tN_nat (by omega)]
theorem s_wick_n (hg : g < 2) {K : Int32 → Prop} : nP ((RP c C V W pl P R).2 (SA g + 2)) K = K 10 := by
  rw [s_wick_at hg]
  rfl
theorem s_wick_s (hg : g < 2) (hi : i < 10) {j pc : Nat} {ls : PL} {st : List Value} : asP false ((RP c C V W pl P R).2 (SA g + 2)) (SA g + 2) (Int32.ofNat i) x (fun q => Wp d j pc ls st (hset (RP c C V W pl P R) (SA g + 2) q) Q) = Wp d j pc ls st (RP c C (su V g 6 i x) W pl P R) Q := by
  rw [s_wick_at hg, asP_mk (by unfold SA; omega) (inB_nat hi (by omega)), tN_nat (by omega), s_wick_wr hg]
theorem t_s_clock0 : tR[26]? = some (some (.inr (0, 10, (0, 0, 7, 0)))) := tq_eq (by decide +kernel)
theorem t_s_clock1 : tR[43]? = some (some (.inr (0, 10, (0, 1, 7, 0)))) := tq_eq (by decide +kernel)
theorem s_clock_at (hg : g < 2) : (RP c C V W pl P R).2 (SA g + 3) = some (.inl (0, 10, .inl (V g 7))) := by
  rw [RP_st (by unfold SA; omega)]
  obtain rfl | rfl : g = 0 ∨ g = 1 := by omega
  · exact gov_in (b := 395) (S := V) (L := W) t_s_clock0
  · exact gov_in (b := 395) (S := V) (L := W) t_s_clock1
theorem s_clock_wr (hg : g < 2) {k : Nat} : hset (RP c C V W pl P R) (SA g + 3) (.inl (0, 10, .inl (upd (V g 7) k x))) = RP c C (su V g 7 k x) W pl P R := by
  obtain rfl | rfl : g = 0 ∨ g = 1 := by omega
  · exact RP_set (by decide) (fun R => hs_row1 hokR (b := 395) (c := c) (S := V) (L := W) (R := R) (x := x) (i := k) t_s_clock0) (fun _ => rfl)
  · exact RP_set (by decide) (fun R => hs_row1 hokR (b := 395) (c := c) (S := V) (L := W) (R := R) (x := x) (i := k) t_s_clock1) (fun _ => rfl)
theorem s_clock_wf (hg : g < 2) {f : Nat → Int32} : hset (RP c C V W pl P R) (SA g + 3) (.inl (0, 10, .inl f)) = RP c C (sr V g 7 f) W pl P R := by
  obtain rfl | rfl : g = 0 ∨ g = 1 := by omega
  · exact RP_set (by decide) (fun R => hs_row hokR (b := 395) (c := c) (S := V) (L := W) (R := R) t_s_clock0) (fun _ => rfl)
  · exact RP_set (by decide) (fun R => hs_row hokR (b := 395) (c := c) (S := V) (L := W) (R := R) t_s_clock1) (fun _ => rfl)
theorem s_clock_a (hg : g < 2) (hi : i < 10) {K : Int32 → Prop} : aP false ((RP c C V W pl P R).2 (SA g + 3)) (Int32.ofNat i) K = K (V g 7 i) := by
  rw [s_clock_at hg, aP_mk (inB_nat hi (by omega)), tN_nat (by omega)]
theorem s_clock_n (hg : g < 2) {K : Int32 → Prop} : nP ((RP c C V W pl P R).2 (SA g + 3)) K = K 10 := by
  rw [s_clock_at hg]
  rfl
theorem s_clock_s (hg : g < 2) (hi : i < 10) {j pc : Nat} {ls : PL} {st : List Value} : asP false ((RP c C V W pl P R).2 (SA g + 3)) (SA g + 3) (Int32.ofNat i) x (fun q => Wp d j pc ls st (hset (RP c C V W pl P R) (SA g + 3) q) Q) = Wp d j pc ls st (RP c C (su V g 7 i x) W pl P R) Q := by
  rw [s_clock_at hg, asP_mk (by unfold SA; omega) (inB_nat hi (by omega)), tN_nat (by omega), s_clock_wr hg]
theorem t_s_dark0 : tR[27]? = some (some (.inr (0, 10, (0, 0, 8, 0)))) := tq_eq (by decide +kernel)
theorem t_s_dark1 : tR[44]? = some (some (.inr (0, 10, (0, 1, 8, 0)))) := tq_eq (by decide +kernel)
theorem s_dark_at (hg : g < 2) : (RP c C V W pl P R).2 (SA g + 4) = some (.inl (0, 10, .inl (V g 8))) := by
  rw [RP_st (by unfold SA; omega)]
  obtain rfl | rfl : g = 0 ∨ g = 1 := by omega
  · exact gov_in (b := 395) (S := V) (L := W) t_s_dark0
  · exact gov_in (b := 395) (S := V) (L := W) t_s_dark1
theorem s_dark_wr (hg : g < 2) {k : Nat} : hset (RP c C V W pl P R) (SA g + 4) (.inl (0, 10, .inl (upd (V g 8) k x))) = RP c C (su V g 8 k x) W pl P R := by
  obtain rfl | rfl : g = 0 ∨ g = 1 := by omega
  · exact RP_set (by decide) (fun R => hs_row1 hokR (b := 395) (c := c) (S := V) (L := W) (R := R) (x := x) (i := k) t_s_dark0) (fun _ => rfl)
  · exact RP_set (by decide) (fun R => hs_row1 hokR (b := 395) (c := c) (S := V) (L := W) (R := R) (x := x) (i := k) t_s_dark1) (fun _ => rfl)
theorem s_dark_wf (hg : g < 2) {f : Nat → Int32} : hset (RP c C V W pl P R) (SA g + 4) (.inl (0, 10, .inl f)) = RP c C (sr V g 8 f) W pl P R := by
  obtain rfl | rfl : g = 0 ∨ g = 1 := by omega
  · exact RP_set (by decide) (fun R => hs_row hokR (b := 395) (c := c) (S := V) (L := W) (R := R) t_s_dark0) (fun _ => rfl)
  · exact RP_set (by decide) (fun R => hs_row hokR (b := 395) (c := c) (S := V) (L := W) (R := R) t_s_dark1) (fun _ => rfl)
theorem s_dark_a (hg : g < 2) (hi : i < 10) {K : Int32 → Prop} : aP false ((RP c C V W pl P R).2 (SA g + 4)) (Int32.ofNat i) K = K (V g 8 i) := by
  rw [s_dark_at hg, aP_mk (inB_nat hi (by omega)), tN_nat (by omega)]
theorem s_dark_n (hg : g < 2) {K : Int32 → Prop} : nP ((RP c C V W pl P R).2 (SA g + 4)) K = K 10 := by
  rw [s_dark_at hg]
  rfl
theorem s_dark_s (hg : g < 2) (hi : i < 10) {j pc : Nat} {ls : PL} {st : List Value} : asP false ((RP c C V W pl P R).2 (SA g + 4)) (SA g + 4) (Int32.ofNat i) x (fun q => Wp d j pc ls st (hset (RP c C V W pl P R) (SA g + 4) q) Q) = Wp d j pc ls st (RP c C (su V g 8 i x) W pl P R) Q := by
  rw [s_dark_at hg, asP_mk (by unfold SA; omega) (inB_nat hi (by omega)), tN_nat (by omega), s_dark_wr hg]
theorem t_s_lit0 : tR[28]? = some (some (.inr (3, 10, (0, 0, 9, 0)))) := tq_eq (by decide +kernel)
theorem t_s_lit1 : tR[45]? = some (some (.inr (3, 10, (0, 1, 9, 0)))) := tq_eq (by decide +kernel)
theorem s_lit_at (hg : g < 2) : (RP c C V W pl P R).2 (SA g + 5) = some (.inl (3, 10, .inl (V g 9))) := by
  rw [RP_st (by unfold SA; omega)]
  obtain rfl | rfl : g = 0 ∨ g = 1 := by omega
  · exact gov_in (b := 395) (S := V) (L := W) t_s_lit0
  · exact gov_in (b := 395) (S := V) (L := W) t_s_lit1
theorem s_lit_wr (hg : g < 2) {k : Nat} : hset (RP c C V W pl P R) (SA g + 5) (.inl (3, 10, .inl (upd (V g 9) k x))) = RP c C (su V g 9 k x) W pl P R := by
  obtain rfl | rfl : g = 0 ∨ g = 1 := by omega
  · exact RP_set (by decide) (fun R => hs_row1 hokR (b := 395) (c := c) (S := V) (L := W) (R := R) (x := x) (i := k) t_s_lit0) (fun _ => rfl)
  · exact RP_set (by decide) (fun R => hs_row1 hokR (b := 395) (c := c) (S := V) (L := W) (R := R) (x := x) (i := k) t_s_lit1) (fun _ => rfl)
theorem s_lit_wf (hg : g < 2) {f : Nat → Int32} : hset (RP c C V W pl P R) (SA g + 5) (.inl (3, 10, .inl f)) = RP c C (sr V g 9 f) W pl P R := by
  obtain rfl | rfl : g = 0 ∨ g = 1 := by omega
  · exact RP_set (by decide) (fun R => hs_row hokR (b := 395) (c := c) (S := V) (L := W) (R := R) t_s_lit0) (fun _ => rfl)
  · exact RP_set (by decide) (fun R => hs_row hokR (b := 395) (c := c) (S := V) (L := W) (R := R) t_s_lit1) (fun _ => rfl)
theorem s_lit_a (hg : g < 2) (hi : i < 10) {K : Int32 → Prop} : aP true ((RP c C V W pl P R).2 (SA g + 5)) (Int32.ofNat i) K = K (V g 9 i) := by
  rw [s_lit_at hg, aP_mk3 (inB_nat hi (by omega)), tN_nat (by omega)]
theorem s_lit_n (hg : g < 2) {K : Int32 → Prop} : nP ((RP c C V W pl P R).2 (SA g + 5)) K = K 10 := by
  rw [s_lit_at hg]
  rfl
theorem s_lit_s (hg : g < 2) (hi : i < 10) (hx : x = 0 ∨ x = 1) {j pc : Nat} {ls : PL} {st : List Value} : asP true ((RP c C V W pl P R).2 (SA g + 5)) (SA g + 5) (Int32.ofNat i) x (fun q => Wp d j pc ls st (hset (RP c C V W pl P R) (SA g + 5) q) Q) = Wp d j pc ls st (RP c C (su V g 9 i x) W pl P R) Q := by
  rw [s_lit_at hg, asP_mk3 (by unfold SA; omega) hx (inB_nat hi (by omega)), tN_nat (by omega), s_lit_wr hg]
theorem t_s_can0 : tR[29]? = some (some (.inr (0, 3, (0, 0, 12, 0)))) := tq_eq (by decide +kernel)
theorem t_s_can1 : tR[46]? = some (some (.inr (0, 3, (0, 1, 12, 0)))) := tq_eq (by decide +kernel)
theorem s_can_at (hg : g < 2) : (RP c C V W pl P R).2 (SA g + 6) = some (.inl (0, 3, .inl (V g 12))) := by
  rw [RP_st (by unfold SA; omega)]
  obtain rfl | rfl : g = 0 ∨ g = 1 := by omega
  · exact gov_in (b := 395) (S := V) (L := W) t_s_can0
  · exact gov_in (b := 395) (S := V) (L := W) t_s_can1
theorem s_can_wr (hg : g < 2) {k : Nat} : hset (RP c C V W pl P R) (SA g + 6) (.inl (0, 3, .inl (upd (V g 12) k x))) = RP c C (su V g 12 k x) W pl P R := by
  obtain rfl | rfl : g = 0 ∨ g = 1 := by omega
  · exact RP_set (by decide) (fun R => hs_row1 hokR (b := 395) (c := c) (S := V) (L := W) (R := R) (x := x) (i := k) t_s_can0) (fun _ => rfl)
  · exact RP_set (by decide) (fun R => hs_row1 hokR (b := 395) (c := c) (S := V) (L := W) (R := R) (x := x) (i := k) t_s_can1) (fun _ => rfl)
theorem s_can_wf (hg : g < 2) {f : Nat → Int32} : hset (RP c C V W pl P R) (SA g + 6) (.inl (0, 3, .inl f)) = RP c C (sr V g 12 f) W pl P R := by
  obtain rfl | rfl : g = 0 ∨ g = 1 := by omega
  · exact RP_set (by decide) (fun R => hs_row hokR (b := 395) (c := c) (S := V) (L := W) (R := R) t_s_can0) (fun _ => rfl)
  · exact RP_set (by decide) (fun R => hs_row hokR (b := 395) (c := c) (S := V) (L := W) (R := R) t_s_can1) (fun _ => rfl)
theorem s_can_a (hg : g < 2) (hi : i < 3) {K : Int32 → Prop} : aP false ((RP c C V W pl P R).2 (SA g + 6)) (Int32.ofNat i) K = K (V g 12 i) := by
  rw [s_can_at hg, aP_mk (inB_nat hi (by omega)), tN_nat (by omega)]
theorem s_can_n (hg : g < 2) {K : Int32 → Prop} : nP ((RP c C V W pl P R).2 (SA g + 6)) K = K 3 := by
  rw [s_can_at hg]
  rfl
theorem s_can_s (hg : g < 2) (hi : i < 3) {j pc : Nat} {ls : PL} {st : List Value} : asP false ((RP c C V W pl P R).2 (SA g + 6)) (SA g + 6) (Int32.ofNat i) x (fun q => Wp d j pc ls st (hset (RP c C V W pl P R) (SA g + 6) q) Q) = Wp d j pc ls st (RP c C (su V g 12 i x) W pl P R) Q := by
  rw [s_can_at hg, asP_mk (by unfold SA; omega) (inB_nat hi (by omega)), tN_nat (by omega), s_can_wr hg]
theorem t_s_place0 : tR[30]? = some (some (.inr (0, 3, (0, 0, 13, 0)))) := tq_eq (by decide +kernel)
theorem t_s_place1 : tR[47]? = some (some (.inr (0, 3, (0, 1, 13, 0)))) := tq_eq (by decide +kernel)
theorem s_place_at (hg : g < 2) : (RP c C V W pl P R).2 (SA g + 7) = some (.inl (0, 3, .inl (V g 13))) := by
  rw [RP_st (by unfold SA; omega)]
  obtain rfl | rfl : g = 0 ∨ g = 1 := by omega
  · exact gov_in (b := 395) (S := V) (L := W) t_s_place0
  · exact gov_in (b := 395) (S := V) (L := W) t_s_place1
theorem s_place_wr (hg : g < 2) {k : Nat} : hset (RP c C V W pl P R) (SA g + 7) (.inl (0, 3, .inl (upd (V g 13) k x))) = RP c C (su V g 13 k x) W pl P R := by
  obtain rfl | rfl : g = 0 ∨ g = 1 := by omega
  · exact RP_set (by decide) (fun R => hs_row1 hokR (b := 395) (c := c) (S := V) (L := W) (R := R) (x := x) (i := k) t_s_place0) (fun _ => rfl)
  · exact RP_set (by decide) (fun R => hs_row1 hokR (b := 395) (c := c) (S := V) (L := W) (R := R) (x := x) (i := k) t_s_place1) (fun _ => rfl)
theorem s_place_wf (hg : g < 2) {f : Nat → Int32} : hset (RP c C V W pl P R) (SA g + 7) (.inl (0, 3, .inl f)) = RP c C (sr V g 13 f) W pl P R := by
  obtain rfl | rfl : g = 0 ∨ g = 1 := by omega
  · exact RP_set (by decide) (fun R => hs_row hokR (b := 395) (c := c) (S := V) (L := W) (R := R) t_s_place0) (fun _ => rfl)
  · exact RP_set (by decide) (fun R => hs_row hokR (b := 395) (c := c) (S := V) (L := W) (R := R) t_s_place1) (fun _ => rfl)
theorem s_place_a (hg : g < 2) (hi : i < 3) {K : Int32 → Prop} : aP false ((RP c C V W pl P R).2 (SA g + 7)) (Int32.ofNat i) K = K (V g 13 i) := by
  rw [s_place_at hg, aP_mk (inB_nat hi (by omega)), tN_nat (by omega)]
theorem s_place_n (hg : g < 2) {K : Int32 → Prop} : nP ((RP c C V W pl P R).2 (SA g + 7)) K = K 3 := by
  rw [s_place_at hg]
  rfl
theorem s_place_s (hg : g < 2) (hi : i < 3) {j pc : Nat} {ls : PL} {st : List Value} : asP false ((RP c C V W pl P R).2 (SA g + 7)) (SA g + 7) (Int32.ofNat i) x (fun q => Wp d j pc ls st (hset (RP c C V W pl P R) (SA g + 7) q) Q) = Wp d j pc ls st (RP c C (su V g 13 i x) W pl P R) Q := by
  rw [s_place_at hg, asP_mk (by unfold SA; omega) (inB_nat hi (by omega)), tN_nat (by omega), s_place_wr hg]
theorem t_s_round0 : tR[31]? = some (some (.inr (0, 3, (0, 0, 14, 0)))) := tq_eq (by decide +kernel)
theorem t_s_round1 : tR[48]? = some (some (.inr (0, 3, (0, 1, 14, 0)))) := tq_eq (by decide +kernel)
theorem s_round_at (hg : g < 2) : (RP c C V W pl P R).2 (SA g + 8) = some (.inl (0, 3, .inl (V g 14))) := by
  rw [RP_st (by unfold SA; omega)]
  obtain rfl | rfl : g = 0 ∨ g = 1 := by omega
  · exact gov_in (b := 395) (S := V) (L := W) t_s_round0
  · exact gov_in (b := 395) (S := V) (L := W) t_s_round1
theorem s_round_wr (hg : g < 2) {k : Nat} : hset (RP c C V W pl P R) (SA g + 8) (.inl (0, 3, .inl (upd (V g 14) k x))) = RP c C (su V g 14 k x) W pl P R := by
  obtain rfl | rfl : g = 0 ∨ g = 1 := by omega
  · exact RP_set (by decide) (fun R => hs_row1 hokR (b := 395) (c := c) (S := V) (L := W) (R := R) (x := x) (i := k) t_s_round0) (fun _ => rfl)
  · exact RP_set (by decide) (fun R => hs_row1 hokR (b := 395) (c := c) (S := V) (L := W) (R := R) (x := x) (i := k) t_s_round1) (fun _ => rfl)
theorem s_round_wf (hg : g < 2) {f : Nat → Int32} : hset (RP c C V W pl P R) (SA g + 8) (.inl (0, 3, .inl f)) = RP c C (sr V g 14 f) W pl P R := by
  obtain rfl | rfl : g = 0 ∨ g = 1 := by omega
  · exact RP_set (by decide) (fun R => hs_row hokR (b := 395) (c := c) (S := V) (L := W) (R := R) t_s_round0) (fun _ => rfl)
  · exact RP_set (by decide) (fun R => hs_row hokR (b := 395) (c := c) (S := V) (L := W) (R := R) t_s_round1) (fun _ => rfl)
theorem s_round_a (hg : g < 2) (hi : i < 3) {K : Int32 → Prop} : aP false ((RP c C V W pl P R).2 (SA g + 8)) (Int32.ofNat i) K = K (V g 14 i) := by
  rw [s_round_at hg, aP_mk (inB_nat hi (by omega)), tN_nat (by omega)]
theorem s_round_n (hg : g < 2) {K : Int32 → Prop} : nP ((RP c C V W pl P R).2 (SA g + 8)) K = K 3 := by
  rw [s_round_at hg]
  rfl
theorem s_round_s (hg : g < 2) (hi : i < 3) {j pc : Nat} {ls : PL} {st : List Value} : asP false ((RP c C V W pl P R).2 (SA g + 8)) (SA g + 8) (Int32.ofNat i) x (fun q => Wp d j pc ls st (hset (RP c C V W pl P R) (SA g + 8) q) Q) = Wp d j pc ls st (RP c C (su V g 14 i x) W pl P R) Q := by
  rw [s_round_at hg, asP_mk (by unfold SA; omega) (inB_nat hi (by omega)), tN_nat (by omega), s_round_wr hg]
theorem t_s_begun0 : tR[32]? = some (some (.inr (0, 3, (0, 0, 15, 0)))) := tq_eq (by decide +kernel)
theorem t_s_begun1 : tR[49]? = some (some (.inr (0, 3, (0, 1, 15, 0)))) := tq_eq (by decide +kernel)
theorem s_begun_at (hg : g < 2) : (RP c C V W pl P R).2 (SA g + 9) = some (.inl (0, 3, .inl (V g 15))) := by
  rw [RP_st (by unfold SA; omega)]
  obtain rfl | rfl : g = 0 ∨ g = 1 := by omega
  · exact gov_in (b := 395) (S := V) (L := W) t_s_begun0
  · exact gov_in (b := 395) (S := V) (L := W) t_s_begun1
theorem s_begun_wr (hg : g < 2) {k : Nat} : hset (RP c C V W pl P R) (SA g + 9) (.inl (0, 3, .inl (upd (V g 15) k x))) = RP c C (su V g 15 k x) W pl P R := by
  obtain rfl | rfl : g = 0 ∨ g = 1 := by omega
  · exact RP_set (by decide) (fun R => hs_row1 hokR (b := 395) (c := c) (S := V) (L := W) (R := R) (x := x) (i := k) t_s_begun0) (fun _ => rfl)
  · exact RP_set (by decide) (fun R => hs_row1 hokR (b := 395) (c := c) (S := V) (L := W) (R := R) (x := x) (i := k) t_s_begun1) (fun _ => rfl)
theorem s_begun_wf (hg : g < 2) {f : Nat → Int32} : hset (RP c C V W pl P R) (SA g + 9) (.inl (0, 3, .inl f)) = RP c C (sr V g 15 f) W pl P R := by
  obtain rfl | rfl : g = 0 ∨ g = 1 := by omega
  · exact RP_set (by decide) (fun R => hs_row hokR (b := 395) (c := c) (S := V) (L := W) (R := R) t_s_begun0) (fun _ => rfl)
  · exact RP_set (by decide) (fun R => hs_row hokR (b := 395) (c := c) (S := V) (L := W) (R := R) t_s_begun1) (fun _ => rfl)
theorem s_begun_a (hg : g < 2) (hi : i < 3) {K : Int32 → Prop} : aP false ((RP c C V W pl P R).2 (SA g + 9)) (Int32.ofNat i) K = K (V g 15 i) := by
  rw [s_begun_at hg, aP_mk (inB_nat hi (by omega)), tN_nat (by omega)]
theorem s_begun_n (hg : g < 2) {K : Int32 → Prop} : nP ((RP c C V W pl P R).2 (SA g + 9)) K = K 3 := by
  rw [s_begun_at hg]
  rfl
theorem s_begun_s (hg : g < 2) (hi : i < 3) {j pc : Nat} {ls : PL} {st : List Value} : asP false ((RP c C V W pl P R).2 (SA g + 9)) (SA g + 9) (Int32.ofNat i) x (fun q => Wp d j pc ls st (hset (RP c C V W pl P R) (SA g + 9) q) Q) = Wp d j pc ls st (RP c C (su V g 15 i x) W pl P R) Q := by
  rw [s_begun_at hg, asP_mk (by unfold SA; omega) (inB_nat hi (by omega)), tN_nat (by omega), s_begun_wr hg]
theorem t_s_busy0 : tR[33]? = some (some (.inr (0, 3, (0, 0, 16, 0)))) := tq_eq (by decide +kernel)
theorem t_s_busy1 : tR[50]? = some (some (.inr (0, 3, (0, 1, 16, 0)))) := tq_eq (by decide +kernel)
theorem s_busy_at (hg : g < 2) : (RP c C V W pl P R).2 (SA g + 10) = some (.inl (0, 3, .inl (V g 16))) := by
  rw [RP_st (by unfold SA; omega)]
  obtain rfl | rfl : g = 0 ∨ g = 1 := by omega
  · exact gov_in (b := 395) (S := V) (L := W) t_s_busy0
  · exact gov_in (b := 395) (S := V) (L := W) t_s_busy1
theorem s_busy_wr (hg : g < 2) {k : Nat} : hset (RP c C V W pl P R) (SA g + 10) (.inl (0, 3, .inl (upd (V g 16) k x))) = RP c C (su V g 16 k x) W pl P R := by
  obtain rfl | rfl : g = 0 ∨ g = 1 := by omega
  · exact RP_set (by decide) (fun R => hs_row1 hokR (b := 395) (c := c) (S := V) (L := W) (R := R) (x := x) (i := k) t_s_busy0) (fun _ => rfl)
  · exact RP_set (by decide) (fun R => hs_row1 hokR (b := 395) (c := c) (S := V) (L := W) (R := R) (x := x) (i := k) t_s_busy1) (fun _ => rfl)
theorem s_busy_wf (hg : g < 2) {f : Nat → Int32} : hset (RP c C V W pl P R) (SA g + 10) (.inl (0, 3, .inl f)) = RP c C (sr V g 16 f) W pl P R := by
  obtain rfl | rfl : g = 0 ∨ g = 1 := by omega
  · exact RP_set (by decide) (fun R => hs_row hokR (b := 395) (c := c) (S := V) (L := W) (R := R) t_s_busy0) (fun _ => rfl)
  · exact RP_set (by decide) (fun R => hs_row hokR (b := 395) (c := c) (S := V) (L := W) (R := R) t_s_busy1) (fun _ => rfl)
theorem s_busy_a (hg : g < 2) (hi : i < 3) {K : Int32 → Prop} : aP false ((RP c C V W pl P R).2 (SA g + 10)) (Int32.ofNat i) K = K (V g 16 i) := by
  rw [s_busy_at hg, aP_mk (inB_nat hi (by omega)), tN_nat (by omega)]
theorem s_busy_n (hg : g < 2) {K : Int32 → Prop} : nP ((RP c C V W pl P R).2 (SA g + 10)) K = K 3 := by
  rw [s_busy_at hg]
  rfl
theorem s_busy_s (hg : g < 2) (hi : i < 3) {j pc : Nat} {ls : PL} {st : List Value} : asP false ((RP c C V W pl P R).2 (SA g + 10)) (SA g + 10) (Int32.ofNat i) x (fun q => Wp d j pc ls st (hset (RP c C V W pl P R) (SA g + 10) q) Q) = Wp d j pc ls st (RP c C (su V g 16 i x) W pl P R) Q := by
  rw [s_busy_at hg, asP_mk (by unfold SA; omega) (inB_nat hi (by omega)), tN_nat (by omega), s_busy_wr hg]
theorem t_s_noted0 : tR[34]? = some (some (.inr (0, 3, (0, 0, 17, 0)))) := tq_eq (by decide +kernel)
theorem t_s_noted1 : tR[51]? = some (some (.inr (0, 3, (0, 1, 17, 0)))) := tq_eq (by decide +kernel)
theorem s_noted_at (hg : g < 2) : (RP c C V W pl P R).2 (SA g + 11) = some (.inl (0, 3, .inl (V g 17))) := by
  rw [RP_st (by unfold SA; omega)]
  obtain rfl | rfl : g = 0 ∨ g = 1 := by omega
  · exact gov_in (b := 395) (S := V) (L := W) t_s_noted0
  · exact gov_in (b := 395) (S := V) (L := W) t_s_noted1
theorem s_noted_wr (hg : g < 2) {k : Nat} : hset (RP c C V W pl P R) (SA g + 11) (.inl (0, 3, .inl (upd (V g 17) k x))) = RP c C (su V g 17 k x) W pl P R := by
  obtain rfl | rfl : g = 0 ∨ g = 1 := by omega
  · exact RP_set (by decide) (fun R => hs_row1 hokR (b := 395) (c := c) (S := V) (L := W) (R := R) (x := x) (i := k) t_s_noted0) (fun _ => rfl)
  · exact RP_set (by decide) (fun R => hs_row1 hokR (b := 395) (c := c) (S := V) (L := W) (R := R) (x := x) (i := k) t_s_noted1) (fun _ => rfl)
theorem s_noted_wf (hg : g < 2) {f : Nat → Int32} : hset (RP c C V W pl P R) (SA g + 11) (.inl (0, 3, .inl f)) = RP c C (sr V g 17 f) W pl P R := by
  obtain rfl | rfl : g = 0 ∨ g = 1 := by omega
  · exact RP_set (by decide) (fun R => hs_row hokR (b := 395) (c := c) (S := V) (L := W) (R := R) t_s_noted0) (fun _ => rfl)
  · exact RP_set (by decide) (fun R => hs_row hokR (b := 395) (c := c) (S := V) (L := W) (R := R) t_s_noted1) (fun _ => rfl)
theorem s_noted_a (hg : g < 2) (hi : i < 3) {K : Int32 → Prop} : aP false ((RP c C V W pl P R).2 (SA g + 11)) (Int32.ofNat i) K = K (V g 17 i) := by
  rw [s_noted_at hg, aP_mk (inB_nat hi (by omega)), tN_nat (by omega)]
theorem s_noted_n (hg : g < 2) {K : Int32 → Prop} : nP ((RP c C V W pl P R).2 (SA g + 11)) K = K 3 := by
  rw [s_noted_at hg]
  rfl
theorem s_noted_s (hg : g < 2) (hi : i < 3) {j pc : Nat} {ls : PL} {st : List Value} : asP false ((RP c C V W pl P R).2 (SA g + 11)) (SA g + 11) (Int32.ofNat i) x (fun q => Wp d j pc ls st (hset (RP c C V W pl P R) (SA g + 11) q) Q) = Wp d j pc ls st (RP c C (su V g 17 i x) W pl P R) Q := by
  rw [s_noted_at hg, asP_mk (by unfold SA; omega) (inB_nat hi (by omega)), tN_nat (by omega), s_noted_wr hg]
theorem t_s_note0 : tR[35]? = some (some (.inr (0, 60, (0, 0, 20, 0)))) := tq_eq (by decide +kernel)
theorem t_s_note1 : tR[52]? = some (some (.inr (0, 60, (0, 1, 20, 0)))) := tq_eq (by decide +kernel)
theorem s_note_at (hg : g < 2) : (RP c C V W pl P R).2 (SA g + 12) = some (.inl (0, 60, .inl (V g 20))) := by
  rw [RP_st (by unfold SA; omega)]
  obtain rfl | rfl : g = 0 ∨ g = 1 := by omega
  · exact gov_in (b := 395) (S := V) (L := W) t_s_note0
  · exact gov_in (b := 395) (S := V) (L := W) t_s_note1
theorem s_note_wr (hg : g < 2) {k : Nat} : hset (RP c C V W pl P R) (SA g + 12) (.inl (0, 60, .inl (upd (V g 20) k x))) = RP c C (su V g 20 k x) W pl P R := by
  obtain rfl | rfl : g = 0 ∨ g = 1 := by omega
  · exact RP_set (by decide) (fun R => hs_row1 hokR (b := 395) (c := c) (S := V) (L := W) (R := R) (x := x) (i := k) t_s_note0) (fun _ => rfl)
  · exact RP_set (by decide) (fun R => hs_row1 hokR (b := 395) (c := c) (S := V) (L := W) (R := R) (x := x) (i := k) t_s_note1) (fun _ => rfl)
theorem s_note_wf (hg : g < 2) {f : Nat → Int32} : hset (RP c C V W pl P R) (SA g + 12) (.inl (0, 60, .inl f)) = RP c C (sr V g 20 f) W pl P R := by
  obtain rfl | rfl : g = 0 ∨ g = 1 := by omega
  · exact RP_set (by decide) (fun R => hs_row hokR (b := 395) (c := c) (S := V) (L := W) (R := R) t_s_note0) (fun _ => rfl)
  · exact RP_set (by decide) (fun R => hs_row hokR (b := 395) (c := c) (S := V) (L := W) (R := R) t_s_note1) (fun _ => rfl)
theorem s_note_a (hg : g < 2) (hi : i < 60) {K : Int32 → Prop} : aP false ((RP c C V W pl P R).2 (SA g + 12)) (Int32.ofNat i) K = K (V g 20 i) := by
  rw [s_note_at hg, aP_mk (inB_nat hi (by omega)), tN_nat (by omega)]
theorem s_note_n (hg : g < 2) {K : Int32 → Prop} : nP ((RP c C V W pl P R).2 (SA g + 12)) K = K 60 := by
  rw [s_note_at hg]
  rfl
theorem s_note_s (hg : g < 2) (hi : i < 60) {j pc : Nat} {ls : PL} {st : List Value} : asP false ((RP c C V W pl P R).2 (SA g + 12)) (SA g + 12) (Int32.ofNat i) x (fun q => Wp d j pc ls st (hset (RP c C V W pl P R) (SA g + 12) q) Q) = Wp d j pc ls st (RP c C (su V g 20 i x) W pl P R) Q := by
  rw [s_note_at hg, asP_mk (by unfold SA; omega) (inB_nat hi (by omega)), tN_nat (by omega), s_note_wr hg]
theorem t_s_depth0 : tR[36]? = some (some (.inr (0, 3, (0, 0, 18, 0)))) := tq_eq (by decide +kernel)
theorem t_s_depth1 : tR[53]? = some (some (.inr (0, 3, (0, 1, 18, 0)))) := tq_eq (by decide +kernel)
theorem s_depth_at (hg : g < 2) : (RP c C V W pl P R).2 (SA g + 13) = some (.inl (0, 3, .inl (V g 18))) := by
  rw [RP_st (by unfold SA; omega)]
  obtain rfl | rfl : g = 0 ∨ g = 1 := by omega
  · exact gov_in (b := 395) (S := V) (L := W) t_s_depth0
  · exact gov_in (b := 395) (S := V) (L := W) t_s_depth1
theorem s_depth_wr (hg : g < 2) {k : Nat} : hset (RP c C V W pl P R) (SA g + 13) (.inl (0, 3, .inl (upd (V g 18) k x))) = RP c C (su V g 18 k x) W pl P R := by
  obtain rfl | rfl : g = 0 ∨ g = 1 := by omega
  · exact RP_set (by decide) (fun R => hs_row1 hokR (b := 395) (c := c) (S := V) (L := W) (R := R) (x := x) (i := k) t_s_depth0) (fun _ => rfl)
  · exact RP_set (by decide) (fun R => hs_row1 hokR (b := 395) (c := c) (S := V) (L := W) (R := R) (x := x) (i := k) t_s_depth1) (fun _ => rfl)
theorem s_depth_wf (hg : g < 2) {f : Nat → Int32} : hset (RP c C V W pl P R) (SA g + 13) (.inl (0, 3, .inl f)) = RP c C (sr V g 18 f) W pl P R := by
  obtain rfl | rfl : g = 0 ∨ g = 1 := by omega
  · exact RP_set (by decide) (fun R => hs_row hokR (b := 395) (c := c) (S := V) (L := W) (R := R) t_s_depth0) (fun _ => rfl)
  · exact RP_set (by decide) (fun R => hs_row hokR (b := 395) (c := c) (S := V) (L := W) (R := R) t_s_depth1) (fun _ => rfl)
theorem s_depth_a (hg : g < 2) (hi : i < 3) {K : Int32 → Prop} : aP false ((RP c C V W pl P R).2 (SA g + 13)) (Int32.ofNat i) K = K (V g 18 i) := by
  rw [s_depth_at hg, aP_mk (inB_nat hi (by omega)), tN_nat (by omega)]
theorem s_depth_n (hg : g < 2) {K : Int32 → Prop} : nP ((RP c C V W pl P R).2 (SA g + 13)) K = K 3 := by
  rw [s_depth_at hg]
  rfl
theorem s_depth_s (hg : g < 2) (hi : i < 3) {j pc : Nat} {ls : PL} {st : List Value} : asP false ((RP c C V W pl P R).2 (SA g + 13)) (SA g + 13) (Int32.ofNat i) x (fun q => Wp d j pc ls st (hset (RP c C V W pl P R) (SA g + 13) q) Q) = Wp d j pc ls st (RP c C (su V g 18 i x) W pl P R) Q := by
  rw [s_depth_at hg, asP_mk (by unfold SA; omega) (inB_nat hi (by omega)), tN_nat (by omega), s_depth_wr hg]
theorem t_s_ent0 : tR[37]? = some (some (.inr (0, 144, (0, 0, 30, 0)))) := tq_eq (by decide +kernel)
theorem t_s_ent1 : tR[54]? = some (some (.inr (0, 144, (0, 1, 30, 0)))) := tq_eq (by decide +kernel)
theorem s_ent_at (hg : g < 2) : (RP c C V W pl P R).2 (SA g + 14) = some (.inl (0, 144, .inl (V g 30))) := by
  rw [RP_st (by unfold SA; omega)]
  obtain rfl | rfl : g = 0 ∨ g = 1 := by omega
  · exact gov_in (b := 395) (S := V) (L := W) t_s_ent0
  · exact gov_in (b := 395) (S := V) (L := W) t_s_ent1
theorem s_ent_wr (hg : g < 2) {k : Nat} : hset (RP c C V W pl P R) (SA g + 14) (.inl (0, 144, .inl (upd (V g 30) k x))) = RP c C (su V g 30 k x) W pl P R := by
  obtain rfl | rfl : g = 0 ∨ g = 1 := by omega
  · exact RP_set (by decide) (fun R => hs_row1 hokR (b := 395) (c := c) (S := V) (L := W) (R := R) (x := x) (i := k) t_s_ent0) (fun _ => rfl)
  · exact RP_set (by decide) (fun R => hs_row1 hokR (b := 395) (c := c) (S := V) (L := W) (R := R) (x := x) (i := k) t_s_ent1) (fun _ => rfl)
theorem s_ent_wf (hg : g < 2) {f : Nat → Int32} : hset (RP c C V W pl P R) (SA g + 14) (.inl (0, 144, .inl f)) = RP c C (sr V g 30 f) W pl P R := by
  obtain rfl | rfl : g = 0 ∨ g = 1 := by omega
  · exact RP_set (by decide) (fun R => hs_row hokR (b := 395) (c := c) (S := V) (L := W) (R := R) t_s_ent0) (fun _ => rfl)
  · exact RP_set (by decide) (fun R => hs_row hokR (b := 395) (c := c) (S := V) (L := W) (R := R) t_s_ent1) (fun _ => rfl)
theorem s_ent_a (hg : g < 2) (hi : i < 144) {K : Int32 → Prop} : aP false ((RP c C V W pl P R).2 (SA g + 14)) (Int32.ofNat i) K = K (V g 30 i) := by
  rw [s_ent_at hg, aP_mk (inB_nat hi (by omega)), tN_nat (by omega)]
theorem s_ent_n (hg : g < 2) {K : Int32 → Prop} : nP ((RP c C V W pl P R).2 (SA g + 14)) K = K 144 := by
  rw [s_ent_at hg]
  rfl
theorem s_ent_s (hg : g < 2) (hi : i < 144) {j pc : Nat} {ls : PL} {st : List Value} : asP false ((RP c C V W pl P R).2 (SA g + 14)) (SA g + 14) (Int32.ofNat i) x (fun q => Wp d j pc ls st (hset (RP c C V W pl P R) (SA g + 14) q) Q) = Wp d j pc ls st (RP c C (su V g 30 i x) W pl P R) Q := by
  rw [s_ent_at hg, asP_mk (by unfold SA; omega) (inB_nat hi (by omega)), tN_nat (by omega), s_ent_wr hg]
theorem t_s_comes0 : tR[38]? = some (some (.inr (0, 144, (0, 0, 40, 0)))) := tq_eq (by decide +kernel)
theorem t_s_comes1 : tR[55]? = some (some (.inr (0, 144, (0, 1, 40, 0)))) := tq_eq (by decide +kernel)
theorem s_comes_at (hg : g < 2) : (RP c C V W pl P R).2 (SA g + 15) = some (.inl (0, 144, .inl (V g 40))) := by
  rw [RP_st (by unfold SA; omega)]
  obtain rfl | rfl : g = 0 ∨ g = 1 := by omega
  · exact gov_in (b := 395) (S := V) (L := W) t_s_comes0
  · exact gov_in (b := 395) (S := V) (L := W) t_s_comes1
theorem s_comes_wr (hg : g < 2) {k : Nat} : hset (RP c C V W pl P R) (SA g + 15) (.inl (0, 144, .inl (upd (V g 40) k x))) = RP c C (su V g 40 k x) W pl P R := by
  obtain rfl | rfl : g = 0 ∨ g = 1 := by omega
  · exact RP_set (by decide) (fun R => hs_row1 hokR (b := 395) (c := c) (S := V) (L := W) (R := R) (x := x) (i := k) t_s_comes0) (fun _ => rfl)
  · exact RP_set (by decide) (fun R => hs_row1 hokR (b := 395) (c := c) (S := V) (L := W) (R := R) (x := x) (i := k) t_s_comes1) (fun _ => rfl)
theorem s_comes_wf (hg : g < 2) {f : Nat → Int32} : hset (RP c C V W pl P R) (SA g + 15) (.inl (0, 144, .inl f)) = RP c C (sr V g 40 f) W pl P R := by
  obtain rfl | rfl : g = 0 ∨ g = 1 := by omega
  · exact RP_set (by decide) (fun R => hs_row hokR (b := 395) (c := c) (S := V) (L := W) (R := R) t_s_comes0) (fun _ => rfl)
  · exact RP_set (by decide) (fun R => hs_row hokR (b := 395) (c := c) (S := V) (L := W) (R := R) t_s_comes1) (fun _ => rfl)
theorem s_comes_a (hg : g < 2) (hi : i < 144) {K : Int32 → Prop} : aP false ((RP c C V W pl P R).2 (SA g + 15)) (Int32.ofNat i) K = K (V g 40 i) := by
  rw [s_comes_at hg, aP_mk (inB_nat hi (by omega)), tN_nat (by omega)]
theorem s_comes_n (hg : g < 2) {K : Int32 → Prop} : nP ((RP c C V W pl P R).2 (SA g + 15)) K = K 144 := by
  rw [s_comes_at hg]
  rfl
theorem s_comes_s (hg : g < 2) (hi : i < 144) {j pc : Nat} {ls : PL} {st : List Value} : asP false ((RP c C V W pl P R).2 (SA g + 15)) (SA g + 15) (Int32.ofNat i) x (fun q => Wp d j pc ls st (hset (RP c C V W pl P R) (SA g + 15) q) Q) = Wp d j pc ls st (RP c C (su V g 40 i x) W pl P R) Q := by
  rw [s_comes_at hg, asP_mk (by unfold SA; omega) (inB_nat hi (by omega)), tN_nat (by omega), s_comes_wr hg]
theorem t_s_times0 : tR[39]? = some (some (.inr (0, 144, (0, 0, 50, 0)))) := tq_eq (by decide +kernel)
theorem t_s_times1 : tR[56]? = some (some (.inr (0, 144, (0, 1, 50, 0)))) := tq_eq (by decide +kernel)
theorem s_times_at (hg : g < 2) : (RP c C V W pl P R).2 (SA g + 16) = some (.inl (0, 144, .inl (V g 50))) := by
  rw [RP_st (by unfold SA; omega)]
  obtain rfl | rfl : g = 0 ∨ g = 1 := by omega
  · exact gov_in (b := 395) (S := V) (L := W) t_s_times0
  · exact gov_in (b := 395) (S := V) (L := W) t_s_times1
theorem s_times_wr (hg : g < 2) {k : Nat} : hset (RP c C V W pl P R) (SA g + 16) (.inl (0, 144, .inl (upd (V g 50) k x))) = RP c C (su V g 50 k x) W pl P R := by
  obtain rfl | rfl : g = 0 ∨ g = 1 := by omega
  · exact RP_set (by decide) (fun R => hs_row1 hokR (b := 395) (c := c) (S := V) (L := W) (R := R) (x := x) (i := k) t_s_times0) (fun _ => rfl)
  · exact RP_set (by decide) (fun R => hs_row1 hokR (b := 395) (c := c) (S := V) (L := W) (R := R) (x := x) (i := k) t_s_times1) (fun _ => rfl)
theorem s_times_wf (hg : g < 2) {f : Nat → Int32} : hset (RP c C V W pl P R) (SA g + 16) (.inl (0, 144, .inl f)) = RP c C (sr V g 50 f) W pl P R := by
  obtain rfl | rfl : g = 0 ∨ g = 1 := by omega
  · exact RP_set (by decide) (fun R => hs_row hokR (b := 395) (c := c) (S := V) (L := W) (R := R) t_s_times0) (fun _ => rfl)
  · exact RP_set (by decide) (fun R => hs_row hokR (b := 395) (c := c) (S := V) (L := W) (R := R) t_s_times1) (fun _ => rfl)
theorem s_times_a (hg : g < 2) (hi : i < 144) {K : Int32 → Prop} : aP false ((RP c C V W pl P R).2 (SA g + 16)) (Int32.ofNat i) K = K (V g 50 i) := by
  rw [s_times_at hg, aP_mk (inB_nat hi (by omega)), tN_nat (by omega)]
theorem s_times_n (hg : g < 2) {K : Int32 → Prop} : nP ((RP c C V W pl P R).2 (SA g + 16)) K = K 144 := by
  rw [s_times_at hg]
  rfl
theorem s_times_s (hg : g < 2) (hi : i < 144) {j pc : Nat} {ls : PL} {st : List Value} : asP false ((RP c C V W pl P R).2 (SA g + 16)) (SA g + 16) (Int32.ofNat i) x (fun q => Wp d j pc ls st (hset (RP c C V W pl P R) (SA g + 16) q) Q) = Wp d j pc ls st (RP c C (su V g 50 i x) W pl P R) Q := by
  rw [s_times_at hg, asP_mk (by unfold SA; omega) (inB_nat hi (by omega)), tN_nat (by omega), s_times_wr hg]
theorem t_pl : tP[0]? = some (some (.inl (8, [(0, 0, 100, 0), (0, 0, 101, 0), (0, 0, 102, 0), (4, 1, 0, 0), (4, 2, 0, 0), (4, 3, 0, 0), (0, 0, 106, 0), (4, 4, 0, 0), (0, 0, 108, 0), (0, 0, 109, 0), (4, 5, 0, 0), (4, 6, 0, 0), (4, 7, 0, 0), (4, 8, 0, 0), (4, 9, 0, 0), (4, 10, 0, 0), (4, 11, 0, 0), (4, 12, 0, 0), (0, 0, 118, 0), (4, 13, 0, 0), (4, 14, 0, 0), (4, 15, 0, 0)]))) := tq_eq (by decide +kernel)
theorem pl_at (hp : Pok pl) : (RP c C V W pl P R).2 pl = some (.inr (8, [.int (P 0 100 0), .int (P 0 101 0), .int (P 0 102 0), .ref (pl + 1), .ref (pl + 2), .ref (pl + 3), .int (P 0 106 0), .ref (pl + 4), .int (P 0 108 0), .int (P 0 109 0), .ref (pl + 5), .ref (pl + 6), .ref (pl + 7), .ref (pl + 8), .ref (pl + 9), .ref (pl + 10), .ref (pl + 11), .ref (pl + 12), .int (P 0 118 0), .ref (pl + 13), .ref (pl + 14), .ref (pl + 15)])) := RP_pl hp (j := 0) (by omega) t_pl
theorem pl_wlamps (hp : Pok pl) : hset (RP c C V W pl P R) pl (.inr (8, [.int x, .int (P 0 101 0), .int (P 0 102 0), .ref (pl + 1), .ref (pl + 2), .ref (pl + 3), .int (P 0 106 0), .ref (pl + 4), .int (P 0 108 0), .int (P 0 109 0), .ref (pl + 5), .ref (pl + 6), .ref (pl + 7), .ref (pl + 8), .ref (pl + 9), .ref (pl + 10), .ref (pl + 11), .ref (pl + 12), .int (P 0 118 0), .ref (pl + 13), .ref (pl + 14), .ref (pl + 15)])) = RP c C V W pl (su P 0 100 0 x) R := RP_setP hp (j := 0) (by omega) (hs_fld hokP (b := pl) (k := 0) (c := c) (S := P) (L := W) (R := R) (x := x) t_pl rfl)
theorem pl_wrounds (hp : Pok pl) : hset (RP c C V W pl P R) pl (.inr (8, [.int (P 0 100 0), .int x, .int (P 0 102 0), .ref (pl + 1), .ref (pl + 2), .ref (pl + 3), .int (P 0 106 0), .ref (pl + 4), .int (P 0 108 0), .int (P 0 109 0), .ref (pl + 5), .ref (pl + 6), .ref (pl + 7), .ref (pl + 8), .ref (pl + 9), .ref (pl + 10), .ref (pl + 11), .ref (pl + 12), .int (P 0 118 0), .ref (pl + 13), .ref (pl + 14), .ref (pl + 15)])) = RP c C V W pl (su P 0 101 0 x) R := RP_setP hp (j := 0) (by omega) (hs_fld hokP (b := pl) (k := 1) (c := c) (S := P) (L := W) (R := R) (x := x) t_pl rfl)
theorem pl_wacts (hp : Pok pl) : hset (RP c C V W pl P R) pl (.inr (8, [.int (P 0 100 0), .int (P 0 101 0), .int x, .ref (pl + 1), .ref (pl + 2), .ref (pl + 3), .int (P 0 106 0), .ref (pl + 4), .int (P 0 108 0), .int (P 0 109 0), .ref (pl + 5), .ref (pl + 6), .ref (pl + 7), .ref (pl + 8), .ref (pl + 9), .ref (pl + 10), .ref (pl + 11), .ref (pl + 12), .int (P 0 118 0), .ref (pl + 13), .ref (pl + 14), .ref (pl + 15)])) = RP c C V W pl (su P 0 102 0 x) R := RP_setP hp (j := 0) (by omega) (hs_fld hokP (b := pl) (k := 2) (c := c) (S := P) (L := W) (R := R) (x := x) t_pl rfl)
theorem pl_wblocks (hp : Pok pl) : hset (RP c C V W pl P R) pl (.inr (8, [.int (P 0 100 0), .int (P 0 101 0), .int (P 0 102 0), .ref (pl + 1), .ref (pl + 2), .ref (pl + 3), .int x, .ref (pl + 4), .int (P 0 108 0), .int (P 0 109 0), .ref (pl + 5), .ref (pl + 6), .ref (pl + 7), .ref (pl + 8), .ref (pl + 9), .ref (pl + 10), .ref (pl + 11), .ref (pl + 12), .int (P 0 118 0), .ref (pl + 13), .ref (pl + 14), .ref (pl + 15)])) = RP c C V W pl (su P 0 106 0 x) R := RP_setP hp (j := 0) (by omega) (hs_fld hokP (b := pl) (k := 6) (c := c) (S := P) (L := W) (R := R) (x := x) t_pl rfl)
theorem pl_wrr (hp : Pok pl) : hset (RP c C V W pl P R) pl (.inr (8, [.int (P 0 100 0), .int (P 0 101 0), .int (P 0 102 0), .ref (pl + 1), .ref (pl + 2), .ref (pl + 3), .int (P 0 106 0), .ref (pl + 4), .int x, .int (P 0 109 0), .ref (pl + 5), .ref (pl + 6), .ref (pl + 7), .ref (pl + 8), .ref (pl + 9), .ref (pl + 10), .ref (pl + 11), .ref (pl + 12), .int (P 0 118 0), .ref (pl + 13), .ref (pl + 14), .ref (pl + 15)])) = RP c C V W pl (su P 0 108 0 x) R := RP_setP hp (j := 0) (by omega) (hs_fld hokP (b := pl) (k := 8) (c := c) (S := P) (L := W) (R := R) (x := x) t_pl rfl)
theorem pl_war (hp : Pok pl) : hset (RP c C V W pl P R) pl (.inr (8, [.int (P 0 100 0), .int (P 0 101 0), .int (P 0 102 0), .ref (pl + 1), .ref (pl + 2), .ref (pl + 3), .int (P 0 106 0), .ref (pl + 4), .int (P 0 108 0), .int x, .ref (pl + 5), .ref (pl + 6), .ref (pl + 7), .ref (pl + 8), .ref (pl + 9), .ref (pl + 10), .ref (pl + 11), .ref (pl + 12), .int (P 0 118 0), .ref (pl + 13), .ref (pl + 14), .ref (pl + 15)])) = RP c C V W pl (su P 0 109 0 x) R := RP_setP hp (j := 0) (by omega) (hs_fld hokP (b := pl) (k := 9) (c := c) (S := P) (L := W) (R := R) (x := x) t_pl rfl)
theorem pl_wpairs (hp : Pok pl) : hset (RP c C V W pl P R) pl (.inr (8, [.int (P 0 100 0), .int (P 0 101 0), .int (P 0 102 0), .ref (pl + 1), .ref (pl + 2), .ref (pl + 3), .int (P 0 106 0), .ref (pl + 4), .int (P 0 108 0), .int (P 0 109 0), .ref (pl + 5), .ref (pl + 6), .ref (pl + 7), .ref (pl + 8), .ref (pl + 9), .ref (pl + 10), .ref (pl + 11), .ref (pl + 12), .int x, .ref (pl + 13), .ref (pl + 14), .ref (pl + 15)])) = RP c C V W pl (su P 0 118 0 x) R := RP_setP hp (j := 0) (by omega) (hs_fld hokP (b := pl) (k := 18) (c := c) (S := P) (L := W) (R := R) (x := x) t_pl rfl)
theorem Pok_300 (hp : Pok pl) : 300 ≤ pl := by rcases hp with h | h <;> omega
theorem pl_g0 (hp : Pok pl) {K : Value → Prop} : gP ((RP c C V W pl P R).2 (pl)) 8 0 K = K (.int (P 0 100 0)) := by
  rw [pl_at hp]
  rfl
theorem pl_g1 (hp : Pok pl) {K : Value → Prop} : gP ((RP c C V W pl P R).2 (pl)) 8 1 K = K (.int (P 0 101 0)) := by
  rw [pl_at hp]
  rfl
theorem pl_g2 (hp : Pok pl) {K : Value → Prop} : gP ((RP c C V W pl P R).2 (pl)) 8 2 K = K (.int (P 0 102 0)) := by
  rw [pl_at hp]
  rfl
theorem pl_g3 (hp : Pok pl) {K : Value → Prop} : gP ((RP c C V W pl P R).2 (pl)) 8 3 K = K (.ref (pl + 1)) := by
  rw [pl_at hp]
  rfl
theorem pl_g4 (hp : Pok pl) {K : Value → Prop} : gP ((RP c C V W pl P R).2 (pl)) 8 4 K = K (.ref (pl + 2)) := by
  rw [pl_at hp]
  rfl
theorem pl_g5 (hp : Pok pl) {K : Value → Prop} : gP ((RP c C V W pl P R).2 (pl)) 8 5 K = K (.ref (pl + 3)) := by
  rw [pl_at hp]
  rfl
theorem pl_g6 (hp : Pok pl) {K : Value → Prop} : gP ((RP c C V W pl P R).2 (pl)) 8 6 K = K (.int (P 0 106 0)) := by
  rw [pl_at hp]
  rfl
theorem pl_g7 (hp : Pok pl) {K : Value → Prop} : gP ((RP c C V W pl P R).2 (pl)) 8 7 K = K (.ref (pl + 4)) := by
  rw [pl_at hp]
  rfl
theorem pl_g8 (hp : Pok pl) {K : Value → Prop} : gP ((RP c C V W pl P R).2 (pl)) 8 8 K = K (.int (P 0 108 0)) := by
  rw [pl_at hp]
  rfl
theorem pl_g9 (hp : Pok pl) {K : Value → Prop} : gP ((RP c C V W pl P R).2 (pl)) 8 9 K = K (.int (P 0 109 0)) := by
  rw [pl_at hp]
  rfl
theorem pl_g10 (hp : Pok pl) {K : Value → Prop} : gP ((RP c C V W pl P R).2 (pl)) 8 10 K = K (.ref (pl + 5)) := by
  rw [pl_at hp]
  rfl
theorem pl_g11 (hp : Pok pl) {K : Value → Prop} : gP ((RP c C V W pl P R).2 (pl)) 8 11 K = K (.ref (pl + 6)) := by
  rw [pl_at hp]
  rfl
theorem pl_g12 (hp : Pok pl) {K : Value → Prop} : gP ((RP c C V W pl P R).2 (pl)) 8 12 K = K (.ref (pl + 7)) := by
  rw [pl_at hp]
  rfl
theorem pl_g13 (hp : Pok pl) {K : Value → Prop} : gP ((RP c C V W pl P R).2 (pl)) 8 13 K = K (.ref (pl + 8)) := by
  rw [pl_at hp]
  rfl
theorem pl_g14 (hp : Pok pl) {K : Value → Prop} : gP ((RP c C V W pl P R).2 (pl)) 8 14 K = K (.ref (pl + 9)) := by
  rw [pl_at hp]
  rfl
theorem pl_g15 (hp : Pok pl) {K : Value → Prop} : gP ((RP c C V W pl P R).2 (pl)) 8 15 K = K (.ref (pl + 10)) := by
  rw [pl_at hp]
  rfl
theorem pl_g16 (hp : Pok pl) {K : Value → Prop} : gP ((RP c C V W pl P R).2 (pl)) 8 16 K = K (.ref (pl + 11)) := by
  rw [pl_at hp]
  rfl
theorem pl_g17 (hp : Pok pl) {K : Value → Prop} : gP ((RP c C V W pl P R).2 (pl)) 8 17 K = K (.ref (pl + 12)) := by
  rw [pl_at hp]
  rfl
theorem pl_g18 (hp : Pok pl) {K : Value → Prop} : gP ((RP c C V W pl P R).2 (pl)) 8 18 K = K (.int (P 0 118 0)) := by
  rw [pl_at hp]
  rfl
theorem pl_g19 (hp : Pok pl) {K : Value → Prop} : gP ((RP c C V W pl P R).2 (pl)) 8 19 K = K (.ref (pl + 13)) := by
  rw [pl_at hp]
  rfl
theorem pl_g20 (hp : Pok pl) {K : Value → Prop} : gP ((RP c C V W pl P R).2 (pl)) 8 20 K = K (.ref (pl + 14)) := by
  rw [pl_at hp]
  rfl
theorem pl_g21 (hp : Pok pl) {K : Value → Prop} : gP ((RP c C V W pl P R).2 (pl)) 8 21 K = K (.ref (pl + 15)) := by
  rw [pl_at hp]
  rfl
theorem pl_r (hp : Pok pl) {X : Prop} : rP ((RP c C V W pl P R).2 (pl)) 8 X = X := by
  rw [pl_at hp]
  exact rP_mk
theorem pl_p0 (hp : Pok pl) {j pc : Nat} {ls : PL} {st : List Value} : pP ((RP c C V W pl P R).2 (pl)) 8 0 (ftOf 8 0) (.int x) (pl) (fun q => Wp d j pc ls st (hset (RP c C V W pl P R) (pl) q) Q) = Wp d j pc ls st (RP c C V W pl (su P 0 100 0 x) R) Q := by
  rw [pl_at hp, ft8_0, pP_int (Pok_300 hp) (by simp)]
  simp only [List.set_cons_zero, List.set_cons_succ]
  rw [pl_wlamps hp]
theorem pl_p1 (hp : Pok pl) {j pc : Nat} {ls : PL} {st : List Value} : pP ((RP c C V W pl P R).2 (pl)) 8 1 (ftOf 8 1) (.int x) (pl) (fun q => Wp d j pc ls st (hset (RP c C V W pl P R) (pl) q) Q) = Wp d j pc ls st (RP c C V W pl (su P 0 101 0 x) R) Q := by
  rw [pl_at hp, ft8_1, pP_int (Pok_300 hp) (by simp)]
  simp only [List.set_cons_zero, List.set_cons_succ]
  rw [pl_wrounds hp]
theorem pl_p2 (hp : Pok pl) {j pc : Nat} {ls : PL} {st : List Value} : pP ((RP c C V W pl P R).2 (pl)) 8 2 (ftOf 8 2) (.int x) (pl) (fun q => Wp d j pc ls st (hset (RP c C V W pl P R) (pl) q) Q) = Wp d j pc ls st (RP c C V W pl (su P 0 102 0 x) R) Q := by
  rw [pl_at hp, ft8_2, pP_int (Pok_300 hp) (by simp)]
  simp only [List.set_cons_zero, List.set_cons_succ]
  rw [pl_wacts hp]
theorem pl_p6 (hp : Pok pl) {j pc : Nat} {ls : PL} {st : List Value} : pP ((RP c C V W pl P R).2 (pl)) 8 6 (ftOf 8 6) (.int x) (pl) (fun q => Wp d j pc ls st (hset (RP c C V W pl P R) (pl) q) Q) = Wp d j pc ls st (RP c C V W pl (su P 0 106 0 x) R) Q := by
  rw [pl_at hp, ft8_6, pP_int (Pok_300 hp) (by simp)]
  simp only [List.set_cons_zero, List.set_cons_succ]
  rw [pl_wblocks hp]
theorem pl_p8 (hp : Pok pl) {j pc : Nat} {ls : PL} {st : List Value} : pP ((RP c C V W pl P R).2 (pl)) 8 8 (ftOf 8 8) (.int x) (pl) (fun q => Wp d j pc ls st (hset (RP c C V W pl P R) (pl) q) Q) = Wp d j pc ls st (RP c C V W pl (su P 0 108 0 x) R) Q := by
  rw [pl_at hp, ft8_8, pP_int (Pok_300 hp) (by simp)]
  simp only [List.set_cons_zero, List.set_cons_succ]
  rw [pl_wrr hp]
theorem pl_p9 (hp : Pok pl) {j pc : Nat} {ls : PL} {st : List Value} : pP ((RP c C V W pl P R).2 (pl)) 8 9 (ftOf 8 9) (.int x) (pl) (fun q => Wp d j pc ls st (hset (RP c C V W pl P R) (pl) q) Q) = Wp d j pc ls st (RP c C V W pl (su P 0 109 0 x) R) Q := by
  rw [pl_at hp, ft8_9, pP_int (Pok_300 hp) (by simp)]
  simp only [List.set_cons_zero, List.set_cons_succ]
  rw [pl_war hp]
theorem pl_p18 (hp : Pok pl) {j pc : Nat} {ls : PL} {st : List Value} : pP ((RP c C V W pl P R).2 (pl)) 8 18 (ftOf 8 18) (.int x) (pl) (fun q => Wp d j pc ls st (hset (RP c C V W pl P R) (pl) q) Q) = Wp d j pc ls st (RP c C V W pl (su P 0 118 0 x) R) Q := by
  rw [pl_at hp, ft8_18, pP_int (Pok_300 hp) (by simp)]
  simp only [List.set_cons_zero, List.set_cons_succ]
  rw [pl_wpairs hp]
theorem t_pl_post : tP[1]? = some (some (.inr (0, 10, (0, 0, 103, 0)))) := tq_eq (by decide +kernel)
theorem pl_post_at (hp : Pok pl) : (RP c C V W pl P R).2 (pl + 1) = some (.inl (0, 10, .inl (P 0 103))) := RP_pl hp (by omega) t_pl_post
theorem pl_post_wr (hp : Pok pl) {k : Nat} : hset (RP c C V W pl P R) (pl + 1) (.inl (0, 10, .inl (upd (P 0 103) k x))) = RP c C V W pl (su P 0 103 k x) R := RP_setP hp (by omega) (hs_row1 hokP (b := pl) (c := c) (S := P) (L := W) (R := R) (x := x) (i := k) t_pl_post)
theorem pl_post_a (hp : Pok pl) (hi : i < 10) {K : Int32 → Prop} : aP false ((RP c C V W pl P R).2 (pl + 1)) (Int32.ofNat i) K = K (P 0 103 i) := by
  rw [pl_post_at hp, aP_mk (inB_nat hi (by omega)), tN_nat (by omega)]
theorem pl_post_n (hp : Pok pl) {K : Int32 → Prop} : nP ((RP c C V W pl P R).2 (pl + 1)) K = K 10 := by
  rw [pl_post_at hp]
  rfl
theorem pl_post_s (hp : Pok pl) (hi : i < 10) {j pc : Nat} {ls : PL} {st : List Value} : asP false ((RP c C V W pl P R).2 (pl + 1)) (pl + 1) (Int32.ofNat i) x (fun q => Wp d j pc ls st (hset (RP c C V W pl P R) (pl + 1) q) Q) = Wp d j pc ls st (RP c C V W pl (su P 0 103 i x) R) Q := by
  rw [pl_post_at hp, asP_mk (by have := Pok_300 hp; omega) (inB_nat hi (by omega)), tN_nat (by omega), pl_post_wr hp]
theorem t_pl_room : tP[2]? = some (some (.inr (0, 10, (0, 0, 104, 0)))) := tq_eq (by decide +kernel)
theorem pl_room_at (hp : Pok pl) : (RP c C V W pl P R).2 (pl + 2) = some (.inl (0, 10, .inl (P 0 104))) := RP_pl hp (by omega) t_pl_room
theorem pl_room_wr (hp : Pok pl) {k : Nat} : hset (RP c C V W pl P R) (pl + 2) (.inl (0, 10, .inl (upd (P 0 104) k x))) = RP c C V W pl (su P 0 104 k x) R := RP_setP hp (by omega) (hs_row1 hokP (b := pl) (c := c) (S := P) (L := W) (R := R) (x := x) (i := k) t_pl_room)
theorem pl_room_a (hp : Pok pl) (hi : i < 10) {K : Int32 → Prop} : aP false ((RP c C V W pl P R).2 (pl + 2)) (Int32.ofNat i) K = K (P 0 104 i) := by
  rw [pl_room_at hp, aP_mk (inB_nat hi (by omega)), tN_nat (by omega)]
theorem pl_room_n (hp : Pok pl) {K : Int32 → Prop} : nP ((RP c C V W pl P R).2 (pl + 2)) K = K 10 := by
  rw [pl_room_at hp]
  rfl
theorem pl_room_s (hp : Pok pl) (hi : i < 10) {j pc : Nat} {ls : PL} {st : List Value} : asP false ((RP c C V W pl P R).2 (pl + 2)) (pl + 2) (Int32.ofNat i) x (fun q => Wp d j pc ls st (hset (RP c C V W pl P R) (pl + 2) q) Q) = Wp d j pc ls st (RP c C V W pl (su P 0 104 i x) R) Q := by
  rw [pl_room_at hp, asP_mk (by have := Pok_300 hp; omega) (inB_nat hi (by omega)), tN_nat (by omega), pl_room_wr hp]
theorem t_pl_first : tP[3]? = some (some (.inr (0, 400, (0, 0, 105, 0)))) := tq_eq (by decide +kernel)
theorem pl_first_at (hp : Pok pl) : (RP c C V W pl P R).2 (pl + 3) = some (.inl (0, 400, .inl (P 0 105))) := RP_pl hp (by omega) t_pl_first
theorem pl_first_wr (hp : Pok pl) {k : Nat} : hset (RP c C V W pl P R) (pl + 3) (.inl (0, 400, .inl (upd (P 0 105) k x))) = RP c C V W pl (su P 0 105 k x) R := RP_setP hp (by omega) (hs_row1 hokP (b := pl) (c := c) (S := P) (L := W) (R := R) (x := x) (i := k) t_pl_first)
theorem pl_first_a (hp : Pok pl) (hi : i < 400) {K : Int32 → Prop} : aP false ((RP c C V W pl P R).2 (pl + 3)) (Int32.ofNat i) K = K (P 0 105 i) := by
  rw [pl_first_at hp, aP_mk (inB_nat hi (by omega)), tN_nat (by omega)]
theorem pl_first_n (hp : Pok pl) {K : Int32 → Prop} : nP ((RP c C V W pl P R).2 (pl + 3)) K = K 400 := by
  rw [pl_first_at hp]
  rfl
theorem pl_first_s (hp : Pok pl) (hi : i < 400) {j pc : Nat} {ls : PL} {st : List Value} : asP false ((RP c C V W pl P R).2 (pl + 3)) (pl + 3) (Int32.ofNat i) x (fun q => Wp d j pc ls st (hset (RP c C V W pl P R) (pl + 3) q) Q) = Wp d j pc ls st (RP c C V W pl (su P 0 105 i x) R) Q := by
  rw [pl_first_at hp, asP_mk (by have := Pok_300 hp; omega) (inB_nat hi (by omega)), tN_nat (by omega), pl_first_wr hp]
theorem t_pl_block : tP[4]? = some (some (.inr (0, 400, (0, 0, 107, 0)))) := tq_eq (by decide +kernel)
theorem pl_block_at (hp : Pok pl) : (RP c C V W pl P R).2 (pl + 4) = some (.inl (0, 400, .inl (P 0 107))) := RP_pl hp (by omega) t_pl_block
theorem pl_block_wr (hp : Pok pl) {k : Nat} : hset (RP c C V W pl P R) (pl + 4) (.inl (0, 400, .inl (upd (P 0 107) k x))) = RP c C V W pl (su P 0 107 k x) R := RP_setP hp (by omega) (hs_row1 hokP (b := pl) (c := c) (S := P) (L := W) (R := R) (x := x) (i := k) t_pl_block)
theorem pl_block_a (hp : Pok pl) (hi : i < 400) {K : Int32 → Prop} : aP false ((RP c C V W pl P R).2 (pl + 4)) (Int32.ofNat i) K = K (P 0 107 i) := by
  rw [pl_block_at hp, aP_mk (inB_nat hi (by omega)), tN_nat (by omega)]
theorem pl_block_n (hp : Pok pl) {K : Int32 → Prop} : nP ((RP c C V W pl P R).2 (pl + 4)) K = K 400 := by
  rw [pl_block_at hp]
  rfl
theorem pl_block_s (hp : Pok pl) (hi : i < 400) {j pc : Nat} {ls : PL} {st : List Value} : asP false ((RP c C V W pl P R).2 (pl + 4)) (pl + 4) (Int32.ofNat i) x (fun q => Wp d j pc ls st (hset (RP c C V W pl P R) (pl + 4) q) Q) = Wp d j pc ls st (RP c C V W pl (su P 0 107 i x) R) Q := by
  rw [pl_block_at hp, asP_mk (by have := Pok_300 hp; omega) (inB_nat hi (by omega)), tN_nat (by omega), pl_block_wr hp]
theorem t_pl_does : tP[5]? = some (some (.inr (0, 400, (0, 0, 110, 0)))) := tq_eq (by decide +kernel)
theorem pl_does_at (hp : Pok pl) : (RP c C V W pl P R).2 (pl + 5) = some (.inl (0, 400, .inl (P 0 110))) := RP_pl hp (by omega) t_pl_does
theorem pl_does_wr (hp : Pok pl) {k : Nat} : hset (RP c C V W pl P R) (pl + 5) (.inl (0, 400, .inl (upd (P 0 110) k x))) = RP c C V W pl (su P 0 110 k x) R := RP_setP hp (by omega) (hs_row1 hokP (b := pl) (c := c) (S := P) (L := W) (R := R) (x := x) (i := k) t_pl_does)
theorem pl_does_a (hp : Pok pl) (hi : i < 400) {K : Int32 → Prop} : aP false ((RP c C V W pl P R).2 (pl + 5)) (Int32.ofNat i) K = K (P 0 110 i) := by
  rw [pl_does_at hp, aP_mk (inB_nat hi (by omega)), tN_nat (by omega)]
theorem pl_does_n (hp : Pok pl) {K : Int32 → Prop} : nP ((RP c C V W pl P R).2 (pl + 5)) K = K 400 := by
  rw [pl_does_at hp]
  rfl
theorem pl_does_s (hp : Pok pl) (hi : i < 400) {j pc : Nat} {ls : PL} {st : List Value} : asP false ((RP c C V W pl P R).2 (pl + 5)) (pl + 5) (Int32.ofNat i) x (fun q => Wp d j pc ls st (hset (RP c C V W pl P R) (pl + 5) q) Q) = Wp d j pc ls st (RP c C V W pl (su P 0 110 i x) R) Q := by
  rw [pl_does_at hp, asP_mk (by have := Pok_300 hp; omega) (inB_nat hi (by omega)), tN_nat (by omega), pl_does_wr hp]
theorem t_pl_next : tP[6]? = some (some (.inr (0, 400, (0, 0, 111, 0)))) := tq_eq (by decide +kernel)
theorem pl_next_at (hp : Pok pl) : (RP c C V W pl P R).2 (pl + 6) = some (.inl (0, 400, .inl (P 0 111))) := RP_pl hp (by omega) t_pl_next
theorem pl_next_wr (hp : Pok pl) {k : Nat} : hset (RP c C V W pl P R) (pl + 6) (.inl (0, 400, .inl (upd (P 0 111) k x))) = RP c C V W pl (su P 0 111 k x) R := RP_setP hp (by omega) (hs_row1 hokP (b := pl) (c := c) (S := P) (L := W) (R := R) (x := x) (i := k) t_pl_next)
theorem pl_next_a (hp : Pok pl) (hi : i < 400) {K : Int32 → Prop} : aP false ((RP c C V W pl P R).2 (pl + 6)) (Int32.ofNat i) K = K (P 0 111 i) := by
  rw [pl_next_at hp, aP_mk (inB_nat hi (by omega)), tN_nat (by omega)]
theorem pl_next_n (hp : Pok pl) {K : Int32 → Prop} : nP ((RP c C V W pl P R).2 (pl + 6)) K = K 400 := by
  rw [pl_next_at hp]
  rfl
theorem pl_next_s (hp : Pok pl) (hi : i < 400) {j pc : Nat} {ls : PL} {st : List Value} : asP false ((RP c C V W pl P R).2 (pl + 6)) (pl + 6) (Int32.ofNat i) x (fun q => Wp d j pc ls st (hset (RP c C V W pl P R) (pl + 6) q) Q) = Wp d j pc ls st (RP c C V W pl (su P 0 111 i x) R) Q := by
  rw [pl_next_at hp, asP_mk (by have := Pok_300 hp; omega) (inB_nat hi (by omega)), tN_nat (by omega), pl_next_wr hp]
theorem t_pl_value : tP[7]? = some (some (.inr (0, 400, (0, 0, 112, 0)))) := tq_eq (by decide +kernel)
theorem pl_value_at (hp : Pok pl) : (RP c C V W pl P R).2 (pl + 7) = some (.inl (0, 400, .inl (P 0 112))) := RP_pl hp (by omega) t_pl_value
theorem pl_value_wr (hp : Pok pl) {k : Nat} : hset (RP c C V W pl P R) (pl + 7) (.inl (0, 400, .inl (upd (P 0 112) k x))) = RP c C V W pl (su P 0 112 k x) R := RP_setP hp (by omega) (hs_row1 hokP (b := pl) (c := c) (S := P) (L := W) (R := R) (x := x) (i := k) t_pl_value)
theorem pl_value_a (hp : Pok pl) (hi : i < 400) {K : Int32 → Prop} : aP false ((RP c C V W pl P R).2 (pl + 7)) (Int32.ofNat i) K = K (P 0 112 i) := by
  rw [pl_value_at hp, aP_mk (inB_nat hi (by omega)), tN_nat (by omega)]
theorem pl_value_n (hp : Pok pl) {K : Int32 → Prop} : nP ((RP c C V W pl P R).2 (pl + 7)) K = K 400 := by
  rw [pl_value_at hp]
  rfl
theorem pl_value_s (hp : Pok pl) (hi : i < 400) {j pc : Nat} {ls : PL} {st : List Value} : asP false ((RP c C V W pl P R).2 (pl + 7)) (pl + 7) (Int32.ofNat i) x (fun q => Wp d j pc ls st (hset (RP c C V W pl P R) (pl + 7) q) Q) = Wp d j pc ls st (RP c C V W pl (su P 0 112 i x) R) Q := by
  rw [pl_value_at hp, asP_mk (by have := Pok_300 hp; omega) (inB_nat hi (by omega)), tN_nat (by omega), pl_value_wr hp]
theorem t_pl_target : tP[8]? = some (some (.inr (0, 400, (0, 0, 113, 0)))) := tq_eq (by decide +kernel)
theorem pl_target_at (hp : Pok pl) : (RP c C V W pl P R).2 (pl + 8) = some (.inl (0, 400, .inl (P 0 113))) := RP_pl hp (by omega) t_pl_target
theorem pl_target_wr (hp : Pok pl) {k : Nat} : hset (RP c C V W pl P R) (pl + 8) (.inl (0, 400, .inl (upd (P 0 113) k x))) = RP c C V W pl (su P 0 113 k x) R := RP_setP hp (by omega) (hs_row1 hokP (b := pl) (c := c) (S := P) (L := W) (R := R) (x := x) (i := k) t_pl_target)
theorem pl_target_a (hp : Pok pl) (hi : i < 400) {K : Int32 → Prop} : aP false ((RP c C V W pl P R).2 (pl + 8)) (Int32.ofNat i) K = K (P 0 113 i) := by
  rw [pl_target_at hp, aP_mk (inB_nat hi (by omega)), tN_nat (by omega)]
theorem pl_target_n (hp : Pok pl) {K : Int32 → Prop} : nP ((RP c C V W pl P R).2 (pl + 8)) K = K 400 := by
  rw [pl_target_at hp]
  rfl
theorem pl_target_s (hp : Pok pl) (hi : i < 400) {j pc : Nat} {ls : PL} {st : List Value} : asP false ((RP c C V W pl P R).2 (pl + 8)) (pl + 8) (Int32.ofNat i) x (fun q => Wp d j pc ls st (hset (RP c C V W pl P R) (pl + 8) q) Q) = Wp d j pc ls st (RP c C V W pl (su P 0 113 i x) R) Q := by
  rw [pl_target_at hp, asP_mk (by have := Pok_300 hp; omega) (inB_nat hi (by omega)), tN_nat (by omega), pl_target_wr hp]
theorem t_pl_then : tP[9]? = some (some (.inr (0, 400, (0, 0, 114, 0)))) := tq_eq (by decide +kernel)
theorem pl_then_at (hp : Pok pl) : (RP c C V W pl P R).2 (pl + 9) = some (.inl (0, 400, .inl (P 0 114))) := RP_pl hp (by omega) t_pl_then
theorem pl_then_wr (hp : Pok pl) {k : Nat} : hset (RP c C V W pl P R) (pl + 9) (.inl (0, 400, .inl (upd (P 0 114) k x))) = RP c C V W pl (su P 0 114 k x) R := RP_setP hp (by omega) (hs_row1 hokP (b := pl) (c := c) (S := P) (L := W) (R := R) (x := x) (i := k) t_pl_then)
theorem pl_then_a (hp : Pok pl) (hi : i < 400) {K : Int32 → Prop} : aP false ((RP c C V W pl P R).2 (pl + 9)) (Int32.ofNat i) K = K (P 0 114 i) := by
  rw [pl_then_at hp, aP_mk (inB_nat hi (by omega)), tN_nat (by omega)]
theorem pl_then_n (hp : Pok pl) {K : Int32 → Prop} : nP ((RP c C V W pl P R).2 (pl + 9)) K = K 400 := by
  rw [pl_then_at hp]
  rfl
theorem pl_then_s (hp : Pok pl) (hi : i < 400) {j pc : Nat} {ls : PL} {st : List Value} : asP false ((RP c C V W pl P R).2 (pl + 9)) (pl + 9) (Int32.ofNat i) x (fun q => Wp d j pc ls st (hset (RP c C V W pl P R) (pl + 9) q) Q) = Wp d j pc ls st (RP c C V W pl (su P 0 114 i x) R) Q := by
  rw [pl_then_at hp, asP_mk (by have := Pok_300 hp; omega) (inB_nat hi (by omega)), tN_nat (by omega), pl_then_wr hp]
theorem t_pl_other : tP[10]? = some (some (.inr (0, 400, (0, 0, 115, 0)))) := tq_eq (by decide +kernel)
theorem pl_other_at (hp : Pok pl) : (RP c C V W pl P R).2 (pl + 10) = some (.inl (0, 400, .inl (P 0 115))) := RP_pl hp (by omega) t_pl_other
theorem pl_other_wr (hp : Pok pl) {k : Nat} : hset (RP c C V W pl P R) (pl + 10) (.inl (0, 400, .inl (upd (P 0 115) k x))) = RP c C V W pl (su P 0 115 k x) R := RP_setP hp (by omega) (hs_row1 hokP (b := pl) (c := c) (S := P) (L := W) (R := R) (x := x) (i := k) t_pl_other)
theorem pl_other_a (hp : Pok pl) (hi : i < 400) {K : Int32 → Prop} : aP false ((RP c C V W pl P R).2 (pl + 10)) (Int32.ofNat i) K = K (P 0 115 i) := by
  rw [pl_other_at hp, aP_mk (inB_nat hi (by omega)), tN_nat (by omega)]
theorem pl_other_n (hp : Pok pl) {K : Int32 → Prop} : nP ((RP c C V W pl P R).2 (pl + 10)) K = K 400 := by
  rw [pl_other_at hp]
  rfl
theorem pl_other_s (hp : Pok pl) (hi : i < 400) {j pc : Nat} {ls : PL} {st : List Value} : asP false ((RP c C V W pl P R).2 (pl + 10)) (pl + 10) (Int32.ofNat i) x (fun q => Wp d j pc ls st (hset (RP c C V W pl P R) (pl + 10) q) Q) = Wp d j pc ls st (RP c C V W pl (su P 0 115 i x) R) Q := by
  rw [pl_other_at hp, asP_mk (by have := Pok_300 hp; omega) (inB_nat hi (by omega)), tN_nat (by omega), pl_other_wr hp]
theorem t_pl_cmps : tP[11]? = some (some (.inr (0, 400, (0, 0, 116, 0)))) := tq_eq (by decide +kernel)
theorem pl_cmps_at (hp : Pok pl) : (RP c C V W pl P R).2 (pl + 11) = some (.inl (0, 400, .inl (P 0 116))) := RP_pl hp (by omega) t_pl_cmps
theorem pl_cmps_wr (hp : Pok pl) {k : Nat} : hset (RP c C V W pl P R) (pl + 11) (.inl (0, 400, .inl (upd (P 0 116) k x))) = RP c C V W pl (su P 0 116 k x) R := RP_setP hp (by omega) (hs_row1 hokP (b := pl) (c := c) (S := P) (L := W) (R := R) (x := x) (i := k) t_pl_cmps)
theorem pl_cmps_a (hp : Pok pl) (hi : i < 400) {K : Int32 → Prop} : aP false ((RP c C V W pl P R).2 (pl + 11)) (Int32.ofNat i) K = K (P 0 116 i) := by
  rw [pl_cmps_at hp, aP_mk (inB_nat hi (by omega)), tN_nat (by omega)]
theorem pl_cmps_n (hp : Pok pl) {K : Int32 → Prop} : nP ((RP c C V W pl P R).2 (pl + 11)) K = K 400 := by
  rw [pl_cmps_at hp]
  rfl
theorem pl_cmps_s (hp : Pok pl) (hi : i < 400) {j pc : Nat} {ls : PL} {st : List Value} : asP false ((RP c C V W pl P R).2 (pl + 11)) (pl + 11) (Int32.ofNat i) x (fun q => Wp d j pc ls st (hset (RP c C V W pl P R) (pl + 11) q) Q) = Wp d j pc ls st (RP c C V W pl (su P 0 116 i x) R) Q := by
  rw [pl_cmps_at hp, asP_mk (by have := Pok_300 hp; omega) (inB_nat hi (by omega)), tN_nat (by omega), pl_cmps_wr hp]
theorem t_pl_cend : tP[12]? = some (some (.inr (0, 400, (0, 0, 117, 0)))) := tq_eq (by decide +kernel)
theorem pl_cend_at (hp : Pok pl) : (RP c C V W pl P R).2 (pl + 12) = some (.inl (0, 400, .inl (P 0 117))) := RP_pl hp (by omega) t_pl_cend
theorem pl_cend_wr (hp : Pok pl) {k : Nat} : hset (RP c C V W pl P R) (pl + 12) (.inl (0, 400, .inl (upd (P 0 117) k x))) = RP c C V W pl (su P 0 117 k x) R := RP_setP hp (by omega) (hs_row1 hokP (b := pl) (c := c) (S := P) (L := W) (R := R) (x := x) (i := k) t_pl_cend)
theorem pl_cend_a (hp : Pok pl) (hi : i < 400) {K : Int32 → Prop} : aP false ((RP c C V W pl P R).2 (pl + 12)) (Int32.ofNat i) K = K (P 0 117 i) := by
  rw [pl_cend_at hp, aP_mk (inB_nat hi (by omega)), tN_nat (by omega)]
theorem pl_cend_n (hp : Pok pl) {K : Int32 → Prop} : nP ((RP c C V W pl P R).2 (pl + 12)) K = K 400 := by
  rw [pl_cend_at hp]
  rfl
theorem pl_cend_s (hp : Pok pl) (hi : i < 400) {j pc : Nat} {ls : PL} {st : List Value} : asP false ((RP c C V W pl P R).2 (pl + 12)) (pl + 12) (Int32.ofNat i) x (fun q => Wp d j pc ls st (hset (RP c C V W pl P R) (pl + 12) q) Q) = Wp d j pc ls st (RP c C V W pl (su P 0 117 i x) R) Q := by
  rw [pl_cend_at hp, asP_mk (by have := Pok_300 hp; omega) (inB_nat hi (by omega)), tN_nat (by omega), pl_cend_wr hp]
theorem t_pl_left : tP[13]? = some (some (.inr (0, 400, (0, 0, 119, 0)))) := tq_eq (by decide +kernel)
theorem pl_left_at (hp : Pok pl) : (RP c C V W pl P R).2 (pl + 13) = some (.inl (0, 400, .inl (P 0 119))) := RP_pl hp (by omega) t_pl_left
theorem pl_left_wr (hp : Pok pl) {k : Nat} : hset (RP c C V W pl P R) (pl + 13) (.inl (0, 400, .inl (upd (P 0 119) k x))) = RP c C V W pl (su P 0 119 k x) R := RP_setP hp (by omega) (hs_row1 hokP (b := pl) (c := c) (S := P) (L := W) (R := R) (x := x) (i := k) t_pl_left)
theorem pl_left_a (hp : Pok pl) (hi : i < 400) {K : Int32 → Prop} : aP false ((RP c C V W pl P R).2 (pl + 13)) (Int32.ofNat i) K = K (P 0 119 i) := by
  rw [pl_left_at hp, aP_mk (inB_nat hi (by omega)), tN_nat (by omega)]
theorem pl_left_n (hp : Pok pl) {K : Int32 → Prop} : nP ((RP c C V W pl P R).2 (pl + 13)) K = K 400 := by
  rw [pl_left_at hp]
  rfl
theorem pl_left_s (hp : Pok pl) (hi : i < 400) {j pc : Nat} {ls : PL} {st : List Value} : asP false ((RP c C V W pl P R).2 (pl + 13)) (pl + 13) (Int32.ofNat i) x (fun q => Wp d j pc ls st (hset (RP c C V W pl P R) (pl + 13) q) Q) = Wp d j pc ls st (RP c C V W pl (su P 0 119 i x) R) Q := by
  rw [pl_left_at hp, asP_mk (by have := Pok_300 hp; omega) (inB_nat hi (by omega)), tN_nat (by omega), pl_left_wr hp]
theorem t_pl_sign : tP[14]? = some (some (.inr (0, 400, (0, 0, 120, 0)))) := tq_eq (by decide +kernel)
theorem pl_sign_at (hp : Pok pl) : (RP c C V W pl P R).2 (pl + 14) = some (.inl (0, 400, .inl (P 0 120))) := RP_pl hp (by omega) t_pl_sign
theorem pl_sign_wr (hp : Pok pl) {k : Nat} : hset (RP c C V W pl P R) (pl + 14) (.inl (0, 400, .inl (upd (P 0 120) k x))) = RP c C V W pl (su P 0 120 k x) R := RP_setP hp (by omega) (hs_row1 hokP (b := pl) (c := c) (S := P) (L := W) (R := R) (x := x) (i := k) t_pl_sign)
theorem pl_sign_a (hp : Pok pl) (hi : i < 400) {K : Int32 → Prop} : aP false ((RP c C V W pl P R).2 (pl + 14)) (Int32.ofNat i) K = K (P 0 120 i) := by
  rw [pl_sign_at hp, aP_mk (inB_nat hi (by omega)), tN_nat (by omega)]
theorem pl_sign_n (hp : Pok pl) {K : Int32 → Prop} : nP ((RP c C V W pl P R).2 (pl + 14)) K = K 400 := by
  rw [pl_sign_at hp]
  rfl
theorem pl_sign_s (hp : Pok pl) (hi : i < 400) {j pc : Nat} {ls : PL} {st : List Value} : asP false ((RP c C V W pl P R).2 (pl + 14)) (pl + 14) (Int32.ofNat i) x (fun q => Wp d j pc ls st (hset (RP c C V W pl P R) (pl + 14) q) Q) = Wp d j pc ls st (RP c C V W pl (su P 0 120 i x) R) Q := by
  rw [pl_sign_at hp, asP_mk (by have := Pok_300 hp; omega) (inB_nat hi (by omega)), tN_nat (by omega), pl_sign_wr hp]
theorem t_pl_right : tP[15]? = some (some (.inr (0, 400, (0, 0, 121, 0)))) := tq_eq (by decide +kernel)
theorem pl_right_at (hp : Pok pl) : (RP c C V W pl P R).2 (pl + 15) = some (.inl (0, 400, .inl (P 0 121))) := RP_pl hp (by omega) t_pl_right
theorem pl_right_wr (hp : Pok pl) {k : Nat} : hset (RP c C V W pl P R) (pl + 15) (.inl (0, 400, .inl (upd (P 0 121) k x))) = RP c C V W pl (su P 0 121 k x) R := RP_setP hp (by omega) (hs_row1 hokP (b := pl) (c := c) (S := P) (L := W) (R := R) (x := x) (i := k) t_pl_right)
theorem pl_right_a (hp : Pok pl) (hi : i < 400) {K : Int32 → Prop} : aP false ((RP c C V W pl P R).2 (pl + 15)) (Int32.ofNat i) K = K (P 0 121 i) := by
  rw [pl_right_at hp, aP_mk (inB_nat hi (by omega)), tN_nat (by omega)]
theorem pl_right_n (hp : Pok pl) {K : Int32 → Prop} : nP ((RP c C V W pl P R).2 (pl + 15)) K = K 400 := by
  rw [pl_right_at hp]
  rfl
theorem pl_right_s (hp : Pok pl) (hi : i < 400) {j pc : Nat} {ls : PL} {st : List Value} : asP false ((RP c C V W pl P R).2 (pl + 15)) (pl + 15) (Int32.ofNat i) x (fun q => Wp d j pc ls st (hset (RP c C V W pl P R) (pl + 15) q) Q) = Wp d j pc ls st (RP c C V W pl (su P 0 121 i x) R) Q := by
  rw [pl_right_at hp, asP_mk (by have := Pok_300 hp; omega) (inB_nat hi (by omega)), tN_nat (by omega), pl_right_wr hp]
end LOOKR
