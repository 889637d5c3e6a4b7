/-! THE GRAMMAR IN LOCKSTEP: names and numbers of lamps and rounds -/
section NAMS
variable {b pl n m k c a j A A' cc cS cc' cS' E E' M M' NR R' dp nn : Nat} {qf lf : Nat → Nat} {T : Nat → Int32} {S S' S0 S1 V V' V0 V1 P P' P1 U U' : S3} {L L' L0 L1 : L3} {x y z w lo hi ρ : Int32} {hc hcR : Nat × Nat × Nat} {R RB C : Nat → Option PC} {W : L3}
theorem ptL_vne {g v nn g' v' : Nat} {z : Int64} (h : ¬ (g' = g ∧ v' = v)) : ptL L g v nn x z g' v' = L g' v' := by
  unfold ptL
  split
  · exact sl_vne h
  · rfl
theorem e2_1 (h : V 4 214 k = 1) : e2 V T qf lf k P = if tkn V T qf lf k = true then (2, P) else if P 0 100 0 = 10 then (4, P) else (0, su P 0 100 0 (P 0 100 0 + 1)) := by
  unfold e2
  rw [h]
  rfl
theorem e2_2 (h : V 4 214 k = 2) : e2 V T qf lf k P = if tkn V T qf lf k = true then (2, P) else if P 0 101 0 = 6 then (4, P) else (0, su P 0 101 0 (P 0 101 0 + 1)) := by
  unfold e2
  rw [h]
  rfl
theorem e2_3 (h : V 4 214 k = 3) : e2 V T qf lf k P = (if nmI T (qf k) (lf k) 0 0 < 0 then 5 else if 29 < nmI T (qf k) (lf k) 0 0 then 5 else 0, su P 0 103 (P 0 100 0 - 1).toNatClampNeg (nmI T (qf k) (lf k) 0 0)) := by
  unfold e2
  rw [h]
  rfl
theorem e2_4 (h : V 4 214 k = 4) : e2 V T qf lf k P = (if nmI T (qf k) (lf k) 0 0 < 1 then 5 else if 30 < nmI T (qf k) (lf k) 0 0 then 5 else 0, su P 0 104 (P 0 100 0 - 1).toNatClampNeg (nmI T (qf k) (lf k) 0 0)) := by
  unfold e2
  rw [h]
  rfl
theorem num_29 : ∀ v, v < 1000 → (if Int32.ofNat v < 0 then (5 : Int32) else if 29 < Int32.ofNat v then 5 else 0) = if okN (Int64.ofNat v) 0 29 = true then 0 else 5 := by decide +kernel
theorem num_30 : ∀ v, v < 1000 → (if Int32.ofNat v < 1 then (5 : Int32) else if 30 < Int32.ofNat v then 5 else 0) = if okN (Int64.ofNat v) 1 30 = true then 0 else 5 := by decide +kernel
theorem ok_29 : ∀ v, v < 1000 → okN (Int64.ofNat v) 0 29 = true → v ≤ 29 := by decide +kernel
theorem num_G (H : bse b pl n m qf T S0 L0 V0) (h : Gk b m qf T S0 L0 V0 k dp A cc cS E M (M + 1) NR R' S L V P) {rr vv : Nat} (hr : rr = 3 ∨ rr = 4) (hvv : vv = 103 ∨ vv = 104) (hρ : ρ = Int32.ofNat rr) (hp : ∀ L, putF hc L R a x (fun S y => pt S (2 + b) (vv + 1) 10 x y))
    (he2 : ∀ (V1 U : S3), V1 4 214 k = ρ → e2 V1 T qf (fun a => tkL T (qf a)) k U = (if nmI T (qf k) (tkL T (qf k)) 0 0 < lo then 5 else if hi < nmI T (qf k) (tkL T (qf k)) 0 0 then 5 else 0, su U 0 vv (U 0 100 0 - 1).toNatClampNeg (nmI T (qf k) (tkL T (qf k)) 0 0)))
    (hn : ∀ v, v < 1000 → (if Int32.ofNat v < lo then (5 : Int32) else if hi < Int32.ofNat v then 5 else 0) = if okN (Int64.ofNat v) lo hi = true then 0 else 5) :
    (Fk b m qf S0 L0 V0 S L (su V 4 214 k ρ) ∧ RC hc R 2 31 [.ref 317, .ref a, .int x, .int lo, .int hi] S L 0 S L ∧ RR hcR C W pl RB 3 161 [.ref 395, .int 41, .int ρ] V P 0 (su V 4 214 k ρ) P) ∨
    ∃ S' V', k < m ∧ Gk b m qf T S0 L0 V0 (k + 1) dp A cc cS E M (M + 1) NR R' S' (stV (k + 1) L) V' P ∧ RC hc R 2 31 [.ref 317, .ref a, .int x, .int lo, .int hi] S L 1 S' (stV (k + 1) L) ∧ RR hcR C W pl RB 3 161 [.ref 395, .int 41, .int ρ] V P 1 V' P ∧
      (S' 4 203 0 = 0 → S 4 203 0 = 0 ∧ ∃ v, v < 1000 ∧ okN (Int64.ofNat v) lo hi = true ∧ S' = stS (k + 1) (pt S (2 + b) (vv + 1) 10 x (Int32.ofNat v)) ∧ (p2 V' T qf (k + 1)).2.2 = su (p2 V T qf k).2.2 0 vv M (Int32.ofNat v)) := by
  have hb := H.1
  have hm := H.2.2.2.2.2.2.1
  obtain ⟨g1, F, g3, g4, g5⟩ := id h
  have u4 := g1.2.2.2.2.2.1
  have km := g1.1
  have hρ1 : ρ ≠ 1 := by rw [hρ]; rcases hr with rfl | rfl <;> decide
  have hρ2 : ρ ≠ 2 := by rw [hρ]; rcases hr with rfl | rfl <;> decide
  by_cases h24 : S 4 211 k = Int32.ofNat 24
  · obtain ⟨hk, e41, e201, e200, -, -⟩ := acc_G H h (by decide) h24
    obtain ⟨v, hv, ev, en⟩ := num_v (bse_24 H F hk h24)
    have eL : L 4 0 0 = Int64.ofNat v := by rw [g1.2.2.2.2.1, (bse_t H F km).2.2.2.1, ev]
    have e202 : S 4 202 0 = Int32.ofNat (qf k) := g1.2.2.2.1.trans (bse_t H F km).2.2.1
    have n2 := (num_99 v (by omega)).2.1
    have key : ∀ U : S3, U 0 100 0 = Int32.ofNat (M + 1) → M + 1 ≤ 10 → e2 (su V 4 214 k ρ) T qf (fun a => tkL T (qf a)) k U = (if okN (Int64.ofNat v) lo hi = true then 0 else 5, su U 0 vv M (Int32.ofNat v)) := fun U hU hM => by
      rw [he2 _ _ su_self, en, hn v (by omega), hU, ofN_s1, tN_nat (by omega)]
    have hms : ∀ g w, ¬ (g = 4 ∧ (w = 203 ∨ w = 204)) → (if okN (L 4 0 0) lo hi = true then S else msS 5 S) g w = S g w := fun g w q => by
      split
      · rfl
      · exact ms_ne q
    have t := G_step (ρ := ρ) (S1 := pt (if okN (L 4 0 0) lo hi = true then S else msS 5 S) (2 + b) (vv + 1) 10 x (L 4 0 0).toInt32) (L1 := L) (A' := A) (cS' := cS) (M2 := M) (M3 := M + 1) (NR2 := NR) H h hk (B8_eq g1.2.2.2.2.2.2.2 ((pt_vne (by omega)).trans (hms (2 + b) 102 (by omega)))) (fun g w q => by
      rw [pt_vne (fun e => q (Or.inl ⟨e.1, by omega⟩)), hms g w (fun e => q (Or.inr ⟨e.1, by omega⟩))]) (fun _ _ _ => rfl) (CP_next g4) (fun hne => by
      rw [pt_vne (by omega), pt_vne (by omega)]
      split
      · exact ⟨rfl, rfl⟩
      · rw [ms_1 hne]; exact ⟨rfl, rfl⟩) (fun a1 a2 a3 => by
      have c1 := a3.1
      rw [key _ c1.2.2.1 c1.2.2.2, pt_vne (by omega), pt_vne (by omega), eL]
      refine ⟨pre2_CO (r := rr) a3 (by omega) (by rw [su_self, hρ]) (by omega) (by omega), ?_, fun q => ?_, fun q => ?_⟩
      · by_cases c9 : okN (Int64.ofNat v) lo hi = true
        · rw [if_pos c9, if_pos c9]; exact a1
        · rw [if_neg c9, if_neg c9]; exact (ms_0 a1).1
      · by_cases c9 : okN (Int64.ofNat v) lo hi = true
        · exact absurd (if_pos c9) q
        · rw [if_neg c9, (ms_0 a1).2, e202]
      · have c9 : okN (Int64.ofNat v) lo hi = true := by
          by_cases c9 : okN (Int64.ofNat v) lo hi = true
          · exact c9
          · exact absurd ((if_neg c9).symm.trans q) (by decide)
        rw [if_pos c9]
        exact ⟨a2, CO_next a3 (by rw [su_self]; exact hρ1) (by rw [su_self]; exact hρ2) (fun v q1 q2 => by rw [pt_vne (by omega)]) (fun w q1 q2 => by show su (p2 V T qf k).2.2 0 vv M (Int32.ofNat v) 0 w 0 = _; rw [su_ne (by omega)])⟩)
    refine Or.inr ⟨_, _, hk, t.1, fun d Q => ?_, fun d Q => ?_, fun q0 => ?_⟩
    · have q := k31 (S := S) (k := k + 1) (d := d) (Q := Q) (lo := lo) (hi := hi) (F := fun S y => pt S (2 + b) (vv + 1) 10 x y) (hp L) (fun S y => by rw [pt_vne (by omega)]) e201 e200 (by omega)
      exact q
    · exact r161 u4 (by omega) e41
    · obtain ⟨q1, q2⟩ := t.2 q0
      have c1 := (Gk_cnt h q1).1
      have c9 : okN (Int64.ofNat v) lo hi = true := by
        by_cases c9 : okN (Int64.ofNat v) lo hi = true
        · exact c9
        · rw [st_ne (by omega), pt_vne (by omega), eL, if_neg c9, (ms_0 q1).1] at q0
          exact absurd q0 (by decide)
      refine ⟨q1, v, by omega, c9, ?_, ?_⟩
      · rw [eL, if_pos c9, n2]
      · rw [q2, key _ c1.2.2.1 c1.2.2.2]
  · obtain ⟨n1, n2⟩ := k_no H h (by decide) h24
    exact Or.inl ⟨⟨k, km, g1.2.2.2.1.trans (bse_t H F km).2.2.1, by rw [su_ne (by decide)]; exact u4, fr3_V F (Or.inr (Or.inr rfl))⟩, fun d Q => k31_no n2, fun d Q => r161_no u4 (by omega) n1⟩
theorem nm_sb {f : Int32} : sameBut (pS b) S (nmS b S L f) := by
  unfold nmS
  split
  · split
    · exact sbt_refl
    · exact ms_sb
  · exact ms_sb
theorem nm_8 (hb : b < 2) {f : Int32} {g v : Nat} (h : ¬ (g = 4 ∧ (v = 203 ∨ v = 204))) : nmS b S L f g v = S g v := by
  unfold nmS
  split
  · split
    · rfl
    · exact ms_ne h
  · exact ms_ne h
theorem nm_1 {f : Int32} (h : S 4 203 0 ≠ 0) : nmS b S L f = S := by
  unfold nmS
  split
  · split
    · rfl
    · exact ms_1 h
  · exact ms_1 h
theorem tkn_iff : tkn V T qf lf k = true ↔ ¬ (tdI V T qf lf k 1 k 0 0 = -1 ∧ tdI V T qf lf k 2 k 0 0 = -1) := by
  unfold tkn
  by_cases h1 : tdI V T qf lf k 1 k 0 0 = -1 <;> by_cases h2 : tdI V T qf lf k 2 k 0 0 = -1 <;> simp [h1, h2]
/-- a new name; s: its sort, 1 of a lamp, 2 of a round -/
theorem NM_1 (h : NM qf T k M' R' L V) (h1 : V 4 214 k = 1) (hn : nmT T (qf k)) {z : Int64} (hz : z = tkV T (qf k)) (hM : M' < 10) : NM qf T (k + 1) (M' + 1) R' (ptL L 4 3 10 (Int32.ofNat M') z) V := by
  obtain ⟨a1, a2, a3, a4⟩ := h
  have e3 : ptL L 4 3 10 (Int32.ofNat M') z = sl L 4 3 M' z := by
    unfold ptL
    rw [if_pos (inB_nat hM (by omega)), tN_nat (by omega)]
  rw [e3]
  refine ⟨by rw [rc, if_pos h1, a1], by rw [rc, if_neg (by rw [h1]; decide)]; exact a2, fun u hu q => ?_, fun u hu q => ?_⟩
  · by_cases e : u = k
    · rw [e, a1, sl_self]; exact ⟨hn, hz⟩
    · have := rc_lt (t := k) q (by omega)
      rw [sl_off (by omega)]
      exact a3 u (by omega) q
  · have e : u ≠ k := fun e => by rw [e, h1] at q; exact absurd q (by decide)
    rw [sl_vne (by decide)]
    exact a4 u (by omega) q
theorem NM_2 (h : NM qf T k M' R' L V) (h1 : V 4 214 k = 2) (hn : nmT T (qf k)) {z : Int64} (hz : z = tkV T (qf k)) (hM : R' < 6) : NM qf T (k + 1) M' (R' + 1) (ptL L 4 4 6 (Int32.ofNat R') z) V := by
  obtain ⟨a1, a2, a3, a4⟩ := h
  have e3 : ptL L 4 4 6 (Int32.ofNat R') z = sl L 4 4 R' z := by
    unfold ptL
    rw [if_pos (inB_nat hM (by omega)), tN_nat (by omega)]
  rw [e3]
  refine ⟨by rw [rc, if_neg (by rw [h1]; decide)]; exact a1, by rw [rc, if_pos h1, a2], fun u hu q => ?_, fun u hu q => ?_⟩
  · have e : u ≠ k := fun e => by rw [e, h1] at q; exact absurd q (by decide)
    rw [sl_vne (by decide)]
    exact a3 u (by omega) q
  · by_cases e : u = k
    · rw [e, a2, sl_self]; exact ⟨hn, hz⟩
    · have := rc_lt (t := k) q (by omega)
      rw [sl_off (by omega)]
      exact a4 u (by omega) q
theorem lname_G (H : bse b pl n m qf T S0 L0 V0) (h : Gk b m qf T S0 L0 V0 k dp A cc cS E M M NR NR S L V P) (h23 : S 4 211 k = Int32.ofNat 23) :
    Gk b m qf T S0 L0 V0 (k + 1) dp A cc cS E M (M + 1) NR NR (stS (k + 1) (nmS b S L (if S (2 + b) 100 0 < 10 then 0 else 1))) (stV (k + 1) (ptL L 4 3 10 (S (2 + b) 100 0) (L 4 0 0))) (su (su V 4 214 k 1) 4 203 0 (Int32.ofNat (k + 1))) P ∧
      (stS (k + 1) (nmS b S L (if S (2 + b) 100 0 < 10 then 0 else 1)) 4 203 0 = 0 → S 4 203 0 = 0 ∧ M < 10 ∧ S (2 + b) 100 0 = Int32.ofNat M ∧ nmS b S L (if S (2 + b) 100 0 < 10 then 0 else 1) = S ∧ (p2 (su (su V 4 214 k 1) 4 203 0 (Int32.ofNat (k + 1))) T qf (k + 1)).2.2 = su (p2 V T qf k).2.2 0 100 0 (Int32.ofNat (M + 1))) := by
  have hb := H.1
  obtain ⟨g1, F, g3, g4, g5⟩ := id h
  have km := g1.1
  obtain ⟨hk, e40, e201, e200, -, -⟩ := acc_G H h (by decide) h23
  have hn := bse_23 H F hk h23
  have eL : L 4 0 0 = tkV T (qf k) := g1.2.2.2.2.1.trans (bse_t H F km).2.2.2.1
  have e202 : S 4 202 0 = Int32.ofNat (qf k) := g1.2.2.2.1.trans (bse_t H F km).2.2.1
  have key : ∀ U : S3, CO b qf T k M M NR NR A cS S L (su V 4 214 k 1) U → (nmS b S L (if S (2 + b) 100 0 < 10 then 0 else 1), e2 (su V 4 214 k 1) T qf (fun a => tkL T (qf a)) k U) = (if (ixL (L 4 3) (L 4 0 0) (Int32.ofNat M) 10 0 = -1 ∧ ixL (L 4 4) (L 4 0 0) (Int32.ofNat NR) 6 0 = -1) then (if M < 10 then (S, (0, su U 0 100 0 (Int32.ofNat (M + 1)))) else (msS 4 S, (4, U))) else (msS 2 S, (2, U))) := fun U a3 => by
    obtain ⟨⟨c1, c2, c3, c4⟩, ⟨d1, d2, d3, d4⟩, -, -, e5⟩ := a3
    rw [e2_1 su_self]
    have ht : tkn (su V 4 214 k 1) T qf (fun a => tkL T (qf a)) k = true ↔ ¬ (ixL (L 4 3) (L 4 0 0) (Int32.ofNat M) 10 0 = -1 ∧ ixL (L 4 4) (L 4 0 0) (Int32.ofNat NR) 6 0 = -1) := by
      rw [tkn_iff, told_1 e5 c4 hn, told_2 e5 d4 hn, eL]
    unfold nmS
    rw [c1, d1, c3]
    by_cases g : ixL (L 4 3) (L 4 0 0) (Int32.ofNat M) 10 0 = -1 ∧ ixL (L 4 4) (L 4 0 0) (Int32.ofNat NR) 6 0 = -1
    · rw [if_pos g, if_pos g, if_neg (fun q => ht.mp q g)]
      by_cases g2 : M < 10
      · have hlt : Int32.ofNat M < 10 := (ofN_lt (m := 10) (by omega) (by omega)).mpr g2
        have hne : ¬ Int32.ofNat M = 10 := fun q => absurd (ofN_inj (b := 10) (by omega) (by omega) q) (by omega)
        rw [if_pos g2, if_pos hlt, if_pos rfl, if_neg hne, ofN_a1]
      · have hlt : ¬ Int32.ofNat M < 10 := fun q => g2 ((ofN_lt (m := 10) (by omega) (by omega)).mp q)
        rw [if_neg g2, if_neg hlt, if_neg (by decide), if_pos (show Int32.ofNat M = 10 by rw [show M = 10 by omega]; rfl)]
    · rw [if_neg g, if_neg g, if_pos (ht.mpr g)]
  have t := G_step (ρ := 1) (S1 := nmS b S L (if S (2 + b) 100 0 < 10 then 0 else 1)) (L1 := ptL L 4 3 10 (S (2 + b) 100 0) (L 4 0 0)) (A' := A) (cS' := cS) (M2 := M) (M3 := M + 1) (NR2 := NR) H h hk (B8_eq g1.2.2.2.2.2.2.2 (nm_8 hb (by omega))) nm_sb (fun g v q => ptL_vne (fun e => q ⟨e.1, Or.inr (Or.inl e.2)⟩)) (CP_next g4) (fun q => by rw [nm_1 q]; exact ⟨rfl, rfl⟩) (fun a1 a2 a3 => by
    have k1 := key _ a3
    have e1 := congrArg Prod.fst k1
    have e2' := congrArg Prod.snd k1
    simp only at e1 e2'
    refine ⟨pre2_CO (r := 1) a3 (by decide) su_self (by omega) (by omega), ?_⟩
    rw [e1, e2']
    by_cases g : ixL (L 4 3) (L 4 0 0) (Int32.ofNat M) 10 0 = -1 ∧ ixL (L 4 4) (L 4 0 0) (Int32.ofNat NR) 6 0 = -1
    · rw [if_pos g]
      by_cases g2 : M < 10
      · rw [if_pos g2]
        refine ⟨a1, fun q => absurd rfl q, fun _ => ⟨a2, ?_⟩⟩
        obtain ⟨⟨c1, c2, c3, c4⟩, d, f, e4, e5⟩ := a3
        show CO b qf T (k + 1) M (M + 1) NR NR A cS S (ptL L 4 3 10 (S (2 + b) 100 0) (L 4 0 0)) (su V 4 214 k 1) (su (p2 V T qf k).2.2 0 100 0 (Int32.ofNat (M + 1)))
        unfold CO
        rw [su_self, su_ne (v' := 101) (by decide), su_ne (v' := 102) (by decide), c1]
        exact ⟨⟨rfl, c2, rfl, by omega⟩, d, f, e4, NM_1 e5 su_self hn eL g2⟩
      · rw [if_neg g2]
        exact ⟨(ms_0 a1).1, fun _ => (ms_0 a1).2.trans e202, fun q => absurd (show (4 : Int32) = 0 from q) (by decide)⟩
    · rw [if_neg g]
      exact ⟨(ms_0 a1).1, fun _ => (ms_0 a1).2.trans e202, fun q => absurd (show (2 : Int32) = 0 from q) (by decide)⟩)
  refine ⟨t.1, fun q0 => ?_⟩
  obtain ⟨q1, q2⟩ := t.2 q0
  have cc1 := CO_V (V1 := su V 4 214 k 1) (Gk_cnt h q1) (fun u hu => su_off (by omega))
  have k1 := key _ cc1
  have e1 := congrArg Prod.fst k1
  have e2' := congrArg Prod.snd k1
  simp only at e1 e2'
  rw [st_ne (by omega), e1] at q0
  rw [q2, e2', e1]
  by_cases g : ixL (L 4 3) (L 4 0 0) (Int32.ofNat M) 10 0 = -1 ∧ ixL (L 4 4) (L 4 0 0) (Int32.ofNat NR) 6 0 = -1
  · rw [if_pos g] at q0 ⊢
    by_cases g2 : M < 10
    · rw [if_pos g2]
      exact ⟨q1, g2, cc1.1.1, rfl, rfl⟩
    · rw [if_neg g2] at q0
      have q3 : msS 4 S 4 203 0 = 0 := q0
      rw [(ms_0 q1).1] at q3
      exact absurd q3 (by decide)
  · rw [if_neg g] at q0
    have q3 : msS 2 S 4 203 0 = 0 := q0
    rw [(ms_0 q1).1] at q3
    exact absurd q3 (by decide)
theorem rname_G (H : bse b pl n m qf T S0 L0 V0) (h : Gk b m qf T S0 L0 V0 k dp A cc cS E M M NR NR S L V P) (h23 : S 4 211 k = Int32.ofNat 23) :
    Gk b m qf T S0 L0 V0 (k + 1) dp A cc cS E M M NR (NR + 1) (stS (k + 1) (nmS b S L (if S (2 + b) 101 0 < 6 then 0 else 1))) (stV (k + 1) (ptL L 4 4 6 (S (2 + b) 101 0) (L 4 0 0))) (su (su V 4 214 k 2) 4 203 0 (Int32.ofNat (k + 1))) (su P 0 108 0 (Int32.ofNat (NR + 1))) ∧
      (stS (k + 1) (nmS b S L (if S (2 + b) 101 0 < 6 then 0 else 1)) 4 203 0 = 0 → S 4 203 0 = 0 ∧ NR < 6 ∧ S (2 + b) 101 0 = Int32.ofNat NR ∧ nmS b S L (if S (2 + b) 101 0 < 6 then 0 else 1) = S ∧ (p2 (su (su V 4 214 k 2) 4 203 0 (Int32.ofNat (k + 1))) T qf (k + 1)).2.2 = su (p2 V T qf k).2.2 0 101 0 (Int32.ofNat (NR + 1))) := by
  have hb := H.1
  obtain ⟨g1, F, g3, g4, g5⟩ := id h
  have km := g1.1
  obtain ⟨hk, e40, e201, e200, -, -⟩ := acc_G H h (by decide) h23
  have hn := bse_23 H F hk h23
  have eL : L 4 0 0 = tkV T (qf k) := g1.2.2.2.2.1.trans (bse_t H F km).2.2.2.1
  have e202 : S 4 202 0 = Int32.ofNat (qf k) := g1.2.2.2.1.trans (bse_t H F km).2.2.1
  have key : ∀ U : S3, CO b qf T k M M NR NR A cS S L (su V 4 214 k 2) U → (nmS b S L (if S (2 + b) 101 0 < 6 then 0 else 1), e2 (su V 4 214 k 2) T qf (fun a => tkL T (qf a)) k U) = (if (ixL (L 4 3) (L 4 0 0) (Int32.ofNat M) 10 0 = -1 ∧ ixL (L 4 4) (L 4 0 0) (Int32.ofNat NR) 6 0 = -1) then (if NR < 6 then (S, (0, su U 0 101 0 (Int32.ofNat (NR + 1)))) else (msS 4 S, (4, U))) else (msS 2 S, (2, U))) := fun U a3 => by
    obtain ⟨⟨c1, c2, c3, c4⟩, ⟨d1, d2, d3, d4⟩, -, -, e5⟩ := a3
    rw [e2_2 su_self]
    have ht : tkn (su V 4 214 k 2) T qf (fun a => tkL T (qf a)) k = true ↔ ¬ (ixL (L 4 3) (L 4 0 0) (Int32.ofNat M) 10 0 = -1 ∧ ixL (L 4 4) (L 4 0 0) (Int32.ofNat NR) 6 0 = -1) := by
      rw [tkn_iff, told_1 e5 c4 hn, told_2 e5 d4 hn, eL]
    unfold nmS
    rw [c1, d1, d3]
    by_cases g : ixL (L 4 3) (L 4 0 0) (Int32.ofNat M) 10 0 = -1 ∧ ixL (L 4 4) (L 4 0 0) (Int32.ofNat NR) 6 0 = -1
    · rw [if_pos g, if_pos g, if_neg (fun q => ht.mp q g)]
      by_cases g2 : NR < 6
      · have hlt : Int32.ofNat NR < 6 := (ofN_lt (m := 6) (by omega) (by omega)).mpr g2
        have hne : ¬ Int32.ofNat NR = 6 := fun q => absurd (ofN_inj (b := 6) (by omega) (by omega) q) (by omega)
        rw [if_pos g2, if_pos hlt, if_pos rfl, if_neg hne, ofN_a1]
      · have hlt : ¬ Int32.ofNat NR < 6 := fun q => g2 ((ofN_lt (m := 6) (by omega) (by omega)).mp q)
        rw [if_neg g2, if_neg hlt, if_neg (by decide), if_pos (show Int32.ofNat NR = 6 by rw [show NR = 6 by omega]; rfl)]
    · rw [if_neg g, if_neg g, if_pos (ht.mpr g)]
  have cp1 : CP (k + 1) A cc E (NR + 1) (su P 0 108 0 (Int32.ofNat (NR + 1))) := by
    obtain ⟨⟨a1, a2⟩, ⟨b1, b2⟩, ⟨c1, c2⟩, ⟨d1, d2⟩, e⟩ := g4
    unfold CP
    rw [su_self, su_ne (v' := 109) (by decide), su_ne (v' := 118) (by decide), su_ne (v' := 106) (by decide)]
    exact ⟨⟨a1, by omega⟩, ⟨b1, by omega⟩, ⟨c1, by omega⟩, ⟨rfl, by omega⟩, fun v i g1 g2 => by rw [su_vne (by omega)]; exact e v i g1 g2⟩
  have t := G_step (ρ := 2) (S1 := nmS b S L (if S (2 + b) 101 0 < 6 then 0 else 1)) (L1 := ptL L 4 4 6 (S (2 + b) 101 0) (L 4 0 0)) (A' := A) (cS' := cS) (M2 := M) (M3 := M) (NR2 := NR) (R3 := NR + 1) H h hk (B8_eq g1.2.2.2.2.2.2.2 (nm_8 hb (by omega))) nm_sb (fun g v q => ptL_vne (fun e => q ⟨e.1, Or.inr (Or.inr e.2)⟩)) cp1 (fun q => by rw [nm_1 q]; exact ⟨rfl, rfl⟩) (fun a1 a2 a3 => by
    have k1 := key _ a3
    have e1 := congrArg Prod.fst k1
    have e2' := congrArg Prod.snd k1
    simp only at e1 e2'
    refine ⟨pre2_CO (r := 2) a3 (by decide) su_self (by omega) (by omega), ?_⟩
    rw [e1, e2']
    by_cases g : ixL (L 4 3) (L 4 0 0) (Int32.ofNat M) 10 0 = -1 ∧ ixL (L 4 4) (L 4 0 0) (Int32.ofNat NR) 6 0 = -1
    · rw [if_pos g]
      by_cases g2 : NR < 6
      · rw [if_pos g2]
        refine ⟨a1, fun q => absurd rfl q, fun _ => ⟨a2, ?_⟩⟩
        obtain ⟨c, ⟨d1, d2, d3, d4⟩, f, e4, e5⟩ := a3
        show CO b qf T (k + 1) M M NR (NR + 1) A cS S (ptL L 4 4 6 (S (2 + b) 101 0) (L 4 0 0)) (su V 4 214 k 2) (su (p2 V T qf k).2.2 0 101 0 (Int32.ofNat (NR + 1)))
        unfold CO
        rw [su_self, su_ne (v' := 100) (by decide), su_ne (v' := 102) (by decide), d1]
        exact ⟨c, ⟨rfl, d2, rfl, by omega⟩, f, e4, NM_2 e5 su_self hn eL g2⟩
      · rw [if_neg g2]
        exact ⟨(ms_0 a1).1, fun _ => (ms_0 a1).2.trans e202, fun q => absurd (show (4 : Int32) = 0 from q) (by decide)⟩
    · rw [if_neg g]
      exact ⟨(ms_0 a1).1, fun _ => (ms_0 a1).2.trans e202, fun q => absurd (show (2 : Int32) = 0 from q) (by decide)⟩)
  refine ⟨t.1, fun q0 => ?_⟩
  obtain ⟨q1, q2⟩ := t.2 q0
  have cc1 := CO_V (V1 := su V 4 214 k 2) (Gk_cnt h q1) (fun u hu => su_off (by omega))
  have k1 := key _ cc1
  have e1 := congrArg Prod.fst k1
  have e2' := congrArg Prod.snd k1
  simp only at e1 e2'
  rw [st_ne (by omega), e1] at q0
  rw [q2, e2', e1]
  by_cases g : ixL (L 4 3) (L 4 0 0) (Int32.ofNat M) 10 0 = -1 ∧ ixL (L 4 4) (L 4 0 0) (Int32.ofNat NR) 6 0 = -1
  · rw [if_pos g] at q0 ⊢
    by_cases g2 : NR < 6
    · rw [if_pos g2]
      exact ⟨q1, g2, cc1.2.1.1, rfl, rfl⟩
    · rw [if_neg g2] at q0
      have q3 : msS 4 S 4 203 0 = 0 := q0
      rw [(ms_0 q1).1] at q3
      exact absurd q3 (by decide)
  · rw [if_neg g] at q0
    have q3 : msS 2 S 4 203 0 = 0 := q0
    rw [(ms_0 q1).1] at q3
    exact absurd q3 (by decide)
end NAMS
