/-! THE LAW: TEACH -/
section LAWTE
variable {n i j pl a : Nat} {xs : Nat → Int32} {c : Nat × Nat × Nat} {R RB C : Nat → Option PC} {S S' S1 S2 V V' V1 V2 P P1 P2 : S3} {L L1 L2 W : L3} {l5 l6 l7 l8 : Option Value} {b b0 b1 M A NR N β β' tl m m' : Nat} {rk : Nat → Nat} {nt : Prop} {x y e e1 e2 : Int32} {T : Nat → Int32}
theorem RO_S : roS (RO n xs) := ⟨rfl, rfl⟩
theorem wx_17 : ∀ j, j < 23 → (some (1 + wixL.getD j 0) = some (17 + j)) ∧ leS.getD (16 + j) 0 = (wdB j).length := by decide +kernel
theorem RO_W : roW (RO n xs) := by
  refine ⟨⟨fun j => some (1 + wixL.getD j 0), rfl, fun j hj => (wx_17 j hj).1⟩, fun j hj => ⟨?_, ?_⟩⟩
  · unfold RO
    rw [if_neg (by omega), if_pos (by omega), show 99 + (17 + j) = 116 + j by omega]
  · unfold RO
    rw [if_neg (by omega), if_neg (by omega), if_pos (by omega), show 116 + j - 100 = 16 + j by omega, (wx_17 j hj).2]
    rfl
theorem RX_S : roS (RX (RO n xs) V W pl P R) := ⟨rfl, rfl⟩
theorem gov_W {tb : List SH} (h : roW R) : roW (gov tb 300 S L R) := by
  obtain ⟨⟨f, h1, h2⟩, h3⟩ := h
  refine ⟨⟨f, by rw [gov_lt (by decide)]; exact h1, h2⟩, fun j hj => ?_⟩
  rw [gov_lt (by omega), gov_lt (by omega)]
  exact h3 j hj
theorem gov_one {tb : List SH} {q : Nat} {R R' : Nat → Option PC} (h : gov tb q S1 L1 R = gov tb q S2 L2 R) : gov tb q S1 L1 R' = gov tb q S2 L2 R' := by
  funext k
  have := congrFun h k
  unfold gov at this ⊢
  split
  · rename_i g
    rw [if_pos g, if_pos g] at this
    split
    · rename_i s e
      rw [e] at this
      exact this
    · rfl
  · rfl
theorem RC_one {as : List Value} {q jj : Nat} (h1 : RC c R q jj as S L e1 S1 L1) (h2 : RC c R q jj as S L e2 S2 L2) : e1 = e2 ∧ gov tC 300 S1 L1 R = gov tC 300 S2 L2 R := by
  have e := congrArg (fun f => f (fun o : PO => o = ((.inl (some (.int e1)), CH c S1 L1 R) : PO))) (funext fun Q => (h1 0 Q).symm.trans (h2 0 Q))
  have t := cast e rfl
  have t1 := congrArg (fun o : PO => o.1) t
  have t2 := congrArg (fun o : PO => o.2.2) t
  simp only [Sum.inl.injEq, Option.some.injEq, Value.int.injEq] at t1
  exact ⟨t1.symm, t2.symm⟩
/-- what the class's teach leaves -/
def tcF (b : Nat) (e : Int32) (S : S3) : S3 := if e = 0 then tbS 0 (1 - b) (su (tcA S) 4 207 0 (bk b)) else tcA S
theorem pRd_0 {v : Nat} (hb : b < 2) (h : sameBut (pRd b) S S') : S' 0 v = S 0 v ∧ S' 1 v = S 1 v := ⟨h 0 v (fun q => by unfold pRd at q; omega), h 1 v (fun q => by unfold pRd at q; omega)⟩
theorem k71_x (hb : b < 2) (hs : (S 4 207 0).toNatClampNeg = BA (1 - b)) (ht : (S 0 60 0).toNatClampNeg = BA b) (h : sameBut (pRd (1 - b)) S S1) (q : RC c R 33 21 [.ref 317, .ref 301, .ref (BA (1 - b))] S L e S1 L1) : ∀ Q, Cp 45 71 [.ref 300] (CH c S L R) Q = Q (.inl (some (.int e)), CH c (tcF b e S1) L1 R) := by
  intro Q
  by_cases he : e = 0
  · subst he
    unfold tcF
    rw [if_pos rfl]
    exact k71_0 (D := 39) (b := 1 - b) (b0 := b) (by omega) hb hs (by rw [h 4 207 (fun q => by unfold pRd at q; omega)]; exact hs) (by rw [(pRd_0 (by omega) h).1]; exact ht) (RC_D q (by decide))
  · unfold tcF
    rw [if_neg he]
    exact k71_1 (D := 44) (b := 1 - b) (by omega) hs (RC_D q (by decide)) he
theorem Cp_one {jj D : Nat} {as : List Value} (h1 : ∀ Q, Cp D jj as (CH c S L R) Q = Q (.inl (some (.int e1)), CH c S1 L1 R)) (h2 : ∀ Q, Cp D jj as (CH c S L R) Q = Q (.inl (some (.int e2)), CH c S2 L2 R)) : gov tC 300 S1 L1 R = gov tC 300 S2 L2 R := by
  have e := congrArg (fun f => f (fun o : PO => o = ((.inl (some (.int e1)), CH c S1 L1 R) : PO))) (funext fun Q => (h1 Q).symm.trans (h2 Q))
  have t := cast e rfl
  exact (congrArg (fun o : PO => o.2.2) t).symm
def teT (V : S3) (tl : Nat) (k : Nat) : Int32 := if k < tl then V 4 210 k else -1
theorem teT_b (ht : tpR tl S V) : byT (teT V tl) := fun k => by
  unfold teT
  by_cases h : k < tl
  · rw [if_pos h, ← ht.2 k h]
    refine Or.inr ⟨(S 4 210 k).toBitVec.toNat % 256, Nat.mod_lt _ (by decide), ?_⟩
    generalize S 4 210 k = z
    apply Int32.toBitVec_inj.mp
    apply BitVec.eq_of_toNat_eq
    have e : (z &&& 255).toBitVec.toNat = z.toBitVec.toNat &&& 255 := by
      rw [Int32.toBitVec_and, BitVec.toNat_and]
      rfl
    rw [e, show (255 : Nat) = 2 ^ 8 - 1 from rfl, Nat.and_two_pow_sub_one_eq_mod]
    show _ = (BitVec.ofNat 32 (z.toBitVec.toNat % 256)).toNat
    rw [BitVec.toNat_ofNat]
    omega
  · rw [if_neg h]; exact Or.inl rfl
theorem teT_p (ht : tpR tl S V) (h16 : tl ≤ 1600) : tpT S (teT V tl) := fun k hk => by
  unfold bat teT
  rw [ht.1, if_neg (ofN_nn (by omega))]
  by_cases h : k < tl
  · rw [if_pos h, if_neg (fun q => absurd ((ofN_le (by omega) (by omega)).mp q) (by omega)), if_neg (show ¬ (1600 : Int32) ≤ Int32.ofNat k from fun q => absurd ((ofN_le (k := 1600) (by omega) (by omega)).mp q) (by omega)), tN_nat (by omega)]
    exact ht.2 k h
  · rw [if_neg h, if_pos ((ofN_le (by omega) (by omega)).mpr (by omega))]
/-- reading that fails: the town stays -/
theorem CRs_te (hj : j < 512) (hb : b < 2) (hb0 : b0 < 2) (hx : ctx 0 b pl M A NR N (18000 * j) rk True P S V) (hs : (S 4 207 0).toNatClampNeg = BA (1 - b)) (hk1 : okG 1 b0 S) (hcl : S 0 3 0 = 0 ∨ S 0 3 0 = 1) (hm : S 0 0 0 = Int32.ofNat m ∧ m ≤ 200 * j) (hL : resL L)
    (hS : sameBut (pRd (1 - b)) S S1) (hV : sameBut (fun g v => g = 4 ∧ (v = 200 ∨ v = 202 ∨ v = 203 ∨ v = 204 ∨ v = 207 ∨ 211 ≤ v ∧ v ≤ 214)) V V1) (hL1 : L1 4 2 = L 4 2) (e1 : S1 4 204 0 = V1 4 202 0) : CRs (j + 1) pl (tcA S1) L1 (su V1 4 201 0 0) P := by
  have t0 : ∀ g v, g ≠ 4 → tcA S1 g v = S1 g v := fun g v hg => by
    unfold tcA
    rw [su_gne hg, su_gne hg]
  have tv : ∀ v, v ≠ 205 → v ≠ 206 → tcA S1 4 v = S1 4 v := fun v h1 h2 => by
    unfold tcA
    rw [su_vne h1, su_vne h2]
  have v0 : ∀ g v, g ≠ 4 → su V1 4 201 0 0 g v = V g v := fun g v hg => by
    rw [su_gne hg]
    exact hV g v (fun q => hg q.1)
  have v4 : ∀ v, v = 205 ∨ v = 206 ∨ v = 215 → su V1 4 201 0 0 4 v = V 4 v := fun v h => by
    rw [su_vne (by omega)]
    exact hV 4 v (fun q => by have := q.2; omega)
  have s0 : tcA S1 0 = S 0 := funext fun v => by rw [t0 0 v (by decide)]; exact (pRd_0 (by omega) hS).1
  have s1 : tcA S1 1 = S 1 := funext fun v => by rw [t0 1 v (by decide)]; exact (pRd_0 (by omega) hS).2
  have w0 : su V1 4 201 0 0 0 = V 0 := funext fun v => v0 0 v (by decide)
  have hx' := ctx_mono hx (show 18000 * j ≤ 18000 * (j + 1) by omega) (by omega)
  have hk1' : okG 1 b0 (tcA S1) := by
    unfold okG at hk1 ⊢
    rw [s1]
    exact hk1
  refine ⟨b, b0, M, A, NR, N, 0, m, rk, hb, hb0, ⟨?_, bookR_eq hx'.2.1 (fun v _ => by rw [t0 _ _ (by omega)]; exact hS (2 + b) v (fun q => by unfold pRd at q; omega)), by rw [v4 206 (by omega)]; exact hx'.2.2.1, hx'.2.2.2⟩, by rw [tv 207 (by decide) (by decide), hS 4 207 (fun q => by unfold pRd at q; omega)]; exact hs, hk1', by rw [s0]; exact hcl, by rw [s0]; exact ⟨hm.1, by omega⟩, ?_, ⟨⟨?_, fun k hk => absurd hk (by omega)⟩, by rw [su_self]; rfl, by omega⟩, ?_⟩
  · have h := hx'.1
    unfold townR agS okG postR plR roR beR noR frR frm ntR at h ⊢
    simp only [s0, w0, v4 205 (by omega), v4 215 (by omega)]
    exact h
  · rw [su_vne (by decide), ← e1]
    unfold tcA
    rw [su_self]
  · unfold tcA
    rw [su_ne (by decide), su_self]
    rfl
  · unfold resL at hL ⊢
    rw [hL1]
    exact hL
/-- reading that succeeds: a fresh town, the books changed about -/
theorem CRs_tb {M' A' NR' : Nat} {rk' : Nat → Nat} (hj : j < 512) (hb : b < 2) (hb0 : b0 < 2) (hx : ctx 0 b pl M A NR N (18000 * j) rk True P S V) (hk1 : okG 1 b0 S) (hL : resL L)
    (hS : sameBut (pRd (1 - b)) S S1) (hV : sameBut (fun g v => g = 4 ∧ (v = 200 ∨ v = 202 ∨ v = 203 ∨ v = 204 ∨ v = 207 ∨ 211 ≤ v ∧ v ≤ 214)) V V1) (hL1 : L1 4 2 = L 4 2) (e1 : S1 4 204 0 = V1 4 202 0)
    (hB : bookR S1 P1 (1 - b) M' A' NR' rk') (hrk : ∀ a, a < A' → rk' a ≤ 35) (hP : (V1 4 207 0).toNatClampNeg = a) (hp : Pok a) :
    CRs (j + 1) a (tbS 0 (1 - b) (su (tcA S1) 4 207 0 (bk b))) L1 (lgR N 0 (lmR P1 10 0 (su (su (su (su (su (su V1 4 201 0 0) 4 206 0 (V1 4 207 0)) 0 0 0 0) 0 1 0 0) 0 3 0 0) 0 2 0 0))) P1 := by
  have hNN := hx.1.2.2.2.2.2.2
  have hN3 := townR_N hx.1
  have hk0 := hx.1.2.1
  have hb' : 1 - b < 2 := by omega
  have t0 : ∀ g v, g ≠ 4 → su (tcA S1) 4 207 0 (bk b) g v = S1 g v := fun g v hg => by
    unfold tcA
    rw [su_gne hg, su_gne hg, su_gne hg]
  have s0 : ∀ v, su (tcA S1) 4 207 0 (bk b) 0 v = S 0 v := fun v => by rw [t0 0 v (by decide)]; exact (pRd_0 hb' hS).1
  have w0 : ∀ v, su (su V1 4 201 0 0) 4 206 0 (V1 4 207 0) 0 v = V 0 v := fun v => by
    rw [su_gne (by decide), su_gne (by decide)]
    exact hV 0 v (fun q => absurd q.1 (by decide))
  have w4 : ∀ v, v = 205 ∨ v = 215 → su (su V1 4 201 0 0) 4 206 0 (V1 4 207 0) 4 v = V 4 v := fun v h => by
    rw [su_vne (by omega), su_vne (by omega)]
    exact hV 4 v (fun q => by have := q.2; omega)
  have hM := hB.1
  have f1 : su (tcA S1) 4 207 0 (bk b) (2 + (1 - b)) 100 0 = Int32.ofNat M' := by rw [t0 _ _ (by omega)]; exact hM.1
  have f2 : su (tcA S1) 4 207 0 (bk b) 0 4 0 = Int32.ofNat N := by rw [s0]; exact hNN.1
  have fr := townR_fresh (b := 1 - b) (S := su (tcA S1) 4 207 0 (bk b)) (V := su (su V1 4 201 0 0) 4 206 0 (V1 4 207 0)) (P := P1) (A := A') (NR := NR') (rk := rk') (β := 18000 * (j + 1)) (nt := True) hM.2.2 hN3 hb' f1 f2 (by rw [w4 205 (by omega)]; exact hNN.2.2.1) (fun l hl => by rw [s0, w4 215 (by omega)]; exact hNN.2.2.2 l hl) (fun l hl => by rw [s0]; exact hk0.2.1 l hl) (fun k hk => by rw [s0]; exact hk0.2.2 k hk) (fun q l hl k hk => by rw [s0, w0]; exact hx.1.2.2.2.2.2.1 q l hl k hk) (fun k hk => by rw [t0 _ _ (by omega), t0 _ _ (by omega)]; exact ⟨(hB.2.2.2.1 k hk).1, (hB.2.2.2.1 k hk).2.1⟩)
  have sb : ∀ g v k, g ≠ 0 → tbS 0 (1 - b) (su (tcA S1) 4 207 0 (bk b)) g v k = su (tcA S1) 4 207 0 (bk b) g v k := fun g v k hg => by
    rw [tbS_at hM.2.2 hN3 f1 f2, if_neg (by omega), if_neg (by omega), if_neg (by omega), if_neg (by omega)]
  have sz : ∀ v, v < 4 → tbS 0 (1 - b) (su (tcA S1) 4 207 0 (bk b)) 0 v 0 = 0 := fun v hv => by
    rw [tbS_at hM.2.2 hN3 f1 f2, if_neg (by omega), if_neg (by omega), if_neg (by omega), if_pos ⟨rfl, hv, rfl⟩]
  have vb : ∀ v k, lgR N 0 (lmR P1 10 0 (su (su (su (su (su (su V1 4 201 0 0) 4 206 0 (V1 4 207 0)) 0 0 0 0) 0 1 0 0) 0 3 0 0) 0 2 0 0)) 4 v k = su (su V1 4 201 0 0) 4 206 0 (V1 4 207 0) 4 v k := fun v k => by
    rw [lgR_at (N := N) N 0 _ (by omega), if_neg (by omega), lmR_at 10 0 _ rfl, if_neg (by omega), su_gne (by decide), su_gne (by decide), su_gne (by decide), su_gne (by decide)]
  have u1 : tbS 0 (1 - b) (su (tcA S1) 4 207 0 (bk b)) 1 = S 1 := funext fun v => funext fun k => by
    rw [sb 1 v k (by decide), t0 1 v (by decide)]
    exact congrFun (pRd_0 hb' hS).2 k
  have hk1' : okG 1 b0 (tbS 0 (1 - b) (su (tcA S1) 4 207 0 (bk b))) := by
    unfold okG at hk1 ⊢
    rw [u1]
    exact hk1
  refine ⟨1 - b, b0, M', A', NR', N, 0, 0, rk', hb', hb0, ⟨fr, bookR_eq hB (fun v _ => funext fun k => by rw [sb _ _ _ (by omega), t0 _ _ (by omega)]), by rw [vb, su_self]; exact hP, hrk, by decide, hp, by omega⟩, ?_, hk1', Or.inl (sz 3 (by decide)), ⟨sz 0 (by decide), by omega⟩, ?_, ⟨⟨?_, fun k hk => absurd hk (by omega)⟩, ?_, by omega⟩, ?_⟩
  · rw [sb _ _ _ (by decide), su_self, bk_BA hb, show 1 - (1 - b) = b by omega]
  · rw [sb _ _ _ (by decide), vb, su_ne (by decide), su_ne (by decide), su_ne (by decide), ← e1]
    unfold tcA
    rw [su_self]
  · rw [sb _ _ _ (by decide), su_ne (by decide)]
    unfold tcA
    rw [su_ne (by decide), su_self]
    rfl
  · rw [vb, su_ne (by decide), su_self]
    rfl
  · unfold resL at hL ⊢
    rw [hL1]
    exact hL
theorem cs2 (hi : i + 6 ≤ n) (hn : n ≤ 3072) (hj : j < 512) (h : CRs j pl S L V P) (hc : CRc j c pl) : NXT n i j 388 xs c S L V W pl P R l5 l6 l7 l8 := by
  obtain ⟨b, b0, M, A, NR, N, tl, m, rk, hb, hb0, hx, hs, hk1, hcl, hm, he, ht, hL⟩ := id h
  have hk0 := hx.1.2.1
  have hNN := hx.1.2.2.2.2.2.2
  have hb' : 1 - b < 2 := by omega
  have hca : c.1 < 2 ^ 31 := by have := hc.2.2.1; omega
  have hpk : Pok c.1 := Or.inr hc.1
  have hV2 : tpV (su (su (su V 4 200 0 0) 4 202 0 (-1)) 4 207 0 (Int32.ofNat c.1)) (teT V tl) tl := by
    refine ⟨by rw [su_ne (by decide), su_ne (by decide), su_ne (by decide)]; exact ht.2.1, ht.2.2, fun k => ?_⟩
    rw [su_vne (by decide), su_vne (by decide), su_vne (by decide)]
    rfl
  have key : ∀ C, roW C → _ := fun C hC => read_sim (hc := c) (R := RX (RO n xs) V W pl P R) (hcR := (c.1 + 16, c.2.1 + 16, c.2.2 + 5242)) (C := C) (W := W) (RB := gov tP pl P W R) (V := su (su (su V 4 200 0 0) 4 202 0 (-1)) 4 207 0 (Int32.ofNat c.1)) (pl := c.1) (b := 1 - b) hb' hpk (teT_p ht.1 ht.2.2) (teT_b ht.1) (tpV_16 hV2) RX_S hL hV2 hC (by rw [su_self]; exact tN_nat hca)
  obtain ⟨e0, S0, L0, -, -, q0, -, s0, -⟩ := key (RO n xs) RO_W
  have k0 := k71_x hb hs hk0.1 s0 q0
  obtain ⟨e, S1, L1, V1, P1, q1, qr, s1, v1, l1, hee, -, hne, heq⟩ := key (gov tC 300 (tcF b e0 S0) L0 (RO n xs)) (gov_W RO_W)
  have k1 := k71_x hb hs hk0.1 s1 q1
  have eC : gov tC 300 (tcF b e0 S0) L0 (RO n xs) = gov tC 300 (tcF b e S1) L1 (RO n xs) := gov_one (Cp_one k0 k1)
  rw [eC] at qr
  have qc : ∀ Q, Cp 45 71 [.ref 300] (FH (RO n xs) c S L V W pl P R) Q = Q (.inl (some (.int e)), FH (RO n xs) c (tcF b e S1) L1 V W pl P R) := fun Q => by rw [FH_C, k1, FH_C]
  have q180 : ∀ Q, Cp 44 180 [.ref 395] (RP c (gov tC 300 (tcF b e S1) L1 (RO n xs)) (su (su V 4 200 0 0) 4 202 0 (-1)) W pl P R) Q = Q (.inl (some (.int e)), RP (c.1 + 16, c.2.1 + 16, c.2.2 + 5242) (gov tC 300 (tcF b e S1) L1 (RO n xs)) V1 W c.1 P1 (gov tP pl P W R)) := fun Q => (r180_a (D := 42) (a := c.1) (n1 := c.2.1) (n2 := c.2.2) hc.1 hc.2.1 hca).trans (qr 18 Q)
  have hVV : sameBut (fun g v => g = 4 ∧ (v = 200 ∨ v = 202 ∨ v = 203 ∨ v = 204 ∨ v = 207 ∨ 211 ≤ v ∧ v ≤ 214)) V V1 := sbt_trans (sbt_su (sbt_su (sbt_su sbt_refl ⟨rfl, by omega⟩) ⟨rfl, by omega⟩) ⟨rfl, by omega⟩) (sb_weak v1 fun g v q => ⟨q.1, by have := q.2; omega⟩)
  have hL1 : L1 4 2 = L 4 2 := l1 4 2 (by omega)
  have hcc : c.1 + 16 ≤ 500 + 20 * (j + 1) ∧ c.2.1 + 16 ≤ 2000 + 20 * (j + 1) ∧ c.2.2 + 5242 ≤ 60000 + 6000 * (j + 1) := by
    obtain ⟨h1, h2, h3, h4, h5⟩ := hc
    omega
  by_cases h0 : e = 0
  · subst h0
    obtain ⟨g1, g2, M', A', NR', rk', hB', hrk'⟩ := heq rfl
    have hP1 : (V1 4 207 0).toNatClampNeg = c.1 := by
      rw [v1 4 207 (fun q => by have := q.2; omega), su_self]
      exact tN_nat hca
    have hN1 : V1 4 205 0 = Int32.ofNat N := by
      rw [hVV 4 205 (fun q => by have := q.2; omega)]
      exact hNN.2.2.1
    have e1 : S1 4 204 0 = V1 4 202 0 := by rw [g1, g2, su_ne (by decide), su_self]
    refine ⟨(c.1 + 16, c.2.1 + 16, c.2.2 + 5242), _, L1, _, W, c.1, P1, gov tP pl P W R, l5, l6, l7, l8, CRs_tb hj hb hb0 hx hk1 hL s1 hVV hL1 e1 hB' hrk' hP1 hpk, ⟨?_, ?_, hcc⟩, fun Q => lc2 (k := 0) qc (fun Q => r183_0 (D := 41) hpk hP1 hNN.2.1 hN1 q180)⟩
    · show 453 ≤ c.1 + 16
      have := hc.1
      omega
    · show c.1 + 16 ≤ c.1 + 16
      omega
  · have he0 : 0 < e := hee.resolve_left h0
    have tf : tcF b e S1 = tcA S1 := if_neg h0
    rw [tf] at qc q180
    refine ⟨(c.1 + 16, c.2.1 + 16, c.2.2 + 5242), tcA S1, L1, su V1 4 201 0 0, W, pl, P, gov tP c.1 P1 W R, l5, l6, l7, l8, CRs_te hj hb hb0 hx hs hk1 hcl hm hL s1 hVV hL1 (hne h0), ⟨?_, ?_, hcc⟩, fun Q => lc2 (k := e) qc (fun Q => ?_)⟩
    · show 453 ≤ c.1 + 16
      have := hc.1
      omega
    · show pl + 16 ≤ c.1 + 16
      have := hc.2.1
      omega
    · refine (r183_1 (D := 44) q180 he0).trans ?_
      rw [RP_turn hc.2.1]
      rfl
end LAWTE
