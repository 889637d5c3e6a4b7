/-! THE LAW: FEED AND TRIM -/
section LAWT
variable {n i j pl : Nat} {xs : Nat → Int32} {c : Nat × Nat × Nat} {R : Nat → Option PC} {S S' V V' P : S3} {L W : L3} {l5 l6 l7 l8 : Option Value} {b b0 b1 M A NR N β β' tl m m' : Nat} {rk : Nat → Nat} {x y : Int32}
def pFS : Nat → Nat → Prop := fun g v => g = 4 ∧ (v = 206 ∨ v = 210)
def pFV : Nat → Nat → Prop := fun g v => g = 4 ∧ (v = 200 ∨ v = 201 ∨ v = 210)
/-- the tapes alone have changed -/
theorem CRs_F (hj : j < 512) (hb : b < 2) (hb0 : b0 < 2) (hx : ctx 0 b pl M A NR N (18000 * j) rk True P S V) (hs : (S 4 207 0).toNatClampNeg = BA (1 - b)) (hk1 : okG 1 b0 S) (hcl : S 0 3 0 = 0 ∨ S 0 3 0 = 1) (hm : S 0 0 0 = Int32.ofNat m ∧ m ≤ 200 * j) (he : S 4 205 0 = V 4 202 0) (hL : resL L)
    (hS : sameBut pFS S S') (hV : sameBut pFV V V') (ht : tpR tl S' V' ∧ V' 4 201 0 = Int32.ofNat tl ∧ tl ≤ 1600) : CRs (j + 1) pl S' L V' P := by
  have e0 : S' 0 = S 0 := funext fun v => hS 0 v (fun q => absurd q.1 (by decide))
  have e1 : S' 1 = S 1 := funext fun v => hS 1 v (fun q => absurd q.1 (by decide))
  have v0 : V' 0 = V 0 := funext fun v => hV 0 v (fun q => absurd q.1 (by decide))
  have s4 : ∀ v, v ≠ 206 → v ≠ 210 → S' 4 v = S 4 v := fun v h1 h2 => hS 4 v (fun q => by have := q.2; omega)
  have v4 : ∀ v, v ≠ 200 → v ≠ 201 → v ≠ 210 → V' 4 v = V 4 v := fun v h0 h1 h2 => hV 4 v (fun q => by have := q.2; omega)
  have hx' := ctx_mono hx (show 18000 * j ≤ 18000 * (j + 1) by omega) (by omega)
  have hk1' : okG 1 b0 S' := by
    unfold okG at hk1 ⊢
    rw [e1]
    exact hk1
  refine ⟨b, b0, M, A, NR, N, tl, m, rk, hb, hb0, ⟨?_, bookR_eq hx'.2.1 (fun v _ => hS (2 + b) v (fun q => by have := q.1; omega)), by rw [v4 206 (by decide) (by decide) (by decide)]; exact hx'.2.2.1, hx'.2.2.2⟩, by rw [s4 207 (by decide) (by decide)]; exact hs, hk1', by rw [e0]; exact hcl, by rw [e0]; exact ⟨hm.1, by omega⟩, by rw [s4 205 (by decide) (by decide), v4 202 (by decide) (by decide) (by decide)]; exact he, ht, hL⟩
  have h := hx'.1
  unfold townR agS okG postR plR roR beR noR frR frm ntR at h ⊢
  simp only [e0, v0, v4 205 (by decide) (by decide) (by decide), v4 215 (by decide) (by decide) (by decide)]
  exact h
theorem sbF_ap1 {S1 : S3} (h : sameBut pFS S S1) : sameBut pFS S (ap1 x y S1) := by
  unfold ap1
  split
  · exact h
  split
  · exact h
  · exact sbt_su (sbt_su h ⟨rfl, Or.inr rfl⟩) ⟨rfl, Or.inl rfl⟩
theorem sbF_apK {f : Nat → Int32} : ∀ {k i : Nat} {S1 : S3}, sameBut pFS S S1 → sameBut pFS S (apK f k i S1) := by
  intro k
  induction k with
  | zero => intro i S1 h; exact h
  | succ k ih => intro i S1 h; exact ih (sbF_ap1 h)
theorem sbF_fdK {p : Nat → Nat → Prop} (hp : p 4 210) {f : Nat → Int32} {q : Nat} : ∀ {k i : Nat} {V1 : S3}, sameBut p V V1 → sameBut p V (fdK q f k i V1) := by
  intro k
  induction k with
  | zero => intro i S1 h; exact h
  | succ k ih => intro i V1 h; exact ih (sbt_su h hp)
theorem cs1 (hi : i + 6 ≤ n) (hn : n ≤ 3072) (hj : j < 512) (h : CRs j pl S L V P) (hc : CRc j c pl) : NXT n i j 332 xs c S L V W pl P R l5 l6 l7 l8 := by
  obtain ⟨b, b0, M, A, NR, N, tl, m, rk, hb, hb0, hx, hs, hk1, hcl, hm, he, ht, hL⟩ := id h
  have e1 := ht.1.1
  have e2 := ht.2.1
  have h0 : 0 ≤ V 4 201 0 := by rw [e2]; exact Int32.not_lt.mp (ofN_nn (by have := ht.2.2; omega))
  by_cases g1 : xs (i + 1) < 0
  · exact ne1_1 hi hn (fun R Q => (k70 (d := 43)).trans (if_pos g1)) (fr (fun C Q => (r182 (d := 43) h0).trans (if_pos g1))) su_self (CRs_v hj h) (CRc_thr hc)
  by_cases g2 : Int32.ofNat tl < xs (i + 1)
  · exact ne1_1 hi hn (fun R Q => (k70 (d := 43)).trans ((if_neg g1).trans (if_pos (by rw [e1]; exact g2)))) (fr (fun C Q => (r182 (d := 43) h0).trans ((if_neg g1).trans (if_pos (by rw [e2]; exact g2))))) su_self (CRs_v hj h) (CRc_thr hc)
  have ex := nnI g1
  have hle : (xs (i + 1)).toNatClampNeg ≤ tl := by
    rw [ex] at g2
    by_cases q : tl < (xs (i + 1)).toNatClampNeg
    · exact absurd ((ofN_lt (by have := ht.2.2; omega) tN_lt).mpr q) g2
    · omega
  refine nx1 hi hn (fun R Q => (k70 (d := 43)).trans ((if_neg g1).trans (if_neg (by rw [e1]; exact g2)))) (fr (fun C Q => (r182 (d := 43) h0).trans ((if_neg g1).trans (if_neg (by rw [e2]; exact g2))))) (by rw [su_ne (by decide), su_self]) ?_ (CRc_id hc)
  refine CRs_F (tl := (xs (i + 1)).toNatClampNeg) hj hb hb0 hx hs hk1 hcl hm he hL (sbt_su sbt_refl ⟨rfl, Or.inl rfl⟩) (sbt_su (sbt_su sbt_refl ⟨rfl, Or.inl rfl⟩) ⟨rfl, Or.inr (Or.inl rfl)⟩) ⟨⟨?_, fun k hk => ?_⟩, ?_, by have := ht.2.2; omega⟩
  · rw [su_self]; exact ex
  · rw [su_vne (by decide), su_vne (by decide), su_vne (by decide)]; exact ht.1.2 k (by omega)
  · rw [su_self]; exact ex
theorem cs0 (hi : i + 6 ≤ n) (hn : n ≤ 3072) (hj : j < 512) (h : CRs j pl S L V P) (hc : CRc j c pl) : NXT n i j 228 xs c S L V W pl P R l5 l6 l7 l8 := by
  obtain ⟨b, b0, M, A, NR, N, tl, m, rk, hb, hb0, hx, hs, hk1, hcl, hm, he, ht, hL⟩ := id h
  have e1 := ht.1.1
  have e2 := ht.2.1
  by_cases g1 : 1580 < tl
  · have g1' : 1580 < S 4 206 0 := by rw [e1]; exact (ofN_lt (k := 1580) (by decide) (by have := ht.2.2; omega)).mpr g1
    exact ne0_1 hi hn (fun R Q => (k69 (d := 41)).trans (if_pos g1')) (fr (fun C Q => r181_a e2 g1 ht.2.2 43 Q)) su_self (CRs_v hj h) (CRc_thr hc)
  have g1' : ¬ 1580 < S 4 206 0 := by
    rw [e1]
    exact fun q => absurd ((ofN_lt (k := 1580) (by decide) (by have := ht.2.2; omega)).mp q) (by omega)
  have t0 : tpR tl S (su V 4 200 0 0) := ⟨e1, fun k hk => by rw [su_vne (by decide)]; exact ht.1.2 k hk⟩
  have tf := fd_tp (f := fd5 (xs (i + 1)) (xs (i + 2)) (xs (i + 3)) (xs (i + 4)) (xs (i + 5))) t0 (by omega)
  have ek : fdS (xs (i + 1)) (xs (i + 2)) (xs (i + 3)) (xs (i + 4)) (xs (i + 5)) S = apK (fd5 (xs (i + 1)) (xs (i + 2)) (xs (i + 3)) (xs (i + 4)) (xs (i + 5))) 20 0 S := fdS_apK (f := fd5 (xs (i + 1)) (xs (i + 2)) (xs (i + 3)) (xs (i + 4)) (xs (i + 5)))
  have ev : fdS (xs (i + 1)) (xs (i + 2)) (xs (i + 3)) (xs (i + 4)) (xs (i + 5)) S 4 206 0 = Int32.ofNat (tl + 20) := tf.1
  refine nx0 hi hn (v := Int32.ofNat (tl + 20)) (fun R Q => (k69 (d := 41)).trans ((if_neg g1').trans (by rw [ev]))) (fr (fun C Q => r181_c hc.1 hc.2.1 e2 (by omega) 43 Q)) ?_ ?_ ?_
  · have hV := sbF_fdK (p := fun g v => g = 4 ∧ v = 210) ⟨rfl, rfl⟩ (f := fd5 (xs (i + 1)) (xs (i + 2)) (xs (i + 3)) (xs (i + 4)) (xs (i + 5))) (q := tl) (k := 20) (i := 0) (sbt_refl (S := su V 4 200 0 0))
    rw [su_ne (by decide), hV 4 200 (fun q => absurd q.2 (by decide)), su_self]
  · refine CRs_F (tl := tl + 20) hj hb hb0 hx hs hk1 hcl hm he hL (by rw [ek]; exact sbF_apK sbt_refl) (sbt_su (sbF_fdK ⟨rfl, Or.inr (Or.inr rfl)⟩ (sbt_su sbt_refl ⟨rfl, Or.inl rfl⟩)) ⟨rfl, Or.inr (Or.inl rfl)⟩) ⟨⟨ev, fun k hk => ?_⟩, ?_, by omega⟩
    · rw [su_vne (by decide)]; exact tf.2 k hk
    · rw [su_self]
  · obtain ⟨h1, h2, h3, h4, h5⟩ := hc
    refine ⟨?_, ?_, ?_, ?_, ?_⟩
    · show 453 ≤ c.1 + 1; omega
    · show pl + 16 ≤ c.1 + 1; omega
    · show c.1 + 1 ≤ _; omega
    · show c.2.1 + 1 ≤ _; omega
    · show c.2.2 + 5 ≤ _; omega
end LAWT
