/-! THE LAW: HIRE -/
section LAWH
variable {n i j pl : Nat} {xs : Nat → Int32} {c : Nat × Nat × Nat} {R : Nat → Option PC} {S S' V V' P : S3} {L W : L3} {l5 l6 l7 l8 : Option Value} {b b0 b1 M A NR N β β' tl m m' : Nat} {rk : Nat → Nat} {nt : Prop} {x y : Int32}
def hiS (N : Nat) (x : Int32) (S : S3) : S3 := su (begS 0 N x S) 0 4 0 (Int32.ofNat (N + 1))
def hiV (N : Nat) (x : Int32) (V : S3) : S3 := su (giveS 0 N (su (su (su (su (su V 4 215 N x) 0 12 N x) 0 13 N 0) 0 14 N (-1)) 0 17 N 0)) 4 205 0 (Int32.ofNat (N + 1))
theorem hiS_v {g v k : Nat} (h : g ≠ 0 ∨ v < 12 ∧ v ≠ 4 ∨ 20 ≤ v ∨ v ≠ 4 ∧ k ≠ N) : hiS N x S g v k = S g v k := by
  simp only [hiS, begS, homeS, giveS, su_at]
  rw [if_neg (by omega), if_neg (by omega), if_neg (by omega), if_neg (by omega), if_neg (by omega), if_neg (by omega), if_neg (by omega), if_neg (by omega), if_neg (by omega)]
theorem hiV_v {g v k : Nat} (h : g ≠ 0 ∧ g ≠ 4 ∨ g = 0 ∧ (v < 12 ∨ 20 ≤ v ∨ k ≠ N) ∨ g = 4 ∧ v ≠ 205 ∧ (v ≠ 215 ∨ k ≠ N)) : hiV N x V g v k = V g v k := by
  simp only [hiV, giveS, su_at]
  rw [if_neg (by omega), if_neg (by omega), if_neg (by omega), if_neg (by omega), if_neg (by omega), if_neg (by omega), if_neg (by omega), if_neg (by omega), if_neg (by omega)]
theorem hiS_n : hiS N x S 0 12 N = x ∧ hiS N x S 0 13 N = 0 ∧ hiS N x S 0 14 N = -1 ∧ hiS N x S 0 15 N = -1 ∧ hiS N x S 0 16 N = 0 ∧ hiS N x S 0 17 N = 0 ∧ hiS N x S 0 18 N = 0 ∧ hiS N x S 0 19 N = x ∧ hiS N x S 0 4 0 = Int32.ofNat (N + 1) := by
  refine ⟨?_, ?_, ?_, ?_, ?_, ?_, ?_, ?_, ?_⟩ <;> simp [hiS, begS, homeS, giveS, su_at]
theorem hiV_n : hiV N x V 0 12 N = x ∧ hiV N x V 0 13 N = 0 ∧ hiV N x V 0 14 N = -1 ∧ hiV N x V 0 15 N = -1 ∧ hiV N x V 0 16 N = 0 ∧ hiV N x V 0 17 N = 0 ∧ hiV N x V 0 18 N = 0 ∧ hiV N x V 4 215 N = x ∧ hiV N x V 4 205 0 = Int32.ofNat (N + 1) := by
  refine ⟨?_, ?_, ?_, ?_, ?_, ?_, ?_, ?_, ?_⟩ <;> simp [hiV, giveS, su_at]
theorem townR_hire (hN : N < 3) (h : townR 0 b M A NR N β rk nt P S V) : townR 0 b M A NR (N + 1) β rk nt P (hiS N x S) (hiV N x V) := by
  obtain ⟨a1, a2, a3, ⟨a4, a5, a6, a7⟩, a8, a9, a10, a11, a12, a13⟩ := h
  obtain ⟨s12, s13, s14, s15, s16, s17, s18, s19, s4⟩ := hiS_n (N := N) (x := x) (S := S)
  obtain ⟨v12, v13, v14, v15, v16, v17, v18, v19, v5⟩ := hiV_n (N := N) (x := x) (V := V)
  have sp : ∀ l, l < N + 1 → l < N ∨ l = N := fun l hl => by omega
  refine ⟨⟨fun v hv => ?_, fun v k h1 h2 h3 => ?_, fun v l h1 h2 h3 => ?_⟩, okG_su (okG_beg a2) (by decide) (by decide) (by decide), fun k hk => ?_, ⟨fun l hl => ?_, fun l hl => ?_, fun l hl => ?_, fun l hl => ?_⟩, fun l hl => ?_, fun q l hl k hk => ?_, s4, by omega, v5, fun l hl => ?_⟩
  · rw [hiS_v (by omega), hiV_v (by omega)]; exact a1.1 v hv
  · rw [hiS_v (by omega), hiV_v (by omega)]; exact a1.2.1 v k h1 h2 h3
  · rcases sp l h3 with hl | rfl
    · rw [hiS_v (by omega), hiV_v (by omega)]; exact a1.2.2 v l h1 h2 hl
    · have : v = 12 ∨ v = 13 ∨ v = 14 ∨ v = 15 ∨ v = 16 ∨ v = 17 ∨ v = 18 := by omega
      rcases this with rfl | rfl | rfl | rfl | rfl | rfl | rfl
      · rw [s12, v12]
      · rw [s13, v13]
      · rw [s14, v14]
      · rw [s15, v15]
      · rw [s16, v16]
      · rw [s17, v17]
      · rw [s18, v18]
  · rw [hiS_v (by omega), hiS_v (by omega)]; exact a3 k hk
  · rcases sp l hl with hl | rfl
    · rw [hiS_v (by omega)]; exact a4 l hl
    · exact ⟨0, by omega, s13⟩
  · rcases sp l hl with hl | rfl
    · rw [hiS_v (by omega)]; exact a5 l hl
    · exact Or.inl s14
  · rcases sp l hl with hl | rfl
    · rw [hiS_v (by omega)]; exact a6 l hl
    · exact Or.inl s15
  · rcases sp l hl with hl | rfl
    · rw [hiS_v (by omega)]; exact a7 l hl
    · exact ⟨0, by omega, s17⟩
  · rcases sp l hl with hl | rfl
    · obtain ⟨o, o1, o2, o3⟩ := a8 l hl
      refine ⟨o, o1, by rw [hiS_v (by omega)]; exact o2, fun k hk => ?_⟩
      have := o3 k hk
      unfold frm at this ⊢
      rw [hiV_v (by omega), hiV_v (by omega), hiV_v (by omega), hiS_v (by omega), hiS_v (by omega), hiS_v (by omega)]
      exact this
    · exact ⟨0, by omega, s18, fun k hk => absurd hk (by omega)⟩
  · rw [hiS_v (by omega), hiV_v (by omega)]; exact a9 q l hl k hk
  · rcases sp l hl with hl | rfl
    · rw [hiS_v (by omega), hiV_v (by omega)]; exact a13 l hl
    · rw [s19, v19]
theorem cs4 (hi : i + 6 ≤ n) (hn : n ≤ 3072) (hj : j < 512) (h : CRs j pl S L V P) (hc : CRc j c pl) : NXT n i j 414 xs c S L V W pl P R l5 l6 l7 l8 := by
  obtain ⟨b, b0, M, A, NR, N, tl, m, rk, hb, hb0, hx, hs, hk1, hcl, hm, he, ht, hL⟩ := id h
  have hNN := hx.1.2.2.2.2.2.2
  have hN3 := hNN.2.1
  by_cases g1 : xs (i + 1) < 1
  · exact ne4_1 hi hn (fun R Q => (k73 (d := 40) hN3 hNN.1).trans (if_pos g1)) (fr (fun C Q => (r185 (d := 42) hNN.2.2.1 hN3).trans (if_pos g1))) su_self (CRs_v hj h) (CRc_thr hc)
  by_cases g2 : 60 < xs (i + 1)
  · exact ne4_1 hi hn (fun R Q => (k73 (d := 40) hN3 hNN.1).trans ((if_neg g1).trans (if_pos g2))) (fr (fun C Q => (r185 (d := 42) hNN.2.2.1 hN3).trans ((if_neg g1).trans (if_pos g2)))) su_self (CRs_v hj h) (CRc_thr hc)
  by_cases g3 : N = 3
  · exact ne4_2 hi hn (fun R Q => (k73 (d := 40) hN3 hNN.1).trans ((if_neg g1).trans ((if_neg g2).trans (if_pos g3)))) (fr (fun C Q => (r185 (d := 42) hNN.2.2.1 hN3).trans ((if_neg g1).trans ((if_neg g2).trans (if_pos g3))))) su_self (CRs_v hj h) (CRc_thr hc)
  refine nx4 (S1 := hiS N (xs (i + 1)) S) (V2 := hiV N (xs (i + 1)) (su V 4 200 0 0)) hi hn (fun R Q => (k73 (d := 40) hN3 hNN.1).trans ((if_neg g1).trans ((if_neg g2).trans (if_neg g3)))) (fr (fun C Q => (r185 (d := 42) hNN.2.2.1 hN3).trans ((if_neg g1).trans ((if_neg g2).trans (if_neg g3))))) (by rw [hiV_v (by omega), su_self]) ?_ (CRc_id hc)
  have hx' := ctx_mono (ctx_thr (x := 0) (by decide) hx) (show 18000 * j ≤ 18000 * (j + 1) by omega) (by omega)
  have e1 : hiS N (xs (i + 1)) S 1 = S 1 := funext fun v => funext fun k => hiS_v (by omega)
  have hk1' : okG 1 b0 (hiS N (xs (i + 1)) S) := by
    unfold okG at hk1 ⊢
    rw [e1]
    exact hk1
  refine ⟨b, b0, M, A, NR, N + 1, tl, m, rk, hb, hb0, ⟨townR_hire (by omega) hx'.1, bookR_eq hx'.2.1 (fun v _ => funext fun k => hiS_v (by omega)), by rw [hiV_v (by omega)]; exact hx'.2.2.1, hx'.2.2.2⟩, by rw [hiS_v (by omega)]; exact hs, hk1', by rw [hiS_v (by omega)]; exact hcl, ⟨by rw [hiS_v (by omega)]; exact hm.1, by omega⟩, by rw [hiS_v (by omega), hiV_v (by omega), su_ne (by decide)]; exact he, ⟨⟨by rw [hiS_v (by omega)]; exact ht.1.1, fun k hk => ?_⟩, by rw [hiV_v (by omega), su_ne (by decide)]; exact ht.2.1, ht.2.2⟩, hL⟩
  rw [hiS_v (by omega), hiV_v (by omega), su_ne (by decide)]
  exact ht.1.2 k hk
end LAWH
