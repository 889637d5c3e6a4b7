/-! THE LAW, FROM ITS START -/
section LAWS
variable {n i d n2 : Nat} {xs : Nat → Int32} {Q : PO → Prop}
theorem NB_0 : (((300, 0, 0), RO n xs) : PH) = NB [] [] 0 (RO n xs) := by
  refine Prod.ext rfl (funext fun a => ?_)
  show RO n xs a = if a < 300 then RO n xs a else ([] : List PC)[a - 300]?
  by_cases h : a < 300
  · rw [if_pos h]
  · rw [if_neg h]
    unfold RO
    rw [if_neg (by omega), if_neg (by omega), if_neg (by omega), if_neg (by omega)]
    rfl
theorem RO_T : roT (RO n xs) := ⟨rfl, rfl⟩
theorem head_gen {A m : List PC} (e1 : A.length = 95) (e2 : m.length = 58) (c1 : ∀ k, k < 95 → A[k]? = gov tC 300 iS iL (RO n xs) (300 + k)) (c2 : ∀ k, k < 58 → m[k]? = gov tR 395 iV iW (gov tP 401 P0 iW fun _ => none) (395 + k)) : NB A m n2 (RO n xs) = FH (RO n xs) (453, 153, n2) iS iL iV iW 401 P0 fun _ => none := by
  have hl : (A ++ m).length = 153 := by rw [List.length_append, e1, e2]
  refine Prod.ext ?_ (funext fun a => ?_)
  · show (300 + (A ++ m).length, (A ++ m).length, n2) = (453, 153, n2)
    rw [hl]
  · show (if a < 300 then RO n xs a else (A ++ m)[a - 300]?) = if a < 395 then gov tC 300 iS iL (RO n xs) a else gov tR 395 iV iW (gov tP 401 P0 iW fun _ => none) a
    by_cases h1 : a < 300
    · rw [if_pos h1, if_pos (by omega), gov_lt h1]
    rw [if_neg h1]
    by_cases h2 : a < 395
    · rw [if_pos h2, List.getElem?_append_left (by omega), c1 (a - 300) (by omega), show 300 + (a - 300) = a by omega]
    rw [if_neg h2, List.getElem?_append_right (by omega), e1, show a - 300 - 95 = a - 395 by omega]
    by_cases h3 : a < 453
    · rw [c2 (a - 395) (by omega), show 395 + (a - 395) = a by omega]
    · have t1 : tR.length = 58 := rfl
      have t2 : tP.length = 16 := rfl
      rw [List.getElem?_eq_none (by omega), gov_ge (by omega), gov_ge (by omega)]
theorem head_heap : NB (ms68 300) (MB 395 (upK 0 10 0 fun _ => 0) (upK 10 10 0 fun _ => 0) (upK 0 10 0 fun _ => 0) (upK 0 10 0 fun _ => 0) (upK 0 10 0 fun _ => 0) ++ [.inl (1, 1, .inr (.inl fun _ => 0))]) n2 (RO n xs) = FH (RO n xs) (453, 153, n2) iS iL iV iW 401 P0 fun _ => none := head_gen ms68_len (by rw [List.length_append, MB_len]; rfl) (cls_at (R := RO n xs)) ref_at
theorem law_head : Wp 45 268 0 [some (.ref 0), none, none, none, none, none, none, none, none] [] ((300, 0, 0), RO n xs) Q = Wp 45 268 23 [some (.ref 0), some (.ref 300), some (.ref 395), some (.ref 452), some (.int (Int32.ofNat (6 * 0))), none, none, none, none] [] (FH (RO n xs) (453, 153, 15326) iS iL iV iW 401 P0 fun _ => none) Q := by
  have hb : 300 = 300 + ([] : List PC).length := rfl
  have hb2 : 395 = 300 + (ms68 300).length := rfl
  have h7 : 395 + (MB 395 (upK 0 10 0 fun _ => 0) (upK 10 10 0 fun _ => 0) (upK 0 10 0 fun _ => 0) (upK 0 10 0 fun _ => 0) (upK 0 10 0 fun _ => 0)).length = 452 := by rw [MB_len]
  rw [NB_0, w268_0, pdef7, pl7, NB_c hb, NB_new]
  simp only [List.nil_append, List.length_nil, Nat.add_zero]
  rw [w268_3, w268_4 (by simp only [psum_nil, psum_ref]; decide) (by decide)]
  refine (cn68 (d := 37) hb RO_T).trans ?_
  simp only [cK_inl, toL_none, List.nil_append]
  rw [w268_7, kl_ref, w268_8, pdef10, pl10, NB_c hb, NB_new', ms68_len, List.nil_append]
  simp only [Nat.reduceAdd]
  rw [w268_11, w268_12 (by simp only [psum_nil, psum_ref]; decide) (by decide)]
  refine (cn144 (d := 40) hb2).trans ?_
  refine (mo_end (d := 42) hb2).trans ?_
  simp only [cK_inl, toL_none, List.nil_append]
  rw [w268_15, w268_16, w268_17 (by decide)]
  unfold HB
  rw [NB_c hb2, NB_new, h7, arr0_1, show Int32.toNatClampNeg 1 = 1 from by decide, head_heap, w268_19, w268_20, w268_21, kl_ref, kl_ref, kl_ref]
  rfl
theorem iS_G {g : Nat} (hg : g < 2) : okG g 1 iS := by
  have : g = 0 ∨ g = 1 := by omega
  rcases this with rfl | rfl
  all_goals exact ⟨bk_BA (b := 1) (by decide), fun l hl => ⟨0, by omega, rfl⟩, fun i hi => Or.inl rfl⟩
theorem CRs_0 : CRs 0 401 iS iL iV P0 := by
  refine ⟨1, 1, 0, 0, 0, 0, 0, 0, fun _ => 0, by decide, by decide, ⟨⟨⟨fun v hv => ?_, fun v i h1 h2 h3 => absurd h3 (by omega), fun v l h1 h2 h3 => absurd h3 (by omega)⟩, iS_G (by decide), fun i hi => absurd hi (by omega), ⟨fun l hl => absurd hl (by omega), fun l hl => absurd hl (by omega), fun l hl => absurd hl (by omega), fun l hl => absurd hl (by omega)⟩, fun l hl => absurd hl (by omega), fun _ l hl j hj => ?_, rfl, by omega, rfl, fun l hl => absurd hl (by omega)⟩, ⟨⟨rfl, rfl, by omega⟩, ⟨rfl, rfl, by omega⟩, ⟨rfl, rfl, by omega⟩, fun i hi => absurd hi (by omega), fun r hr => absurd hr (by omega), fun a ha => absurd ha (by omega)⟩, tN_nat (by decide), fun a ha => absurd ha (by omega), by decide, Or.inl rfl, by decide⟩, bk_BA (b := 0) (by decide), iS_G (by decide), Or.inl rfl, ⟨rfl, by omega⟩, rfl, ⟨⟨rfl, fun k hk => absurd hk (by omega)⟩, rfl, by omega⟩, fun j hj => ?_⟩
  · have : v = 0 ∨ v = 1 ∨ v = 2 ∨ v = 3 := by omega
    rcases this with rfl | rfl | rfl | rfl <;> rfl
  · have : l = 0 ∨ l = 1 ∨ l = 2 := by omega
    rcases this with rfl | rfl | rfl <;> rfl
  · rw [show iL 4 2 = rvF T1 0 fun _ => 0 from if_pos ⟨rfl, rfl⟩]
    exact rv_words j hj
theorem law_run (hn : n ≤ 3072) : ∃ h' : PH, h'.1.2.1 ≤ 583155 ∧ h'.1.2.2 ≤ 7346640 ∧ ∀ Q, Cp 46 268 [.ref 0] ((300, 0, 0), RO n xs) Q = Q (.inl (some (.int 1)), h') := by
  obtain ⟨c', S', L', V', W', pl', P', R', ⟨-, -, -, h4, h5⟩, hq⟩ := law_loop (xs := xs) hn (n / 6) 0 (by omega) (by omega) (453, 153, 15326) iS iL iV iW 401 P0 (fun _ => none) none none none none CRs_0 ⟨by decide, by decide, by decide, by decide, by decide⟩
  have hk : n / 6 ≤ 512 := by omega
  refine ⟨FH (RO n xs) c' S' L' V' W' pl' P' R', ?_, ?_, fun Q => ?_⟩
  · show c'.2.1 ≤ 583155; omega
  · show c'.2.2 ≤ 7346640; omega
  · rw [ce268, law_head]
    exact hq Q
end LAWS
