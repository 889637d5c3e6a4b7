/-! READING A TAPE, IN BOTH: all of it -/
section REAE
variable {b pl n m k t c D a : Nat} {rk : Nat → Nat} {qf lf : Nat → Nat} {T : Nat → Int32} {S S0 S1 V V0 V1 P P' G G' U : S3} {L L0 L1 : L3} {hc hcR : Nat × Nat × Nat} {R RB C : Nat → Option PC} {W : L3} {Q : PO → Prop} {z r : Int32}
/-- the reference, from its cut on -/
theorem r180_b (hT : tpV V T n) (hR : roW C) (d : Nat) (Q : PO → Prop) : Wp (d + 25) 180 11 [some (.ref 395), none, none] [] (RP hcR C V W pl P RB) Q
    = Cp (d + 25) 162 [.ref 395] (RP hcR C (su (su (ctR T 401 0 0 V) 4 203 0 0) 4 204 0 0) W pl P RB) (fun o => cK o (fun w h2 => Wp (d + 25) 180 29 [some (.ref 395), none, none] (w.toList ++ []) h2 Q) (fun E h2 => Q (.inr E, h2))) := by
  have q := fun (Q : PO → Prop) => r156 (c := hcR) (W := W) (pl := pl) (P := P) (R := RB) hT hR (d + 15) Q
  simp +decide only [↓w180_0, ↓w180_1, ↓w180_4, ↓w180_4i, ↓w180_5, ↓w180_8, ↓w180_11, ↓w180_12, ↓w180_15, ↓w180_16, ↓w180_17, ↓w180_20, ↓w180_21, ↓w180_22, ↓w180_25, ↓w180_26, ↓w180_32, ↓w180_33, ↓w180_34, ↓w180_37, ↓w180_38, ↓w180_41, ↓w180_42, ↓w180_45, ↓w180_46, ↓w180_47, ↓w180_48, ↓w180_51, ↓w180_52, ↓w180_53, ↓w180_54, ↓w180_57, ↓w180_58, ↓w180_61, ↓w180_62, ↓w180_65, ↓w180_66, ↓w180_67, ↓w180_70, ↓w180_73, ↓w180_74, ↓w180_75, ↓w180_78, ↓w180_81, ↓w180_82, ↓w180_83, ↓w180_86, ↓w180_87, ↓w180_90, ↓w180_91, ↓w180_94, ↓w180_95, ↓w180_96, ↓w180_97, ↓w180_97i, ↓w180_98, ↓w180_101, ↓w180_102, ↓w180_103, ↓w180_106, ↓w180_109, ↓w180_110, ↓m0_g0, ↓m0_g1, ↓m0_g2, ↓m0_g3, ↓m0_g4, ↓m0_g5, ↓m0_g6, ↓m0_g7, ↓m0_g8, ↓m0_g9, ↓m0_g10, ↓m0_g11, ↓m0_g12, ↓m0_g13, ↓m0_g14, ↓m0_g15, ↓m0_p0, ↓m0_p2, ↓m0_p3, ↓m0_p8, ↓m0_p9, ↓m0_p12, m0_r, ↓q, ↓cK_inl, icond_lt, icond_le, icond_gt, icond_ge, icond_eq, icond_ne, narrow_bool, true_or, or_true, if_true, if_false, cK_inl, toL_some, toL_none, psum_nil, psum_int, psum_ref, psum_null, psum_long, Nat.zero_le, Nat.reduceAdd, Nat.reduceLeDiff, kl_int, kl_ref, kl_none, kl_null, kl_long]
theorem r180_0 (hk : k < 401) (e : V 4 203 0 = Int32.ofNat k) : Wp D 180 29 [some (.ref 395), none, none] [.int 0] (RP hcR C V W pl P RB) Q = Q (.inl (some (.int 1)), RP hcR C (su V 4 202 0 (V 4 212 k)) W pl P RB) := by
  simp +decide only [↓w180_0, ↓w180_1, ↓w180_4, ↓w180_4i, ↓w180_5, ↓w180_8, ↓w180_11, ↓w180_12, ↓w180_15, ↓w180_16, ↓w180_17, ↓w180_20, ↓w180_21, ↓w180_22, ↓w180_25, ↓w180_26, ↓w180_29, ↓w180_32, ↓w180_33, ↓w180_34, ↓w180_37, ↓w180_38, ↓w180_41, ↓w180_42, ↓w180_45, ↓w180_46, ↓w180_47, ↓w180_48, ↓w180_51, ↓w180_52, ↓w180_53, ↓w180_54, ↓w180_57, ↓w180_58, ↓w180_61, ↓w180_62, ↓w180_65, ↓w180_66, ↓w180_67, ↓w180_70, ↓w180_73, ↓w180_74, ↓w180_75, ↓w180_78, ↓w180_81, ↓w180_82, ↓w180_83, ↓w180_86, ↓w180_87, ↓w180_90, ↓w180_91, ↓w180_94, ↓w180_95, ↓w180_96, ↓w180_97, ↓w180_97i, ↓w180_98, ↓w180_101, ↓w180_102, ↓w180_103, ↓w180_106, ↓w180_109, ↓w180_110, ↓m0_g0, ↓m0_g1, ↓m0_g2, ↓m0_g3, ↓m0_g4, ↓m0_g5, ↓m0_g6, ↓m0_g7, ↓m0_g8, ↓m0_g9, ↓m0_g10, ↓m0_g11, ↓m0_g12, ↓m0_g13, ↓m0_g14, ↓m0_g15, ↓m0_p0, ↓m0_p2, ↓m0_p3, ↓m0_p8, ↓m0_p9, ↓m0_p12, m0_r, e, ↓m_from_a hk, icond_lt, icond_le, icond_gt, icond_ge, icond_eq, icond_ne, narrow_bool, true_or, or_true, if_true, if_false, cK_inl, toL_some, toL_none, psum_nil, psum_int, psum_ref, psum_null, psum_long, Nat.zero_le, Nat.reduceAdd, Nat.reduceLeDiff, kl_int, kl_ref, kl_none, kl_null, kl_long, ne_eq, not_true, not_false_eq_true]
theorem r180_1 (e : V 4 203 0 = Int32.ofNat k) : Wp D 180 29 [some (.ref 395), none, none] [.int 1] (RP hcR C V W pl P RB) Q = Wp D 180 57 [some (.ref 395), some (.int (Int32.ofNat k)), none] [] (RP hcR C (su V 4 203 0 (Int32.ofNat 0)) W pl P RB) Q := by
  simp +decide only [↓w180_0, ↓w180_1, ↓w180_4, ↓w180_4i, ↓w180_5, ↓w180_8, ↓w180_11, ↓w180_12, ↓w180_15, ↓w180_16, ↓w180_17, ↓w180_20, ↓w180_21, ↓w180_22, ↓w180_25, ↓w180_26, ↓w180_29, ↓w180_32, ↓w180_33, ↓w180_34, ↓w180_37, ↓w180_38, ↓w180_41, ↓w180_42, ↓w180_45, ↓w180_46, ↓w180_47, ↓w180_48, ↓w180_51, ↓w180_52, ↓w180_53, ↓w180_54, ↓w180_58, ↓w180_61, ↓w180_62, ↓w180_65, ↓w180_66, ↓w180_67, ↓w180_70, ↓w180_73, ↓w180_74, ↓w180_75, ↓w180_78, ↓w180_81, ↓w180_82, ↓w180_83, ↓w180_86, ↓w180_87, ↓w180_90, ↓w180_91, ↓w180_94, ↓w180_95, ↓w180_96, ↓w180_97, ↓w180_97i, ↓w180_98, ↓w180_101, ↓w180_102, ↓w180_103, ↓w180_106, ↓w180_109, ↓w180_110, ↓m0_g0, ↓m0_g1, ↓m0_g2, ↓m0_g3, ↓m0_g4, ↓m0_g5, ↓m0_g6, ↓m0_g7, ↓m0_g8, ↓m0_g9, ↓m0_g10, ↓m0_g11, ↓m0_g12, ↓m0_g13, ↓m0_g14, ↓m0_g15, ↓m0_p0, ↓m0_p2, ↓m0_p3, ↓m0_p8, ↓m0_p9, ↓m0_p12, m0_r, e, icond_lt, icond_le, icond_gt, icond_ge, icond_eq, icond_ne, narrow_bool, true_or, or_true, if_true, if_false, cK_inl, toL_some, toL_none, psum_nil, psum_int, psum_ref, psum_null, psum_long, Nat.zero_le, Nat.reduceAdd, Nat.reduceLeDiff, kl_int, kl_ref, kl_none, kl_null, kl_long, ne_eq, not_true, not_false_eq_true]
  rfl
theorem r162_e : Cp (D + 1) 162 [.ref 395] (RP hcR C V W pl P RB) Q = Wp D 162 0 [some (.ref 395), none] [] (RP hcR C V W pl P RB) Q := by
  simp only [ce162, cK_inl, toL_some, toL_none, psum_nil, psum_int, psum_ref, psum_null, psum_long, Nat.zero_le, Nat.reduceAdd, Nat.reduceLeDiff, kl_int, kl_ref, kl_none, kl_null, kl_long]
def pRd (b : Nat) (g v : Nat) : Prop := g = 2 + b ∧ 100 ≤ v ∨ g = 4 ∧ (200 ≤ v ∧ v ≤ 204 ∨ v = 208 ∨ 211 ≤ v ∧ v ≤ 214)
def pRr (g v : Nat) : Prop := g = 4 ∧ (v = 202 ∨ v = 203 ∨ v = 204 ∨ 211 ≤ v ∧ v ≤ 214)
theorem rd0_sb (hb : b < 2) (h : sameBut pK S S1) : sameBut (pRd b) S (stS k (rd0 b S1)) := fun g v q => by
  rw [st_ne (fun e => q (Or.inr ⟨e.1, by omega⟩))]
  have e1 : ∀ {S : S3} {g' v' : Nat} {x : Int32}, pRd b g' v' → su S g' v' 0 x g v = S g v := fun {S g' v' x} hp => by
    funext i
    refine if_neg fun e => q ?_
    rw [e.1, e.2.1]
    exact hp
  unfold rd0 clS
  rw [e1 (Or.inr ⟨rfl, by omega⟩), e1 (Or.inr ⟨rfl, by omega⟩), e1 (Or.inr ⟨rfl, by omega⟩), e1 (Or.inl ⟨rfl, by omega⟩), e1 (Or.inl ⟨rfl, by omega⟩), e1 (Or.inl ⟨rfl, by omega⟩), e1 (Or.inl ⟨rfl, by omega⟩), e1 (Or.inr ⟨rfl, by omega⟩)]
  by_cases h4 : pK g v
  · obtain ⟨h5, h6, h7⟩ := h4
    exact absurd (Or.inr ⟨h5, by omega⟩) q
  · exact h g v h4
theorem rd0_g (hb : b < 2) {v : Nat} (h : 205 ≤ v) (h2 : v ≠ 208) : rd0 b S1 4 v = S1 4 v := by
  unfold rd0
  rw [su_vne (by omega), su_vne (by omega), su_vne (by omega), cl_4 hb, su_vne h2]
/-- class and reference read a tape alike: e is the mistake -/
theorem read_sim (hb : b < 2) (hp : Pok pl) (hT : tpT S T) (hB : byT T) (h16 : T 1600 = -1) (hR : roS R) (hL : resL L) (hV : tpV V T n) (hRW : roW C) (hP : (V 4 207 0).toNatClampNeg = pl) :
    ∃ (e : Int32) (S' : S3) (L' : L3) (V' P' : S3), RC hc R 33 21 [.ref 317, .ref 301, .ref (BA b)] S L e S' L' ∧ (∀ (d : Nat) (Q : PO → Prop), Wp (d + 25) 180 11 [some (.ref 395), none, none] [] (RP hcR C V W pl P0 RB) Q = Q (.inl (some (.int e)), RP hcR C V' W pl P' RB)) ∧
      sameBut (pRd b) S S' ∧ sameBut pRr V V' ∧ (∀ g v, ¬ (g = 4 ∧ (v = 0 ∨ v = 1 ∨ v = 3 ∨ v = 4)) → L' g v = L g v) ∧ (e = 0 ∨ 0 < e) ∧ (S' 4 208 0).toNatClampNeg = BA b ∧
      (e ≠ 0 → S' 4 204 0 = V' 4 202 0) ∧ (e = 0 → S' 4 204 0 = -1 ∧ V' 4 202 = V 4 202 ∧ ∃ M A NR rk, bookR S' P' b M A NR rk ∧ ∀ a, a < A → rk a ≤ 35) := by
  obtain ⟨m, qf, -, hm, rows, no31, is31, -, sS, sV, sL⟩ := cut_rel (T := T) hL h16 400 0 0 S L V rfl (by omega)
  have qC := fun (d : Nat) (Q : PO → Prop) => c21_start (hc := hc) (D := d) (Q := Q) (L := L) hT hB h16 hR hb
  have qR := fun (d : Nat) (Q : PO → Prop) => r180_b (hcR := hcR) (W := W) (pl := pl) (P := P0) (RB := RB) hV hRW d Q
  rw [show (400 : Nat) + 1 = 401 from rfl] at rows no31 is31 sS sV sL
  generalize eS1 : (scR L T 401 0 0 S L).1 = S1 at rows no31 is31 sS qC
  generalize eL1 : (scR L T 401 0 0 S L).2 = L1 at rows sL qC
  generalize eV1 : ctR T 401 0 0 V = V1 at rows sV qR
  have e42 : stV 0 L1 4 2 = L 4 2 := by
    unfold stV
    rw [sl_vne (by decide), sL 4 2 (by decide)]
  have H : bse b pl n m qf T (stS 0 (rd0 b S1)) (stV 0 L1) (su (su V1 4 203 0 0) 4 204 0 0) := by
    refine ⟨hb, hp, ?_, ?_, ?_, fun j hj => by rw [e42]; exact hL j hj, hm, fun a ha => ?_, fun a ha => ?_, ?_⟩
    · rw [st_ne (by omega)]
      unfold rd0
      rw [su_ne (by decide), su_ne (by decide), su_ne (by decide), cl_4 hb, su_self]
      exact bk_BA hb
    · rw [su_ne (by decide), su_ne (by decide), sV 4 207 (fun q => by have := q.2.1; omega)]
      exact hP
    · unfold tpV at hV ⊢
      rw [su_ne (v' := 201) (by decide), su_ne (v' := 201) (by decide), su_vne (v' := 210) (by decide), su_vne (v' := 210) (by decide), sV 4 201 (fun q => by have := q.2.1; omega), sV 4 210 (fun q => by have := q.2.1; omega)]
      exact hV
    · obtain ⟨r1, r2, r3, r4, r5, r6, r7, r8⟩ := rows a (Nat.zero_le _) ha
      rw [st_ne (v := 211) (by omega), st_ne (v := 212) (by omega), rd0_g hb (by decide) (by decide), rd0_g hb (by decide) (by decide), su_ne (v' := 211) (by decide), su_ne (v' := 211) (by decide), su_ne (v' := 212) (by decide), su_ne (v' := 212) (by decide), su_ne (v' := 213) (by decide), su_ne (v' := 213) (by decide), tkK_cg e42]
      unfold stV
      rw [sl_vne (v' := 1) (by decide)]
      exact ⟨r1, r2, r3, r4, r5, r6, r7⟩
    · rw [st_ne (v := 211) (by omega), rd0_g hb (by decide) (by decide)]
      exact no31 a (Nat.zero_le _) ha
    · rw [st_ne (v := 211) (by omega), rd0_g hb (by decide) (by decide)]
      exact is31
  have hg : ∀ v, v = 203 ∨ v = 204 → stS 0 (rd0 b S1) 4 v = rd0 b S1 4 v := fun v hv => st_ne (by omega)
  have hbk : ∀ v, 100 ≤ v → v ≤ 103 → stS 0 (rd0 b S1) (2 + b) v 0 = 0 := fun v g1 g2 => by
    rw [st_ne (by omega)]
    unfold rd0 clS
    rw [su_gne (by omega), su_gne (by omega), su_gne (by omega)]
    have : v = 100 ∨ v = 101 ∨ v = 102 ∨ v = 103 := by omega
    rcases this with rfl | rfl | rfl | rfl
    · rw [su_ne (by decide), su_ne (by decide), su_ne (by decide), su_self]
    · rw [su_ne (by decide), su_ne (by decide), su_self]
    · rw [su_ne (by decide), su_self]
    · rw [su_self]
  have GG : Gk b m qf T (stS 0 (rd0 b S1)) (stV 0 L1) (su (su V1 4 203 0 0) 4 204 0 0) 0 0 0 0 0 0 0 0 0 0 (stS 0 (rd0 b S1)) (stV 0 L1) (su (su V1 4 203 0 0) 4 204 0 0) P0 := by
    refine ⟨⟨Nat.zero_le _, ?_, ?_, ?_, ?_, ?_, ?_, 0, by decide, hbk 102 (by decide) (by decide)⟩, fr3_refl, fun u _ hu => ?_, ⟨⟨rfl, Nat.le_refl _⟩, ⟨rfl, by decide⟩, ⟨rfl, Nat.le_refl _⟩, ⟨rfl, Nat.le_refl _⟩, fun _ _ _ _ => rfl⟩, trivial, ?_, fun q => absurd rfl q, fun _ => ⟨?_, ?_⟩⟩
    · unfold stS; rw [su_ne (by decide), su_ne (by decide), su_self]
    · rw [st_ne (v := 211) (by omega)]; unfold stS; rw [su_ne (by decide), su_self]
    · rw [st_ne (v := 212) (by omega)]; unfold stS; rw [su_self]
    · unfold stV; rw [sl_self, sl_vne (by decide)]
    · rw [su_ne (by decide), su_self]; rfl
    · rw [su_self]; rfl
    · rw [su_ne (by decide), su_ne (by decide)]
      exact (rows u (Nat.zero_le _) hu).2.2.2.2.2.2.2
    · rw [hg 203 (Or.inl rfl)]
      unfold rd0
      rw [su_ne (by decide), su_ne (by decide), su_self]
      rfl
    · rw [hg 204 (Or.inr rfl)]
      unfold rd0
      rw [su_ne (by decide), su_self]
    · unfold CO
      rw [hbk 100 (by decide) (by decide), hbk 101 (by decide) (by decide), hbk 102 (by decide) (by decide), hbk 103 (by decide) (by decide)]
      exact ⟨⟨rfl, by decide, rfl, by decide⟩, ⟨rfl, by decide, rfl, by decide⟩, ⟨rfl, rfl, by decide⟩, rfl, rfl, rfl, fun u hu => by omega, fun u hu => by omega⟩
  have frS : ∀ {S' : S3}, sameBut (pS b) (stS 0 (rd0 b S1)) S' → sameBut (pRd b) S S' := fun {S'} h => sbt_trans (rd0_sb (k := 0) hb sS) (fun g v q => h g v (fun e => q (by
    rcases e with e | e
    · exact Or.inl e
    · exact Or.inr ⟨e.1, by omega⟩)))
  have frV : ∀ {V' : S3}, sameBut pV3 (su (su V1 4 203 0 0) 4 204 0 0) V' → sameBut pRr V V' := fun {V'} h => sbt_trans (sbt_su (sbt_su (fun g v q => sV g v (fun e => q ⟨e.1, by have := e.2; omega⟩)) ⟨rfl, by omega⟩) ⟨rfl, by omega⟩) (fun g v q => h g v (fun e => q ⟨e.1, by have := e.2; omega⟩))
  have frL : ∀ {L' : L3}, (∀ g v, ¬ (g = 4 ∧ (v = 0 ∨ v = 3 ∨ v = 4)) → L' g v = stV 0 L1 g v) → ∀ g v, ¬ (g = 4 ∧ (v = 0 ∨ v = 1 ∨ v = 3 ∨ v = 4)) → L' g v = L g v := fun {L'} h g v q => by
    rw [h g v (fun e => q ⟨e.1, by have := e.2; omega⟩)]
    unfold stV
    rw [sl_vne (fun e => q ⟨e.1, Or.inl e.2⟩), sL g v (fun e => q ⟨e.1, Or.inr (Or.inl e.2)⟩)]
  rcases lamps_sim (hc := hc) (hcR := hcR) (R := R) (RB := RB) (C := C) (W := W) H m 0 0 0 0 0 0 (fun _ => 0) _ _ _ _ 301 (BA b) none (Nat.le_refl _) GG (Nat.le_refl _) with ⟨S', L', V', P', ⟨k, km, u2, u4, F⟩, q3, q4⟩ | ⟨k, A, c, E, M, NR, rk, S', L', V', P', km, h4, h31, G2, q3, q4, w2⟩
  · have e212 : V' 4 212 k = Int32.ofNat (qf k) := (bse_t H F km).2.2.2.2.2.1
    refine ⟨1, stk S', L', su V' 4 202 0 (V' 4 212 k), P', fun d Q => (qC (d + 22) Q).trans (q3 (d + 10) Q), fun d Q => ?_, ?_, ?_, frL F.2.2, Or.inr (by decide), ?_, fun _ => ?_, fun q => absurd q (by decide)⟩
    · rw [qR d Q, r162_e (D := d + 24), q4 d]
      simp only [cK_inl, toL_some]
      exact r180_0 (by omega) u4
    · unfold stk
      exact sbt_su (sbt_su (frS F.1) (Or.inr ⟨rfl, by omega⟩)) (Or.inr ⟨rfl, by omega⟩)
    · exact sbt_su (frV F.2.1) ⟨rfl, by omega⟩
    · unfold stk
      rw [su_ne (by decide), su_ne (by decide)]
      exact bse_B H F
    · unfold stk
      rw [su_self, su_self, u2, e212]
  · have F := G2.2.1
    have u4 := G2.1.2.2.2.2.2.1
    obtain ⟨s1, s2, s3, s4⟩ := G2.2.2.2.2
    have cp := G2.2.2.2.1
    have eR : ∀ u, su V' 4 203 0 (Int32.ofNat 0) 4 214 u = V' 4 214 u := fun u => by rw [su_ne (by decide)]
    have pg := PG_0 cp.2.2.2.2
    obtain ⟨g1, g2, g3⟩ := PG_ps2 (V := su V' 4 203 0 (Int32.ofNat 0)) (T := T) (qf := qf) (lf := fun a => tkL T (qf a)) k 0 P' G0 pg
    have ep : ps2 (su V' 4 203 0 (Int32.ofNat 0)) T qf (fun a => tkL T (qf a)) k 0 G0 = p2 V' T qf k := p2_V (fun u _ => eR u)
    rw [ep] at g1 g2 g3
    obtain ⟨V2, v1, v2, v3, q5⟩ := r180_loop (c := hcR) (C := C) (W := W) (R := RB) (V := su V' 4 203 0 (Int32.ofNat 0)) (T := T) (n := n) (qf := qf) (lf := fun a => tkL T (qf a)) (k1 := k) (l2 := none) hp (by omega) k 0 (su V' 4 203 0 (Int32.ofNat 0)) P' (Nat.zero_add k) rfl rfl (tpV_su (bse_T H F) (by decide) (by decide)) (fun u hu => by
      obtain ⟨o1, o2, o3, o4⟩ := bse_on H F (show u < m by omega)
      exact ⟨o1, by rw [su_ne (by decide)]; exact o2, by rw [su_ne (by decide)]; exact o3, o4⟩) (by rw [su_ne (by decide)]; exact bse_P H F) su_self (PG_pr2 k 0 P' G0 pg (pr2_c2 k 0 G0 (fun u _ => eR u) s1)) none
    rw [g1] at v2 v3
    refine ⟨S' 4 203 0, S', L', V2, (ps2 (su V' 4 203 0 (Int32.ofNat 0)) T qf (fun a => tkL T (qf a)) k 0 P').2.2, fun d Q => (qC (d + 22) Q).trans (q3 (d + 10) Q), fun d Q => ?_, frS F.1, ?_, frL F.2.2, ?_, bse_B H F, fun q => ?_, fun q => ?_⟩
    · rw [qR d Q, r162_e (D := d + 24), q4 d]
      simp only [cK_inl, toL_some]
      refine (r180_1 u4).trans ?_
      have := q5 (d + 18) Q
      rw [g1, ← s2] at this
      exact this
    · exact sbt_trans (sbt_su (frV F.2.1) ⟨rfl, by omega⟩) (fun g v q => v1 g v (fun e => q ⟨e.1, by have := e.2; omega⟩))
    · rw [s2]
      exact ps2_rng k 0 G0
    · have e1 : (p2 V' T qf k).1 ≠ 0 := fun h => q (s2.trans h)
      obtain ⟨t1, t2⟩ := s3 e1
      rw [t1, v2 e1, g2, su_ne (by decide)]
      exact (bse_t H F (show (p2 V' T qf k).2.1 ≤ m by omega)).2.2.2.2.2.1.symm
    · have e1 : (p2 V' T qf k).1 = 0 := s2.symm.trans q
      obtain ⟨t1, t2⟩ := s4 e1
      refine ⟨t1, ?_, M, A, NR, rk, ?_⟩
      · rw [v3 e1, su_vne (by decide), F.2.1 4 202 (fun e => by have := e.2; omega), su_vne (by decide), su_vne (by decide), sV 4 202 (fun e => by have := e.2.1; omega)]
      · exact book_of (by omega) h4 (cp.2.2.1.2) (w2 q (fun _ i hi => by omega)) t2 g3
end REAE
