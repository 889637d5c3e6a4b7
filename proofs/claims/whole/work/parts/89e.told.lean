/-! THE SECOND PASS, TOKEN BY TOKEN; NAMES TOLD; NUMBERS -/
section TOLD
variable {V V' P : S3} {i j k n m p t u q M N A NR : Nat} {x y ρ : Int32} {z : Int64} {T : Nat → Int32} {qf lf : Nat → Nat} {f : Nat → Int64}
theorem ps2_snoc : ∀ (k t : Nat) (P : S3), ps2 V T qf lf (k + 1) t P = if (ps2 V T qf lf k t P).1 = 0 then (if (e2 V T qf lf (t + k) (ps2 V T qf lf k t P).2.2).1 = 0 then (0, t + k + 1, (e2 V T qf lf (t + k) (ps2 V T qf lf k t P).2.2).2) else ((e2 V T qf lf (t + k) (ps2 V T qf lf k t P).2.2).1, t + k, (e2 V T qf lf (t + k) (ps2 V T qf lf k t P).2.2).2)) else ps2 V T qf lf k t P := by
  intro k
  induction k with
  | zero =>
    intro t P
    rw [ps2, ps2, if_pos (show ((0 : Int32), t, P).1 = 0 from rfl)]
    rfl
  | succ k ih =>
    intro t P
    rw [ps2, ih (t + 1), show ps2 V T qf lf (k + 1) t P = if (e2 V T qf lf t P).1 = 0 then ps2 V T qf lf k (t + 1) (e2 V T qf lf t P).2 else ((e2 V T qf lf t P).1, t, (e2 V T qf lf t P).2) from rfl]
    by_cases h : (e2 V T qf lf t P).1 = 0
    · simp only [if_pos h, show t + 1 + k = t + (k + 1) by omega]
    · simp only [if_neg h]
theorem pr2_snoc : ∀ (k t : Nat) (P : S3), pr2 V T qf lf k t P → ((ps2 V T qf lf k t P).1 = 0 → pre2 V (t + k) (ps2 V T qf lf k t P).2.2) → pr2 V T qf lf (k + 1) t P := by
  intro k
  induction k with
  | zero =>
    intro t P _ h2
    exact ⟨h2 rfl, fun _ => trivial⟩
  | succ k ih =>
    intro t P h1 h2
    obtain ⟨h3, h4⟩ := h1
    refine ⟨h3, fun h5 => ?_⟩
    have e : ps2 V T qf lf (k + 1) t P = ps2 V T qf lf k (t + 1) (e2 V T qf lf t P).2 := by rw [ps2, if_pos h5]
    rw [e] at h2
    exact ih (t + 1) _ (h4 h5) (fun h6 => by rw [show t + 1 + k = t + (k + 1) by omega]; exact h2 h6)
theorem tdI_c2 : ∀ (k u cnt : Nat), (∀ u', u ≤ u' → u' < u + k → V' 4 214 u' = V 4 214 u') → tdI V' T qf lf t ρ k u cnt = tdI V T qf lf t ρ k u cnt := by
  intro k
  induction k with
  | zero => intro u cnt _; rfl
  | succ k ih =>
    intro u cnt h
    rw [tdI, tdI, h u (Nat.le_refl _) (by omega), ih (u + 1) (cnt + 1) (fun u' h1 h2 => h u' (by omega) (by omega)), ih (u + 1) cnt (fun u' h1 h2 => h u' (by omega) (by omega))]
theorem e2_c2 (h : ∀ u, u ≤ t → V' 4 214 u = V 4 214 u) : e2 V' T qf lf t P = e2 V T qf lf t P := by
  have h1 : ∀ {ρ : Int32}, tdI V' T qf lf t ρ t 0 0 = tdI V T qf lf t ρ t 0 0 := fun {ρ} => tdI_c2 t 0 0 (fun u _ h2 => h u (by omega))
  have h2 : tkn V' T qf lf t = tkn V T qf lf t := by unfold tkn; rw [h1, h1]
  unfold e2
  rw [h t (Nat.le_refl _), h2, h1, h1]
theorem pre2_c2 (h : V' 4 214 t = V 4 214 t) : pre2 V' t P ↔ pre2 V t P := by
  unfold pre2
  rw [h]
theorem ps2_c2 : ∀ (k t : Nat) (P : S3), (∀ u, u < t + k → V' 4 214 u = V 4 214 u) → ps2 V' T qf lf k t P = ps2 V T qf lf k t P := by
  intro k
  induction k with
  | zero => intro t P _; rfl
  | succ k ih =>
    intro t P h
    rw [ps2, ps2, e2_c2 (fun u hu => h u (by omega)), ih (t + 1) _ (fun u hu => h u (by omega))]
theorem pr2_c2 : ∀ (k t : Nat) (P : S3), (∀ u, u < t + k → V' 4 214 u = V 4 214 u) → pr2 V T qf lf k t P → pr2 V' T qf lf k t P := by
  intro k
  induction k with
  | zero => intro t P _ _; trivial
  | succ k ih =>
    intro t P h h1
    rw [pr2, e2_c2 (fun u hu => h u (by omega))]
    exact ⟨(pre2_c2 (h t (by omega))).mpr h1.1, fun h2 => ih (t + 1) _ (fun u hu => h u (by omega)) (h1.2 h2)⟩
/-- how many tokens ahead have the role -/
def rc (V : S3) (ρ : Int32) : Nat → Nat
  | 0 => 0
  | u + 1 => if V 4 214 u = ρ then rc V ρ u + 1 else rc V ρ u
theorem rc_c2 : ∀ (k : Nat), (∀ u, u < k → V' 4 214 u = V 4 214 u) → rc V' ρ k = rc V ρ k := by
  intro k
  induction k with
  | zero => intro _; rfl
  | succ k ih =>
    intro h
    rw [rc, rc, h k (by omega), ih (fun u hu => h u (by omega))]
theorem rc_mono : ∀ (k u : Nat), rc V ρ u ≤ rc V ρ (u + k) := by
  intro k
  induction k with
  | zero => intro u; exact Nat.le_refl _
  | succ k ih =>
    intro u
    have := ih u
    rw [← Nat.add_assoc, rc]
    split <;> omega
theorem rc_lt (h : V 4 214 u = ρ) (hu : u < t) : rc V ρ u < rc V ρ t := by
  have h1 := rc_mono (V := V) (ρ := ρ) (t - (u + 1)) (u + 1)
  rw [show u + 1 + (t - (u + 1)) = t by omega, rc, if_pos h] at h1
  omega
/-- a name at a place -/
def nmT (T : Nat → Int32) (p : Nat) : Prop := il (T p) = 1 ∧ wdE T p - p ≤ 8
theorem smB_iff : ∀ (k j : Nat), smB T p q k j = 0 ↔ ¬ ∀ a, j ≤ a → a < j + k → T (p + a) = T (q + a) := by
  intro k
  induction k with
  | zero => intro j; exact ⟨fun h => absurd (show (1 : Int32) = 0 from h) (by decide), fun h => absurd (fun a h1 h2 => by omega) h⟩
  | succ k ih =>
    intro j
    rw [smB]
    by_cases h : T (p + j) = T (q + j)
    · rw [if_pos h, ih]
      refine not_congr ⟨fun g a h1 h2 => ?_, fun g a h1 h2 => g a (by omega) (by omega)⟩
      by_cases e : a = j
      · rw [e]; exact h
      · exact g a (by omega) (by omega)
    · rw [if_neg h]
      exact ⟨fun _ g => h (g j (Nat.le_refl _) (by omega)), fun _ => rfl⟩
theorem lst_eq {l : Nat} : lst T p l = lst T q l ↔ ∀ a, a < l → T (p + a) = T (q + a) := by
  constructor
  · intro h a ha
    have := (eq_lst (T := T) (p := q) (l := l)).mp h
    have h2 := this.2 a ha
    rw [getD_at (by rw [lst_len]; exact ha)] at h2
    simpa [lst] using h2
  · intro h
    refine (eq_lst (T := T) (p := q) (l := l)).mpr ⟨lst_len, fun a ha => ?_⟩
    rw [getD_at (by rw [lst_len]; exact ha), ← h a ha]
    simp [lst]
theorem smI_iff (h1 : nmT T p) (h2 : nmT T q) : smI T p (tkL T p) q (tkL T q) = 0 ↔ tkV T p ≠ tkV T q := by
  obtain ⟨a1, a2⟩ := h1
  obtain ⟨b1, b2⟩ := h2
  unfold smI tkL tkV
  rw [if_neg (show ¬ il (T p) = 0 by rw [a1]; decide), if_neg (show ¬ il (T q) = 0 by rw [b1]; decide), if_neg (show ¬ il (T p) = 0 by rw [a1]; decide), if_neg (show ¬ il (T q) = 0 by rw [b1]; decide), wdV_val, wdV_val]
  by_cases h : wdE T p - p = wdE T q - q
  · rw [if_pos h, smB_iff]
    refine not_congr ⟨fun g => ?_, fun g => ?_⟩
    · rw [← h, lst_eq.mpr (fun a ha => g a (by omega) (by omega))]
    · have e := valL_inj (lst_il wd_il) (lst_il wd_il) (by rw [lst_len]; exact a2) (by rw [lst_len]; exact b2) g
      rw [← h] at e
      intro a _ ha
      exact lst_eq.mp e a (by omega)
  · rw [if_neg h]
    refine ⟨fun _ g => h ?_, fun _ => rfl⟩
    have e := congrArg List.length (valL_inj (lst_il wd_il) (lst_il wd_il) (by rw [lst_len]; exact a2) (by rw [lst_len]; exact b2) g)
    rw [lst_len, lst_len] at e
    exact e
/-- names of one role that were told, and the class's row of them -/
def nmO (V : S3) (T : Nat → Int32) (qf : Nat → Nat) (f : Nat → Int64) (ρ : Int32) (k : Nat) : Prop := ∀ u, u < k → V 4 214 u = ρ → nmT T (qf u) ∧ f (rc V ρ u) = tkV T (qf u)
theorem told_ix {n0 : Nat} (hO : nmO V T qf f ρ t) (ht : nmT T (qf t)) (hn : rc V ρ t ≤ n0) (hn0 : n0 ≤ 100) : ∀ (k u : Nat), u + k = t → tdI V T qf (fun a => tkL T (qf a)) t ρ k u (rc V ρ u) = ixL f (tkV T (qf t)) (Int32.ofNat (rc V ρ t)) (n0 - rc V ρ u) (rc V ρ u) := by
  intro k
  induction k with
  | zero =>
    intro u hu
    rw [tdI, show u = t by omega]
    cases h : n0 - rc V ρ t with
    | zero => rfl
    | succ k => rw [ixL, if_pos ((ofN_le (by omega) (by omega)).mpr (Nat.le_refl _))]
  | succ k ih =>
    intro u hu
    have ih' := ih (u + 1) (by omega)
    rw [tdI]
    by_cases h : V 4 214 u = ρ
    · obtain ⟨o1, o2⟩ := hO u (by omega) h
      have hlt := rc_lt (t := t) h (by omega)
      rw [rc, if_pos h] at ih'
      rw [if_pos h, show n0 - rc V ρ u = (n0 - (rc V ρ u + 1)) + 1 by omega, ixL, if_neg (fun g => absurd ((ofN_le (by omega) (by omega)).mp g) (by omega)), o2, ih']
      by_cases g : tkV T (qf u) = tkV T (qf t)
      · rw [if_pos g, if_neg (fun g2 => (smI_iff o1 ht).mp g2 g)]
      · rw [if_neg g, if_pos ((smI_iff o1 ht).mpr g)]
    · rw [rc, if_neg h] at ih'
      rw [if_neg h, ih']
theorem ixL_less {c : Nat} (hc : c < 100) : ∀ (k i : Nat), i + k ≤ 100 → ixL f z (Int32.ofNat c) k i = if ixL f z (Int32.ofNat (c + 1)) k i = Int32.ofNat c then -1 else ixL f z (Int32.ofNat (c + 1)) k i := by
  intro k
  induction k with
  | zero =>
    intro i _
    rw [ixL, ixL]
    split <;> rfl
  | succ k ih =>
    intro i hi
    rw [ixL, ixL]
    by_cases h1 : c ≤ i
    · rw [if_pos ((ofN_le (by omega) (by omega)).mpr h1)]
      by_cases h2 : c + 1 ≤ i
      · rw [if_pos ((ofN_le (by omega) (by omega)).mpr h2)]
        split <;> rfl
      · have e : i = c := by omega
        rw [if_neg (fun g => absurd ((ofN_le (by omega) (by omega)).mp g) (by omega)), e]
        by_cases h3 : f c = z
        · rw [if_pos h3, if_pos rfl]
        · rw [if_neg h3]
          have e2 : ixL f z (Int32.ofNat (c + 1)) k (c + 1) = -1 := by
            cases k with
            | zero => rfl
            | succ k => rw [ixL, if_pos ((ofN_le (by omega) (by omega)).mpr (Nat.le_refl _))]
          rw [e2]
          split <;> rfl
    · rw [if_neg (fun g => h1 ((ofN_le (by omega) (by omega)).mp g)), if_neg (fun g => absurd ((ofN_le (by omega) (by omega)).mp g) (by omega))]
      by_cases h3 : f i = z
      · rw [if_pos h3, if_pos h3, if_neg (fun g => absurd (ofN_inj (by omega) (by omega) g) (by omega))]
      · rw [if_neg h3, if_neg h3]
        exact ih (i + 1) (by omega)
theorem ixL_rng {c : Nat} (hc : c ≤ 100) : ∀ (k i : Nat), i + k ≤ 100 → ixL f z (Int32.ofNat c) k i = -1 ∨ ∃ a, a < c ∧ i ≤ a ∧ a < i + k ∧ ixL f z (Int32.ofNat c) k i = Int32.ofNat a := by
  intro k
  induction k with
  | zero => intro i _; exact Or.inl rfl
  | succ k ih =>
    intro i hi
    rw [ixL]
    by_cases h1 : c ≤ i
    · exact Or.inl (if_pos ((ofN_le (by omega) (by omega)).mpr h1))
    · rw [if_neg (fun g => h1 ((ofN_le (by omega) (by omega)).mp g))]
      by_cases h2 : f i = z
      · rw [if_pos h2]
        exact Or.inr ⟨i, by omega, Nat.le_refl _, by omega, rfl⟩
      · rw [if_neg h2]
        refine (ih (i + 1) (by omega)).imp id ?_
        rintro ⟨a, h3, h4, h5, h6⟩
        exact ⟨a, h3, by omega, by omega, h6⟩
/-- numbers of up to three digits -/
def nv (T : Nat → Int32) : Nat → Nat → Nat → Nat
  | 0, _, v => v
  | k + 1, i, v => nv T k (i + 1) (10 * v + ((T i).toNatClampNeg - 48))
theorem idg_N (h : idg x = 1) : ∃ a, 48 ≤ a ∧ a ≤ 57 ∧ x = Int32.ofNat a := by
  have e2 : ¬ (x < 48 ∨ 57 < x) := fun q => by unfold idg at h; rw [if_pos q] at h; exact absurd h (by decide)
  have h1 : ¬ x < 48 := fun q => e2 (Or.inl q)
  have h2 : ¬ 57 < x := fun q => e2 (Or.inr q)
  have h0 : ¬ x < 0 := fun q => h1 (Int32.lt_trans q (by decide))
  have ex := nnI h0
  have hlt := tN_lt (x := x)
  refine ⟨x.toNatClampNeg, ?_, ?_, ex⟩
  · by_cases q : x.toNatClampNeg < 48
    · exact absurd (show x < 48 by rw [ex]; exact (show Int32.ofNat x.toNatClampNeg < Int32.ofNat 48 from (ofN_lt hlt (by decide)).mpr q)) h1
    · omega
  · by_cases q : 57 < x.toNatClampNeg
    · exact absurd (show (57 : Int32) < x by rw [ex]; exact (ofN_lt (k := 57) (by decide) hlt).mpr q) h2
    · omega
theorem dg_32 : ∀ a, a < 58 → 48 ≤ a → Int32.ofNat a - 48 = Int32.ofNat (a - 48) := by decide +kernel
theorem dg_64 : ∀ a, a < 58 → 48 ≤ a → (Int32.ofNat a).toInt64 - 48 = Int64.ofNat (a - 48) := by decide +kernel
theorem de_dg : ∀ (k i a : Nat), i ≤ a → a < de T k i → idg (T a) = 1 := by
  intro k
  induction k with
  | zero => intro i a h1 h2; rw [de] at h2; omega
  | succ k ih =>
    intro i a h1 h2
    rw [de] at h2
    rcases idg_01 (x := T i) with e | e
    · rw [if_pos e] at h2; omega
    · rw [if_neg (by rw [e]; decide)] at h2
      by_cases g : i = a
      · rw [← g]; exact e
      · exact ih (i + 1) a (by omega) h2
theorem dv_nv : ∀ (k i v : Nat), dv T k i (Int64.ofNat v) = Int64.ofNat (nv T (de T k i - i) i v) := by
  intro k
  induction k with
  | zero => intro i v; rw [de, Nat.sub_self]; rfl
  | succ k ih =>
    intro i v
    have hw := de_in (T := T) k (i + 1)
    rw [dv, de]
    rcases idg_01 (x := T i) with e | e
    · rw [if_pos e, if_pos e, Nat.sub_self]; rfl
    · have e0 : ¬ idg (T i) = 0 := by rw [e]; decide
      obtain ⟨a, h1, h2, ea⟩ := idg_N e
      rw [if_neg e0, if_neg e0, show de T k (i + 1) - i = (de T k (i + 1) - (i + 1)) + 1 by omega, nv, ← ih]
      have e3 : Int64.ofNat v * 10 + (T i).toInt64 - 48 = Int64.ofNat (10 * v + ((T i).toNatClampNeg - 48)) := by
        rw [ea, tN_nat (by omega), Int64.ofNat_add, Nat.mul_comm, Int64.ofNat_mul, ← dg_64 a (by omega) h1, Int64.sub_eq_add_neg, Int64.sub_eq_add_neg]
        simp only [Int64.add_assoc]
        rfl
      rw [e3]
theorem nm_nv : ∀ (k j v : Nat), (∀ a, q + j ≤ a → a < q + j + k → idg (T a) = 1) → nmI T q k j (Int32.ofNat v) = Int32.ofNat (nv T k (q + j) v) := by
  intro k
  induction k with
  | zero => intro j v _; rfl
  | succ k ih =>
    intro j v h
    obtain ⟨a, h1, h2, ea⟩ := idg_N (h (q + j) (Nat.le_refl _) (by omega))
    have e3 : 10 * Int32.ofNat v + T (q + j) - 48 = Int32.ofNat (10 * v + ((T (q + j)).toNatClampNeg - 48)) := by
      rw [ea, tN_nat (by omega), Int32.ofNat_add, Int32.ofNat_mul, ← dg_32 a (by omega) h1, Int32.sub_eq_add_neg, Int32.sub_eq_add_neg]
      simp only [Int32.add_assoc]
      rfl
    rw [nmI, nv, e3, ih (j + 1) _ (fun a h1 h2 => h a (by omega) (by omega))]
    rfl
theorem nv_le : ∀ (k i v : Nat), (∀ a, i ≤ a → a < i + k → idg (T a) = 1) → nv T k i v + 1 ≤ (v + 1) * 10 ^ k := by
  intro k
  induction k with
  | zero => intro i v _; rw [nv]; simp
  | succ k ih =>
    intro i v h
    obtain ⟨a, h1, h2, ea⟩ := idg_N (h i (Nat.le_refl _) (by omega))
    have h3 := ih (i + 1) (10 * v + ((T i).toNatClampNeg - 48)) (fun a h1 h2 => h a (by omega) (by omega))
    rw [nv]
    refine Nat.le_trans h3 ?_
    rw [Nat.pow_succ, Nat.mul_comm (10 ^ k) 10, ← Nat.mul_assoc]
    refine Nat.mul_le_mul_right _ ?_
    rw [ea, tN_nat (by omega)]
    omega
/-- a number at a place -/
def nuT (T : Nat → Int32) (p : Nat) : Prop := il (T p) = 0 ∧ idg (T p) = 1 ∧ dgE T p - p ≤ 3
theorem num_v (h : nuT T p) : ∃ v, v ≤ 999 ∧ tkV T p = Int64.ofNat v ∧ nmI T p (tkL T p) 0 0 = Int32.ofNat v := by
  obtain ⟨h1, h2, h3⟩ := h
  have h4 : ¬ idg (T p) = 0 := by rw [h2]; decide
  have hd : ∀ a, p ≤ a → a < p + (dgE T p - p) → idg (T a) = 1 := fun a g1 g2 => de_dg (1600 - p) p a g1 (by unfold dgE at g2; omega)
  refine ⟨nv T (dgE T p - p) p 0, ?_, ?_, ?_⟩
  · have := nv_le (dgE T p - p) p 0 hd
    have h5 : 10 ^ (dgE T p - p) ≤ 10 ^ 3 := Nat.pow_le_pow_right (by decide) h3
    omega
  · unfold tkV
    rw [if_pos h1, if_neg h4]
    exact dv_nv (1600 - p) p 0
  · unfold tkL
    rw [if_pos h1, if_neg h4]
    exact nm_nv (dgE T p - p) 0 0 hd
end TOLD
