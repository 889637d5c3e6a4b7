/-! BOTH CUT ALIKE -/
section TOKB
variable {S V : S3} {L : L3} {d i j k n m p l : Nat} {x y ch : Int32} {z : Int64} {T : Nat → Int32}
theorem getD_at {w : List Int32} {i : Nat} (h : i < w.length) : w.getD i 0 = w[i] := by
  rw [List.getD_eq_getElem?_getD, List.getElem?_eq_getElem h]
  rfl
def stL (z : Int64) (x : Int32) : Int64 := z * 27 + x.toInt64 - 97 + 1
def valL (l : List Int32) : Int64 := l.foldl stL 0
def vr : List Nat → Nat
  | [] => 0
  | a :: t => vr t * 27 + a
theorem vr_inj : ∀ (s t : List Nat), (∀ a ∈ s, 1 ≤ a ∧ a ≤ 26) → (∀ a ∈ t, 1 ≤ a ∧ a ≤ 26) → vr s = vr t → s = t := by
  intro s
  induction s with
  | nil =>
    intro t _ ht h
    cases t with
    | nil => rfl
    | cons b t =>
      have := ht b (List.mem_cons_self ..)
      simp only [vr] at h
      omega
  | cons a s ih =>
    intro t hs ht h
    cases t with
    | nil =>
      have := hs a (List.mem_cons_self ..)
      simp only [vr] at h
      omega
    | cons b t =>
      have h1 := hs a (List.mem_cons_self ..)
      have h2 := ht b (List.mem_cons_self ..)
      simp only [vr] at h
      have e1 : a = b := by omega
      have e2 : vr s = vr t := by omega
      rw [e1, ih t (fun x hx => hs x (List.mem_cons_of_mem _ hx)) (fun x hx => ht x (List.mem_cons_of_mem _ hx)) e2]
theorem vr_lt : ∀ (s : List Nat), (∀ a ∈ s, 1 ≤ a ∧ a ≤ 26) → vr s < 27 ^ s.length := by
  intro s
  induction s with
  | nil => intro _; decide
  | cons a s ih =>
    intro hs
    have h1 := hs a (List.mem_cons_self ..)
    have h2 := ih (fun x hx => hs x (List.mem_cons_of_mem _ hx))
    simp only [vr, List.length_cons, Nat.pow_succ]
    omega
def lc (x : Int32) : Nat := x.toNatClampNeg - 96
theorem il_lc (h : il x = 1) : ∃ a, 97 ≤ a ∧ a ≤ 122 ∧ x = Int32.ofNat a := by
  have e2 : ¬ (x < 97 ∨ 122 < x) := fun q => by unfold il at h; rw [if_pos q] at h; exact absurd h (by decide)
  have h1 : ¬ x < 97 := fun q => e2 (Or.inl q)
  have h2 : ¬ 122 < x := fun q => e2 (Or.inr q)
  have h0 : ¬ x < 0 := fun q => h1 (Int32.lt_trans q (by decide))
  have ex := nnI h0
  have hlt := tN_lt (x := x)
  refine ⟨x.toNatClampNeg, ?_, ?_, ex⟩
  · by_cases q : x.toNatClampNeg < 97
    · exact absurd (show x < 97 by rw [ex]; exact (show Int32.ofNat x.toNatClampNeg < Int32.ofNat 97 from (ofN_lt hlt (by decide)).mpr q)) h1
    · omega
  · by_cases q : 122 < x.toNatClampNeg
    · exact absurd (show (122 : Int32) < x by rw [ex]; exact (ofN_lt (k := 122) (by decide) hlt).mpr q) h2
    · omega
theorem stL_N : ∀ a, 97 ≤ a → a ≤ 122 → ∀ v : Nat, stL (Int64.ofNat v) (Int32.ofNat a) = Int64.ofNat (v * 27 + lc (Int32.ofNat a)) := by
  have h : ∀ a, a < 123 → 97 ≤ a → (Int32.ofNat a).toInt64 - 97 + 1 = Int64.ofNat (lc (Int32.ofNat a)) := by decide +kernel
  intro a h1 h2 v
  unfold stL
  rw [Int64.ofNat_add, Int64.ofNat_mul, ← h a (by omega) h1, Int64.sub_eq_add_neg, Int64.sub_eq_add_neg]
  simp only [Int64.add_assoc]
  rfl
theorem lc_in (h : il x = 1) : 1 ≤ lc x ∧ lc x ≤ 26 := by
  obtain ⟨a, h1, h2, rfl⟩ := il_lc h
  unfold lc
  rw [tN_nat (by omega)]
  omega
theorem foldl_vr : ∀ (l : List Int32) (s : List Nat), (∀ x ∈ l, il x = 1) → l.foldl stL (Int64.ofNat (vr s)) = Int64.ofNat (vr ((l.map lc).reverse ++ s)) := by
  intro l
  induction l with
  | nil => intro s _; rfl
  | cons x l ih =>
    intro s hl
    obtain ⟨a, h1, h2, ex⟩ := il_lc (hl x (List.mem_cons_self ..))
    rw [List.foldl_cons, ex, stL_N a h1 h2, show vr s * 27 + lc (Int32.ofNat a) = vr (lc (Int32.ofNat a) :: s) from rfl, ih _ (fun y hy => hl y (List.mem_cons_of_mem _ hy))]
    simp only [List.map_cons, List.reverse_cons, List.append_assoc, List.singleton_append]
theorem valL_vr {l : List Int32} (hl : ∀ x ∈ l, il x = 1) : valL l = Int64.ofNat (vr (l.map lc).reverse) := by
  have := foldl_vr l [] hl
  rw [List.append_nil] at this
  exact this
theorem lc_inj (hx : il x = 1) (hy : il y = 1) (h : lc x = lc y) : x = y := by
  obtain ⟨a, h1, h2, rfl⟩ := il_lc hx
  obtain ⟨b, h3, h4, rfl⟩ := il_lc hy
  unfold lc at h
  rw [tN_nat (by omega), tN_nat (by omega)] at h
  rw [show a = b by omega]
theorem map_lc_inj : ∀ (l l' : List Int32), (∀ x ∈ l, il x = 1) → (∀ x ∈ l', il x = 1) → l.map lc = l'.map lc → l = l' := by
  intro l
  induction l with
  | nil =>
    intro l' _ _ h
    cases l' with
    | nil => rfl
    | cons b t => exact absurd h (by simp)
  | cons a l ih =>
    intro l' h1 h2 h
    cases l' with
    | nil => exact absurd h (by simp)
    | cons b t =>
      simp only [List.map_cons, List.cons.injEq] at h
      rw [lc_inj (h1 a (List.mem_cons_self ..)) (h2 b (List.mem_cons_self ..)) h.1, ih t (fun x hx => h1 x (List.mem_cons_of_mem _ hx)) (fun x hx => h2 x (List.mem_cons_of_mem _ hx)) h.2]
theorem valL_inj {l l' : List Int32} (h1 : ∀ x ∈ l, il x = 1) (h2 : ∀ x ∈ l', il x = 1) (h3 : l.length ≤ 8) (h4 : l'.length ≤ 8) (h : valL l = valL l') : l = l' := by
  have b1 : ∀ {l : List Int32}, (∀ x ∈ l, il x = 1) → ∀ a ∈ (l.map lc).reverse, 1 ≤ a ∧ a ≤ 26 := fun {l} hl a ha => by
    rw [List.mem_reverse, List.mem_map] at ha
    obtain ⟨x, hx, rfl⟩ := ha
    exact lc_in (hl x hx)
  have b2 : ∀ {l : List Int32}, (∀ x ∈ l, il x = 1) → l.length ≤ 8 → vr (l.map lc).reverse < 2 ^ 63 := fun {l} hl h8 => by
    have := vr_lt _ (b1 hl)
    rw [List.length_reverse, List.length_map] at this
    have h27 : 27 ^ l.length ≤ 27 ^ 8 := Nat.pow_le_pow_right (by decide) h8
    have : (27 : Nat) ^ 8 < 2 ^ 63 := by decide
    omega
  rw [valL_vr h1, valL_vr h2] at h
  have e : vr (l.map lc).reverse = vr (l'.map lc).reverse := by
    have q := congrArg Int64.toInt h
    rw [Int64.toInt_ofNat_of_lt (b2 h1 h3), Int64.toInt_ofNat_of_lt (b2 h2 h4)] at q
    exact Int.ofNat_inj.mp q
  have e2 := vr_inj _ _ (b1 h1) (b1 h2) e
  exact map_lc_inj l l' h1 h2 (List.reverse_inj.mp e2)
/-- the letters of a word on the tape -/
def lst (T : Nat → Int32) (p l : Nat) : List Int32 := (List.range' p l).map T
theorem lst_len : (lst T p l).length = l := by simp [lst]
theorem lst_il (h : ∀ i, i < l → il (T (p + i)) = 1) : ∀ x ∈ lst T p l, il x = 1 := by
  intro x hx
  unfold lst at hx
  rw [List.mem_map] at hx
  obtain ⟨a, ha, rfl⟩ := hx
  rw [List.mem_range'_1] at ha
  have := h (a - p) (by omega)
  rw [show p + (a - p) = a by omega] at this
  exact this
theorem we_il : ∀ (k i a : Nat), i ≤ a → a < we T k i → il (T a) = 1 := by
  intro k
  induction k with
  | zero => intro i a h1 h2; rw [we] at h2; omega
  | succ k ih =>
    intro i a h1 h2
    rw [we] at h2
    rcases il_01 (x := T i) with e | e
    · rw [if_pos e] at h2; omega
    · rw [if_neg (by rw [e]; decide)] at h2
      by_cases q : i = a
      · rw [← q]; exact e
      · exact ih (i + 1) a (by omega) h2
theorem wv_val : ∀ (k i : Nat) (z : Int64), wv T k i z = (lst T i (we T k i - i)).foldl stL z := by
  intro k
  induction k with
  | zero => intro i z; rw [we, Nat.sub_self]; rfl
  | succ k ih =>
    intro i z
    have hw := we_in (T := T) k (i + 1)
    rw [wv, we]
    by_cases e : il (T i) = 0
    · rw [if_pos e, if_pos e, Nat.sub_self]; rfl
    · rw [if_neg e, if_neg e, ih, show we T k (i + 1) - i = (we T k (i + 1) - (i + 1)) + 1 by omega]
      unfold lst
      rw [List.range'_succ, List.map_cons, List.foldl_cons]
      rfl
theorem wdV_val : wdV T p = valL (lst T p (wdE T p - p)) := wv_val _ _ _
theorem wd_il : ∀ i, i < wdE T p - p → il (T (p + i)) = 1 := fun i hi => we_il (1600 - p) p (p + i) (by omega) (by unfold wdE at hi; omega)
/-- what is reserved -/
def resL (L : L3) : Prop := ∀ j, j < 23 → L 4 2 j = valL (wdB j)
theorem wdB_il (hj : j < 23) : ∀ x ∈ wdB j, il x = 1 := by
  intro x hx
  obtain ⟨i, hi, e⟩ := List.getElem_of_mem hx
  have := wd_let j hj i hi
  rw [getD_at hi, e] at this
  exact this
theorem eq_lst {w : List Int32} : w = lst T p l ↔ w.length = l ∧ ∀ i, i < l → w.getD i 0 = T (p + i) := by
  constructor
  · rintro rfl
    refine ⟨lst_len, fun i hi => ?_⟩
    rw [getD_at (by rw [lst_len]; exact hi)]
    simp [lst]
  · rintro ⟨h1, h2⟩
    refine List.ext_getElem (by rw [lst_len]; exact h1) fun i hi hi' => ?_
    have := h2 i (by omega)
    rw [getD_at hi] at this
    rw [this]
    simp [lst]
theorem wq_iff : ∀ (k i : Nat) (s : Int32), (s = 0 ∨ s = 1) → (wq T p j k i s = 0 ↔ ¬ (s = 1 ∧ ∀ a, i ≤ a → a < i + k → (wdB j).getD a 0 = T (p + a))) := by
  intro k
  induction k with
  | zero =>
    intro i s hs
    rw [wq]
    rcases hs with rfl | rfl
    · exact ⟨fun _ q => absurd q.1 (by decide), fun _ => rfl⟩
    · exact ⟨fun q => absurd q (by decide), fun q => absurd ⟨rfl, fun a h1 h2 => by omega⟩ q⟩
  | succ k ih =>
    intro i s hs
    rw [wq]
    rcases hs with rfl | rfl
    · rw [if_pos rfl]
      exact ⟨fun _ q => absurd q.1 (by decide), fun _ => rfl⟩
    · rw [if_neg (by decide)]
      by_cases hc : (wdB j).getD i 0 = T (p + i)
      · rw [if_pos hc, ih (i + 1) 1 (Or.inr rfl)]
        refine not_congr ⟨fun q => ⟨rfl, fun a h1 h2 => ?_⟩, fun q => ⟨rfl, fun a h1 h2 => q.2 a (by omega) (by omega)⟩⟩
        by_cases e : a = i
        · rw [e]; exact hc
        · exact q.2 a (by omega) (by omega)
      · rw [if_neg hc, ih (i + 1) 0 (Or.inl rfl)]
        exact ⟨fun _ q => hc (q.2 i (Nat.le_refl _) (by omega)), fun _ q => absurd q.1 (by decide)⟩
theorem wq_word (hj : j < 23) (hL : resL L) (h8 : wdE T p - p ≤ 8) : wq T p j (wdE T p - p) 0 (if (wdB j).length = wdE T p - p then 1 else 0) = 0 ↔ ¬ L 4 2 j = wdV T p := by
  rw [wq_iff _ _ _ (by split <;> simp), hL j hj, wdV_val]
  refine not_congr ⟨fun q => ?_, fun q => ?_⟩
  · have h1 : (wdB j).length = wdE T p - p := by
      by_cases e : (wdB j).length = wdE T p - p
      · exact e
      · rw [if_neg e] at q; exact absurd q.1 (by decide)
    exact congrArg valL (eq_lst.mpr ⟨h1, fun i hi => q.2 i (by omega) (by omega)⟩)
  · have e := eq_lst.mp (valL_inj (wdB_il hj) (lst_il wd_il) (w8_len j hj) (by rw [lst_len]; exact h8) q)
    exact ⟨if_pos e.1, fun a _ h2 => e.2 a (by omega)⟩
end TOKB
