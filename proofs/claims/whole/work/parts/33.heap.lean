/-! THE HEAP AS A PICTURE: tables tC, tR, tP say what lies where; numbers in S (group, name, place), long ones in L -/
abbrev S3 : Type := Nat → Nat → Nat → Int32
abbrev L3 : Type := Nat → Nat → Nat → Int64
abbrev Qd : Type := Nat × Nat × Nat × Nat
abbrev SH : Type := Option ((Nat × List Qd) ⊕ (Nat × Nat × Qd))
def su (S : S3) (g v i : Nat) (x : Int32) : S3 := fun g' v' i' => if g' = g ∧ v' = v ∧ i' = i then x else S g' v' i'
def sl (L : L3) (g v i : Nat) (x : Int64) : L3 := fun g' v' i' => if g' = g ∧ v' = v ∧ i' = i then x else L g' v' i'
def fv (S : S3) (L : L3) (b : Nat) (q : Qd) : Value := match q with
  | (0, g, v, i) => .int (S g v i)
  | (1, g, v, i) => .long (L g v i)
  | (2, g, v, i) => .ref (S g v i).toNatClampNeg
  | (3, g, _, _) => .ref g
  | (_, g, _, _) => .ref (b + g)
def cellS (S : S3) (L : L3) (b : Nat) (s : (Nat × List Qd) ⊕ (Nat × Nat × Qd)) : PC := match s with
  | .inl (ci, fl) => .inr (ci, fl.map (fv S L b))
  | .inr (t, n, (0, g, v, _)) => .inl (t, n, .inl (S g v))
  | .inr (t, n, (1, g, v, _)) => .inl (t, n, .inr (.inl (L g v)))
  | .inr (t, n, (_, g, v, _)) => .inl (t, n, .inr (.inr (.inr (.inr (fun k => if k < n then some (g + v * k) else none)))))
def gov (tb : List SH) (b : Nat) (S : S3) (L : L3) (R : Nat → Option PC) : Nat → Option PC := fun a =>
  if b ≤ a then (match tb[a - b]? with
    | some (some s) => some (cellS S L b s)
    | _ => R a) else R a
theorem su_at {S : S3} {g v i g' v' i' : Nat} {x : Int32} : su S g v i x g' v' i' = if g' = g ∧ v' = v ∧ i' = i then x else S g' v' i' := rfl
theorem su_self {S : S3} {g v i : Nat} {x : Int32} : su S g v i x g v i = x := if_pos ⟨rfl, rfl, rfl⟩
theorem su_row {S : S3} {g v i : Nat} {x : Int32} : su S g v i x g v = fun j => if j = i then x else S g v j := by
  funext j
  simp [su]
theorem sl_row {L : L3} {g v i : Nat} {x : Int64} : sl L g v i x g v = fun j => if j = i then x else L g v j := by
  funext j
  simp [sl]
/-- does a cell show the number (g, v, i)? -/
def hits (g v i : Nat) (s : SH) : Bool := match s with
  | some (.inl (_, fl)) => fl.any fun q => (q.1 == 0 || q.1 == 2) && (q.2.1 == g && q.2.2.1 == v && q.2.2.2 == i)
  | some (.inr (_, _, (0, g', v', _))) => g' == g && v' == v
  | _ => false
/-- does it show the long number? -/
def hitL (g v i : Nat) (s : SH) : Bool := match s with
  | some (.inl (_, fl)) => fl.any fun q => q.1 == 1 && (q.2.1 == g && q.2.2.1 == v && q.2.2.2 == i)
  | some (.inr (_, _, (1, g', v', _))) => g' == g && v' == v
  | _ => false
theorem fv_su {S : S3} {L : L3} {b g v i : Nat} {x : Int32} {q : Qd} (h : ((q.1 == 0 || q.1 == 2) && (q.2.1 == g && q.2.2.1 == v && q.2.2.2 == i)) = false) : fv (su S g v i x) L b q = fv S L b q := by
  obtain ⟨w, g', v', i'⟩ := q
  by_cases hw : w = 0 ∨ w = 2
  · have e : su S g v i x g' v' i' = S g' v' i' := by
      refine if_neg fun hh => ?_
      rcases hw with rfl | rfl <;> simp [hh.1, hh.2.1, hh.2.2] at h
    rcases hw with rfl | rfl <;> simp only [fv, e]
  · match w, hw with
    | 0, hw => exact absurd (Or.inl rfl) hw
    | 1, _ => simp only [fv]
    | 2, hw => exact absurd (Or.inr rfl) hw
    | 3, _ => simp only [fv]
    | w + 4, _ => simp only [fv]
theorem fv_sl {S : S3} {L : L3} {b g v i : Nat} {x : Int64} {q : Qd} (h : (q.1 == 1 && (q.2.1 == g && q.2.2.1 == v && q.2.2.2 == i)) = false) : fv S (sl L g v i x) b q = fv S L b q := by
  obtain ⟨w, g', v', i'⟩ := q
  by_cases hw : w = 1
  · have e : sl L g v i x g' v' i' = L g' v' i' := by
      refine if_neg fun hh => ?_
      subst hw
      simp [hh.1, hh.2.1, hh.2.2] at h
    subst hw
    simp only [fv, e]
  · match w, hw with
    | 0, _ => simp only [fv]
    | 1, hw => exact absurd rfl hw
    | 2, _ => simp only [fv]
    | 3, _ => simp only [fv]
    | w + 4, _ => simp only [fv]
theorem cellS_su {S : S3} {L : L3} {b g v i : Nat} {x : Int32} {s : (Nat × List Qd) ⊕ (Nat × Nat × Qd)} (h : hits g v i (some s) = false) : cellS (su S g v i x) L b s = cellS S L b s := by
  rcases s with ⟨ci, fl⟩ | ⟨t, n, w, g', v', i'⟩
  · simp only [cellS]
    congr 2
    refine List.map_congr_left fun q hq => fv_su ?_
    simp only [hits, List.any_eq_false] at h
    simpa using h q hq
  · match w with
    | 0 =>
      simp only [hits] at h
      have e : su S g v i x g' v' = S g' v' := by
        funext j
        refine if_neg fun q => ?_
        simp [q.1, q.2.1] at h
      simp only [cellS, e]
    | 1 => rfl
    | w + 2 => rfl
theorem cellS_sl {S : S3} {L : L3} {b g v i : Nat} {x : Int64} {s : (Nat × List Qd) ⊕ (Nat × Nat × Qd)} (h : hitL g v i (some s) = false) : cellS S (sl L g v i x) b s = cellS S L b s := by
  rcases s with ⟨ci, fl⟩ | ⟨t, n, w, g', v', i'⟩
  · simp only [cellS]
    congr 2
    refine List.map_congr_left fun q hq => fv_sl ?_
    simp only [hitL, List.any_eq_false] at h
    simpa using h q hq
  · match w with
    | 0 => rfl
    | 1 =>
      simp only [hitL] at h
      have e : sl L g v i x g' v' = L g' v' := by
        funext j
        refine if_neg fun q => ?_
        simp [q.1, q.2.1] at h
      simp only [cellS, e]
    | w + 2 => rfl
/-- every number is shown at one place alone -/
def hokQ (tb : List SH) (j k : Nat) (fl : List Qd) (q : Qd) : Bool := match q with
  | (0, g, v, i) => (List.range tb.length).all (fun j' => j' == j || !hits g v i (tb[j']?.join)) && (List.range fl.length).all (fun k' => k' == k || !(((fl.getD k' (9, 0, 0, 0)).1 == 0 || (fl.getD k' (9, 0, 0, 0)).1 == 2) && (fl.getD k' (9, 0, 0, 0)).2 == q.2))
  | (2, g, v, i) => (List.range tb.length).all (fun j' => j' == j || !hits g v i (tb[j']?.join)) && (List.range fl.length).all (fun k' => k' == k || !(((fl.getD k' (9, 0, 0, 0)).1 == 0 || (fl.getD k' (9, 0, 0, 0)).1 == 2) && (fl.getD k' (9, 0, 0, 0)).2 == q.2))
  | (1, g, v, i) => (List.range tb.length).all (fun j' => j' == j || !hitL g v i (tb[j']?.join)) && (List.range fl.length).all (fun k' => k' == k || !((fl.getD k' (9, 0, 0, 0)).1 == 1 && (fl.getD k' (9, 0, 0, 0)).2 == q.2))
  | _ => true
/-- does a cell show a number of the row (g, v)? -/
def hitR (w g v : Nat) (s : SH) : Bool := match s with
  | some (.inl (_, fl)) => fl.any fun q => (q.1 == w || (w == 0 && q.1 == 2)) && (q.2.1 == g && q.2.2.1 == v)
  | some (.inr (_, _, (w', g', v', _))) => w' == w && g' == g && v' == v
  | _ => false
def hokT (tb : List SH) : Bool := (List.range tb.length).all fun j => match tb[j]?.join with
  | some (.inl (_, fl)) => (List.range fl.length).all fun k => hokQ tb j k fl (fl.getD k (9, 0, 0, 0))
  | some (.inr (_, _, (w, g, v, _))) => if w ≤ 1 then (List.range tb.length).all (fun j' => j' == j || !hitR w g v (tb[j']?.join)) else true
  | none => true
theorem hitR_su {g v i : Nat} {s : SH} (h : hitR 0 g v s = false) : hits g v i s = false := by
  match s, h with
  | none, _ => rfl
  | some (.inl (ci, fl)), h =>
    simp only [hitR, List.any_eq_false] at h
    simp only [hits, List.any_eq_false]
    intro q hq
    have := h q hq
    simp at this ⊢
    intro h1 h2 h3
    exact absurd h3 (this h1 h2)
  | some (.inr (t, n, (w, g', v', i'))), h =>
    match w, h with
    | 0, h => simpa [hitR, hits] using h
    | w + 1, _ => rfl
theorem hitR_sl {g v i : Nat} {s : SH} (h : hitR 1 g v s = false) : hitL g v i s = false := by
  match s, h with
  | none, _ => rfl
  | some (.inl (ci, fl)), h =>
    simp only [hitR, List.any_eq_false] at h
    simp only [hitL, List.any_eq_false]
    intro q hq
    have := h q hq
    simp at this ⊢
    intro h1 h2 h3
    exact absurd h3 (this h1 h2)
  | some (.inr (t, n, (w, g', v', i'))), h =>
    match w, h with
    | 0, _ => rfl
    | 1, h => simpa [hitR, hitL] using h
    | w + 2, _ => rfl
theorem gov_in {tb : List SH} {b j : Nat} {S : S3} {L : L3} {R : Nat → Option PC} {s} (h : tb[j]? = some (some s)) : gov tb b S L R (b + j) = some (cellS S L b s) := by
  simp only [gov, if_pos (Nat.le_add_right b j), Nat.add_sub_cancel_left, h]
theorem gov_lt {tb : List SH} {b a : Nat} {S : S3} {L : L3} {R : Nat → Option PC} (h : a < b) : gov tb b S L R a = R a := if_neg (by omega)
theorem gov_ge {tb : List SH} {b a : Nat} {S : S3} {L : L3} {R : Nat → Option PC} (h : b + tb.length ≤ a) : gov tb b S L R a = R a := by
  simp only [gov, if_pos (show b ≤ a by omega), List.getElem?_eq_none (show tb.length ≤ a - b by omega)]
theorem gov_wr {tb : List SH} {b j : Nat} {c : Nat × Nat × Nat} {S S' : S3} {L L' : L3} {R : Nat → Option PC} {s} (h : tb[j]? = some (some s)) (ho : ∀ j' s', j' ≠ j → tb[j']? = some (some s') → cellS S' L' b s' = cellS S L b s') {q : PC} (hq : cellS S' L' b s = q) : hset (c, gov tb b S L R) (b + j) q = (c, gov tb b S' L' R) := by
  refine Prod.ext rfl (funext fun a => ?_)
  simp only [hset, gov]
  by_cases ha : a = b + j
  · subst ha
    simp only [if_pos (Nat.le_add_right b j), Nat.add_sub_cancel_left, h, hq, if_true]
  · simp only [if_neg ha]
    by_cases hb : b ≤ a
    · simp only [if_pos hb]
      cases ht : tb[a - b]? with
      | none => rfl
      | some o =>
        cases o with
        | none => rfl
        | some s' =>
          simp only
          rw [ho _ _ (by omega) ht]
    · simp only [if_neg hb]
theorem hokT_q {tb : List SH} (h : hokT tb = true) {j k ci : Nat} {fl : List Qd} {q : Qd} (hj : tb[j]? = some (some (.inl (ci, fl)))) (hk : fl[k]? = some q) : hokQ tb j k fl q = true := by
  obtain ⟨hl, -⟩ := List.getElem?_eq_some_iff.mp hj
  obtain ⟨hl2, he⟩ := List.getElem?_eq_some_iff.mp hk
  have h1 := List.all_eq_true.mp h j (List.mem_range.mpr hl)
  simp only [hj, Option.join_some] at h1
  have h2 := List.all_eq_true.mp h1 k (List.mem_range.mpr hl2)
  rwa [List.getD_eq_getElem?_getD, hk, Option.getD_some] at h2
theorem hokT_r {tb : List SH} (h : hokT tb = true) {j t n w g v i : Nat} (hj : tb[j]? = some (some (.inr (t, n, (w, g, v, i))))) (hw : w ≤ 1) {j' : Nat} {s'} (hn : j' ≠ j) (hs : tb[j']? = some s') : hitR w g v s' = false := by
  obtain ⟨hl, -⟩ := List.getElem?_eq_some_iff.mp hj
  obtain ⟨hl2, -⟩ := List.getElem?_eq_some_iff.mp hs
  have h1 := List.all_eq_true.mp h j (List.mem_range.mpr hl)
  simp only [hj, Option.join_some, if_pos hw] at h1
  have h2 := List.all_eq_true.mp h1 j' (List.mem_range.mpr hl2)
  simp only [hs, Option.join_some] at h2
  simpa [hn] using h2
theorem hokQ_0 {tb : List SH} {j k g v i : Nat} {fl : List Qd} (h : hokQ tb j k fl (0, g, v, i) = true) : (∀ j' s', j' ≠ j → tb[j']? = some s' → hits g v i s' = false) ∧ ∀ k' q', k' ≠ k → fl[k']? = some q' → ((q'.1 == 0 || q'.1 == 2) && (q'.2.1 == g && q'.2.2.1 == v && q'.2.2.2 == i)) = false := by
  simp only [hokQ, Bool.and_eq_true, List.all_eq_true, List.mem_range] at h
  constructor
  · intro j' s' hn hs
    have := h.1 j' (List.getElem?_eq_some_iff.mp hs).1
    simpa [hn, hs] using this
  · intro k' q' hn hs
    have := h.2 k' (List.getElem?_eq_some_iff.mp hs).1
    simp only [List.getD_eq_getElem?_getD, hs, Option.getD_some] at this
    obtain ⟨w', g', v', i'⟩ := q'
    simp [hn] at this ⊢
    intro h1 h2 h3 h4
    rcases this with h5 | h5
    · omega
    · exact h5 h2 h3 h4
theorem set_map {α β : Type} {F G : α → β} {k : Nat} {fl : List α} {q : α} {y : β} (hk : fl[k]? = some q) (hy : F q = y) (ho : ∀ k' q', k' ≠ k → fl[k']? = some q' → F q' = G q') : fl.map F = (fl.map G).set k y := by
  refine List.ext_getElem? fun k' => ?_
  rw [List.getElem?_map, List.getElem?_set, List.length_map]
  by_cases hkk : k = k'
  · subst hkk
    rw [hk, if_pos rfl, if_pos (List.getElem?_eq_some_iff.mp hk).1, Option.map_some, hy]
  · rw [if_neg hkk, List.getElem?_map]
    cases hf : fl[k']? with
    | none => rfl
    | some q' => rw [Option.map_some, Option.map_some, ho k' q' (fun q => hkk q.symm) hf]
/-- a number put into a field -/
theorem hs_fld {tb : List SH} (ok : hokT tb = true) {b j k ci g v i : Nat} {fl : List Qd} {c : Nat × Nat × Nat} {S : S3} {L : L3} {R : Nat → Option PC} {x : Int32} (hj : tb[j]? = some (some (.inl (ci, fl)))) (hk : fl[k]? = some (0, g, v, i)) : hset (c, gov tb b S L R) (b + j) (.inr (ci, (fl.map (fv S L b)).set k (.int x))) = (c, gov tb b (su S g v i x) L R) := by
  have hq := hokQ_0 (hokT_q ok hj hk)
  refine gov_wr hj (fun j' s' hn hs => cellS_su (hq.1 j' _ hn hs)) ?_
  simp only [cellS]
  rw [set_map (F := fv (su S g v i x) L b) (G := fv S L b) hk (y := .int x) (by simp only [fv, su_self]) (fun k' q' hn hs => fv_su (hq.2 k' q' hn hs))]
def sr (S : S3) (g v : Nat) (f : Nat → Int32) : S3 := fun g' v' => if g' = g ∧ v' = v then f else S g' v'
def slr (L : L3) (g v : Nat) (f : Nat → Int64) : L3 := fun g' v' => if g' = g ∧ v' = v then f else L g' v'
theorem sr_at {S : S3} {g v g' v' : Nat} {f : Nat → Int32} : sr S g v f g' v' = if g' = g ∧ v' = v then f else S g' v' := rfl
theorem slr_at {L : L3} {g v g' v' : Nat} {f : Nat → Int64} : slr L g v f g' v' = if g' = g ∧ v' = v then f else L g' v' := rfl
theorem sr_su {S : S3} {g v i : Nat} {x : Int32} : sr S g v (upd (S g v) i x) = su S g v i x := by
  funext g' v' i'
  simp only [sr, su]
  by_cases h : g' = g ∧ v' = v
  · obtain ⟨rfl, rfl⟩ := h
    rw [if_pos ⟨rfl, rfl⟩, upd_at (α := Int32)]
    simp
  · rw [if_neg h, if_neg (fun q => h ⟨q.1, q.2.1⟩)]
theorem slr_sl {L : L3} {g v i : Nat} {x : Int64} : slr L g v (vp_updL (L g v) i x) = sl L g v i x := by
  funext g' v' i'
  simp only [slr, sl]
  by_cases h : g' = g ∧ v' = v
  · obtain ⟨rfl, rfl⟩ := h
    rw [if_pos ⟨rfl, rfl⟩, vp_updL]
    simp
  · rw [if_neg h, if_neg (fun q => h ⟨q.1, q.2.1⟩)]
theorem fv_sr {S : S3} {L : L3} {b g v : Nat} {f : Nat → Int32} {q : Qd} (h : ((q.1 == 0 || (0 == 0 && q.1 == 2)) && (q.2.1 == g && q.2.2.1 == v)) = false) : fv (sr S g v f) L b q = fv S L b q := by
  obtain ⟨w, g', v', i'⟩ := q
  by_cases hw : w = 0 ∨ w = 2
  · have e : sr S g v f g' v' = S g' v' := by
      refine if_neg fun hh => ?_
      rcases hw with rfl | rfl <;> simp [hh.1, hh.2] at h
    rcases hw with rfl | rfl <;> simp only [fv, e]
  · match w, hw with
    | 0, hw => exact absurd (Or.inl rfl) hw
    | 1, _ => simp only [fv]
    | 2, hw => exact absurd (Or.inr rfl) hw
    | 3, _ => simp only [fv]
    | w + 4, _ => simp only [fv]
theorem fv_slr {S : S3} {L : L3} {b g v : Nat} {f : Nat → Int64} {q : Qd} (h : ((q.1 == 1 || (1 == 0 && q.1 == 2)) && (q.2.1 == g && q.2.2.1 == v)) = false) : fv S (slr L g v f) b q = fv S L b q := by
  obtain ⟨w, g', v', i'⟩ := q
  by_cases hw : w = 1
  · subst hw
    have e : slr L g v f g' v' = L g' v' := by
      refine if_neg fun hh => ?_
      simp [hh.1, hh.2] at h
    simp only [fv, e]
  · match w, hw with
    | 0, _ => simp only [fv]
    | 1, hw => exact absurd rfl hw
    | 2, _ => simp only [fv]
    | 3, _ => simp only [fv]
    | w + 4, _ => simp only [fv]
theorem cellS_sr {S : S3} {L : L3} {b g v : Nat} {f : Nat → Int32} {s : (Nat × List Qd) ⊕ (Nat × Nat × Qd)} (h : hitR 0 g v (some s) = false) : cellS (sr S g v f) L b s = cellS S L b s := by
  rcases s with ⟨ci, fl⟩ | ⟨t, n, w, g', v', i'⟩
  · simp only [cellS]
    rw [List.map_congr_left (g := fv S L b) fun q hq => fv_sr (by simp only [hitR, List.any_eq_false] at h; simpa using h q hq)]
  · match w with
    | 0 =>
      simp only [hitR] at h
      have e : sr S g v f g' v' = S g' v' := by
        refine if_neg fun q => ?_
        simp [q.1, q.2] at h
      simp only [cellS, e]
    | 1 => simp only [cellS]
    | w + 2 => simp only [cellS]
theorem cellS_slr {S : S3} {L : L3} {b g v : Nat} {f : Nat → Int64} {s : (Nat × List Qd) ⊕ (Nat × Nat × Qd)} (h : hitR 1 g v (some s) = false) : cellS S (slr L g v f) b s = cellS S L b s := by
  rcases s with ⟨ci, fl⟩ | ⟨t, n, w, g', v', i'⟩
  · simp only [cellS]
    rw [List.map_congr_left (g := fv S L b) fun q hq => fv_slr (by simp only [hitR, List.any_eq_false] at h; simpa using h q hq)]
  · match w with
    | 0 => simp only [cellS]
    | 1 =>
      simp only [hitR] at h
      have e : slr L g v f g' v' = L g' v' := by
        refine if_neg fun q => ?_
        simp [q.1, q.2] at h
      simp only [cellS, e]
    | w + 2 => simp only [cellS]
theorem hokQ_2 {tb : List SH} {j k g v i : Nat} {fl : List Qd} (h : hokQ tb j k fl (2, g, v, i) = true) : (∀ j' s', j' ≠ j → tb[j']? = some s' → hits g v i s' = false) ∧ ∀ k' q', k' ≠ k → fl[k']? = some q' → ((q'.1 == 0 || q'.1 == 2) && (q'.2.1 == g && q'.2.2.1 == v && q'.2.2.2 == i)) = false := hokQ_0 h
theorem hokQ_1 {tb : List SH} {j k g v i : Nat} {fl : List Qd} (h : hokQ tb j k fl (1, g, v, i) = true) : (∀ j' s', j' ≠ j → tb[j']? = some s' → hitL g v i s' = false) ∧ ∀ k' q', k' ≠ k → fl[k']? = some q' → (q'.1 == 1 && (q'.2.1 == g && q'.2.2.1 == v && q'.2.2.2 == i)) = false := by
  simp only [hokQ, Bool.and_eq_true, List.all_eq_true, List.mem_range] at h
  constructor
  · intro j' s' hn hs
    have := h.1 j' (List.getElem?_eq_some_iff.mp hs).1
    simpa [hn, hs] using this
  · intro k' q' hn hs
    have := h.2 k' (List.getElem?_eq_some_iff.mp hs).1
    simp only [List.getD_eq_getElem?_getD, hs, Option.getD_some] at this
    obtain ⟨w', g', v', i'⟩ := q'
    simp [hn] at this ⊢
    intro h1 h2 h3
    rcases this with h5 | h5
    · omega
    · exact h5 h2 h3
theorem hs_ref {tb : List SH} (ok : hokT tb = true) {b j k ci g v i : Nat} {fl : List Qd} {c : Nat × Nat × Nat} {S : S3} {L : L3} {R : Nat → Option PC} {x : Int32} (hj : tb[j]? = some (some (.inl (ci, fl)))) (hk : fl[k]? = some (2, g, v, i)) : hset (c, gov tb b S L R) (b + j) (.inr (ci, (fl.map (fv S L b)).set k (.ref x.toNatClampNeg))) = (c, gov tb b (su S g v i x) L R) := by
  have hq := hokQ_2 (hokT_q ok hj hk)
  refine gov_wr hj (fun j' s' hn hs => cellS_su (hq.1 j' _ hn hs)) ?_
  simp only [cellS]
  rw [set_map (F := fv (su S g v i x) L b) (G := fv S L b) hk (y := .ref x.toNatClampNeg) (by simp only [fv, su_self]) (fun k' q' hn hs => fv_su (hq.2 k' q' hn hs))]
theorem sl_self {L : L3} {g v i : Nat} {x : Int64} : sl L g v i x g v i = x := if_pos ⟨rfl, rfl, rfl⟩
theorem hs_lng {tb : List SH} (ok : hokT tb = true) {b j k ci g v i : Nat} {fl : List Qd} {c : Nat × Nat × Nat} {S : S3} {L : L3} {R : Nat → Option PC} {x : Int64} (hj : tb[j]? = some (some (.inl (ci, fl)))) (hk : fl[k]? = some (1, g, v, i)) : hset (c, gov tb b S L R) (b + j) (.inr (ci, (fl.map (fv S L b)).set k (.long x))) = (c, gov tb b S (sl L g v i x) R) := by
  have hq := hokQ_1 (hokT_q ok hj hk)
  refine gov_wr hj (fun j' s' hn hs => cellS_sl (hq.1 j' _ hn hs)) ?_
  simp only [cellS]
  rw [set_map (F := fv S (sl L g v i x) b) (G := fv S L b) hk (y := .long x) (by simp only [fv, sl_self]) (fun k' q' hn hs => fv_sl (hq.2 k' q' hn hs))]
theorem hs_row {tb : List SH} (ok : hokT tb = true) {b j t n g v i0 : Nat} {c : Nat × Nat × Nat} {S : S3} {L : L3} {R : Nat → Option PC} {f : Nat → Int32} (hj : tb[j]? = some (some (.inr (t, n, (0, g, v, i0))))) : hset (c, gov tb b S L R) (b + j) (.inl (t, n, .inl f)) = (c, gov tb b (sr S g v f) L R) := by
  refine gov_wr hj (fun j' s' hn hs => cellS_sr (hokT_r ok hj (by omega) hn hs)) ?_
  simp only [cellS, sr_at, and_self, if_true]
theorem hs_rowL {tb : List SH} (ok : hokT tb = true) {b j t n g v i0 : Nat} {c : Nat × Nat × Nat} {S : S3} {L : L3} {R : Nat → Option PC} {f : Nat → Int64} (hj : tb[j]? = some (some (.inr (t, n, (1, g, v, i0))))) : hset (c, gov tb b S L R) (b + j) (.inl (t, n, .inr (.inl f))) = (c, gov tb b S (slr L g v f) R) := by
  refine gov_wr hj (fun j' s' hn hs => cellS_slr (hokT_r ok hj (by omega) hn hs)) ?_
  simp only [cellS, slr_at, and_self, if_true]
theorem hs_row1 {tb : List SH} (ok : hokT tb = true) {b j t n g v i0 i : Nat} {c : Nat × Nat × Nat} {S : S3} {L : L3} {R : Nat → Option PC} {x : Int32} (hj : tb[j]? = some (some (.inr (t, n, (0, g, v, i0))))) : hset (c, gov tb b S L R) (b + j) (.inl (t, n, .inl (upd (S g v) i x))) = (c, gov tb b (su S g v i x) L R) := by
  rw [hs_row ok hj, sr_su]
theorem hs_row1L {tb : List SH} (ok : hokT tb = true) {b j t n g v i0 i : Nat} {c : Nat × Nat × Nat} {S : S3} {L : L3} {R : Nat → Option PC} {x : Int64} (hj : tb[j]? = some (some (.inr (t, n, (1, g, v, i0))))) : hset (c, gov tb b S L R) (b + j) (.inl (t, n, .inr (.inl (vp_updL (L g v) i x)))) = (c, gov tb b S (sl L g v i x) R) := by
  rw [hs_rowL ok hj, slr_sl]
def tC : List SH := [some (.inl (7, [(3, 301, 0, 0), (3, 317, 0, 0), (3, 339, 0, 0), (3, 367, 0, 0), (2, 4, 207, 0), (0, 4, 205, 0)])), some (.inl (4, [(3, 302, 0, 0), (0, 4, 206, 0)])), some (.inr (2, 1600, (0, 4, 210, 0))), some (.inl (0, [(0, 2, 100, 0), (0, 2, 101, 0), (0, 2, 102, 0), (0, 2, 103, 0), (3, 304, 0, 0), (3, 305, 0, 0), (3, 306, 0, 0), (3, 307, 0, 0), (3, 308, 0, 0), (3, 309, 0, 0), (3, 310, 0, 0), (3, 311, 0, 0), (3, 312, 0, 0), (3, 313, 0, 0), (3, 314, 0, 0), (3, 315, 0, 0), (3, 316, 0, 0)])), some (.inr (0, 10, (0, 2, 104, 0))), some (.inr (0, 10, (0, 2, 105, 0))), some (.inr (0, 6, (0, 2, 106, 0))), some (.inr (0, 80, (0, 2, 107, 0))), some (.inr (0, 80, (0, 2, 108, 0))), some (.inr (0, 80, (0, 2, 109, 0))), some (.inr (0, 80, (0, 2, 110, 0))), some (.inr (0, 80, (0, 2, 111, 0))), some (.inr (0, 80, (0, 2, 112, 0))), some (.inr (0, 80, (0, 2, 113, 0))), some (.inr (0, 100, (0, 2, 114, 0))), some (.inr (0, 100, (0, 2, 115, 0))), some (.inr (0, 100, (0, 2, 116, 0))), some (.inl (3, [(3, 318, 0, 0), (3, 323, 0, 0), (3, 324, 0, 0), (2, 4, 208, 0), (0, 4, 200, 0), (0, 4, 201, 0), (0, 4, 202, 0), (1, 4, 0, 0), (0, 4, 203, 0), (0, 4, 204, 0)])), some (.inl (5, [(3, 319, 0, 0), (3, 320, 0, 0), (3, 321, 0, 0), (3, 322, 0, 0)])), some (.inr (0, 401, (0, 4, 211, 0))), some (.inr (0, 401, (0, 4, 212, 0))), some (.inr (1, 401, (1, 4, 1, 0))), some (.inr (1, 23, (1, 4, 2, 0))), some (.inr (1, 10, (1, 4, 3, 0))), some (.inr (1, 6, (1, 4, 4, 0))), some (.inl (0, [(0, 3, 100, 0), (0, 3, 101, 0), (0, 3, 102, 0), (0, 3, 103, 0), (3, 326, 0, 0), (3, 327, 0, 0), (3, 328, 0, 0), (3, 329, 0, 0), (3, 330, 0, 0), (3, 331, 0, 0), (3, 332, 0, 0), (3, 333, 0, 0), (3, 334, 0, 0), (3, 335, 0, 0), (3, 336, 0, 0), (3, 337, 0, 0), (3, 338, 0, 0)])), some (.inr (0, 10, (0, 3, 104, 0))), some (.inr (0, 10, (0, 3, 105, 0))), some (.inr (0, 6, (0, 3, 106, 0))), some (.inr (0, 80, (0, 3, 107, 0))), some (.inr (0, 80, (0, 3, 108, 0))), some (.inr (0, 80, (0, 3, 109, 0))), some (.inr (0, 80, (0, 3, 110, 0))), some (.inr (0, 80, (0, 3, 111, 0))), some (.inr (0, 80, (0, 3, 112, 0))), some (.inr (0, 80, (0, 3, 113, 0))), some (.inr (0, 100, (0, 3, 114, 0))), some (.inr (0, 100, (0, 3, 115, 0))), some (.inr (0, 100, (0, 3, 116, 0))), some (.inl (6, [(2, 0, 60, 0), (3, 340, 0, 0), (3, 341, 0, 0), (0, 0, 4, 0), (0, 0, 0, 0), (0, 0, 1, 0), (0, 0, 2, 0), (0, 0, 3, 0)])), some (.inr (4, 10, (3, 342, 1, 0))), some (.inr (5, 3, (3, 352, 5, 0))), some (.inl (1, [(0, 0, 10, 0), (0, 0, 11, 0), (0, 0, 5, 0), (0, 0, 6, 0), (0, 0, 7, 0), (0, 0, 8, 0), (0, 0, 9, 0)])), some (.inl (1, [(0, 0, 10, 1), (0, 0, 11, 1), (0, 0, 5, 1), (0, 0, 6, 1), (0, 0, 7, 1), (0, 0, 8, 1), (0, 0, 9, 1)])), some (.inl (1, [(0, 0, 10, 2), (0, 0, 11, 2), (0, 0, 5, 2), (0, 0, 6, 2), (0, 0, 7, 2), (0, 0, 8, 2), (0, 0, 9, 2)])), some (.inl (1, [(0, 0, 10, 3), (0, 0, 11, 3), (0, 0, 5, 3), (0, 0, 6, 3), (0, 0, 7, 3), (0, 0, 8, 3), (0, 0, 9, 3)])), some (.inl (1, [(0, 0, 10, 4), (0, 0, 11, 4), (0, 0, 5, 4), (0, 0, 6, 4), (0, 0, 7, 4), (0, 0, 8, 4), (0, 0, 9, 4)])), some (.inl (1, [(0, 0, 10, 5), (0, 0, 11, 5), (0, 0, 5, 5), (0, 0, 6, 5), (0, 0, 7, 5), (0, 0, 8, 5), (0, 0, 9, 5)])), some (.inl (1, [(0, 0, 10, 6), (0, 0, 11, 6), (0, 0, 5, 6), (0, 0, 6, 6), (0, 0, 7, 6), (0, 0, 8, 6), (0, 0, 9, 6)])), some (.inl (1, [(0, 0, 10, 7), (0, 0, 11, 7), (0, 0, 5, 7), (0, 0, 6, 7), (0, 0, 7, 7), (0, 0, 8, 7), (0, 0, 9, 7)])), some (.inl (1, [(0, 0, 10, 8), (0, 0, 11, 8), (0, 0, 5, 8), (0, 0, 6, 8), (0, 0, 7, 8), (0, 0, 8, 8), (0, 0, 9, 8)])), some (.inl (1, [(0, 0, 10, 9), (0, 0, 11, 9), (0, 0, 5, 9), (0, 0, 6, 9), (0, 0, 7, 9), (0, 0, 8, 9), (0, 0, 9, 9)])), some (.inl (2, [(0, 0, 19, 0), (0, 0, 12, 0), (0, 0, 13, 0), (0, 0, 14, 0), (0, 0, 15, 0), (0, 0, 16, 0), (0, 0, 17, 0), (3, 353, 0, 0), (0, 0, 18, 0), (3, 354, 0, 0), (3, 355, 0, 0), (3, 356, 0, 0)])), some (.inr (0, 20, (0, 0, 20, 0))), some (.inr (0, 36, (0, 0, 30, 0))), some (.inr (0, 36, (0, 0, 40, 0))), some (.inr (0, 36, (0, 0, 50, 0))), some (.inl (2, [(0, 0, 19, 1), (0, 0, 12, 1), (0, 0, 13, 1), (0, 0, 14, 1), (0, 0, 15, 1), (0, 0, 16, 1), (0, 0, 17, 1), (3, 358, 0, 0), (0, 0, 18, 1), (3, 359, 0, 0), (3, 360, 0, 0), (3, 361, 0, 0)])), some (.inr (0, 20, (0, 0, 21, 0))), some (.inr (0, 36, (0, 0, 31, 0))), some (.inr (0, 36, (0, 0, 41, 0))), some (.inr (0, 36, (0, 0, 51, 0))), some (.inl (2, [(0, 0, 19, 2), (0, 0, 12, 2), (0, 0, 13, 2), (0, 0, 14, 2), (0, 0, 15, 2), (0, 0, 16, 2), (0, 0, 17, 2), (3, 363, 0, 0), (0, 0, 18, 2), (3, 364, 0, 0), (3, 365, 0, 0), (3, 366, 0, 0)])), some (.inr (0, 20, (0, 0, 22, 0))), some (.inr (0, 36, (0, 0, 32, 0))), some (.inr (0, 36, (0, 0, 42, 0))), some (.inr (0, 36, (0, 0, 52, 0))), some (.inl (6, [(2, 1, 60, 0), (3, 368, 0, 0), (3, 369, 0, 0), (0, 1, 4, 0), (0, 1, 0, 0), (0, 1, 1, 0), (0, 1, 2, 0), (0, 1, 3, 0)])), some (.inr (4, 10, (3, 370, 1, 0))), some (.inr (5, 3, (3, 380, 5, 0))), some (.inl (1, [(0, 1, 10, 0), (0, 1, 11, 0), (0, 1, 5, 0), (0, 1, 6, 0), (0, 1, 7, 0), (0, 1, 8, 0), (0, 1, 9, 0)])), some (.inl (1, [(0, 1, 10, 1), (0, 1, 11, 1), (0, 1, 5, 1), (0, 1, 6, 1), (0, 1, 7, 1), (0, 1, 8, 1), (0, 1, 9, 1)])), some (.inl (1, [(0, 1, 10, 2), (0, 1, 11, 2), (0, 1, 5, 2), (0, 1, 6, 2), (0, 1, 7, 2), (0, 1, 8, 2), (0, 1, 9, 2)])), some (.inl (1, [(0, 1, 10, 3), (0, 1, 11, 3), (0, 1, 5, 3), (0, 1, 6, 3), (0, 1, 7, 3), (0, 1, 8, 3), (0, 1, 9, 3)])), some (.inl (1, [(0, 1, 10, 4), (0, 1, 11, 4), (0, 1, 5, 4), (0, 1, 6, 4), (0, 1, 7, 4), (0, 1, 8, 4), (0, 1, 9, 4)])), some (.inl (1, [(0, 1, 10, 5), (0, 1, 11, 5), (0, 1, 5, 5), (0, 1, 6, 5), (0, 1, 7, 5), (0, 1, 8, 5), (0, 1, 9, 5)])), some (.inl (1, [(0, 1, 10, 6), (0, 1, 11, 6), (0, 1, 5, 6), (0, 1, 6, 6), (0, 1, 7, 6), (0, 1, 8, 6), (0, 1, 9, 6)])), some (.inl (1, [(0, 1, 10, 7), (0, 1, 11, 7), (0, 1, 5, 7), (0, 1, 6, 7), (0, 1, 7, 7), (0, 1, 8, 7), (0, 1, 9, 7)])), some (.inl (1, [(0, 1, 10, 8), (0, 1, 11, 8), (0, 1, 5, 8), (0, 1, 6, 8), (0, 1, 7, 8), (0, 1, 8, 8), (0, 1, 9, 8)])), some (.inl (1, [(0, 1, 10, 9), (0, 1, 11, 9), (0, 1, 5, 9), (0, 1, 6, 9), (0, 1, 7, 9), (0, 1, 8, 9), (0, 1, 9, 9)])), some (.inl (2, [(0, 1, 19, 0), (0, 1, 12, 0), (0, 1, 13, 0), (0, 1, 14, 0), (0, 1, 15, 0), (0, 1, 16, 0), (0, 1, 17, 0), (3, 381, 0, 0), (0, 1, 18, 0), (3, 382, 0, 0), (3, 383, 0, 0), (3, 384, 0, 0)])), some (.inr (0, 20, (0, 1, 20, 0))), some (.inr (0, 36, (0, 1, 30, 0))), some (.inr (0, 36, (0, 1, 40, 0))), some (.inr (0, 36, (0, 1, 50, 0))), some (.inl (2, [(0, 1, 19, 1), (0, 1, 12, 1), (0, 1, 13, 1), (0, 1, 14, 1), (0, 1, 15, 1), (0, 1, 16, 1), (0, 1, 17, 1), (3, 386, 0, 0), (0, 1, 18, 1), (3, 387, 0, 0), (3, 388, 0, 0), (3, 389, 0, 0)])), some (.inr (0, 20, (0, 1, 21, 0))), some (.inr (0, 36, (0, 1, 31, 0))), some (.inr (0, 36, (0, 1, 41, 0))), some (.inr (0, 36, (0, 1, 51, 0))), some (.inl (2, [(0, 1, 19, 2), (0, 1, 12, 2), (0, 1, 13, 2), (0, 1, 14, 2), (0, 1, 15, 2), (0, 1, 16, 2), (0, 1, 17, 2), (3, 391, 0, 0), (0, 1, 18, 2), (3, 392, 0, 0), (3, 393, 0, 0), (3, 394, 0, 0)])), some (.inr (0, 20, (0, 1, 22, 0))), some (.inr (0, 36, (0, 1, 32, 0))), some (.inr (0, 36, (0, 1, 42, 0))), some (.inr (0, 36, (0, 1, 52, 0)))]
def tR : List SH := [some (.inl (10, [(0, 4, 200, 0), (3, 396, 0, 0), (0, 4, 201, 0), (0, 4, 202, 0), (3, 397, 0, 0), (3, 398, 0, 0), (3, 399, 0, 0), (3, 400, 0, 0), (0, 4, 203, 0), (0, 4, 204, 0), (2, 4, 206, 0), (2, 4, 207, 0), (0, 4, 205, 0), (3, 417, 0, 0), (3, 418, 0, 0), (3, 435, 0, 0)])), some (.inr (0, 1600, (0, 4, 210, 0))), some (.inr (0, 401, (0, 4, 211, 0))), some (.inr (0, 401, (0, 4, 212, 0))), some (.inr (0, 401, (0, 4, 213, 0))), some (.inr (0, 401, (0, 4, 214, 0))), none, none, none, none, none, none, none, none, none, none, none, none, none, none, none, none, some (.inr (0, 3, (0, 4, 215, 0))), some (.inl (9, [(0, 0, 0, 0), (0, 0, 1, 0), (0, 0, 3, 0), (0, 0, 2, 0), (3, 419, 0, 0), (3, 420, 0, 0), (3, 421, 0, 0), (3, 422, 0, 0), (3, 423, 0, 0), (3, 424, 0, 0), (3, 425, 0, 0), (3, 426, 0, 0), (3, 427, 0, 0), (3, 428, 0, 0), (3, 429, 0, 0), (3, 430, 0, 0), (3, 431, 0, 0), (3, 432, 0, 0), (3, 433, 0, 0), (3, 434, 0, 0), (3, 395, 0, 0)])), some (.inr (0, 10, (0, 0, 5, 0))), some (.inr (0, 10, (0, 0, 6, 0))), some (.inr (0, 10, (0, 0, 7, 0))), some (.inr (0, 10, (0, 0, 8, 0))), some (.inr (3, 10, (0, 0, 9, 0))), some (.inr (0, 3, (0, 0, 12, 0))), some (.inr (0, 3, (0, 0, 13, 0))), some (.inr (0, 3, (0, 0, 14, 0))), some (.inr (0, 3, (0, 0, 15, 0))), some (.inr (0, 3, (0, 0, 16, 0))), some (.inr (0, 3, (0, 0, 17, 0))), some (.inr (0, 60, (0, 0, 20, 0))), some (.inr (0, 3, (0, 0, 18, 0))), some (.inr (0, 144, (0, 0, 30, 0))), some (.inr (0, 144, (0, 0, 40, 0))), some (.inr (0, 144, (0, 0, 50, 0))), some (.inl (9, [(0, 1, 0, 0), (0, 1, 1, 0), (0, 1, 3, 0), (0, 1, 2, 0), (3, 436, 0, 0), (3, 437, 0, 0), (3, 438, 0, 0), (3, 439, 0, 0), (3, 440, 0, 0), (3, 441, 0, 0), (3, 442, 0, 0), (3, 443, 0, 0), (3, 444, 0, 0), (3, 445, 0, 0), (3, 446, 0, 0), (3, 447, 0, 0), (3, 448, 0, 0), (3, 449, 0, 0), (3, 450, 0, 0), (3, 451, 0, 0), (3, 395, 0, 0)])), some (.inr (0, 10, (0, 1, 5, 0))), some (.inr (0, 10, (0, 1, 6, 0))), some (.inr (0, 10, (0, 1, 7, 0))), some (.inr (0, 10, (0, 1, 8, 0))), some (.inr (3, 10, (0, 1, 9, 0))), some (.inr (0, 3, (0, 1, 12, 0))), some (.inr (0, 3, (0, 1, 13, 0))), some (.inr (0, 3, (0, 1, 14, 0))), some (.inr (0, 3, (0, 1, 15, 0))), some (.inr (0, 3, (0, 1, 16, 0))), some (.inr (0, 3, (0, 1, 17, 0))), some (.inr (0, 60, (0, 1, 20, 0))), some (.inr (0, 3, (0, 1, 18, 0))), some (.inr (0, 144, (0, 1, 30, 0))), some (.inr (0, 144, (0, 1, 40, 0))), some (.inr (0, 144, (0, 1, 50, 0))), some (.inr (1, 1, (1, 5, 0, 0)))]
def tP : List SH := [some (.inl (8, [(0, 0, 100, 0), (0, 0, 101, 0), (0, 0, 102, 0), (4, 1, 0, 0), (4, 2, 0, 0), (4, 3, 0, 0), (0, 0, 106, 0), (4, 4, 0, 0), (0, 0, 108, 0), (0, 0, 109, 0), (4, 5, 0, 0), (4, 6, 0, 0), (4, 7, 0, 0), (4, 8, 0, 0), (4, 9, 0, 0), (4, 10, 0, 0), (4, 11, 0, 0), (4, 12, 0, 0), (0, 0, 118, 0), (4, 13, 0, 0), (4, 14, 0, 0), (4, 15, 0, 0)])), some (.inr (0, 10, (0, 0, 103, 0))), some (.inr (0, 10, (0, 0, 104, 0))), some (.inr (0, 400, (0, 0, 105, 0))), some (.inr (0, 400, (0, 0, 107, 0))), some (.inr (0, 400, (0, 0, 110, 0))), some (.inr (0, 400, (0, 0, 111, 0))), some (.inr (0, 400, (0, 0, 112, 0))), some (.inr (0, 400, (0, 0, 113, 0))), some (.inr (0, 400, (0, 0, 114, 0))), some (.inr (0, 400, (0, 0, 115, 0))), some (.inr (0, 400, (0, 0, 116, 0))), some (.inr (0, 400, (0, 0, 117, 0))), some (.inr (0, 400, (0, 0, 119, 0))), some (.inr (0, 400, (0, 0, 120, 0))), some (.inr (0, 400, (0, 0, 121, 0)))]
set_option maxRecDepth 100000 in
theorem hokC : hokT tC = true := by decide +kernel
set_option maxRecDepth 100000 in
theorem hokR : hokT tR = true := by decide +kernel
set_option maxRecDepth 100000 in
theorem hokP : hokT tP = true := by decide +kernel
