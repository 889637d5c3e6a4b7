/-! what is made only grows; a method's first places -/
def PNle (h : PH) (x : Option PN) : Prop := ∀ nx, x = some nx → match nx with
  | .inl q => h.1.2.1 ≤ q.2.2.2.1.2.1 ∧ h.1.2.2 ≤ q.2.2.2.1.2.2
  | .inr (.inl o) => h.1.2.1 ≤ o.2.1.2.1 ∧ h.1.2.2 ≤ o.2.1.2.2
  | .inr (.inr q) => h.1.2.1 ≤ q.2.2.2.2.1.2.1 ∧ h.1.2.2 ≤ q.2.2.2.2.1.2.2
theorem PNle_none {h : PH} : PNle h none := fun _ q => by cases q
theorem PNle_go {h h' : PH} {pc : Nat} {ls : PL} {st : List Value} (h1 : h.1.2.1 ≤ h'.1.2.1 ∧ h.1.2.2 ≤ h'.1.2.2) : PNle h (pgo pc ls st h') := fun nx q => by cases q; exact h1
theorem PNle_same {h : PH} {pc : Nat} {ls : PL} {st : List Value} : PNle h (pgo pc ls st h) := PNle_go ⟨Nat.le_refl _, Nat.le_refl _⟩
theorem PNle_set {h : PH} {pc a : Nat} {c : PC} {ls : PL} {st : List Value} : PNle h (pgo pc ls st (hset h a c)) := PNle_go ⟨Nat.le_refl _, Nat.le_refl _⟩
theorem PNle_new {h : PH} {pc n : Nat} {c : PC} {ls : PL} {st : List Value} : PNle h (pgo pc ls st (hnew h n c)) := PNle_go ⟨Nat.le_succ _, Nat.le_add_right _ _⟩
theorem PNle_fin {h : PH} {v : Option Value} : PNle h (pfin v h) := fun nx q => by cases q; exact ⟨Nat.le_refl _, Nat.le_refl _⟩
theorem PNle_int2 {h : PH} {pc : Nat} {ls : PL} {st : List Value} {f : Int32 → Int32 → Option Int32} : PNle h (pint2 pc ls st h f) := by
  unfold pint2; split
  · split
    · exact PNle_same
    · exact PNle_none
  · exact PNle_none
theorem PNle_long2 {h : PH} {pc : Nat} {ls : PL} {st : List Value} {f : Int64 → Int64 → Int64} : PNle h (plong2 pc ls st h f) := by
  unfold plong2; split
  · exact PNle_same
  · exact PNle_none
theorem PNle_int1 {h : PH} {pc : Nat} {ls : PL} {st : List Value} {f : Int32 → Value} : PNle h (pint1 pc ls st h f) := by
  unfold pint1; split
  · exact PNle_same
  · exact PNle_none
theorem PNle_load {h : PH} {pc i : Nat} {ls : PL} {st : List Value} {f : Value → Bool} : PNle h (pload pc ls st h i f) := by
  unfold pload; split
  · split
    · exact PNle_same
    · exact PNle_none
  · exact PNle_none
theorem PNle_store1 {h : PH} {pc i : Nat} {ls : PL} {st : List Value} {f : Value → Bool} : PNle h (pstore1 pc ls st h i f) := by
  unfold pstore1; split
  · split
    · exact PNle_same
    · exact PNle_none
  · exact PNle_none
theorem PNle_store2 {h : PH} {pc i : Nat} {ls : PL} {st : List Value} {f : Value → Bool} : PNle h (pstore2 pc ls st h i f) := by
  unfold pstore2; split
  · split
    · exact PNle_same
    · exact PNle_none
  · exact PNle_none
theorem PNle_paload {h : PH} {b : Bool} {pc : Nat} {ls : PL} {st : List Value} : PNle h (paload b pc ls st h) := by
  unfold paload; split
  · split
    · split
      · exact PNle_same
      · exact PNle_none
    · exact PNle_none
  · exact PNle_none
theorem PNle_plaload {h : PH} {pc : Nat} {ls : PL} {st : List Value} : PNle h (plaload pc ls st h) := by
  unfold plaload; split
  · split
    · split
      · exact PNle_same
      · exact PNle_none
    · exact PNle_none
  · exact PNle_none
theorem PNle_pqaload {h : PH} {pc : Nat} {ls : PL} {st : List Value} : PNle h (pqaload pc ls st h) := by
  unfold pqaload; split
  · split
    · split
      · exact PNle_same
      · exact PNle_none
    · exact PNle_none
  · exact PNle_none
theorem PNle_pastore {h : PH} {b : Bool} {pc : Nat} {ls : PL} {st : List Value} : PNle h (pastore b pc ls st h) := by
  unfold pastore; split
  · split
    · split
      · exact PNle_set
      · exact PNle_none
    · exact PNle_none
  · exact PNle_none
theorem PNle_plastore {h : PH} {pc : Nat} {ls : PL} {st : List Value} : PNle h (plastore pc ls st h) := by
  unfold plastore; split
  · split
    · split
      · exact PNle_set
      · exact PNle_none
    · exact PNle_none
  · exact PNle_none
theorem PNle_pqastore {h : PH} {pc : Nat} {ls : PL} {st : List Value} {r : List Nat} : PNle h (pqastore pc ls st h r) := by
  unfold pqastore; split
  · split
    · split
      · exact PNle_set
      · exact PNle_none
    · exact PNle_none
  · exact PNle_none
theorem PNle_getf {h : PH} {pc : Nat} {ls : PL} {st : List Value} {r : List Nat} : PNle h (pgetf pc ls st h r) := by
  unfold pgetf; split
  · split
    · split
      · split
        · exact PNle_same
        · exact PNle_none
      · exact PNle_none
    · exact PNle_none
  · exact PNle_none
theorem PNle_putf {h : PH} {pc : Nat} {ls : PL} {st : List Value} {r : List Nat} {ty : FieldType} : PNle h (pputf pc ls st h r ty) := by
  unfold pputf; split
  · split
    · split
      · exact PNle_set
      · exact PNle_none
    · exact PNle_none
  · exact PNle_none
theorem PNle_alen {h : PH} {pc : Nat} {ls : PL} {st : List Value} : PNle h (palen pc ls st h) := by
  unfold palen; split
  · split
    · exact PNle_same
    · exact PNle_none
  · exact PNle_none
theorem PNle_newa {h : PH} {pc : Nat} {ls : PL} {st : List Value} {r : List Nat} : PNle h (pnewa pc ls st h r) := by
  unfold pnewa; split
  · split
    · exact PNle_new
    · exact PNle_none
  · exact PNle_none
theorem PNle_newo {h : PH} {pc : Nat} {ls : PL} {st : List Value} {r : List Nat} {fs : List Value} : PNle h (pnewo pc ls st h r fs) := by
  unfold pnewo; split
  · split
    · split
      · intro nx q; cases q; exact ⟨Nat.le_succ _, Nat.le_add_right _ _⟩
      · exact PNle_none
    · exact PNle_new
  · exact PNle_none
theorem PNle_call {h : PH} {ls : PL} {st : List Value} {r : List Nat} : PNle h (pcall ls st h r) := by
  have key : ∀ j a l s, PNle h (some (.inr (.inr (j, a, l, s, h)))) := fun j a l s nx q => by cases q; exact ⟨Nat.le_refl _, Nat.le_refl _⟩
  unfold pcall; split
  · split
    · split
      · exact key _ _ _ _
      · split
        · split
          · split
            · exact key _ _ _ _
            · exact PNle_none
          · exact PNle_none
        · exact PNle_none
    · exact PNle_none
  · exact PNle_none
theorem PNle_callI {h : PH} {x : Option PN} (hx : PNle h x) : PNle h (pcallI x) := by
  unfold pcallI; split
  · split
    · exact PNle_none
    · intro nx q; cases q; exact hx _ rfl
  · exact PNle_none
theorem PNle_copy {h : PH} {pc : Nat} {ls : PL} {st : List Value} : PNle h (pcopy pc ls st h) := by
  unfold pcopy; split
  · split
    · split
      · exact PNle_set
      · exact PNle_none
    · exact PNle_none
  · exact PNle_none
theorem PNle_math {h : PH} {k pc : Nat} {ls : PL} {st : List Value} : PNle h (pmath k pc ls st h) := by
  unfold pmath; split <;> first | exact PNle_none | (split <;> first | exact PNle_same | exact PNle_none)
theorem PNle_step {rt : Option FieldType} {pc : Nat} {i : Instr} {len : Nat} {r : List Nat} {v : Value} {ls : PL} {st : List Value} {h : PH} : PNle h (pstep rt pc i len r v ls st h) := by
  cases i <;> simp only [pstep] <;> first | exact PNle_same | exact PNle_none | exact PNle_int2 | exact PNle_long2 | exact PNle_int1 | exact PNle_load | exact PNle_store1 | exact PNle_store2 | exact PNle_paload | exact PNle_plaload | exact PNle_pqaload | exact PNle_pastore | exact PNle_plastore | exact PNle_pqastore | exact PNle_getf | exact PNle_alen | exact PNle_newa | exact PNle_newo | exact PNle_call | (split <;> first | exact PNle_same | exact PNle_none | exact PNle_call | exact PNle_callI PNle_call | exact PNle_copy | exact PNle_math | exact PNle_fin | (split <;> first | exact PNle_same | exact PNle_none | exact PNle_putf | exact PNle_fin | (split <;> first | exact PNle_same | exact PNle_none | exact PNle_fin)))
theorem ploop_cells {call : Nat → List Value → PH → Option PO} (hcall : ∀ j a h o, call j a h = some o → h.1.2.1 ≤ o.2.1.2.1 ∧ h.1.2.2 ≤ o.2.1.2.2) : ∀ (n j pc : Nat) (ls : PL) (st : List Value) (h : PH) (o : PO), ploop call n j pc ls st h = some o → h.1.2.1 ≤ o.2.1.2.1 ∧ h.1.2.2 ≤ o.2.1.2.2 := by
  intro n
  induction n with
  | zero => intro j pc ls st h o hh; simp [ploop] at hh
  | succ n ih =>
    intro j pc ls st h o hh
    simp only [ploop] at hh
    cases hf : fetch j pc with
    | none => simp [hf] at hh
    | some q =>
      obtain ⟨i, len, r, v⟩ := q
      simp only [hf] at hh
      cases hs : pstep (mret j) pc i len r v ls st h with
      | none => simp [hs] at hh
      | some nx =>
        simp only [hs] at hh
        have hle := PNle_step (rt := mret j) (pc := pc) (i := i) (len := len) (r := r) (v := v) (ls := ls) (st := st) (h := h) nx hs
        rcases nx with ⟨pc', ls', st', h'⟩ | o' | ⟨j', a, ls', st', h'⟩
        · have := ih _ _ _ _ _ _ hh
          exact ⟨Nat.le_trans hle.1 this.1, Nat.le_trans hle.2 this.2⟩
        · cases hh; exact hle
        · dsimp only at hh hle
          cases hcc : call j' a h' with
          | none => simp [hcc] at hh
          | some q2 =>
            obtain ⟨q21, h2⟩ := q2
            have h3 := hcall _ _ _ _ hcc
            rw [hcc] at hh
            rcases q21 with w | E
            · have := ih _ _ _ _ _ _ hh
              exact ⟨Nat.le_trans hle.1 (Nat.le_trans h3.1 this.1), Nat.le_trans hle.2 (Nat.le_trans h3.2 this.2)⟩
            · dsimp only at hh
              cases hvi : isV i r with
              | false => rw [hvi] at hh; cases hh
              | true =>
                rw [hvi] at hh
                cases hm : mhs j with
                | nil => rw [hm] at hh; cases hh; exact ⟨Nat.le_trans hle.1 h3.1, Nat.le_trans hle.2 h3.2⟩
                | cons q t =>
                  rw [hm] at hh
                  dsimp only at hh
                  cases hfd : hfind (q :: t) pc E with
                  | none => rw [hfd] at hh; simp at hh
                  | some hp =>
                    rw [hfd] at hh
                    have := ih _ _ _ _ _ _ hh
                    exact ⟨Nat.le_trans hle.1 (Nat.le_trans h3.1 this.1), Nat.le_trans hle.2 (Nat.le_trans h3.2 this.2)⟩
theorem prun_cells : ∀ (d F j : Nat) (a : List Value) (h : PH) (o : PO), prun F d j a h = some o → h.1.2.1 ≤ o.2.1.2.1 ∧ h.1.2.2 ≤ o.2.1.2.2 := by
  intro d
  induction d with
  | zero => intro F j a h o hh; simp [prun] at hh
  | succ d ih =>
    intro F j a h o hh
    simp only [prun] at hh
    split at hh
    · exact ploop_cells (fun j a h o q => ih F j a h o q) _ _ _ _ _ _ _ hh
    · cases hh
theorem LR_entry_list {as : List Nat} : ∀ {a mv : List Value} (k1 k2 : Nat), SR as a mv → ∀ (i : Nat) (v : Value), ((a.flatMap fun v => if v.category = 2 then [some v, none] else [some v]) ++ List.replicate k1 none)[i]? = some (some v) → ∃ w, (lg_sl mv ++ List.replicate k2 Slot.unset)[i]? = some (Slot.val w) ∧ VR as v w
  | [], [], k1, k2, _, i, v, h => by
    simp only [List.flatMap_nil, List.nil_append] at h
    rw [List.getElem?_replicate] at h
    split at h <;> simp at h
  | x :: t, y :: u, k1, k2, hs, i, v, h => by
    have hc := hs.1.cat
    simp only [List.flatMap_cons, List.append_assoc] at h
    simp only [lg_sl, List.flatMap_cons, List.append_assoc]
    by_cases h2 : x.category = 2
    · rw [if_pos h2] at h
      rw [if_pos (by rw [hc]; exact h2)]
      match i, h with
      | 0, h => simp at h; subst h; exact ⟨y, rfl, hs.1⟩
      | 1, h => simp at h
      | i + 2, h =>
        obtain ⟨w, q1, q2⟩ := LR_entry_list k1 k2 hs.2 i v (by simpa using h)
        exact ⟨w, by simpa [lg_sl] using q1, q2⟩
    · rw [if_neg h2] at h
      rw [if_neg (by rw [hc]; exact h2)]
      match i, h with
      | 0, h => simp at h; subst h; exact ⟨y, rfl, hs.1⟩
      | i + 1, h =>
        obtain ⟨w, q1, q2⟩ := LR_entry_list k1 k2 hs.2 i v (by simpa using h)
        exact ⟨w, by simpa [lg_sl] using q1, q2⟩
  | [], _ :: _, _, _, h, _, _, _ => h.elim
  | _ :: _, [], _, _, h, _, _, _ => h.elim
theorem lg_len {as : List Nat} : ∀ {a mv : List Value}, SR as a mv → (lg_sl mv).length = (a.flatMap fun v => if v.category = 2 then [some v, none] else [some v]).length
  | [], [], _ => rfl
  | x :: t, y :: u, hs => by
    have hc := hs.1.cat
    have ih := lg_len hs.2
    simp only [lg_sl, List.flatMap_cons, List.length_append] at ih ⊢
    rw [ih]
    by_cases h2 : x.category = 2
    · rw [if_pos h2, if_pos (by rw [hc]; exact h2)]; rfl
    · rw [if_neg h2, if_neg (by rw [hc]; exact h2)]; rfl
  | [], _ :: _, h => h.elim
  | _ :: _, [], h => h.elim
/-- the first places of a method -/
theorem LR_entry {as : List Nat} {a mv : List Value} {n : Nat} (hs : SR as a mv) (hl : (pent n a).length = n) : LR as n (pent n a) ((lg_sl mv ++ List.replicate (n - (lg_sl mv).length) Slot.unset).toArray) := by
  have e1 := lg_len hs
  have hle : (lg_sl mv).length ≤ n := by
    rw [e1]
    simp only [pent, List.length_append, List.length_replicate] at hl
    omega
  have h1 := lv_entry mv (n := n) hle
  refine ⟨⟨h1.1, h1.2.1, fun _ q => by cases q⟩, hl, fun i v hv => ?_⟩
  obtain ⟨w, q1, q2⟩ := LR_entry_list _ (n - (lg_sl mv).length) hs i v hv
  exact ⟨w, by rw [List.getElem?_toArray]; exact q1, q2⟩
