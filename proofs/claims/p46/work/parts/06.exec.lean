/-! RUNNING THE PROGRAM: n steps in a method, d methods deep -/
def flk : List PI → Nat → Option (Instr × Nat × List Nat × Value)
  | [], _ => none
  | q :: t, pc => if q.1 = pc then some q.2 else flk t pc
noncomputable def fetch (j pc : Nat) : Option (Instr × Nat × List Nat × Value) := flk (pks.getD j []) pc
noncomputable def pmd (j : Nat) : PM := pms.getD j (⟨"", "", ""⟩, ⟨#[]⟩, 0, none, "", [])
noncomputable def mret (j : Nat) : Option FieldType := (pmd j).2.2.2.1
noncomputable def mloc (j : Nat) : Nat := (pmd j).2.2.1
noncomputable def mhs (j : Nat) : List (Nat × Nat × Nat × Nat × String) := (pmd j).2.2.2.2.2
def hfind (hs : List (Nat × Nat × Nat × Nat × String)) (pc : Nat) (E : String) : Option Nat := match hs with
  | [] => none
  | q :: t => if q.1 ≤ pc ∧ pc < q.2.1 ∧ q.2.2.2.2 = E then some q.2.2.1 else hfind t pc E
def isV (i : Instr) (r : List Nat) : Bool := match i with
  | .invokevirtual _ => (match r with
    | _ :: _ :: _ :: 7 :: _ => false
    | _ => true)
  | _ => false
noncomputable def ploop (call : Nat → List Value → PH → Option PO) : Nat → Nat → Nat → PL → List Value → PH → Option PO
  | 0, _, _, _, _, _ => none
  | n + 1, j, pc, ls, st, h => match fetch j pc with
    | none => none
    | some (i, len, r, v) => match pstep (mret j) pc i len r v ls st h with
      | none => none
      | some (.inl (pc', ls', st', h')) => ploop call n j pc' ls' st' h'
      | some (.inr (.inl o)) => some o
      | some (.inr (.inr (j', a, ls', st', h'))) => match call j' a h' with
        | none => none
        | some (.inl w, h2) => ploop call n j (pc + 3) ls' (w.toList ++ st') h2
        | some (.inr E, h2) => match isV i r, mhs j with
          | false, _ => none
          | true, [] => some (.inr E, h2)
          | true, q :: t => match hfind (q :: t) pc E with
            | none => none
            | some hp => ploop call n j hp ls' [.ref 299] h2
noncomputable def prun (F : Nat) : Nat → Nat → List Value → PH → Option PO
  | 0, _, _, _ => none
  | d + 1, j, a, h => if (pent (mloc j) a).length = mloc j then ploop (prun F d) F j 0 (pent (mloc j) a) [] h else none
/-- the run of method j from pc on comes to an end that Q takes -/
def Wp (d j pc : Nat) (ls : PL) (st : List Value) (h : PH) (Q : PO → Prop) : Prop := ∃ F n o, ploop (prun F d) n j pc ls st h = some o ∧ Q o
/-- a call of method j, at most d deep -/
def Cp (d j : Nat) (a : List Value) (h : PH) (Q : PO → Prop) : Prop := ∃ F o, prun F d j a h = some o ∧ Q o
theorem ploop_mono {c1 c2 : Nat → List Value → PH → Option PO} (hc : ∀ j a h o, c1 j a h = some o → c2 j a h = some o) : ∀ (n k : Nat) (j pc : Nat) (ls : PL) (st : List Value) (h : PH) (o : PO), n ≤ k → ploop c1 n j pc ls st h = some o → ploop c2 k j pc ls st h = some o := by
  intro n
  induction n with
  | zero => intro k j pc ls st h o _ hh; simp [ploop] at hh
  | succ n ih =>
    intro k j pc ls st h o hk hh
    obtain ⟨k, rfl⟩ : ∃ k', k = k' + 1 := ⟨k - 1, by omega⟩
    have hk : n ≤ k := by omega
    simp only [ploop] at hh ⊢
    cases hf : fetch j pc with
    | none => simp [hf] at hh
    | some q =>
      obtain ⟨i, len, r, v⟩ := q
      simp only [hf] at hh ⊢
      cases hs : pstep (mret j) pc i len r v ls st h with
      | none => simp [hs] at hh
      | some nx =>
        simp only [hs] at hh ⊢
        rcases nx with ⟨pc', ls', st', h'⟩ | o' | ⟨j', a, ls', st', h'⟩
        · exact ih k _ _ _ _ _ _ hk hh
        · exact hh
        · dsimp only at hh ⊢
          cases hcc : c1 j' a h' with
          | none => simp [hcc] at hh
          | some q2 =>
            obtain ⟨q21, h2⟩ := q2
            rw [hc _ _ _ _ hcc]
            rw [hcc] at hh
            rcases q21 with w | E
            · exact ih k _ _ _ _ _ _ hk hh
            · dsimp only at hh ⊢
              cases hvi : isV i r with
              | false => rw [hvi] at hh; cases hh
              | true =>
                rw [hvi] at hh
                cases hm : mhs j with
                | nil => rw [hm] at hh; exact hh
                | cons q t =>
                  rw [hm] at hh
                  dsimp only at hh ⊢
                  cases hfd : hfind (q :: t) pc E with
                  | none => rw [hfd] at hh; simp at hh
                  | some hp => rw [hfd] at hh; exact ih k _ _ _ _ _ _ hk hh
theorem prun_mono : ∀ (d F F' : Nat) (j : Nat) (a : List Value) (h : PH) (o : PO), F ≤ F' → prun F d j a h = some o → prun F' d j a h = some o := by
  intro d
  induction d with
  | zero => intro F F' j a h o _ hh; simp [prun] at hh
  | succ d ih =>
    intro F F' j a h o hF hh
    simp only [prun] at hh ⊢
    split at hh
    · rename_i hl
      rw [if_pos hl]
      exact ploop_mono (fun j a h o q => ih F F' j a h o hF q) F F' _ _ _ _ _ _ hF hh
    · cases hh
theorem prun_deep : ∀ (d d' F : Nat) (j : Nat) (a : List Value) (h : PH) (o : PO), d ≤ d' → prun F d j a h = some o → prun F d' j a h = some o := by
  intro d
  induction d with
  | zero => intro d' F j a h o _ hh; simp [prun] at hh
  | succ d ih =>
    intro d' F j a h o hd hh
    obtain ⟨d', rfl⟩ : ∃ k', d' = k' + 1 := ⟨d' - 1, by omega⟩
    simp only [prun] at hh ⊢
    split at hh
    · rename_i hl
      rw [if_pos hl]
      exact ploop_mono (fun j a h o q => ih d' F j a h o (by omega) q) F F _ _ _ _ _ _ (Nat.le_refl _) hh
    · cases hh
/-- where a step goes -/
def NxP (d j pc : Nat) (vi : Bool) (Q : PO → Prop) (x : Option PN) : Prop := match x with
  | none => False
  | some (.inl (pc', ls', st', h')) => Wp d j pc' ls' st' h' Q
  | some (.inr (.inl o)) => Q o
  | some (.inr (.inr (j', a, ls', st', h'))) => Cp d j' a h' (fun o => match o with
    | (.inl w, h2) => Wp d j (pc + 3) ls' (w.toList ++ st') h2 Q
    | (.inr E, h2) => match vi, mhs j with
      | false, _ => False
      | true, [] => Q (.inr E, h2)
      | true, q :: t => match hfind (q :: t) pc E with
        | none => False
        | some hp => Wp d j hp ls' [.ref 299] h2 Q)
theorem Wp_step {d j pc : Nat} {i : Instr} {len : Nat} {r : List Nat} {v : Value} {ls : PL} {st : List Value} {h : PH} {Q : PO → Prop} (hf : fetch j pc = some (i, len, r, v)) : Wp d j pc ls st h Q ↔ NxP d j pc (isV i r) Q (pstep (mret j) pc i len r v ls st h) := by
  constructor
  · rintro ⟨F, n, o, hr, hq⟩
    cases n with
    | zero => simp [ploop] at hr
    | succ n =>
      simp only [ploop, hf] at hr
      cases hs : pstep (mret j) pc i len r v ls st h with
      | none => simp [hs] at hr
      | some nx =>
        simp only [hs] at hr
        rcases nx with ⟨pc', ls', st', h'⟩ | o' | ⟨j', a, ls', st', h'⟩
        · exact ⟨F, n, o, hr, hq⟩
        · cases hr; exact hq
        · dsimp only at hr
          cases hcc : prun F d j' a h' with
          | none => simp [hcc] at hr
          | some q2 =>
            obtain ⟨q21, h2⟩ := q2
            refine ⟨F, (q21, h2), hcc, ?_⟩
            rw [hcc] at hr
            rcases q21 with w | E
            · exact ⟨F, n, o, hr, hq⟩
            · dsimp only at hr ⊢
              cases hvi : isV i r with
              | false => rw [hvi] at hr; cases hr
              | true =>
                rw [hvi] at hr
                cases hm : mhs j with
                | nil => rw [hm] at hr; cases hr; exact hq
                | cons q t =>
                  rw [hm] at hr
                  dsimp only at hr ⊢
                  cases hfd : hfind (q :: t) pc E with
                  | none => rw [hfd] at hr; simp at hr
                  | some hp => rw [hfd] at hr; exact ⟨F, n, o, hr, hq⟩
  · intro hx
    cases hs : pstep (mret j) pc i len r v ls st h with
    | none => rw [hs] at hx; exact hx.elim
    | some nx =>
      rw [hs] at hx
      rcases nx with ⟨pc', ls', st', h'⟩ | o' | ⟨j', a, ls', st', h'⟩
      · obtain ⟨F, n, o, hr, hq⟩ := hx
        exact ⟨F, n + 1, o, by simp only [ploop, hf, hs]; exact hr, hq⟩
      · exact ⟨0, 1, o', by simp only [ploop, hf, hs], hx⟩
      · obtain ⟨F1, ⟨q21, h2⟩, hcc, hx⟩ := hx
        rcases q21 with w | E
        · obtain ⟨F, n, o, hr, hq⟩ := hx
          refine ⟨max F F1, n + 1, o, ?_, hq⟩
          simp only [ploop, hf, hs]
          rw [prun_mono _ _ _ _ _ _ _ (Nat.le_max_right F F1) hcc]
          exact ploop_mono (fun j a h o q => prun_mono _ _ _ _ _ _ _ (Nat.le_max_left F F1) q) n n _ _ _ _ _ _ (Nat.le_refl _) hr
        · dsimp only at hx
          cases hvi : isV i r with
          | false => rw [hvi] at hx; exact hx.elim
          | true =>
            rw [hvi] at hx
            cases hm : mhs j with
            | nil =>
              rw [hm] at hx
              exact ⟨F1, 1, _, by simp only [ploop, hf, hs, hcc, hvi, hm], hx⟩
            | cons q t =>
              rw [hm] at hx
              dsimp only at hx
              cases hfd : hfind (q :: t) pc E with
              | none => rw [hfd] at hx; exact hx.elim
              | some hp =>
                rw [hfd] at hx
                obtain ⟨F, n, o, hr, hq⟩ := hx
                refine ⟨max F F1, n + 1, o, ?_, hq⟩
                simp only [ploop, hf, hs]
                rw [prun_mono _ _ _ _ _ _ _ (Nat.le_max_right F F1) hcc]
                simp only [hvi, hm, hfd]
                exact ploop_mono (fun j a h o q => prun_mono _ _ _ _ _ _ _ (Nat.le_max_left F F1) q) n n _ _ _ _ _ _ (Nat.le_refl _) hr
theorem Cp_succ {d j : Nat} {a : List Value} {h : PH} {Q : PO → Prop} (hl : (pent (mloc j) a).length = mloc j) : Cp (d + 1) j a h Q ↔ Wp d j 0 (pent (mloc j) a) [] h Q := by
  constructor
  · rintro ⟨F, o, hr, hq⟩
    simp only [prun, if_pos hl] at hr
    exact ⟨F, F, o, hr, hq⟩
  · rintro ⟨F, n, o, hr, hq⟩
    refine ⟨max F n, o, ?_, hq⟩
    simp only [prun, if_pos hl]
    exact ploop_mono (fun j a h o q => prun_mono _ _ _ _ _ _ _ (Nat.le_max_left F n) q) n (max F n) _ _ _ _ _ _ (Nat.le_max_right F n) hr
theorem Cp_deep {d d' j : Nat} {a : List Value} {h : PH} {Q : PO → Prop} (hd : d ≤ d') (hc : Cp d j a h Q) : Cp d' j a h Q := by
  obtain ⟨F, o, hr, hq⟩ := hc
  exact ⟨F, o, prun_deep _ _ _ _ _ _ _ hd hr, hq⟩
theorem Cp_mono {d j : Nat} {a : List Value} {h : PH} {Q Q' : PO → Prop} (hc : Cp d j a h Q) (hq : ∀ o, Q o → Q' o) : Cp d j a h Q' := by
  obtain ⟨F, o, hr, h1⟩ := hc
  exact ⟨F, o, hr, hq o h1⟩
theorem Wp_mono {d j pc : Nat} {ls : PL} {st : List Value} {h : PH} {Q Q' : PO → Prop} (hc : Wp d j pc ls st h Q) (hq : ∀ o, Q o → Q' o) : Wp d j pc ls st h Q' := by
  obtain ⟨F, n, o, hr, h1⟩ := hc
  exact ⟨F, n, o, hr, hq o h1⟩
/-- a call's end is one -/
theorem Cp_eq {d j : Nat} {a : List Value} {h : PH} {o : PO} (hc : Cp d j a h (fun x => x = o)) (Q : PO → Prop) : Cp d j a h Q ↔ Q o := by
  obtain ⟨F, o1, hr, rfl⟩ := hc
  constructor
  · rintro ⟨F2, o2, hr2, hq⟩
    have e1 := prun_mono _ _ _ _ _ _ _ (Nat.le_max_left F F2) hr
    have e2 := prun_mono _ _ _ _ _ _ _ (Nat.le_max_right F F2) hr2
    rw [e1] at e2
    cases e2
    exact hq
  · intro hq
    exact ⟨F, o1, hr, hq⟩
