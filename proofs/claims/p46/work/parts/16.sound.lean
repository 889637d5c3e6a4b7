
/-! A WHOLE METHOD: what the plain machine answers, the JVM answers -/
theorem flk_mem : ∀ {tb : List PI} {pc : Nat} {x : Instr × Nat × List Nat × Value}, flk tb pc = some x → (pc, x) ∈ tb
  | [], _, _, h => by cases h
  | q :: t, pc, x, h => by
    simp only [flk] at h
    split at h
    · rename_i hq
      cases h
      subst hq
      exact List.mem_cons_self
    · exact List.mem_cons_of_mem _ (flk_mem h)
theorem pcall_inv {ls : PL} {st : List Value} {h : PH} {r : List Nat} {j' : Nat} {a : List Value} {ls' : PL} {st' : List Value} {h' : PH} (q : pcall ls st h r = some (.inr (.inr (j', a, ls', st', h')))) :
    ∃ n cv r', r = j' :: n :: cv :: r' ∧ st = a.reverse ++ st' ∧ a.length = n ∧ psum st' ≤ 8 ∧ ls' = ls ∧ h' = h ∧ (cv = 0 ∨ ∃ c1 c2 k fs t, cv = c1 + 1 ∧ a = .ref k :: t ∧ h.2 k = some (.inr (c2, fs)) ∧ (c2 = c1 ∨ c1 = 0 ∧ c2 = 13)) := by
  have key : ∀ n : Nat, n ≤ st.length → st = (st.take n).reverse.reverse ++ st.drop n ∧ (st.take n).reverse.length = n := by
    intro n hn
    rw [List.reverse_reverse, List.take_append_drop]
    exact ⟨rfl, by rw [List.length_reverse, List.length_take]; omega⟩
  unfold pcall at q
  split at q
  · split at q
    · rename_i hf
      split at q
      · cases q
        exact ⟨_, _, _, rfl, (key _ hf.1).1, (key _ hf.1).2, hf.2, rfl, rfl, Or.inl rfl⟩
      · split at q
        · rename_i hz
          split at q
          · rename_i hz2
            split at q
            · rename_i hc
              cases q
              exact ⟨_, _, _, rfl, (key _ hf.1).1, (key _ hf.1).2, hf.2, rfl, rfl, Or.inr ⟨_, _, _, _, _, rfl, hz, hobj_inv hz2, hc⟩⟩
            · cases q
          · cases q
        · cases q
    · cases q
  · cases q
theorem pcall_out {ls : PL} {st : List Value} {h : PH} {r : List Nat} {o : PO} (hq : pcall ls st h r = some (.inr (.inl o))) : False := by
  unfold pcall at hq
  split at hq
  · split at hq
    · split at hq
      · cases hq
      · split at hq
        · split at hq
          · split at hq <;> cases hq
          · cases hq
        · cases hq
    · cases hq
  · cases hq
theorem nc_none {x : PN} (h : (none : Option PN) = some x) : False := by cases h
theorem pint2_nc {pc : Nat} {ls : PL} {st : List Value} {h : PH} {f : Int32 → Int32 → Option Int32} {x : Nat × List Value × PL × List Value × PH} (hs : pint2 pc ls st h f = some (.inr (.inr x))) : False := by
  obtain ⟨_, _, _, _, -, -, q⟩ := pint2_inv hs
  cases q
theorem plong2_nc {pc : Nat} {ls : PL} {st : List Value} {h : PH} {f : Int64 → Int64 → Int64} {x : Nat × List Value × PL × List Value × PH} (hs : plong2 pc ls st h f = some (.inr (.inr x))) : False := by
  obtain ⟨_, _, _, -, q⟩ := plong2_inv hs
  cases q
theorem pint1_nc {pc : Nat} {ls : PL} {st : List Value} {h : PH} {f : Int32 → Value} {x : Nat × List Value × PL × List Value × PH} (hs : pint1 pc ls st h f = some (.inr (.inr x))) : False := by
  obtain ⟨_, _, -, q⟩ := pint1_inv hs
  cases q
theorem pload_nc {pc i : Nat} {ls : PL} {st : List Value} {h : PH} {f : Value → Bool} {x : Nat × List Value × PL × List Value × PH} (hs : pload pc ls st h i f = some (.inr (.inr x))) : False := by
  obtain ⟨_, -, -, q⟩ := pload_inv hs
  cases q
theorem pstore1_nc {pc i : Nat} {ls : PL} {st : List Value} {h : PH} {f : Value → Bool} {x : Nat × List Value × PL × List Value × PH} (hs : pstore1 pc ls st h i f = some (.inr (.inr x))) : False := by
  obtain ⟨_, _, -, -, -, q⟩ := pstore1_inv hs
  cases q
theorem pstore2_nc {pc i : Nat} {ls : PL} {st : List Value} {h : PH} {f : Value → Bool} {x : Nat × List Value × PL × List Value × PH} (hs : pstore2 pc ls st h i f = some (.inr (.inr x))) : False := by
  obtain ⟨_, _, -, -, -, q⟩ := pstore2_inv hs
  cases q
theorem paload_nc {b : Bool} {pc : Nat} {ls : PL} {st : List Value} {h : PH} {x : Nat × List Value × PL × List Value × PH} (hs : paload b pc ls st h = some (.inr (.inr x))) : False := by
  obtain ⟨_, _, _, _, _, _, -, -, -, -, q⟩ := paload_inv hs
  cases q
theorem plaload_nc {pc : Nat} {ls : PL} {st : List Value} {h : PH} {x : Nat × List Value × PL × List Value × PH} (hs : plaload pc ls st h = some (.inr (.inr x))) : False := by
  obtain ⟨_, _, _, _, _, -, -, -, q⟩ := plaload_inv hs
  cases q
theorem pqaload_nc {pc : Nat} {ls : PL} {st : List Value} {h : PH} {x : Nat × List Value × PL × List Value × PH} (hs : pqaload pc ls st h = some (.inr (.inr x))) : False := by
  obtain ⟨_, _, _, _, _, _, -, -, -, -, q⟩ := pqaload_inv hs
  cases q
theorem pastore_nc {b : Bool} {pc : Nat} {ls : PL} {st : List Value} {h : PH} {x : Nat × List Value × PL × List Value × PH} (hs : pastore b pc ls st h = some (.inr (.inr x))) : False := by
  obtain ⟨_, _, _, _, _, _, _, -, -, -, -, -, q⟩ := pastore_inv hs
  cases q
theorem plastore_nc {pc : Nat} {ls : PL} {st : List Value} {h : PH} {x : Nat × List Value × PL × List Value × PH} (hs : plastore pc ls st h = some (.inr (.inr x))) : False := by
  obtain ⟨_, _, _, _, _, _, -, -, -, -, q⟩ := plastore_inv hs
  cases q
theorem pqastore_nc {pc : Nat} {ls : PL} {st : List Value} {h : PH} {r : List Nat} {x : Nat × List Value × PL × List Value × PH} (hs : pqastore pc ls st h r = some (.inr (.inr x))) : False := by
  obtain ⟨_, _, _, _, _, _, _, -, -, -, -, -, q⟩ := pqastore_inv hs
  cases q
theorem palen_nc {pc : Nat} {ls : PL} {st : List Value} {h : PH} {x : Nat × List Value × PL × List Value × PH} (hs : palen pc ls st h = some (.inr (.inr x))) : False := by
  obtain ⟨_, _, _, _, -, -, q⟩ := palen_inv hs
  cases q
theorem pnewa_nc {pc : Nat} {ls : PL} {st : List Value} {h : PH} {r : List Nat} {x : Nat × List Value × PL × List Value × PH} (hs : pnewa pc ls st h r = some (.inr (.inr x))) : False := by
  obtain ⟨_, _, _, _, -, -, -, -, q⟩ := pnewa_inv hs
  cases q
theorem pgetf_nc {pc : Nat} {ls : PL} {st : List Value} {h : PH} {r : List Nat} {x : Nat × List Value × PL × List Value × PH} (hs : pgetf pc ls st h r = some (.inr (.inr x))) : False := by
  obtain ⟨_, _, _, _, _, _, _, _, -, -, -, -, -, q⟩ := pgetf_inv hs
  cases q
theorem pputf_nc {pc : Nat} {ls : PL} {st : List Value} {h : PH} {r : List Nat} {ty : FieldType} {x : Nat × List Value × PL × List Value × PH} (hs : pputf pc ls st h r ty = some (.inr (.inr x))) : False := by
  obtain ⟨_, _, _, _, _, _, _, -, -, -, -, -, -, -, q⟩ := pputf_inv hs
  cases q
theorem pnewo_nc {pc : Nat} {ls : PL} {st : List Value} {h : PH} {r : List Nat} {fs : List Value} {x : Nat × List Value × PL × List Value × PH} (hs : pnewo pc ls st h r fs = some (.inr (.inr x))) : False := by
  unfold pnewo at hs
  split at hs
  · split at hs
    · split at hs <;> cases hs
    · cases hs
  · cases hs
/-- only calls call -/
theorem pstep_call {rt : Option FieldType} {pc : Nat} {i : Instr} {len : Nat} {r : List Nat} {v : Value} {ls : PL} {st : List Value} {h : PH} {x : Nat × List Value × PL × List Value × PH} (hs : pstep rt pc i len r v ls st h = some (.inr (.inr x))) :
    pcall ls st h r = some (.inr (.inr x)) ∧ ((∃ ix, i = .invokevirtual ix) ∨ (∃ ix, i = .invokestatic ix ∧ (∀ t, r ≠ 9998 :: t) ∧ ∀ k t, r ≠ 9997 :: k :: t) ∨ ∃ ix, i = .invokespecial ix ∧ (∀ t, r ≠ 9999 :: t) ∧ ∃ k t, x.2.1 = .ref k :: t ∧ k ≠ 201) := by
  have g : ∀ {a : Nat} {b : PL} {c : List Value} {d : PH}, pgo a b c d = some (.inr (.inr x)) → False := fun q => by cases q
  have f : ∀ {a : Option Value} {d : PH}, pfin a d = some (.inr (.inr x)) → False := fun q => by cases q
  cases i <;> simp only [pstep] at hs
  case invokevirtual ix => exact ⟨hs, Or.inl ⟨ix, rfl⟩⟩
  case invokestatic ix =>
    split at hs
    · exfalso
      unfold pcopy at hs
      split at hs
      · split at hs
        · split at hs
          · exact g hs
          · cases hs
        · cases hs
      · cases hs
    · exfalso
      rcases pmath_inv hs with ⟨_, _, -, -, -, q⟩ | ⟨_, _, _, -, -, -, q⟩ | ⟨_, _, _, -, -, -, q⟩ <;> exact g q
    · rename_i hn hn2
      exact ⟨hs, Or.inr (Or.inl ⟨ix, rfl, hn, hn2⟩)⟩
  case invokespecial ix =>
    split at hs
    · exfalso
      split at hs
      · split at hs
        · exact g hs
        · cases hs
      · cases hs
    · rename_i hn
      obtain ⟨h1, j9, k9, t9, l9, s9, h9, h2, h3⟩ := pcallI_inv hs
      cases h2
      exact ⟨h1, Or.inr (Or.inr ⟨ix, rfl, hn, k9, t9, rfl, h3⟩)⟩
  all_goals exfalso
  all_goals first
    | exact g hs
    | exact pint2_nc hs
    | exact plong2_nc hs
    | exact pint1_nc hs
    | exact pload_nc hs
    | exact pstore1_nc hs
    | exact pstore2_nc hs
    | exact paload_nc hs
    | exact plaload_nc hs
    | exact pqaload_nc hs
    | exact pastore_nc hs
    | exact plastore_nc hs
    | exact pqastore_nc hs
    | exact palen_nc hs
    | exact pnewa_nc hs
    | exact pgetf_nc hs
    | exact pnewo_nc hs
    | exact nc_none hs
    | (split at hs <;> first | exact g hs | exact nc_none hs | exact f hs | (split at hs <;> first | exact g hs | exact nc_none hs | exact f hs | exact pputf_nc hs | (split at hs <;> first | exact g hs | exact nc_none hs | exact f hs)))
/-- the tables' check of a method -/
noncomputable def okPairs : List (Nat × Nat × Nat × Nat × String) → Bool
  | [] => true
  | z :: t => t.all (fun x => decide (x.2.2.2.2 = z.2.2.2.2) || decide ((x.2.2.2.2, z.2.2.2.2) ∈ NCS)) && okPairs t
noncomputable def okQ (j : Nat) (q : PI) : Bool := decide (decode (pmd j).2.1 q.1 = .ok (q.2.1, q.2.2.1)) && okI (pmd j).2.2.2.2.1 (decide ((mnm j).name = "<init>")) (mret j) (pks.getD j []) q
noncomputable def okM (j : Nat) : Bool := (pks.getD j []).all (okQ j) &&
  plainName (mnm j).cls && decide ((pmd j).2.2.2.2.1 = (mnm j).cls) && okPairs (mhs j) &&
  (mhs j).all (fun q => decide (q.2.2.2.1 ≠ 0) && decide (Jvm.Cond.classLink (mnm j).cls q.2.2.2.1 q.2.2.2.2 ∈ lw_tbl) && decide (Jvm.Cond.castable q.2.2.2.2 q.2.2.2.2 ∈ lw_tbl))
theorem hfind_inv : ∀ {hs : List (Nat × Nat × Nat × Nat × String)} {pc : Nat} {E : String} {hp : Nat}, hfind hs pc E = some hp → okPairs hs = true → ∃ pre x suf, hs = pre ++ x :: suf ∧ x.1 ≤ pc ∧ pc < x.2.1 ∧ x.2.2.2.2 = E ∧ x.2.2.1 = hp ∧ ∀ z ∈ pre, ¬ (z.1 ≤ pc ∧ pc < z.2.1) ∨ (E, z.2.2.2.2) ∈ NCS
  | [], _, _, _, h, _ => by cases h
  | q :: t, pc, E, hp, h, hok => by
    simp only [okPairs, Bool.and_eq_true, List.all_eq_true, Bool.or_eq_true, decide_eq_true_eq] at hok
    simp only [hfind] at h
    split at h
    · rename_i hq
      cases h
      exact ⟨[], q, t, rfl, hq.1, hq.2.1, hq.2.2, rfl, fun z hz => by cases hz⟩
    · rename_i hq
      obtain ⟨pre, x, suf, rfl, h1, h2, h3, h4, h5⟩ := hfind_inv h hok.2
      refine ⟨q :: pre, x, suf, rfl, h1, h2, h3, h4, fun z hz => ?_⟩
      rcases List.mem_cons.mp hz with rfl | hz
      · by_cases hc : z.1 ≤ pc ∧ pc < z.2.1
        · right
          have hx := hok.1 x (List.mem_append_right _ List.mem_cons_self)
          rcases hx with hx | hx
          · exact absurd ⟨hc.1, hc.2, by rw [← hx, h3]⟩ hq
          · rw [h3] at hx; exact hx
        · exact Or.inl hc
      · exact h5 z hz

section SND7
variable {p : Program} {l : Launch} {e : Env} {R : Room} {s : State} {m : MethodId} {args : Array Value} {below : List Frame} {meth : Method} {c : Code} {Q : State → Prop}
variable {D : va_G} {tys : List (ClassId × FieldType)} {S0 : Nat} {ro : List Nat} {RO : Nat → Option PC} {as0 : List Nat} {c0 s0 : Nat} {cc : ByteArray} {pc : Nat} {ls : PL} {st : List Value} {h : PH} {own : String}

set_option maxHeartbeats 4000000 in
/-- the body of a method -/
theorem snd_loop {d F j : Nat} (hokM : okM j = true) (IH : ∀ (j' : Nat) (a : List Value) (h : PH) (o : PO), prun F d j' a h = some o → CtP l D tys S0 ro RO d (mnm j') (mcw j') a h o)
    (hx : p.tables.exec = Jvm.exec) (hb : c.code = (pmd j).2.1) (hown : s.vm.findClass (mnm j).cls = some m.cls) (hts : ∀ w ∈ lwG, w.before args s = true) (hE : EN D tys S0 ro RO s) (hin : (mnm j).name = "<init>" → meth.name = "<init>") (hR1 : d + 7 ≤ R.frames) (hR2 : 60 * d + 260 ≤ R.locals)
    (htab : c.exceptionTable.toList = tableOf ((mhs j).map fun x => (x.1, x.2.1, x.2.2.1, x.2.2.2.1))) {out : PO}
    (hend : ∀ (pc : Nat) (i : Instr) (len : Nat) (r : List Nat) (v : Value) (ls : PL) (st : List Value) (h : PH), fetch j pc = some (i, len, r, v) → pstep (mret j) pc i len r v ls st h = some (.inr (.inl out)) → Gd p l e R s m args below meth c Q D tys S0 ro RO as0 c0 s0 (pc) (ls) (st) (h))
    (hthr : ∀ (E : String), out.1 = .inr E → mhs j = [] → ∀ (pc : Nat) (as : List Nat) (H : Heap) (locs : List Loc) (cells slots : Nat) (ml : Array Slot) (ms : List Value) (q9 : Addr) (ce : Cell), as0 <+: as → PW D tys (A0 S0) ro RO as out.2 H → va_S (A0 S0) s.heap H locs → out.2.1.2.1 = c0 + cells → out.2.1.2.2 = s0 + slots → H[q9]? = some ce → ce.vm = .none → s.vm.findClass E = some ce.cls → vx_W p l e R s m args below meth c H locs cells slots Q (F0 m pc ml ms) q9)
    (hr1 : out.2.1.2.1 ≤ c0 + R.cells) (hr2 : out.2.1.2.2 ≤ s0 + R.slots) : ∀ (n pc : Nat) (ls : PL) (st : List Value) (h : PH), ploop (prun F d) n j pc ls st h = some out → Gd p l e R s m args below meth c Q D tys S0 ro RO as0 c0 s0 (pc) (ls) (st) (h) := by
  have hok0 := hokM
  simp only [okM, Bool.and_eq_true] at hok0
  obtain ⟨⟨⟨⟨hokT, -⟩, hokO⟩, hokP⟩, hokH⟩ := hok0
  have hcells := ploop_cells (call := prun F d) (fun j a h o q => prun_cells d F j a h o q)
  intro n
  induction n with
  | zero => intro pc ls st h hh; simp [ploop] at hh
  | succ n ih =>
    intro pc ls st h hh
    have hh0 := hh
    simp only [ploop] at hh
    cases hf : fetch j pc with
    | none => simp [hf] at hh
    | some q =>
      obtain ⟨i, len, r, v⟩ := q
      simp only [hf] at hh
      have hmem := flk_mem (show flk (pks.getD j []) pc = some (i, len, r, v) from hf)
      have hq0 := List.all_eq_true.mp hokT _ hmem
      simp only [okQ, Bool.and_eq_true, decide_eq_true_eq] at hq0
      obtain ⟨hdec, hokI⟩ := hq0
      have hokO2 : (pmd j).2.2.2.2.1 = (mnm j).cls := by simpa using hokO
      rw [hokO2] at hokI
      cases hs : pstep (mret j) pc i len r v ls st h with
      | none => simp [hs] at hh
      | some nx =>
        simp only [hs] at hh
        rcases nx with ⟨pc', ls', st', h'⟩ | o' | ⟨j', a, ls', st', h'⟩
        · have hc := hcells _ _ _ _ _ _ _ hh
          exact snd_go hx hb hown hts hE (ini := decide ((mnm j).name = "<init>")) (fun q => hin (by simpa using q)) hdec hokI (by omega) (by omega) hs (Nat.le_trans hc.1 hr1) (Nat.le_trans hc.2 hr2) (ih _ _ _ _ hh)
        · cases hh
          exact hend pc i len r v ls st h hf hs
        · dsimp only at hh
          obtain ⟨hcl, hkind⟩ := pstep_call hs
          obtain ⟨n1, cv, r1, rfl, rfl, hlen, hps, rfl, rfl, hcv⟩ := pcall_inv hcl
          cases hcc : prun F d j' a h' with
          | none => simp [hcc] at hh
          | some q2 =>
            obtain ⟨q21, h2⟩ := q2
            have hct := IH _ _ _ _ hcc
            rw [hcc] at hh
            have hcl2 : h2.1.2.1 ≤ out.2.1.2.1 ∧ h2.1.2.2 ≤ out.2.1.2.2 := by
              rcases q21 with w | E
              · exact hcells _ _ _ _ _ _ _ hh
              · dsimp only at hh
                cases hvi : isV i (j' :: n1 :: cv :: r1) with
                | false => rw [hvi] at hh; cases hh
                | true =>
                  rw [hvi] at hh
                  cases hm : mhs j with
                  | nil => rw [hm] at hh; cases hh; exact ⟨Nat.le_refl _, Nat.le_refl _⟩
                  | cons q t =>
                    rw [hm] at hh
                    dsimp only at hh
                    cases hfd : hfind (q :: t) pc E with
                    | none => rw [hfd] at hh; simp at hh
                    | some hp => rw [hfd] at hh; exact hcells _ _ _ _ _ _ _ hh
            have hr1' : h2.1.2.1 ≤ c0 + R.cells := Nat.le_trans hcl2.1 hr1
            have hr2' : h2.1.2.2 ≤ s0 + R.slots := Nat.le_trans hcl2.2 hr2
            have hokI2 := hokI
            simp only [okI, Bool.and_eq_true] at hokI2
            obtain ⟨hlen3, hokC⟩ := hokI2
            rcases hkind with ⟨ix, rfl⟩ | ⟨ix, rfl, hne, hne2⟩ | ⟨ix, rfl, hne, k, t, hat, hk201⟩
            · simp only [ilen, decide_eq_true_eq] at hlen3
              subst hlen3
              simp only at hokC
              unfold okCall at hokC
              split at hokC
              · rename_i hre
                cases hre
                rename_i nest9 w9 ini9 cw9 kw9 rest9
                simp only [Bool.and_eq_true, decide_eq_true_eq] at hokC
                obtain ⟨⟨⟨hini, hcw⟩, hml⟩, hokC⟩ := hokC
                by_cases h7 : nest9 = 7
                · subst h7
                  rw [if_pos rfl] at hokC
                  simp only [Bool.and_eq_true, decide_eq_true_eq] at hokC
                  obtain ⟨⟨⟨⟨⟨hcv2, hkw⟩, h1n⟩, hnm⟩, hm0⟩, hrest⟩ := hokC
                  subst hcv2
                  split at hrest
                  · rename_i sel9 sm9 jx9 kwx9 cwx9 r9
                    simp only [Bool.and_eq_true, decide_eq_true_eq] at hrest
                    obtain ⟨⟨⟨⟨⟨⟨hlk, hsel⟩, hsm⟩, hkwx⟩, hcwx⟩, hmx⟩, hnmx⟩ := hrest
                    rcases hcv with hcv | ⟨c1, c2, k, fs, t, hce, rfl, hob, hcc2⟩
                    · cases hcv
                    · cases hce
                      have hc2 : c2 = 1 := by omega
                      subst hc2
                      simp only [okNm, decide_eq_true_eq] at hnm hnmx
                      have hcw2 := wAt_in hcw
                      have hcwx2 := wAt_in hcwx
                      simp only [mcw, hm0] at hcw2 hct
                      simp only [mcw, hmx] at hcwx2
                      have htl : t.length = n1 - 1 := by simp only [List.length_cons] at hlen; omega
                      rcases q21 with w | E
                      rotate_left
                      · cases hh
                      exact gd_callU (n := n1 - 1) hx hb hown hts hE hdec (wAt_in hlk) (wAt_in hsm) (wAt_in hkwx) hcwx2 hnmx (wAt_in hkw) (wAt_in hini) (wAt_in hsel) hob hcw2 hnm hct rfl hR1 hR2 hml hps htl hr1' hr2' (ih _ _ _ _ hh)
                  · cases hrest
                rw [if_neg h7] at hokC
                simp only [Bool.and_eq_true, decide_eq_true_eq] at hokC
                obtain ⟨⟨⟨⟨⟨⟨hlk, hn0⟩, hkw⟩, h1n⟩, hnm⟩, hm0⟩, hsel⟩ := hokC
                subst hn0
                simp only [okLnk] at hlk
                split at hsel
                · rename_i c1 sel r9 
                  rcases hcv with hcv | ⟨c1b, c2, k, fs, t, hce, rfl, hob, hcc2⟩
                  · cases hcv
                  · cases hce
                    simp only [Bool.and_eq_true, decide_eq_true_eq] at hsel
                    obtain ⟨hsel, hc13⟩ := hsel
                    have hcl9 : clN c1 = clN c2 := by
                      rcases hcc2 with rfl | ⟨rfl, rfl⟩
                      · rfl
                      · rfl
                    rw [hcl9] at hsel
                    simp only [okNm, decide_eq_true_eq] at hnm
                    have hcw2 := wAt_in hcw
                    simp only [mcw, hm0] at hcw2 hct
                    have htl : t.length = n1 - 1 := by simp only [List.length_cons] at hlen; omega
                    rcases q21 with w | E
                    · exact gd_callV (n := n1 - 1) hx hb hown hts hE hdec (wAt_in hlk) (wAt_in hkw) (wAt_in hini) (wAt_in hsel) hob hcw2 hnm hct rfl hR1 hR2 hml hps htl hr1' hr2' (ih _ _ _ _ hh)
                    · dsimp only at hh
                      have hvi : isV (.invokevirtual ix) (j' :: n1 :: (c1 + 1) :: 0 :: w9 :: ini9 :: cw9 :: kw9 :: sel :: r9) = true := rfl
                      rw [hvi] at hh
                      refine gd_callVX (n := n1 - 1) hx hb hown hts hE hdec (wAt_in hlk) (wAt_in hkw) (wAt_in hini) (wAt_in hsel) hob hcw2 hnm hct rfl hR1 hR2 hml hps htl hr1' hr2' (fun as H locs cells slots ml ms q9 ce hp hw hL hS hc hq g1 g2 g3 => ?_)
                      cases hm : mhs j with
                      | nil =>
                        rw [hm] at hh
                        cases hh
                        exact hthr E rfl hm pc as H locs cells slots ml ms q9 ce hp hw hS hc hq g1 g2 g3
                      | cons q t2 =>
                        rw [hm] at hh
                        dsimp only at hh
                        cases hfd : hfind (q :: t2) pc E with
                        | none => rw [hfd] at hh; simp at hh
                        | some hp9 =>
                          rw [hfd] at hh
                          rw [← hm] at hfd
                          obtain ⟨pre, x, suf, hsp, x1, x2, x3, x4, x5⟩ := hfind_inv hfd hokP
                          have K := ih _ _ _ _ hh
                          have hxm := List.all_eq_true.mp hokH
                          have hxx := hxm x (by rw [hsp]; exact List.mem_append_right _ List.mem_cons_self)
                          simp only [Bool.and_eq_true, decide_eq_true_eq] at hxx
                          have hclk : ∀ z ∈ mhs j, (Jvm.Cond.classLink (mnm j).cls z.2.2.2.1 z.2.2.2.2).before args s = true := by
                            intro z hz
                            have hzz := hxm z hz
                            simp only [Bool.and_eq_true, decide_eq_true_eq] at hzz
                            exact hts _ (List.mem_filter.mpr ⟨hzz.1.2, rfl⟩)
                          subst x3
                          subst x4
                          refine vx_catch (own := (mnm j).cls) (name := x.2.2.2.2) hown (tableOf (pre.map fun x => (x.1, x.2.1, x.2.2.1, x.2.2.2.1))) ⟨x.1, x.2.1, x.2.2.1, x.2.2.2.1⟩ (tableOf (suf.map fun x => (x.1, x.2.1, x.2.2.1, x.2.2.2.1))) (by rw [htab, hsp]; simp [tableOf]) ?_ (by simp [covers, x1, x2]) hxx.1.1 (hclk x (by rw [hsp]; exact List.mem_append_right _ List.mem_cons_self)) (va_Nw.use rfl (hE.nw _ (List.mem_filter.mpr ⟨hxx.2, rfl⟩))) g1 g2 g3 (K as H locs cells slots ml [.ref q9] hp hw hL ⟨?_, trivial⟩ hS hc hq)
                          · intro z hz
                            simp only [tableOf, List.mem_map] at hz
                            obtain ⟨z1, ⟨z2, hz2, rfl⟩, rfl⟩ := hz
                            rcases x5 z2 hz2 with h5 | h5
                            · left
                              simp only [covers, Bool.and_eq_false_iff, decide_eq_false_iff_not]
                              exact Classical.not_and_iff_not_or_not.mp h5
                            · right
                              have hzm : z2 ∈ mhs j := by rw [hsp]; exact List.mem_append_left _ hz2
                              have hzz := hxm z2 hzm
                              simp only [Bool.and_eq_true, decide_eq_true_eq] at hzz
                              exact ⟨hzz.1.1, z2.2.2.2.2, hclk z2 hzm, hE.nc _ h5⟩
                          · show VR as (.ref 299) (.ref q9)
                            simp only [VR, if_true]
                            exact ⟨q9, rfl⟩
                · cases hsel
              · cases hokC
            · simp only [ilen, decide_eq_true_eq] at hlen3
              subst hlen3
              rcases q21 with w | E
              rotate_left
              · cases hh
              simp only at hokC
              have hokC2 : okCall (mnm j).cls 0 ix (j' :: n1 :: cv :: r1) = true := by
                split at hokC
                · rename_i hre; cases hre
                · rename_i hre; exact absurd hre (hne _)
                · rename_i hre; cases hre; exact absurd rfl (hne2 _ _)
                · exact hokC
              unfold okCall at hokC2
              split at hokC2
              · rename_i hre
                cases hre
                simp only [Bool.and_eq_true, decide_eq_true_eq, Bool.or_eq_true] at hokC2
                obtain ⟨⟨⟨hini, hcw⟩, hml⟩, ⟨⟨⟨⟨hlk, hcv0⟩, hkw⟩, hnm⟩, hmn⟩⟩ := hokC2
                simp only [okNm, decide_eq_true_eq] at hnm
                have hcw2 := wAt_in hcw
                cases hm : mhs j' with
                | nil =>
                  simp only [mcw, hm] at hcw2 hct
                  have hlk2 : Jvm.Cond.methodLink (mnm j).cls ix (mnm j') ∈ lwG ∨ ∃ host, Jvm.Cond.methodLinkNest (mnm j).cls ix (mnm j') host ∈ lwB := by
                    unfold okLnk at hlk
                    split at hlk
                    · exact Or.inl (wAt_in hlk)
                    · rw [Bool.or_eq_true] at hlk
                      rcases hlk with hlk | hlk
                      · exact Or.inr ⟨_, wBt_in hlk⟩
                      · exact Or.inr ⟨_, wBt_in hlk⟩
                  exact gd_callS (n := n1) hx hb hown hts hE hdec hlk2 (wAt_in hkw) (wAt_in hini) hcw2 hnm hct rfl hR1 hR2 hml hps hlen hr1' hr2' (ih _ _ _ _ hh)
                | cons q t2 =>
                  simp only [mcw, hm] at hcw2 hct
                  rcases hmn with hmn | hmn
                  · rw [hm] at hmn; cases hmn
                  · subst hmn
                    simp only [okLnk] at hlk
                    exact gd_callSW (n := n1) hx hb hown hts hE hdec (wAt_in hlk) (wAt_in hkw) (wAt_in hini) hcw2 hnm hct rfl hR1 hR2 hml hps hlen hr1' hr2' (ih _ _ _ _ hh)
              · cases hokC2
            · simp only [ilen, decide_eq_true_eq] at hlen3
              subst hlen3
              rcases q21 with w | E
              rotate_left
              · cases hh
              simp only at hokC
              have hokC2 : okCall (mnm j).cls 1 ix (j' :: n1 :: cv :: r1) = true ∨ j' = 8888 := by
                split at hokC
                · rename_i hre; cases hre
                · rename_i hre; exact absurd hre (hne _)
                · rename_i hre; cases hre; exact Or.inr rfl
                · exact Or.inl hokC
              rcases hokC2 with hokC2 | rfl
              rotate_left
              · exfalso
                cases d with
                | zero => simp [prun] at hcc
                | succ d =>
                  simp only [prun] at hcc
                  split at hcc
                  · cases F with
                    | zero => simp [ploop] at hcc
                    | succ F =>
                      have hnf : fetch 8888 0 = none := rfl
                      simp only [ploop, hnf] at hcc
                      cases hcc
                  · cases hcc
              unfold okCall at hokC2
              split at hokC2
              · rename_i hre
                cases hre
                rename_i nest9 w9 ini9 cw9 kw9 rest9
                simp only [Bool.and_eq_true, decide_eq_true_eq] at hokC2
                obtain ⟨⟨⟨hini, hcw⟩, hml⟩, hokC2⟩ := hokC2
                by_cases h8 : nest9 = 8
                · subst h8
                  rw [if_pos rfl] at hokC2
                  simp only [Bool.and_eq_true, decide_eq_true_eq] at hokC2
                  obtain ⟨⟨⟨⟨⟨⟨⟨hlk, hcv2⟩, hkw⟩, h1n⟩, hnm⟩, hnam⟩, hm0⟩, hrest⟩ := hokC2
                  subst hcv2
                  split at hrest
                  · rename_i sm9 sup9 r9
                    simp only [Bool.and_eq_true] at hrest
                    rcases hcv with hcv | ⟨c1, c2, k9, fs, t9, hce, hat9, hob, hcc2⟩
                    · cases hcv
                    · cases hce
                      have hc2 : c2 = 1 := by omega
                      subst hc2
                      subst hat9
                      simp only [okNm, decide_eq_true_eq] at hnm
                      have hcw2 := wAt_in hcw
                      simp only [mcw, hm0] at hcw2 hct
                      have htl : t9.length = n1 - 1 := by simp only [List.length_cons] at hlen; omega
                      exact gd_callSU (n := n1 - 1) hx hb hown hts hE hdec (wAt_in hlk) (wAt_in hrest.1) (wAt_in hrest.2) hnam (wAt_in hkw) (wAt_in hini) (by omega) hob hcw2 hnm hct rfl hR1 hR2 hml hps htl hr1' hr2' (ih _ _ _ _ hh)
                  · cases hrest
                rw [if_neg h8] at hokC2
                simp only [Bool.and_eq_true, decide_eq_true_eq, Bool.or_eq_true] at hokC2
                obtain ⟨⟨⟨⟨⟨⟨⟨hlk, hcv0⟩, hkw⟩, h1n⟩, hnm⟩, hnam⟩, hrt⟩, hm0⟩ := hokC2
                simp only [okNm, decide_eq_true_eq] at hnm
                have hcw2 := wAt_in hcw
                simp only [mcw, hm0, hrt] at hcw2 hct
                have hlk2 : Jvm.Cond.methodLink (mnm j).cls ix (mnm j') ∈ lwG ∨ ∃ host, Jvm.Cond.methodLinkNest (mnm j).cls ix (mnm j') host ∈ lwB := by
                  unfold okLnk at hlk
                  split at hlk
                  · exact Or.inl (wAt_in hlk)
                  · rw [Bool.or_eq_true] at hlk
                    rcases hlk with hlk | hlk
                    · exact Or.inr ⟨_, wBt_in hlk⟩
                    · exact Or.inr ⟨_, wBt_in hlk⟩
                dsimp only at hat
                subst hat
                have htl : t.length = n1 - 1 := by simp only [List.length_cons] at hlen; omega
                exact gd_callI (n := n1 - 1) hx hb hown hts hE hk201 hdec hlk2 (wAt_in hkw) (wAt_in hini) hcw2 hnam hnm hct rfl hR1 hR2 hml hps htl hr1' hr2' (ih _ _ _ _ hh)
              · cases hokC2
end SND7
