theorem pint2_no {pc : Nat} {ls : PL} {st : List Value} {h : PH} {f : Int32 → Int32 → Option Int32} {o : PO} (hs : pint2 pc ls st h f = some (.inr (.inl o))) : False := by
  obtain ⟨_, _, _, _, -, -, q⟩ := pint2_inv hs
  cases q
theorem plong2_no {pc : Nat} {ls : PL} {st : List Value} {h : PH} {f : Int64 → Int64 → Int64} {o : PO} (hs : plong2 pc ls st h f = some (.inr (.inl o))) : False := by
  obtain ⟨_, _, _, -, q⟩ := plong2_inv hs
  cases q
theorem pint1_no {pc : Nat} {ls : PL} {st : List Value} {h : PH} {f : Int32 → Value} {o : PO} (hs : pint1 pc ls st h f = some (.inr (.inl o))) : False := by
  obtain ⟨_, _, -, q⟩ := pint1_inv hs
  cases q
theorem pload_no {pc i : Nat} {ls : PL} {st : List Value} {h : PH} {f : Value → Bool} {o : PO} (hs : pload pc ls st h i f = some (.inr (.inl o))) : False := by
  obtain ⟨_, -, -, q⟩ := pload_inv hs
  cases q
theorem pstore1_no {pc i : Nat} {ls : PL} {st : List Value} {h : PH} {f : Value → Bool} {o : PO} (hs : pstore1 pc ls st h i f = some (.inr (.inl o))) : False := by
  obtain ⟨_, _, -, -, -, q⟩ := pstore1_inv hs
  cases q
theorem pstore2_no {pc i : Nat} {ls : PL} {st : List Value} {h : PH} {f : Value → Bool} {o : PO} (hs : pstore2 pc ls st h i f = some (.inr (.inl o))) : False := by
  obtain ⟨_, _, -, -, -, q⟩ := pstore2_inv hs
  cases q
theorem paload_no {b : Bool} {pc : Nat} {ls : PL} {st : List Value} {h : PH} {o : PO} (hs : paload b pc ls st h = some (.inr (.inl o))) : False := by
  obtain ⟨_, _, _, _, _, _, -, -, -, -, q⟩ := paload_inv hs
  cases q
theorem plaload_no {pc : Nat} {ls : PL} {st : List Value} {h : PH} {o : PO} (hs : plaload pc ls st h = some (.inr (.inl o))) : False := by
  obtain ⟨_, _, _, _, _, -, -, -, q⟩ := plaload_inv hs
  cases q
theorem pqaload_no {pc : Nat} {ls : PL} {st : List Value} {h : PH} {o : PO} (hs : pqaload pc ls st h = some (.inr (.inl o))) : False := by
  obtain ⟨_, _, _, _, _, _, -, -, -, -, q⟩ := pqaload_inv hs
  cases q
theorem pastore_no {b : Bool} {pc : Nat} {ls : PL} {st : List Value} {h : PH} {o : PO} (hs : pastore b pc ls st h = some (.inr (.inl o))) : False := by
  obtain ⟨_, _, _, _, _, _, _, -, -, -, -, -, q⟩ := pastore_inv hs
  cases q
theorem plastore_no {pc : Nat} {ls : PL} {st : List Value} {h : PH} {o : PO} (hs : plastore pc ls st h = some (.inr (.inl o))) : False := by
  obtain ⟨_, _, _, _, _, _, -, -, -, -, q⟩ := plastore_inv hs
  cases q
theorem pqastore_no {pc : Nat} {ls : PL} {st : List Value} {h : PH} {r : List Nat} {o : PO} (hs : pqastore pc ls st h r = some (.inr (.inl o))) : False := by
  obtain ⟨_, _, _, _, _, _, _, -, -, -, -, -, q⟩ := pqastore_inv hs
  cases q
theorem palen_no {pc : Nat} {ls : PL} {st : List Value} {h : PH} {o : PO} (hs : palen pc ls st h = some (.inr (.inl o))) : False := by
  obtain ⟨_, _, _, _, -, -, q⟩ := palen_inv hs
  cases q
theorem pnewa_no {pc : Nat} {ls : PL} {st : List Value} {h : PH} {r : List Nat} {o : PO} (hs : pnewa pc ls st h r = some (.inr (.inl o))) : False := by
  obtain ⟨_, _, _, _, -, -, -, -, q⟩ := pnewa_inv hs
  cases q
theorem pgetf_no {pc : Nat} {ls : PL} {st : List Value} {h : PH} {r : List Nat} {o : PO} (hs : pgetf pc ls st h r = some (.inr (.inl o))) : False := by
  obtain ⟨_, _, _, _, _, _, _, _, -, -, -, -, -, q⟩ := pgetf_inv hs
  cases q
theorem pputf_no {pc : Nat} {ls : PL} {st : List Value} {h : PH} {r : List Nat} {ty : FieldType} {o : PO} (hs : pputf pc ls st h r ty = some (.inr (.inl o))) : False := by
  obtain ⟨_, _, _, _, _, _, _, -, -, -, -, -, -, -, q⟩ := pputf_inv hs
  cases q

/-- how a method ends -/
theorem pstep_out {rt : Option FieldType} {pc : Nat} {i : Instr} {len : Nat} {r : List Nat} {v : Value} {ls : PL} {st : List Value} {h : PH} {o : PO} (hs : pstep rt pc i len r v ls st h = some (.inr (.inl o))) :
    (∃ x ty, i = .ireturn ∧ st = [.int x] ∧ rt = some ty ∧ narrow ty (.int x) = .int x ∧ o = (.inl (some (.int x)), h)) ∨
    (∃ x, i = .lreturn ∧ st = [.long x] ∧ o = (.inl (some (.long x)), h)) ∨ (∃ x, i = .dreturn ∧ st = [.double x] ∧ o = (.inl (some (.double x)), h)) ∨
    (∃ x, i = .areturn ∧ st = [x] ∧ refV x = true ∧ o = (.inl (some x), h)) ∨ (i = .return_ ∧ st = [] ∧ o = (.inl none, h)) ∨
    (∃ ix k r', i = .new ix ∧ r = k :: r' ∧ 100 ≤ k ∧ psum st ≤ 8 ∧ o = (.inr (exN (k - 100)), hthr h)) := by
  have g : ∀ {a : Nat} {b : PL} {c : List Value} {d : PH}, pgo a b c d = some (.inr (.inl o)) → False := fun q => by cases q
  have n : (none : Option PN) = some (.inr (.inl o)) → False := fun q => by cases q
  cases i <;> simp only [pstep] at hs
  case ireturn =>
    split at hs
    · split at hs
      · split at hs
        · rename_i hn
          cases hs
          exact Or.inl ⟨_, _, rfl, rfl, rfl, hn, rfl⟩
        · exact (n hs).elim
      · exact (n hs).elim
    · exact (n hs).elim
  case lreturn =>
    split at hs
    · cases hs; exact Or.inr (Or.inl ⟨_, rfl, rfl, rfl⟩)
    · exact (n hs).elim
  case dreturn =>
    split at hs
    · cases hs; exact Or.inr (Or.inr (Or.inl ⟨_, rfl, rfl, rfl⟩))
    · exact (n hs).elim
  case areturn =>
    split at hs
    · split at hs
      · rename_i hv; cases hs; exact Or.inr (Or.inr (Or.inr (Or.inl ⟨_, rfl, rfl, hv, rfl⟩)))
      · exact (n hs).elim
    · exact (n hs).elim
  case return_ =>
    split at hs
    · cases hs; exact Or.inr (Or.inr (Or.inr (Or.inr (Or.inl ⟨rfl, rfl, rfl⟩))))
    · exact (n hs).elim
  case new ix =>
    unfold pnewo at hs
    split at hs
    · split at hs
      · rename_i hk
        split at hs
        · rename_i hps
          cases hs
          exact Or.inr (Or.inr (Or.inr (Or.inr (Or.inr ⟨_, _, _, rfl, rfl, hk, hps, rfl⟩))))
        · exact (n hs).elim
      · exact (g hs).elim
    · exact (n hs).elim
  case invokevirtual ix => exact (pcall_out hs).elim
  case invokestatic ix =>
    split at hs
    · obtain ⟨_, _, _, _, _, _, _, _, _, _, _, _, -, -, -, -, q⟩ := pcopy_inv hs
      exact (g q).elim
    · rcases pmath_inv hs with ⟨_, _, -, -, -, q⟩ | ⟨_, _, _, -, -, -, q⟩ | ⟨_, _, _, -, -, -, q⟩ <;> exact (g q).elim
    · exact (pcall_out hs).elim
  case invokespecial ix =>
    split at hs
    · split at hs
      · split at hs
        · exact (g hs).elim
        · exact (n hs).elim
      · exact (n hs).elim
    · exact (pcall_out (pcallI_inv hs).1).elim
  all_goals exfalso
  all_goals first
    | exact g hs
    | exact pint2_no hs
    | exact plong2_no hs
    | exact pint1_no hs
    | exact pload_no hs
    | exact pstore1_no hs
    | exact pstore2_no hs
    | exact paload_no hs
    | exact plaload_no hs
    | exact pqaload_no hs
    | exact pastore_no hs
    | exact plastore_no hs
    | exact pqastore_no hs
    | exact palen_no hs
    | exact pnewa_no hs
    | exact pgetf_no hs
    | exact n hs
    | (split at hs <;> first | exact g hs | exact n hs | (split at hs <;> first | exact g hs | exact n hs | exact pputf_no hs | (split at hs <;> first | exact g hs | exact n hs)))

section SND8
variable {p : Program} {l : Launch} {e : Env} {R : Room} {s : State} {m : MethodId} {args : Array Value} {below : List Frame} {meth : Method} {c : Code} {Q : State → Prop}
variable {D : va_G} {tys : List (ClassId × FieldType)} {S0 : Nat} {ro : List Nat} {RO : Nat → Option PC} {as0 : List Nat} {c0 s0 : Nat} {cc : ByteArray} {pc : Nat} {ls : PL} {st : List Value} {h : PH} {own : String}

set_option maxHeartbeats 4000000 in
/-- a method's end, for a caller's eyes -/
theorem snd_end {j mc ms0 : Nat} (hokM : okM j = true) (hx : p.tables.exec = Jvm.exec) (hb : c.code = (pmd j).2.1) (hflags : l.stackTraces = false) (hlocks : meth.locks = false) (hown : s.vm.findClass (mnm j).cls = some m.cls) (hts : ∀ w ∈ lwG, w.before args s = true) (hE : EN D tys S0 ro RO s) (hrt : meth.sig.returnType = mret j)
    (hout : (∀ x ∈ c.exceptionTable.toList, False) ∨ ∀ q : PI, q ∈ pks.getD j [] → ∀ ix, q.2.1 ≠ .new ix) {out : PO} (hR1 : 6 ≤ R.frames) (hR2 : 100 ≤ R.locals) (hRc : R.cells = mc) (hRs : R.slots = ms0) (hc1 : out.2.1.2.1 = c0 + mc) (hc2 : out.2.1.2.2 = s0 + ms0)
    (pc : Nat) (i : Instr) (len : Nat) (r : List Nat) (v : Value) (ls : PL) (st : List Value) (h : PH) (hf : fetch j pc = some (i, len, r, v)) (hs : pstep (mret j) pc i len r v ls st h = some (.inr (.inl out))) : Gd p l e R s m args below meth c (QE D tys S0 ro RO as0 below args s mc ms0 out) D tys S0 ro RO as0 c0 s0 pc ls st h := by
  have hok0 := hokM
  simp only [okM, Bool.and_eq_true] at hok0
  obtain ⟨⟨⟨⟨hokT, -⟩, hokO⟩, -⟩, -⟩ := hok0
  have hmem := flk_mem (show flk (pks.getD j []) pc = some (i, len, r, v) from hf)
  have hat : ∀ pc' x, flk (pks.getD j []) pc' = some x → decode (pmd j).2.1 pc' = .ok (x.1, x.2.1) := by
    intro pc' x hx'
    have := List.all_eq_true.mp hokT _ (flk_mem hx')
    simp only [okQ, Bool.and_eq_true, decide_eq_true_eq] at this
    exact this.1
  have hq0 := List.all_eq_true.mp hokT _ hmem
  simp only [okQ, Bool.and_eq_true, decide_eq_true_eq] at hq0
  obtain ⟨hdec, hokI⟩ := hq0
  have hokO2 : (pmd j).2.2.2.2.1 = (mnm j).cls := by simpa using hokO
  rw [hokO2] at hokI
  simp only [okI, Bool.and_eq_true] at hokI
  obtain ⟨hlen, hokC⟩ := hokI
  rcases pstep_out hs with ⟨x, ty, rfl, rfl, hr2, hn, rfl⟩ | ⟨x, rfl, rfl, rfl⟩ | ⟨x, rfl, rfl, rfl⟩ | ⟨x, rfl, rfl, hv, rfl⟩ | ⟨rfl, rfl, rfl⟩ | ⟨ix, k, r', rfl, rfl, hk, hps, rfl⟩
  · simp only [ilen, decide_eq_true_eq] at hlen
    subst hlen
    exact gd_iret hx hb hlocks hdec (hrt.trans hr2) hn hc1 hc2
  · simp only [ilen, decide_eq_true_eq] at hlen hokC
    subst hlen
    exact gd_lret hx hb hlocks hdec (hrt.trans hokC) hc1 hc2
  · simp only [ilen, decide_eq_true_eq] at hlen hokC
    subst hlen
    exact gd_dret hx hb hlocks hdec (hrt.trans hokC) hc1 hc2
  · simp only [ilen, decide_eq_true_eq] at hlen
    subst hlen
    simp only at hokC
    cases hz : mret j with
    | none => rw [hz] at hokC; cases hokC
    | some t =>
      rw [hz] at hokC
      refine gd_aret hx hb hlocks hdec (hrt.trans hz) ?_ hv hc1 hc2
      cases t with
      | object n => exact Or.inl ⟨n, rfl⟩
      | array t => exact Or.inr ⟨t, rfl⟩
      | _ => cases hokC
  · simp only [ilen, decide_eq_true_eq] at hlen hokC
    subst hlen
    exact gd_vret hx hb hlocks hdec (hrt.trans hokC) hc1 hc2
  · simp only [ilen, decide_eq_true_eq] at hlen
    subst hlen
    simp only at hokC
    rw [if_pos hk] at hokC
    unfold okThr at hokC
    split at hokC
    · rename_i k9 w1 w2 r9 hre
      cases hre
      simp only [Bool.and_eq_true, decide_eq_true_eq] at hokC
      obtain ⟨⟨⟨hk3, hw1⟩, hw2⟩, hokC⟩ := hokC
      split at hokC
      · rename_i f3 f4 f6 f9
        simp only [Bool.and_eq_true] at hokC
        obtain ⟨hld, hw3⟩ := hokC
        simp only [okLdc, Bool.and_eq_true, decide_eq_true_eq, List.any_eq_true] at hld
        obtain ⟨h1, ⟨o1, i1, t1, k1⟩, h2, ⟨h3, h4⟩, h5⟩ := hld
        dsimp only at h3 h4 h5
        subst h3; subst h4; subst h5
        have hex : ∀ x ∈ c.exceptionTable.toList, False := by
          rcases hout with h | h
          · exact h
          · exact absurd rfl (h _ hmem ix)
        have hX : okAtX (exN (k - 100)) = true ∧ Bundle.fit (exN (k - 100)) = true := by
          rcases (show k - 100 = 0 ∨ k - 100 = 1 ∨ k - 100 = 2 by omega) with h0 | h0 | h0 <;> rw [h0]
          · exact ⟨atX_0, by decide⟩
          · exact ⟨atX_1, by decide⟩
          · exact ⟨atX_2, by decide⟩
        have hAt := atX_ok hX.1
        simp only [hthr] at hc1 hc2
        refine gd_throw hx hb hflags hlocks hown hts hE hX.2 (wAt_in hw1) (wAt_in hw2) h2 (fun w hw => ?_) (fun w hw => ?_) hdec (hat _ _ f3) (hat _ _ f4) (hat _ _ f6) (hat _ _ f9) hex hR1 hR2 (by omega) (by omega) hps hc1 hc2
        · rcases atX_in hw with rfl | hw
          · exact Or.inl (wAt_in hw3)
          · exact (hAt w hw).2
        · rcases atX_in hw with rfl | hw
          · rfl
          · exact (hAt w hw).1
      · cases hokC
    · cases hokC
end SND8
