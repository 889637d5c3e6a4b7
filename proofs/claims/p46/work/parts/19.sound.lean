/-! EVERY METHOD: what the plain machine answers of it, the JVM answers -/
def isNew (i : Instr) : Bool := match i with
  | .new _ => true
  | _ => false
theorem noNew : (List.range 191).all (fun j => decide (mhs j = []) || (pks.getD j []).all (fun q => !isNew q.2.1)) = true := by decide +kernel
set_option maxRecDepth 100000 in
theorem fetch_big {j pc : Nat} (h : ¬ j < 191) : fetch j pc = none := by
  have hl : pks.length = 191 := rfl
  have h2 : pks.getD j [] = [] := by
    rw [List.getD_eq_getElem?_getD, List.getElem?_eq_none (by omega)]
    rfl
  unfold fetch
  rw [h2]
  rfl
section SND9
variable {p : Program} {l : Launch} {e : Env} {R : Room} {s : State} {m : MethodId} {below : List Frame} {meth : Method} {c : Code}
variable {D : va_G} {tys : List (ClassId × FieldType)} {S0 : Nat} {ro : List Nat} {RO : Nat → Option PC}
theorem snd_body {d F j : Nat} {a : List Value} {h : PH} {out : PO} (hflags : l.stackTraces = false) (hj : j < 191) (IH : ∀ (j' : Nat) (a : List Value) (h : PH) (o : PO), prun F d j' a h = some o → CtP l D tys S0 ro RO d (mnm j') (mcw j') a h o)
    {as : List Nat} {mv : List Value} (hx : p.tables.exec = Jvm.exec) (hb : c.code = (pmd j).2.1) (hlocks : meth.locks = false) (hown : s.vm.findClass (mnm j).cls = some m.cls) (hts : ∀ w ∈ lwG, w.before mv.toArray s = true) (hE : EN D tys S0 ro RO s) (hrt : meth.sig.returnType = mret j) (hnm : meth.name = (mnm j).name) (hml : c.maxLocals = mloc j)
    (htab : c.exceptionTable.toList = tableOf ((mhs j).map fun x => (x.1, x.2.1, x.2.2.1, x.2.2.2.1))) (hsr : SR as a mv) (hpw : PW D tys (A0 S0) ro RO as h s.heap) (hl : (pent (mloc j) a).length = mloc j) {n : Nat} (hr : ploop (prun F d) n j 0 (pent (mloc j) a) [] h = some out)
    (hc : h.1.2.1 ≤ out.2.1.2.1 ∧ h.1.2.2 ≤ out.2.1.2.2) : W p l e (rmD (d + 1) (out.2.1.2.1 - h.1.2.1) (out.2.1.2.2 - h.1.2.2)) s m mv.toArray below meth c s.heap [] 0 0 (QE D tys S0 ro RO as below mv.toArray s (out.2.1.2.1 - h.1.2.1) (out.2.1.2.2 - h.1.2.2) out) (entryFrame m mv.toArray (mloc j)) := by
  have hokM := okAll hj
  have hout : (∀ x ∈ c.exceptionTable.toList, False) ∨ ∀ q : PI, q ∈ pks.getD j [] → ∀ ix, q.2.1 ≠ .new ix := by
    have h1 := List.all_eq_true.mp noNew j (List.mem_range.mpr hj)
    simp only [Bool.or_eq_true, decide_eq_true_eq, List.all_eq_true] at h1
    rcases h1 with h1 | h1
    · left
      rw [htab, h1]
      intro x hx
      cases hx
    · right
      intro q hq ix he
      have := h1 q hq
      rw [he] at this
      cases this
  have K : Gd p l e (rmD (d + 1) (out.2.1.2.1 - h.1.2.1) (out.2.1.2.2 - h.1.2.2)) s m mv.toArray below meth c (QE D tys S0 ro RO as below mv.toArray s (out.2.1.2.1 - h.1.2.1) (out.2.1.2.2 - h.1.2.2) out) D tys S0 ro RO as h.1.2.1 h.1.2.2 0 (pent (mloc j) a) [] h := by
    refine snd_loop hokM IH hx hb hown hts hE (fun q => hnm.trans q) (by simp only [rmD]; omega) (by simp only [rmD]; omega) htab ?_ ?_ (by simp only [rmD]; omega) (by simp only [rmD]; omega) n 0 _ _ _ hr
    · intro pc i len r v ls st h' hf hs
      exact snd_end (mc := out.2.1.2.1 - h.1.2.1) (ms0 := out.2.1.2.2 - h.1.2.2) hokM hx hb hflags hlocks hown hts hE hrt hout (by simp only [rmD]; omega) (by simp only [rmD]; omega) rfl rfl (by omega) (by omega) pc i len r v ls st h' hf hs
    · intro E hE1 hm pc as' H locs cells slots ml ms q9 ce hp hw hS hc1 hc2 g1 g2 g3
      refine vx_out (fun x hx => ?_) hlocks g1 g2 g3 (fun t ht hv => ⟨as', hE1, hp, by rw [ht]; exact hw, hS.F ht⟩) (fun z hz => hS.2.2 z hz) (by omega) (by omega)
      rw [htab, hm] at hx
      cases hx
  rw [lg_entry_eq]
  refine K as s.heap [] 0 0 _ [] (List.prefix_refl _) hpw ?_ trivial va_S.rf rfl rfl
  rw [hml]
  exact LR_entry hsr hl
end SND9
/-- the plain machine's word holds on the JVM, for every method, every heap -/
theorem sound {l : Launch} (hflags : l.stackTraces = false) {D : va_G} {tys : List (ClassId × FieldType)} {S0 : Nat} {ro : List Nat} {RO : Nat → Option PC} : ∀ (d F j : Nat) (a : List Value) (h : PH) (o : PO), prun F d j a h = some o → CtP l D tys S0 ro RO d (mnm j) (mcw j) a h o := by
  intro d
  induction d with
  | zero => intro F j a h o hr; simp [prun] at hr
  | succ d IH =>
    intro F j a h o hr
    have hcells := prun_cells _ _ _ _ _ _ hr
    simp only [prun] at hr
    split at hr
    · rename_i hl
      have hj : j < 191 := by
        by_cases hj : j < 191
        · exact hj
        · exfalso
          cases F with
          | zero => simp [ploop] at hr
          | succ F => simp only [ploop, fetch_big hj] at hr; cases hr
      have hok0 := okAll hj
      simp only [okM, Bool.and_eq_true] at hok0
      obtain ⟨⟨⟨⟨-, hplain⟩, -⟩, -⟩, -⟩ := hok0
      refine ⟨hcells.1, hcells.2, fun as => ?_⟩
      cases hm : mhs j with
      | nil =>
        have hcw : mcw j = .code (mnm j) (pmd j).2.1 (mloc j) (mret j) := by simp only [mcw, hm, mnm]
        refine vx_ofW (ws := mcw j :: lwG) (cc := (pmd j).2.1) (maxL := mloc j) (ret := mret j) hplain (by rw [hcw]) ?_
        intro p e s m args below meth c s₁ B hml htab hv
        obtain ⟨mv, rfl, hsr, hpw, hE⟩ := hv
        have hts0 := atoms_spec (ws := mcw j :: lwG) B.pre
        exact snd_body hflags hj (fun j' a h o q => IH F j' a h o q) B.exec B.bytes B.notSynchronized (findClass_of_methodNamed B.named) (fun w hw => hts0 w (List.mem_cons_of_mem _ hw)) hE B.returns (name_of_methodNamed B.named B.method).1 hml (by rw [hm]; exact List.eq_nil_iff_forall_not_mem.mpr htab) hsr hpw hl hr hcells
      | cons q t =>
        have hcw : mcw j = .codeWith (mnm j) (pmd j).2.1 (mloc j) (mret j) ((mhs j).map fun x => (x.1, x.2.1, x.2.2.1, x.2.2.2.1)) := by simp only [mcw, hm, mnm]
        refine vx_ofWH (ws := mcw j :: lwG) (hh := (mhs j).map fun x => (x.1, x.2.1, x.2.2.1, x.2.2.2.1)) (cc := (pmd j).2.1) (maxL := mloc j) (ret := mret j) hplain (by rw [hcw]) ?_
        intro p e s m args below meth c s₁ B hml hv
        obtain ⟨mv, rfl, hsr, hpw, hE⟩ := hv
        have hts0 := atoms_spec (ws := mcw j :: lwG) B.pre
        exact snd_body hflags hj (fun j' a h o q => IH F j' a h o q) B.exec B.bytes B.notSynchronized (findClass_of_methodNamed B.named) (fun w hw => hts0 w (List.mem_cons_of_mem _ hw)) hE B.returns (name_of_methodNamed B.named B.method).1 hml (vx_table (x := mnm j) B (by rw [← hcw]; exact hts0 _ List.mem_cons_self)) hsr hpw hl hr hcells
    · cases hr
