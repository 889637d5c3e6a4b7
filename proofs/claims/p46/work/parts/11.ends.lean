
section SND4
variable {p : Program} {l : Launch} {e : Env} {R : Room} {s : State} {m : MethodId} {args : Array Value} {below : List Frame} {meth : Method} {c : Code} {Q : State → Prop}
variable {D : va_G} {tys : List (ClassId × FieldType)} {S0 : Nat} {ro : List Nat} {RO : Nat → Option PC} {as0 : List Nat} {c0 s0 : Nat} {cc : ByteArray} {pc : Nat} {ls : PL} {st : List Value} {h : PH} {own : String}

/-- what a method's end says: out is what the plain machine answers -/
def QcP (D : va_G) (tys : List (ClassId × FieldType)) (S0 : Nat) (ro : List Nat) (RO : Nat → Option PC) (as0 : List Nat) (out : PO) : Array Value → State → Outcome → State → Prop := fun _ st o t =>
  ∃ (v mv : Option Value) (as : List Nat), out.1 = .inl v ∧ o = .returned mv ∧ as0 <+: as ∧ PW D tys (A0 S0) ro RO as out.2 t.heap ∧ SR as v.toList mv.toList ∧ va_F (A0 S0) st t
def XCP (D : va_G) (tys : List (ClassId × FieldType)) (S0 : Nat) (ro : List Nat) (RO : Nat → Option PC) (as0 : List Nat) (out : PO) : String → State → State → Prop := fun E st t =>
  ∃ (as : List Nat), out.1 = .inr E ∧ as0 <+: as ∧ PW D tys (A0 S0) ro RO as out.2 t.heap ∧ va_F (A0 S0) st t
/-- a method's end, as its walk owes it -/
def QE (D : va_G) (tys : List (ClassId × FieldType)) (S0 : Nat) (ro : List Nat) (RO : Nat → Option PC) (as0 : List Nat) (below : List Frame) (args : Array Value) (s : State) (mc ms : Nat) (out : PO) : State → Prop :=
  vx_MQ below (QcP D tys S0 ro RO as0 out) (XCP D tys S0 ro RO as0 out) args s mc ms (A0 S0)
theorem gd_iret (hx : p.tables.exec = Jvm.exec) (hb : c.code = cc) (hlocks : meth.locks = false) {ty : FieldType} {mc ms0 : Nat} {x : Int32} (d : decode cc pc = .ok (.ireturn, 1)) (hr : meth.sig.returnType = some ty) (hn : narrow ty (.int x) = .int x) (hc1 : h.1.2.1 = c0 + mc) (hc2 : h.1.2.2 = s0 + ms0) : Gd p l e R s m args below meth c (QE D tys S0 ro RO as0 below args s mc ms0 (.inl (some (.int x)), h)) D tys S0 ro RO as0 c0 s0 pc ls [.int x] h := by
  intro as H locs cells slots ml ms hp hw hL hs hS hc hq
  obtain ⟨w1, u1, rfl, q1, hs1⟩ := hs.cons
  cases hs1.nil
  cases q1
  obtain rfl : cells = mc := by omega
  obtain rfl : slots = ms0 := by omega
  exact vx_ret (W.zret hx hb hr hn (fun t ht hW => ⟨some (.int x), some (.int x), as, rfl, rfl, hp, by rw [ht]; exact hw, ⟨rfl, trivial⟩, hS.F ht⟩) (fun q hq => hS.2.2 q hq) d)
theorem gd_lret (hx : p.tables.exec = Jvm.exec) (hb : c.code = cc) (hlocks : meth.locks = false) {mc ms0 : Nat} {x : Int64} (d : decode cc pc = .ok (.lreturn, 1)) (hr : meth.sig.returnType = some .long) (hc1 : h.1.2.1 = c0 + mc) (hc2 : h.1.2.2 = s0 + ms0) : Gd p l e R s m args below meth c (QE D tys S0 ro RO as0 below args s mc ms0 (.inl (some (.long x)), h)) D tys S0 ro RO as0 c0 s0 pc ls [.long x] h := by
  intro as H locs cells slots ml ms hp hw hL hs hS hc hq
  obtain ⟨w1, u1, rfl, q1, hs1⟩ := hs.cons
  cases hs1.nil
  cases q1
  obtain rfl : cells = mc := by omega
  obtain rfl : slots = ms0 := by omega
  exact vx_ret (W.lret hx hb hr (fun t ht hW => ⟨some (.long x), some (.long x), as, rfl, rfl, hp, by rw [ht]; exact hw, ⟨rfl, trivial⟩, hS.F ht⟩) (fun q hq => hS.2.2 q hq) d)
theorem gd_dret (hx : p.tables.exec = Jvm.exec) (hb : c.code = cc) (hlocks : meth.locks = false) {mc ms0 : Nat} {x : UInt64} (d : decode cc pc = .ok (.dreturn, 1)) (hr : meth.sig.returnType = some .double) (hc1 : h.1.2.1 = c0 + mc) (hc2 : h.1.2.2 = s0 + ms0) : Gd p l e R s m args below meth c (QE D tys S0 ro RO as0 below args s mc ms0 (.inl (some (.double x)), h)) D tys S0 ro RO as0 c0 s0 pc ls [.double x] h := by
  intro as H locs cells slots ml ms hp hw hL hs hS hc hq
  obtain ⟨w1, u1, rfl, q1, hs1⟩ := hs.cons
  cases hs1.nil
  cases q1
  obtain rfl : cells = mc := by omega
  obtain rfl : slots = ms0 := by omega
  exact vx_ret (W.dret hx hb hr (fun t ht hW => ⟨some (.double x), some (.double x), as, rfl, rfl, hp, by rw [ht]; exact hw, ⟨rfl, trivial⟩, hS.F ht⟩) (fun q hq => hS.2.2 q hq) d)
theorem gd_aret (hx : p.tables.exec = Jvm.exec) (hb : c.code = cc) (hlocks : meth.locks = false) {mc ms0 : Nat} {x : Value} {rt : FieldType} (d : decode cc pc = .ok (.areturn, 1)) (hr : meth.sig.returnType = some rt) (hrt : (∃ n, rt = .object n) ∨ ∃ t, rt = .array t) (hv : refV x = true) (hc1 : h.1.2.1 = c0 + mc) (hc2 : h.1.2.2 = s0 + ms0) : Gd p l e R s m args below meth c (QE D tys S0 ro RO as0 below args s mc ms0 (.inl (some x), h)) D tys S0 ro RO as0 c0 s0 pc ls [x] h := by
  intro as H locs cells slots ml ms hp hw hL hs hS hc hq
  obtain ⟨w1, u1, rfl, q1, hs1⟩ := hs.cons
  cases hs1.nil
  obtain rfl : cells = mc := by omega
  obtain rfl : slots = ms0 := by omega
  have hw1 : w1 = .null ∨ ∃ a, w1 = .ref a := by
    cases x with
    | ref k => exact q1.refs
    | null => exact Or.inl q1
    | _ => cases hv
  exact vx_ret (W.aret hx hb hr hrt hw1 (fun t ht hW => ⟨some x, some w1, as, rfl, rfl, hp, by rw [ht]; exact hw, ⟨q1, trivial⟩, hS.F ht⟩) (fun q hq => hS.2.2 q hq) d)
theorem gd_vret (hx : p.tables.exec = Jvm.exec) (hb : c.code = cc) (hlocks : meth.locks = false) {mc ms0 : Nat} (d : decode cc pc = .ok (.return_, 1)) (hr : meth.sig.returnType = none) (hc1 : h.1.2.1 = c0 + mc) (hc2 : h.1.2.2 = s0 + ms0) : Gd p l e R s m args below meth c (QE D tys S0 ro RO as0 below args s mc ms0 (.inl none, h)) D tys S0 ro RO as0 c0 s0 pc ls [] h := by
  intro as H locs cells slots ml ms hp hw hL hs hS hc hq
  cases hs.nil
  obtain rfl : cells = mc := by omega
  obtain rfl : slots = ms0 := by omega
  exact vx_ret (W.vret hx hb hr (fun t ht hW => ⟨none, none, as, rfl, rfl, hp, by rw [ht]; exact hw, trivial, hS.F ht⟩) (fun q hq => hS.2.2 q hq) d)
/-- what lies in the heap below its end is what PW speaks of -/
theorem PW.kept {A : Nat → Prop} {as : List Nat} {H H1 : Heap} (hw : PW D tys A ro RO as h H) (hk : ∀ q : Nat, q < H.size → H1[q]? = H[q]?) {c1 s1 : Nat} : PW D tys A ro RO as ((h.1.1, c1, s1), h.2) H1 := by
  obtain ⟨h1, h2, h3, h4, h5, ws, hl, hws, hP, hD⟩ := hw
  exact ⟨h1, h2, h3, h4, h5, ws, hl, hws, hP.kept (fun k q hq => hk q.1 (hP k q hq).lt), hD⟩
/-- throw new X(text) -/
theorem gd_throw (hx : p.tables.exec = Jvm.exec) (hb : c.code = cc) (hflags : l.stackTraces = false) (hlocks : meth.locks = false) (hown : s.vm.findClass own = some m.cls) (hts : ∀ w ∈ lwG, w.before args s = true) (hE : EN D tys S0 ro RO s)
    {cls text : String} {ik is ic k mc ms0 : Nat} (hcls : Bundle.fit cls = true) (hl1 : Jvm.Cond.classLink own ik cls ∈ lwG) (hl2 : Jvm.Cond.initialized cls ∈ lwG) (hm : (own, is, text, k) ∈ STR)
    (hat : ∀ w ∈ vx_atS own ic cls ["java/lang/RuntimeException", "java/lang/Exception"], w ∈ lwG ∨ w ∈ lwB) (hgd : ∀ w ∈ vx_atS own ic cls ["java/lang/RuntimeException", "java/lang/Exception"], vx_ot w = true)
    (d0 : decode cc pc = .ok (.new ik, 3)) (d3 : decode cc (pc + 3) = .ok (.dup, 1)) (d4 : decode cc (pc + 4) = .ok (.ldc is, 2)) (d6 : decode cc (pc + 6) = .ok (.invokespecial ic, 3)) (d9 : decode cc (pc + 9) = .ok (.athrow, 1)) (hout : ∀ x ∈ c.exceptionTable.toList, False)
    (hR1 : 6 ≤ R.frames) (hR2 : 100 ≤ R.locals) (hR3 : h.1.2.1 + 1 ≤ c0 + R.cells) (hR4 : h.1.2.2 + 6 ≤ s0 + R.slots) (hst : psum st ≤ 8) (hc1 : (hthr h).1.2.1 = c0 + mc) (hc2 : (hthr h).1.2.2 = s0 + ms0) :
    Gd p l e R s m args below meth c (QE D tys S0 ro RO as0 below args s mc ms0 (.inr cls, hthr h)) D tys S0 ro RO as0 c0 s0 pc ls st h := by
  intro as H locs cells slots ml ms hp hw hL hs hS hc hq
  obtain ⟨sa, hsa, hZ⟩ := hE.2.2.2.2.2.2.1 _ hm
  have hsum := hs.sum
  simp only [hthr] at hc1 hc2
  have hw2 : ∀ w ∈ vx_atS own ic cls ["java/lang/RuntimeException", "java/lang/Exception"], w.before args s = true := by
    intro w hw1
    rcases hat w hw1 with h1 | h1
    · exact hts w h1
    · have h2 := hE.nw w h1
      have h3 := (List.mem_filter.mp h1).2
      cases w with
      | fieldLinkNest => exact va_Nw.use rfl h2
      | methodLinkNest => exact va_Nw.use rfl h2
      | castable => exact va_Nw.use rfl h2
      | declares => exact va_Nw.use rfl h2
      | arrayOver t =>
        cases t with
        | object C => exact va_AO.use (show va_AO C s from h2)
        | array t => exact aoA_moved (Vm.Alike.refl _) h2
        | _ => simp [isNw] at h3
      | _ => simp [isNw] at h3
  refine vx_throwS hx hb hflags hown hcls (by decide) (hts _ hl1) (hts _ hl2) hZ hw2 ?_ hE.2.2.2.2.2.2.2.1 hE.2.2.2.2.2.2.2.2.1 hS hL.1.1 d0 d3 d4 d6 d9 (fun x hx => (hout x hx).elim) (by simp only [List.length_cons, List.length_nil]; omega) (by rw [hsum]; simp only [List.length_cons, List.length_nil]; omega) (by omega) (by omega) hlocks (fun t hv hz hk => ?_) (fun z hz => hS.2.2 z hz) (by omega) (by omega)
  · intro w hw1
    rcases List.mem_cons.mp hw1 with rfl | hw1
    · rfl
    rcases List.mem_cons.mp hw1 with rfl | hw1
    · rfl
    · exact hgd w hw1
  · refine ⟨as, rfl, hp, hw.kept hk, Nat.le_trans hS.1 hz, fun q h1 h2 => ?_⟩
    rw [hk q (Nat.lt_of_lt_of_le h1 hS.1)]
    exact hS.2.1 q h1 h2
end SND4
