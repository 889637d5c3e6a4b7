
section SND5
variable {p : Program} {l : Launch} {e : Env} {R : Room} {s : State} {m : MethodId} {args : Array Value} {below : List Frame} {meth : Method} {c : Code} {Q : State → Prop}
variable {D : va_G} {tys : List (ClassId × FieldType)} {S0 : Nat} {ro : List Nat} {RO : Nat → Option PC} {as0 : List Nat} {c0 s0 : Nat} {cc : ByteArray} {pc : Nat} {ls : PL} {st : List Value} {h : PH} {own : String}

def PcP (D : va_G) (tys : List (ClassId × FieldType)) (S0 : Nat) (ro : List Nat) (RO : Nat → Option PC) (as : List Nat) (h : PH) (a : List Value) : Array Value → State → Prop := fun v U =>
  ∃ mv : List Value, v = mv.toArray ∧ SR as a mv ∧ PW D tys (A0 S0) ro RO as h U.heap ∧ EN D tys S0 ro RO U
def rmD (d mc ms : Nat) : Room := { frames := d + 6, cells := mc, slots := ms, locals := 60 * d + 200 }
/-- a method does on the JVM what the plain machine says of it -/
def CtP (l : Launch) (D : va_G) (tys : List (ClassId × FieldType)) (S0 : Nat) (ro : List Nat) (RO : Nat → Option PC) (d : Nat) (y : MethodName) (cw : Jvm.Cond) (a : List Value) (h : PH) (out : PO) : Prop :=
  h.1.2.1 ≤ out.2.1.2.1 ∧ h.1.2.2 ≤ out.2.1.2.2 ∧ ∀ as : List Nat, vx_Met l y (cw :: lwG) (rmD d (out.2.1.2.1 - h.1.2.1) (out.2.1.2.2 - h.1.2.2)) (PcP D tys S0 ro RO as h a) (QcP D tys S0 ro RO as out) (XCP D tys S0 ro RO as out) (out.2.1.2.1 - h.1.2.1) (out.2.1.2.2 - h.1.2.2) (A0 S0)
theorem met_of {l : Launch} {y : MethodName} {ws : List Jvm.Cond} {rm : Room} {Pc : Array Value → State → Prop} {as : List Nat} {out : PO} {mc ms : Nat} {free : Addr → Prop} {v : Option Value} (ho : out.1 = .inl v) (hM : vx_Met l y ws rm Pc (QcP D tys S0 ro RO as out) (XCP D tys S0 ro RO as out) mc ms free) : Met l y ws rm Pc (QcP D tys S0 ro RO as out) mc ms free := by
  intro p e ha hc hk s m args below hf happ hp hK
  obtain ⟨n, o, h1, h2, h3, h4⟩ := hM p e ha hc hk s m args below hf happ hp hK
  rcases h4 with h4 | ⟨q, rfl, E, ce, L, ⟨as', hx, -⟩, -⟩
  · exact ⟨n, o, h1, h2, h3, h4⟩
  · rw [ho] at hx; cases hx
theorem PcP.blind {as : List Nat} {a : List Value} : FrameBlind (PcP D tys S0 ro RO as h a) := by
  rintro v U g mk ⟨mv, rfl, h1, h2, h3⟩
  exact ⟨mv, rfl, h1, h2, h3.calling g mk _⟩
theorem PcP.at {as : List Nat} {a mv : List Value} {H : Heap} {locs : List Loc} (hE : EN D tys S0 ro RO s) (hS : va_S (A0 S0) s.heap H locs) (hw : PW D tys (A0 S0) ro RO as h H) (ha : SR as a mv) {U : State} (hU : U.heap = H) (hW : s.WarmedH U.vm) : PcP D tys S0 ro RO as h a mv.toArray U :=
  ⟨mv, rfl, ha, by rw [hU]; exact hw, hE.move hW (by rw [hU]; exact hS.1) (fun q h1 h2 => by rw [hU]; exact hS.2.1 q h1 h2)⟩
theorem SR.split {as : List Nat} : ∀ {a b ms : List Value}, SR as (a ++ b) ms → ∃ u w, ms = u ++ w ∧ SR as a u ∧ SR as b w
  | [], b, ms, h => ⟨[], ms, rfl, trivial, h⟩
  | v :: t, b, ms, h => by
    obtain ⟨w1, u1, rfl, q1, hs1⟩ := SR.cons (t := t ++ b) h
    obtain ⟨u, w, rfl, h1, h2⟩ := SR.split hs1
    exact ⟨w1 :: u, w, rfl, ⟨q1, h1⟩, h2⟩
/-- behind a call that returns -/
theorem W_runN {as : List Nat} {out : PO} {H : Heap} {locs : List Loc} {cells slots mc ms : Nat} {ml : Array Slot} {st0 rest : List Value} {a : Array Value} (hr : va_Run p l e R s m args below meth c H locs cells slots mc ms (F0 m pc ml st0) rest (QcP D tys S0 ro RO as out a) (A0 S0)) (hS : va_S (A0 S0) s.heap H locs)
    (kk : ∀ (v mv : Option Value) (as' : List Nat) (H1 : Heap) (locs1 : List Loc), out.1 = .inl v → as <+: as' → PW D tys (A0 S0) ro RO as' out.2 H1 → SR as' v.toList mv.toList → va_S (A0 S0) s.heap H1 locs1 → W p l e R s m args below meth c H1 locs1 (cells + mc) (slots + ms) Q (F0 m (pc + 3) ml (mv.toList ++ rest))) : W p l e R s m args below meth c H locs cells slots Q (F0 m pc ml st0) := by
  intro T hT X
  obtain ⟨v, st₀, t, T', L, h0, X', hL, e1, e2, ⟨v1, mv, as', q1, q2, q3, q4, q5, q6⟩, st⟩ := hr T hT X
  cases q2
  obtain ⟨-, -, hS1⟩ := vx_keep h0 e1 hS (fun q _ h => h) (fun q h => h) hL q6
  obtain ⟨t2, a1, b1⟩ := kk v1 v as' T'.heap (locs ++ L) q1 q3 (by rw [e1]; exact q4) q5 hS1 T' rfl X'
  exact ⟨t2, st t2 a1, b1⟩
theorem pay_lwG {y : MethodName} {cw : Jvm.Cond} (hts : ∀ w ∈ lwG, w.before args s = true) (hcw : cw ∈ lwG) : ∀ w ∈ cw :: lwG, ∀ (a' : Array Value) (U : State), s.WarmedH U.vm → w.before a' U = true := by
  intro w hw a' U hW
  have hw : w ∈ lwG := by
    rcases List.mem_cons.mp hw with rfl | hw
    · exact hcw
    · exact hw
  exact word_at hW (lwG_good w hw) (hts w hw)
section CALLS
variable {y : MethodName} {bytes : ByteArray} {maxL n d ix : Nat} {ret : Option FieldType} {a : List Value} {out : PO} {v : Option Value}
/-- a call of a static method that returns -/
theorem gd_callS (hx : p.tables.exec = Jvm.exec) (hb : c.code = cc) (hown : s.vm.findClass own = some m.cls) (hts : ∀ w ∈ lwG, w.before args s = true) (hE : EN D tys S0 ro RO s) (dec : decode cc pc = .ok (.invokestatic ix, 3)) (hl : Jvm.Cond.methodLink own ix y ∈ lwG ∨ ∃ host, Jvm.Cond.methodLinkNest own ix y host ∈ lwB) (hst : Jvm.Cond.static y ∈ lwG) (hini : Jvm.Cond.initialized y.cls ∈ lwG)
    (hcw : Jvm.Cond.code y bytes maxL ret ∈ lwG) (hnm : y.cls ≠ "java/lang/invoke/MethodHandle" ∧ y.cls ≠ "java/lang/invoke/VarHandle" ∧ (parseMethodDescriptor y.desc).map (fun d => d.parameters.length) = some n)
    (hC : CtP l D tys S0 ro RO d y (.code y bytes maxL ret) a h out) (ho : out.1 = .inl v) (hR1 : d + 7 ≤ R.frames) (hR2 : 60 * d + 260 ≤ R.locals) (hmx : maxL ≤ 41) (hps : psum st ≤ 8) (hn : a.length = n) (hr1 : out.2.1.2.1 ≤ c0 + R.cells) (hr2 : out.2.1.2.2 ≤ s0 + R.slots)
    (K : Gd p l e R s m args below meth c Q D tys S0 ro RO as0 c0 s0 (pc + 3) (ls) (v.toList ++ st) (out.2)) : Gd p l e R s m args below meth c Q D tys S0 ro RO as0 c0 s0 (pc) (ls) (a.reverse ++ st) (h) := by
  intro as H locs cells slots ml ms hp hw hL hs hS hc hq
  obtain ⟨mr, mst, rfl, hs1, hs2⟩ := SR.split hs
  have ha : SR as a mr.reverse := by
    have := hs1.rev
    rwa [List.reverse_reverse] at this
  obtain ⟨hC1, hC2, hC3⟩ := hC
  have hsum := hs2.sum
  have hlen : mr.reverse.length = n := by rw [ha.len]; exact hn
  have hcb : (rmD d (out.2.1.2.1 - h.1.2.1) (out.2.1.2.2 - h.1.2.2)).frames + 1 ≤ R.frames ∧ 8 + (maxL + 11) + (rmD d (out.2.1.2.1 - h.1.2.1) (out.2.1.2.2 - h.1.2.2)).locals ≤ R.locals := by
    simp only [rmD]
    omega
  have key : va_Run p l e R s m args below meth c H locs cells slots (out.2.1.2.1 - h.1.2.1) (out.2.1.2.2 - h.1.2.2) (F0 m pc ml (mr ++ mst)) mst (QcP D tys S0 ro RO as out mr.reverse.toArray) (A0 S0) := by
    rcases hl with hl | ⟨host, hl⟩
    · exact va_runS (As := mr.reverse) (Ts := lwG) (own := own) (y := y) (bytes := bytes) (maxL := maxL) (ret := ret) (index := ix) ⟨hx, hb, rfl, hown, hts⟩ (met_of ho (hC3 as)) ⟨⟨rfl, rfl, hcb.1, hcb.2, pay_lwG (y := y) hts hcw, List.mem_cons_self, hts _ hcw, hts _ hini, ⟨hnm.1, hnm.2.1⟩, fun sig hsg => by
        have h2 := hnm.2.2
        rw [hsg] at h2
        exact (Option.some.inj h2).symm, hts _ hl⟩, hts _ hst⟩ ⟨PcP.blind, fun U hU hW => PcP.at hE hS hw ha hU hW⟩ rfl hlen hL.1.1 (by rw [List.reverse_reverse]) (lv_room (by rw [hsum]; exact hps)) dec ⟨by omega, by omega⟩
    · exact va_runSN (As := mr.reverse) (Ts := lwG) (own := own) (host := host) (y := y) (bytes := bytes) (maxL := maxL) (ret := ret) (index := ix) ⟨hx, hb, rfl, hown, hts⟩ (met_of ho (hC3 as)) ⟨⟨⟨rfl, rfl, hcb.1, hcb.2, pay_lwG (y := y) hts hcw, List.mem_cons_self⟩, hts _ hcw, hts _ hini, ⟨hnm.1, hnm.2.1⟩, fun sig hsg => by
        have h2 := hnm.2.2
        rw [hsg] at h2
        exact (Option.some.inj h2).symm, va_Nw.use rfl (hE.nw _ hl)⟩, hts _ hst, trivial⟩ ⟨PcP.blind, fun U hU hW => PcP.at hE hS hw ha hU hW⟩ rfl hlen hL.1.1 (by rw [List.reverse_reverse]) (lv_room (by rw [hsum]; exact hps)) dec ⟨by omega, by omega⟩
  refine W_runN key hS (fun v1 mv as' H1 locs1 e1 hp1 hw1 hv1 hS1 => ?_)
  rw [ho] at e1
  cases e1
  exact K as' H1 locs1 _ _ ml _ (List.IsPrefix.trans hp hp1) hw1 (hL.mono hp1) (SR.app hv1 (hs2.mono hp1)) hS1 (by omega) (by omega)
/-- the law's helpers, which have tables of their own -/
theorem gd_callSW (hx : p.tables.exec = Jvm.exec) (hb : c.code = cc) (hown : s.vm.findClass own = some m.cls) (hts : ∀ w ∈ lwG, w.before args s = true) (hE : EN D tys S0 ro RO s) {hh : List (Nat × Nat × Nat × Nat)} (dec : decode cc pc = .ok (.invokestatic ix, 3)) (hl : Jvm.Cond.methodLink own ix y ∈ lwG) (hst : Jvm.Cond.static y ∈ lwG) (hini : Jvm.Cond.initialized y.cls ∈ lwG)
    (hcw : Jvm.Cond.codeWith y bytes maxL ret hh ∈ lwG) (hnm : y.cls ≠ "java/lang/invoke/MethodHandle" ∧ y.cls ≠ "java/lang/invoke/VarHandle" ∧ (parseMethodDescriptor y.desc).map (fun d => d.parameters.length) = some n)
    (hC : CtP l D tys S0 ro RO d y (.codeWith y bytes maxL ret hh) a h out) (ho : out.1 = .inl v) (hR1 : d + 7 ≤ R.frames) (hR2 : 60 * d + 260 ≤ R.locals) (hmx : maxL ≤ 41) (hps : psum st ≤ 8) (hn : a.length = n) (hr1 : out.2.1.2.1 ≤ c0 + R.cells) (hr2 : out.2.1.2.2 ≤ s0 + R.slots)
    (K : Gd p l e R s m args below meth c Q D tys S0 ro RO as0 c0 s0 (pc + 3) (ls) (v.toList ++ st) (out.2)) : Gd p l e R s m args below meth c Q D tys S0 ro RO as0 c0 s0 (pc) (ls) (a.reverse ++ st) (h) := by
  intro as H locs cells slots ml ms hp hw hL hs hS hc hq
  obtain ⟨mr, mst, rfl, hs1, hs2⟩ := SR.split hs
  have ha : SR as a mr.reverse := by
    have := hs1.rev
    rwa [List.reverse_reverse] at this
  obtain ⟨hC1, hC2, hC3⟩ := hC
  have hsum := hs2.sum
  have hlen : mr.reverse.length = n := by rw [ha.len]; exact hn
  have hcb : (rmD d (out.2.1.2.1 - h.1.2.1) (out.2.1.2.2 - h.1.2.2)).frames + 1 ≤ R.frames ∧ 8 + (maxL + 11) + (rmD d (out.2.1.2.1 - h.1.2.1) (out.2.1.2.2 - h.1.2.2)).locals ≤ R.locals := by
    simp only [rmD]
    omega
  have key : va_Run p l e R s m args below meth c H locs cells slots (out.2.1.2.1 - h.1.2.1) (out.2.1.2.2 - h.1.2.2) (F0 m pc ml (mr ++ mst)) mst (QcP D tys S0 ro RO as out mr.reverse.toArray) (A0 S0) := by
    exact vx_runSW (As := mr.reverse) (Ts := lwG) (own := own) (y := y) (bytes := bytes) (maxL := maxL) (ret := ret) (hh := hh) (index := ix) ⟨hx, hb, rfl, hown, hts⟩ (met_of ho (hC3 as)) ⟨⟨rfl, rfl, hcb.1, hcb.2, pay_lwG (y := y) hts hcw, List.mem_cons_self⟩, hts _ hcw, hts _ hini, ⟨hnm.1, hnm.2.1⟩, fun sig hsg => by
        have h2 := hnm.2.2
        rw [hsg] at h2
        exact (Option.some.inj h2).symm, hts _ hl, hts _ hst⟩ ⟨PcP.blind, fun U hU hW => PcP.at hE hS hw ha hU hW⟩ rfl hlen hL.1.1 (by rw [List.reverse_reverse]) (lv_room (by rw [hsum]; exact hps)) dec ⟨by omega, by omega⟩
  refine W_runN key hS (fun v1 mv as' H1 locs1 e1 hp1 hw1 hv1 hS1 => ?_)
  rw [ho] at e1
  cases e1
  exact K as' H1 locs1 _ _ ml _ (List.IsPrefix.trans hp hp1) hw1 (hL.mono hp1) (SR.app hv1 (hs2.mono hp1)) hS1 (by omega) (by omega)
/-- a constructor -/
theorem gd_callI (hx : p.tables.exec = Jvm.exec) (hb : c.code = cc) (hown : s.vm.findClass own = some m.cls) (hts : ∀ w ∈ lwG, w.before args s = true) (hE : EN D tys S0 ro RO s) {k : Nat} (hk : k ≠ 201) (dec : decode cc pc = .ok (.invokespecial ix, 3)) (hl : Jvm.Cond.methodLink own ix y ∈ lwG ∨ ∃ host, Jvm.Cond.methodLinkNest own ix y host ∈ lwB) (hin : Jvm.Cond.instanceMethod y ∈ lwG) (hini : Jvm.Cond.initialized y.cls ∈ lwG)
    (hcw : Jvm.Cond.code y bytes maxL none ∈ lwG) (hy1 : y.name = "<init>") (hnm : y.cls ≠ "java/lang/invoke/MethodHandle" ∧ y.cls ≠ "java/lang/invoke/VarHandle" ∧ (parseMethodDescriptor y.desc).map (fun d => d.parameters.length) = some n)
    (hC : CtP l D tys S0 ro RO d y (.code y bytes maxL none) (.ref k :: a) h out) (ho : out.1 = .inl v) (hR1 : d + 7 ≤ R.frames) (hR2 : 60 * d + 260 ≤ R.locals) (hmx : maxL ≤ 41) (hps : psum st ≤ 8) (hn : a.length = n) (hr1 : out.2.1.2.1 ≤ c0 + R.cells) (hr2 : out.2.1.2.2 ≤ s0 + R.slots)
    (K : Gd p l e R s m args below meth c Q D tys S0 ro RO as0 c0 s0 (pc + 3) (ls) (v.toList ++ st) (out.2)) : Gd p l e R s m args below meth c Q D tys S0 ro RO as0 c0 s0 (pc) (ls) ((.ref k :: a).reverse ++ st) (h) := by
  intro as H locs cells slots ml ms hp hw hL hs hS hc hq
  obtain ⟨mr, mst, rfl, hs1, hs2⟩ := SR.split hs
  have ha : SR as (.ref k :: a) mr.reverse := by
    have := hs1.rev
    rwa [List.reverse_reverse] at this
  obtain ⟨w0, u0, hmr, q0, ha2⟩ := ha.cons
  obtain ⟨z, rfl⟩ := q0.isRef hk
  have hmr2 : mr = u0.reverse ++ [.ref z] := by
    have := congrArg List.reverse hmr
    rw [List.reverse_reverse, List.reverse_cons] at this
    exact this
  subst hmr2
  obtain ⟨hC1, hC2, hC3⟩ := hC
  have hsum := hs2.sum
  have hlen : u0.length = n := by rw [ha2.len]; exact hn
  have hcb : (rmD d (out.2.1.2.1 - h.1.2.1) (out.2.1.2.2 - h.1.2.2)).frames + 1 ≤ R.frames ∧ 8 + (maxL + 11) + (rmD d (out.2.1.2.1 - h.1.2.1) (out.2.1.2.2 - h.1.2.2)).locals ≤ R.locals := by
    simp only [rmD]
    omega
  have key : va_Run p l e R s m args below meth c H locs cells slots (out.2.1.2.1 - h.1.2.1) (out.2.1.2.2 - h.1.2.2) (F0 m pc ml ((u0.reverse ++ [.ref z]) ++ mst)) mst (QcP D tys S0 ro RO as out (Value.ref z :: u0).toArray) (A0 S0) := by
    rcases hl with hl | ⟨host, hl⟩
    · exact va_runI (As := u0) (Ts := lwG) (own := own) (y := y) (bytes := bytes) (maxL := maxL) (index := ix) ⟨hx, hb, rfl, hown, hts⟩ (met_of ho (hC3 as)) ⟨⟨rfl, rfl, hcb.1, hcb.2, pay_lwG (y := y) hts hcw, List.mem_cons_self, hts _ hcw, hts _ hini, ⟨hnm.1, hnm.2.1⟩, fun sig hsg => by
        have h2 := hnm.2.2
        rw [hsg] at h2
        exact (Option.some.inj h2).symm, hts _ hl⟩, hy1, hts _ hin⟩ ⟨PcP.blind, fun U hU hW => PcP.at hE hS hw (show SR as (.ref k :: a) (.ref z :: u0) from ⟨q0, ha2⟩) hU hW⟩ rfl hlen hL.1.1 (by simp) (lv_room (by rw [hsum]; exact hps)) dec ⟨by omega, by omega⟩
    · exact va_runIN (As := u0) (Ts := lwG) (own := own) (host := host) (y := y) (bytes := bytes) (maxL := maxL) (index := ix) ⟨hx, hb, rfl, hown, hts⟩ (met_of ho (hC3 as)) ⟨⟨⟨rfl, rfl, hcb.1, hcb.2, pay_lwG (y := y) hts hcw, List.mem_cons_self⟩, hts _ hcw, hts _ hini, ⟨hnm.1, hnm.2.1⟩, fun sig hsg => by
        have h2 := hnm.2.2
        rw [hsg] at h2
        exact (Option.some.inj h2).symm, va_Nw.use rfl (hE.nw _ hl)⟩, hy1, hts _ hin⟩ ⟨PcP.blind, fun U hU hW => PcP.at hE hS hw (show SR as (.ref k :: a) (.ref z :: u0) from ⟨q0, ha2⟩) hU hW⟩ rfl hlen hL.1.1 (by simp) (lv_room (by rw [hsum]; exact hps)) dec ⟨by omega, by omega⟩
  refine W_runN key hS (fun v1 mv as' H1 locs1 e1 hp1 hw1 hv1 hS1 => ?_)
  rw [ho] at e1
  cases e1
  exact K as' H1 locs1 _ _ ml _ (List.IsPrefix.trans hp hp1) hw1 (hL.mono hp1) (SR.app hv1 (hs2.mono hp1)) hS1 (by omega) (by omega)
/-- a call of an object's method that returns -/
theorem gd_callV (hx : p.tables.exec = Jvm.exec) (hb : c.code = cc) (hown : s.vm.findClass own = some m.cls) (hts : ∀ w ∈ lwG, w.before args s = true) (hE : EN D tys S0 ro RO s) {k ci : Nat} {fs : List Value} (dec : decode cc pc = .ok (.invokevirtual ix, 3)) (hl : Jvm.Cond.methodLink own ix y ∈ lwG) (hin : Jvm.Cond.instanceMethod y ∈ lwG) (hini : Jvm.Cond.initialized y.cls ∈ lwG)
    (hse : Jvm.Cond.selects (clN ci) y y ∈ lwG) (hob : h.2 k = some (.inr (ci, fs)))
    (hcw : Jvm.Cond.code y bytes maxL ret ∈ lwG) (hnm : y.cls ≠ "java/lang/invoke/MethodHandle" ∧ y.cls ≠ "java/lang/invoke/VarHandle" ∧ (parseMethodDescriptor y.desc).map (fun d => d.parameters.length) = some n)
    (hC : CtP l D tys S0 ro RO d y (.code y bytes maxL ret) (.ref k :: a) h out) (ho : out.1 = .inl v) (hR1 : d + 7 ≤ R.frames) (hR2 : 60 * d + 260 ≤ R.locals) (hmx : maxL ≤ 41) (hps : psum st ≤ 8) (hn : a.length = n) (hr1 : out.2.1.2.1 ≤ c0 + R.cells) (hr2 : out.2.1.2.2 ≤ s0 + R.slots)
    (K : Gd p l e R s m args below meth c Q D tys S0 ro RO as0 c0 s0 (pc + 3) (ls) (v.toList ++ st) (out.2)) : Gd p l e R s m args below meth c Q D tys S0 ro RO as0 c0 s0 (pc) (ls) ((.ref k :: a).reverse ++ st) (h) := by
  intro as H locs cells slots ml ms hp hw hL hs hS hc hq
  obtain ⟨mr, mst, rfl, hs1, hs2⟩ := SR.split hs
  have ha : SR as (.ref k :: a) mr.reverse := by
    have := hs1.rev
    rwa [List.reverse_reverse] at this
  obtain ⟨w0, u0, hmr, q0, ha2⟩ := ha.cons
  obtain ⟨z, cellB, rfl, k1, k2, k3⟩ := recvP hE hw hS hob q0
  have hmr2 : mr = u0.reverse ++ [.ref z] := by
    have := congrArg List.reverse hmr
    rw [List.reverse_reverse, List.reverse_cons] at this
    exact this
  subst hmr2
  obtain ⟨hC1, hC2, hC3⟩ := hC
  have hsum := hs2.sum
  have hlen : u0.length = n := by rw [ha2.len]; exact hn
  have hcb : (rmD d (out.2.1.2.1 - h.1.2.1) (out.2.1.2.2 - h.1.2.2)).frames + 1 ≤ R.frames ∧ 8 + (maxL + 11) + (rmD d (out.2.1.2.1 - h.1.2.1) (out.2.1.2.2 - h.1.2.2)).locals ≤ R.locals := by
    simp only [rmD]
    omega
  have key : va_Run p l e R s m args below meth c H locs cells slots (out.2.1.2.1 - h.1.2.1) (out.2.1.2.2 - h.1.2.2) (F0 m pc ml ((u0.reverse ++ [.ref z]) ++ mst)) mst (QcP D tys S0 ro RO as out (Value.ref z :: u0).toArray) (A0 S0) := by
    exact va_runV (As := u0) (Ts := lwG) (own := own) (C := clN ci) (y := y) (bytes := bytes) (maxL := maxL) (ret := ret) (index := ix) ⟨hx, hb, rfl, hown, hts⟩ (met_of ho (hC3 as)) ⟨⟨rfl, rfl, hcb.1, hcb.2, pay_lwG (y := y) hts hcw, List.mem_cons_self, hts _ hcw, hts _ hini, ⟨hnm.1, hnm.2.1⟩, fun sig hsg => by
        have h2 := hnm.2.2
        rw [hsg] at h2
        exact (Option.some.inj h2).symm, hts _ hl⟩, hts _ hin, hts _ hse⟩ ⟨PcP.blind, ⟨cellB, k1, k2, k3⟩, fun U hU hW => PcP.at hE hS hw (show SR as (.ref k :: a) (.ref z :: u0) from ⟨q0, ha2⟩) hU hW⟩ rfl hlen hL.1.1 (by simp) (lv_room (by rw [hsum]; exact hps)) dec ⟨by omega, by omega⟩
  refine W_runN key hS (fun v1 mv as' H1 locs1 e1 hp1 hw1 hv1 hS1 => ?_)
  rw [ho] at e1
  cases e1
  exact K as' H1 locs1 _ _ ml _ (List.IsPrefix.trans hp hp1) hw1 (hL.mono hp1) (SR.app hv1 (hs2.mono hp1)) hS1 (by omega) (by omega)
/-- a call of a method of the class above that returns; xx: as it is named there -/
theorem gd_callU (hx : p.tables.exec = Jvm.exec) (hb : c.code = cc) (hown : s.vm.findClass own = some m.cls) (hts : ∀ w ∈ lwG, w.before args s = true) (hE : EN D tys S0 ro RO s) {xx : MethodName} {b0 : ByteArray} {m0 : Nat} {r0 : Option FieldType} {k ci : Nat} {fs : List Value} (dec : decode cc pc = .ok (.invokevirtual ix, 3)) (hl : Jvm.Cond.methodLink own ix xx ∈ lwG) (hsm : Jvm.Cond.sameMethod xx.cls xx.cls xx.name xx.desc ∈ lwG) (hinx : Jvm.Cond.instanceMethod xx ∈ lwG) (hcx : Jvm.Cond.code xx b0 m0 r0 ∈ lwG) (hnx : xx.cls ≠ "java/lang/invoke/MethodHandle" ∧ xx.cls ≠ "java/lang/invoke/VarHandle" ∧ (parseMethodDescriptor xx.desc).map (fun d => d.parameters.length) = some n) (hin : Jvm.Cond.instanceMethod y ∈ lwG) (hini : Jvm.Cond.initialized y.cls ∈ lwG)
    (hse : Jvm.Cond.selects (clN ci) xx y ∈ lwG) (hob : h.2 k = some (.inr (ci, fs)))
    (hcw : Jvm.Cond.code y bytes maxL ret ∈ lwG) (hnm : y.cls ≠ "java/lang/invoke/MethodHandle" ∧ y.cls ≠ "java/lang/invoke/VarHandle" ∧ (parseMethodDescriptor y.desc).map (fun d => d.parameters.length) = some n)
    (hC : CtP l D tys S0 ro RO d y (.code y bytes maxL ret) (.ref k :: a) h out) (ho : out.1 = .inl v) (hR1 : d + 7 ≤ R.frames) (hR2 : 60 * d + 260 ≤ R.locals) (hmx : maxL ≤ 41) (hps : psum st ≤ 8) (hn : a.length = n) (hr1 : out.2.1.2.1 ≤ c0 + R.cells) (hr2 : out.2.1.2.2 ≤ s0 + R.slots)
    (K : Gd p l e R s m args below meth c Q D tys S0 ro RO as0 c0 s0 (pc + 3) (ls) (v.toList ++ st) (out.2)) : Gd p l e R s m args below meth c Q D tys S0 ro RO as0 c0 s0 (pc) (ls) ((.ref k :: a).reverse ++ st) (h) := by
  intro as H locs cells slots ml ms hp hw hL hs hS hc hq
  obtain ⟨mr, mst, rfl, hs1, hs2⟩ := SR.split hs
  have ha : SR as (.ref k :: a) mr.reverse := by
    have := hs1.rev
    rwa [List.reverse_reverse] at this
  obtain ⟨w0, u0, hmr, q0, ha2⟩ := ha.cons
  obtain ⟨z, cellB, rfl, k1, k2, k3⟩ := recvP hE hw hS hob q0
  have hmr2 : mr = u0.reverse ++ [.ref z] := by
    have := congrArg List.reverse hmr
    rw [List.reverse_reverse, List.reverse_cons] at this
    exact this
  subst hmr2
  obtain ⟨hC1, hC2, hC3⟩ := hC
  have hsum := hs2.sum
  have hlen : u0.length = n := by rw [ha2.len]; exact hn
  have hcb : (rmD d (out.2.1.2.1 - h.1.2.1) (out.2.1.2.2 - h.1.2.2)).frames + 1 ≤ R.frames ∧ 8 + (maxL + 11) + (rmD d (out.2.1.2.1 - h.1.2.1) (out.2.1.2.2 - h.1.2.2)).locals ≤ R.locals := by
    simp only [rmD]
    omega
  have key : va_Run p l e R s m args below meth c H locs cells slots (out.2.1.2.1 - h.1.2.1) (out.2.1.2.2 - h.1.2.2) (F0 m pc ml ((u0.reverse ++ [.ref z]) ++ mst)) mst (QcP D tys S0 ro RO as out (Value.ref z :: u0).toArray) (A0 S0) := by
    exact va_runU (As := u0) (Ts := lwG) (own := own) (C := clN ci) (owner := xx.cls) (x := xx) (y := y) (bytes := bytes) (maxL := maxL) (ret := ret) (index := ix) ⟨hx, hb, rfl, hown, hts⟩ (met_of ho (hC3 as)) ⟨⟨rfl, rfl, hcb.1, hcb.2, pay_lwG (y := y) hts hcw, List.mem_cons_self⟩, hts _ hcw, hts _ hini, ⟨hnx.1, hnx.2.1⟩, fun sig hsg => by
        have h2 := hnx.2.2
        rw [hsg] at h2
        exact (Option.some.inj h2).symm, hts _ hl, hts _ hsm, va_Decl.of (hts _ hinx) (hts _ hcx), hts _ hse, hts _ hin⟩ ⟨PcP.blind, ⟨cellB, k1, k2, k3⟩, fun U hU hW => PcP.at hE hS hw (show SR as (.ref k :: a) (.ref z :: u0) from ⟨q0, ha2⟩) hU hW⟩ rfl hlen hL.1.1 (by simp) (lv_room (by rw [hsum]; exact hps)) dec ⟨by omega, by omega⟩
  refine W_runN key hS (fun v1 mv as' H1 locs1 e1 hp1 hw1 hv1 hS1 => ?_)
  rw [ho] at e1
  cases e1
  exact K as' H1 locs1 _ _ ml _ (List.IsPrefix.trans hp hp1) hw1 (hL.mono hp1) (SR.app hv1 (hs2.mono hp1)) hS1 (by omega) (by omega)
/-- a call of the method above by its own name (super) that returns -/
theorem gd_callSU (hx : p.tables.exec = Jvm.exec) (hb : c.code = cc) (hown : s.vm.findClass own = some m.cls) (hts : ∀ w ∈ lwG, w.before args s = true) (hE : EN D tys S0 ro RO s) {k ci : Nat} {fs : List Value} (dec : decode cc pc = .ok (.invokespecial ix, 3)) (hl : Jvm.Cond.methodLink own ix y ∈ lwG) (hsm : Jvm.Cond.sameMethod y.cls y.cls y.name y.desc ∈ lwG) (hsup : Jvm.Cond.superclass own y.cls ∈ lwG) (hno : y.name ≠ "<init>") (hin : Jvm.Cond.instanceMethod y ∈ lwG) (hini : Jvm.Cond.initialized y.cls ∈ lwG)
    (hci : ci < 13) (hob : h.2 k = some (.inr (ci, fs)))
    (hcw : Jvm.Cond.code y bytes maxL ret ∈ lwG) (hnm : y.cls ≠ "java/lang/invoke/MethodHandle" ∧ y.cls ≠ "java/lang/invoke/VarHandle" ∧ (parseMethodDescriptor y.desc).map (fun d => d.parameters.length) = some n)
    (hC : CtP l D tys S0 ro RO d y (.code y bytes maxL ret) (.ref k :: a) h out) (ho : out.1 = .inl v) (hR1 : d + 7 ≤ R.frames) (hR2 : 60 * d + 260 ≤ R.locals) (hmx : maxL ≤ 41) (hps : psum st ≤ 8) (hn : a.length = n) (hr1 : out.2.1.2.1 ≤ c0 + R.cells) (hr2 : out.2.1.2.2 ≤ s0 + R.slots)
    (K : Gd p l e R s m args below meth c Q D tys S0 ro RO as0 c0 s0 (pc + 3) (ls) (v.toList ++ st) (out.2)) : Gd p l e R s m args below meth c Q D tys S0 ro RO as0 c0 s0 (pc) (ls) ((.ref k :: a).reverse ++ st) (h) := by
  intro as H locs cells slots ml ms hp hw hL hs hS hc hq
  obtain ⟨mr, mst, rfl, hs1, hs2⟩ := SR.split hs
  have ha : SR as (.ref k :: a) mr.reverse := by
    have := hs1.rev
    rwa [List.reverse_reverse] at this
  obtain ⟨w0, u0, hmr, q0, ha2⟩ := ha.cons
  obtain ⟨z, cellB, rfl, k1, k2, k3⟩ := recvP hE hw hS hob q0
  have hmr2 : mr = u0.reverse ++ [.ref z] := by
    have := congrArg List.reverse hmr
    rw [List.reverse_reverse, List.reverse_cons] at this
    exact this
  subst hmr2
  obtain ⟨hC1, hC2, hC3⟩ := hC
  have hsum := hs2.sum
  have hlen : u0.length = n := by rw [ha2.len]; exact hn
  have hcb : (rmD d (out.2.1.2.1 - h.1.2.1) (out.2.1.2.2 - h.1.2.2)).frames + 1 ≤ R.frames ∧ 8 + (maxL + 11) + (rmD d (out.2.1.2.1 - h.1.2.1) (out.2.1.2.2 - h.1.2.2)).locals ≤ R.locals := by
    simp only [rmD]
    omega
  have key : va_Run p l e R s m args below meth c H locs cells slots (out.2.1.2.1 - h.1.2.1) (out.2.1.2.2 - h.1.2.2) (F0 m pc ml ((u0.reverse ++ [.ref z]) ++ mst)) mst (QcP D tys S0 ro RO as out (Value.ref z :: u0).toArray) (A0 S0) := by
    have hq0 : vwCl[ci]? = some vwCl[ci] := List.getElem?_eq_getElem hci
    have hcat : ∃ cC, ClassAt s (clN ci) cC := by
      have hne : ci ≠ 13 := by omega
      simp only [clN, if_neg hne, hq0]
      exact ⟨_, (hE.1.1 ci _ hq0).2⟩
    obtain ⟨cC, hcat⟩ := hcat
    exact va_runSU (C := clN ci) (cC := cC) (As := u0) (Ts := lwG) (own := own) (y := y) (bytes := bytes) (maxL := maxL) (ret := ret) (index := ix) hcat ⟨hx, hb, rfl, hown, hts⟩ (met_of ho (hC3 as)) ⟨⟨rfl, rfl, hcb.1, hcb.2, pay_lwG (y := y) hts hcw, List.mem_cons_self⟩, hts _ hl, hts _ hsm, hts _ hsup, hts _ hin, hts _ hini, hts _ hcw, hno, fun sig hsg => by
        have h2 := hnm.2.2
        rw [hsg] at h2
        exact (Option.some.inj h2).symm⟩ ⟨PcP.blind, ⟨cellB, k1, k2, k3⟩, fun U hU hW => PcP.at hE hS hw (show SR as (.ref k :: a) (.ref z :: u0) from ⟨q0, ha2⟩) hU hW⟩ rfl hlen hL.1.1 (by simp) (lv_room (by rw [hsum]; exact hps)) dec ⟨by omega, by omega⟩
  refine W_runN key hS (fun v1 mv as' H1 locs1 e1 hp1 hw1 hv1 hS1 => ?_)
  rw [ho] at e1
  cases e1
  exact K as' H1 locs1 _ _ ml _ (List.IsPrefix.trans hp hp1) hw1 (hL.mono hp1) (SR.app hv1 (hs2.mono hp1)) hS1 (by omega) (by omega)
/-- a call of an object's method that throws: what the frame does with it is K's -/
theorem gd_callVX (hx : p.tables.exec = Jvm.exec) (hb : c.code = cc) (hown : s.vm.findClass own = some m.cls) (hts : ∀ w ∈ lwG, w.before args s = true) (hE : EN D tys S0 ro RO s) {k ci : Nat} {fs : List Value} {E : String} (dec : decode cc pc = .ok (.invokevirtual ix, 3)) (hl : Jvm.Cond.methodLink own ix y ∈ lwG) (hin : Jvm.Cond.instanceMethod y ∈ lwG) (hini : Jvm.Cond.initialized y.cls ∈ lwG)
    (hse : Jvm.Cond.selects (clN ci) y y ∈ lwG) (hob : h.2 k = some (.inr (ci, fs)))
    (hcw : Jvm.Cond.code y bytes maxL ret ∈ lwG) (hnm : y.cls ≠ "java/lang/invoke/MethodHandle" ∧ y.cls ≠ "java/lang/invoke/VarHandle" ∧ (parseMethodDescriptor y.desc).map (fun d => d.parameters.length) = some n)
    (hC : CtP l D tys S0 ro RO d y (.code y bytes maxL ret) (.ref k :: a) h out) (ho : out.1 = .inr E) (hR1 : d + 7 ≤ R.frames) (hR2 : 60 * d + 260 ≤ R.locals) (hmx : maxL ≤ 41) (hps : psum st ≤ 8) (hn : a.length = n) (hr1 : out.2.1.2.1 ≤ c0 + R.cells) (hr2 : out.2.1.2.2 ≤ s0 + R.slots)
    (K : ∀ (as : List Nat) (H : Heap) (locs : List Loc) (cells slots : Nat) (ml : Array Slot) (ms : List Value) (q9 : Addr) (ce : Cell), as0 <+: as → PW D tys (A0 S0) ro RO as out.2 H → LR as c.maxLocals ls ml → va_S (A0 S0) s.heap H locs → out.2.1.2.1 = c0 + cells → out.2.1.2.2 = s0 + slots → H[q9]? = some ce → ce.vm = .none → s.vm.findClass E = some ce.cls → vx_W p l e R s m args below meth c H locs cells slots Q (F0 m pc ml ms) q9) : Gd p l e R s m args below meth c Q D tys S0 ro RO as0 c0 s0 (pc) (ls) ((.ref k :: a).reverse ++ st) (h) := by
  intro as H locs cells slots ml ms hp hw hL hs hS hc hq
  obtain ⟨mr, mst, rfl, hs1, hs2⟩ := SR.split hs
  have ha : SR as (.ref k :: a) mr.reverse := by
    have := hs1.rev
    rwa [List.reverse_reverse] at this
  obtain ⟨w0, u0, hmr, q0, ha2⟩ := ha.cons
  obtain ⟨z, cellB, rfl, k1, k2, k3⟩ := recvP hE hw hS hob q0
  have hmr2 : mr = u0.reverse ++ [.ref z] := by
    have := congrArg List.reverse hmr
    rw [List.reverse_reverse, List.reverse_cons] at this
    exact this
  subst hmr2
  obtain ⟨hC1, hC2, hC3⟩ := hC
  have hsum := hs2.sum
  have hlen : u0.length = n := by rw [ha2.len]; exact hn
  have hcb : (rmD d (out.2.1.2.1 - h.1.2.1) (out.2.1.2.2 - h.1.2.2)).frames + 1 ≤ R.frames ∧ 8 + (maxL + 11) + (rmD d (out.2.1.2.1 - h.1.2.1) (out.2.1.2.2 - h.1.2.2)).locals ≤ R.locals := by
    simp only [rmD]
    omega
  have key : vx_Run p l e R s m args below meth c H locs cells slots (out.2.1.2.1 - h.1.2.1) (out.2.1.2.2 - h.1.2.2) (F0 m pc ml ((u0.reverse ++ [.ref z]) ++ mst)) mst (QcP D tys S0 ro RO as out (Value.ref z :: u0).toArray) (XCP D tys S0 ro RO as out) (A0 S0) := by
    exact vx_runV (As := u0) (Ts := lwG) (own := own) (C := clN ci) (y := y) (bytes := bytes) (maxL := maxL) (ret := ret) (index := ix) ⟨hx, hb, rfl, hown, hts⟩ (hC3 as) ⟨⟨rfl, rfl, hcb.1, hcb.2, pay_lwG (y := y) hts hcw, List.mem_cons_self, hts _ hcw, hts _ hini, ⟨hnm.1, hnm.2.1⟩, fun sig hsg => by
        have h2 := hnm.2.2
        rw [hsg] at h2
        exact (Option.some.inj h2).symm, hts _ hl⟩, hts _ hin, hts _ hse⟩ ⟨PcP.blind, ⟨cellB, k1, k2, k3⟩, fun U hU hW => PcP.at hE hS hw (show SR as (.ref k :: a) (.ref z :: u0) from ⟨q0, ha2⟩) hU hW⟩ rfl hlen hL.1.1 (by simp) (lv_room (by rw [hsum]; exact hps)) dec ⟨by omega, by omega⟩
  intro T hT X
  rcases key T hT X with ⟨v, st₀, t, T', L, h0, X', hL', e1, e2, ⟨v1, mv, as', q1, -⟩, stp⟩ | ⟨q9, st₀, t, T', L, E1, ce, h0, X', hL', e1, e2, ⟨as', q1, q2, q3, q4⟩, g1, g2, g3, stp⟩
  · rw [ho] at q1; cases q1
  · rw [ho] at q1
    cases q1
    obtain ⟨-, -, hS1⟩ := vx_keep h0 e1 hS (fun q _ h => h) (fun q h => h) hL' q4
    obtain ⟨t2, a1, b1⟩ := K as' T'.heap (locs ++ L) (cells + (out.2.1.2.1 - h.1.2.1)) (slots + (out.2.1.2.2 - h.1.2.2)) ml mst q9 ce (List.IsPrefix.trans hp q2) (by rw [e1]; exact q3) (hL.mono q2) hS1 (by omega) (by omega) (by rw [e1]; exact g1) g2 g3 T' rfl X'
    exact ⟨t2, Steps.trans stp a1, b1⟩
end CALLS
end SND5
