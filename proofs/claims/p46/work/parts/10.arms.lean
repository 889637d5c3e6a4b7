
section SND3
variable {p : Program} {l : Launch} {e : Env} {R : Room} {s : State} {m : MethodId} {args : Array Value} {below : List Frame} {meth : Method} {c : Code} {Q : State → Prop}
variable {D : va_G} {tys : List (ClassId × FieldType)} {S0 : Nat} {ro : List Nat} {RO : Nat → Option PC} {as0 : List Nat} {c0 s0 : Nat} {cc : ByteArray} {pc : Nat} {ls : PL} {st : List Value} {h : PH} {own : String}

/-- the object that a call is to -/
def clN (ci : Nat) : String := if ci = 13 then "java/lang/String" else match vwCl[ci]? with
  | some q => q.1
  | none => ""
theorem recvP (hE : EN D tys S0 ro RO s) {as : List Nat} {H : Heap} {locs : List Loc} (hw : PW D tys (A0 S0) ro RO as h H) (hS : va_S (A0 S0) s.heap H locs) {k ci : Nat} {fs : List Value} {w : Value} (ho : h.2 k = some (.inr (ci, fs))) (hv : VR as (.ref k) w) :
    ∃ (z : Nat) (cellB : Cell), w = .ref z ∧ H[z]? = some cellB ∧ cellB.vm.isStatics = false ∧ s.vm.findClass (clN ci) = some cellB.cls := by
  rcases Nat.lt_or_ge k 300 with h3 | h3
  · obtain ⟨e1, e2, e3⟩ := hw.low h3
    rw [ho] at e1
    obtain ⟨h9, rfl, b, v0, v1, g0, g1, f1, f2, f3, -⟩ := hE.2.2.2.2.1 k ci fs e1.symm
    obtain ⟨z, hz, rfl⟩ := hv.at (by omega)
    rw [e2, f1] at hz
    cases hz
    obtain ⟨cell, k1, k2, k3, k4⟩ := f3
    have hlt := (Array.getElem?_eq_some_iff.mp k1).1
    exact ⟨b, cell, rfl, by rw [hS.2.1 b hlt k4]; exact k1, k2, k3⟩
  · obtain ⟨z, hz, rfl⟩ := hv.at (by omega)
    obtain ⟨ws, e, g1, g2, hP, hD⟩ := hw.cell h3 hz ho
    obtain ⟨gs, rfl, h11, -⟩ := g2.obj
    have hq0 : vwCl[ci]? = some vwCl[ci] := List.getElem?_eq_getElem h11
    obtain ⟨cell, k1, k2, k3⟩ := va_recv hE.1 hP hq0 g1
    refine ⟨z, cell, rfl, k1, k2, ?_⟩
    have : ci ≠ 13 := by omega
    simp only [clN, if_neg this, hq0]
    exact k3
theorem assign_self {vm : Vm} {c : ClassId} : vm.assignable c c = true := by
  show Vm.assignableAux vm (255 + 1) c c = true
  rw [Vm.assignableAux]
  simp
theorem gd_aastore (hx : p.tables.exec = Jvm.exec) (hb : c.code = cc) (hE : EN D tys S0 ro RO s) {t n a b : Nat} {f : Nat → Option Nat} {i : Int32} (d : decode cc pc = .ok (.aastore, 1)) (hk : okRef h t b = true) (hAO : Jvm.Cond.arrayOver (.array .int) ∈ lwB) (hi : inB i n = true) (ho : h.2 a = some (.inl (t, n, .inr (.inr (.inr (.inr f)))))) (h3 : 300 ≤ a)
    (K : Gd p l e R s m args below meth c Q D tys S0 ro RO as0 c0 s0 (pc + 1) (ls) (st) (hset h a (.inl (t, n, .inr (.inr (.inr (.inr (va_up f i.toNatClampNeg (some b))))))))) : Gd p l e R s m args below meth c Q D tys S0 ro RO as0 c0 s0 (pc) (ls) (.ref b :: .int i :: .ref a :: st) (h) := by
  intro as H locs cells slots ml ms hp hw hL hs hS hc hq
  obtain ⟨w0, u0, rfl, q0, hs0⟩ := hs.cons
  obtain ⟨w1, u1, rfl, q1, hs1⟩ := hs0.cons
  obtain ⟨w2, u2, rfl, q2, hs2⟩ := hs1.cons
  cases q1
  have hin := inB_vp hi
  obtain ⟨z, hz, rfl⟩ := q2.at (by omega)
  have hb9 : b ≠ 299 ∧ b ≠ 201 := by
    have key : ∀ N, N = 201 ∨ N = 299 → b ≠ N := by
      intro N hN e
      subst e
      simp only [okRef] at hk
      split at hk
      · rename_i ci fs ho2
        obtain ⟨e1, -, -⟩ := hw.low (show b < 300 by omega)
        rw [e1] at ho2
        have := (hE.2.2.2.2.1 _ _ _ ho2).1
        omega
      · rename_i t2 x2 ho2
        simp only [decide_eq_true_eq] at hk
        omega
      · cases hk
    exact ⟨key 299 (Or.inr rfl), key 201 (Or.inl rfl)⟩
  obtain ⟨y, hy, rfl⟩ := q0.at hb9
  obtain ⟨ws, e, g1, g2, hP, hD, hput⟩ := hw.put (c' := .inl (t, n, .inr (.inr (.inr (.inr (va_up f i.toNatClampNeg (some b))))))) h3 hz ho
  obtain ⟨cA, g, rfl, g3, g4, g5⟩ := g2.rowq
  obtain ⟨-, -, -, -, -, ws2, hl2, hws2, hP2, hD2⟩ := id hw
  obtain ⟨e3, k3, k4⟩ := hws2 (a - 300) z (by rw [Nat.add_sub_cancel' h3]; exact hz)
  obtain ⟨cA3, g9, rfl, g93, g94, g95⟩ := (k4 _ (by rw [Nat.add_sub_cancel' h3]; exact ho)).rowq
  have hcA : cA3 = cA := by rw [g3] at g93; cases g93; rfl
  subst hcA
  have K2 : ∀ (H1 : Heap) (locs1 : List Loc), va_P D vwCl (ws2.set (a - 300) (z, .inl (cA3, n, .inr (.inr (.inr (.inr (va_up g9 i.toNatClampNeg (some y)))))))) H1 → va_D (A0 S0) (ws2.set (a - 300) (z, .inl (cA3, n, .inr (.inr (.inr (.inr (va_up g9 i.toNatClampNeg (some y)))))))) → va_S (A0 S0) s.heap H1 locs1 → W p l e R s m args below meth c H1 locs1 cells slots Q (F0 m (pc + 1) ml u2) := by
    intro H1 locs1 hP1 hD1 hS1
    refine K as H1 locs1 cells slots ml u2 hp ?_ hL hs2 hS1 hc hq
    obtain ⟨j1, j2, j3, j4, j5, -⟩ := hw
    have e9 : 300 + (a - 300) = a := Nat.add_sub_cancel' h3
    generalize a - 300 = q9 at e9 k3 hP1 hD1 ⊢
    have hlt := (List.getElem?_eq_some_iff.mp k3).1
    refine ⟨j1, j2, j3, fun q hq => ?_, fun q hq => ?_, _, ?_, fun q b1 hb1 => ?_, hP1, hD1⟩
    · have : q ≠ a := by omega
      simp only [hset, if_neg this]
      exact j4 q hq
    · have hkl : a < h.1.1 := by
        have := (List.getElem?_eq_some_iff.mp hz).1
        omega
      have hq' : h.1.1 ≤ q := hq
      have : q ≠ a := by omega
      simp only [hset, if_neg this]
      exact j5 q hq
    · rw [List.length_set]; exact hl2
    · by_cases hqk : q = q9
      · subst hqk
        rw [e9] at hb1
        rw [hz] at hb1
        cases hb1
        refine ⟨_, by rw [List.getElem?_set_self hlt], fun c2 hc2 => ?_⟩
        simp only [hset, e9, if_true] at hc2
        cases hc2
        refine ⟨g93, g94, rfl, fun i9 => ?_⟩
        show OR as (va_up f _ _ i9) (va_up g9 _ _ i9)
        unfold va_up
        split
        · exact ⟨y, hy, rfl⟩
        · exact g95 i9
      · obtain ⟨e4, g6, g7⟩ := hws2 q b1 hb1
        refine ⟨e4, by rw [List.getElem?_set_ne (Ne.symm hqk)]; exact g6, fun c2 hc2 => ?_⟩
        have : 300 + q ≠ a := by omega
        simp only [hset, if_neg this] at hc2
        exact g7 c2 hc2
  have hq0' : VR as (.ref b) (.ref y) := VR.mk hy
  simp only [okRef] at hk
  split at hk
  · rename_i ci fs hob
    obtain ⟨y2, cellB, e8, r1, r2, r3⟩ := recvP hE hw hS hob hq0'
    cases e8
    simp only [decide_eq_true_eq] at hk
    have hty : tyOf t = .object (clN ci) := by
      rcases hk with ⟨-, hk⟩ | ⟨-, hk⟩
      · rcases hk with ⟨rfl, rfl⟩ | ⟨rfl, rfl⟩ | ⟨rfl, rfl⟩ | ⟨rfl, rfl⟩ <;> rfl
      · obtain ⟨rfl, rfl⟩ := hk; rfl
    rw [hty] at g93
    exact vb_astq (E := clN ci) (C := clN ci) hx hb hE.1 hP2 hD2 hS _ t k3 g93 ⟨cellB, r1, r2, r3⟩ (fun comp c0 h1 h2 => by rw [h1] at h2; cases h2; exact assign_self) hin d K2
  · rename_i t2 x2 hob
    simp only [decide_eq_true_eq] at hk
    obtain ⟨h4, rfl, rfl⟩ := hk
    have e1 : 300 + (b - 300) = b := Nat.add_sub_cancel' h4
    obtain ⟨e2, k1, k2⟩ := hws2 (b - 300) y (by rw [e1]; exact hy)
    obtain ⟨cB, yB, rfl, r3, r4⟩ := (k2 _ (by rw [e1]; exact hob)).any
    have hAOs : (Jvm.Cond.arrayOver (.array .int)).before args s = true := aoA_moved (Vm.Alike.refl _) (hE.nw _ hAO)
    obtain ⟨comp, cQ, kQ, f1, f2, f3, f4, f5⟩ := arrayOverA_spec hAOs
    obtain ⟨kComp, hkComp, -⟩ := Vm.findClass_spec f1
    have hRA := (hE.1.2 3 _ g93).2
    have hRB := (hE.1.2 0 _ r3).2
    have hcQ : cQ = cA3 := by
      have : s.vm.findClass ("[" ++ (FieldType.array .int).toString) = some cA3 := hRA
      rw [f5] at this
      exact Option.some.inj this
    have hcB : comp = cB := by
      have : s.vm.findClass ("[" ++ FieldType.int.toString) = some cB := hRB
      have e7 : (FieldType.array .int).toString = "[" ++ FieldType.int.toString := by decide +kernel
      rw [e7, this] at f1
      exact (Option.some.inj f1).symm
    subst hcQ; subst hcB
    have hlt : i.toNatClampNeg < n := Nat.not_le.mp fun q => hin (Or.inr q)
    have h0 : ¬ i < 0 := fun q => hin (Or.inl q)
    have hcv : (vp_cell comp yB).cls = comp ∧ ∀ q, (vp_cell comp yB).vm ≠ .statics q := by rcases yB with ⟨nB, gB | gB | gB | gB | gB⟩ <;> exact ⟨rfl, fun q h => by cases h⟩
    refine W.aast hx hb (hP2 _ _ k3) (fun q h => by cases h) (fun h => by cases h) f3 f4 rfl hkComp ⟨h0, by show _ < (arrV _ _ _).slots.size; rw [arrV_size]; exact hlt⟩ (hP2 _ _ k1) hcv.2 (by rw [hcv.1]; exact hkComp) (by rw [hcv.1]; exact assign_self) rfl rfl d fun H1 e zz oq => ?_
    refine K2 H1 _ (hP2.set hD2 k3 ?_ oq) (hD2.set k3) (hS.put zz oq (hD2.2 _ _ k3))
    show H1[z]? = some (vp_cell _ _)
    rw [e, vp_cell_q, vp_cell_q, arrV_store]
    refine congrArg some (congrArg (arrV cQ n) (funext fun q => ?_))
    by_cases hq : q = i.toNatClampNeg
    · subst hq
      simp [updV, va_up, va_rf]
    · simp [updV, va_up, hq]
  · cases hk
/-- an object comes -/
theorem gd_new (hx : p.tables.exec = Jvm.exec) (hb : c.code = cc) (hown : s.vm.findClass own = some m.cls) (hts : ∀ w ∈ lwG, w.before args s = true) (hE : EN D tys S0 ro RO s)
    {C : String} {F : u_T} {N ci ix : Nat} {fs : List Value} (d : decode cc pc = .ok (.new ix, 3)) (hq0 : vwCl[ci]? = some (C, F, N)) (hci : ci < 13) (hl1 : Jvm.Cond.classLink own ix C ∈ lwG) (hl2 : Jvm.Cond.instantiable C N ∈ lwG) (hl3 : Jvm.Cond.initialized C ∈ lwG) (hfs : fs = pdef ci)
    (hr1 : h.1.2.1 + 1 ≤ c0 + R.cells) (hr2 : h.1.2.2 + fs.length ≤ s0 + R.slots) (K : Gd p l e R s m args below meth c Q D tys S0 ro RO as0 c0 s0 (pc + 3) (ls) (.ref h.1.1 :: st) (hnew h fs.length (.inr (ci, fs)))) : Gd p l e R s m args below meth c Q D tys S0 ro RO as0 c0 s0 (pc) (ls) (st) (h) := by
  intro as H locs cells slots ml ms hp hw hL hs hS hc hq
  obtain ⟨hc1, ⟨ty0, hc2⟩, hc3⟩ := clsOK hq0
  obtain ⟨ws, hP, hD, hpush⟩ := hw.push fs.length (.inr (ci, fs))
  have hlen : fs.length = N := by rw [hfs, pdef, hq0]; simp
  have hfd : ∀ j, j < N → defaultValue (ty0 j) = vp_V fs j := by
    intro j hj
    rw [hfs, pdef, hq0]
    simp [vp_V, hj, hc2 j hj]
  have hnr : ∀ (as : List Nat), SR as fs fs := by
    intro as
    have hz : ∀ v ∈ fs, ∀ k, v ≠ .ref k := by
      intro v hv k
      rw [hfs, pdef, hq0] at hv
      obtain ⟨j, hj, rfl⟩ := List.mem_map.mp hv
      have hj := List.mem_range.mp hj
      simp only [hc2 j hj]
      cases ty0 j <;> simp [defaultValue]
    have key : ∀ l : List Value, (∀ v ∈ l, ∀ k, v ≠ .ref k) → SR as l l := by
      intro l
      induction l with
      | nil => intro _; trivial
      | cons v t ih =>
        intro hv
        refine ⟨?_, ih fun w hw => hv w (List.mem_cons_of_mem _ hw)⟩
        have := hv v List.mem_cons_self
        cases v with
        | ref k => exact absurd rfl (this k)
        | _ => rfl
    exact key fs hz
  refine va_new hx hb hts hc1 ty0 hc2 hown (hts _ hl1) (hts _ hl2) (hts _ hl3) hE.1 hP hD hS (fun q hq => Nat.le_trans hE.2.2.1 hq) hq0 hfd (by omega) (by omega) d (fun q H1 hP1 hD1 hS1 => ?_)
  obtain ⟨hw1, hat⟩ := hpush q (.inr (ci, fs)) H1 (show _ ∧ _ ∧ _ from ⟨rfl, hci, hnr _⟩) hP1 hD1
  have hpre : as <+: as ++ [q] := ⟨[q], rfl⟩
  refine K (as ++ [q]) H1 locs (cells + 1) (slots + N) ml (.ref q :: ms) (List.IsPrefix.trans hp hpre) hw1 (hL.mono hpre) ⟨?_, hs.mono hpre⟩ hS1 ?_ ?_
  · exact VR.mk hat
  · simp only [hnew]; omega
  · simp only [hnew]; omega
def atOf (t : Nat) : ArrayType := match t with
  | 0 => .int
  | 1 => .long
  | _ => .byte
/-- a row of numbers comes -/
theorem gd_newarray (hx : p.tables.exec = Jvm.exec) (hb : c.code = cc) (hts : ∀ w ∈ lwG, w.before args s = true) (hE : EN D tys S0 ro RO s)
    {t : Nat} {n : Int32} (ht4 : t < 3) (d : decode cc pc = .ok (.newarray (atOf t), 2)) (hl : Jvm.Cond.arrayClass (tyOf t) ∈ lwG) (hn : ¬ n < 0) (hn2 : n.toNatClampNeg ≤ 60000)
    (hr1 : h.1.2.1 + 1 ≤ c0 + R.cells) (hr2 : h.1.2.2 + n.toNatClampNeg ≤ s0 + R.slots) (K : Gd p l e R s m args below meth c Q D tys S0 ro RO as0 c0 s0 (pc + 2) (ls) (.ref h.1.1 :: st) (hnew h n.toNatClampNeg (.inl (t, arr0 t n.toNatClampNeg)))) : Gd p l e R s m args below meth c Q D tys S0 ro RO as0 c0 s0 (pc) (ls) (.int n :: st) (h) := by
  intro as H locs cells slots ml ms hp hw hL hs hS hc hq
  obtain ⟨w0, u0, rfl, q0, hs0⟩ := hs.cons
  cases q0
  obtain ⟨ws, hP, hD, hpush⟩ := hw.push n.toNatClampNeg (.inl (t, arr0 t n.toNatClampNeg))
  obtain ⟨cA, hcA⟩ := hE.2.1 t (by omega)
  have hty : newarray.typeOf (atOf t) = tyOf t := by
    rcases (show t = 0 ∨ t = 1 ∨ t = 2 by omega) with rfl | rfl | rfl <;> rfl
  have hcell : ∀ cA : ClassId, vp_cell cA (arr0 t n.toNatClampNeg) = arrV cA n.toNatClampNeg (fun _ => defaultValue (tyOf t)) := by
    intro cA
    rcases (show t = 0 ∨ t = 1 ∨ t = 2 by omega) with rfl | rfl | rfl <;> rfl
  have hbytes : n.toNatClampNeg * componentBytes (tyOf t) ≤ 536870912 := by
    have : componentBytes (tyOf t) ≤ 8 := by
      rcases (show t = 0 ∨ t = 1 ∨ t = 2 by omega) with rfl | rfl | rfl <;> decide
    calc n.toNatClampNeg * componentBytes (tyOf t) ≤ 60000 * 8 := Nat.mul_le_mul hn2 this
      _ ≤ 536870912 := by decide
  refine va_newa (atype := atOf t) (ty := tyOf t) hx hb (by rw [hty]; exact hts _ hl) hty hE.1 hP hD hS (fun q hq => Nat.le_trans hE.2.2.1 hq) hcell hn rfl hbytes (by omega) (by omega) d (fun q cB H1 hK1 hP1 hD1 hS1 => ?_)
  have hBA : cB = cA := by
    have k1 := (hK1.2 tys.length (cB, tyOf t) (by simp)).2
    have k2 := (hE.1.2 t (cA, tyOf t) hcA).2
    have key : ∀ cX : ClassId, va_RA s cX (tyOf t) → s.vm.findClass ("[" ++ (tyOf t).toString) = some cX := by
      intro cX hX
      rcases (show t = 0 ∨ t = 1 ∨ t = 2 by omega) with rfl | rfl | rfl <;> exact hX
    have e1 := key _ k1
    have e2 := key _ k2
    rw [e1] at e2
    cases e2
    rfl
  subst hBA
  have har : ∀ as : List Nat, AR as (arr0 t n.toNatClampNeg) (arr0 t n.toNatClampNeg) := by
    intro as
    rcases (show t = 0 ∨ t = 1 ∨ t = 2 by omega) with rfl | rfl | rfl <;> exact ⟨rfl, rfl⟩
  obtain ⟨hw1, hat⟩ := hpush q (.inl (cB, arr0 t n.toNatClampNeg)) H1 (show _ ∧ _ ∧ _ from ⟨hcA, by omega, har _⟩) hP1 hD1
  have hpre : as <+: as ++ [q] := ⟨[q], rfl⟩
  refine K (as ++ [q]) H1 locs (cells + 1) (slots + n.toNatClampNeg) ml (.ref q :: u0) (List.IsPrefix.trans hp hpre) hw1 (hL.mono hpre) ⟨?_, hs0.mono hpre⟩ hS1 ?_ ?_
  · exact VR.mk hat
  · simp only [hnew]; omega
  · simp only [hnew]; omega
/-- a row of objects comes -/
theorem gd_anewarray (hx : p.tables.exec = Jvm.exec) (hb : c.code = cc) (hown : s.vm.findClass own = some m.cls) (hts : ∀ w ∈ lwG, w.before args s = true) (hE : EN D tys S0 ro RO s)
    {t ix : Nat} {C : String} {n : Int32} (ht4 : 4 ≤ t ∧ t ≤ 8) (hC : tyOf t = .object C) (d : decode cc pc = .ok (.anewarray ix, 3)) (hl1 : Jvm.Cond.classLink own ix C ∈ lwG) (hl2 : Jvm.Cond.arrayOver (.object C) ∈ lwB) (hn : ¬ n < 0) (hn2 : n.toNatClampNeg ≤ 60000)
    (hr1 : h.1.2.1 + 1 ≤ c0 + R.cells) (hr2 : h.1.2.2 + n.toNatClampNeg ≤ s0 + R.slots) (K : Gd p l e R s m args below meth c Q D tys S0 ro RO as0 c0 s0 (pc + 3) (ls) (.ref h.1.1 :: st) (hnew h n.toNatClampNeg (.inl (t, arr0 t n.toNatClampNeg)))) : Gd p l e R s m args below meth c Q D tys S0 ro RO as0 c0 s0 (pc) (ls) (.int n :: st) (h) := by
  intro as H locs cells slots ml ms hp hw hL hs hS hc hq
  obtain ⟨w0, u0, rfl, q0, hs0⟩ := hs.cons
  cases q0
  obtain ⟨ws, hP, hD, hpush⟩ := hw.push n.toNatClampNeg (.inl (t, arr0 t n.toNatClampNeg))
  obtain ⟨cA, hcA⟩ := hE.2.1 t (by omega)
  have hover : va_AO C s := hE.nw _ hl2
  refine va_newq hx hb hown (hts _ hl1) hover hE.1 hP hD hS (fun q hq => Nat.le_trans hE.2.2.1 hq) hn rfl (by omega) (by omega) (by omega) d (fun q cB H1 hK1 hP1 hD1 hS1 => ?_)
  have hBA : cB = cA := by
    have k1 := (hK1.2 tys.length (cB, .object C) (by simp)).2
    have k2 := (hE.1.2 t (cA, tyOf t) hcA).2
    rw [hC] at k2
    obtain ⟨-, -, -, -, -, e1⟩ := k1
    obtain ⟨-, -, -, -, -, e2⟩ := k2
    rw [e1] at e2
    cases e2
    rfl
  subst hBA
  have ha0 : arr0 t n.toNatClampNeg = (n.toNatClampNeg, .inr (.inr (.inr (.inr (fun _ => none))))) := by rcases (show t = 4 ∨ t = 5 ∨ t = 6 ∨ t = 7 ∨ t = 8 by omega) with rfl | rfl | rfl | rfl | rfl <;> rfl
  obtain ⟨hw1, hat⟩ := hpush q (.inl (cB, n.toNatClampNeg, .inr (.inr (.inr (.inr (fun _ => none)))))) H1 (show _ ∧ _ ∧ _ from ⟨hcA, by omega, by rw [ha0]; exact ⟨rfl, fun _ => rfl⟩⟩) hP1 hD1
  have hpre : as <+: as ++ [q] := ⟨[q], rfl⟩
  refine K (as ++ [q]) H1 locs (cells + 1) (slots + n.toNatClampNeg) ml (.ref q :: u0) (List.IsPrefix.trans hp hpre) hw1 (hL.mono hpre) ⟨?_, hs0.mono hpre⟩ hS1 ?_ ?_
  · exact VR.mk hat
  · simp only [hnew]; omega
  · simp only [hnew]; omega
/-- a row of rows of ints comes -/
theorem gd_anewarrayA (hx : p.tables.exec = Jvm.exec) (hb : c.code = cc) (hown : s.vm.findClass own = some m.cls) (hts : ∀ w ∈ lwG, w.before args s = true) (hE : EN D tys S0 ro RO s)
    {ix : Nat} {n : Int32} (d : decode cc pc = .ok (.anewarray ix, 3)) (hl1 : Jvm.Cond.classLink own ix (FieldType.array .int).toString ∈ lwG) (hl2 : Jvm.Cond.arrayOver (.array .int) ∈ lwB) (hn : ¬ n < 0) (hn2 : n.toNatClampNeg ≤ 60000)
    (hr1 : h.1.2.1 + 1 ≤ c0 + R.cells) (hr2 : h.1.2.2 + n.toNatClampNeg ≤ s0 + R.slots) (K : Gd p l e R s m args below meth c Q D tys S0 ro RO as0 c0 s0 (pc + 3) (ls) (.ref h.1.1 :: st) (hnew h n.toNatClampNeg (.inl (3, arr0 3 n.toNatClampNeg)))) : Gd p l e R s m args below meth c Q D tys S0 ro RO as0 c0 s0 (pc) (ls) (.int n :: st) (h) := by
  intro as H locs cells slots ml ms hp hw hL hs hS hc hq
  obtain ⟨w0, u0, rfl, q0, hs0⟩ := hs.cons
  cases q0
  obtain ⟨ws, hP, hD, hpush⟩ := hw.push n.toNatClampNeg (.inl (3, arr0 3 n.toNatClampNeg))
  obtain ⟨cA, hcA⟩ := hE.2.1 3 (by omega)
  refine W.anewA (t := .int) hx hb hown (hts _ hl1) (aoA_moved (Vm.Alike.refl _) (hE.nw _ hl2)) rfl d rfl hn (by omega) (by omega) (by omega) (fun cB kA comp f1 f2 f3 f4 => ?_)
  have hBA : cB = cA := by
    have e2 : s.vm.findClass ("[" ++ (FieldType.array .int).toString) = some cA := (hE.1.2 3 _ hcA).2
    rw [f1] at e2
    exact Option.some.inj e2
  subst hBA
  generalize hH1 : H.push ({ cls := cB, slots := Array.replicate n.toNatClampNeg .null, vm := .none } : Cell) = H1
  have z1 : H1.size = H.size + 1 := by rw [← hH1, Array.size_push]
  have e1 : H1[H.size]? = some (arrV cB n.toNatClampNeg (fun _ => .null)) := by rw [← hH1, Array.getElem?_push_size, ← arrV_new]
  have o1 : ∀ q : Nat, q < H.size → H1[q]? = H[q]? := fun q hq => by rw [← hH1, Array.getElem?_push, if_neg (Nat.ne_of_lt hq)]
  have hk : ∀ (k : Nat) (x : Nat × va_E), ws[k]? = some x → H1[x.1]? = H[x.1]? := fun k x hx => o1 x.1 ((hP k x hx).lt)
  have hS1 : va_S (A0 S0) s.heap H1 locs := ⟨Nat.le_trans hS.1 (by omega), fun x h1 h2 => (o1 x (Nat.lt_of_lt_of_le h1 hS.1)).trans (hS.2.1 x h1 h2), hS.2.2⟩
  have hP1 : va_P D vwCl (ws ++ [(H.size, .inl (cB, n.toNatClampNeg, .inr (.inr (.inr (.inr (fun _ => none))))))]) H1 := by
    refine (hP.kept hk).app (fun k x hx => ?_)
    have hz : k < 1 := (List.getElem?_eq_some_iff.mp hx).1
    rw [show k = 0 by omega] at hx
    cases hx
    show H1[H.size]? = some (vp_cell _ _)
    rw [vp_cell_q]
    exact e1
  have hD1 : va_D (A0 S0) (ws ++ [(H.size, .inl (cB, n.toNatClampNeg, .inr (.inr (.inr (.inr (fun _ => none))))))]) := hD.push hP rfl (Nat.le_trans hE.2.2.1 hS.1)
  obtain ⟨hw1, hat⟩ := hpush H.size (.inl (cB, n.toNatClampNeg, .inr (.inr (.inr (.inr (fun _ => none)))))) H1 (show _ ∧ _ ∧ _ from ⟨hcA, by omega, rfl, fun _ => rfl⟩) hP1 hD1
  have hpre : as <+: as ++ [H.size] := ⟨[H.size], rfl⟩
  refine K (as ++ [H.size]) H1 locs (cells + 1) (slots + n.toNatClampNeg) ml (.ref H.size :: u0) (List.IsPrefix.trans hp hpre) hw1 (hL.mono hpre) ⟨?_, hs0.mono hpre⟩ hS1 ?_ ?_
  · exact VR.mk hat
  · simp only [hnew]; omega
  · simp only [hnew]; omega
/-- a fixed static -/
theorem gd_gets (hx : p.tables.exec = Jvm.exec) (hb : c.code = cc) (hown : s.vm.findClass own = some m.cls) (hts : ∀ w ∈ lwG, w.before args s = true) (hE : EN D tys S0 ro RO s)
    {ix : Nat} {C n ds : String} {v : Value} (d : decode cc pc = .ok (.getstatic ix, 3)) (hm : (C, n, ds, v) ∈ STT) (hl : Jvm.Cond.fieldLink own ix C n ds ∈ lwG) (K : Gd p l e R s m args below meth c Q D tys S0 ro RO as0 c0 s0 (pc + 3) (ls) (v :: st) (h)) : Gd p l e R s m args below meth c Q D tys S0 ro RO as0 c0 s0 (pc) (ls) (st) (h) := by
  intro as H locs cells slots ml ms hp hw hL hs hS hc hq
  obtain ⟨w, h1, h2⟩ := hE.2.2.2.2.2.1 _ hm
  have hro : ro <+: as := by rw [← hw.2.2.1]; exact List.take_prefix 300 as
  exact va_gets hx hb h2 hS hown (hts _ hl) (fun _ q => q) d (K as H locs cells slots ml (w :: ms) hp hw hL ⟨h1.mono hro, hs⟩ hS hc hq)
theorem gd_ldci (hx : p.tables.exec = Jvm.exec) (hb : c.code = cc) (hown : s.vm.findClass own = some m.cls) (hts : ∀ w ∈ lwG, w.before args s = true) {ix : Nat} {v : Int32} (d : decode cc pc = .ok (.ldc ix, 2)) (hl : Jvm.Cond.constant own ix v ∈ lwG) (K : Gd p l e R s m args below meth c Q D tys S0 ro RO as0 c0 s0 (pc + 2) (ls) (.int v :: st) (h)) : Gd p l e R s m args below meth c Q D tys S0 ro RO as0 c0 s0 (pc) (ls) (st) (h) := by
  intro as H locs cells slots ml ms hp hw hL hs hS hc hq
  exact lv_ldc hx hb hown (hts _ hl) d (K as H locs cells slots ml _ hp hw hL ⟨rfl, hs⟩ hS hc hq)
theorem gd_ldcl (hx : p.tables.exec = Jvm.exec) (hb : c.code = cc) (hown : s.vm.findClass own = some m.cls) (hts : ∀ w ∈ lwG, w.before args s = true) {ix : Nat} {v : Int64} (d : decode cc pc = .ok (.ldc2_w ix, 3)) (hl : Jvm.Cond.constantLong own ix v ∈ lwG) (K : Gd p l e R s m args below meth c Q D tys S0 ro RO as0 c0 s0 (pc + 3) (ls) (.long v :: st) (h)) : Gd p l e R s m args below meth c Q D tys S0 ro RO as0 c0 s0 (pc) (ls) (st) (h) := by
  intro as H locs cells slots ml ms hp hw hL hs hS hc hq
  exact lv_ldc2 hx hb hown (hts _ hl) d (K as H locs cells slots ml _ hp hw hL ⟨rfl, hs⟩ hS hc hq)
theorem gd_ldcs (hx : p.tables.exec = Jvm.exec) (hb : c.code = cc) (hown : s.vm.findClass own = some m.cls) (hE : EN D tys S0 ro RO s) {ix k : Nat} {tx : String} (d : decode cc pc = .ok (.ldc ix, 2)) (hm : (own, ix, tx, k) ∈ STR) (hk : k < 299) (K : Gd p l e R s m args below meth c Q D tys S0 ro RO as0 c0 s0 (pc + 2) (ls) (.ref k :: st) (h)) : Gd p l e R s m args below meth c Q D tys S0 ro RO as0 c0 s0 (pc) (ls) (st) (h) := by
  intro as H locs cells slots ml ms hp hw hL hs hS hc hq
  obtain ⟨a, h1, h2⟩ := hE.2.2.2.2.2.2.1 _ hm
  have hro : ro <+: as := by rw [← hw.2.2.1]; exact List.take_prefix 300 as
  obtain ⟨t, ht⟩ := hro
  exact va_ldcS hx hb hown h2 d (K as H locs cells slots ml (.ref a :: ms) hp hw hL ⟨VR.mk (by rw [← ht, List.getElem?_append_left (List.getElem?_eq_some_iff.mp h1).1]; exact h1), hs⟩ hS hc hq)
/-- Object() -/
theorem gd_obj (hx : p.tables.exec = Jvm.exec) (hb : c.code = cc) (hown : s.vm.findClass own = some m.cls) (hts : ∀ w ∈ lwG, w.before args s = true) {ix k : Nat} (d : decode cc pc = .ok (.invokespecial ix, 3)) (hl1 : Jvm.Cond.methodLink own ix Lib.objectInit ∈ lwG) (hl2 : Jvm.Cond.instanceMethod Lib.objectInit ∈ lwG) (hl3 : Jvm.Cond.code Lib.objectInit ⟨#[0xb1]⟩ 1 none ∈ lwG) (hst : psum st ≤ 8) (hk : k ≠ 201) (hR1 : 1 ≤ R.frames) (hR2 : 30 ≤ R.locals) (K : Gd p l e R s m args below meth c Q D tys S0 ro RO as0 c0 s0 (pc + 3) (ls) (st) (h)) : Gd p l e R s m args below meth c Q D tys S0 ro RO as0 c0 s0 (pc) (ls) (.ref k :: st) (h) := by
  intro as H locs cells slots ml ms hp hw hL hs hS hc hq
  obtain ⟨w1, u1, rfl, q1, hs1⟩ := hs.cons
  obtain ⟨z, rfl⟩ := q1.isRef hk
  have hsum := hs1.sum
  refine W.objInit hx hb hown (hts _ hl1) (hts _ hl2) (hts _ hl3) rfl hL.1.1 rfl d hR1 ?_ (K as H locs cells slots ml u1 hp hw hL hs1 hS hc hq)
  have h0 := lv_room (m := m) (pc := pc) (ls := ml) (rest := Value.ref z :: u1) (st := u1) (by rw [hsum]; exact hst)
  omega
theorem fitB_spec {f : Nat → Int32} {p : Nat} : ∀ {n : Nat}, fitB f p n = true → ∀ i, i < n → fits .byte (.int (f (p + i))) = true
  | 0, _, i, hi => by omega
  | n + 1, h, i, hi => by
    simp only [fitB, Bool.and_eq_true] at h
    by_cases e : i = n
    · subst e; exact h.1
    · exact fitB_spec h.2 i (by omega)
/-- the library's copy of rows -/
theorem gd_copy (hx : p.tables.exec = Jvm.exec) (hb : c.code = cc) (hown : s.vm.findClass own = some m.cls) (hts : ∀ w ∈ lwG, w.before args s = true) (hE : EN D tys S0 ro RO s)
    {ix a b n0 n1 : Nat} {f g : Nat → Int32} {sp dp n : Int32} (d : decode cc pc = .ok (.invokestatic ix, 3)) (hl1 : Jvm.Cond.methodLink own ix arraycopyName ∈ lwG) (hl2 : Jvm.Cond.native arraycopyName ∈ lwG) (hl3 : Jvm.Cond.static arraycopyName ∈ lwG) (hl4 : Jvm.Cond.initialized "java/lang/System" ∈ lwG)
    {k0 kk1 : Nat} (hob : h.2 b = some (.inl (k0, n0, .inl f))) (hoa : h.2 a = some (.inl (kk1, n1, .inl g))) (h3 : 300 ≤ a) (h4 : k0 = 0 ∧ kk1 = 0 ∧ 300 ≤ b ∨ k0 = 2 ∧ kk1 = 2 ∧ fitB f sp.toNatClampNeg n.toNatClampNeg = true) (k1 : ¬ sp < 0) (k2 : ¬ dp < 0) (k3 : ¬ n < 0) (k4 : sp.toNatClampNeg + n.toNatClampNeg ≤ n0) (k5 : dp.toNatClampNeg + n.toNatClampNeg ≤ n1) (hst : psum st ≤ 8) (hR1 : 1 ≤ R.frames) (hR2 : 60 ≤ R.locals)
    (K : Gd p l e R s m args below meth c Q D tys S0 ro RO as0 c0 s0 (pc + 3) (ls) (st) (hset h a (.inl (kk1, n1, .inl (va_cpy f g sp.toNatClampNeg dp.toNatClampNeg n.toNatClampNeg))))) : Gd p l e R s m args below meth c Q D tys S0 ro RO as0 c0 s0 (pc) (ls) (.int n :: .int dp :: .ref a :: .int sp :: .ref b :: st) (h) := by
  intro as H locs cells slots ml ms hp hw hL hs hS hc hq
  obtain ⟨w1, u1, rfl, q1, hs1⟩ := hs.cons
  obtain ⟨w2, u2, rfl, q2, hs2⟩ := hs1.cons
  obtain ⟨w3, u3, rfl, q3, hs3⟩ := hs2.cons
  obtain ⟨w4, u4, rfl, q4, hs4⟩ := hs3.cons
  obtain ⟨w5, u5, rfl, q5, hs5⟩ := hs4.cons
  cases q1; cases q2; cases q4
  obtain ⟨z, hz, rfl⟩ := q3.at (by omega)
  have hsum := hs5.sum
  have hnf : nativeFrameWords "java/lang/System" "arraycopy" 5 ≤ 40 := by decide
  have hloc : (u5.map fun v => v.category).sum + (nativeFrameWords "java/lang/System" "arraycopy" 5 + 11) ≤ R.locals := by rw [hsum]; omega
  obtain ⟨j1, j2, j3, j4, j5, ws, hl, hws, hP, hD⟩ := id hw
  have e9 : 300 + (a - 300) = a := Nat.add_sub_cancel' h3
  obtain ⟨ea, a1, a2⟩ := hws (a - 300) z (by rw [e9]; exact hz)
  obtain ⟨cA, rfl, a3⟩ := (a2 _ (by rw [e9]; exact hoa)).row
  have K2 : ∀ (H1 : Heap) (locs1 : List Loc), va_P D vwCl (ws.set (a - 300) (z, .inl (cA, n1, .inl (va_cpy f g sp.toNatClampNeg dp.toNatClampNeg n.toNatClampNeg)))) H1 → va_D (A0 S0) (ws.set (a - 300) (z, .inl (cA, n1, .inl (va_cpy f g sp.toNatClampNeg dp.toNatClampNeg n.toNatClampNeg)))) → va_S (A0 S0) s.heap H1 locs1 → W p l e R s m args below meth c H1 locs1 cells slots Q (F0 m (pc + 3) ml u5) := by
    intro H1 locs1 hP1 hD1 hS1
    refine K as H1 locs1 cells slots ml u5 hp ?_ hL hs5 hS1 hc hq
    generalize a - 300 = q9 at e9 a1 hP1 hD1 ⊢
    have hlt := (List.getElem?_eq_some_iff.mp a1).1
    refine ⟨j1, j2, j3, fun q hq => ?_, fun q hq => ?_, _, ?_, fun q b1 hb1 => ?_, hP1, hD1⟩
    · have : q ≠ a := by omega
      simp only [hset, if_neg this]
      exact j4 q hq
    · have hkl : a < h.1.1 := by
        have := (List.getElem?_eq_some_iff.mp hz).1
        omega
      have hq' : h.1.1 ≤ q := hq
      have : q ≠ a := by omega
      simp only [hset, if_neg this]
      exact j5 q hq
    · rw [List.length_set]; exact hl
    · by_cases hqk : q = q9
      · subst hqk
        rw [e9] at hb1
        rw [hz] at hb1
        cases hb1
        refine ⟨_, by rw [List.getElem?_set_self hlt], fun c2 hc2 => ?_⟩
        simp only [hset, e9, if_true] at hc2
        cases hc2
        exact ⟨a3, by omega, rfl, rfl⟩
      · obtain ⟨e4, g6, g7⟩ := hws q b1 hb1
        refine ⟨e4, by rw [List.getElem?_set_ne (Ne.symm hqk)]; exact g6, fun c2 hc2 => ?_⟩
        have : 300 + q ≠ a := by omega
        simp only [hset, if_neg this] at hc2
        exact g7 c2 hc2
  by_cases hb3 : 300 ≤ b
  · obtain ⟨y, hy, rfl⟩ := q5.at (by omega)
    have e1 : 300 + (b - 300) = b := Nat.add_sub_cancel' hb3
    obtain ⟨eb, b1, b2⟩ := hws (b - 300) y (by rw [e1]; exact hy)
    obtain ⟨cB, rfl, b3⟩ := (b2 _ (by rw [e1]; exact hob)).row
    rcases h4 with ⟨rfl, rfl, -⟩ | ⟨rfl, rfl, hfb⟩
    · exact va_copyi hx hb (by rw [hL.1.1]) hown (hts _ hl1) (hts _ hl2) (hts _ hl3) (hts _ hl4) hE.1 hP hD hS _ _ 0 0 b1 a1 b3 a3 rfl k1 k2 k3 k4 k5 (fun _ _ => rfl) hR1 hloc d K2
    · exact va_copyi hx hb (by rw [hL.1.1]) hown (hts _ hl1) (hts _ hl2) (hts _ hl3) (hts _ hl4) hE.1 hP hD hS _ _ 2 2 b1 a1 b3 a3 rfl k1 k2 k3 k4 k5 (fitB_spec hfb) hR1 hloc d K2
  · rcases h4 with ⟨-, -, h4⟩ | ⟨rfl, rfl, hfb⟩
    · exact absurd h4 hb3
    obtain ⟨e1, e2, e3⟩ := hw.low (show b < 300 by omega)
    rw [hob] at e1
    obtain ⟨h9, b0, gb, f1, f2, f3, f4⟩ := hE.2.2.2.1 b 2 (n0, .inl f) e1.symm
    obtain ⟨y, hy, rfl⟩ := q5.at (by omega)
    rw [e2, f1] at hy
    cases hy
    have hX : va_T .byte b0 n0 (fun j => .int (f j)) (A0 S0) s s.heap := by
      obtain ⟨cell, c1, c2, c3, c4, c5, c6, c7⟩ := f3
      refine ⟨cell, c1, c2, c3, c4, c5, fun j hj => ?_, c7⟩
      rw [c6 j hj]
      exact congrArg some (f4 j hj)
    exact vk_copyt hx hb (by rw [hL.1.1]) hown (hts _ hl1) (hts _ hl2) (hts _ hl3) (hts _ hl4) hE.1 hP hD hS hX _ 2 a1 a3 k1 k2 k3 k4 k5 (fitB_spec hfb) hR1 hloc d K2
end SND3
