
/-! WHAT IS READ ALONE (texts, the script, fixed statics), and the step of the plain machine as the JVM's -/
def A0 (S0 : Nat) : Nat → Prop := fun q => S0 ≤ q
def xval (x : vp_A) (j : Nat) : Value := match x.2 with
  | .inl f => .int (f j)
  | .inr (.inl f) => .long (f j)
  | .inr (.inr (.inr (.inr f))) => va_rf (f j)
  | _ => .null
def STT : List (String × String × String × Value) := [("java/lang/String", "COMPACT_STRINGS", "Z", .int 1), ("jdk/internal/util/Preconditions", "SIOOBE_FORMATTER", "Ljava/util/function/BiFunction;", .ref 201), ("LampLightersLaw", "WORDS", "[Ljava/lang/String;", .ref 200), ("java/lang/Integer", "DigitOnes", "[B", .ref 190)]
def STR : List (String × Nat × String × Nat) := [("LampLighters$Tokens", 25, "lamp at holds round light douse trim fill wait note go walk do if and else oil wick lit can moon hour post", 1), ("LampLighters", 76, "no can holds so much", 2), ("LampLighters", 85, "all lighters are hired", 3), ("LampLighters", 143, "quarters are 1 to 40", 4), ("LampLighters", 226, "no such lamp", 5), ("LampLighters", 228, "no such lighter", 6), ("LampLighters", 209, "quarters are 1 to 80", 7), ("LampLighters", 189, "this one has no round", 8), ("LampLighters", 200, "no such note", 9), ("LampLighters", 62, "the tape has no such length", 10), ("LampLighters", 51, "the tape is full", 11), ("LampLighters$Tokens", 72, "();<>=", 12), ("LampLightersLaw", 155, "lamp l", 13), ("LampLightersLaw", 157, " at ", 14), ("LampLightersLaw", 159, " holds ", 15), ("LampLightersLaw", 161, ";\n", 16), ("LampLightersLaw", 163, "round r", 17), ("LampLightersLaw", 58, " (", 18), ("LampLightersLaw", 97, "light", 19), ("LampLightersLaw", 99, "douse", 20), ("LampLightersLaw", 101, "trim", 21), ("LampLightersLaw", 102, "fill ", 22), ("LampLightersLaw", 104, "wait ", 23), ("LampLightersLaw", 106, "note ", 24), ("LampLightersLaw", 108, "go l", 25), ("LampLightersLaw", 110, "walk r", 26), ("LampLightersLaw", 112, "do ", 27), ("LampLightersLaw", 114, "if ", 28), ("LampLightersLaw", 41, "", 29), ("LampLightersLaw", 130, " and ", 30), ("LampLightersLaw", 132, "<>=", 31), ("LampLightersLaw", 134, ";", 32), ("LampLightersLaw", 143, " else", 33), ("LampLightersLaw", 148, ")\n", 34), ("LampLighters", 100, "no such round", 35), ("LampLighters", 126, "oil is 1 to 30", 36), ("LampLighters", 149, "nights are 1 to 5", 37), ("LampLightersLaw", 317, "oil", 38), ("LampLightersLaw", 319, "wick", 39), ("LampLightersLaw", 321, "lit", 40), ("LampLightersLaw", 323, "can", 41), ("LampLightersLaw", 325, "moon", 42), ("LampLightersLaw", 327, "hour", 43), ("LampLightersLaw", 329, "post", 44)]
/-- words that go on by laws of their own -/
def isNw : Jvm.Cond → Bool
  | .fieldLinkNest .. => true
  | .methodLinkNest .. => true
  | .castable .. => true
  | .declares .. => true
  | .arrayOver (.object _) => true
  | .arrayOver (.array _) => true
  | _ => false
def lwB : List Jvm.Cond := lw_tbl.filter isNw
def NCS : List (String × String) := []
theorem aoA_moved {t : FieldType} {A A' : Array Value} {u U : State} (hvm : u.vm.Alike U.vm) (h : (Jvm.Cond.arrayOver (.array t)).before A u = true) : (Jvm.Cond.arrayOver (.array t)).before A' U = true := by
  obtain ⟨comp, c, k, h1, h2, h3, h4, h5⟩ := arrayOverA_spec h
  obtain ⟨k', hk', he⟩ := hvm.2.2 _ _ h3
  have hi : (U.vm.classes.findIdx? fun (x : Class) => match x.kind with | .array component _ => component == comp | _ => false) = some c := by
    rw [hvm.findIdx?_eq _ (fun _ => rfl)]
    exact h2
  have hkind : k'.kind = .array comp (.array t) := by rw [he]; exact h4
  have f1 : U.vm.findClass (FieldType.array t).toString = some comp := by rw [hvm.findClass]; exact h1
  have f2 : U.vm.findClass ("[" ++ (FieldType.array t).toString) = some c := by rw [hvm.findClass]; exact h5
  unfold Cond.before Cond.holds
  simp only [Cond.value]
  rw [f1, Option.bind_some]
  refine (congrArg (fun o : Option Nat => (o.bind (fun c => (U.vm.classes[c]?).map fun (k : Class) => match k.kind with | .array _ ty => decide (ty = FieldType.array t) && decide (U.vm.findClass ("[" ++ (FieldType.array t).toString) = some c) | _ => false) == some true)) hi).trans ?_
  simp [hk', hkind, f2]
theorem isNw_warm {w : Jvm.Cond} {s U : State} (h : isNw w = true) (hW : s.WarmedH U.vm) (hz : va_Nw w s) : va_Nw w U := by
  cases w with
  | fieldLinkNest => exact va_Nw.warmF hW hz
  | methodLinkNest => exact va_Nw.warmM hW hz
  | castable => exact va_Nw.warmC hW hz
  | declares => exact va_Nw.warmD hW hz
  | arrayOver t =>
    cases t with
    | object C => exact va_AO.moved hW.alike (show va_AO C s from hz)
    | array t => exact aoA_moved hW.alike hz
    | _ => simp [isNw] at h
  | _ => simp [isNw] at h
theorem isNw_same {w : Jvm.Cond} {s U : State} (h : isNw w = true) (hv : s.vm = U.vm) (hz : va_Nw w s) : va_Nw w U := by
  cases w with
  | fieldLinkNest => exact va_Nw.same rfl hv hz
  | methodLinkNest => exact va_Nw.same rfl hv hz
  | castable => exact va_Nw.same rfl hv hz
  | declares => exact va_Nw.same rfl hv hz
  | arrayOver t =>
    cases t with
    | object C => exact va_AO.moved (by rw [hv]; exact Vm.Alike.refl _) (show va_AO C s from hz)
    | array t => exact aoA_moved (by rw [hv]; exact Vm.Alike.refl _) hz
    | _ => simp [isNw] at h
  | _ => simp [isNw] at h
def RK (S0 : Nat) (ro : List Nat) (RO : Nat → Option PC) (s : State) : Prop :=
  (∀ (k t : Nat) (x : vp_A), RO k = some (.inl (t, x)) → k < 201 ∧ ∃ (a : Nat) (g : Nat → Value), ro[k]? = some a ∧ (t = 0 ∨ t = 2 ∨ t = 6) ∧ va_T (tyOf t) a x.1 g (A0 S0) s s.heap ∧ ∀ j, j < x.1 → VR ro (xval x j) (g j)) ∧
  (∀ (k ci : Nat) (fs : List Value), RO k = some (.inr (ci, fs)) → k < 201 ∧ ci = 13 ∧ ∃ (a : Nat) (v0 v1 g0 g1 : Value), ro[k]? = some a ∧ fs = [v0, v1] ∧ va_O "java/lang/String" a (A0 S0) s s.heap ∧ va_OF "java/lang/String" "value" "[B" g0 a (A0 S0) s s.heap ∧ VR ro v0 g0 ∧ va_OF "java/lang/String" "coder" "B" g1 a (A0 S0) s s.heap ∧ VR ro v1 g1) ∧
  (∀ q ∈ STT, ∃ w, VR ro q.2.2.2 w ∧ va_Z q.1 q.2.1 q.2.2.1 w (A0 S0) s s.heap) ∧
  (∀ q ∈ STR, ∃ a, ro[q.2.2.2]? = some a ∧ vk_R q.1 q.2.1 q.2.2.1 a s) ∧
  vx_Zq Bundle.tN "UNASSIGNED_STACK" Bundle.steD (A0 S0) s s.heap ∧ vx_Zq Bundle.tN "SUPPRESSED_SENTINEL" Bundle.listD (A0 S0) s s.heap ∧
  (∀ w ∈ lwB, va_Nw w s) ∧ ∀ q ∈ NCS, va_Nc q.1 q.2 s
/-- what a method's start has of its surroundings -/
def EN (D : va_G) (tys : List (ClassId × FieldType)) (S0 : Nat) (ro : List Nat) (RO : Nat → Option PC) (s : State) : Prop :=
  va_K D vwCl tys s ∧ (∀ t, t < 9 → ∃ cA, tys[t]? = some (cA, tyOf t)) ∧ S0 ≤ s.heap.size ∧ RK S0 ro RO s
theorem EN.move {D : va_G} {tys : List (ClassId × FieldType)} {S0 : Nat} {ro : List Nat} {RO : Nat → Option PC} {s U : State} (h : EN D tys S0 ro RO s) (hW : s.WarmedH U.vm) (hz : s.heap.size ≤ U.heap.size) (hq : ∀ a : Nat, a < s.heap.size → ¬ A0 S0 a → U.heap[a]? = s.heap[a]?) : EN D tys S0 ro RO U := by
  obtain ⟨h1, h2, h3, h4, h5, h6, h7, h8, h9, h10, h11⟩ := h
  have hv := hW.alike
  refine ⟨va_K.moved hv h1, h2, Nat.le_trans h3 hz, ?_, ?_, ?_, ?_, (h8.kept hq).moved hv, (h9.kept hq).moved hv, fun w hw => isNw_warm (List.mem_filter.mp hw).2 hW (h10 w hw), fun q hq1 => (h11 q hq1).moved hv⟩
  · intro k t x hk
    obtain ⟨q0, a, g, q1, q2, q3, q4⟩ := h4 k t x hk
    exact ⟨q0, a, g, q1, q2, (q3.kept hq).moved hv, q4⟩
  · intro k ci fs hk
    obtain ⟨q0, q00, a, v0, v1, g0, g1, q1, q2, q3, q4, q5, q6, q7⟩ := h5 k ci fs hk
    exact ⟨q0, q00, a, v0, v1, g0, g1, q1, q2, (q3.kept hq).moved hv, (q4.kept hq).moved hv, q5, (q6.kept hq).moved hv, q7⟩
  · intro q hq1
    obtain ⟨w, q1, q2⟩ := h6 q hq1
    exact ⟨w, q1, (q2.kept hq).moved hv⟩
  · intro q hq1
    obtain ⟨a, q1, q2⟩ := h7 q hq1
    exact ⟨a, q1, vk_R.warm hW q2⟩
/-- a change of the frames alone -/
theorem EN.calling {D : va_G} {tys : List (ClassId × FieldType)} {S0 : Nat} {ro : List Nat} {RO : Nat → Option PC} {U : State} (g : JFrame) (mk : MethodId) (a : Array Value) (h : EN D tys S0 ro RO U) : EN D tys S0 ro RO (U.calling g mk a) := by
  obtain ⟨h1, h2, h3, h4, h5, h6, h7, h8, h9, h10, h11⟩ := h
  have hv : U.vm.Alike (U.calling g mk a).vm := Vm.Alike.refl U.vm
  refine ⟨va_K.moved hv h1, h2, h3, ?_, ?_, ?_, ?_, h8.moved hv, h9.moved hv, fun w hw => isNw_same (s := U) (U := U.calling g mk a) (List.mem_filter.mp hw).2 rfl (h10 w hw), fun q hq1 => (h11 q hq1).moved hv⟩
  · intro k t x hk
    obtain ⟨q0, a, g, q1, q2, q3, q4⟩ := h4 k t x hk
    exact ⟨q0, a, g, q1, q2, q3.moved hv, q4⟩
  · intro k ci fs hk
    obtain ⟨q0, q00, a, v0, v1, g0, g1, q1, q2, q3, q4, q5, q6, q7⟩ := h5 k ci fs hk
    exact ⟨q0, q00, a, v0, v1, g0, g1, q1, q2, q3.moved hv, q4.moved hv, q5, q6.moved hv, q7⟩
  · intro q hq1
    obtain ⟨w, q1, q2⟩ := h6 q hq1
    exact ⟨w, q1, q2.moved hv⟩
  · intro q hq1
    obtain ⟨a, q1, q2⟩ := h7 q hq1
    exact ⟨a, q1, vk_R.same rfl q2⟩
/-- the tables' words that every method may use -/
def lwG : List Jvm.Cond := lw_tbl.filter (fun w => k2_isCode w || goodWord w)
theorem lwG_at {w : Jvm.Cond} {n : Nat} (h : lw_tbl[n]? = some w) (hg : (k2_isCode w || goodWord w) = true) : w ∈ lwG := List.mem_filter.mpr ⟨List.mem_of_getElem? h, hg⟩
theorem lwG_good : ∀ w ∈ lwG, (w.onTables && w.keeps) = true ∨ ∃ ty, w = .arrayClass ty := by
  intro w hw
  have h := (List.mem_filter.mp hw).2
  rw [Bool.or_eq_true] at h
  rcases h with h | h
  · cases w <;> first | (simp [k2_isCode] at h; done) | exact Or.inl rfl
  · exact good_of_word h
def hostN (n : Nat) : String := match n with
  | 1 => "LampLighters"
  | 2 => "LampLightersLaw"
  | _ => "LampLightersLaw"
section SND
variable {p : Program} {l : Launch} {e : Env} {R : Room} {s : State} {m : MethodId} {args : Array Value} {below : List Frame} {meth : Method} {c : Code} {Q : State → Prop}
variable {D : va_G} {tys : List (ClassId × FieldType)} {S0 : Nat} {ro : List Nat} {RO : Nat → Option PC} {as0 : List Nat} {c0 s0 : Nat} {cc : ByteArray} {pc : Nat} {ls : PL} {st : List Value} {h : PH} {own : String}
/-- from here on, wherever the JVM stands as the plain machine does, it comes to Q -/
def Gd (p : Program) (l : Launch) (e : Env) (R : Room) (s : State) (m : MethodId) (args : Array Value) (below : List Frame) (meth : Method) (c : Code) (Q : State → Prop) (D : va_G) (tys : List (ClassId × FieldType)) (S0 : Nat) (ro : List Nat) (RO : Nat → Option PC) (as0 : List Nat) (c0 s0 : Nat) (pc : Nat) (ls : PL) (st : List Value) (h : PH) : Prop :=
  ∀ (as : List Nat) (H : Heap) (locs : List Loc) (cells slots : Nat) (ml : Array Slot) (ms : List Value), as0 <+: as → PW D tys (A0 S0) ro RO as h H → LR as c.maxLocals ls ml → SR as st ms → va_S (A0 S0) s.heap H locs → h.1.2.1 = c0 + cells → h.1.2.2 = s0 + slots → W p l e R s m args below meth c H locs cells slots Q (F0 m pc ml ms)
theorem gd_iconst (hx : p.tables.exec = Jvm.exec) (hb : c.code = cc) {n : Int} (d : decode cc pc = .ok (.iconst n, 1)) (K : Gd p l e R s m args below meth c Q D tys S0 ro RO as0 c0 s0 (pc + 1) (ls) (.int (Int32.ofInt n) :: st) (h)): Gd p l e R s m args below meth c Q D tys S0 ro RO as0 c0 s0 (pc) (ls) (st) (h) := by
  intro as H locs cells slots ml ms hp hw hL hs hS hc hq
  exact lv_iconst hx hb d rfl (K as H locs cells slots ml _ hp hw hL ⟨rfl, hs⟩ hS hc hq)
theorem gd_bipush (hx : p.tables.exec = Jvm.exec) (hb : c.code = cc) {n : Int} (d : decode cc pc = .ok (.bipush n, 2)) (K : Gd p l e R s m args below meth c Q D tys S0 ro RO as0 c0 s0 (pc + 2) (ls) (.int (Int8.ofInt n).toInt32 :: st) (h)): Gd p l e R s m args below meth c Q D tys S0 ro RO as0 c0 s0 (pc) (ls) (st) (h) := by
  intro as H locs cells slots ml ms hp hw hL hs hS hc hq
  exact lv_bipush hx hb d rfl (K as H locs cells slots ml _ hp hw hL ⟨rfl, hs⟩ hS hc hq)
theorem gd_sipush (hx : p.tables.exec = Jvm.exec) (hb : c.code = cc) {n : Int} (d : decode cc pc = .ok (.sipush n, 3)) (K : Gd p l e R s m args below meth c Q D tys S0 ro RO as0 c0 s0 (pc + 3) (ls) (.int (Int16.ofInt n).toInt32 :: st) (h)): Gd p l e R s m args below meth c Q D tys S0 ro RO as0 c0 s0 (pc) (ls) (st) (h) := by
  intro as H locs cells slots ml ms hp hw hL hs hS hc hq
  exact lv_sipush hx hb d rfl (K as H locs cells slots ml _ hp hw hL ⟨rfl, hs⟩ hS hc hq)
theorem gd_lconst (hx : p.tables.exec = Jvm.exec) (hb : c.code = cc) {n : Fin 2} (d : decode cc pc = .ok (.lconst n, 1)) (K : Gd p l e R s m args below meth c Q D tys S0 ro RO as0 c0 s0 (pc + 1) (ls) (.long (Int64.ofNat (n : Nat)) :: st) (h)): Gd p l e R s m args below meth c Q D tys S0 ro RO as0 c0 s0 (pc) (ls) (st) (h) := by
  intro as H locs cells slots ml ms hp hw hL hs hS hc hq
  exact lv_lconst hx hb d rfl (K as H locs cells slots ml _ hp hw hL ⟨rfl, hs⟩ hS hc hq)
theorem gd_dconst0 (hx : p.tables.exec = Jvm.exec) (hb : c.code = cc)  (d : decode cc pc = .ok (.dconst 0, 1)) (K : Gd p l e R s m args below meth c Q D tys S0 ro RO as0 c0 s0 (pc + 1) (ls) (.double FP.dconst0 :: st) (h)): Gd p l e R s m args below meth c Q D tys S0 ro RO as0 c0 s0 (pc) (ls) (st) (h) := by
  intro as H locs cells slots ml ms hp hw hL hs hS hc hq
  exact lv_dconst0 hx hb d (K as H locs cells slots ml _ hp hw hL ⟨rfl, hs⟩ hS hc hq)
theorem gd_anull (hx : p.tables.exec = Jvm.exec) (hb : c.code = cc)  (d : decode cc pc = .ok (.aconst_null, 1)) (K : Gd p l e R s m args below meth c Q D tys S0 ro RO as0 c0 s0 (pc + 1) (ls) (.null :: st) (h)): Gd p l e R s m args below meth c Q D tys S0 ro RO as0 c0 s0 (pc) (ls) (st) (h) := by
  intro as H locs cells slots ml ms hp hw hL hs hS hc hq
  exact lv_null hx hb d (K as H locs cells slots ml _ hp hw hL ⟨rfl, hs⟩ hS hc hq)
theorem gd_iadd (hx : p.tables.exec = Jvm.exec) (hb : c.code = cc) {x y : Int32} (d : decode cc pc = .ok (.iadd, 1))  (K : Gd p l e R s m args below meth c Q D tys S0 ro RO as0 c0 s0 (pc + 1) (ls) (.int (x + y) :: st) (h)): Gd p l e R s m args below meth c Q D tys S0 ro RO as0 c0 s0 (pc) (ls) (.int y :: .int x :: st) (h) := by
  intro as H locs cells slots ml ms hp hw hL hs hS hc hq
  obtain ⟨w1, u1, rfl, q1, hs1⟩ := hs.cons
  obtain ⟨w2, u2, rfl, q2, hs2⟩ := hs1.cons
  cases q1; cases q2
  exact lv_iadd hx hb d (K as H locs cells slots ml _ hp hw hL ⟨rfl, hs2⟩ hS hc hq)
theorem gd_isub (hx : p.tables.exec = Jvm.exec) (hb : c.code = cc) {x y : Int32} (d : decode cc pc = .ok (.isub, 1))  (K : Gd p l e R s m args below meth c Q D tys S0 ro RO as0 c0 s0 (pc + 1) (ls) (.int (x - y) :: st) (h)): Gd p l e R s m args below meth c Q D tys S0 ro RO as0 c0 s0 (pc) (ls) (.int y :: .int x :: st) (h) := by
  intro as H locs cells slots ml ms hp hw hL hs hS hc hq
  obtain ⟨w1, u1, rfl, q1, hs1⟩ := hs.cons
  obtain ⟨w2, u2, rfl, q2, hs2⟩ := hs1.cons
  cases q1; cases q2
  exact lv_isub hx hb d (K as H locs cells slots ml _ hp hw hL ⟨rfl, hs2⟩ hS hc hq)
theorem gd_imul (hx : p.tables.exec = Jvm.exec) (hb : c.code = cc) {x y : Int32} (d : decode cc pc = .ok (.imul, 1))  (K : Gd p l e R s m args below meth c Q D tys S0 ro RO as0 c0 s0 (pc + 1) (ls) (.int (x * y) :: st) (h)): Gd p l e R s m args below meth c Q D tys S0 ro RO as0 c0 s0 (pc) (ls) (.int y :: .int x :: st) (h) := by
  intro as H locs cells slots ml ms hp hw hL hs hS hc hq
  obtain ⟨w1, u1, rfl, q1, hs1⟩ := hs.cons
  obtain ⟨w2, u2, rfl, q2, hs2⟩ := hs1.cons
  cases q1; cases q2
  exact lv_imul hx hb d (K as H locs cells slots ml _ hp hw hL ⟨rfl, hs2⟩ hS hc hq)
theorem gd_iand (hx : p.tables.exec = Jvm.exec) (hb : c.code = cc) {x y : Int32} (d : decode cc pc = .ok (.iand, 1))  (K : Gd p l e R s m args below meth c Q D tys S0 ro RO as0 c0 s0 (pc + 1) (ls) (.int (x &&& y) :: st) (h)): Gd p l e R s m args below meth c Q D tys S0 ro RO as0 c0 s0 (pc) (ls) (.int y :: .int x :: st) (h) := by
  intro as H locs cells slots ml ms hp hw hL hs hS hc hq
  obtain ⟨w1, u1, rfl, q1, hs1⟩ := hs.cons
  obtain ⟨w2, u2, rfl, q2, hs2⟩ := hs1.cons
  cases q1; cases q2
  exact lv_iand hx hb d (K as H locs cells slots ml _ hp hw hL ⟨rfl, hs2⟩ hS hc hq)
theorem gd_ior (hx : p.tables.exec = Jvm.exec) (hb : c.code = cc) {x y : Int32} (d : decode cc pc = .ok (.ior, 1))  (K : Gd p l e R s m args below meth c Q D tys S0 ro RO as0 c0 s0 (pc + 1) (ls) (.int (Int32.lor x y) :: st) (h)): Gd p l e R s m args below meth c Q D tys S0 ro RO as0 c0 s0 (pc) (ls) (.int y :: .int x :: st) (h) := by
  intro as H locs cells slots ml ms hp hw hL hs hS hc hq
  obtain ⟨w1, u1, rfl, q1, hs1⟩ := hs.cons
  obtain ⟨w2, u2, rfl, q2, hs2⟩ := hs1.cons
  cases q1; cases q2
  exact lv_ior hx hb d (K as H locs cells slots ml _ hp hw hL ⟨rfl, hs2⟩ hS hc hq)
theorem gd_ishl (hx : p.tables.exec = Jvm.exec) (hb : c.code = cc) {x y : Int32} (d : decode cc pc = .ok (.ishl, 1))  (K : Gd p l e R s m args below meth c Q D tys S0 ro RO as0 c0 s0 (pc + 1) (ls) (.int (x <<< (y &&& 31)) :: st) (h)): Gd p l e R s m args below meth c Q D tys S0 ro RO as0 c0 s0 (pc) (ls) (.int y :: .int x :: st) (h) := by
  intro as H locs cells slots ml ms hp hw hL hs hS hc hq
  obtain ⟨w1, u1, rfl, q1, hs1⟩ := hs.cons
  obtain ⟨w2, u2, rfl, q2, hs2⟩ := hs1.cons
  cases q1; cases q2
  exact lv_ishl hx hb d (K as H locs cells slots ml _ hp hw hL ⟨rfl, hs2⟩ hS hc hq)
theorem gd_ishr (hx : p.tables.exec = Jvm.exec) (hb : c.code = cc) {x y : Int32} (d : decode cc pc = .ok (.ishr, 1))  (K : Gd p l e R s m args below meth c Q D tys S0 ro RO as0 c0 s0 (pc + 1) (ls) (.int (x >>> (y &&& 31)) :: st) (h)): Gd p l e R s m args below meth c Q D tys S0 ro RO as0 c0 s0 (pc) (ls) (.int y :: .int x :: st) (h) := by
  intro as H locs cells slots ml ms hp hw hL hs hS hc hq
  obtain ⟨w1, u1, rfl, q1, hs1⟩ := hs.cons
  obtain ⟨w2, u2, rfl, q2, hs2⟩ := hs1.cons
  cases q1; cases q2
  exact lv_ishr hx hb d (K as H locs cells slots ml _ hp hw hL ⟨rfl, hs2⟩ hS hc hq)
theorem gd_iushr (hx : p.tables.exec = Jvm.exec) (hb : c.code = cc) {x y : Int32} (d : decode cc pc = .ok (.iushr, 1))  (K : Gd p l e R s m args below meth c Q D tys S0 ro RO as0 c0 s0 (pc + 1) (ls) (.int ((x.toUInt32 >>> (y.toUInt32 &&& Int32.toUInt32 31)).toInt32) :: st) (h)): Gd p l e R s m args below meth c Q D tys S0 ro RO as0 c0 s0 (pc) (ls) (.int y :: .int x :: st) (h) := by
  intro as H locs cells slots ml ms hp hw hL hs hS hc hq
  obtain ⟨w1, u1, rfl, q1, hs1⟩ := hs.cons
  obtain ⟨w2, u2, rfl, q2, hs2⟩ := hs1.cons
  cases q1; cases q2
  exact lv_iushr hx hb d rfl (K as H locs cells slots ml _ hp hw hL ⟨rfl, hs2⟩ hS hc hq)
theorem gd_idiv (hx : p.tables.exec = Jvm.exec) (hb : c.code = cc) {x y : Int32} (d : decode cc pc = .ok (.idiv, 1)) (hy : ¬ y = 0)  (K : Gd p l e R s m args below meth c Q D tys S0 ro RO as0 c0 s0 (pc + 1) (ls) (.int (x / y) :: st) (h)): Gd p l e R s m args below meth c Q D tys S0 ro RO as0 c0 s0 (pc) (ls) (.int y :: .int x :: st) (h) := by
  intro as H locs cells slots ml ms hp hw hL hs hS hc hq
  obtain ⟨w1, u1, rfl, q1, hs1⟩ := hs.cons
  obtain ⟨w2, u2, rfl, q2, hs2⟩ := hs1.cons
  cases q1; cases q2
  exact lv_idiv hx hb d hy (K as H locs cells slots ml _ hp hw hL ⟨rfl, hs2⟩ hS hc hq)
theorem gd_irem (hx : p.tables.exec = Jvm.exec) (hb : c.code = cc) {x y : Int32} (d : decode cc pc = .ok (.irem, 1)) (hy : ¬ y = 0)  (K : Gd p l e R s m args below meth c Q D tys S0 ro RO as0 c0 s0 (pc + 1) (ls) (.int (x - x / y * y) :: st) (h)): Gd p l e R s m args below meth c Q D tys S0 ro RO as0 c0 s0 (pc) (ls) (.int y :: .int x :: st) (h) := by
  intro as H locs cells slots ml ms hp hw hL hs hS hc hq
  obtain ⟨w1, u1, rfl, q1, hs1⟩ := hs.cons
  obtain ⟨w2, u2, rfl, q2, hs2⟩ := hs1.cons
  cases q1; cases q2
  exact lv_irem hx hb d hy (K as H locs cells slots ml _ hp hw hL ⟨rfl, hs2⟩ hS hc hq)
theorem gd_ladd (hx : p.tables.exec = Jvm.exec) (hb : c.code = cc) {x y : Int64} (d : decode cc pc = .ok (.ladd, 1)) (K : Gd p l e R s m args below meth c Q D tys S0 ro RO as0 c0 s0 (pc + 1) (ls) (.long (x + y) :: st) (h)): Gd p l e R s m args below meth c Q D tys S0 ro RO as0 c0 s0 (pc) (ls) (.long y :: .long x :: st) (h) := by
  intro as H locs cells slots ml ms hp hw hL hs hS hc hq
  obtain ⟨w1, u1, rfl, q1, hs1⟩ := hs.cons
  obtain ⟨w2, u2, rfl, q2, hs2⟩ := hs1.cons
  cases q1; cases q2
  exact lv_ladd hx hb d (K as H locs cells slots ml _ hp hw hL ⟨rfl, hs2⟩ hS hc hq)
theorem gd_lsub (hx : p.tables.exec = Jvm.exec) (hb : c.code = cc) {x y : Int64} (d : decode cc pc = .ok (.lsub, 1)) (K : Gd p l e R s m args below meth c Q D tys S0 ro RO as0 c0 s0 (pc + 1) (ls) (.long (x - y) :: st) (h)): Gd p l e R s m args below meth c Q D tys S0 ro RO as0 c0 s0 (pc) (ls) (.long y :: .long x :: st) (h) := by
  intro as H locs cells slots ml ms hp hw hL hs hS hc hq
  obtain ⟨w1, u1, rfl, q1, hs1⟩ := hs.cons
  obtain ⟨w2, u2, rfl, q2, hs2⟩ := hs1.cons
  cases q1; cases q2
  exact lv_lsub hx hb d (K as H locs cells slots ml _ hp hw hL ⟨rfl, hs2⟩ hS hc hq)
theorem gd_lmul (hx : p.tables.exec = Jvm.exec) (hb : c.code = cc) {x y : Int64} (d : decode cc pc = .ok (.lmul, 1)) (K : Gd p l e R s m args below meth c Q D tys S0 ro RO as0 c0 s0 (pc + 1) (ls) (.long (x * y) :: st) (h)): Gd p l e R s m args below meth c Q D tys S0 ro RO as0 c0 s0 (pc) (ls) (.long y :: .long x :: st) (h) := by
  intro as H locs cells slots ml ms hp hw hL hs hS hc hq
  obtain ⟨w1, u1, rfl, q1, hs1⟩ := hs.cons
  obtain ⟨w2, u2, rfl, q2, hs2⟩ := hs1.cons
  cases q1; cases q2
  exact lv_lmul hx hb d (K as H locs cells slots ml _ hp hw hL ⟨rfl, hs2⟩ hS hc hq)
theorem gd_lcmp (hx : p.tables.exec = Jvm.exec) (hb : c.code = cc) {x y : Int64} (d : decode cc pc = .ok (.lcmp, 1)) (K : Gd p l e R s m args below meth c Q D tys S0 ro RO as0 c0 s0 (pc + 1) (ls) (.int (lg_cmp x y) :: st) (h)): Gd p l e R s m args below meth c Q D tys S0 ro RO as0 c0 s0 (pc) (ls) (.long y :: .long x :: st) (h) := by
  intro as H locs cells slots ml ms hp hw hL hs hS hc hq
  obtain ⟨w1, u1, rfl, q1, hs1⟩ := hs.cons
  obtain ⟨w2, u2, rfl, q2, hs2⟩ := hs1.cons
  cases q1; cases q2
  exact W.lcmp hx hb d (K as H locs cells slots ml _ hp hw hL ⟨rfl, hs2⟩ hS hc hq)
theorem gd_dcmp (hx : p.tables.exec = Jvm.exec) (hb : c.code = cc) {x y : UInt64} {op : CmpOp} (d : decode cc pc = .ok (.dcmp op, 1)) (K : Gd p l e R s m args below meth c Q D tys S0 ro RO as0 c0 s0 (pc + 1) (ls) (.int (Op.cmpValue (FP.dcmp x y) op) :: st) (h)): Gd p l e R s m args below meth c Q D tys S0 ro RO as0 c0 s0 (pc) (ls) (.double y :: .double x :: st) (h) := by
  intro as H locs cells slots ml ms hp hw hL hs hS hc hq
  obtain ⟨w1, u1, rfl, q1, hs1⟩ := hs.cons
  obtain ⟨w2, u2, rfl, q2, hs2⟩ := hs1.cons
  cases q1; cases q2
  exact lv_dcmp hx hb d (K as H locs cells slots ml _ hp hw hL ⟨rfl, hs2⟩ hS hc hq)
theorem gd_ddiv (hx : p.tables.exec = Jvm.exec) (hb : c.code = cc) {x y : UInt64} (d : decode cc pc = .ok (.ddiv, 1)) (hy : (FP.ddiv x y) &&& 0x7fffffffffffffff ≤ 0x7ff0000000000000) (K : Gd p l e R s m args below meth c Q D tys S0 ro RO as0 c0 s0 (pc + 1) (ls) (.double (FP.ddiv x y) :: st) (h)): Gd p l e R s m args below meth c Q D tys S0 ro RO as0 c0 s0 (pc) (ls) (.double y :: .double x :: st) (h) := by
  intro as H locs cells slots ml ms hp hw hL hs hS hc hq
  obtain ⟨w1, u1, rfl, q1, hs1⟩ := hs.cons
  obtain ⟨w2, u2, rfl, q2, hs2⟩ := hs1.cons
  cases q1; cases q2
  exact lv_ddiv hx hb d hy (K as H locs cells slots ml _ hp hw hL ⟨rfl, hs2⟩ hS hc hq)
theorem gd_ineg (hx : p.tables.exec = Jvm.exec) (hb : c.code = cc) {x : Int32} (d : decode cc pc = .ok (.ineg, 1)) (K : Gd p l e R s m args below meth c Q D tys S0 ro RO as0 c0 s0 (pc + 1) (ls) (.int (-x) :: st) (h)): Gd p l e R s m args below meth c Q D tys S0 ro RO as0 c0 s0 (pc) (ls) (.int x :: st) (h) := by
  intro as H locs cells slots ml ms hp hw hL hs hS hc hq
  obtain ⟨w1, u1, rfl, q1, hs1⟩ := hs.cons
  cases q1
  exact lv_ineg hx hb d (K as H locs cells slots ml _ hp hw hL ⟨rfl, hs1⟩ hS hc hq)
theorem gd_i2l (hx : p.tables.exec = Jvm.exec) (hb : c.code = cc) {x : Int32} (d : decode cc pc = .ok (.i2l, 1)) (K : Gd p l e R s m args below meth c Q D tys S0 ro RO as0 c0 s0 (pc + 1) (ls) (.long x.toInt64 :: st) (h)): Gd p l e R s m args below meth c Q D tys S0 ro RO as0 c0 s0 (pc) (ls) (.int x :: st) (h) := by
  intro as H locs cells slots ml ms hp hw hL hs hS hc hq
  obtain ⟨w1, u1, rfl, q1, hs1⟩ := hs.cons
  cases q1
  exact lv_i2l hx hb d rfl (K as H locs cells slots ml _ hp hw hL ⟨rfl, hs1⟩ hS hc hq)
theorem gd_i2b (hx : p.tables.exec = Jvm.exec) (hb : c.code = cc) {x : Int32} (d : decode cc pc = .ok (.i2b, 1)) (K : Gd p l e R s m args below meth c Q D tys S0 ro RO as0 c0 s0 (pc + 1) (ls) (.int x.toInt8.toInt32 :: st) (h)): Gd p l e R s m args below meth c Q D tys S0 ro RO as0 c0 s0 (pc) (ls) (.int x :: st) (h) := by
  intro as H locs cells slots ml ms hp hw hL hs hS hc hq
  obtain ⟨w1, u1, rfl, q1, hs1⟩ := hs.cons
  cases q1
  exact lv_i2b hx hb d rfl (K as H locs cells slots ml _ hp hw hL ⟨rfl, hs1⟩ hS hc hq)
theorem gd_i2c (hx : p.tables.exec = Jvm.exec) (hb : c.code = cc) {x : Int32} (d : decode cc pc = .ok (.i2c, 1)) (K : Gd p l e R s m args below meth c Q D tys S0 ro RO as0 c0 s0 (pc + 1) (ls) (.int (x.toUInt32 % 65536).toInt32 :: st) (h)): Gd p l e R s m args below meth c Q D tys S0 ro RO as0 c0 s0 (pc) (ls) (.int x :: st) (h) := by
  intro as H locs cells slots ml ms hp hw hL hs hS hc hq
  obtain ⟨w1, u1, rfl, q1, hs1⟩ := hs.cons
  cases q1
  exact lv_i2c hx hb d rfl (K as H locs cells slots ml _ hp hw hL ⟨rfl, hs1⟩ hS hc hq)
theorem gd_i2d (hx : p.tables.exec = Jvm.exec) (hb : c.code = cc) {x : Int32} (d : decode cc pc = .ok (.i2d, 1)) (K : Gd p l e R s m args below meth c Q D tys S0 ro RO as0 c0 s0 (pc + 1) (ls) (.double (FP.i2d x) :: st) (h)): Gd p l e R s m args below meth c Q D tys S0 ro RO as0 c0 s0 (pc) (ls) (.int x :: st) (h) := by
  intro as H locs cells slots ml ms hp hw hL hs hS hc hq
  obtain ⟨w1, u1, rfl, q1, hs1⟩ := hs.cons
  cases q1
  exact lv_i2d hx hb d (K as H locs cells slots ml _ hp hw hL ⟨rfl, hs1⟩ hS hc hq)
theorem gd_l2i (hx : p.tables.exec = Jvm.exec) (hb : c.code = cc) {x : Int64} (d : decode cc pc = .ok (.l2i, 1)) (K : Gd p l e R s m args below meth c Q D tys S0 ro RO as0 c0 s0 (pc + 1) (ls) (.int x.toInt32 :: st) (h)): Gd p l e R s m args below meth c Q D tys S0 ro RO as0 c0 s0 (pc) (ls) (.long x :: st) (h) := by
  intro as H locs cells slots ml ms hp hw hL hs hS hc hq
  obtain ⟨w1, u1, rfl, q1, hs1⟩ := hs.cons
  cases q1
  exact lv_l2i hx hb d rfl (K as H locs cells slots ml _ hp hw hL ⟨rfl, hs1⟩ hS hc hq)
theorem gd_dup (hx : p.tables.exec = Jvm.exec) (hb : c.code = cc) {v : Value} (d : decode cc pc = .ok (.dup, 1)) (hv : v.category = 1) (K : Gd p l e R s m args below meth c Q D tys S0 ro RO as0 c0 s0 (pc + 1) (ls) (v :: v :: st) (h)): Gd p l e R s m args below meth c Q D tys S0 ro RO as0 c0 s0 (pc) (ls) (v :: st) (h) := by
  intro as H locs cells slots ml ms hp hw hL hs hS hc hq
  obtain ⟨w1, u1, rfl, q1, hs1⟩ := hs.cons
  exact lv_dup hx hb d (q1.cat.trans hv) (K as H locs cells slots ml _ hp hw hL ⟨q1, q1, hs1⟩ hS hc hq)
theorem gd_dup2 (hx : p.tables.exec = Jvm.exec) (hb : c.code = cc) {v v2 : Value} (d : decode cc pc = .ok (.dup2, 1)) (hv : v.category = 1) (hv2 : v2.category = 1) (K : Gd p l e R s m args below meth c Q D tys S0 ro RO as0 c0 s0 (pc + 1) (ls) (v :: v2 :: v :: v2 :: st) (h)): Gd p l e R s m args below meth c Q D tys S0 ro RO as0 c0 s0 (pc) (ls) (v :: v2 :: st) (h) := by
  intro as H locs cells slots ml ms hp hw hL hs hS hc hq
  obtain ⟨w1, u1, rfl, q1, hs1⟩ := hs.cons
  obtain ⟨w2, u2, rfl, q2, hs2⟩ := hs1.cons
  exact lv_dup2_11 hx hb d (q1.cat.trans hv) (q2.cat.trans hv2) (K as H locs cells slots ml _ hp hw hL ⟨q1, q2, q1, q2, hs2⟩ hS hc hq)
theorem gd_dup_x1 (hx : p.tables.exec = Jvm.exec) (hb : c.code = cc) {v v2 : Value} (d : decode cc pc = .ok (.dup_x1, 1)) (hv : v.category = 1) (hv2 : v2.category = 1) (K : Gd p l e R s m args below meth c Q D tys S0 ro RO as0 c0 s0 (pc + 1) (ls) (v :: v2 :: v :: st) (h)): Gd p l e R s m args below meth c Q D tys S0 ro RO as0 c0 s0 (pc) (ls) (v :: v2 :: st) (h) := by
  intro as H locs cells slots ml ms hp hw hL hs hS hc hq
  obtain ⟨w1, u1, rfl, q1, hs1⟩ := hs.cons
  obtain ⟨w2, u2, rfl, q2, hs2⟩ := hs1.cons
  exact lv_dup_x1 hx hb d (q1.cat.trans hv) (q2.cat.trans hv2) (K as H locs cells slots ml _ hp hw hL ⟨q1, q2, q1, hs2⟩ hS hc hq)
theorem gd_pop (hx : p.tables.exec = Jvm.exec) (hb : c.code = cc) {v : Value} (d : decode cc pc = .ok (.pop, 1)) (hv : v.category = 1) (K : Gd p l e R s m args below meth c Q D tys S0 ro RO as0 c0 s0 (pc + 1) (ls) (st) (h)): Gd p l e R s m args below meth c Q D tys S0 ro RO as0 c0 s0 (pc) (ls) (v :: st) (h) := by
  intro as H locs cells slots ml ms hp hw hL hs hS hc hq
  obtain ⟨w1, u1, rfl, q1, hs1⟩ := hs.cons
  exact lv_pop hx hb d (q1.cat.trans hv) (K as H locs cells slots ml _ hp hw hL hs1 hS hc hq)
theorem gd_iload_n (hx : p.tables.exec = Jvm.exec) (hb : c.code = cc) {k : Fin 4} {x : Int32} (d : decode cc pc = .ok (.iload_n k, 1)) (hi : ls[(k : Nat)]? = some (some (.int x))) (K : Gd p l e R s m args below meth c Q D tys S0 ro RO as0 c0 s0 (pc + 1) (ls) (.int x :: st) (h)): Gd p l e R s m args below meth c Q D tys S0 ro RO as0 c0 s0 (pc) (ls) (st) (h) := by
  intro as H locs cells slots ml ms hp hw hL hs hS hc hq
  obtain ⟨w1, h1, q1⟩ := hL.2.2 _ _ hi
  cases q1
  exact lv_iload_n hx hb d rfl h1 (K as H locs cells slots ml _ hp hw hL ⟨rfl, hs⟩ hS hc hq)
theorem gd_iload (hx : p.tables.exec = Jvm.exec) (hb : c.code = cc) {k : Nat} {x : Int32} (d : decode cc pc = .ok (.iload k, 2)) (hi : ls[k]? = some (some (.int x))) (K : Gd p l e R s m args below meth c Q D tys S0 ro RO as0 c0 s0 (pc + 2) (ls) (.int x :: st) (h)): Gd p l e R s m args below meth c Q D tys S0 ro RO as0 c0 s0 (pc) (ls) (st) (h) := by
  intro as H locs cells slots ml ms hp hw hL hs hS hc hq
  obtain ⟨w1, h1, q1⟩ := hL.2.2 _ _ hi
  cases q1
  exact lv_iload hx hb d h1 (K as H locs cells slots ml _ hp hw hL ⟨rfl, hs⟩ hS hc hq)
theorem gd_lload_n (hx : p.tables.exec = Jvm.exec) (hb : c.code = cc) {k : Fin 4} {x : Int64} (d : decode cc pc = .ok (.lload_n k, 1)) (hi : ls[(k : Nat)]? = some (some (.long x))) (K : Gd p l e R s m args below meth c Q D tys S0 ro RO as0 c0 s0 (pc + 1) (ls) (.long x :: st) (h)): Gd p l e R s m args below meth c Q D tys S0 ro RO as0 c0 s0 (pc) (ls) (st) (h) := by
  intro as H locs cells slots ml ms hp hw hL hs hS hc hq
  obtain ⟨w1, h1, q1⟩ := hL.2.2 _ _ hi
  cases q1
  exact lv_lload_n hx hb d rfl h1 (K as H locs cells slots ml _ hp hw hL ⟨rfl, hs⟩ hS hc hq)
theorem gd_lload (hx : p.tables.exec = Jvm.exec) (hb : c.code = cc) {k : Nat} {x : Int64} (d : decode cc pc = .ok (.lload k, 2)) (hi : ls[k]? = some (some (.long x))) (K : Gd p l e R s m args below meth c Q D tys S0 ro RO as0 c0 s0 (pc + 2) (ls) (.long x :: st) (h)): Gd p l e R s m args below meth c Q D tys S0 ro RO as0 c0 s0 (pc) (ls) (st) (h) := by
  intro as H locs cells slots ml ms hp hw hL hs hS hc hq
  obtain ⟨w1, h1, q1⟩ := hL.2.2 _ _ hi
  cases q1
  exact lv_lload hx hb d h1 (K as H locs cells slots ml _ hp hw hL ⟨rfl, hs⟩ hS hc hq)
theorem gd_dload_n (hx : p.tables.exec = Jvm.exec) (hb : c.code = cc) {k : Fin 4} {x : UInt64} (d : decode cc pc = .ok (.dload_n k, 1)) (hi : ls[(k : Nat)]? = some (some (.double x))) (K : Gd p l e R s m args below meth c Q D tys S0 ro RO as0 c0 s0 (pc + 1) (ls) (.double x :: st) (h)): Gd p l e R s m args below meth c Q D tys S0 ro RO as0 c0 s0 (pc) (ls) (st) (h) := by
  intro as H locs cells slots ml ms hp hw hL hs hS hc hq
  obtain ⟨w1, h1, q1⟩ := hL.2.2 _ _ hi
  cases q1
  exact lv_dload_n hx hb d rfl h1 (K as H locs cells slots ml _ hp hw hL ⟨rfl, hs⟩ hS hc hq)
theorem gd_dload (hx : p.tables.exec = Jvm.exec) (hb : c.code = cc) {k : Nat} {x : UInt64} (d : decode cc pc = .ok (.dload k, 2)) (hi : ls[k]? = some (some (.double x))) (K : Gd p l e R s m args below meth c Q D tys S0 ro RO as0 c0 s0 (pc + 2) (ls) (.double x :: st) (h)): Gd p l e R s m args below meth c Q D tys S0 ro RO as0 c0 s0 (pc) (ls) (st) (h) := by
  intro as H locs cells slots ml ms hp hw hL hs hS hc hq
  obtain ⟨w1, h1, q1⟩ := hL.2.2 _ _ hi
  cases q1
  exact lv_dload hx hb d h1 (K as H locs cells slots ml _ hp hw hL ⟨rfl, hs⟩ hS hc hq)
theorem gd_aload_n (hx : p.tables.exec = Jvm.exec) (hb : c.code = cc) {k : Fin 4} {v : Value} (d : decode cc pc = .ok (.aload_n k, 1)) (hi : ls[(k : Nat)]? = some (some v)) (hv : refV v = true) (K : Gd p l e R s m args below meth c Q D tys S0 ro RO as0 c0 s0 (pc + 1) (ls) (v :: st) (h)): Gd p l e R s m args below meth c Q D tys S0 ro RO as0 c0 s0 (pc) (ls) (st) (h) := by
  intro as H locs cells slots ml ms hp hw hL hs hS hc hq
  obtain ⟨w1, h1, q1⟩ := hL.2.2 _ _ hi
  cases v with
  | ref k2 =>
    rcases q1.refs with rfl | ⟨z, rfl⟩
    · exact lv_aload_nN hx hb d rfl h1 (K as H locs cells slots ml _ hp hw hL ⟨q1, hs⟩ hS hc hq)
    · exact lv_aload_n hx hb d rfl h1 (K as H locs cells slots ml _ hp hw hL ⟨q1, hs⟩ hS hc hq)
  | null =>
    cases q1
    exact lv_aload_nN hx hb d rfl h1 (K as H locs cells slots ml _ hp hw hL ⟨rfl, hs⟩ hS hc hq)
  | _ => cases hv
theorem gd_aload (hx : p.tables.exec = Jvm.exec) (hb : c.code = cc) {k : Nat} {v : Value} (d : decode cc pc = .ok (.aload k, 2)) (hi : ls[k]? = some (some v)) (hv : refV v = true) (K : Gd p l e R s m args below meth c Q D tys S0 ro RO as0 c0 s0 (pc + 2) (ls) (v :: st) (h)): Gd p l e R s m args below meth c Q D tys S0 ro RO as0 c0 s0 (pc) (ls) (st) (h) := by
  intro as H locs cells slots ml ms hp hw hL hs hS hc hq
  obtain ⟨w1, h1, q1⟩ := hL.2.2 _ _ hi
  cases v with
  | ref k2 =>
    rcases q1.refs with rfl | ⟨z, rfl⟩
    · exact lv_aloadN hx hb d h1 (K as H locs cells slots ml _ hp hw hL ⟨q1, hs⟩ hS hc hq)
    · exact lv_aload hx hb d h1 (K as H locs cells slots ml _ hp hw hL ⟨q1, hs⟩ hS hc hq)
  | null =>
    cases q1
    exact lv_aloadN hx hb d h1 (K as H locs cells slots ml _ hp hw hL ⟨rfl, hs⟩ hS hc hq)
  | _ => cases hv
theorem gd_istore_n (hx : p.tables.exec = Jvm.exec) (hb : c.code = cc) {k : Fin 4} {x : Int32} (d : decode cc pc = .ok (.istore_n k, 1)) (hi : (k : Nat) < ls.length) (K : Gd p l e R s m args below meth c Q D tys S0 ro RO as0 c0 s0 (pc + 1) (pst1 ls (k : Nat) (.int x)) (st) (h)): Gd p l e R s m args below meth c Q D tys S0 ro RO as0 c0 s0 (pc) (ls) (.int x :: st) (h) := by
  intro as H locs cells slots ml ms hp hw hL hs hS hc hq
  obtain ⟨w1, u1, rfl, q1, hs1⟩ := hs.cons
  cases q1
  obtain ⟨lv, h1, h2⟩ := hL.store1 (i := (k : Nat)) (v := .int x) (w := .int x) rfl
  exact lv_istore_n hx hb d rfl h1 (by rw [← hL.2.1]; exact hi) rfl (fun ml' h3 => K as H locs cells slots ml' _ hp hw (h2 ml' h3) hs1 hS hc hq)
theorem gd_istore (hx : p.tables.exec = Jvm.exec) (hb : c.code = cc) {k : Nat} {x : Int32} (d : decode cc pc = .ok (.istore k, 2)) (hi : k < ls.length) (K : Gd p l e R s m args below meth c Q D tys S0 ro RO as0 c0 s0 (pc + 2) (pst1 ls k (.int x)) (st) (h)): Gd p l e R s m args below meth c Q D tys S0 ro RO as0 c0 s0 (pc) (ls) (.int x :: st) (h) := by
  intro as H locs cells slots ml ms hp hw hL hs hS hc hq
  obtain ⟨w1, u1, rfl, q1, hs1⟩ := hs.cons
  cases q1
  obtain ⟨lv, h1, h2⟩ := hL.store1 (i := k) (v := .int x) (w := .int x) rfl
  exact lv_istore hx hb d h1 (by rw [← hL.2.1]; exact hi) rfl (fun ml' h3 => K as H locs cells slots ml' _ hp hw (h2 ml' h3) hs1 hS hc hq)
theorem gd_lstore_n (hx : p.tables.exec = Jvm.exec) (hb : c.code = cc) {k : Fin 4} {x : Int64} (d : decode cc pc = .ok (.lstore_n k, 1)) (hi : (k : Nat) + 1 < ls.length) (K : Gd p l e R s m args below meth c Q D tys S0 ro RO as0 c0 s0 (pc + 1) (pst2 ls (k : Nat) (.long x)) (st) (h)): Gd p l e R s m args below meth c Q D tys S0 ro RO as0 c0 s0 (pc) (ls) (.long x :: st) (h) := by
  intro as H locs cells slots ml ms hp hw hL hs hS hc hq
  obtain ⟨w1, u1, rfl, q1, hs1⟩ := hs.cons
  cases q1
  obtain ⟨lv, h1, h2⟩ := hL.store2 (i := (k : Nat)) (v := .long x) (w := .long x) rfl
  exact lv_lstore_n hx hb d rfl h1 (by rw [← hL.2.1]; exact hi) rfl (fun ml' h3 => K as H locs cells slots ml' _ hp hw (h2 ml' h3) hs1 hS hc hq)
theorem gd_lstore (hx : p.tables.exec = Jvm.exec) (hb : c.code = cc) {k : Nat} {x : Int64} (d : decode cc pc = .ok (.lstore k, 2)) (hi : k + 1 < ls.length) (K : Gd p l e R s m args below meth c Q D tys S0 ro RO as0 c0 s0 (pc + 2) (pst2 ls k (.long x)) (st) (h)): Gd p l e R s m args below meth c Q D tys S0 ro RO as0 c0 s0 (pc) (ls) (.long x :: st) (h) := by
  intro as H locs cells slots ml ms hp hw hL hs hS hc hq
  obtain ⟨w1, u1, rfl, q1, hs1⟩ := hs.cons
  cases q1
  obtain ⟨lv, h1, h2⟩ := hL.store2 (i := k) (v := .long x) (w := .long x) rfl
  exact lv_lstore hx hb d h1 (by rw [← hL.2.1]; exact hi) rfl (fun ml' h3 => K as H locs cells slots ml' _ hp hw (h2 ml' h3) hs1 hS hc hq)
theorem gd_dstore_n (hx : p.tables.exec = Jvm.exec) (hb : c.code = cc) {k : Fin 4} {x : UInt64} (d : decode cc pc = .ok (.dstore_n k, 1)) (hi : (k : Nat) + 1 < ls.length) (K : Gd p l e R s m args below meth c Q D tys S0 ro RO as0 c0 s0 (pc + 1) (pst2 ls (k : Nat) (.double x)) (st) (h)): Gd p l e R s m args below meth c Q D tys S0 ro RO as0 c0 s0 (pc) (ls) (.double x :: st) (h) := by
  intro as H locs cells slots ml ms hp hw hL hs hS hc hq
  obtain ⟨w1, u1, rfl, q1, hs1⟩ := hs.cons
  cases q1
  obtain ⟨lv, h1, h2⟩ := hL.store2 (i := (k : Nat)) (v := .double x) (w := .double x) rfl
  exact lv_dstore_n hx hb d rfl h1 (by rw [← hL.2.1]; exact hi) rfl (fun ml' h3 => K as H locs cells slots ml' _ hp hw (h2 ml' h3) hs1 hS hc hq)
theorem gd_dstore (hx : p.tables.exec = Jvm.exec) (hb : c.code = cc) {k : Nat} {x : UInt64} (d : decode cc pc = .ok (.dstore k, 2)) (hi : k + 1 < ls.length) (K : Gd p l e R s m args below meth c Q D tys S0 ro RO as0 c0 s0 (pc + 2) (pst2 ls k (.double x)) (st) (h)): Gd p l e R s m args below meth c Q D tys S0 ro RO as0 c0 s0 (pc) (ls) (.double x :: st) (h) := by
  intro as H locs cells slots ml ms hp hw hL hs hS hc hq
  obtain ⟨w1, u1, rfl, q1, hs1⟩ := hs.cons
  cases q1
  obtain ⟨lv, h1, h2⟩ := hL.store2 (i := k) (v := .double x) (w := .double x) rfl
  exact lv_dstore hx hb d h1 (by rw [← hL.2.1]; exact hi) rfl (fun ml' h3 => K as H locs cells slots ml' _ hp hw (h2 ml' h3) hs1 hS hc hq)
theorem gd_astore_n (hx : p.tables.exec = Jvm.exec) (hb : c.code = cc) {k : Fin 4} {v : Value} (d : decode cc pc = .ok (.astore_n k, 1)) (hi : (k : Nat) < ls.length) (hv : refV v = true) (K : Gd p l e R s m args below meth c Q D tys S0 ro RO as0 c0 s0 (pc + 1) (pst1 ls (k : Nat) v) (st) (h)): Gd p l e R s m args below meth c Q D tys S0 ro RO as0 c0 s0 (pc) (ls) (v :: st) (h) := by
  intro as H locs cells slots ml ms hp hw hL hs hS hc hq
  obtain ⟨w1, u1, rfl, q1, hs1⟩ := hs.cons
  cases v with
  | ref k2 =>
    rcases q1.refs with rfl | ⟨z, rfl⟩
    · obtain ⟨lv, h1, h2⟩ := hL.store1 (i := (k : Nat)) q1
      exact lv_astore_nN hx hb d rfl h1 (by rw [← hL.2.1]; exact hi) rfl (fun ml' h3 => K as H locs cells slots ml' _ hp hw (h2 ml' h3) hs1 hS hc hq)
    obtain ⟨lv, h1, h2⟩ := hL.store1 (i := (k : Nat)) q1
    exact lv_astore_n hx hb d rfl h1 (by rw [← hL.2.1]; exact hi) rfl (fun ml' h3 => K as H locs cells slots ml' _ hp hw (h2 ml' h3) hs1 hS hc hq)
  | null =>
    cases q1
    obtain ⟨lv, h1, h2⟩ := hL.store1 (i := (k : Nat)) (v := .null) (w := .null) rfl
    exact lv_astore_nN hx hb d rfl h1 (by rw [← hL.2.1]; exact hi) rfl (fun ml' h3 => K as H locs cells slots ml' _ hp hw (h2 ml' h3) hs1 hS hc hq)
  | _ => cases hv
theorem gd_astore (hx : p.tables.exec = Jvm.exec) (hb : c.code = cc) {k : Nat} {v : Value} (d : decode cc pc = .ok (.astore k, 2)) (hi : k < ls.length) (hv : refV v = true) (K : Gd p l e R s m args below meth c Q D tys S0 ro RO as0 c0 s0 (pc + 2) (pst1 ls k v) (st) (h)): Gd p l e R s m args below meth c Q D tys S0 ro RO as0 c0 s0 (pc) (ls) (v :: st) (h) := by
  intro as H locs cells slots ml ms hp hw hL hs hS hc hq
  obtain ⟨w1, u1, rfl, q1, hs1⟩ := hs.cons
  cases v with
  | ref k2 =>
    rcases q1.refs with rfl | ⟨z, rfl⟩
    · obtain ⟨lv, h1, h2⟩ := hL.store1 (i := k) q1
      exact lv_astoreN hx hb d h1 (by rw [← hL.2.1]; exact hi) rfl (fun ml' h3 => K as H locs cells slots ml' _ hp hw (h2 ml' h3) hs1 hS hc hq)
    obtain ⟨lv, h1, h2⟩ := hL.store1 (i := k) q1
    exact lv_astore hx hb d h1 (by rw [← hL.2.1]; exact hi) rfl (fun ml' h3 => K as H locs cells slots ml' _ hp hw (h2 ml' h3) hs1 hS hc hq)
  | null =>
    cases q1
    obtain ⟨lv, h1, h2⟩ := hL.store1 (i := k) (v := .null) (w := .null) rfl
    exact lv_astoreN hx hb d h1 (by rw [← hL.2.1]; exact hi) rfl (fun ml' h3 => K as H locs cells slots ml' _ hp hw (h2 ml' h3) hs1 hS hc hq)
  | _ => cases hv
theorem gd_iinc (hx : p.tables.exec = Jvm.exec) (hb : c.code = cc) {k : Nat} {n : Int} {x : Int32} (d : decode cc pc = .ok (.iinc k n, 3)) (hg : ls[k]? = some (some (.int x))) (hi : k < ls.length) (K : Gd p l e R s m args below meth c Q D tys S0 ro RO as0 c0 s0 (pc + 3) (pst1 ls k (.int (x + Int32.ofInt n))) (st) (h)): Gd p l e R s m args below meth c Q D tys S0 ro RO as0 c0 s0 (pc) (ls) (st) (h) := by
  intro as H locs cells slots ml ms hp hw hL hs hS hc hq
  obtain ⟨w1, h1, q1⟩ := hL.2.2 _ _ hg
  cases q1
  obtain ⟨lv, h1b, h2⟩ := hL.store1 (i := k) (v := .int (x + Int32.ofInt n)) (w := .int (x + Int32.ofInt n)) rfl
  have h4 : lv_has ml c.maxLocals ((k, .int x) :: lv) := ⟨h1b.1, h1b.2.1, fun q hq => by
    rcases List.mem_cons.mp hq with rfl | hq
    · exact h1
    · exact h1b.2.2 q hq⟩
  refine lv_iinc hx hb d h4 (k := 0) rfl rfl (by rw [← hL.2.1]; exact hi) rfl (fun ml' h3 => K as H locs cells slots ml' _ hp hw (h2 ml' ?_) hs hS hc hq)
  refine ⟨h3.1, h3.2.1, fun q hq => h3.2.2 q ?_⟩
  rcases List.mem_cons.mp hq with rfl | hq
  · exact List.mem_cons_self
  · refine List.mem_cons_of_mem _ ?_
    rw [List.filter_cons]
    split
    · exact List.mem_cons_of_mem _ hq
    · exact hq
theorem gd_if_eq (hx : p.tables.exec = Jvm.exec) (hb : c.code = cc) {x : Int32} {off : Int} (d : decode cc pc = .ok (.ifCond .eq off, 3)) (ht : 0 ≤ (pc : Int) + off) (K : if icond .eq x 0 = true then Gd p l e R s m args below meth c Q D tys S0 ro RO as0 c0 s0 (ptgt pc off) (ls) (st) (h) else Gd p l e R s m args below meth c Q D tys S0 ro RO as0 c0 s0 (pc + 3) (ls) (st) (h)): Gd p l e R s m args below meth c Q D tys S0 ro RO as0 c0 s0 (pc) (ls) (.int x :: st) (h) := by
  intro as H locs cells slots ml ms hp hw hL hs hS hc hq
  obtain ⟨w1, u1, rfl, q1, hs1⟩ := hs.cons
  cases q1
  refine lv_if_eq (tgt := ptgt pc off) hx hb d (by simp only [ptgt]; omega) (fun hh => ?_) (fun hh => ?_)
  · rw [if_pos (by simp only [icond, decide_eq_true_eq]; first | exact hh | omega)] at K
    exact K as H locs cells slots ml _ hp hw hL hs1 hS hc hq
  · rw [if_neg (by simp only [icond, decide_eq_true_eq]; first | exact hh | exact fun q => hh q | exact fun q => q hh)] at K
    exact K as H locs cells slots ml _ hp hw hL hs1 hS hc hq
theorem gd_icmp_eq (hx : p.tables.exec = Jvm.exec) (hb : c.code = cc) {x y : Int32} {off : Int} (d : decode cc pc = .ok (.if_icmp .eq off, 3)) (ht : 0 ≤ (pc : Int) + off) (K : if icond .eq x y = true then Gd p l e R s m args below meth c Q D tys S0 ro RO as0 c0 s0 (ptgt pc off) (ls) (st) (h) else Gd p l e R s m args below meth c Q D tys S0 ro RO as0 c0 s0 (pc + 3) (ls) (st) (h)): Gd p l e R s m args below meth c Q D tys S0 ro RO as0 c0 s0 (pc) (ls) (.int y :: .int x :: st) (h) := by
  intro as H locs cells slots ml ms hp hw hL hs hS hc hq
  obtain ⟨w1, u1, rfl, q1, hs1⟩ := hs.cons
  obtain ⟨w2, u2, rfl, q2, hs2⟩ := hs1.cons
  cases q1; cases q2
  refine lv_icmp_eq (tgt := ptgt pc off) hx hb d (by simp only [ptgt]; omega) (fun hh => ?_) (fun hh => ?_)
  · rw [if_pos (by simp only [icond, decide_eq_true_eq]; exact hh)] at K
    exact K as H locs cells slots ml _ hp hw hL hs2 hS hc hq
  · rw [if_neg (by simp only [icond, decide_eq_true_eq]; first | exact hh | exact fun q => hh q | exact fun q => q hh)] at K
    exact K as H locs cells slots ml _ hp hw hL hs2 hS hc hq
theorem gd_if_ne (hx : p.tables.exec = Jvm.exec) (hb : c.code = cc) {x : Int32} {off : Int} (d : decode cc pc = .ok (.ifCond .ne off, 3)) (ht : 0 ≤ (pc : Int) + off) (K : if icond .ne x 0 = true then Gd p l e R s m args below meth c Q D tys S0 ro RO as0 c0 s0 (ptgt pc off) (ls) (st) (h) else Gd p l e R s m args below meth c Q D tys S0 ro RO as0 c0 s0 (pc + 3) (ls) (st) (h)): Gd p l e R s m args below meth c Q D tys S0 ro RO as0 c0 s0 (pc) (ls) (.int x :: st) (h) := by
  intro as H locs cells slots ml ms hp hw hL hs hS hc hq
  obtain ⟨w1, u1, rfl, q1, hs1⟩ := hs.cons
  cases q1
  refine lv_if_ne (tgt := ptgt pc off) hx hb d (by simp only [ptgt]; omega) (fun hh => ?_) (fun hh => ?_)
  · rw [if_pos (by simp only [icond, decide_eq_true_eq]; first | exact hh | omega)] at K
    exact K as H locs cells slots ml _ hp hw hL hs1 hS hc hq
  · rw [if_neg (by simp only [icond, decide_eq_true_eq]; first | exact hh | exact fun q => hh q | exact fun q => q hh)] at K
    exact K as H locs cells slots ml _ hp hw hL hs1 hS hc hq
theorem gd_icmp_ne (hx : p.tables.exec = Jvm.exec) (hb : c.code = cc) {x y : Int32} {off : Int} (d : decode cc pc = .ok (.if_icmp .ne off, 3)) (ht : 0 ≤ (pc : Int) + off) (K : if icond .ne x y = true then Gd p l e R s m args below meth c Q D tys S0 ro RO as0 c0 s0 (ptgt pc off) (ls) (st) (h) else Gd p l e R s m args below meth c Q D tys S0 ro RO as0 c0 s0 (pc + 3) (ls) (st) (h)): Gd p l e R s m args below meth c Q D tys S0 ro RO as0 c0 s0 (pc) (ls) (.int y :: .int x :: st) (h) := by
  intro as H locs cells slots ml ms hp hw hL hs hS hc hq
  obtain ⟨w1, u1, rfl, q1, hs1⟩ := hs.cons
  obtain ⟨w2, u2, rfl, q2, hs2⟩ := hs1.cons
  cases q1; cases q2
  refine lv_icmp_ne (tgt := ptgt pc off) hx hb d (by simp only [ptgt]; omega) (fun hh => ?_) (fun hh => ?_)
  · rw [if_pos (by simp only [icond, decide_eq_true_eq]; exact hh)] at K
    exact K as H locs cells slots ml _ hp hw hL hs2 hS hc hq
  · rw [if_neg (by simp only [icond, decide_eq_true_eq]; first | exact hh | exact fun q => hh q | exact fun q => q hh)] at K
    exact K as H locs cells slots ml _ hp hw hL hs2 hS hc hq
theorem gd_if_lt (hx : p.tables.exec = Jvm.exec) (hb : c.code = cc) {x : Int32} {off : Int} (d : decode cc pc = .ok (.ifCond .lt off, 3)) (ht : 0 ≤ (pc : Int) + off) (K : if icond .lt x 0 = true then Gd p l e R s m args below meth c Q D tys S0 ro RO as0 c0 s0 (ptgt pc off) (ls) (st) (h) else Gd p l e R s m args below meth c Q D tys S0 ro RO as0 c0 s0 (pc + 3) (ls) (st) (h)): Gd p l e R s m args below meth c Q D tys S0 ro RO as0 c0 s0 (pc) (ls) (.int x :: st) (h) := by
  intro as H locs cells slots ml ms hp hw hL hs hS hc hq
  obtain ⟨w1, u1, rfl, q1, hs1⟩ := hs.cons
  cases q1
  refine lv_if_lt (tgt := ptgt pc off) hx hb d (by simp only [ptgt]; omega) (fun hh => ?_) (fun hh => ?_)
  · rw [if_pos (by simp only [icond, decide_eq_true_eq]; first | exact hh | omega)] at K
    exact K as H locs cells slots ml _ hp hw hL hs1 hS hc hq
  · rw [if_neg (by simp only [icond, decide_eq_true_eq]; first | exact hh | exact fun q => hh q | exact fun q => q hh)] at K
    exact K as H locs cells slots ml _ hp hw hL hs1 hS hc hq
theorem gd_icmp_lt (hx : p.tables.exec = Jvm.exec) (hb : c.code = cc) {x y : Int32} {off : Int} (d : decode cc pc = .ok (.if_icmp .lt off, 3)) (ht : 0 ≤ (pc : Int) + off) (K : if icond .lt x y = true then Gd p l e R s m args below meth c Q D tys S0 ro RO as0 c0 s0 (ptgt pc off) (ls) (st) (h) else Gd p l e R s m args below meth c Q D tys S0 ro RO as0 c0 s0 (pc + 3) (ls) (st) (h)): Gd p l e R s m args below meth c Q D tys S0 ro RO as0 c0 s0 (pc) (ls) (.int y :: .int x :: st) (h) := by
  intro as H locs cells slots ml ms hp hw hL hs hS hc hq
  obtain ⟨w1, u1, rfl, q1, hs1⟩ := hs.cons
  obtain ⟨w2, u2, rfl, q2, hs2⟩ := hs1.cons
  cases q1; cases q2
  refine lv_icmp_lt (tgt := ptgt pc off) hx hb d (by simp only [ptgt]; omega) (fun hh => ?_) (fun hh => ?_)
  · rw [if_pos (by simp only [icond, decide_eq_true_eq]; exact hh)] at K
    exact K as H locs cells slots ml _ hp hw hL hs2 hS hc hq
  · rw [if_neg (by simp only [icond, decide_eq_true_eq]; first | exact hh | exact fun q => hh q | exact fun q => q hh)] at K
    exact K as H locs cells slots ml _ hp hw hL hs2 hS hc hq
theorem gd_if_ge (hx : p.tables.exec = Jvm.exec) (hb : c.code = cc) {x : Int32} {off : Int} (d : decode cc pc = .ok (.ifCond .ge off, 3)) (ht : 0 ≤ (pc : Int) + off) (K : if icond .ge x 0 = true then Gd p l e R s m args below meth c Q D tys S0 ro RO as0 c0 s0 (ptgt pc off) (ls) (st) (h) else Gd p l e R s m args below meth c Q D tys S0 ro RO as0 c0 s0 (pc + 3) (ls) (st) (h)): Gd p l e R s m args below meth c Q D tys S0 ro RO as0 c0 s0 (pc) (ls) (.int x :: st) (h) := by
  intro as H locs cells slots ml ms hp hw hL hs hS hc hq
  obtain ⟨w1, u1, rfl, q1, hs1⟩ := hs.cons
  cases q1
  refine lv_if_ge (tgt := ptgt pc off) hx hb d (by simp only [ptgt]; omega) (fun hh => ?_) (fun hh => ?_)
  · rw [if_pos (by simp only [icond, decide_eq_true_eq]; first | exact hh | omega)] at K
    exact K as H locs cells slots ml _ hp hw hL hs1 hS hc hq
  · rw [if_neg (by simp only [icond, decide_eq_true_eq]; first | exact hh | exact fun q => hh q | exact fun q => q hh)] at K
    exact K as H locs cells slots ml _ hp hw hL hs1 hS hc hq
theorem gd_icmp_ge (hx : p.tables.exec = Jvm.exec) (hb : c.code = cc) {x y : Int32} {off : Int} (d : decode cc pc = .ok (.if_icmp .ge off, 3)) (ht : 0 ≤ (pc : Int) + off) (K : if icond .ge x y = true then Gd p l e R s m args below meth c Q D tys S0 ro RO as0 c0 s0 (ptgt pc off) (ls) (st) (h) else Gd p l e R s m args below meth c Q D tys S0 ro RO as0 c0 s0 (pc + 3) (ls) (st) (h)): Gd p l e R s m args below meth c Q D tys S0 ro RO as0 c0 s0 (pc) (ls) (.int y :: .int x :: st) (h) := by
  intro as H locs cells slots ml ms hp hw hL hs hS hc hq
  obtain ⟨w1, u1, rfl, q1, hs1⟩ := hs.cons
  obtain ⟨w2, u2, rfl, q2, hs2⟩ := hs1.cons
  cases q1; cases q2
  refine lv_icmp_ge (tgt := ptgt pc off) hx hb d (by simp only [ptgt]; omega) (fun hh => ?_) (fun hh => ?_)
  · rw [if_pos (by simp only [icond, decide_eq_true_eq]; exact hh)] at K
    exact K as H locs cells slots ml _ hp hw hL hs2 hS hc hq
  · rw [if_neg (by simp only [icond, decide_eq_true_eq]; first | exact hh | exact fun q => hh q | exact fun q => q hh)] at K
    exact K as H locs cells slots ml _ hp hw hL hs2 hS hc hq
theorem gd_if_gt (hx : p.tables.exec = Jvm.exec) (hb : c.code = cc) {x : Int32} {off : Int} (d : decode cc pc = .ok (.ifCond .gt off, 3)) (ht : 0 ≤ (pc : Int) + off) (K : if icond .gt x 0 = true then Gd p l e R s m args below meth c Q D tys S0 ro RO as0 c0 s0 (ptgt pc off) (ls) (st) (h) else Gd p l e R s m args below meth c Q D tys S0 ro RO as0 c0 s0 (pc + 3) (ls) (st) (h)): Gd p l e R s m args below meth c Q D tys S0 ro RO as0 c0 s0 (pc) (ls) (.int x :: st) (h) := by
  intro as H locs cells slots ml ms hp hw hL hs hS hc hq
  obtain ⟨w1, u1, rfl, q1, hs1⟩ := hs.cons
  cases q1
  refine lv_if_gt (tgt := ptgt pc off) hx hb d (by simp only [ptgt]; omega) (fun hh => ?_) (fun hh => ?_)
  · rw [if_pos (by simp only [icond, decide_eq_true_eq]; first | exact hh | omega)] at K
    exact K as H locs cells slots ml _ hp hw hL hs1 hS hc hq
  · rw [if_neg (by simp only [icond, decide_eq_true_eq]; first | exact hh | exact fun q => hh q | exact fun q => q hh)] at K
    exact K as H locs cells slots ml _ hp hw hL hs1 hS hc hq
theorem gd_icmp_gt (hx : p.tables.exec = Jvm.exec) (hb : c.code = cc) {x y : Int32} {off : Int} (d : decode cc pc = .ok (.if_icmp .gt off, 3)) (ht : 0 ≤ (pc : Int) + off) (K : if icond .gt x y = true then Gd p l e R s m args below meth c Q D tys S0 ro RO as0 c0 s0 (ptgt pc off) (ls) (st) (h) else Gd p l e R s m args below meth c Q D tys S0 ro RO as0 c0 s0 (pc + 3) (ls) (st) (h)): Gd p l e R s m args below meth c Q D tys S0 ro RO as0 c0 s0 (pc) (ls) (.int y :: .int x :: st) (h) := by
  intro as H locs cells slots ml ms hp hw hL hs hS hc hq
  obtain ⟨w1, u1, rfl, q1, hs1⟩ := hs.cons
  obtain ⟨w2, u2, rfl, q2, hs2⟩ := hs1.cons
  cases q1; cases q2
  refine lv_icmp_gt (tgt := ptgt pc off) hx hb d (by simp only [ptgt]; omega) (fun hh => ?_) (fun hh => ?_)
  · rw [if_pos (by simp only [icond, decide_eq_true_eq]; exact hh)] at K
    exact K as H locs cells slots ml _ hp hw hL hs2 hS hc hq
  · rw [if_neg (by simp only [icond, decide_eq_true_eq]; first | exact hh | exact fun q => hh q | exact fun q => q hh)] at K
    exact K as H locs cells slots ml _ hp hw hL hs2 hS hc hq
theorem gd_if_le (hx : p.tables.exec = Jvm.exec) (hb : c.code = cc) {x : Int32} {off : Int} (d : decode cc pc = .ok (.ifCond .le off, 3)) (ht : 0 ≤ (pc : Int) + off) (K : if icond .le x 0 = true then Gd p l e R s m args below meth c Q D tys S0 ro RO as0 c0 s0 (ptgt pc off) (ls) (st) (h) else Gd p l e R s m args below meth c Q D tys S0 ro RO as0 c0 s0 (pc + 3) (ls) (st) (h)): Gd p l e R s m args below meth c Q D tys S0 ro RO as0 c0 s0 (pc) (ls) (.int x :: st) (h) := by
  intro as H locs cells slots ml ms hp hw hL hs hS hc hq
  obtain ⟨w1, u1, rfl, q1, hs1⟩ := hs.cons
  cases q1
  refine lv_if_le (tgt := ptgt pc off) hx hb d (by simp only [ptgt]; omega) (fun hh => ?_) (fun hh => ?_)
  · rw [if_pos (by simp only [icond, decide_eq_true_eq]; first | exact hh | omega)] at K
    exact K as H locs cells slots ml _ hp hw hL hs1 hS hc hq
  · rw [if_neg (by simp only [icond, decide_eq_true_eq]; first | exact hh | exact fun q => hh q | exact fun q => q hh)] at K
    exact K as H locs cells slots ml _ hp hw hL hs1 hS hc hq
theorem gd_icmp_le (hx : p.tables.exec = Jvm.exec) (hb : c.code = cc) {x y : Int32} {off : Int} (d : decode cc pc = .ok (.if_icmp .le off, 3)) (ht : 0 ≤ (pc : Int) + off) (K : if icond .le x y = true then Gd p l e R s m args below meth c Q D tys S0 ro RO as0 c0 s0 (ptgt pc off) (ls) (st) (h) else Gd p l e R s m args below meth c Q D tys S0 ro RO as0 c0 s0 (pc + 3) (ls) (st) (h)): Gd p l e R s m args below meth c Q D tys S0 ro RO as0 c0 s0 (pc) (ls) (.int y :: .int x :: st) (h) := by
  intro as H locs cells slots ml ms hp hw hL hs hS hc hq
  obtain ⟨w1, u1, rfl, q1, hs1⟩ := hs.cons
  obtain ⟨w2, u2, rfl, q2, hs2⟩ := hs1.cons
  cases q1; cases q2
  refine lv_icmp_le (tgt := ptgt pc off) hx hb d (by simp only [ptgt]; omega) (fun hh => ?_) (fun hh => ?_)
  · rw [if_pos (by simp only [icond, decide_eq_true_eq]; exact hh)] at K
    exact K as H locs cells slots ml _ hp hw hL hs2 hS hc hq
  · rw [if_neg (by simp only [icond, decide_eq_true_eq]; first | exact hh | exact fun q => hh q | exact fun q => q hh)] at K
    exact K as H locs cells slots ml _ hp hw hL hs2 hS hc hq
theorem gd_goto (hx : p.tables.exec = Jvm.exec) (hb : c.code = cc) {off : Int} (d : decode cc pc = .ok (.goto off, 3)) (ht : 0 ≤ (pc : Int) + off) (K : Gd p l e R s m args below meth c Q D tys S0 ro RO as0 c0 s0 (ptgt pc off) (ls) (st) (h)): Gd p l e R s m args below meth c Q D tys S0 ro RO as0 c0 s0 (pc) (ls) (st) (h) := by
  intro as H locs cells slots ml ms hp hw hL hs hS hc hq
  exact lv_goto (tgt := ptgt pc off) hx hb d (by simp only [ptgt]; omega) (K as H locs cells slots ml _ hp hw hL hs hS hc hq)
theorem gd_ifnullN (hx : p.tables.exec = Jvm.exec) (hb : c.code = cc) {off : Int} (d : decode cc pc = .ok (.ifnull off, 3)) (ht : 0 ≤ (pc : Int) + off) (K : Gd p l e R s m args below meth c Q D tys S0 ro RO as0 c0 s0 (ptgt pc off) (ls) (st) (h)): Gd p l e R s m args below meth c Q D tys S0 ro RO as0 c0 s0 (pc) (ls) (.null :: st) (h) := by
  intro as H locs cells slots ml ms hp hw hL hs hS hc hq
  obtain ⟨w1, u1, rfl, q1, hs1⟩ := hs.cons
  cases q1
  exact lv_ifnullN (tgt := ptgt pc off) hx hb d (by simp only [ptgt]; omega) (K as H locs cells slots ml _ hp hw hL hs1 hS hc hq)
theorem gd_ifnull (hx : p.tables.exec = Jvm.exec) (hb : c.code = cc) {off : Int} {k : Nat} (d : decode cc pc = .ok (.ifnull off, 3)) (ht : 0 ≤ (pc : Int) + off) (hk : k ≠ 201) (K : Gd p l e R s m args below meth c Q D tys S0 ro RO as0 c0 s0 (pc + 3) (ls) (st) (h)): Gd p l e R s m args below meth c Q D tys S0 ro RO as0 c0 s0 (pc) (ls) (.ref k :: st) (h) := by
  intro as H locs cells slots ml ms hp hw hL hs hS hc hq
  obtain ⟨w1, u1, rfl, q1, hs1⟩ := hs.cons
  obtain ⟨z, rfl⟩ := q1.isRef hk
  exact lv_ifnull hx hb d (K as H locs cells slots ml _ hp hw hL hs1 hS hc hq)
theorem gd_ifnonnullN (hx : p.tables.exec = Jvm.exec) (hb : c.code = cc) {off : Int} (d : decode cc pc = .ok (.ifnonnull off, 3)) (ht : 0 ≤ (pc : Int) + off) (K : Gd p l e R s m args below meth c Q D tys S0 ro RO as0 c0 s0 (pc + 3) (ls) (st) (h)): Gd p l e R s m args below meth c Q D tys S0 ro RO as0 c0 s0 (pc) (ls) (.null :: st) (h) := by
  intro as H locs cells slots ml ms hp hw hL hs hS hc hq
  obtain ⟨w1, u1, rfl, q1, hs1⟩ := hs.cons
  cases q1
  exact lv_ifnonnullN hx hb d (K as H locs cells slots ml _ hp hw hL hs1 hS hc hq)
theorem gd_ifnonnull (hx : p.tables.exec = Jvm.exec) (hb : c.code = cc) {off : Int} {k : Nat} (d : decode cc pc = .ok (.ifnonnull off, 3)) (ht : 0 ≤ (pc : Int) + off) (hk : k ≠ 201) (K : Gd p l e R s m args below meth c Q D tys S0 ro RO as0 c0 s0 (ptgt pc off) (ls) (st) (h)): Gd p l e R s m args below meth c Q D tys S0 ro RO as0 c0 s0 (pc) (ls) (.ref k :: st) (h) := by
  intro as H locs cells slots ml ms hp hw hL hs hS hc hq
  obtain ⟨w1, u1, rfl, q1, hs1⟩ := hs.cons
  obtain ⟨z, rfl⟩ := q1.isRef hk
  exact lv_ifnonnull (tgt := ptgt pc off) hx hb d (by simp only [ptgt]; omega) (K as H locs cells slots ml _ hp hw hL hs1 hS hc hq)
theorem gd_table (hx : p.tables.exec = Jvm.exec) (hb : c.code = cc) {dflt lo hi : Int} {offs : Array Int} {len : Nat} {x : Int32} (d : decode cc pc = .ok (.tableswitch dflt lo hi offs, len)) (ht : 0 ≤ (pc : Int) + dflt) (hto : ∀ (i : Nat) (o : Int), offs[i]? = some o → 0 ≤ (pc : Int) + o) (hn : (hi - lo).toNat < offs.size) (K : Gd p l e R s m args below meth c Q D tys S0 ro RO as0 c0 s0 (ptable pc dflt lo hi offs x) (ls) (st) (h)): Gd p l e R s m args below meth c Q D tys S0 ro RO as0 c0 s0 (pc) (ls) (.int x :: st) (h) := by
  intro as H locs cells slots ml ms hp hw hL hs hS hc hq
  obtain ⟨w1, u1, rfl, q1, hs1⟩ := hs.cons
  cases q1
  have K2 := K as H locs cells slots ml _ hp hw hL hs1 hS hc hq
  unfold ptable at K2
  split at K2
  · rename_i hh
    exact lv_tableOut (tgt := ptgt pc dflt) hx hb d hh (by simp only [ptgt]; omega) K2
  · rename_i hh
    have hlt : (x.toInt - lo).toNat < offs.size := by omega
    have ho : offs[(x.toInt - lo).toNat]? = some offs[(x.toInt - lo).toNat] := Array.getElem?_eq_getElem hlt
    have h0 := hto _ _ ho
    have e1 : offs.getD (x.toInt - lo).toNat 0 = offs[(x.toInt - lo).toNat] := by simp [Array.getD, hlt]
    rw [e1] at K2
    exact lv_tableIn (tgt := ptgt pc offs[(x.toInt - lo).toNat]) hx hb d (by omega) (by omega) ho (by simp only [ptgt]; omega) K2
end SND
