
theorem pgo_inv {pc : Nat} {ls : PL} {st : List Value} {h : PH} {a : Nat} {b : PL} {c : List Value} {d : PH} (q : pgo pc ls st h = some (.inl (a, b, c, d))) : pc = a ∧ ls = b ∧ st = c ∧ h = d := by
  simp only [pgo, Option.some.injEq, Sum.inl.injEq, Prod.mk.injEq] at q
  exact q
theorem pint2_inv {pc : Nat} {ls : PL} {st : List Value} {h : PH} {f : Int32 → Int32 → Option Int32} {nx : PN} (q : pint2 pc ls st h f = some nx) : ∃ y x t z, st = .int y :: .int x :: t ∧ f x y = some z ∧ pgo pc ls (.int z :: t) h = some nx := by
  unfold pint2 at q
  split at q
  · split at q
    · rename_i hz; exact ⟨_, _, _, _, rfl, hz, q⟩
    · cases q
  · cases q
theorem plong2_inv {pc : Nat} {ls : PL} {st : List Value} {h : PH} {f : Int64 → Int64 → Int64} {nx : PN} (q : plong2 pc ls st h f = some nx) : ∃ y x t, st = .long y :: .long x :: t ∧ pgo pc ls (.long (f x y) :: t) h = some nx := by
  unfold plong2 at q
  split at q
  · exact ⟨_, _, _, rfl, q⟩
  · cases q
theorem pint1_inv {pc : Nat} {ls : PL} {st : List Value} {h : PH} {f : Int32 → Value} {nx : PN} (q : pint1 pc ls st h f = some nx) : ∃ x t, st = .int x :: t ∧ pgo pc ls (f x :: t) h = some nx := by
  unfold pint1 at q
  split at q
  · exact ⟨_, _, rfl, q⟩
  · cases q
theorem psload_inv {ls : PL} {i : Nat} {v : Value} (q : psload ls i = some v) : ls[i]? = some (some v) := by
  unfold psload at q
  split at q
  · rename_i hz; cases q; exact hz
  · cases q
theorem pload_inv {pc i : Nat} {ls : PL} {st : List Value} {h : PH} {f : Value → Bool} {nx : PN} (q : pload pc ls st h i f = some nx) : ∃ v, ls[i]? = some (some v) ∧ f v = true ∧ pgo pc ls (v :: st) h = some nx := by
  unfold pload at q
  split at q
  · rename_i hz
    split at q
    · rename_i hf; exact ⟨_, psload_inv hz, hf, q⟩
    · cases q
  · cases q
theorem pstore1_inv {pc i : Nat} {ls : PL} {st : List Value} {h : PH} {f : Value → Bool} {nx : PN} (q : pstore1 pc ls st h i f = some nx) : ∃ v t, st = v :: t ∧ f v = true ∧ i < ls.length ∧ pgo pc (pst1 ls i v) t h = some nx := by
  unfold pstore1 at q
  split at q
  · split at q
    · rename_i hf; exact ⟨_, _, rfl, hf.1, hf.2, q⟩
    · cases q
  · cases q
theorem pstore2_inv {pc i : Nat} {ls : PL} {st : List Value} {h : PH} {f : Value → Bool} {nx : PN} (q : pstore2 pc ls st h i f = some nx) : ∃ v t, st = v :: t ∧ f v = true ∧ i + 1 < ls.length ∧ pgo pc (pst2 ls i v) t h = some nx := by
  unfold pstore2 at q
  split at q
  · split at q
    · rename_i hf; exact ⟨_, _, rfl, hf.1, hf.2, q⟩
    · cases q
  · cases q
theorem isI_inv {v : Value} (q : isI v = true) : ∃ x, v = .int x := by cases v <;> first | exact ⟨_, rfl⟩ | cases q
theorem isL_inv {v : Value} (q : isL v = true) : ∃ x, v = .long x := by cases v <;> first | exact ⟨_, rfl⟩ | cases q
theorem isD_inv {v : Value} (q : isD v = true) : ∃ x, v = .double x := by cases v <;> first | exact ⟨_, rfl⟩ | cases q
theorem harr_inv {h : PH} {a : Nat} {o : Nat × vp_A} (q : harr h a = some o) : h.2 a = some (.inl o) := by
  unfold harr at q
  split at q
  · rename_i hz; cases q; exact hz
  · cases q
theorem hobj_inv {h : PH} {a : Nat} {o : Nat × List Value} (q : hobj h a = some o) : h.2 a = some (.inr o) := by
  unfold hobj at q
  split at q
  · rename_i hz; cases q; exact hz
  · cases q
theorem paload_inv {b : Bool} {pc : Nat} {ls : PL} {st : List Value} {h : PH} {nx : PN} (q : paload b pc ls st h = some nx) : ∃ i a t k n f, st = .int i :: .ref a :: t ∧ h.2 a = some (.inl (k, n, .inl f)) ∧ kb b k = true ∧ inB i n = true ∧ pgo pc ls (.int (f i.toNatClampNeg) :: t) h = some nx := by
  unfold paload at q
  split at q
  · split at q
    · rename_i hz
      split at q
      · rename_i hf; exact ⟨_, _, _, _, _, _, rfl, harr_inv hz, hf.1, hf.2, q⟩
      · cases q
    · cases q
  · cases q
theorem plaload_inv {pc : Nat} {ls : PL} {st : List Value} {h : PH} {nx : PN} (q : plaload pc ls st h = some nx) : ∃ i a t n f, st = .int i :: .ref a :: t ∧ h.2 a = some (.inl (1, n, .inr (.inl f))) ∧ inB i n = true ∧ pgo pc ls (.long (f i.toNatClampNeg) :: t) h = some nx := by
  unfold plaload at q
  split at q
  · split at q
    · rename_i hz
      split at q
      · rename_i hf; exact ⟨_, _, _, _, _, rfl, harr_inv hz, hf, q⟩
      · cases q
    · cases q
  · cases q
theorem pqaload_inv {pc : Nat} {ls : PL} {st : List Value} {h : PH} {nx : PN} (q : pqaload pc ls st h = some nx) : ∃ i a t k n f, st = .int i :: .ref a :: t ∧ h.2 a = some (.inl (k, n, .inr (.inr (.inr (.inr f))))) ∧ (3 ≤ k ∧ k ≤ 8) ∧ inB i n = true ∧ pgo pc ls (va_rf (f i.toNatClampNeg) :: t) h = some nx := by
  unfold pqaload at q
  split at q
  · split at q
    · rename_i hz
      split at q
      · rename_i hf; exact ⟨_, _, _, _, _, _, rfl, harr_inv hz, ⟨hf.1, hf.2.1⟩, hf.2.2, q⟩
      · cases q
    · cases q
  · cases q
theorem pastore_inv {b : Bool} {pc : Nat} {ls : PL} {st : List Value} {h : PH} {nx : PN} (q : pastore b pc ls st h = some nx) : ∃ x i a t k n f, st = .int x :: .int i :: .ref a :: t ∧ h.2 a = some (.inl (k, n, .inl f)) ∧ 300 ≤ a ∧ kb b k = true ∧ inB i n = true ∧ pgo pc ls t (hset h a (.inl (k, n, .inl (upd f i.toNatClampNeg (vp_nar (tyOf k) x))))) = some nx := by
  unfold pastore at q
  split at q
  · split at q
    · rename_i hz
      split at q
      · rename_i hf; exact ⟨_, _, _, _, _, _, _, rfl, harr_inv hz, hf.1, hf.2.1, hf.2.2, q⟩
      · cases q
    · cases q
  · cases q
theorem plastore_inv {pc : Nat} {ls : PL} {st : List Value} {h : PH} {nx : PN} (q : plastore pc ls st h = some nx) : ∃ x i a t n f, st = .long x :: .int i :: .ref a :: t ∧ h.2 a = some (.inl (1, n, .inr (.inl f))) ∧ 300 ≤ a ∧ inB i n = true ∧ pgo pc ls t (hset h a (.inl (1, n, .inr (.inl (vp_updL f i.toNatClampNeg x))))) = some nx := by
  unfold plastore at q
  split at q
  · split at q
    · rename_i hz
      split at q
      · rename_i hf; exact ⟨_, _, _, _, _, _, rfl, harr_inv hz, hf.1, hf.2, q⟩
      · cases q
    · cases q
  · cases q
theorem pqastore_inv {pc : Nat} {ls : PL} {st : List Value} {h : PH} {r : List Nat} {nx : PN} (q : pqastore pc ls st h r = some nx) : ∃ b i a t k n f, st = .ref b :: .int i :: .ref a :: t ∧ h.2 a = some (.inl (k, n, .inr (.inr (.inr (.inr f))))) ∧ 300 ≤ a ∧ okRef h k b = true ∧ inB i n = true ∧ pgo pc ls t (hset h a (.inl (k, n, .inr (.inr (.inr (.inr (va_up f i.toNatClampNeg (some b)))))))) = some nx := by
  unfold pqastore at q
  split at q
  · split at q
    · rename_i hz1
      split at q
      · rename_i hf; exact ⟨_, _, _, _, _, _, _, rfl, harr_inv hz1, hf.1, hf.2.1, hf.2.2, q⟩
      · cases q
    · cases q
  · cases q
theorem pgetf_inv {pc : Nat} {ls : PL} {st : List Value} {h : PH} {r : List Nat} {nx : PN} (q : pgetf pc ls st h r = some nx) : ∃ ci k r' a t c fs v, r = ci :: k :: r' ∧ st = .ref a :: t ∧ h.2 a = some (.inr (c, fs)) ∧ (c = ci ∨ ci = 0 ∧ c = 13) ∧ fs[k]? = some v ∧ pgo pc ls (v :: t) h = some nx := by
  unfold pgetf at q
  split at q
  · split at q
    · rename_i hz
      split at q
      · rename_i hc
        split at q
        · rename_i hv; exact ⟨_, _, _, _, _, _, _, _, rfl, rfl, hobj_inv hz, hc, hv, q⟩
        · cases q
      · cases q
    · cases q
  · cases q
theorem pputf_inv {pc : Nat} {ls : PL} {st : List Value} {h : PH} {r : List Nat} {ty : FieldType} {nx : PN} (q : pputf pc ls st h r ty = some nx) : ∃ ci k r' v a t fs, r = ci :: k :: r' ∧ st = v :: .ref a :: t ∧ h.2 a = some (.inr (ci, fs)) ∧ 300 ≤ a ∧ k < fs.length ∧ fits ty v = true ∧ narrow ty v = v ∧ pgo pc ls t (hset h a (.inr (ci, fs.set k v))) = some nx := by
  unfold pputf at q
  split at q
  · split at q
    · rename_i hz
      split at q
      · rename_i hc
        obtain ⟨rfl, h1, h2, h3, h4⟩ := hc
        exact ⟨_, _, _, _, _, _, _, rfl, rfl, hobj_inv hz, h1, h2, h3, h4, q⟩
      · cases q
    · cases q
  · cases q
theorem palen_inv {pc : Nat} {ls : PL} {st : List Value} {h : PH} {nx : PN} (q : palen pc ls st h = some nx) : ∃ a t k x, st = .ref a :: t ∧ h.2 a = some (.inl (k, x)) ∧ pgo pc ls (.int (Int32.ofNat x.1) :: t) h = some nx := by
  unfold palen at q
  split at q
  · split at q
    · rename_i hz; exact ⟨_, _, _, _, rfl, harr_inv hz, q⟩
    · cases q
  · cases q
theorem pnewa_inv {pc : Nat} {ls : PL} {st : List Value} {h : PH} {r : List Nat} {nx : PN} (q : pnewa pc ls st h r = some nx) : ∃ k r' n t, r = k :: r' ∧ st = .int n :: t ∧ ¬ n < 0 ∧ n.toNatClampNeg ≤ 60000 ∧ pgo pc ls (.ref h.1.1 :: t) (hnew h n.toNatClampNeg (.inl (k, arr0 k n.toNatClampNeg))) = some nx := by
  unfold pnewa at q
  split at q
  · split at q
    · rename_i hf; exact ⟨_, _, _, _, rfl, rfl, hf.1, hf.2, q⟩
    · cases q
  · cases q
theorem pcopy_inv {pc : Nat} {ls : PL} {st : List Value} {h : PH} {nx : PN} (q : pcopy pc ls st h = some nx) : ∃ n dp a sp b t n0 n1 f g k0 k1, st = .int n :: .int dp :: .ref a :: .int sp :: .ref b :: t ∧ h.2 b = some (.inl (k0, n0, .inl f)) ∧ h.2 a = some (.inl (k1, n1, .inl g)) ∧ (300 ≤ a ∧ (k0 = 0 ∧ k1 = 0 ∧ 300 ≤ b ∨ k0 = 2 ∧ k1 = 2 ∧ fitB f sp.toNatClampNeg n.toNatClampNeg = true) ∧ ¬ sp < 0 ∧ ¬ dp < 0 ∧ ¬ n < 0 ∧ sp.toNatClampNeg + n.toNatClampNeg ≤ n0 ∧ dp.toNatClampNeg + n.toNatClampNeg ≤ n1 ∧ psum t ≤ 8) ∧
      pgo pc ls t (hset h a (.inl (k1, n1, .inl (va_cpy f g sp.toNatClampNeg dp.toNatClampNeg n.toNatClampNeg)))) = some nx := by
  unfold pcopy at q
  split at q
  · split at q
    · rename_i hz1 hz2
      split at q
      · rename_i hf; exact ⟨_, _, _, _, _, _, _, _, _, _, _, _, rfl, harr_inv hz1, harr_inv hz2, hf, q⟩
      · cases q
    · cases q
  · cases q
theorem pmath_inv {k pc : Nat} {ls : PL} {st : List Value} {h : PH} {nx : PN} (q : pmath k pc ls st h = some nx) : (∃ x t, k = 0 ∧ st = .int x :: t ∧ psum t ≤ 8 ∧ pgo pc ls (.int (if 0 ≤ x then x else 0 - x) :: t) h = some nx) ∨ (∃ y x t, k = 1 ∧ st = .int y :: .int x :: t ∧ psum t ≤ 8 ∧ pgo pc ls (.int (if x < y then y else x) :: t) h = some nx) ∨ (∃ y x t, k = 2 ∧ st = .int y :: .int x :: t ∧ psum t ≤ 8 ∧ pgo pc ls (.int (if y < x then y else x) :: t) h = some nx) := by
  unfold pmath at q
  split at q
  · split at q
    · rename_i hf; exact Or.inl ⟨_, _, rfl, rfl, hf, q⟩
    · cases q
  · split at q
    · rename_i hf; exact Or.inr (Or.inl ⟨_, _, _, rfl, rfl, hf, q⟩)
    · cases q
  · split at q
    · rename_i hf; exact Or.inr (Or.inr ⟨_, _, _, rfl, rfl, hf, q⟩)
    · cases q
  · cases q
theorem pcall_inl {ls : PL} {st : List Value} {h : PH} {r : List Nat} {q : Nat × PL × List Value × PH} (hq : pcall ls st h r = some (.inl q)) : False := by
  unfold pcall at hq
  split at hq
  · split at hq
    · split at hq
      · cases hq
      · split at hq
        · split at hq
          · split at hq <;> cases hq
          · cases hq
        · cases hq
    · cases hq
  · cases hq
theorem pcallI_inv {x : Option PN} {nx : PN} (q : pcallI x = some nx) : x = some nx ∧ ∃ j k t l s h, nx = .inr (.inr (j, .ref k :: t, l, s, h)) ∧ k ≠ 201 := by
  unfold pcallI at q
  split at q
  · split at q
    · cases q
    · rename_i hk; cases q; exact ⟨rfl, _, _, _, _, _, _, rfl, hk⟩
  · cases q
theorem pnewo_inl {pc : Nat} {ls : PL} {st : List Value} {h : PH} {r : List Nat} {fs : List Value} {q : Nat × PL × List Value × PH} (hq : pnewo pc ls st h r fs = some (.inl q)) : ∃ ci r', r = ci :: r' ∧ ci < 100 ∧ pgo pc ls (.ref h.1.1 :: st) (hnew h fs.length (.inr (ci, fs))) = some (.inl q) := by
  unfold pnewo at hq
  split at hq
  · split at hq
    · split at hq <;> cases hq
    · rename_i hc; exact ⟨_, _, rfl, by omega, hq⟩
  · cases hq

section SND6
variable {p : Program} {l : Launch} {e : Env} {R : Room} {s : State} {m : MethodId} {args : Array Value} {below : List Frame} {meth : Method} {c : Code} {Q : State → Prop}
variable {D : va_G} {tys : List (ClassId × FieldType)} {S0 : Nat} {ro : List Nat} {RO : Nat → Option PC} {as0 : List Nat} {c0 s0 : Nat} {cc : ByteArray} {pc : Nat} {ls : PL} {st : List Value} {h : PH} {own : String}

theorem gd_mabs (hx : p.tables.exec = Jvm.exec) (hb : c.code = cc) (hown : s.vm.findClass own = some m.cls) (hts : ∀ w ∈ lwG, w.before args s = true) {ix : Nat} {x : Int32} (d : decode cc pc = .ok (.invokestatic ix, 3)) (hl1 : Jvm.Cond.methodLink own ix Lib.Math.abs.name ∈ lwG) (hl2 : Jvm.Cond.static Lib.Math.abs.name ∈ lwG) (hl3 : Jvm.Cond.initialized "java/lang/Math" ∈ lwG) (hl4 : Jvm.Cond.code Lib.Math.abs.name Lib.Math.abs.code 1 (some .int) ∈ lwG) (hst : psum st ≤ 8) (hR1 : 1 ≤ R.frames) (hR2 : 60 ≤ R.locals) (hr1 : h.1.2.1 ≤ c0 + R.cells) (hr2 : h.1.2.2 ≤ s0 + R.slots) (K : Gd p l e R s m args below meth c Q D tys S0 ro RO as0 c0 s0 (pc + 3) (ls) (.int (if 0 ≤ x then x else 0 - x) :: st) (h)) : Gd p l e R s m args below meth c Q D tys S0 ro RO as0 c0 s0 (pc) (ls) (.int x :: st) (h) := by
  intro as H locs cells slots ml ms hp hw hL hs hS hc hq
  obtain ⟨w1, u1, rfl, q1, hs1⟩ := hs.cons
  cases q1
  have hsum := hs1.sum
  exact va_mabs hx hb hL.1.1.symm hown (hts _ hl1) (hts _ hl2) (hts _ hl3) (hts _ hl4) hR1 (by rw [hsum]; omega) (by omega) (by omega) d (K as H locs cells slots ml _ hp hw hL ⟨rfl, hs1⟩ hS hc hq)
theorem gd_mmax (hx : p.tables.exec = Jvm.exec) (hb : c.code = cc) (hown : s.vm.findClass own = some m.cls) (hts : ∀ w ∈ lwG, w.before args s = true) {ix : Nat} {x y : Int32} (d : decode cc pc = .ok (.invokestatic ix, 3)) (hl1 : Jvm.Cond.methodLink own ix Lib.Math.max.name ∈ lwG) (hl2 : Jvm.Cond.static Lib.Math.max.name ∈ lwG) (hl3 : Jvm.Cond.initialized "java/lang/Math" ∈ lwG) (hl4 : Jvm.Cond.code Lib.Math.max.name Lib.Math.max.code 2 (some .int) ∈ lwG) (hst : psum st ≤ 8) (hR1 : 1 ≤ R.frames) (hR2 : 60 ≤ R.locals) (hr1 : h.1.2.1 ≤ c0 + R.cells) (hr2 : h.1.2.2 ≤ s0 + R.slots) (K : Gd p l e R s m args below meth c Q D tys S0 ro RO as0 c0 s0 (pc + 3) (ls) (.int (if x < y then y else x) :: st) (h)) : Gd p l e R s m args below meth c Q D tys S0 ro RO as0 c0 s0 (pc) (ls) (.int y :: .int x :: st) (h) := by
  intro as H locs cells slots ml ms hp hw hL hs hS hc hq
  obtain ⟨w1, u1, rfl, q1, hs0⟩ := hs.cons
  obtain ⟨w2, u2, rfl, q2, hs1⟩ := hs0.cons
  cases q1; cases q2
  have hsum := hs1.sum
  exact va_mmax hx hb hL.1.1.symm hown (hts _ hl1) (hts _ hl2) (hts _ hl3) (hts _ hl4) hR1 (by rw [hsum]; omega) (by omega) (by omega) d (K as H locs cells slots ml _ hp hw hL ⟨rfl, hs1⟩ hS hc hq)
theorem gd_mmin (hx : p.tables.exec = Jvm.exec) (hb : c.code = cc) (hown : s.vm.findClass own = some m.cls) (hts : ∀ w ∈ lwG, w.before args s = true) {ix : Nat} {x y : Int32} (d : decode cc pc = .ok (.invokestatic ix, 3)) (hl1 : Jvm.Cond.methodLink own ix Lib.Math.min.name ∈ lwG) (hl2 : Jvm.Cond.static Lib.Math.min.name ∈ lwG) (hl3 : Jvm.Cond.initialized "java/lang/Math" ∈ lwG) (hl4 : Jvm.Cond.code Lib.Math.min.name Lib.Math.min.code 2 (some .int) ∈ lwG) (hst : psum st ≤ 8) (hR1 : 1 ≤ R.frames) (hR2 : 60 ≤ R.locals) (hr1 : h.1.2.1 ≤ c0 + R.cells) (hr2 : h.1.2.2 ≤ s0 + R.slots) (K : Gd p l e R s m args below meth c Q D tys S0 ro RO as0 c0 s0 (pc + 3) (ls) (.int (if y < x then y else x) :: st) (h)) : Gd p l e R s m args below meth c Q D tys S0 ro RO as0 c0 s0 (pc) (ls) (.int y :: .int x :: st) (h) := by
  intro as H locs cells slots ml ms hp hw hL hs hS hc hq
  obtain ⟨w1, u1, rfl, q1, hs0⟩ := hs.cons
  obtain ⟨w2, u2, rfl, q2, hs1⟩ := hs0.cons
  cases q1; cases q2
  have hsum := hs1.sum
  exact va_mmin hx hb hL.1.1.symm hown (hts _ hl1) (hts _ hl2) (hts _ hl3) (hts _ hl4) hR1 (by rw [hsum]; omega) (by omega) (by omega) d (K as H locs cells slots ml _ hp hw hL ⟨rfl, hs1⟩ hS hc hq)

set_option maxHeartbeats 4000000 in
/-- ONE STEP that stays in the method -/
theorem snd_go (hx : p.tables.exec = Jvm.exec) (hb : c.code = cc) (hown : s.vm.findClass own = some m.cls) (hts : ∀ w ∈ lwG, w.before args s = true) (hE : EN D tys S0 ro RO s) {ini : Bool} (hin : ini = true → meth.name = "<init>") {rt : Option FieldType} {tb : List PI} {i : Instr} {len : Nat} {r : List Nat} {v : Value} (hdec : decode cc pc = .ok (i, len)) (hok : okI own ini rt tb (pc, i, len, r, v) = true) (hR1 : 1 ≤ R.frames) (hR2 : 60 ≤ R.locals)
    {pc' : Nat} {ls' : PL} {st' : List Value} {h' : PH} (hs : pstep rt pc i len r v ls st h = some (.inl (pc', ls', st', h'))) (hr1 : h'.1.2.1 ≤ c0 + R.cells) (hr2 : h'.1.2.2 ≤ s0 + R.slots) (K : Gd p l e R s m args below meth c Q D tys S0 ro RO as0 c0 s0 (pc') (ls') (st') (h')) : Gd p l e R s m args below meth c Q D tys S0 ro RO as0 c0 s0 (pc) (ls) (st) (h) := by
  simp only [okI, Bool.and_eq_true] at hok
  obtain ⟨hlen, hok⟩ := hok
  cases i with
  | iconst n =>
    simp only [ilen, decide_eq_true_eq] at hlen; subst hlen
    simp only [pstep] at hs
    obtain ⟨rfl, rfl, rfl, rfl⟩ := pgo_inv hs
    exact gd_iconst hx hb hdec K
  | bipush n =>
    simp only [ilen, decide_eq_true_eq] at hlen; subst hlen
    simp only [pstep] at hs
    obtain ⟨rfl, rfl, rfl, rfl⟩ := pgo_inv hs
    exact gd_bipush hx hb hdec K
  | sipush n =>
    simp only [ilen, decide_eq_true_eq] at hlen; subst hlen
    simp only [pstep] at hs
    obtain ⟨rfl, rfl, rfl, rfl⟩ := pgo_inv hs
    exact gd_sipush hx hb hdec K
  | lconst n =>
    simp only [ilen, decide_eq_true_eq] at hlen; subst hlen
    simp only [pstep] at hs
    obtain ⟨rfl, rfl, rfl, rfl⟩ := pgo_inv hs
    exact gd_lconst hx hb hdec K
  | dconst n =>
    simp only [ilen, decide_eq_true_eq] at hlen; subst hlen
    simp only [pstep] at hs
    split at hs
    · rename_i hn
      subst hn
      obtain ⟨rfl, rfl, rfl, rfl⟩ := pgo_inv hs
      exact gd_dconst0 hx hb hdec K
    · cases hs
  | aconst_null =>
    simp only [ilen, decide_eq_true_eq] at hlen; subst hlen
    simp only [pstep] at hs
    obtain ⟨rfl, rfl, rfl, rfl⟩ := pgo_inv hs
    exact gd_anull hx hb hdec K
  | ldc ix =>
    simp only [ilen, decide_eq_true_eq] at hlen; subst hlen
    simp only [pstep] at hs
    obtain ⟨rfl, rfl, rfl, rfl⟩ := pgo_inv hs
    simp only at hok
    rw [Bool.or_eq_true] at hok
    rcases hok with hok | hok
    · unfold okLdc at hok
      split at hok
      · simp only [Bool.and_eq_true, decide_eq_true_eq, List.any_eq_true] at hok
        obtain ⟨h1, ⟨o1, i1, t1, k1⟩, h2, ⟨h3, h4⟩, h5⟩ := hok
        dsimp only at h3 h4 h5
        subst h3; subst h4; subst h5
        exact gd_ldcs hx hb hown hE hdec h2 h1 K
      · cases hok
    · unfold okLdcI at hok
      split at hok
      · exact gd_ldci hx hb hown hts hdec (wAt_in hok) K
      · cases hok
  | ldc_w ix =>
    cases hok
  | ldc2_w ix =>
    simp only [ilen, decide_eq_true_eq] at hlen; subst hlen
    simp only [pstep] at hs
    obtain ⟨rfl, rfl, rfl, rfl⟩ := pgo_inv hs
    simp only at hok
    unfold okLdc2 at hok
    split at hok
    · exact gd_ldcl hx hb hown hts hdec (wAt_in hok) K
    · cases hok
  | getstatic ix =>
    simp only [ilen, decide_eq_true_eq] at hlen; subst hlen
    simp only [pstep] at hs
    obtain ⟨rfl, rfl, rfl, rfl⟩ := pgo_inv hs
    simp only at hok
    unfold okSta at hok
    split at hok
    · simp only [List.any_eq_true, Bool.and_eq_true, decide_eq_true_eq] at hok
      obtain ⟨⟨C, n, ds, v1⟩, h1, h2, h3⟩ := hok
      dsimp only at h2 h3
      subst h2
      exact gd_gets hx hb hown hts hE hdec h1 (wAt_in h3) K
    · cases hok
  | iload_n k =>
    simp only [ilen, decide_eq_true_eq] at hlen; subst hlen
    simp only [pstep] at hs
    obtain ⟨v1, h1, h2, hs⟩ := pload_inv hs
    obtain ⟨rfl, rfl, rfl, rfl⟩ := pgo_inv hs
    obtain ⟨x, rfl⟩ := isI_inv h2
    exact gd_iload_n hx hb hdec h1 K
  | iload k =>
    simp only [ilen, decide_eq_true_eq] at hlen; subst hlen
    simp only [pstep] at hs
    obtain ⟨v1, h1, h2, hs⟩ := pload_inv hs
    obtain ⟨rfl, rfl, rfl, rfl⟩ := pgo_inv hs
    obtain ⟨x, rfl⟩ := isI_inv h2
    exact gd_iload hx hb hdec h1 K
  | lload_n k =>
    simp only [ilen, decide_eq_true_eq] at hlen; subst hlen
    simp only [pstep] at hs
    obtain ⟨v1, h1, h2, hs⟩ := pload_inv hs
    obtain ⟨rfl, rfl, rfl, rfl⟩ := pgo_inv hs
    obtain ⟨x, rfl⟩ := isL_inv h2
    exact gd_lload_n hx hb hdec h1 K
  | lload k =>
    simp only [ilen, decide_eq_true_eq] at hlen; subst hlen
    simp only [pstep] at hs
    obtain ⟨v1, h1, h2, hs⟩ := pload_inv hs
    obtain ⟨rfl, rfl, rfl, rfl⟩ := pgo_inv hs
    obtain ⟨x, rfl⟩ := isL_inv h2
    exact gd_lload hx hb hdec h1 K
  | dload_n k =>
    simp only [ilen, decide_eq_true_eq] at hlen; subst hlen
    simp only [pstep] at hs
    obtain ⟨v1, h1, h2, hs⟩ := pload_inv hs
    obtain ⟨rfl, rfl, rfl, rfl⟩ := pgo_inv hs
    obtain ⟨x, rfl⟩ := isD_inv h2
    exact gd_dload_n hx hb hdec h1 K
  | dload k =>
    simp only [ilen, decide_eq_true_eq] at hlen; subst hlen
    simp only [pstep] at hs
    obtain ⟨v1, h1, h2, hs⟩ := pload_inv hs
    obtain ⟨rfl, rfl, rfl, rfl⟩ := pgo_inv hs
    obtain ⟨x, rfl⟩ := isD_inv h2
    exact gd_dload hx hb hdec h1 K
  | aload_n k =>
    simp only [ilen, decide_eq_true_eq] at hlen; subst hlen
    simp only [pstep] at hs
    obtain ⟨v1, h1, h2, hs⟩ := pload_inv hs
    obtain ⟨rfl, rfl, rfl, rfl⟩ := pgo_inv hs
    exact gd_aload_n hx hb hdec h1 h2 K
  | aload k =>
    simp only [ilen, decide_eq_true_eq] at hlen; subst hlen
    simp only [pstep] at hs
    obtain ⟨v1, h1, h2, hs⟩ := pload_inv hs
    obtain ⟨rfl, rfl, rfl, rfl⟩ := pgo_inv hs
    exact gd_aload hx hb hdec h1 h2 K
  | istore_n k =>
    simp only [ilen, decide_eq_true_eq] at hlen; subst hlen
    simp only [pstep] at hs
    obtain ⟨v1, t, rfl, h2, h3, hs⟩ := pstore1_inv hs
    obtain ⟨rfl, rfl, rfl, rfl⟩ := pgo_inv hs
    obtain ⟨x, rfl⟩ := isI_inv h2
    exact gd_istore_n hx hb hdec h3 K
  | istore k =>
    simp only [ilen, decide_eq_true_eq] at hlen; subst hlen
    simp only [pstep] at hs
    obtain ⟨v1, t, rfl, h2, h3, hs⟩ := pstore1_inv hs
    obtain ⟨rfl, rfl, rfl, rfl⟩ := pgo_inv hs
    obtain ⟨x, rfl⟩ := isI_inv h2
    exact gd_istore hx hb hdec h3 K
  | lstore_n k =>
    simp only [ilen, decide_eq_true_eq] at hlen; subst hlen
    simp only [pstep] at hs
    obtain ⟨v1, t, rfl, h2, h3, hs⟩ := pstore2_inv hs
    obtain ⟨rfl, rfl, rfl, rfl⟩ := pgo_inv hs
    obtain ⟨x, rfl⟩ := isL_inv h2
    exact gd_lstore_n hx hb hdec h3 K
  | lstore k =>
    simp only [ilen, decide_eq_true_eq] at hlen; subst hlen
    simp only [pstep] at hs
    obtain ⟨v1, t, rfl, h2, h3, hs⟩ := pstore2_inv hs
    obtain ⟨rfl, rfl, rfl, rfl⟩ := pgo_inv hs
    obtain ⟨x, rfl⟩ := isL_inv h2
    exact gd_lstore hx hb hdec h3 K
  | dstore_n k =>
    simp only [ilen, decide_eq_true_eq] at hlen; subst hlen
    simp only [pstep] at hs
    obtain ⟨v1, t, rfl, h2, h3, hs⟩ := pstore2_inv hs
    obtain ⟨rfl, rfl, rfl, rfl⟩ := pgo_inv hs
    obtain ⟨x, rfl⟩ := isD_inv h2
    exact gd_dstore_n hx hb hdec h3 K
  | dstore k =>
    simp only [ilen, decide_eq_true_eq] at hlen; subst hlen
    simp only [pstep] at hs
    obtain ⟨v1, t, rfl, h2, h3, hs⟩ := pstore2_inv hs
    obtain ⟨rfl, rfl, rfl, rfl⟩ := pgo_inv hs
    obtain ⟨x, rfl⟩ := isD_inv h2
    exact gd_dstore hx hb hdec h3 K
  | astore_n k =>
    simp only [ilen, decide_eq_true_eq] at hlen; subst hlen
    simp only [pstep] at hs
    obtain ⟨v1, t, rfl, h2, h3, hs⟩ := pstore1_inv hs
    obtain ⟨rfl, rfl, rfl, rfl⟩ := pgo_inv hs
    exact gd_astore_n hx hb hdec h3 h2 K
  | astore k =>
    simp only [ilen, decide_eq_true_eq] at hlen; subst hlen
    simp only [pstep] at hs
    obtain ⟨v1, t, rfl, h2, h3, hs⟩ := pstore1_inv hs
    obtain ⟨rfl, rfl, rfl, rfl⟩ := pgo_inv hs
    exact gd_astore hx hb hdec h3 h2 K
  | iinc k n =>
    simp only [ilen, decide_eq_true_eq] at hlen; subst hlen
    simp only [pstep] at hs
    split at hs
    · rename_i hz
      split at hs
      · rename_i hl
        obtain ⟨rfl, rfl, rfl, rfl⟩ := pgo_inv hs
        exact gd_iinc hx hb hdec (psload_inv hz) hl K
      · cases hs
    · cases hs
  | iadd =>
    simp only [ilen, decide_eq_true_eq] at hlen; subst hlen
    simp only [pstep] at hs
    obtain ⟨y, x, t, z, rfl, hz, hs⟩ := pint2_inv hs
    cases hz
    obtain ⟨rfl, rfl, rfl, rfl⟩ := pgo_inv hs
    exact gd_iadd hx hb hdec K
  | isub =>
    simp only [ilen, decide_eq_true_eq] at hlen; subst hlen
    simp only [pstep] at hs
    obtain ⟨y, x, t, z, rfl, hz, hs⟩ := pint2_inv hs
    cases hz
    obtain ⟨rfl, rfl, rfl, rfl⟩ := pgo_inv hs
    exact gd_isub hx hb hdec K
  | imul =>
    simp only [ilen, decide_eq_true_eq] at hlen; subst hlen
    simp only [pstep] at hs
    obtain ⟨y, x, t, z, rfl, hz, hs⟩ := pint2_inv hs
    cases hz
    obtain ⟨rfl, rfl, rfl, rfl⟩ := pgo_inv hs
    exact gd_imul hx hb hdec K
  | iand =>
    simp only [ilen, decide_eq_true_eq] at hlen; subst hlen
    simp only [pstep] at hs
    obtain ⟨y, x, t, z, rfl, hz, hs⟩ := pint2_inv hs
    cases hz
    obtain ⟨rfl, rfl, rfl, rfl⟩ := pgo_inv hs
    exact gd_iand hx hb hdec K
  | ior =>
    simp only [ilen, decide_eq_true_eq] at hlen; subst hlen
    simp only [pstep] at hs
    obtain ⟨y, x, t, z, rfl, hz, hs⟩ := pint2_inv hs
    cases hz
    obtain ⟨rfl, rfl, rfl, rfl⟩ := pgo_inv hs
    exact gd_ior hx hb hdec K
  | ishl =>
    simp only [ilen, decide_eq_true_eq] at hlen; subst hlen
    simp only [pstep] at hs
    obtain ⟨y, x, t, z, rfl, hz, hs⟩ := pint2_inv hs
    cases hz
    obtain ⟨rfl, rfl, rfl, rfl⟩ := pgo_inv hs
    exact gd_ishl hx hb hdec K
  | ishr =>
    simp only [ilen, decide_eq_true_eq] at hlen; subst hlen
    simp only [pstep] at hs
    obtain ⟨y, x, t, z, rfl, hz, hs⟩ := pint2_inv hs
    cases hz
    obtain ⟨rfl, rfl, rfl, rfl⟩ := pgo_inv hs
    exact gd_ishr hx hb hdec K
  | iushr =>
    simp only [ilen, decide_eq_true_eq] at hlen; subst hlen
    simp only [pstep] at hs
    obtain ⟨y, x, t, z, rfl, hz, hs⟩ := pint2_inv hs
    cases hz
    obtain ⟨rfl, rfl, rfl, rfl⟩ := pgo_inv hs
    exact gd_iushr hx hb hdec K
  | idiv =>
    simp only [ilen, decide_eq_true_eq] at hlen; subst hlen
    simp only [pstep] at hs
    obtain ⟨y, x, t, z, rfl, hz, hs⟩ := pint2_inv hs
    split at hz
    · cases hz
    · rename_i hy
      cases hz
      obtain ⟨rfl, rfl, rfl, rfl⟩ := pgo_inv hs
      exact gd_idiv hx hb hdec hy K
  | irem =>
    simp only [ilen, decide_eq_true_eq] at hlen; subst hlen
    simp only [pstep] at hs
    obtain ⟨y, x, t, z, rfl, hz, hs⟩ := pint2_inv hs
    split at hz
    · cases hz
    · rename_i hy
      cases hz
      obtain ⟨rfl, rfl, rfl, rfl⟩ := pgo_inv hs
      exact gd_irem hx hb hdec hy K
  | ineg =>
    simp only [ilen, decide_eq_true_eq] at hlen; subst hlen
    simp only [pstep] at hs
    obtain ⟨x, t, rfl, hs⟩ := pint1_inv hs
    obtain ⟨rfl, rfl, rfl, rfl⟩ := pgo_inv hs
    exact gd_ineg hx hb hdec K
  | i2l =>
    simp only [ilen, decide_eq_true_eq] at hlen; subst hlen
    simp only [pstep] at hs
    obtain ⟨x, t, rfl, hs⟩ := pint1_inv hs
    obtain ⟨rfl, rfl, rfl, rfl⟩ := pgo_inv hs
    exact gd_i2l hx hb hdec K
  | i2b =>
    simp only [ilen, decide_eq_true_eq] at hlen; subst hlen
    simp only [pstep] at hs
    obtain ⟨x, t, rfl, hs⟩ := pint1_inv hs
    obtain ⟨rfl, rfl, rfl, rfl⟩ := pgo_inv hs
    exact gd_i2b hx hb hdec K
  | i2c =>
    simp only [ilen, decide_eq_true_eq] at hlen; subst hlen
    simp only [pstep] at hs
    obtain ⟨x, t, rfl, hs⟩ := pint1_inv hs
    obtain ⟨rfl, rfl, rfl, rfl⟩ := pgo_inv hs
    exact gd_i2c hx hb hdec K
  | i2d =>
    simp only [ilen, decide_eq_true_eq] at hlen; subst hlen
    simp only [pstep] at hs
    obtain ⟨x, t, rfl, hs⟩ := pint1_inv hs
    obtain ⟨rfl, rfl, rfl, rfl⟩ := pgo_inv hs
    exact gd_i2d hx hb hdec K
  | ladd =>
    simp only [ilen, decide_eq_true_eq] at hlen; subst hlen
    simp only [pstep] at hs
    obtain ⟨y, x, t, rfl, hs⟩ := plong2_inv hs
    obtain ⟨rfl, rfl, rfl, rfl⟩ := pgo_inv hs
    exact gd_ladd hx hb hdec K
  | lsub =>
    simp only [ilen, decide_eq_true_eq] at hlen; subst hlen
    simp only [pstep] at hs
    obtain ⟨y, x, t, rfl, hs⟩ := plong2_inv hs
    obtain ⟨rfl, rfl, rfl, rfl⟩ := pgo_inv hs
    exact gd_lsub hx hb hdec K
  | lmul =>
    simp only [ilen, decide_eq_true_eq] at hlen; subst hlen
    simp only [pstep] at hs
    obtain ⟨y, x, t, rfl, hs⟩ := plong2_inv hs
    obtain ⟨rfl, rfl, rfl, rfl⟩ := pgo_inv hs
    exact gd_lmul hx hb hdec K
  | l2i =>
    simp only [ilen, decide_eq_true_eq] at hlen; subst hlen
    simp only [pstep] at hs
    split at hs
    · obtain ⟨rfl, rfl, rfl, rfl⟩ := pgo_inv hs
      exact gd_l2i hx hb hdec K
    · cases hs
  | lcmp =>
    simp only [ilen, decide_eq_true_eq] at hlen; subst hlen
    simp only [pstep] at hs
    split at hs
    · obtain ⟨rfl, rfl, rfl, rfl⟩ := pgo_inv hs
      exact gd_lcmp hx hb hdec K
    · cases hs
  | dcmp op =>
    simp only [ilen, decide_eq_true_eq] at hlen; subst hlen
    simp only [pstep] at hs
    split at hs
    · obtain ⟨rfl, rfl, rfl, rfl⟩ := pgo_inv hs
      exact gd_dcmp hx hb hdec K
    · cases hs
  | ddiv =>
    simp only [ilen, decide_eq_true_eq] at hlen; subst hlen
    simp only [pstep] at hs
    split at hs
    · split at hs
      · rename_i hy
        obtain ⟨rfl, rfl, rfl, rfl⟩ := pgo_inv hs
        exact gd_ddiv hx hb hdec hy K
      · cases hs
    · cases hs
  | dup =>
    simp only [ilen, decide_eq_true_eq] at hlen; subst hlen
    simp only [pstep] at hs
    split at hs
    · split at hs
      · rename_i hy
        obtain ⟨rfl, rfl, rfl, rfl⟩ := pgo_inv hs
        exact gd_dup hx hb hdec hy K
      · cases hs
    · cases hs
  | pop =>
    simp only [ilen, decide_eq_true_eq] at hlen; subst hlen
    simp only [pstep] at hs
    split at hs
    · split at hs
      · rename_i hy
        obtain ⟨rfl, rfl, rfl, rfl⟩ := pgo_inv hs
        exact gd_pop hx hb hdec hy K
      · cases hs
    · cases hs
  | dup_x1 =>
    simp only [ilen, decide_eq_true_eq] at hlen; subst hlen
    simp only [pstep] at hs
    split at hs
    · split at hs
      · rename_i hy
        obtain ⟨rfl, rfl, rfl, rfl⟩ := pgo_inv hs
        exact gd_dup_x1 hx hb hdec hy.1 hy.2 K
      · cases hs
    · cases hs
  | dup2 =>
    simp only [ilen, decide_eq_true_eq] at hlen; subst hlen
    simp only [pstep] at hs
    split at hs
    · split at hs
      · rename_i hy
        obtain ⟨rfl, rfl, rfl, rfl⟩ := pgo_inv hs
        exact gd_dup2 hx hb hdec hy.1 hy.2 K
      · cases hs
    · cases hs
  | ifCond cd off =>
    simp only [ilen, decide_eq_true_eq] at hlen; subst hlen
    simp only [pstep] at hs
    simp only [okJmp, decide_eq_true_eq] at hok
    split at hs
    · split at hs
      · rename_i hc
        obtain ⟨rfl, rfl, rfl, rfl⟩ := pgo_inv hs
        cases cd <;> first | exact gd_if_eq hx hb hdec hok (by rw [if_pos hc]; exact K) | exact gd_if_ne hx hb hdec hok (by rw [if_pos hc]; exact K) | exact gd_if_lt hx hb hdec hok (by rw [if_pos hc]; exact K) | exact gd_if_ge hx hb hdec hok (by rw [if_pos hc]; exact K) | exact gd_if_gt hx hb hdec hok (by rw [if_pos hc]; exact K) | exact gd_if_le hx hb hdec hok (by rw [if_pos hc]; exact K)
      · rename_i hc
        obtain ⟨rfl, rfl, rfl, rfl⟩ := pgo_inv hs
        cases cd <;> first | exact gd_if_eq hx hb hdec hok (by rw [if_neg hc]; exact K) | exact gd_if_ne hx hb hdec hok (by rw [if_neg hc]; exact K) | exact gd_if_lt hx hb hdec hok (by rw [if_neg hc]; exact K) | exact gd_if_ge hx hb hdec hok (by rw [if_neg hc]; exact K) | exact gd_if_gt hx hb hdec hok (by rw [if_neg hc]; exact K) | exact gd_if_le hx hb hdec hok (by rw [if_neg hc]; exact K)
    · cases hs
  | if_icmp cd off =>
    simp only [ilen, decide_eq_true_eq] at hlen; subst hlen
    simp only [pstep] at hs
    simp only [okJmp, decide_eq_true_eq] at hok
    split at hs
    · split at hs
      · rename_i hc
        obtain ⟨rfl, rfl, rfl, rfl⟩ := pgo_inv hs
        cases cd <;> first | exact gd_icmp_eq hx hb hdec hok (by rw [if_pos hc]; exact K) | exact gd_icmp_ne hx hb hdec hok (by rw [if_pos hc]; exact K) | exact gd_icmp_lt hx hb hdec hok (by rw [if_pos hc]; exact K) | exact gd_icmp_ge hx hb hdec hok (by rw [if_pos hc]; exact K) | exact gd_icmp_gt hx hb hdec hok (by rw [if_pos hc]; exact K) | exact gd_icmp_le hx hb hdec hok (by rw [if_pos hc]; exact K)
      · rename_i hc
        obtain ⟨rfl, rfl, rfl, rfl⟩ := pgo_inv hs
        cases cd <;> first | exact gd_icmp_eq hx hb hdec hok (by rw [if_neg hc]; exact K) | exact gd_icmp_ne hx hb hdec hok (by rw [if_neg hc]; exact K) | exact gd_icmp_lt hx hb hdec hok (by rw [if_neg hc]; exact K) | exact gd_icmp_ge hx hb hdec hok (by rw [if_neg hc]; exact K) | exact gd_icmp_gt hx hb hdec hok (by rw [if_neg hc]; exact K) | exact gd_icmp_le hx hb hdec hok (by rw [if_neg hc]; exact K)
    · cases hs
  | goto off =>
    simp only [ilen, decide_eq_true_eq] at hlen; subst hlen
    simp only [pstep] at hs
    simp only [okJmp, decide_eq_true_eq] at hok
    obtain ⟨rfl, rfl, rfl, rfl⟩ := pgo_inv hs
    exact gd_goto hx hb hdec hok K
  | ifnull off =>
    simp only [ilen, decide_eq_true_eq] at hlen; subst hlen
    simp only [pstep] at hs
    simp only [okJmp, decide_eq_true_eq] at hok
    split at hs
    · obtain ⟨rfl, rfl, rfl, rfl⟩ := pgo_inv hs
      exact gd_ifnullN hx hb hdec hok K
    · split at hs
      · cases hs
      · rename_i hk
        obtain ⟨rfl, rfl, rfl, rfl⟩ := pgo_inv hs
        exact gd_ifnull hx hb hdec hok hk K
    · cases hs
  | ifnonnull off =>
    simp only [ilen, decide_eq_true_eq] at hlen; subst hlen
    simp only [pstep] at hs
    simp only [okJmp, decide_eq_true_eq] at hok
    split at hs
    · obtain ⟨rfl, rfl, rfl, rfl⟩ := pgo_inv hs
      exact gd_ifnonnullN hx hb hdec hok K
    · split at hs
      · cases hs
      · rename_i hk
        obtain ⟨rfl, rfl, rfl, rfl⟩ := pgo_inv hs
        exact gd_ifnonnull hx hb hdec hok hk K
    · cases hs
  | tableswitch dflt lo hi offs =>
    simp only [pstep] at hs
    simp only [okTab, Bool.and_eq_true, decide_eq_true_eq, List.all_eq_true, okJmp] at hok
    split at hs
    · obtain ⟨rfl, rfl, rfl, rfl⟩ := pgo_inv hs
      refine gd_table hx hb hdec hok.1.1 (fun i9 o9 q9 => hok.1.2 o9 ?_) hok.2 K
      exact Array.mem_toList_iff.mpr (Array.mem_of_getElem? q9)
    · cases hs
  | iaload =>
    simp only [ilen, decide_eq_true_eq] at hlen; subst hlen
    simp only [pstep] at hs
    obtain ⟨i1, a1, t, k, n, f, rfl, h1, h2, h3, hs⟩ := paload_inv hs
    obtain ⟨rfl, rfl, rfl, rfl⟩ := pgo_inv hs
    exact gd_aload_b (bb := false) hx hb hE hdec h2 h3 h1 K
  | baload =>
    simp only [ilen, decide_eq_true_eq] at hlen; subst hlen
    simp only [pstep] at hs
    obtain ⟨i1, a1, t, k, n, f, rfl, h1, h2, h3, hs⟩ := paload_inv hs
    obtain ⟨rfl, rfl, rfl, rfl⟩ := pgo_inv hs
    exact gd_aload_b (bb := true) hx hb hE hdec h2 h3 h1 K
  | laload =>
    simp only [ilen, decide_eq_true_eq] at hlen; subst hlen
    simp only [pstep] at hs
    obtain ⟨i1, a1, t, n, f, rfl, h1, h3, hs⟩ := plaload_inv hs
    obtain ⟨rfl, rfl, rfl, rfl⟩ := pgo_inv hs
    exact gd_laload hx hb hE hdec h3 h1 K
  | aaload =>
    simp only [ilen, decide_eq_true_eq] at hlen; subst hlen
    simp only [pstep] at hs
    obtain ⟨i1, a1, t, k, n, f, rfl, h1, h2, h3, hs⟩ := pqaload_inv hs
    obtain ⟨rfl, rfl, rfl, rfl⟩ := pgo_inv hs
    exact gd_aaload hx hb hE hdec h2 h3 h1 K
  | iastore =>
    simp only [ilen, decide_eq_true_eq] at hlen; subst hlen
    simp only [pstep] at hs
    obtain ⟨x1, i1, a1, t, k, n, f, rfl, h1, h4, h2, h3, hs⟩ := pastore_inv hs
    obtain ⟨rfl, rfl, rfl, rfl⟩ := pgo_inv hs
    exact gd_astore_b (bb := false) hx hb hE hdec h2 h3 h1 h4 K
  | bastore =>
    simp only [ilen, decide_eq_true_eq] at hlen; subst hlen
    simp only [pstep] at hs
    obtain ⟨x1, i1, a1, t, k, n, f, rfl, h1, h4, h2, h3, hs⟩ := pastore_inv hs
    obtain ⟨rfl, rfl, rfl, rfl⟩ := pgo_inv hs
    exact gd_astore_b (bb := true) hx hb hE hdec h2 h3 h1 h4 K
  | lastore =>
    simp only [ilen, decide_eq_true_eq] at hlen; subst hlen
    simp only [pstep] at hs
    obtain ⟨x1, i1, a1, t, n, f, rfl, h1, h4, h3, hs⟩ := plastore_inv hs
    obtain ⟨rfl, rfl, rfl, rfl⟩ := pgo_inv hs
    exact gd_lastore hx hb hE hdec h3 h1 h4 K
  | aastore =>
    simp only [ilen, decide_eq_true_eq] at hlen; subst hlen
    simp only [pstep] at hs
    obtain ⟨b1, i1, a1, t, k, n, f, rfl, h1, h4, h6, h7, hs⟩ := pqastore_inv hs
    obtain ⟨rfl, rfl, rfl, rfl⟩ := pgo_inv hs
    exact gd_aastore hx hb hE hdec h6 ov3 h7 h1 h4 K
  | arraylength =>
    simp only [ilen, decide_eq_true_eq] at hlen; subst hlen
    simp only [pstep] at hs
    obtain ⟨a1, t, k, x, rfl, h1, hs⟩ := palen_inv hs
    obtain ⟨rfl, rfl, rfl, rfl⟩ := pgo_inv hs
    exact gd_alen hx hb hE hdec h1 K
  | newarray at9 =>
    simp only [ilen, decide_eq_true_eq] at hlen; subst hlen
    simp only [pstep] at hs
    obtain ⟨k, r1, n, t, rfl, rfl, h1, h2, hs⟩ := pnewa_inv hs
    obtain ⟨rfl, rfl, rfl, rfl⟩ := pgo_inv hs
    simp only at hok
    unfold okNewa at hok
    split at hok
    · rename_i q9 w9 r9 hre
      cases hre
      simp only [Bool.and_eq_true, decide_eq_true_eq] at hok
      obtain ⟨⟨h3, rfl⟩, h4⟩ := hok
      exact gd_newarray hx hb hts hE h3 hdec (wAt_in h4) h1 h2 (by simpa only [hnew] using hr1) (by simpa only [hnew] using hr2) K
    · cases hok
  | anewarray ix =>
    simp only [ilen, decide_eq_true_eq] at hlen; subst hlen
    simp only [pstep] at hs
    obtain ⟨k, r1, n, t, rfl, rfl, h1, h2, hs⟩ := pnewa_inv hs
    obtain ⟨rfl, rfl, rfl, rfl⟩ := pgo_inv hs
    simp only at hok
    unfold okANewa at hok
    split at hok
    · rename_i q9 w9 r9 hre
      cases hre
      simp only [Bool.or_eq_true, Bool.and_eq_true, decide_eq_true_eq] at hok
      rcases hok with ((((⟨rfl, h4⟩ | ⟨rfl, h4⟩) | ⟨rfl, h4⟩) | ⟨rfl, h4⟩) | ⟨rfl, h4⟩) | ⟨rfl, h4⟩
      · exact gd_anewarrayA hx hb hown hts hE hdec (wAt_in h4) ov3 h1 h2 (by simpa only [hnew] using hr1) (by simpa only [hnew] using hr2) K
      · exact gd_anewarray hx hb hown hts hE (by omega) rfl hdec (wAt_in h4) ov4 h1 h2 (by simpa only [hnew] using hr1) (by simpa only [hnew] using hr2) K
      · exact gd_anewarray hx hb hown hts hE (by omega) rfl hdec (wAt_in h4) ov5 h1 h2 (by simpa only [hnew] using hr1) (by simpa only [hnew] using hr2) K
      · exact gd_anewarray hx hb hown hts hE (by omega) rfl hdec (wAt_in h4) ov6 h1 h2 (by simpa only [hnew] using hr1) (by simpa only [hnew] using hr2) K
      · exact gd_anewarray hx hb hown hts hE (by omega) rfl hdec (wAt_in h4) ov7 h1 h2 (by simpa only [hnew] using hr1) (by simpa only [hnew] using hr2) K
      · exact gd_anewarray hx hb hown hts hE (by omega) rfl hdec (wAt_in h4) ov8 h1 h2 (by simpa only [hnew] using hr1) (by simpa only [hnew] using hr2) K
    · cases hok
  | getfield ix =>
    simp only [ilen, decide_eq_true_eq] at hlen; subst hlen
    simp only [pstep] at hs
    obtain ⟨ci, k, r1, a1, t, c9, fs, v1, rfl, rfl, h1, hcc, h2, hs⟩ := pgetf_inv hs
    obtain ⟨rfl, rfl, rfl, rfl⟩ := pgo_inv hs
    simp only at hok
    unfold okGet at hok
    split at hok
    · rename_i ci9 k9 w9 n9 r9 hre
      cases hre
      split at hok
      · rename_i C F N hq0
        simp only [Bool.and_eq_true, Bool.or_eq_true, decide_eq_true_eq] at hok
        obtain ⟨⟨hk9, hf⟩, hz⟩ := hok
        rcases hcc with rfl | ⟨rfl, rfl⟩
        · refine gd_getf hx hb hown hts hE hdec hq0 hk9 ?_ h1 h2 K
          unfold okF at hf
          split at hf
          · exact Or.inl (wAt_in hf)
          · rw [Bool.or_eq_true] at hf
            rcases hf with hf | hf
            · exact Or.inr ⟨_, wBt_in hf⟩
            · exact Or.inr ⟨_, wBt_in hf⟩
        · rcases hz with hz | hz
          · exact absurd rfl hz
          · split at hz
            · exact gd_getfS hx hb hown hts hE hdec (Or.inl ⟨rfl, wAt_in hz⟩) h1 h2 K
            · exact gd_getfS hx hb hown hts hE hdec (Or.inr ⟨rfl, wAt_in hz⟩) h1 h2 K
            · cases hz
      · cases hok
    · cases hok
  | putfield ix =>
    simp only [ilen, decide_eq_true_eq] at hlen; subst hlen
    simp only [pstep] at hs
    split at hs
    · split at hs
      · rename_i ty hty
        obtain ⟨ci, k, r1, v1, a1, t, fs, hre0, rfl, h1, h2, h3, h4, h5, hs⟩ := pputf_inv hs
        cases hre0
        obtain ⟨rfl, rfl, rfl, rfl⟩ := pgo_inv hs
        simp only at hok
        unfold okPut at hok
        split at hok
        · rename_i ci9 k9 w9 n9 r9 hre
          cases hre
          split at hok
          · rename_i C F N hq0
            rw [hq0] at hty
            simp only [Option.bind_some] at hty
            simp only [Bool.and_eq_true, decide_eq_true_eq, Bool.or_eq_true, Bool.not_eq_true'] at hok
            obtain ⟨⟨hk, hf⟩, hfin⟩ := hok
            refine gd_putf hx hb hown hts hE hdec hq0 hk ?_ ?_ hty h4 h5 h1 h3 h2 K
            · unfold okF at hf
              split at hf
              · exact Or.inl (wAt_in hf)
              · rename_i hn9
                rw [Bool.or_eq_true] at hf
                rcases hf with hf | hf
                · exact Or.inr ⟨hfin.resolve_right (fun q => hn9 q.2), _, wBt_in hf⟩
                · exact Or.inr ⟨hfin.resolve_right (fun q => hn9 q.2), _, wBt_in hf⟩
            · intro hft
              rcases hfin with q | q
              · rw [hft] at q; cases q
              · exact ⟨hin q.1.1, q.1.2⟩
          · cases hok
        · cases hok
      · cases hs
    · cases hs
  | new ix =>
    simp only [ilen, decide_eq_true_eq] at hlen; subst hlen
    simp only [pstep] at hs
    obtain ⟨ci, r1, rfl, h1, hs⟩ := pnewo_inl hs
    obtain ⟨rfl, rfl, rfl, rfl⟩ := pgo_inv hs
    simp only at hok
    have h100 : ¬ 100 ≤ ci := by omega
    rw [if_neg h100] at hok
    unfold okNew at hok
    split at hok
    · rename_i ci9 w1 w2 w3 r9 hre
      cases hre
      simp only [Bool.and_eq_true, decide_eq_true_eq] at hok
      obtain ⟨h11, hok⟩ := hok
      split at hok
      · rename_i C F N hq0
        simp only [Bool.and_eq_true] at hok
        exact gd_new hx hb hown hts hE hdec hq0 h11 (wAt_in hok.1.1) (wAt_in hok.1.2) (wAt_in hok.2) rfl (by exact hr1) (by exact hr2) K
      · cases hok
    · cases hok
  | invokevirtual ix =>
    simp only [pstep] at hs
    exact (pcall_inl hs).elim
  | invokestatic ix =>
    simp only [ilen, decide_eq_true_eq] at hlen; subst hlen
    simp only [pstep] at hs
    split at hs
    · obtain ⟨n, dp, a1, sp, b1, t, n0, n1, f, g, k0, k1, rfl, h1, h2, ⟨h3, h4, h5, h6, h7, h8, h9, h10⟩, hs⟩ := pcopy_inv hs
      obtain ⟨rfl, rfl, rfl, rfl⟩ := pgo_inv hs
      simp only at hok
      unfold okCpy at hok
      split at hok
      · simp only [Bool.and_eq_true] at hok
        exact gd_copy hx hb hown hts hE hdec (wAt_in hok.1.1.1) (wAt_in hok.1.1.2) (wAt_in hok.1.2) (wAt_in hok.2) h1 h2 h3 h4 h5 h6 h7 h8 h9 h10 hR1 hR2 K
      · cases hok
    · simp only at hok
      unfold okMath at hok
      split at hok
      · rename_i k1 w1 w2 w3 w4 r9 hre
        cases hre
        simp only [Bool.and_eq_true] at hok
        obtain ⟨hini, hok⟩ := hok
        rcases pmath_inv hs with ⟨x, t, rfl, rfl, hps, hs⟩ | ⟨y, x, t, rfl, rfl, hps, hs⟩ | ⟨y, x, t, rfl, rfl, hps, hs⟩
        · obtain ⟨rfl, rfl, rfl, rfl⟩ := pgo_inv hs
          simp only [Bool.and_eq_true] at hok
          exact gd_mabs hx hb hown hts hdec (wAt_in hok.1.1) (wAt_in hok.1.2) (wAt_in hini) (wAt_in hok.2) hps hR1 hR2 hr1 hr2 K
        · obtain ⟨rfl, rfl, rfl, rfl⟩ := pgo_inv hs
          simp only [Bool.and_eq_true] at hok
          exact gd_mmax hx hb hown hts hdec (wAt_in hok.1.1) (wAt_in hok.1.2) (wAt_in hini) (wAt_in hok.2) hps hR1 hR2 hr1 hr2 K
        · obtain ⟨rfl, rfl, rfl, rfl⟩ := pgo_inv hs
          simp only [Bool.and_eq_true] at hok
          exact gd_mmin hx hb hown hts hdec (wAt_in hok.1.1) (wAt_in hok.1.2) (wAt_in hini) (wAt_in hok.2) hps hR1 hR2 hr1 hr2 K
      · cases hok
    · exact (pcall_inl hs).elim
  | invokespecial ix =>
    simp only [ilen, decide_eq_true_eq] at hlen; subst hlen
    simp only [pstep] at hs
    split at hs
    · split at hs
      · split at hs
        · rename_i hps
          obtain ⟨rfl, rfl, rfl, rfl⟩ := pgo_inv hs
          simp only at hok
          unfold okObj at hok
          split at hok
          · simp only [Bool.and_eq_true] at hok
            exact gd_obj hx hb hown hts hdec (wAt_in hok.1.1) (wAt_in hok.1.2) (wAt_in hok.2) hps.1 hps.2 hR1 (by omega) K
          · cases hok
        · cases hs
      · cases hs
    · exact (pcall_inl (pcallI_inv hs).1).elim
  | ireturn =>
    simp only [pstep] at hs
    split at hs
    · split at hs
      · split at hs <;> cases hs
      · cases hs
    · cases hs
  | lreturn =>
    simp only [pstep] at hs
    split at hs <;> cases hs
  | dreturn =>
    simp only [pstep] at hs
    split at hs <;> cases hs
  | return_ =>
    simp only [pstep] at hs
    split at hs <;> cases hs
  | areturn =>
    simp only [pstep] at hs
    split at hs
    · split at hs <;> cases hs
    · cases hs
  | _ => simp only [pstep] at hs; cases hs
end SND6
