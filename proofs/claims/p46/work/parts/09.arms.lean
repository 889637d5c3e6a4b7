theorem uJ0 : ∀ w ∈ u_ws RJ0 TJ0 4, w ∈ lwG := fun w hw => List.mem_filter.mpr ⟨(by decide +kernel : ∀ w ∈ u_ws RJ0 TJ0 4, w ∈ lw_tbl) w hw, (by decide +kernel : ∀ w ∈ u_ws RJ0 TJ0 4, (k2_isCode w || goodWord w) = true) w hw⟩
theorem uJ4 : ∀ w ∈ u_ws RJ4 TJ4 4, w ∈ lwG := fun w hw => List.mem_filter.mpr ⟨(by decide +kernel : ∀ w ∈ u_ws RJ4 TJ4 4, w ∈ lw_tbl) w hw, (by decide +kernel : ∀ w ∈ u_ws RJ4 TJ4 4, (k2_isCode w || goodWord w) = true) w hw⟩
theorem uX0 : ∀ w ∈ u_ws RX0 TX0 17, w ∈ lwG := fun w hw => List.mem_filter.mpr ⟨(by decide +kernel : ∀ w ∈ u_ws RX0 TX0 17, w ∈ lw_tbl) w hw, (by decide +kernel : ∀ w ∈ u_ws RX0 TX0 17, (k2_isCode w || goodWord w) = true) w hw⟩
theorem uX1 : ∀ w ∈ u_ws RX1 TX1 7, w ∈ lwG := fun w hw => List.mem_filter.mpr ⟨(by decide +kernel : ∀ w ∈ u_ws RX1 TX1 7, w ∈ lw_tbl) w hw, (by decide +kernel : ∀ w ∈ u_ws RX1 TX1 7, (k2_isCode w || goodWord w) = true) w hw⟩
theorem uX2 : ∀ w ∈ u_ws RX2 TX2 12, w ∈ lwG := fun w hw => List.mem_filter.mpr ⟨(by decide +kernel : ∀ w ∈ u_ws RX2 TX2 12, w ∈ lw_tbl) w hw, (by decide +kernel : ∀ w ∈ u_ws RX2 TX2 12, (k2_isCode w || goodWord w) = true) w hw⟩
theorem uX3 : ∀ w ∈ u_ws RX3 TX3 10, w ∈ lwG := fun w hw => List.mem_filter.mpr ⟨(by decide +kernel : ∀ w ∈ u_ws RX3 TX3 10, w ∈ lw_tbl) w hw, (by decide +kernel : ∀ w ∈ u_ws RX3 TX3 10, (k2_isCode w || goodWord w) = true) w hw⟩
theorem uX4 : ∀ w ∈ u_ws RX4 TX4 2, w ∈ lwG := fun w hw => List.mem_filter.mpr ⟨(by decide +kernel : ∀ w ∈ u_ws RX4 TX4 2, w ∈ lw_tbl) w hw, (by decide +kernel : ∀ w ∈ u_ws RX4 TX4 2, (k2_isCode w || goodWord w) = true) w hw⟩
theorem uX5 : ∀ w ∈ u_ws RX5 TX5 4, w ∈ lwG := fun w hw => List.mem_filter.mpr ⟨(by decide +kernel : ∀ w ∈ u_ws RX5 TX5 4, w ∈ lw_tbl) w hw, (by decide +kernel : ∀ w ∈ u_ws RX5 TX5 4, (k2_isCode w || goodWord w) = true) w hw⟩
theorem uX6 : ∀ w ∈ u_ws RX6 TX6 8, w ∈ lwG := fun w hw => List.mem_filter.mpr ⟨(by decide +kernel : ∀ w ∈ u_ws RX6 TX6 8, w ∈ lw_tbl) w hw, (by decide +kernel : ∀ w ∈ u_ws RX6 TX6 8, (k2_isCode w || goodWord w) = true) w hw⟩
theorem uX7 : ∀ w ∈ u_ws RX7 TX7 6, w ∈ lwG := fun w hw => List.mem_filter.mpr ⟨(by decide +kernel : ∀ w ∈ u_ws RX7 TX7 6, w ∈ lw_tbl) w hw, (by decide +kernel : ∀ w ∈ u_ws RX7 TX7 6, (k2_isCode w || goodWord w) = true) w hw⟩
theorem uX8 : ∀ w ∈ u_ws RX8 TX8 6, w ∈ lwG := fun w hw => List.mem_filter.mpr ⟨(by decide +kernel : ∀ w ∈ u_ws RX8 TX8 6, w ∈ lw_tbl) w hw, (by decide +kernel : ∀ w ∈ u_ws RX8 TX8 6, (k2_isCode w || goodWord w) = true) w hw⟩
theorem uX9 : ∀ w ∈ u_ws RX9 TX9 8, w ∈ lwG := fun w hw => List.mem_filter.mpr ⟨(by decide +kernel : ∀ w ∈ u_ws RX9 TX9 8, w ∈ lw_tbl) w hw, (by decide +kernel : ∀ w ∈ u_ws RX9 TX9 8, (k2_isCode w || goodWord w) = true) w hw⟩
theorem uX10 : ∀ w ∈ u_ws RX10 TX10 8, w ∈ lwG := fun w hw => List.mem_filter.mpr ⟨(by decide +kernel : ∀ w ∈ u_ws RX10 TX10 8, w ∈ lw_tbl) w hw, (by decide +kernel : ∀ w ∈ u_ws RX10 TX10 8, (k2_isCode w || goodWord w) = true) w hw⟩
/-- what is known of each kind of object -/
theorem clsOK {ci : Nat} {C : String} {F : u_T} {N : Nat} (hq : vwCl[ci]? = some (C, F, N)) : (∀ w ∈ u_ws C F N, w ∈ lwG) ∧ (∃ ty : Nat → FieldType, ∀ k, k < N → parseFieldDescriptor (F k).2.2.1 = some (ty k)) ∧ ∀ a, a < N → ∀ b, b < N → a ≠ b → (F a).2.1 ≠ (F b).2.1 := by
  match ci, hq with
  | 0, hq => cases hq; exact ⟨uJ0, ⟨tyJ0, tyJ0_ok⟩, nmJ0⟩
  | 1, hq => cases hq; exact ⟨uJ4, ⟨tyJ4, tyJ4_ok⟩, nmJ4⟩
  | 2, hq => cases hq; exact ⟨uX0, ⟨tyX0, tyX0_ok⟩, nmX0⟩
  | 3, hq => cases hq; exact ⟨uX1, ⟨tyX1, tyX1_ok⟩, nmX1⟩
  | 4, hq => cases hq; exact ⟨uX2, ⟨tyX2, tyX2_ok⟩, nmX2⟩
  | 5, hq => cases hq; exact ⟨uX3, ⟨tyX3, tyX3_ok⟩, nmX3⟩
  | 6, hq => cases hq; exact ⟨uX4, ⟨tyX4, tyX4_ok⟩, nmX4⟩
  | 7, hq => cases hq; exact ⟨uX5, ⟨tyX5, tyX5_ok⟩, nmX5⟩
  | 8, hq => cases hq; exact ⟨uX6, ⟨tyX6, tyX6_ok⟩, nmX6⟩
  | 9, hq => cases hq; exact ⟨uX7, ⟨tyX7, tyX7_ok⟩, nmX7⟩
  | 10, hq => cases hq; exact ⟨uX8, ⟨tyX8, tyX8_ok⟩, nmX8⟩
  | 11, hq => cases hq; exact ⟨uX9, ⟨tyX9, tyX9_ok⟩, nmX9⟩
  | 12, hq => cases hq; exact ⟨uX10, ⟨tyX10, tyX10_ok⟩, nmX10⟩
  | k + 13, hq => simp [vwCl] at hq

section SND2
variable {p : Program} {l : Launch} {e : Env} {R : Room} {s : State} {m : MethodId} {args : Array Value} {below : List Frame} {meth : Method} {c : Code} {Q : State → Prop}
variable {D : va_G} {tys : List (ClassId × FieldType)} {S0 : Nat} {ro : List Nat} {RO : Nat → Option PC} {as0 : List Nat} {c0 s0 : Nat} {cc : ByteArray} {pc : Nat} {ls : PL} {st : List Value} {h : PH} {own : String}

theorem ER.obj {as : List Nat} {ci : Nat} {fs : List Value} {e : va_E} (h : ER tys as (.inr (ci, fs)) e) : ∃ gs, e = .inr (ci, gs) ∧ ci < 13 ∧ SR as fs gs := by
  rcases e with ⟨cA, y⟩ | ⟨cj, gs⟩
  · exact h.elim
  · obtain ⟨rfl, h1, h2⟩ := h
    exact ⟨gs, rfl, h1, h2⟩
theorem ER.row {as : List Nat} {t n : Nat} {f : Nat → Int32} {e : va_E} (h : ER tys as (.inl (t, n, .inl f)) e) : ∃ cA, e = .inl (cA, n, .inl f) ∧ tys[t]? = some (cA, tyOf t) := by
  rcases e with ⟨cA, n', g⟩ | ⟨cj, gs⟩
  · obtain ⟨h1, h2, h3, h4⟩ := h
    rcases g with g | g | g | g | g
    · cases h3; cases h4; exact ⟨cA, rfl, h1⟩
    all_goals exact h4.elim
  · exact h.elim
theorem ER.rowl {as : List Nat} {t n : Nat} {f : Nat → Int64} {e : va_E} (h : ER tys as (.inl (t, n, .inr (.inl f))) e) : ∃ cA, e = .inl (cA, n, .inr (.inl f)) ∧ tys[t]? = some (cA, tyOf t) := by
  rcases e with ⟨cA, n', g⟩ | ⟨cj, gs⟩
  · obtain ⟨h1, h2, h3, h4⟩ := h
    rcases g with g | g | g | g | g
    · exact h4.elim
    · cases h3; cases h4; exact ⟨cA, rfl, h1⟩
    all_goals exact h4.elim
  · exact h.elim
theorem ER.rowq {as : List Nat} {t n : Nat} {f : Nat → Option Nat} {e : va_E} (h : ER tys as (.inl (t, n, .inr (.inr (.inr (.inr f))))) e) : ∃ cA g, e = .inl (cA, n, .inr (.inr (.inr (.inr g)))) ∧ tys[t]? = some (cA, tyOf t) ∧ t < 9 ∧ ∀ i, OR as (f i) (g i) := by
  rcases e with ⟨cA, n', g⟩ | ⟨cj, gs⟩
  · obtain ⟨h1, h2, h3, h4⟩ := h
    rcases g with g | g | g | g | g
    · exact h4.elim
    · exact h4.elim
    · exact h4.elim
    · exact h4.elim
    · cases h3; exact ⟨cA, g, rfl, h1, h2, h4⟩
  · exact h.elim
theorem ER.any {as : List Nat} {t : Nat} {x : vp_A} {e : va_E} (h : ER tys as (.inl (t, x)) e) : ∃ cA y, e = .inl (cA, y) ∧ tys[t]? = some (cA, tyOf t) ∧ y.1 = x.1 := by
  rcases e with ⟨cA, y⟩ | ⟨cj, gs⟩
  · exact ⟨cA, y, rfl, h.1, h.2.2.1.symm⟩
  · exact h.elim
theorem VR.rf {as : List Nat} {x y : Option Nat} (h : OR as x y) : VR as (va_rf x) (va_rf y) := by
  cases x with
  | none => cases h; rfl
  | some k =>
    obtain ⟨a, h1, rfl⟩ := h
    exact VR.mk h1
theorem EN.nw (hE : EN D tys S0 ro RO s) : ∀ w ∈ lwB, va_Nw w s := hE.2.2.2.2.2.2.2.2.2.1
theorem EN.nc (hE : EN D tys S0 ro RO s) : ∀ q ∈ NCS, va_Nc q.1 q.2 s := hE.2.2.2.2.2.2.2.2.2.2
/-- below 300: what is read alone -/
theorem PW.low {A : Nat → Prop} {as : List Nat} {H : Heap} (hw : PW D tys A ro RO as h H) {k : Nat} (hk : k < 300) : h.2 k = RO k ∧ as[k]? = ro[k]? ∧ ro <+: as := by
  obtain ⟨h1, h2, h3, h4, -⟩ := hw
  refine ⟨h4 k hk, by rw [← h3, List.getElem?_take_of_lt hk], by rw [← h3]; exact List.take_prefix 300 as⟩
/-- a field is read -/
theorem gd_getf (hx : p.tables.exec = Jvm.exec) (hb : c.code = cc) (hown : s.vm.findClass own = some m.cls) (hts : ∀ w ∈ lwG, w.before args s = true) (hE : EN D tys S0 ro RO s)
    {C : String} {F : u_T} {N ci k ix a : Nat} {fs : List Value} {v : Value} (d : decode cc pc = .ok (.getfield ix, 3)) (hq0 : vwCl[ci]? = some (C, F, N)) (hk : k < N) (hl : Jvm.Cond.fieldLink own ix (F k).1 (F k).2.1 (F k).2.2.1 ∈ lwG ∨ ∃ host, Jvm.Cond.fieldLinkNest own ix (F k).1 (F k).2.1 (F k).2.2.1 host ∈ lwB)
    (ho : h.2 a = some (.inr (ci, fs))) (hv : fs[k]? = some v) (K : Gd p l e R s m args below meth c Q D tys S0 ro RO as0 c0 s0 (pc + 3) (ls) (v :: st) (h)) : Gd p l e R s m args below meth c Q D tys S0 ro RO as0 c0 s0 (pc) (ls) (.ref a :: st) (h) := by
  intro as H locs cells slots ml ms hp hw hL hs hS hc hq
  obtain ⟨w1, u1, rfl, q1, hs1⟩ := hs.cons
  have hci : ci < 13 := by
    have := (List.getElem?_eq_some_iff.mp hq0).1
    simpa [vwCl] using this
  have ha : 300 ≤ a := by
    rcases Nat.lt_or_ge a 300 with h3 | h3
    · obtain ⟨e1, -, -⟩ := hw.low h3
      rw [ho] at e1
      have := (hE.2.2.2.2.1 a ci fs e1.symm).2.1
      omega
    · exact h3
  obtain ⟨z, hz, rfl⟩ := q1.at (by omega)
  obtain ⟨ws, e, g1, g2, hP, hD⟩ := hw.cell ha hz ho
  obtain ⟨gs, rfl, -, hfs⟩ := g2.obj
  obtain ⟨g, g3, g4⟩ := hfs.get hv
  have K2 := K as H locs cells slots ml (g :: u1) hp hw hL ⟨g4, hs1⟩ hS hc hq
  rcases hl with hl | ⟨host, hl⟩
  · exact va_get hx hb hts (clsOK hq0).1 hown hE.1 hP _ g1 hq0 k hk (hts _ hl) (fun _ q => q) g3 d K2
  · exact va_getN hx hb hts (clsOK hq0).1 hown hE.1 hP _ g1 hq0 k hk (va_Nw.use rfl (hE.nw _ hl)) (fun _ q => q) g3 d K2
/-- a text's field -/
theorem gd_getfS (hx : p.tables.exec = Jvm.exec) (hb : c.code = cc) (hown : s.vm.findClass own = some m.cls) (hts : ∀ w ∈ lwG, w.before args s = true) (hE : EN D tys S0 ro RO s)
    {k ix a : Nat} {fs : List Value} {v : Value} (d : decode cc pc = .ok (.getfield ix, 3)) (hl : (k = 0 ∧ Jvm.Cond.fieldLink own ix "java/lang/String" "value" "[B" ∈ lwG) ∨ (k = 1 ∧ Jvm.Cond.fieldLink own ix "java/lang/String" "coder" "B" ∈ lwG))
    (ho : h.2 a = some (.inr (13, fs))) (hv : fs[k]? = some v) (K : Gd p l e R s m args below meth c Q D tys S0 ro RO as0 c0 s0 (pc + 3) (ls) (v :: st) (h)) : Gd p l e R s m args below meth c Q D tys S0 ro RO as0 c0 s0 (pc) (ls) (.ref a :: st) (h) := by
  intro as H locs cells slots ml ms hp hw hL hs hS hc hq
  obtain ⟨w1, u1, rfl, q1, hs1⟩ := hs.cons
  have ha : a < 300 := by
    rcases Nat.lt_or_ge a 300 with h3 | h3
    · exact h3
    · obtain ⟨z, hz, rfl⟩ := q1.at (by omega)
      obtain ⟨ws, e, g1, g2, hP, hD⟩ := hw.cell h3 hz ho
      obtain ⟨gs, rfl, h8, hfs⟩ := g2.obj
      omega
  obtain ⟨e1, e2, e3⟩ := hw.low ha
  rw [ho] at e1
  obtain ⟨h9, -, b, v0, v1, g0, g1, f1, rfl, f3, f4, f5, f6, f7⟩ := hE.2.2.2.2.1 a 13 fs e1.symm
  obtain ⟨z, hz, rfl⟩ := q1.at (by omega)
  rw [e2, f1] at hz
  cases hz
  rcases hl with ⟨rfl, hl⟩ | ⟨rfl, hl⟩
  · cases hv
    exact vk_getf hx hb f4 hS hown (hts _ hl) (fun _ q => q) d (K as H locs cells slots ml (g0 :: u1) hp hw hL ⟨f5.mono e3, hs1⟩ hS hc hq)
  · cases hv
    exact vk_getf hx hb f6 hS hown (hts _ hl) (fun _ q => q) d (K as H locs cells slots ml (g1 :: u1) hp hw hL ⟨f7.mono e3, hs1⟩ hS hc hq)
theorem VR.fits {as : List Nat} {v w : Value} {ty : FieldType} (h : VR as v w) (hf : fits ty v = true) (hn : narrow ty v = v) : Jvm.fits ty w = true ∧ narrow ty w = w := by
  cases v with
  | ref k =>
    rcases h.refs with rfl | ⟨q, rfl⟩ <;> cases ty <;> first | exact ⟨rfl, rfl⟩ | (simp [Jvm.fits] at hf)
  | _ => rw [show w = _ from h]; exact ⟨hf, hn⟩
/-- a field is written -/
theorem gd_putf (hx : p.tables.exec = Jvm.exec) (hb : c.code = cc) (hown : s.vm.findClass own = some m.cls) (hts : ∀ w ∈ lwG, w.before args s = true) (hE : EN D tys S0 ro RO s)
    {C : String} {F : u_T} {N ci k ix a : Nat} {fs : List Value} {v : Value} {ty : FieldType} (d : decode cc pc = .ok (.putfield ix, 3)) (hq0 : vwCl[ci]? = some (C, F, N)) (hk : k < N) (hl : Jvm.Cond.fieldLink own ix (F k).1 (F k).2.1 (F k).2.2.1 ∈ lwG ∨ ((F k).2.2.2 = false ∧ ∃ host, Jvm.Cond.fieldLinkNest own ix (F k).1 (F k).2.1 (F k).2.2.1 host ∈ lwB))
    (hfin : (F k).2.2.2 = true → meth.name = "<init>" ∧ (F k).1 = own) (hd : parseFieldDescriptor (F k).2.2.1 = some ty) (hfit : fits ty v = true) (hnar : narrow ty v = v)
    (ho : h.2 a = some (.inr (ci, fs))) (hkl : k < fs.length) (ha : 300 ≤ a) (K : Gd p l e R s m args below meth c Q D tys S0 ro RO as0 c0 s0 (pc + 3) (ls) (st) (hset h a (.inr (ci, fs.set k v)))) : Gd p l e R s m args below meth c Q D tys S0 ro RO as0 c0 s0 (pc) (ls) (v :: .ref a :: st) (h) := by
  intro as H locs cells slots ml ms hp hw hL hs hS hc hq
  obtain ⟨w1, u1, rfl, q1, hs1⟩ := hs.cons
  obtain ⟨w2, u2, rfl, q2, hs2⟩ := hs1.cons
  obtain ⟨z, hz, rfl⟩ := q2.at (by omega)
  obtain ⟨ws, e, g1, g2, hP, hD, hput⟩ := hw.put (c' := .inr (ci, fs.set k v)) ha hz ho
  obtain ⟨gs, rfl, h11, hfs⟩ := g2.obj
  obtain ⟨hc1, ⟨ty0, hc2⟩, hc3⟩ := clsOK hq0
  obtain ⟨hf2, hn2⟩ := q1.fits hfit hnar
  have hgl : k < gs.length := by rw [hfs.len]; exact hkl
  have K2 : ∀ (H1 : Heap) (locs1 : List Loc), va_P D vwCl (ws.set (a - 300) (z, .inr (ci, gs.set k w1))) H1 → va_D (A0 S0) (ws.set (a - 300) (z, .inr (ci, gs.set k w1))) → va_S (A0 S0) s.heap H1 locs1 → W p l e R s m args below meth c H1 locs1 cells slots Q (F0 m (pc + 3) ml u2) := fun H1 locs1 hP1 hD1 hS1 => K as H1 locs1 cells slots ml u2 hp (hput (.inr (ci, gs.set k w1)) H1 (show _ ∧ _ ∧ _ from ⟨rfl, h11, hfs.set q1⟩) hP1 hD1) hL hs2 hS1 hc hq
  by_cases hfi : (F k).2.2.2 = true
  · rcases hl with hl | ⟨hl, -⟩
    · obtain ⟨hi1, hi2⟩ := hfin hfi
      exact va_putF hx hb hts hc1 ty0 hc2 hc3 hown hE.1 hP hD hS _ g1 hq0 k hk (hts _ hl) (fun _ q => q) hfi hi1 hi2 hd hn2 hf2 hgl d K2
    · rw [hl] at hfi; cases hfi
  · have hfi : (F k).2.2.2 = false := by simpa using hfi
    rcases hl with hl | ⟨-, host, hl⟩
    · exact va_put hx hb hts hc1 ty0 hc2 hc3 hown hE.1 hP hD hS _ g1 hq0 k hk (hts _ hl) (fun _ q => q) hfi hd hn2 hf2 hgl d K2
    · exact va_putN hx hb hts hc1 ty0 hc2 hc3 hown hE.1 hP hD hS _ g1 hq0 k hk (va_Nw.use rfl (hE.nw _ hl)) (fun _ q => q) hfi hd hn2 hf2 hgl d K2
theorem inB_vp {i : Int32} {n : Nat} (h : inB i n = true) : vp_in i n := by simpa [inB, vp_in] using h
/-- the rows of ints, bytes, truths: a place is read -/
theorem gd_aload_b (hx : p.tables.exec = Jvm.exec) (hb : c.code = cc) (hE : EN D tys S0 ro RO s) {bb : Bool} {t n a : Nat} {f : Nat → Int32} {i : Int32} (d : decode cc pc = .ok (if bb = true then .baload else .iaload, 1)) (hk : kb bb t = true) (hi : inB i n = true) (ho : h.2 a = some (.inl (t, n, .inl f))) (K : Gd p l e R s m args below meth c Q D tys S0 ro RO as0 c0 s0 (pc + 1) (ls) (.int (f i.toNatClampNeg) :: st) (h)) : Gd p l e R s m args below meth c Q D tys S0 ro RO as0 c0 s0 (pc) (ls) (.int i :: .ref a :: st) (h) := by
  intro as H locs cells slots ml ms hp hw hL hs hS hc hq
  obtain ⟨w1, u1, rfl, q1, hs1⟩ := hs.cons
  obtain ⟨w2, u2, rfl, q2, hs2⟩ := hs1.cons
  cases q1
  have hin := inB_vp hi
  have K2 := K as H locs cells slots ml (.int (f i.toNatClampNeg) :: u2) hp hw hL ⟨rfl, hs2⟩ hS hc hq
  rcases Nat.lt_or_ge a 300 with h3 | h3
  · obtain ⟨e1, e2, e3⟩ := hw.low h3
    rw [ho] at e1
    obtain ⟨h9, b, g, f1, f2, f3, f4⟩ := hE.2.2.2.1 a t (n, .inl f) e1.symm
    obtain ⟨z, hz, rfl⟩ := q2.at (by omega)
    rw [e2, f1] at hz
    cases hz
    have hlt : i.toNatClampNeg < n := by
      unfold vp_in at hin
      omega
    have hv : g i.toNatClampNeg = .int (f i.toNatClampNeg) := f4 _ hlt
    cases bb
    · have ht : t = 0 := by simpa [kb] using hk
      subst ht
      exact va_ti hx hb f3 hS hin hv d K2
    · have ht : t = 2 := by simpa [kb] using hk
      subst ht
      exact va_tb hx hb f3 hS hin hv d K2
  · obtain ⟨z, hz, rfl⟩ := q2.at (by omega)
    obtain ⟨ws, e, g1, g2, hP, hD⟩ := hw.cell h3 hz ho
    obtain ⟨cA, rfl, g3⟩ := g2.row
    cases bb
    · have ht : t = 0 := by simpa [kb] using hk
      subst ht
      exact va_iald hx hb hE.1 hP _ 0 g1 g3 hin d K2
    · have ht : t = 2 := by simpa [kb] using hk
      subst ht
      exact va_bald hx hb hE.1 hP _ 2 g1 g3 hin d K2
theorem gd_laload (hx : p.tables.exec = Jvm.exec) (hb : c.code = cc) (hE : EN D tys S0 ro RO s) {n a : Nat} {f : Nat → Int64} {i : Int32} (d : decode cc pc = .ok (.laload, 1)) (hi : inB i n = true) (ho : h.2 a = some (.inl (1, n, .inr (.inl f)))) (K : Gd p l e R s m args below meth c Q D tys S0 ro RO as0 c0 s0 (pc + 1) (ls) (.long (f i.toNatClampNeg) :: st) (h)) : Gd p l e R s m args below meth c Q D tys S0 ro RO as0 c0 s0 (pc) (ls) (.int i :: .ref a :: st) (h) := by
  intro as H locs cells slots ml ms hp hw hL hs hS hc hq
  obtain ⟨w1, u1, rfl, q1, hs1⟩ := hs.cons
  obtain ⟨w2, u2, rfl, q2, hs2⟩ := hs1.cons
  cases q1
  have hin := inB_vp hi
  have K2 := K as H locs cells slots ml (.long (f i.toNatClampNeg) :: u2) hp hw hL ⟨rfl, hs2⟩ hS hc hq
  rcases Nat.lt_or_ge a 300 with h3 | h3
  · obtain ⟨e1, e2, e3⟩ := hw.low h3
    rw [ho] at e1
    obtain ⟨h9, b, g, f1, f2, f3, f4⟩ := hE.2.2.2.1 a 1 (n, .inr (.inl f)) e1.symm
    omega
  · obtain ⟨z, hz, rfl⟩ := q2.at (by omega)
    obtain ⟨ws, e, g1, g2, hP, hD⟩ := hw.cell h3 hz ho
    obtain ⟨cA, rfl, g3⟩ := g2.rowl
    exact va_lald hx hb hE.1 hP _ 1 g1 g3 hin d K2
theorem gd_aaload (hx : p.tables.exec = Jvm.exec) (hb : c.code = cc) (hE : EN D tys S0 ro RO s) {t n a : Nat} {f : Nat → Option Nat} {i : Int32} (d : decode cc pc = .ok (.aaload, 1)) (hk : 3 ≤ t ∧ t ≤ 8) (hi : inB i n = true) (ho : h.2 a = some (.inl (t, n, .inr (.inr (.inr (.inr f)))))) (K : Gd p l e R s m args below meth c Q D tys S0 ro RO as0 c0 s0 (pc + 1) (ls) (va_rf (f i.toNatClampNeg) :: st) (h)) : Gd p l e R s m args below meth c Q D tys S0 ro RO as0 c0 s0 (pc) (ls) (.int i :: .ref a :: st) (h) := by
  intro as H locs cells slots ml ms hp hw hL hs hS hc hq
  obtain ⟨w1, u1, rfl, q1, hs1⟩ := hs.cons
  obtain ⟨w2, u2, rfl, q2, hs2⟩ := hs1.cons
  cases q1
  have hin := inB_vp hi
  rcases Nat.lt_or_ge a 300 with h3 | h3
  · obtain ⟨e1, e2, e3⟩ := hw.low h3
    rw [ho] at e1
    obtain ⟨h9, b, g, f1, f2, f3, f4⟩ := hE.2.2.2.1 a t (n, .inr (.inr (.inr (.inr f)))) e1.symm
    obtain ⟨z, hz, rfl⟩ := q2.at (by omega)
    rw [e2, f1] at hz
    cases hz
    have hlt : i.toNatClampNeg < n := by
      unfold vp_in at hin
      omega
    have hv := (f4 _ hlt).mono e3
    have ht : t = 6 := by omega
    subst ht
    exact vb_tq hx hb f3 hS hin rfl d (K as H locs cells slots ml (g i.toNatClampNeg :: u2) hp hw hL ⟨hv, hs2⟩ hS hc hq)
  · obtain ⟨z, hz, rfl⟩ := q2.at (by omega)
    obtain ⟨ws, e, g1, g2, hP, hD⟩ := hw.cell h3 hz ho
    obtain ⟨cA, g, rfl, g3, g4, g5⟩ := g2.rowq
    have K2 := K as H locs cells slots ml (va_rf (g i.toNatClampNeg) :: u2) hp hw hL ⟨VR.rf (g5 _), hs2⟩ hS hc hq
    have ht : t = 3 ∨ t = 4 ∨ t = 5 ∨ t = 6 ∨ t = 7 ∨ t = 8 := by omega
    rcases ht with rfl | rfl | rfl | rfl | rfl | rfl
    · have hlt : i.toNatClampNeg < n := Nat.not_le.mp fun q => hin (Or.inr q)
      exact W.aald (v := va_rf (g i.toNatClampNeg)) (ty := .array .int) hx hb (hP _ _ g1) ((hE.1.2 3 _ g3).1 n (fun j => va_rf (g j))) rfl (fun q => by cases q) (by show ¬ (i < 0 ∨ (arrV _ _ _).slots.size ≤ _); rw [arrV_size]; exact hin) (by show (arrV _ _ _).slots[_]? = _; rw [arrV_read _ _ hlt]) rfl rfl d K2
    · exact va_aldq hx hb hE.1 hP _ 4 g1 g3 hin d K2
    · exact va_aldq hx hb hE.1 hP _ 5 g1 g3 hin d K2
    · exact va_aldq hx hb hE.1 hP _ 6 g1 g3 hin d K2
    · exact va_aldq hx hb hE.1 hP _ 7 g1 g3 hin d K2
    · exact va_aldq hx hb hE.1 hP _ 8 g1 g3 hin d K2
theorem gd_alen (hx : p.tables.exec = Jvm.exec) (hb : c.code = cc) (hE : EN D tys S0 ro RO s) {t a : Nat} {x : vp_A} (d : decode cc pc = .ok (.arraylength, 1)) (ho : h.2 a = some (.inl (t, x))) (K : Gd p l e R s m args below meth c Q D tys S0 ro RO as0 c0 s0 (pc + 1) (ls) (.int (Int32.ofNat x.1) :: st) (h)) : Gd p l e R s m args below meth c Q D tys S0 ro RO as0 c0 s0 (pc) (ls) (.ref a :: st) (h) := by
  intro as H locs cells slots ml ms hp hw hL hs hS hc hq
  obtain ⟨w2, u2, rfl, q2, hs2⟩ := hs.cons
  have K2 := K as H locs cells slots ml (.int (Int32.ofNat x.1) :: u2) hp hw hL ⟨rfl, hs2⟩ hS hc hq
  rcases Nat.lt_or_ge a 300 with h3 | h3
  · obtain ⟨e1, e2, e3⟩ := hw.low h3
    rw [ho] at e1
    obtain ⟨h9, b, g, f1, f2, f3, f4⟩ := hE.2.2.2.1 a t x e1.symm
    obtain ⟨z, hz, rfl⟩ := q2.at (by omega)
    rw [e2, f1] at hz
    cases hz
    exact va_tlen hx hb f3 hS rfl d K2
  · obtain ⟨z, hz, rfl⟩ := q2.at (by omega)
    obtain ⟨ws, e, g1, g2, hP, hD⟩ := hw.cell h3 hz ho
    obtain ⟨cA, y, rfl, g3, g4⟩ := g2.any
    exact va_alen hx hb hE.1 hP _ t g1 g3 (by rw [g4]) d K2
theorem gd_astore_b (hx : p.tables.exec = Jvm.exec) (hb : c.code = cc) (hE : EN D tys S0 ro RO s) {bb : Bool} {t n a : Nat} {f : Nat → Int32} {i x : Int32} (d : decode cc pc = .ok (if bb = true then .bastore else .iastore, 1)) (hk : kb bb t = true) (hi : inB i n = true) (ho : h.2 a = some (.inl (t, n, .inl f))) (h3 : 300 ≤ a) (K : Gd p l e R s m args below meth c Q D tys S0 ro RO as0 c0 s0 (pc + 1) (ls) (st) (hset h a (.inl (t, n, .inl (upd f i.toNatClampNeg (vp_nar (tyOf t) x)))))) : Gd p l e R s m args below meth c Q D tys S0 ro RO as0 c0 s0 (pc) (ls) (.int x :: .int i :: .ref a :: st) (h) := by
  intro as H locs cells slots ml ms hp hw hL hs hS hc hq
  obtain ⟨w0, u0, rfl, q0, hs0⟩ := hs.cons
  obtain ⟨w1, u1, rfl, q1, hs1⟩ := hs0.cons
  obtain ⟨w2, u2, rfl, q2, hs2⟩ := hs1.cons
  cases q1; cases q0
  have hin := inB_vp hi
  obtain ⟨z, hz, rfl⟩ := q2.at (by omega)
  obtain ⟨ws, e, g1, g2, hP, hD, hput⟩ := hw.put (c' := .inl (t, n, .inl (upd f i.toNatClampNeg (vp_nar (tyOf t) x)))) h3 hz ho
  have ht6 : t < 9 := by
    cases bb
    · have : t = 0 := by simpa [kb] using hk
      omega
    · have : t = 2 := by simpa [kb] using hk
      omega
  obtain ⟨cA, rfl, g3⟩ := g2.row
  have K2 : ∀ (y : Int32), y = vp_nar (tyOf t) x → ∀ (H1 : Heap) (locs1 : List Loc), va_P D vwCl (ws.set (a - 300) (z, .inl (cA, n, .inl (upd f i.toNatClampNeg y)))) H1 → va_D (A0 S0) (ws.set (a - 300) (z, .inl (cA, n, .inl (upd f i.toNatClampNeg y)))) → va_S (A0 S0) s.heap H1 locs1 → W p l e R s m args below meth c H1 locs1 cells slots Q (F0 m (pc + 1) ml u2) := fun y hy H1 locs1 hP1 hD1 hS1 => K as H1 locs1 cells slots ml u2 hp (hput (.inl (cA, n, .inl (upd f i.toNatClampNeg y))) H1 (show _ ∧ _ ∧ _ from ⟨g3, ht6, rfl, by rw [hy]⟩) hP1 hD1) hL hs2 hS1 hc hq
  cases bb
  · have ht : t = 0 := by simpa [kb] using hk
    subst ht
    exact va_iast hx hb hE.1 hP hD hS _ 0 g1 g3 hin d (K2 x rfl)
  · have ht : t = 2 := by simpa [kb] using hk
    subst ht
    exact va_bast hx hb hE.1 hP hD hS _ 2 g1 g3 hin d (K2 _ rfl)
theorem gd_lastore (hx : p.tables.exec = Jvm.exec) (hb : c.code = cc) (hE : EN D tys S0 ro RO s) {n a : Nat} {f : Nat → Int64} {i : Int32} {x : Int64} (d : decode cc pc = .ok (.lastore, 1)) (hi : inB i n = true) (ho : h.2 a = some (.inl (1, n, .inr (.inl f)))) (h3 : 300 ≤ a) (K : Gd p l e R s m args below meth c Q D tys S0 ro RO as0 c0 s0 (pc + 1) (ls) (st) (hset h a (.inl (1, n, .inr (.inl (vp_updL f i.toNatClampNeg x)))))) : Gd p l e R s m args below meth c Q D tys S0 ro RO as0 c0 s0 (pc) (ls) (.long x :: .int i :: .ref a :: st) (h) := by
  intro as H locs cells slots ml ms hp hw hL hs hS hc hq
  obtain ⟨w0, u0, rfl, q0, hs0⟩ := hs.cons
  obtain ⟨w1, u1, rfl, q1, hs1⟩ := hs0.cons
  obtain ⟨w2, u2, rfl, q2, hs2⟩ := hs1.cons
  cases q1; cases q0
  have hin := inB_vp hi
  obtain ⟨z, hz, rfl⟩ := q2.at (by omega)
  obtain ⟨ws, e, g1, g2, hP, hD, hput⟩ := hw.put (c' := .inl (1, n, .inr (.inl (vp_updL f i.toNatClampNeg x)))) h3 hz ho
  obtain ⟨cA, rfl, g3⟩ := g2.rowl
  exact va_last hx hb hE.1 hP hD hS _ 1 g1 g3 hin d (fun H1 locs1 hP1 hD1 hS1 => K as H1 locs1 cells slots ml u2 hp (hput (.inl (cA, n, .inr (.inl (vp_updL f i.toNatClampNeg x)))) H1 (show _ ∧ _ ∧ _ from ⟨g3, by omega, rfl, rfl⟩) hP1 hD1) hL hs2 hS1 hc hq)
end SND2
