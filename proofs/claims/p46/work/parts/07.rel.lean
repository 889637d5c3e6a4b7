/-! THE PLAIN MACHINE AND THE JVM'S: how their values, rows of places, stacks and heaps belong together. as: the address of each numbered cell -/
def VR (as : List Nat) (v w : Value) : Prop := match v with
  | .ref k => if k = 299 then ∃ q, w = .ref q else if k = 201 then w = .null ∨ ∃ q, w = .ref q else ∃ a, as[k]? = some a ∧ w = .ref a
  | v => w = v
def SR (as : List Nat) : List Value → List Value → Prop
  | [], [] => True
  | v :: t, w :: u => VR as v w ∧ SR as t u
  | _, _ => False
def LR (as : List Nat) (nL : Nat) (ls : PL) (ml : Array Slot) : Prop := lv_has ml nL [] ∧ ls.length = nL ∧ ∀ (i : Nat) (v : Value), ls[i]? = some (some v) → ∃ w : Value, ml[i]? = some (Slot.val w) ∧ VR as v w
def OR (as : List Nat) (x y : Option Nat) : Prop := match x with
  | none => y = none
  | some k => ∃ a, as[k]? = some a ∧ y = some a
def AR (as : List Nat) (x y : vp_A) : Prop := x.1 = y.1 ∧ match x.2, y.2 with
  | .inl f, .inl g => f = g
  | .inr (.inl f), .inr (.inl g) => f = g
  | .inr (.inr (.inr (.inr f))), .inr (.inr (.inr (.inr g))) => ∀ i, OR as (f i) (g i)
  | _, _ => False
def ER (tys : List (ClassId × FieldType)) (as : List Nat) (c : PC) (e : va_E) : Prop := match c, e with
  | .inl (t, x), .inl (cA, y) => tys[t]? = some (cA, tyOf t) ∧ t < 9 ∧ AR as x y
  | .inr (ci, fs), .inr (cj, gs) => ci = cj ∧ ci < 13 ∧ SR as fs gs
  | _, _ => False
def PW (D : va_G) (tys : List (ClassId × FieldType)) (A : Nat → Prop) (ro : List Nat) (RO : Nat → Option PC) (as : List Nat) (h : PH) (H : Heap) : Prop :=
  as.length = h.1.1 ∧ 300 ≤ h.1.1 ∧ as.take 300 = ro ∧ (∀ k, k < 300 → h.2 k = RO k) ∧ (∀ k, h.1.1 ≤ k → h.2 k = none) ∧
  ∃ ws : va_W, ws.length + 300 = h.1.1 ∧ (∀ k a, as[300 + k]? = some a → ∃ e, ws[k]? = some (a, e) ∧ ∀ c, h.2 (300 + k) = some c → ER tys as c e) ∧ va_P D vwCl ws H ∧ va_D A ws
theorem VR.mono {as bs : List Nat} (hp : as <+: bs) {v w : Value} (h : VR as v w) : VR bs v w := by
  obtain ⟨t, rfl⟩ := hp
  cases v with
  | ref k =>
    simp only [VR] at h ⊢
    by_cases h1 : k = 299
    · rw [if_pos h1] at h ⊢; exact h
    · by_cases h2 : k = 201
      · rw [if_neg h1, if_pos h2] at h ⊢; exact h
      · rw [if_neg h1, if_neg h2] at h ⊢
        obtain ⟨a, h3, h4⟩ := h
        exact ⟨a, by rw [List.getElem?_append_left (List.getElem?_eq_some_iff.mp h3).1]; exact h3, h4⟩
  | _ => exact h
theorem VR.refs {as : List Nat} {k : Nat} {w : Value} (h : VR as (.ref k) w) : w = .null ∨ ∃ q, w = .ref q := by
  simp only [VR] at h
  split at h
  · exact Or.inr h
  · split at h
    · exact h
    · obtain ⟨a, -, rfl⟩ := h; exact Or.inr ⟨a, rfl⟩
theorem VR.cat {as : List Nat} {v w : Value} (h : VR as v w) : w.category = v.category := by
  cases v with
  | ref k => rcases h.refs with rfl | ⟨q, rfl⟩ <;> rfl
  | _ => rw [show w = _ from h]
theorem VR.isRef {as : List Nat} {k : Nat} {w : Value} (h : VR as (.ref k) w) (hk : k ≠ 201) : ∃ q, w = .ref q := by
  simp only [VR, if_neg hk] at h
  split at h
  · exact h
  · obtain ⟨a, -, rfl⟩ := h; exact ⟨a, rfl⟩
theorem VR.at {as : List Nat} {k : Nat} {w : Value} (h : VR as (.ref k) w) (hk : k ≠ 299 ∧ k ≠ 201) : ∃ a, as[k]? = some a ∧ w = .ref a := by
  simp only [VR, if_neg hk.1, if_neg hk.2] at h
  exact h
theorem VR.mk {as : List Nat} {k a : Nat} (h : as[k]? = some a) : VR as (.ref k) (.ref a) := by
  simp only [VR]
  split
  · exact ⟨a, rfl⟩
  · split
    · exact Or.inr ⟨a, rfl⟩
    · exact ⟨a, h, rfl⟩
theorem SR.mono {as bs : List Nat} (hp : as <+: bs) : ∀ {v w : List Value}, SR as v w → SR bs v w
  | [], [], _ => trivial
  | _ :: _, _ :: _, h => ⟨h.1.mono hp, SR.mono hp h.2⟩
  | [], _ :: _, h => h.elim
  | _ :: _, [], h => h.elim
theorem SR.len {as : List Nat} : ∀ {v w : List Value}, SR as v w → w.length = v.length
  | [], [], _ => rfl
  | _ :: t, _ :: u, h => by simp [SR.len h.2]
  | [], _ :: _, h => h.elim
  | _ :: _, [], h => h.elim
theorem SR.get {as : List Nat} : ∀ {v w : List Value} {i : Nat} {x : Value}, SR as v w → v[i]? = some x → ∃ y, w[i]? = some y ∧ VR as x y
  | [], [], _, _, _, h => by simp at h
  | a :: t, b :: u, 0, x, h, hx => by simp at hx; subst hx; exact ⟨b, rfl, h.1⟩
  | a :: t, b :: u, i + 1, x, h, hx => by simp at hx; obtain ⟨y, h1, h2⟩ := SR.get h.2 hx; exact ⟨y, by simpa using h1, h2⟩
  | [], _ :: _, _, _, h, _ => h.elim
  | _ :: _, [], _, _, h, _ => h.elim
theorem SR.set {as : List Nat} : ∀ {v w : List Value} {i : Nat} {x y : Value}, SR as v w → VR as x y → SR as (v.set i x) (w.set i y)
  | [], [], _, _, _, _, _ => trivial
  | a :: t, b :: u, 0, x, y, h, hx => ⟨hx, h.2⟩
  | a :: t, b :: u, i + 1, x, y, h, hx => ⟨h.1, SR.set h.2 hx⟩
  | [], _ :: _, _, _, _, h, _ => h.elim
  | _ :: _, [], _, _, _, h, _ => h.elim
theorem SR.cons {as : List Nat} {v : Value} {t ms : List Value} (h : SR as (v :: t) ms) : ∃ w u, ms = w :: u ∧ VR as v w ∧ SR as t u := by
  cases ms with
  | nil => exact h.elim
  | cons w u => exact ⟨w, u, rfl, h.1, h.2⟩
theorem SR.nil {as : List Nat} {ms : List Value} (h : SR as [] ms) : ms = [] := by
  cases ms with
  | nil => rfl
  | cons w u => exact h.elim
theorem SR.take {as : List Nat} : ∀ {v w : List Value} {n : Nat}, SR as v w → SR as (v.take n) (w.take n)
  | [], [], n, _ => by simp [SR]
  | a :: t, b :: u, 0, h => by simp [SR]
  | a :: t, b :: u, n + 1, h => ⟨h.1, SR.take h.2⟩
  | [], _ :: _, _, h => h.elim
  | _ :: _, [], _, h => h.elim
theorem SR.drop {as : List Nat} : ∀ {v w : List Value} {n : Nat}, SR as v w → SR as (v.drop n) (w.drop n)
  | [], [], n, _ => by simp [SR]
  | a :: t, b :: u, 0, h => h
  | a :: t, b :: u, n + 1, h => SR.drop (v := t) (w := u) h.2
  | [], _ :: _, _, h => h.elim
  | _ :: _, [], _, h => h.elim
theorem SR.app {as : List Nat} : ∀ {v w x y : List Value}, SR as v w → SR as x y → SR as (v ++ x) (w ++ y)
  | [], [], _, _, _, h => h
  | _ :: _, _ :: _, _, _, h, h2 => ⟨h.1, SR.app h.2 h2⟩
  | [], _ :: _, _, _, h, _ => h.elim
  | _ :: _, [], _, _, h, _ => h.elim
theorem SR.rev {as : List Nat} : ∀ {v w : List Value}, SR as v w → SR as v.reverse w.reverse
  | [], [], _ => trivial
  | a :: t, b :: u, h => by
    rw [List.reverse_cons, List.reverse_cons]
    exact SR.app (SR.rev h.2) ⟨h.1, trivial⟩
  | [], _ :: _, h => h.elim
  | _ :: _, [], h => h.elim
theorem SR.sum {as : List Nat} : ∀ {v w : List Value}, SR as v w → (w.map fun x => x.category).sum = psum v
  | [], [], _ => rfl
  | a :: t, b :: u, h => by
    have := SR.sum h.2
    simp only [psum, List.map_cons, List.sum_cons] at this ⊢
    rw [this, h.1.cat]
  | [], _ :: _, h => h.elim
  | _ :: _, [], h => h.elim
theorem OR.mono {as bs : List Nat} (hp : as <+: bs) {x y : Option Nat} (h : OR as x y) : OR bs x y := by
  obtain ⟨t, rfl⟩ := hp
  cases x with
  | none => exact h
  | some k =>
    obtain ⟨a, h1, h2⟩ := h
    exact ⟨a, by rw [List.getElem?_append_left (List.getElem?_eq_some_iff.mp h1).1]; exact h1, h2⟩
theorem AR.mono {as bs : List Nat} (hp : as <+: bs) {x y : vp_A} (h : AR as x y) : AR bs x y := by
  obtain ⟨n, f⟩ := x
  obtain ⟨n', g⟩ := y
  refine ⟨h.1, ?_⟩
  have h2 := h.2
  rcases f with f | f | f | f | f <;> rcases g with g | g | g | g | g <;> first | exact h2 | exact h2.elim | exact fun i => (h2 i).mono hp
theorem ER.mono {tys : List (ClassId × FieldType)} {as bs : List Nat} (hp : as <+: bs) {c : PC} {e : va_E} (h : ER tys as c e) : ER tys bs c e := by
  rcases c with ⟨t, x⟩ | ⟨ci, fs⟩ <;> rcases e with ⟨cA, y⟩ | ⟨cj, gs⟩
  · exact ⟨h.1, h.2.1, h.2.2.mono hp⟩
  · exact h.elim
  · exact h.elim
  · exact ⟨h.1, h.2.1, h.2.2.mono hp⟩
theorem LR.mono {as bs : List Nat} (hp : as <+: bs) {nL : Nat} {ls : PL} {ml : Array Slot} (h : LR as nL ls ml) : LR bs nL ls ml :=
  ⟨h.1, h.2.1, fun i v q => by obtain ⟨w, h1, h2⟩ := h.2.2 i v q; exact ⟨w, h1, h2.mono hp⟩⟩
/-- a cell of the plain heap is one of the world -/
theorem PW.cell {D : va_G} {tys : List (ClassId × FieldType)} {A : Nat → Prop} {ro : List Nat} {RO : Nat → Option PC} {as : List Nat} {h : PH} {H : Heap} (hw : PW D tys A ro RO as h H) {k a : Nat} {c : PC} (hk : 300 ≤ k) (ha : as[k]? = some a) (hc : h.2 k = some c) :
    ∃ (ws : va_W) (e : va_E), ws[k - 300]? = some (a, e) ∧ ER tys as c e ∧ va_P D vwCl ws H ∧ va_D A ws := by
  obtain ⟨-, -, -, -, -, ws, hl, hws, hP, hD⟩ := hw
  have e1 : 300 + (k - 300) = k := by omega
  obtain ⟨e, h1, h2⟩ := hws (k - 300) a (by rw [e1]; exact ha)
  exact ⟨ws, e, h1, h2 c (by rw [e1]; exact hc), hP, hD⟩
/-- a cell is changed -/
theorem PW.put {D : va_G} {tys : List (ClassId × FieldType)} {A : Nat → Prop} {ro : List Nat} {RO : Nat → Option PC} {as : List Nat} {h : PH} {H : Heap} (hw : PW D tys A ro RO as h H) {k a : Nat} {c c' : PC} (hk : 300 ≤ k) (ha : as[k]? = some a) (hc : h.2 k = some c) :
    ∃ (ws : va_W) (e : va_E), ws[k - 300]? = some (a, e) ∧ ER tys as c e ∧ va_P D vwCl ws H ∧ va_D A ws ∧
      ∀ (e' : va_E) (H' : Heap), ER tys as c' e' → va_P D vwCl (ws.set (k - 300) (a, e')) H' → va_D A (ws.set (k - 300) (a, e')) → PW D tys A ro RO as (hset h k c') H' := by
  obtain ⟨h1, h2, h3, h4, h5, ws, hl, hws, hP, hD⟩ := hw
  have e1 : 300 + (k - 300) = k := by omega
  generalize k - 300 = q0 at e1 ⊢
  obtain ⟨e, g1, g2⟩ := hws q0 a (by rw [e1]; exact ha)
  have hlt := (List.getElem?_eq_some_iff.mp g1).1
  refine ⟨ws, e, g1, g2 c (by rw [e1]; exact hc), hP, hD, fun e' H' he hP' hD' => ?_⟩
  refine ⟨h1, h2, h3, fun q hq => ?_, fun q hq => ?_, ws.set q0 (a, e'), ?_, fun q b hb => ?_, hP', hD'⟩
  · have : q ≠ k := by omega
    simp only [hset, if_neg this]
    exact h4 q hq
  · have hkl : k < h.1.1 := by
      have := (List.getElem?_eq_some_iff.mp ha).1
      omega
    have hq' : h.1.1 ≤ q := hq
    have : q ≠ k := by omega
    simp only [hset, if_neg this]
    exact h5 q hq
  · rw [List.length_set]; exact hl
  · by_cases hqk : q = q0
    · subst hqk
      rw [e1] at hb
      rw [ha] at hb
      cases hb
      refine ⟨e', by rw [List.getElem?_set_self hlt], fun c2 hc2 => ?_⟩
      simp only [hset, e1, if_true] at hc2
      cases hc2
      exact he
    · obtain ⟨e2, g3, g4⟩ := hws q b hb
      refine ⟨e2, by rw [List.getElem?_set_ne (Ne.symm hqk)]; exact g3, fun c2 hc2 => ?_⟩
      have : 300 + q ≠ k := by omega
      simp only [hset, if_neg this] at hc2
      exact g4 c2 hc2
/-- a cell comes -/
theorem PW.push {D : va_G} {tys : List (ClassId × FieldType)} {A : Nat → Prop} {ro : List Nat} {RO : Nat → Option PC} {as : List Nat} {h : PH} {H : Heap} (hw : PW D tys A ro RO as h H) (n : Nat) (c : PC) :
    ∃ (ws : va_W), va_P D vwCl ws H ∧ va_D A ws ∧
      ∀ (a : Nat) (e : va_E) (H' : Heap), ER tys as c e → va_P D vwCl (ws ++ [(a, e)]) H' → va_D A (ws ++ [(a, e)]) → PW D tys A ro RO (as ++ [a]) (hnew h n c) H' ∧ (as ++ [a])[h.1.1]? = some a := by
  obtain ⟨h1, h2, h3, h4, h5, ws, hl, hws, hP, hD⟩ := hw
  refine ⟨ws, hP, hD, fun a e H' he hP' hD' => ⟨?_, by rw [← h1]; simp⟩⟩
  have hpre : as <+: as ++ [a] := ⟨[a], rfl⟩
  refine ⟨by simp [hnew, h1], by simp only [hnew]; omega, ?_, fun q hq => ?_, fun q hq => ?_, ws ++ [(a, e)], by simp only [hnew, List.length_append, List.length_singleton]; omega, fun q b hb => ?_, hP', hD'⟩
  · rw [List.take_append_of_le_length (by omega)]; exact h3
  · have : q ≠ h.1.1 := by omega
    simp only [hnew, if_neg this]
    exact h4 q hq
  · simp only [hnew] at hq ⊢
    have : q ≠ h.1.1 := by omega
    rw [if_neg this]
    exact h5 q (by omega)
  · by_cases hlt : 300 + q < as.length
    · rw [List.getElem?_append_left hlt] at hb
      obtain ⟨e2, g3, g4⟩ := hws q b hb
      refine ⟨e2, by rw [List.getElem?_append_left (List.getElem?_eq_some_iff.mp g3).1]; exact g3, fun c2 hc2 => ?_⟩
      have : 300 + q ≠ h.1.1 := by omega
      simp only [hnew, if_neg this] at hc2
      exact (g4 c2 hc2).mono hpre
    · rw [List.getElem?_append_right (by omega)] at hb
      have hz := (List.getElem?_eq_some_iff.mp hb).1
      simp only [List.length_singleton] at hz
      have hq : q = ws.length := by omega
      have e0 : 300 + q - as.length = 0 := by omega
      rw [e0] at hb
      cases hb
      subst hq
      refine ⟨e, by simp, fun c2 hc2 => ?_⟩
      have : 300 + ws.length = h.1.1 := by omega
      simp only [hnew, this, if_true] at hc2
      cases hc2
      exact he.mono hpre
/-- the places behind a store of one word -/
theorem LR.store1 {as : List Nat} {nL : Nat} {ls : PL} {ml : Array Slot} (hL : LR as nL ls ml) {i : Nat} {v w : Value} (hv : VR as v w) :
    ∃ lv : List (Nat × Value), lv_has ml nL lv ∧ ∀ ml' : Array Slot, lv_has ml' nL ((i, w) :: lv.filter (fun q => !(q.1 == i) && !(q.1 + 1 == i && q.2.category == 2))) → LR as nL (pst1 ls i v) ml' := by
  obtain ⟨⟨z1, z2, -⟩, hl, hg⟩ := hL
  refine ⟨(List.range nL).filterMap (fun (k : Nat) => match (ml[k]? : Option Slot) with
    | some (Slot.val u) => some (k, u)
    | _ => none), ⟨z1, z2, fun q hq => ?_⟩, fun ml' hm => ?_⟩
  · obtain ⟨k, -, hk⟩ := List.mem_filterMap.mp hq
    split at hk
    · rename_i u hu; cases hk; exact hu
    · cases hk
  · have hkl : (pkill ls i).length = nL := by
      unfold pkill
      split
      · exact hl
      · split
        · split
          · rw [List.length_set]; exact hl
          · exact hl
        · exact hl
    refine ⟨⟨hm.1, hm.2.1, fun _ q => by cases q⟩, by rw [pst1, List.length_set]; exact hkl, fun k u hk => ?_⟩
    rw [pst1] at hk
    by_cases hki : k = i
    · subst hki
      have hlt : k < (pkill ls k).length := by
        have := (List.getElem?_eq_some_iff.mp hk).1
        rw [List.length_set] at this
        exact this
      rw [List.getElem?_set_self hlt] at hk
      cases hk
      exact ⟨w, hm.2.2 (k, w) List.mem_cons_self, hv⟩
    · rw [List.getElem?_set_ne (Ne.symm hki)] at hk
      have hk2 : ls[k]? = some (some u) ∧ ¬ (k + 1 = i ∧ u.category = 2) := by
        unfold pkill at hk
        split at hk
        · exact ⟨hk, by omega⟩
        · rename_i k1
          split at hk
          · rename_i u1 hu1
            split at hk
            · by_cases hkk : k = k1
              · subst hkk
                have hlt : k < ls.length := (List.getElem?_eq_some_iff.mp hu1).1
                rw [List.getElem?_set_self hlt] at hk
                cases hk
              · rw [List.getElem?_set_ne (Ne.symm hkk)] at hk
                exact ⟨hk, by omega⟩
            · rename_i hc
              refine ⟨hk, fun q => ?_⟩
              have : k = k1 := by omega
              subst this
              rw [hk] at hu1
              cases hu1
              exact hc q.2
          · rename_i hno
            refine ⟨hk, fun q => ?_⟩
            have : k = k1 := by omega
            subst this
            exact hno u hk
      obtain ⟨y, h1, h2⟩ := hg k u hk2.1
      refine ⟨y, hm.2.2 (k, y) (List.mem_cons_of_mem _ (List.mem_filter.mpr ⟨List.mem_filterMap.mpr ⟨k, List.mem_range.mpr ?_, by rw [h1]⟩, ?_⟩)), h2⟩
      · have := (List.getElem?_eq_some_iff.mp hk2.1).1
        omega
      · simp only [Bool.and_eq_true, Bool.not_eq_true', beq_eq_false_iff_ne, ne_eq, Bool.and_eq_false_iff]
        refine ⟨hki, ?_⟩
        by_cases q1 : k + 1 = i
        · right
          rw [h2.cat]
          exact fun q2 => hk2.2 ⟨q1, q2⟩
        · left; exact q1
theorem LR.store2 {as : List Nat} {nL : Nat} {ls : PL} {ml : Array Slot} (hL : LR as nL ls ml) {i : Nat} {v w : Value} (hv : VR as v w) :
    ∃ lv : List (Nat × Value), lv_has ml nL lv ∧ ∀ ml' : Array Slot, lv_has ml' nL ((i, w) :: lv.filter (fun q => !(q.1 == i) && (!(q.1 == i + 1) && !(q.1 + 1 == i && q.2.category == 2)))) → LR as nL (pst2 ls i v) ml' := by
  obtain ⟨lv, h1, h2⟩ := hL.store1 (i := i) hv
  obtain ⟨⟨z1, z2, -⟩, hl, hg⟩ := hL
  refine ⟨(List.range nL).filterMap (fun (k : Nat) => match (ml[k]? : Option Slot) with
    | some (Slot.val u) => some (k, u)
    | _ => none), ⟨z1, z2, fun q hq => ?_⟩, fun ml' hm => ?_⟩
  · obtain ⟨k, -, hk⟩ := List.mem_filterMap.mp hq
    split at hk
    · rename_i u hu; cases hk; exact hu
    · cases hk
  · have hkl : (pkill ls i).length = nL := by
      unfold pkill
      split
      · exact hl
      · split
        · split
          · rw [List.length_set]; exact hl
          · exact hl
        · exact hl
    refine ⟨⟨hm.1, hm.2.1, fun _ q => by cases q⟩, by rw [pst2, List.length_set, List.length_set]; exact hkl, fun k u hk => ?_⟩
    rw [pst2] at hk
    by_cases hk1 : k = i + 1
    · subst hk1
      have hlt : i + 1 < ((pkill ls i).set i (some v)).length := by
        have := (List.getElem?_eq_some_iff.mp hk).1
        rw [List.length_set] at this
        exact this
      rw [List.getElem?_set_self hlt] at hk
      cases hk
    rw [List.getElem?_set_ne (Ne.symm hk1)] at hk
    by_cases hki : k = i
    · subst hki
      have hlt : k < (pkill ls k).length := by
        have := (List.getElem?_eq_some_iff.mp hk).1
        rw [List.length_set] at this
        exact this
      rw [List.getElem?_set_self hlt] at hk
      cases hk
      exact ⟨w, hm.2.2 (k, w) List.mem_cons_self, hv⟩
    · rw [List.getElem?_set_ne (Ne.symm hki)] at hk
      have hk2 : ls[k]? = some (some u) ∧ ¬ (k + 1 = i ∧ u.category = 2) := by
        unfold pkill at hk
        split at hk
        · exact ⟨hk, by omega⟩
        · rename_i k1
          split at hk
          · rename_i u1 hu1
            split at hk
            · by_cases hkk : k = k1
              · subst hkk
                have hlt : k < ls.length := (List.getElem?_eq_some_iff.mp hu1).1
                rw [List.getElem?_set_self hlt] at hk
                cases hk
              · rw [List.getElem?_set_ne (Ne.symm hkk)] at hk
                exact ⟨hk, by omega⟩
            · rename_i hc
              refine ⟨hk, fun q => ?_⟩
              have : k = k1 := by omega
              subst this
              rw [hk] at hu1
              cases hu1
              exact hc q.2
          · rename_i hno
            refine ⟨hk, fun q => ?_⟩
            have : k = k1 := by omega
            subst this
            exact hno u hk
      obtain ⟨y, h1, h2⟩ := hg k u hk2.1
      refine ⟨y, hm.2.2 (k, y) (List.mem_cons_of_mem _ (List.mem_filter.mpr ⟨List.mem_filterMap.mpr ⟨k, List.mem_range.mpr ?_, by rw [h1]⟩, ?_⟩)), h2⟩
      · have := (List.getElem?_eq_some_iff.mp hk2.1).1
        omega
      · simp only [Bool.and_eq_true, Bool.not_eq_true', beq_eq_false_iff_ne, ne_eq, Bool.and_eq_false_iff]
        refine ⟨hki, hk1, ?_⟩
        by_cases q1 : k + 1 = i
        · right
          rw [h2.cat]
          exact fun q2 => hk2.2 ⟨q1, q2⟩
        · left; exact q1
