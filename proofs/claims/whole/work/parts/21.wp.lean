/-! THE PLAIN MACHINE BY ROWS: one row an instruction (printed behind), for simp -/
def kl (o : Option Value) : Option Value := match o with
  | some v => if v.category = 2 then none else some v
  | none => none
theorem kl_none : kl none = none := rfl
theorem kl_int {x : Int32} : kl (some (.int x)) = some (.int x) := rfl
theorem kl_ref {x : Nat} : kl (some (.ref x)) = some (.ref x) := rfl
theorem kl_null : kl (some .null) = some .null := rfl
theorem kl_long {x : Int64} : kl (some (.long x)) = none := rfl
theorem kl_double {x : UInt64} : kl (some (.double x)) = none := rfl
theorem pst1_zero {a : Option Value} {t : PL} {v : Value} : pst1 (a :: t) 0 v = some v :: t := rfl
theorem pkill_succ {ls : PL} {k : Nat} : pkill ls (k + 1) = ls.set k (kl (ls[k]?.join)) := by
  simp only [pkill]
  cases h : ls[k]? with
  | none =>
    show ls = ls.set k none
    rw [List.set_eq_of_length_le (List.getElem?_eq_none_iff.mp h)]
  | some o =>
    obtain ⟨hl, he⟩ := List.getElem?_eq_some_iff.mp h
    cases o with
    | none =>
      show ls = ls.set k none
      rw [← he, List.set_getElem_self]
    | some v =>
      by_cases hc : v.category = 2
      · simp [kl, hc]
      · simp only [Option.join_some, kl, if_neg hc]
        rw [← he, List.set_getElem_self]
theorem pst1_succ {ls : PL} {k : Nat} {v : Value} : pst1 ls (k + 1) v = (ls.set k (kl (ls[k]?.join))).set (k + 1) (some v) := by rw [pst1, pkill_succ]
theorem pst2_succ {ls : PL} {k : Nat} {v : Value} : pst2 ls (k + 1) v = ((ls.set k (kl (ls[k]?.join))).set (k + 1) (some v)).set (k + 2) none := by rw [pst2, pkill_succ]
def oP {α : Type} (o : Option α) (K : α → Prop) : Prop := match o with
  | some v => K v
  | none => False
theorem oP_some {α : Type} {v : α} {K : α → Prop} : oP (some v) K = K v := rfl
/-- a field is read -/
def gP (o : Option PC) (ci k : Nat) (K : Value → Prop) : Prop := match o with
  | some (.inr (c, fs)) => if c = ci then oP (fs[k]?) K else False
  | _ => False
theorem gP_mk {ci k : Nat} {fs : List Value} {K : Value → Prop} : gP (some (.inr (ci, fs))) ci k K = oP (fs[k]?) K := if_pos rfl
/-- a field is written -/
def pP (o : Option PC) (ci k : Nat) (ty : FieldType) (v : Value) (a : Nat) (K : PC → Prop) : Prop := match o with
  | some (.inr (c, fs)) => if c = ci ∧ 300 ≤ a ∧ k < fs.length ∧ fits ty v = true ∧ narrow ty v = v then K (.inr (c, fs.set k v)) else False
  | _ => False
/-- a row's place is read -/
def aP (b : Bool) (o : Option PC) (i : Int32) (K : Int32 → Prop) : Prop := match o with
  | some (.inl (k, n, .inl f)) => if kb b k = true ∧ inB i n = true then K (f i.toNatClampNeg) else False
  | _ => False
def lP (o : Option PC) (i : Int32) (K : Int64 → Prop) : Prop := match o with
  | some (.inl (1, n, .inr (.inl f))) => if inB i n = true then K (f i.toNatClampNeg) else False
  | _ => False
def qP (o : Option PC) (i : Int32) (K : Value → Prop) : Prop := match o with
  | some (.inl (k, n, .inr (.inr (.inr (.inr f))))) => if 4 ≤ k ∧ k ≤ 6 ∧ inB i n = true then K (va_rf (f i.toNatClampNeg)) else False
  | _ => False
def nP (o : Option PC) (K : Int32 → Prop) : Prop := match o with
  | some (.inl (_, x)) => K (Int32.ofNat x.1)
  | _ => False
def asP (b : Bool) (o : Option PC) (a : Nat) (i x : Int32) (K : PC → Prop) : Prop := match o with
  | some (.inl (k, n, .inl f)) => if 300 ≤ a ∧ kb b k = true ∧ inB i n = true then K (.inl (k, n, .inl (upd f i.toNatClampNeg (vp_nar (tyOf k) x)))) else False
  | _ => False
def lsP (o : Option PC) (a : Nat) (i : Int32) (x : Int64) (K : PC → Prop) : Prop := match o with
  | some (.inl (1, n, .inr (.inl f))) => if 300 ≤ a ∧ inB i n = true then K (.inl (1, n, .inr (.inl (vp_updL f i.toNatClampNeg x)))) else False
  | _ => False
def qsP (o ob : Option PC) (a b : Nat) (i : Int32) (K : PC → Prop) : Prop := match o, ob with
  | some (.inl (k, n, .inr (.inr (.inr (.inr f))))), some (.inr (ci, _)) => if 300 ≤ a ∧ 300 ≤ b ∧ (k = 4 ∧ ci = 1 ∨ k = 5 ∧ ci = 2) ∧ inB i n = true then K (.inl (k, n, .inr (.inr (.inr (.inr (va_up f i.toNatClampNeg (some b))))))) else False
  | _, _ => False
def cpP (ob oa : Option PC) (b a : Nat) (sp dp n : Int32) (K : PC → Prop) : Prop := match ob, oa with
  | some (.inl (0, n0, .inl f)), some (.inl (0, n1, .inl g)) => if 300 ≤ a ∧ 300 ≤ b ∧ ¬ sp < 0 ∧ ¬ dp < 0 ∧ ¬ n < 0 ∧ sp.toNatClampNeg + n.toNatClampNeg ≤ n0 ∧ dp.toNatClampNeg + n.toNatClampNeg ≤ n1 then K (.inl (0, n1, .inl (va_cpy f g sp.toNatClampNeg dp.toNatClampNeg n.toNatClampNeg))) else False
  | _, _ => False
/-- the object that a call is to -/
def rP (o : Option PC) (ci : Nat) (P : Prop) : Prop := match o with
  | some (.inr (c, _)) => if c = ci then P else False
  | _ => False
theorem rP_mk {ci : Nat} {fs : List Value} {P : Prop} : rP (some (.inr (ci, fs))) ci P = P := if_pos rfl
/-- behind a call -/
def cK (o : PO) (K : Option Value → PH → Prop) (X : String → PH → Prop) : Prop := match o with
  | (.inl w, h2) => K w h2
  | (.inr E, h2) => X E h2
theorem cK_inl {w : Option Value} {h : PH} {K : Option Value → PH → Prop} {X : String → PH → Prop} : cK (.inl w, h) K X = K w h := rfl
theorem cK_inr {E : String} {h : PH} {K : Option Value → PH → Prop} {X : String → PH → Prop} : cK (.inr E, h) K X = X E h := rfl
section WROWS
variable {d j pc len : Nat} {i : Instr} {r : List Nat} {v : Value} {ls ls' : PL} {st st' : List Value} {h h' : PH} {Q : PO → Prop} {pc' : Nat}
theorem W_go (hf : fetch j pc = some (i, len, r, v)) (hs : pstep (mret j) pc i len r v ls st h = some (.inl (pc', ls', st', h'))) : Wp d j pc ls st h Q = Wp d j pc' ls' st' h' Q := by
  apply propext
  rw [Wp_step hf, hs]
  rfl
theorem W_st1 {k : Nat} {x : Value} {K : Value → Bool} (hf : fetch j pc = some (i, len, r, v)) (hp : pstep (mret j) pc i len r v ls (x :: st) h = pstore1 pc' ls (x :: st) h k K) (hK : K x = true) (hl : k < ls.length) : Wp d j pc ls (x :: st) h Q = Wp d j pc' (pst1 ls k x) st h Q :=
  W_go hf (by rw [hp, pstore1, if_pos ⟨hK, hl⟩]; rfl)
theorem W_st2 {k : Nat} {x : Value} {K : Value → Bool} (hf : fetch j pc = some (i, len, r, v)) (hp : pstep (mret j) pc i len r v ls (x :: st) h = pstore2 pc' ls (x :: st) h k K) (hK : K x = true) (hl : k + 1 < ls.length) : Wp d j pc ls (x :: st) h Q = Wp d j pc' (pst2 ls k x) st h Q :=
  W_go hf (by rw [hp, pstore2, if_pos ⟨hK, hl⟩]; rfl)
theorem W_iinc {k : Nat} {x y : Int32} {n : Int} (hf : fetch j pc = some (.iinc k n, len, r, v)) (hg : psload ls k = some (.int x)) (hl : k < ls.length) (hy : Int32.ofInt n = y) : Wp d j pc ls st h Q = Wp d j (pc + len) (pst1 ls k (.int (x + y))) st h Q :=
  W_go hf (by subst hy; simp only [pstep, hg, if_pos hl]; rfl)
theorem W_if {c : Prop} {dc : Decidable c} {t f : Nat} (hf : fetch j pc = some (i, len, r, v)) (hs : pstep (mret j) pc i len r v ls st h = if c then pgo t ls' st' h else pgo f ls' st' h) : Wp d j pc ls st h Q = if c then Wp d j t ls' st' h Q else Wp d j f ls' st' h Q := by
  apply propext
  rw [Wp_step hf, hs]
  by_cases hc : c
  · rw [if_pos hc, if_pos hc]; rfl
  · rw [if_neg hc, if_neg hc]; rfl
theorem W_get {a ci k : Nat} {r' : List Nat} (hf : fetch j pc = some (i, len, ci :: k :: r', v)) (hp : pstep (mret j) pc i len (ci :: k :: r') v ls (.ref a :: st) h = pgetf pc' ls (.ref a :: st) h (ci :: k :: r')) : Wp d j pc ls (.ref a :: st) h Q = gP (h.2 a) ci k (fun w => Wp d j pc' ls (w :: st) h Q) := by
  apply propext
  rw [Wp_step hf, hp]
  simp only [pgetf, hobj]
  cases ho : h.2 a with
  | none => simp [gP, NxP]
  | some c =>
    rcases c with c | ⟨c, fs⟩
    · simp [gP, NxP]
    · by_cases hc : c = ci
      · simp only [gP, if_pos hc]
        cases fs[k]? <;> simp [oP, NxP, pgo]
      · simp [gP, if_neg hc, NxP]
theorem W_put {a ci k : Nat} {x : Value} {ty : FieldType} {r' : List Nat} (hf : fetch j pc = some (i, len, ci :: k :: r', v)) (hp : pstep (mret j) pc i len (ci :: k :: r') v ls (x :: .ref a :: st) h = pputf pc' ls (x :: .ref a :: st) h (ci :: k :: r') ty) : Wp d j pc ls (x :: .ref a :: st) h Q = pP (h.2 a) ci k ty x a (fun c => Wp d j pc' ls st (hset h a c) Q) := by
  apply propext
  rw [Wp_step hf, hp]
  simp only [pputf, hobj]
  cases ho : h.2 a with
  | none => simp [pP, NxP]
  | some c =>
    rcases c with c | ⟨c, fs⟩
    · simp [pP, NxP]
    · simp only [pP]
      split <;> simp [NxP, pgo]
theorem W_ald {a : Nat} {b : Bool} {x : Int32} (hf : fetch j pc = some (i, len, r, v)) (hp : pstep (mret j) pc i len r v ls (.int x :: .ref a :: st) h = paload b pc' ls (.int x :: .ref a :: st) h) : Wp d j pc ls (.int x :: .ref a :: st) h Q = aP b (h.2 a) x (fun w => Wp d j pc' ls (.int w :: st) h Q) := by
  apply propext
  rw [Wp_step hf, hp]
  simp only [paload, harr]
  cases ho : h.2 a with
  | none => simp [aP, NxP]
  | some c =>
    rcases c with ⟨k, n, f | f | f | f | f⟩ | c
    · simp only [aP]
      split <;> simp [NxP, pgo]
    all_goals simp [aP, NxP]
theorem W_lld {a : Nat} {x : Int32} (hf : fetch j pc = some (i, len, r, v)) (hp : pstep (mret j) pc i len r v ls (.int x :: .ref a :: st) h = plaload pc' ls (.int x :: .ref a :: st) h) : Wp d j pc ls (.int x :: .ref a :: st) h Q = lP (h.2 a) x (fun w => Wp d j pc' ls (.long w :: st) h Q) := by
  apply propext
  rw [Wp_step hf, hp]
  simp only [plaload, harr]
  cases ho : h.2 a with
  | none => simp [lP, NxP]
  | some c =>
    rcases c with ⟨k, n, f | f | f | f | f⟩ | c
    · simp [lP, NxP]
    · by_cases hk : k = 1
      · subst hk
        simp only [lP]
        split <;> simp [NxP, pgo]
      · simp [lP, NxP, hk]
    all_goals simp [lP, NxP]
theorem W_qld {a : Nat} {x : Int32} (hf : fetch j pc = some (i, len, r, v)) (hp : pstep (mret j) pc i len r v ls (.int x :: .ref a :: st) h = pqaload pc' ls (.int x :: .ref a :: st) h) : Wp d j pc ls (.int x :: .ref a :: st) h Q = qP (h.2 a) x (fun w => Wp d j pc' ls (w :: st) h Q) := by
  apply propext
  rw [Wp_step hf, hp]
  simp only [pqaload, harr]
  cases ho : h.2 a with
  | none => simp [qP, NxP]
  | some c =>
    rcases c with ⟨k, n, f | f | f | f | f⟩ | c
    case inl.inr.inr.inr.inr =>
      simp only [qP]
      split <;> simp [NxP, pgo]
    all_goals simp [qP, NxP]
theorem W_len {a : Nat} (hf : fetch j pc = some (i, len, r, v)) (hp : pstep (mret j) pc i len r v ls (.ref a :: st) h = palen pc' ls (.ref a :: st) h) : Wp d j pc ls (.ref a :: st) h Q = nP (h.2 a) (fun w => Wp d j pc' ls (.int w :: st) h Q) := by
  apply propext
  rw [Wp_step hf, hp]
  simp only [palen, harr]
  cases ho : h.2 a with
  | none => simp [nP, NxP]
  | some c =>
    rcases c with ⟨k, x⟩ | c
    · simp [nP, NxP, pgo]
    · simp [nP, NxP]
theorem W_ast {a : Nat} {b : Bool} {x y : Int32} (hf : fetch j pc = some (i, len, r, v)) (hp : pstep (mret j) pc i len r v ls (.int y :: .int x :: .ref a :: st) h = pastore b pc' ls (.int y :: .int x :: .ref a :: st) h) : Wp d j pc ls (.int y :: .int x :: .ref a :: st) h Q = asP b (h.2 a) a x y (fun c => Wp d j pc' ls st (hset h a c) Q) := by
  apply propext
  rw [Wp_step hf, hp]
  simp only [pastore, harr]
  cases ho : h.2 a with
  | none => simp [asP, NxP]
  | some c =>
    rcases c with ⟨k, n, f | f | f | f | f⟩ | c
    · simp only [asP]
      split <;> simp [NxP, pgo]
    all_goals simp [asP, NxP]
theorem W_lst {a : Nat} {x : Int32} {y : Int64} (hf : fetch j pc = some (i, len, r, v)) (hp : pstep (mret j) pc i len r v ls (.long y :: .int x :: .ref a :: st) h = plastore pc' ls (.long y :: .int x :: .ref a :: st) h) : Wp d j pc ls (.long y :: .int x :: .ref a :: st) h Q = lsP (h.2 a) a x y (fun c => Wp d j pc' ls st (hset h a c) Q) := by
  apply propext
  rw [Wp_step hf, hp]
  simp only [plastore, harr]
  cases ho : h.2 a with
  | none => simp [lsP, NxP]
  | some c =>
    rcases c with ⟨k, n, f | f | f | f | f⟩ | c
    · simp [lsP, NxP]
    · by_cases hk : k = 1
      · subst hk
        simp only [lsP]
        split <;> simp [NxP, pgo]
      · simp [lsP, NxP, hk]
    all_goals simp [lsP, NxP]
theorem W_qst {a b : Nat} {x : Int32} (hf : fetch j pc = some (i, len, r, v)) (hp : pstep (mret j) pc i len r v ls (.ref b :: .int x :: .ref a :: st) h = pqastore pc' ls (.ref b :: .int x :: .ref a :: st) h r) : Wp d j pc ls (.ref b :: .int x :: .ref a :: st) h Q = qsP (h.2 a) (h.2 b) a b x (fun c => Wp d j pc' ls st (hset h a c) Q) := by
  apply propext
  rw [Wp_step hf, hp]
  simp only [pqastore, harr, hobj]
  cases ho : h.2 a with
  | none => simp [qsP, NxP]
  | some c =>
    rcases c with ⟨k, n, f | f | f | f | f⟩ | c
    case inl.inr.inr.inr.inr =>
      cases hb : h.2 b with
      | none => simp [qsP, NxP]
      | some c2 =>
        rcases c2 with c2 | ⟨ci, fs⟩
        · simp [qsP, NxP]
        · simp only [qsP]
          split <;> simp [NxP, pgo]
    all_goals (cases hb : h.2 b <;> simp [qsP, NxP])
theorem W_cpy {a b : Nat} {sp dp n : Int32} (hf : fetch j pc = some (i, len, r, v)) (hps : psum st ≤ 8) (hp : pstep (mret j) pc i len r v ls (.int n :: .int dp :: .ref a :: .int sp :: .ref b :: st) h = pcopy pc' ls (.int n :: .int dp :: .ref a :: .int sp :: .ref b :: st) h) : Wp d j pc ls (.int n :: .int dp :: .ref a :: .int sp :: .ref b :: st) h Q = cpP (h.2 b) (h.2 a) b a sp dp n (fun c => Wp d j pc' ls st (hset h a c) Q) := by
  apply propext
  rw [Wp_step hf, hp]
  simp only [pcopy, harr]
  cases hb : h.2 b with
  | none => simp [cpP, NxP]
  | some c =>
    rcases c with ⟨k, n0, f | f | f | f | f⟩ | c
    case inl.inl =>
      cases ho : h.2 a with
      | none => cases k <;> simp [cpP, NxP]
      | some c2 =>
        rcases c2 with ⟨k2, n1, g | g | g | g | g⟩ | c2
        case inl.inl =>
          cases k with
          | zero =>
            cases k2 with
            | zero =>
              simp only [cpP]
              by_cases hc : 300 ≤ a ∧ 300 ≤ b ∧ ¬ sp < 0 ∧ ¬ dp < 0 ∧ ¬ n < 0 ∧ sp.toNatClampNeg + n.toNatClampNeg ≤ n0 ∧ dp.toNatClampNeg + n.toNatClampNeg ≤ n1
              · rw [if_pos hc, if_pos ⟨hc.1, hc.2.1, hc.2.2.1, hc.2.2.2.1, hc.2.2.2.2.1, hc.2.2.2.2.2.1, hc.2.2.2.2.2.2, hps⟩]
                simp [NxP, pgo]
              · rw [if_neg hc, if_neg (fun q => hc ⟨q.1, q.2.1, q.2.2.1, q.2.2.2.1, q.2.2.2.2.1, q.2.2.2.2.2.1, q.2.2.2.2.2.2.1⟩)]
                simp [NxP]
            | succ k2 => simp [cpP, NxP]
          | succ k => simp [cpP, NxP]
        all_goals (cases k <;> simp [cpP, NxP])
    all_goals simp [cpP, NxP]
theorem W_fin {o : PO} (hf : fetch j pc = some (i, len, r, v)) (hs : pstep (mret j) pc i len r v ls st h = some (.inr (.inl o))) : Wp d j pc ls st h Q = Q o := by
  apply propext
  rw [Wp_step hf, hs]
  rfl
theorem W_zret {x : Int32} (hf : fetch j pc = some (.ireturn, len, r, v)) (hr : mret j = some .boolean) : Wp d j pc ls [.int x] h Q = (if narrow .boolean (.int x) = .int x then Q (.inl (some (.int x)), h) else False) := by
  apply propext
  rw [Wp_step hf]
  simp only [pstep, hr]
  split
  · rfl
  · rfl
/-- a call of a method that doesn't throw, or whose throw leaves this one -/
theorem W_call {j' : Nat} {a : List Value} (hf : fetch j pc = some (i, len, r, v)) (hm : mhs j = []) (hs : pstep (mret j) pc i len r v ls st h = some (.inr (.inr (j', a, ls', st', h')))) : Wp d j pc ls st h Q = Cp d j' a h' (fun o => cK o (fun w h2 => Wp d j (pc + 3) ls' (w.toList ++ st') h2 Q) (fun E h2 => if isV i = true then Q (.inr E, h2) else False)) := by
  apply propext
  rw [Wp_step hf, hs]
  have e : (fun o : PO => match o with
    | (.inl w, h2) => Wp d j (pc + 3) ls' (w.toList ++ st') h2 Q
    | (.inr E, h2) => match isV i, mhs j with
      | false, _ => False
      | true, [] => Q (.inr E, h2)
      | true, q :: t => match hfind (q :: t) pc E with
        | none => False
        | some hp => Wp d j hp ls' [.ref 299] h2 Q) = (fun o => cK o (fun w h2 => Wp d j (pc + 3) ls' (w.toList ++ st') h2 Q) (fun E h2 => if isV i = true then Q (.inr E, h2) else False)) := by
    funext o
    obtain ⟨o1, h2⟩ := o
    rcases o1 with w | E
    · rfl
    · simp only [cK, hm]
      cases isV i <;> rfl
  exact iff_of_eq (congrArg (Cp d j' a h') e)
/-- a call in a method with a table -/
theorem W_callH {j' : Nat} {a : List Value} {q : Nat × Nat × Nat × Nat × String} {t : List (Nat × Nat × Nat × Nat × String)} (hf : fetch j pc = some (i, len, r, v)) (hm : mhs j = q :: t) (hv : isV i = true) (hs : pstep (mret j) pc i len r v ls st h = some (.inr (.inr (j', a, ls', st', h')))) : Wp d j pc ls st h Q = Cp d j' a h' (fun o => cK o (fun w h2 => Wp d j (pc + 3) ls' (w.toList ++ st') h2 Q) (fun E h2 => oP (hfind (q :: t) pc E) (fun hp => Wp d j hp ls' [.ref 299] h2 Q))) := by
  apply propext
  rw [Wp_step hf, hs]
  have e : (fun o : PO => match o with
    | (.inl w, h2) => Wp d j (pc + 3) ls' (w.toList ++ st') h2 Q
    | (.inr E, h2) => match isV i, mhs j with
      | false, _ => False
      | true, [] => Q (.inr E, h2)
      | true, q :: t => match hfind (q :: t) pc E with
        | none => False
        | some hp => Wp d j hp ls' [.ref 299] h2 Q) = (fun o => cK o (fun w h2 => Wp d j (pc + 3) ls' (w.toList ++ st') h2 Q) (fun E h2 => oP (hfind (q :: t) pc E) (fun hp => Wp d j hp ls' [.ref 299] h2 Q))) := by
    funext o
    obtain ⟨o1, h2⟩ := o
    rcases o1 with w | E
    · rfl
    · simp only [cK, hm, hv]
      cases hfind (q :: t) pc E <;> rfl
  exact iff_of_eq (congrArg (Cp d j' a h') e)
/-- the same, to an object -/
theorem W_callV {j' n c1 b : Nat} {r' : List Nat} {a s0 : List Value} {K : PO → Prop} (hf : fetch j pc = some (.invokevirtual len, 3, j' :: n :: (c1 + 1) :: r', v)) (hn : n ≤ s0.length) (hps : psum (s0.drop n) ≤ 8) (hta : (s0.take n).reverse = .ref b :: a)
    (hK : (∃ fs, h.2 b = some (.inr (c1, fs))) → Wp d j pc ls s0 h Q = Cp d j' (.ref b :: a) h K) : Wp d j pc ls s0 h Q = rP (h.2 b) c1 (Cp d j' (.ref b :: a) h K) := by
  have hno : pcall ls s0 h (j' :: n :: (c1 + 1) :: r') = none → Wp d j pc ls s0 h Q = False := by
    intro hz
    apply propext
    rw [Wp_step hf]
    simp only [pstep, hz]
    rfl
  cases ho : h.2 b with
  | none => exact hno (by simp only [pcall, hta, hobj, ho, if_pos (show n ≤ s0.length ∧ psum (s0.drop n) ≤ 8 from ⟨hn, hps⟩)])
  | some c =>
    rcases c with c | ⟨c, fs⟩
    · exact hno (by simp only [pcall, hta, hobj, ho, if_pos (show n ≤ s0.length ∧ psum (s0.drop n) ≤ 8 from ⟨hn, hps⟩)])
    · by_cases hc : c = c1
      · subst hc
        rw [rP_mk]
        exact hK ⟨fs, ho⟩
      · simp only [rP, if_neg hc]
        exact hno (by simp only [pcall, hta, hobj, ho, if_pos (show n ≤ s0.length ∧ psum (s0.drop n) ≤ 8 from ⟨hn, hps⟩), if_neg hc])
end WROWS
