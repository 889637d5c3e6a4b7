/-! CALLS BY ROWS -/
def ftOf (ci k : Nat) : FieldType := match (vwCl[ci]?).bind (fun q => parseFieldDescriptor (q.2.1 k).2.2.1) with
  | some ty => ty
  | none => .int
section WINV
variable {d j pc j' n : Nat} {i : Instr} {r' : List Nat} {v : Value} {ls : PL} {s0 st a : List Value} {h : PH} {Q : PO → Prop}
theorem W_inv {cv : Nat} (hf : fetch j pc = some (i, 3, j' :: n :: cv :: r', v)) (hs : pstep (mret j) pc i 3 (j' :: n :: cv :: r') v ls s0 h = some (.inr (.inr (j', a, ls, st, h)))) : Wp d j pc ls s0 h Q = Cp d j' a h (fun o => cK o (fun w h2 => Wp d j (pc + 3) ls (w.toList ++ st) h2 Q) (fun E h2 => if isV i = true then (if mhs j = [] then Q (.inr E, h2) else oP (hfind (mhs j) pc E) (fun hp => Wp d j hp ls [.ref 299] h2 Q)) else False)) := by
  apply propext
  rw [Wp_step hf, hs]
  have e : (fun o : PO => match o with
    | (.inl w, h2) => Wp d j (pc + 3) ls (w.toList ++ st) h2 Q
    | (.inr E, h2) => match isV i, mhs j with
      | false, _ => False
      | true, [] => Q (.inr E, h2)
      | true, q :: t => match hfind (q :: t) pc E with
        | none => False
        | some hp => Wp d j hp ls [.ref 299] h2 Q) = (fun o => cK o (fun w h2 => Wp d j (pc + 3) ls (w.toList ++ st) h2 Q) (fun E h2 => if isV i = true then (if mhs j = [] then Q (.inr E, h2) else oP (hfind (mhs j) pc E) (fun hp => Wp d j hp ls [.ref 299] h2 Q)) else False)) := by
    funext o
    obtain ⟨o1, h2⟩ := o
    rcases o1 with w | E
    · rfl
    · simp only [cK]
      cases isV i with
      | false => rfl
      | true =>
        cases mhs j with
        | nil => rfl
        | cons q t =>
          simp only [if_true, if_neg (List.cons_ne_nil q t)]
          cases hfind (q :: t) pc E <;> rfl
  exact iff_of_eq (congrArg (Cp d j' a h) e)
theorem pcall_s (hn : n ≤ s0.length) (hta : (s0.take n).reverse = a) (hdr : s0.drop n = st) (hps : psum st ≤ 8) : pcall ls s0 h (j' :: n :: 0 :: r') = some (.inr (.inr (j', a, ls, st, h))) := by
  subst hta hdr
  simp only [pcall, if_pos (show n ≤ s0.length ∧ psum (s0.drop n) ≤ 8 from ⟨hn, hps⟩)]
theorem W_invS (hf : fetch j pc = some (i, 3, j' :: n :: 0 :: r', v)) (hv : isV i = false) (hp : pstep (mret j) pc i 3 (j' :: n :: 0 :: r') v ls s0 h = pcall ls s0 h (j' :: n :: 0 :: r')) (hn : n ≤ s0.length) (hta : (s0.take n).reverse = a) (hdr : s0.drop n = st) (hps : psum st ≤ 8) : Wp d j pc ls s0 h Q = Cp d j' a h (fun o => cK o (fun w h2 => Wp d j (pc + 3) ls (w.toList ++ st) h2 Q) (fun _ _ => False)) := by
  rw [W_inv hf (hp.trans (pcall_s hn hta hdr hps)), hv]
  rfl
theorem W_invI {b : Nat} {a' : List Value} (hf : fetch j pc = some (i, 3, j' :: n :: 0 :: r', v)) (hv : isV i = false) (hp : pstep (mret j) pc i 3 (j' :: n :: 0 :: r') v ls s0 h = pcallI (pcall ls s0 h (j' :: n :: 0 :: r'))) (hn : n ≤ s0.length) (hta : (s0.take n).reverse = .ref b :: a') (hdr : s0.drop n = st) (hps : psum st ≤ 8) (hb : b ≠ 201) : Wp d j pc ls s0 h Q = Cp d j' (.ref b :: a') h (fun o => cK o (fun w h2 => Wp d j (pc + 3) ls (w.toList ++ st) h2 Q) (fun _ _ => False)) := by
  rw [W_inv (st := st) (a := .ref b :: a') hf (by rw [hp, pcall_s hn hta hdr hps]; simp only [pcallI, if_neg hb]), hv]
  rfl
theorem W_invV {b c1 : Nat} {a' : List Value} (hf : fetch j pc = some (i, 3, j' :: n :: (c1 + 1) :: r', v)) (hv : isV i = true) (hp : pstep (mret j) pc i 3 (j' :: n :: (c1 + 1) :: r') v ls s0 h = pcall ls s0 h (j' :: n :: (c1 + 1) :: r')) (hn : n ≤ s0.length) (hta : (s0.take n).reverse = .ref b :: a') (hdr : s0.drop n = st) (hps : psum st ≤ 8) : Wp d j pc ls s0 h Q = rP (h.2 b) c1 (Cp d j' (.ref b :: a') h (fun o => cK o (fun w h2 => Wp d j (pc + 3) ls (w.toList ++ st) h2 Q) (fun E h2 => if mhs j = [] then Q (.inr E, h2) else oP (hfind (mhs j) pc E) (fun hp => Wp d j hp ls [.ref 299] h2 Q)))) := by
  subst hdr
  have hq : (n ≤ s0.length ∧ psum (s0.drop n) ≤ 8) := ⟨hn, hps⟩
  have hno : pcall ls s0 h (j' :: n :: (c1 + 1) :: r') = none → Wp d j pc ls s0 h Q = False := by
    intro hz
    apply propext
    rw [Wp_step hf, hp, hz]
    rfl
  cases ho : h.2 b with
  | none => exact hno (by simp only [pcall, hta, hobj, ho, if_pos hq])
  | some c =>
    rcases c with c | ⟨c, fs⟩
    · exact hno (by simp only [pcall, hta, hobj, ho, if_pos hq])
    · by_cases hc : c = c1
      · subst hc
        rw [rP_mk, W_inv (st := s0.drop n) (a := .ref b :: a') hf (by rw [hp]; simp only [pcall, hta, hobj, ho, if_pos hq, if_true]), hv]
        rfl
      · simp only [rP, if_neg hc]
        exact hno (by simp only [pcall, hta, hobj, ho, if_pos hq, if_neg hc])
theorem W_nret {x : Int32} {len : Nat} {ty : FieldType} (hf : fetch j pc = some (.ireturn, len, r', v)) (hr : mret j = some ty) : Wp d j pc ls [.int x] h Q = (if narrow ty (.int x) = .int x then Q (.inl (some (.int x)), h) else False) := by
  apply propext
  rw [Wp_step hf]
  simp only [pstep, hr]
  split
  · rfl
  · rfl
theorem W_iret {x : Int32} {len : Nat} (hf : fetch j pc = some (.ireturn, len, r', v)) (hr : mret j = some .int) : Wp d j pc ls [.int x] h Q = Q (.inl (some (.int x)), h) := (W_nret hf hr).trans (if_pos rfl)
end WINV
