/-! THE PLAIN MEANING OF THE BYTECODE: a small machine over numbered cells. A cell: a row (place of its kind, length, contents) or an object (place of its kind, fields). A reference is the cell's number; the numbers below 300 are read alone (the script, texts), 299 is a reference of which nothing is known, 201 one that may be null. -/
abbrev PC : Type := (Nat × vp_A) ⊕ (Nat × List Value)
abbrev PH : Type := (Nat × Nat × Nat) × (Nat → Option PC)
abbrev PO : Type := (Option Value ⊕ String) × PH
abbrev PL : Type := List (Option Value)
abbrev PN : Type := (Nat × PL × List Value × PH) ⊕ (PO ⊕ (Nat × List Value × PL × List Value × PH))
def hobj (h : PH) (a : Nat) : Option (Nat × List Value) := match h.2 a with
  | some (.inr o) => some o
  | _ => none
def harr (h : PH) (a : Nat) : Option (Nat × vp_A) := match h.2 a with
  | some (.inl o) => some o
  | _ => none
def hset (h : PH) (a : Nat) (c : PC) : PH := (h.1, fun x => if x = a then some c else h.2 x)
def hnew (h : PH) (n : Nat) (c : PC) : PH := ((h.1.1 + 1, h.1.2.1 + 1, h.1.2.2 + n), fun x => if x = h.1.1 then some c else h.2 x)
def hthr (h : PH) : PH := ((h.1.1, h.1.2.1 + 1, h.1.2.2 + 6), h.2)
def inB (i : Int32) (n : Nat) : Bool := decide (¬ (i < 0 ∨ n ≤ i.toNatClampNeg))
/-- a store into a place: a long whose second half it hits is gone -/
def pkill (ls : PL) (i : Nat) : PL := match i with
  | 0 => ls
  | k + 1 => match ls[k]? with
    | some (some v) => if v.category = 2 then ls.set k none else ls
    | _ => ls
def pst1 (ls : PL) (i : Nat) (v : Value) : PL := (pkill ls i).set i (some v)
def pst2 (ls : PL) (i : Nat) (v : Value) : PL := ((pkill ls i).set i (some v)).set (i + 1) none
def pent (n : Nat) (a : List Value) : PL := let l := a.flatMap fun v => if v.category = 2 then [some v, none] else [some v]
  l ++ List.replicate (n - l.length) none
def refV (v : Value) : Bool := match v with
  | .ref _ => true
  | .null => true
  | _ => false
def tyOf (t : Nat) : FieldType := match t with
  | 0 => .int
  | 1 => .long
  | 2 => .byte
  | 3 => .array .int
  | 4 => .object "LampLighters$Lamp"
  | 5 => .object "LampLighters$Lighter"
  | 6 => .object "java/lang/String"
  | 7 => .object "LampLightersLaw$Act"
  | _ => .object "LampLightersLaw$Man"
/-- a new row of a kind -/
def arr0 (t : Nat) (n : Nat) : vp_A := match t with
  | 1 => (n, .inr (.inl (fun _ => 0)))
  | 3 => (n, .inr (.inr (.inr (.inr (fun _ => none)))))
  | 4 => (n, .inr (.inr (.inr (.inr (fun _ => none)))))
  | 5 => (n, .inr (.inr (.inr (.inr (fun _ => none)))))
  | 6 => (n, .inr (.inr (.inr (.inr (fun _ => none)))))
  | 7 => (n, .inr (.inr (.inr (.inr (fun _ => none)))))
  | 8 => (n, .inr (.inr (.inr (.inr (fun _ => none)))))
  | _ => (n, .inl (fun _ => 0))
def icond (c : ClassFile.Cond) (x y : Int32) : Bool := match c with
  | .eq => decide (x = y)
  | .ne => decide (x ≠ y)
  | .lt => decide (x < y)
  | .ge => decide (y ≤ x)
  | .gt => decide (y < x)
  | .le => decide (x ≤ y)
def ptgt (pc : Nat) (off : Int) : Nat := ((pc : Int) + off).toNat
def pgo (pc : Nat) (ls : PL) (st : List Value) (h : PH) : Option PN := some (.inl (pc, ls, st, h))
def psum (st : List Value) : Nat := (st.map fun v => v.category).sum
def psload (ls : PL) (i : Nat) : Option Value := match ls[i]? with
  | some (some v) => some v
  | _ => none
