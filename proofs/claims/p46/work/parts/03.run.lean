def pint2 (pc : Nat) (ls : PL) (st : List Value) (h : PH) (f : Int32 → Int32 → Option Int32) : Option PN := match st with
  | .int y :: .int x :: t => (match f x y with
    | some z => pgo pc ls (.int z :: t) h
    | none => none)
  | _ => none
def plong2 (pc : Nat) (ls : PL) (st : List Value) (h : PH) (f : Int64 → Int64 → Int64) : Option PN := match st with
  | .long y :: .long x :: t => pgo pc ls (.long (f x y) :: t) h
  | _ => none
def pint1 (pc : Nat) (ls : PL) (st : List Value) (h : PH) (f : Int32 → Value) : Option PN := match st with
  | .int x :: t => pgo pc ls (f x :: t) h
  | _ => none
/-- a load: what kind the value has to be is asked by k -/
def pload (pc : Nat) (ls : PL) (st : List Value) (h : PH) (i : Nat) (k : Value → Bool) : Option PN := match psload ls i with
  | some v => if k v = true then pgo pc ls (v :: st) h else none
  | none => none
def isI (v : Value) : Bool := match v with
  | .int _ => true
  | _ => false
def isL (v : Value) : Bool := match v with
  | .long _ => true
  | _ => false
def isD (v : Value) : Bool := match v with
  | .double _ => true
  | _ => false
def pstore1 (pc : Nat) (ls : PL) (st : List Value) (h : PH) (i : Nat) (k : Value → Bool) : Option PN := match st with
  | v :: t => if k v = true ∧ i < ls.length then pgo pc (pst1 ls i v) t h else none
  | [] => none
def pstore2 (pc : Nat) (ls : PL) (st : List Value) (h : PH) (i : Nat) (k : Value → Bool) : Option PN := match st with
  | v :: t => if k v = true ∧ i + 1 < ls.length then pgo pc (pst2 ls i v) t h else none
  | [] => none
def kb (b : Bool) (k : Nat) : Bool := if b = true then decide (k = 2) else decide (k = 0)
def paload (b : Bool) (pc : Nat) (ls : PL) (st : List Value) (h : PH) : Option PN := match st with
  | .int i :: .ref a :: t => (match harr h a with
    | some (k, n, .inl f) => if kb b k = true ∧ inB i n = true then pgo pc ls (.int (f i.toNatClampNeg) :: t) h else none
    | _ => none)
  | _ => none
def plaload (pc : Nat) (ls : PL) (st : List Value) (h : PH) : Option PN := match st with
  | .int i :: .ref a :: t => (match harr h a with
    | some (1, n, .inr (.inl f)) => if inB i n = true then pgo pc ls (.long (f i.toNatClampNeg) :: t) h else none
    | _ => none)
  | _ => none
def pqaload (pc : Nat) (ls : PL) (st : List Value) (h : PH) : Option PN := match st with
  | .int i :: .ref a :: t => (match harr h a with
    | some (k, n, .inr (.inr (.inr (.inr f)))) => if 3 ≤ k ∧ k ≤ 8 ∧ inB i n = true then pgo pc ls (va_rf (f i.toNatClampNeg) :: t) h else none
    | _ => none)
  | _ => none
def pastore (b : Bool) (pc : Nat) (ls : PL) (st : List Value) (h : PH) : Option PN := match st with
  | .int x :: .int i :: .ref a :: t => (match harr h a with
    | some (k, n, .inl f) => if 300 ≤ a ∧ kb b k = true ∧ inB i n = true then pgo pc ls t (hset h a (.inl (k, n, .inl (upd f i.toNatClampNeg (vp_nar (tyOf k) x))))) else none
    | _ => none)
  | _ => none
def plastore (pc : Nat) (ls : PL) (st : List Value) (h : PH) : Option PN := match st with
  | .long x :: .int i :: .ref a :: t => (match harr h a with
    | some (1, n, .inr (.inl f)) => if 300 ≤ a ∧ inB i n = true then pgo pc ls t (hset h a (.inl (1, n, .inr (.inl (vp_updL f i.toNatClampNeg x))))) else none
    | _ => none)
  | _ => none
/-- what may lie in a row of the kind k -/
def okRef (h : PH) (k v : Nat) : Bool := match h.2 v with
  | some (.inr (ci, _)) => decide (300 ≤ v ∧ (k = 4 ∧ ci = 3 ∨ k = 5 ∧ ci = 4 ∨ k = 7 ∧ ci = 10 ∨ k = 8 ∧ ci = 11) ∨ v < 300 ∧ k = 6 ∧ ci = 13)
  | some (.inl (t, _)) => decide (300 ≤ v ∧ k = 3 ∧ t = 0)
  | none => false
/-- a reference put into a row of references -/
def pqastore (pc : Nat) (ls : PL) (st : List Value) (h : PH) (r : List Nat) : Option PN := match st with
  | .ref v :: .int i :: .ref a :: t => (match harr h a with
    | some (k, n, .inr (.inr (.inr (.inr f)))) => if 300 ≤ a ∧ okRef h k v = true ∧ inB i n = true then pgo pc ls t (hset h a (.inl (k, n, .inr (.inr (.inr (.inr (va_up f i.toNatClampNeg (some v)))))))) else none
    | _ => none)
  | _ => none
def pgetf (pc : Nat) (ls : PL) (st : List Value) (h : PH) (r : List Nat) : Option PN := match r, st with
  | ci :: k :: _, .ref a :: t => (match hobj h a with
    | some (c, fs) => if c = ci ∨ ci = 0 ∧ c = 13 then (match fs[k]? with
      | some v => pgo pc ls (v :: t) h
      | none => none) else none
    | none => none)
  | _, _ => none
def pputf (pc : Nat) (ls : PL) (st : List Value) (h : PH) (r : List Nat) (ty : FieldType) : Option PN := match r, st with
  | ci :: k :: _, v :: .ref a :: t => (match hobj h a with
    | some (c, fs) => if c = ci ∧ 300 ≤ a ∧ k < fs.length ∧ fits ty v = true ∧ narrow ty v = v then pgo pc ls t (hset h a (.inr (c, fs.set k v))) else none
    | none => none)
  | _, _ => none
def palen (pc : Nat) (ls : PL) (st : List Value) (h : PH) : Option PN := match st with
  | .ref a :: t => (match harr h a with
    | some (_, x) => pgo pc ls (.int (Int32.ofNat x.1) :: t) h
    | none => none)
  | _ => none
def pnewa (pc : Nat) (ls : PL) (st : List Value) (h : PH) (r : List Nat) : Option PN := match r, st with
  | k :: _, .int n :: t => if ¬ n < 0 ∧ n.toNatClampNeg ≤ 60000 then pgo pc ls (.ref h.1.1 :: t) (hnew h n.toNatClampNeg (.inl (k, arr0 k n.toNatClampNeg))) else none
  | _, _ => none
/-- the fields of a new object of a kind -/
def pdef (ci : Nat) : List Value := match vwCl[ci]? with
  | some (_, T, N) => (List.range N).map (fun k => match parseFieldDescriptor (T k).2.2.1 with
    | some ty => defaultValue ty
    | none => .null)
  | none => []
def exN (k : Nat) : String := match k with
  | 0 => "java/lang/IllegalStateException"
  | 1 => "java/lang/IllegalArgumentException"
  | _ => "java/lang/IndexOutOfBoundsException"
/-- a new object; a kind from 100 on: the five instructions 'throw new X(text)' at once -/
def pnewo (pc : Nat) (ls : PL) (st : List Value) (h : PH) (r : List Nat) (fs : List Value) : Option PN := match r with
  | ci :: _ => if 100 ≤ ci then (if psum st ≤ 8 then some (.inr (.inl (.inr (exN (ci - 100)), hthr h))) else none) else pgo pc ls (.ref h.1.1 :: st) (hnew h fs.length (.inr (ci, fs)))
  | _ => none
/-- a call: the callee's number, how many values it takes; of a virtual one the kind that the receiver has to be (plus one) -/
def pcall (ls : PL) (st : List Value) (h : PH) (r : List Nat) : Option PN := match r with
  | j :: n :: cv :: _ => if n ≤ st.length ∧ psum (st.drop n) ≤ 8 then
      (match cv with
      | 0 => some (.inr (.inr (j, (st.take n).reverse, ls, st.drop n, h)))
      | c1 + 1 => (match (st.take n).reverse with
        | .ref a :: _ => (match hobj h a with
          | some (c, _) => if c = c1 ∨ c1 = 0 ∧ c = 13 then some (.inr (.inr (j, (st.take n).reverse, ls, st.drop n, h))) else none
          | none => none)
        | _ => none))
      else none
  | _ => none
/-- a constructor's call is to an object -/
def pcallI (x : Option PN) : Option PN := match x with
  | some (.inr (.inr (j, .ref k :: t, l, s, h))) => if k = 201 then none else some (.inr (.inr (j, .ref k :: t, l, s, h)))
  | _ => none
def fitB (f : Nat → Int32) (p : Nat) : Nat → Bool
  | 0 => true
  | n + 1 => fits .byte (.int (f (p + n))) && fitB f p n
/-- the row copy of the library, of rows of ints or bytes, in bounds -/
def pcopy (pc : Nat) (ls : PL) (st : List Value) (h : PH) : Option PN := match st with
  | .int n :: .int dp :: .ref a :: .int sp :: .ref b :: t => (match harr h b, harr h a with
    | some (k0, n0, .inl f), some (k1, n1, .inl g) => if 300 ≤ a ∧ (k0 = 0 ∧ k1 = 0 ∧ 300 ≤ b ∨ k0 = 2 ∧ k1 = 2 ∧ fitB f sp.toNatClampNeg n.toNatClampNeg = true) ∧ ¬ sp < 0 ∧ ¬ dp < 0 ∧ ¬ n < 0 ∧ sp.toNatClampNeg + n.toNatClampNeg ≤ n0 ∧ dp.toNatClampNeg + n.toNatClampNeg ≤ n1 ∧ psum t ≤ 8 then
        pgo pc ls t (hset h a (.inl (k1, n1, .inl (va_cpy f g sp.toNatClampNeg dp.toNatClampNeg n.toNatClampNeg)))) else none
    | _, _ => none)
  | _ => none
/-- Math.abs, max, min -/
def pmath (k pc : Nat) (ls : PL) (st : List Value) (h : PH) : Option PN := match k, st with
  | 0, .int x :: t => if psum t ≤ 8 then pgo pc ls (.int (if 0 ≤ x then x else 0 - x) :: t) h else none
  | 1, .int y :: .int x :: t => if psum t ≤ 8 then pgo pc ls (.int (if x < y then y else x) :: t) h else none
  | 2, .int y :: .int x :: t => if psum t ≤ 8 then pgo pc ls (.int (if y < x then y else x) :: t) h else none
  | _, _ => none
def pfin (v : Option Value) (h : PH) : Option PN := some (.inr (.inl (.inl v, h)))
def ptable (pc : Nat) (dflt lo hi : Int) (offs : Array Int) (x : Int32) : Nat := if x.toInt < lo ∨ hi < x.toInt then ptgt pc dflt else ptgt pc (offs.getD (x.toInt - lo).toNat 0)
/-- one instruction; rt: what the method answers, r and v: what the instruction's number in the pool stands for -/
def pstep (rt : Option FieldType) (pc : Nat) (i : Instr) (len : Nat) (r : List Nat) (v : Value) (ls : PL) (st : List Value) (h : PH) : Option PN := match i with
  | .iconst n => pgo (pc + len) ls (.int (Int32.ofInt n) :: st) h
  | .bipush n => pgo (pc + len) ls (.int (Int8.ofInt n).toInt32 :: st) h
  | .sipush n => pgo (pc + len) ls (.int (Int16.ofInt n).toInt32 :: st) h
  | .lconst n => pgo (pc + len) ls (.long (Int64.ofNat (n : Nat)) :: st) h
  | .dconst n => if n = 0 then pgo (pc + len) ls (.double FP.dconst0 :: st) h else none
  | .aconst_null => pgo (pc + len) ls (.null :: st) h
  | .ldc _ => pgo (pc + len) ls (v :: st) h
  | .ldc_w _ => pgo (pc + len) ls (v :: st) h
  | .ldc2_w _ => pgo (pc + len) ls (v :: st) h
  | .getstatic _ => pgo (pc + len) ls (v :: st) h
  | .iload_n k => pload (pc + len) ls st h k isI
  | .iload k => pload (pc + len) ls st h k isI
  | .lload_n k => pload (pc + len) ls st h k isL
  | .lload k => pload (pc + len) ls st h k isL
  | .dload_n k => pload (pc + len) ls st h k isD
  | .dload k => pload (pc + len) ls st h k isD
  | .aload_n k => pload (pc + len) ls st h k refV
  | .aload k => pload (pc + len) ls st h k refV
  | .istore_n k => pstore1 (pc + len) ls st h k isI
  | .istore k => pstore1 (pc + len) ls st h k isI
  | .astore_n k => pstore1 (pc + len) ls st h k refV
  | .astore k => pstore1 (pc + len) ls st h k refV
  | .lstore_n k => pstore2 (pc + len) ls st h k isL
  | .lstore k => pstore2 (pc + len) ls st h k isL
  | .dstore_n k => pstore2 (pc + len) ls st h k isD
  | .dstore k => pstore2 (pc + len) ls st h k isD
  | .iinc k n => (match psload ls k with
    | some (.int x) => if k < ls.length then pgo (pc + len) (pst1 ls k (.int (x + Int32.ofInt n))) st h else none
    | _ => none)
  | .iadd => pint2 (pc + len) ls st h (fun x y => some (x + y))
  | .isub => pint2 (pc + len) ls st h (fun x y => some (x - y))
  | .imul => pint2 (pc + len) ls st h (fun x y => some (x * y))
  | .idiv => pint2 (pc + len) ls st h (fun x y => if y = 0 then none else some (x / y))
  | .irem => pint2 (pc + len) ls st h (fun x y => if y = 0 then none else some (x - x / y * y))
  | .iand => pint2 (pc + len) ls st h (fun x y => some (x &&& y))
  | .ior => pint2 (pc + len) ls st h (fun x y => some (x ||| y))
  | .ishl => pint2 (pc + len) ls st h (fun x y => some (x <<< (y &&& 31)))
  | .ishr => pint2 (pc + len) ls st h (fun x y => some (x >>> (y &&& 31)))
  | .iushr => pint2 (pc + len) ls st h (fun x y => some (x.toUInt32 >>> (y.toUInt32 &&& Int32.toUInt32 31)).toInt32)
  | .ineg => pint1 (pc + len) ls st h (fun x => .int (-x))
  | .i2l => pint1 (pc + len) ls st h (fun x => .long x.toInt64)
  | .i2b => pint1 (pc + len) ls st h (fun x => .int x.toInt8.toInt32)
  | .i2c => pint1 (pc + len) ls st h (fun x => .int (x.toUInt32 % 65536).toInt32)
  | .i2d => pint1 (pc + len) ls st h (fun x => .double (FP.i2d x))
  | .l2i => (match st with
    | .long x :: t => pgo (pc + len) ls (.int x.toInt32 :: t) h
    | _ => none)
  | .ladd => plong2 (pc + len) ls st h (fun x y => x + y)
  | .lsub => plong2 (pc + len) ls st h (fun x y => x - y)
  | .lmul => plong2 (pc + len) ls st h (fun x y => x * y)
  | .lcmp => (match st with
    | .long y :: .long x :: t => pgo (pc + len) ls (.int (lg_cmp x y) :: t) h
    | _ => none)
  | .ddiv => (match st with
    | .double y :: .double x :: t => if (FP.ddiv x y) &&& 0x7fffffffffffffff ≤ 0x7ff0000000000000 then pgo (pc + len) ls (.double (FP.ddiv x y) :: t) h else none
    | _ => none)
  | .dcmp op => (match st with
    | .double y :: .double x :: t => pgo (pc + len) ls (.int (Op.cmpValue (FP.dcmp x y) op) :: t) h
    | _ => none)
  | .dup => (match st with
    | v :: t => if v.category = 1 then pgo (pc + len) ls (v :: v :: t) h else none
    | _ => none)
  | .dup2 => (match st with
    | v :: w :: t => if v.category = 1 ∧ w.category = 1 then pgo (pc + len) ls (v :: w :: v :: w :: t) h else none
    | _ => none)
  | .dup_x1 => (match st with
    | v :: w :: t => if v.category = 1 ∧ w.category = 1 then pgo (pc + len) ls (v :: w :: v :: t) h else none
    | _ => none)
  | .pop => (match st with
    | v :: t => if v.category = 1 then pgo (pc + len) ls t h else none
    | _ => none)
  | .ifCond c off => (match st with
    | .int x :: t => if icond c x 0 = true then pgo (ptgt pc off) ls t h else pgo (pc + len) ls t h
    | _ => none)
  | .if_icmp c off => (match st with
    | .int y :: .int x :: t => if icond c x y = true then pgo (ptgt pc off) ls t h else pgo (pc + len) ls t h
    | _ => none)
  | .goto off => pgo (ptgt pc off) ls st h
  | .ifnull off => (match st with
    | .null :: t => pgo (ptgt pc off) ls t h
    | .ref k :: t => if k = 201 then none else pgo (pc + len) ls t h
    | _ => none)
  | .ifnonnull off => (match st with
    | .null :: t => pgo (pc + len) ls t h
    | .ref k :: t => if k = 201 then none else pgo (ptgt pc off) ls t h
    | _ => none)
  | .tableswitch dflt lo hi offs => (match st with
    | .int x :: t => pgo (ptable pc dflt lo hi offs x) ls t h
    | _ => none)
  | .iaload => paload false (pc + len) ls st h
  | .baload => paload true (pc + len) ls st h
  | .laload => plaload (pc + len) ls st h
  | .aaload => pqaload (pc + len) ls st h
  | .iastore => pastore false (pc + len) ls st h
  | .bastore => pastore true (pc + len) ls st h
  | .lastore => plastore (pc + len) ls st h
  | .aastore => pqastore (pc + len) ls st h r
  | .arraylength => palen (pc + len) ls st h
  | .newarray _ => pnewa (pc + len) ls st h r
  | .anewarray _ => pnewa (pc + len) ls st h r
  | .getfield _ => pgetf (pc + len) ls st h r
  | .putfield _ => (match r with
    | ci :: k :: _ => (match (vwCl[ci]?).bind (fun q => parseFieldDescriptor (q.2.1 k).2.2.1) with
      | some ty => pputf (pc + len) ls st h r ty
      | none => none)
    | _ => none)
  | .new _ => pnewo (pc + len) ls st h r (pdef (r.getD 0 0))
  | .invokevirtual _ => pcall ls st h r
  | .invokestatic _ => (match r with
    | 9998 :: _ => pcopy (pc + len) ls st h
    | 9997 :: k :: _ => pmath k (pc + len) ls st h
    | _ => pcall ls st h r)
  | .invokespecial _ => (match r with
    | 9999 :: _ => (match st with
      | .ref k :: t => if psum t ≤ 8 ∧ k ≠ 201 then pgo (pc + len) ls t h else none
      | _ => none)
    | _ => pcallI (pcall ls st h r))
  | .ireturn => (match st with
    | [.int x] => (match rt with
      | some ty => if narrow ty (.int x) = .int x then pfin (some (.int x)) h else none
      | none => none)
    | _ => none)
  | .lreturn => (match st with
    | [.long x] => pfin (some (.long x)) h
    | _ => none)
  | .dreturn => (match st with
    | [.double x] => pfin (some (.double x)) h
    | _ => none)
  | .areturn => (match st with
    | [v] => if refV v = true then pfin (some v) h else none
    | _ => none)
  | .return_ => (match st with
    | [] => pfin none h
    | _ => none)
  | _ => none
