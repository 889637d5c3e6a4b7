
/-! WHAT IS ASKED OF THE TABLES for each instruction, as a program that the kernel runs -/
def lwt (k : Nat) : List Jvm.Cond := match k with
  | 0 => k2_sels lw_privs
  | 1 => tables_1_1
  | 2 => tables_1_2
  | 3 => tables_1_3
  | 4 => tables_1_4
  | 5 => tables_1_5
  | 6 => tables_1_6
  | 7 => tables_1_7
  | _ => lw_sel2
theorem lwt_in {k : Nat} {w : Jvm.Cond} (h : w ∈ lwt k) : w ∈ lw_tbl := by
  simp only [lw_tbl, tables_1, List.mem_append]
  unfold lwt at h
  split at h <;> simp [h]
def wAt (n : Nat) (w : Jvm.Cond) : Bool := decide ((lwt (n / 1000))[n % 1000]? = some w) && (k2_isCode w || goodWord w)
def wBt (n : Nat) (w : Jvm.Cond) : Bool := decide ((lwt (n / 1000))[n % 1000]? = some w) && isNw w
theorem wAt_in {n : Nat} {w : Jvm.Cond} (h : wAt n w = true) : w ∈ lwG := by
  simp only [wAt, Bool.and_eq_true, decide_eq_true_eq] at h
  exact List.mem_filter.mpr ⟨lwt_in (List.mem_of_getElem? h.1), h.2⟩
theorem wBt_in {n : Nat} {w : Jvm.Cond} (h : wBt n w = true) : w ∈ lwB := by
  simp only [wBt, Bool.and_eq_true, decide_eq_true_eq] at h
  exact List.mem_filter.mpr ⟨lwt_in (List.mem_of_getElem? h.1), h.2⟩
def ilen (i : Instr) (len : Nat) : Bool := match i with
  | .bipush _ | .ldc _ | .iload _ | .lload _ | .dload _ | .aload _ | .istore _ | .lstore _ | .dstore _ | .astore _ | .newarray _ => decide (len = 2)
  | .sipush _ | .ldc2_w _ | .getstatic _ | .iinc _ _ | .ifCond _ _ | .if_icmp _ _ | .goto _ | .ifnull _ | .ifnonnull _ | .anewarray _ | .getfield _ | .putfield _ | .new _ | .invokevirtual _ | .invokestatic _ | .invokespecial _ => decide (len = 3)
  | .tableswitch _ _ _ _ => true
  | _ => decide (len = 1)
def okF (own : String) (ix w k : Nat) (F : u_T) (nest : Nat) : Bool := match nest with
  | 0 => wAt w (.fieldLink own ix (F k).1 (F k).2.1 (F k).2.2.1)
  | _ => wBt w (.fieldLinkNest own ix (F k).1 (F k).2.1 (F k).2.2.1 (hostN 1)) || wBt w (.fieldLinkNest own ix (F k).1 (F k).2.1 (F k).2.2.1 (hostN 2))
def okGet (own : String) (ix : Nat) (r : List Nat) : Bool := match r with
  | ci :: k :: w :: nest :: _ => (match vwCl[ci]? with
      | some (_, F, N) => decide (k < N) && okF own ix w k F nest && (decide (ci ≠ 0) || (match k with
        | 0 => wAt w (.fieldLink own ix "java/lang/String" "value" "[B")
        | 1 => wAt w (.fieldLink own ix "java/lang/String" "coder" "B")
        | _ => false))
      | none => false)
  | _ => false
def okPut (own : String) (ini : Bool) (ix : Nat) (r : List Nat) : Bool := match r with
  | ci :: k :: w :: nest :: _ => (match vwCl[ci]? with
      | some (_, F, N) => decide (k < N) && okF own ix w k F nest && (!(F k).2.2.2 || (ini && decide ((F k).1 = own) && decide (nest = 0)))
      | none => false)
  | _ => false
def okNew (own : String) (ix : Nat) (r : List Nat) : Bool := match r with
  | ci :: w1 :: w2 :: w3 :: _ => decide (ci < 13) && (match vwCl[ci]? with
      | some (C, _, N) => wAt w1 (.classLink own ix C) && wAt w2 (.instantiable C N) && wAt w3 (.initialized C)
      | none => false)
  | _ => false
def okLdc (own : String) (ix : Nat) (v : Value) : Bool := match v with
  | .ref k => decide (k < 299) && STR.any (fun q => decide (q.1 = own) && decide (q.2.1 = ix) && decide (q.2.2.2 = k))
  | _ => false
def okLdcI (own : String) (ix : Nat) (r : List Nat) (v : Value) : Bool := match r, v with
  | w :: _, .int x => wAt w (.constant own ix x)
  | _, _ => false
def okLdc2 (own : String) (ix : Nat) (r : List Nat) (v : Value) : Bool := match r, v with
  | w :: _, .long x => wAt w (.constantLong own ix x)
  | _, _ => false
def okSta (own : String) (ix : Nat) (r : List Nat) (v : Value) : Bool := match r with
  | w :: _ => STT.any (fun q => decide (q.2.2.2 = v) && wAt w (.fieldLink own ix q.1 q.2.1 q.2.2.1))
  | _ => false
def okNewa (a : ArrayType) (r : List Nat) : Bool := match r with
  | t :: w :: _ => decide (t < 3) && decide (a = atOf t) && wAt w (.arrayClass (tyOf t))
  | _ => false
def okANewa (own : String) (ix : Nat) (r : List Nat) : Bool := match r with
  | t :: w :: _ => (decide (t = 3) && wAt w (.classLink own ix (FieldType.array .int).toString)) || (decide (t = 4) && wAt w (.classLink own ix "LampLighters$Lamp")) || (decide (t = 5) && wAt w (.classLink own ix "LampLighters$Lighter")) || (decide (t = 6) && wAt w (.classLink own ix "java/lang/String")) || (decide (t = 7) && wAt w (.classLink own ix "LampLightersLaw$Act")) || (decide (t = 8) && wAt w (.classLink own ix "LampLightersLaw$Man"))
  | _ => false
def okJmp (pc : Nat) (off : Int) : Bool := decide (0 ≤ (pc : Int) + off)
def okTab (pc : Nat) (dflt lo hi : Int) (offs : Array Int) : Bool := okJmp pc dflt && offs.toList.all (okJmp pc) && decide ((hi - lo).toNat < offs.size)
def okObj (own : String) (ix : Nat) (r : List Nat) : Bool := match r with
  | _ :: w1 :: w2 :: w3 :: _ => wAt w1 (.methodLink own ix Lib.objectInit) && wAt w2 (.instanceMethod Lib.objectInit) && wAt w3 (.code Lib.objectInit ⟨#[0xb1]⟩ 1 none)
  | _ => false
def okCpy (own : String) (ix : Nat) (r : List Nat) : Bool := match r with
  | _ :: w1 :: w2 :: w3 :: w4 :: _ => wAt w1 (.methodLink own ix arraycopyName) && wAt w2 (.native arraycopyName) && wAt w3 (.static arraycopyName) && wAt w4 (.initialized "java/lang/System")
  | _ => false
def okMath (own : String) (ix : Nat) (r : List Nat) : Bool := match r with
  | _ :: k :: w1 :: w2 :: w3 :: w4 :: _ => wAt w3 (.initialized "java/lang/Math") && (match k with
    | 0 => wAt w1 (.methodLink own ix Lib.Math.abs.name) && wAt w2 (.static Lib.Math.abs.name) && wAt w4 (.code Lib.Math.abs.name Lib.Math.abs.code 1 (some .int))
    | 1 => wAt w1 (.methodLink own ix Lib.Math.max.name) && wAt w2 (.static Lib.Math.max.name) && wAt w4 (.code Lib.Math.max.name Lib.Math.max.code 2 (some .int))
    | _ => wAt w1 (.methodLink own ix Lib.Math.min.name) && wAt w2 (.static Lib.Math.min.name) && wAt w4 (.code Lib.Math.min.name Lib.Math.min.code 2 (some .int)))
  | _ => false
/-- a method's code word -/
noncomputable def mcw (j : Nat) : Jvm.Cond := match mhs j with
  | [] => .code (pmd j).1 (pmd j).2.1 (mloc j) (mret j)
  | q :: t => .codeWith (pmd j).1 (pmd j).2.1 (mloc j) (mret j) ((q :: t).map fun x => (x.1, x.2.1, x.2.2.1, x.2.2.2.1))
noncomputable def mnm (j : Nat) : MethodName := (pmd j).1
def okNm (y : MethodName) (n : Nat) : Bool := decide (y.cls ≠ "java/lang/invoke/MethodHandle" ∧ y.cls ≠ "java/lang/invoke/VarHandle" ∧ (parseMethodDescriptor y.desc).map (fun d => d.parameters.length) = some n)
noncomputable def okLnk (own : String) (ix w nest : Nat) (y : MethodName) : Bool := match nest with
  | 0 => wAt w (.methodLink own ix y)
  | _ => wBt w (.methodLinkNest own ix y (hostN 1)) || wBt w (.methodLinkNest own ix y (hostN 2))
noncomputable def okCall (own : String) (kd ix : Nat) (r : List Nat) : Bool := match r with
  | j :: n :: cv :: nest :: w :: ini :: cw :: kw :: rest => wAt ini (.initialized (mnm j).cls) && wAt cw (mcw j) && decide (mloc j ≤ 41) &&
    (match kd with
    | 0 => okLnk own ix w nest (mnm j) && decide (cv = 0) && wAt kw (.static (mnm j)) && okNm (mnm j) n && (decide (mhs j = []) || decide (nest = 0))
    | 1 => if nest = 8 then wAt w (.methodLink own ix (mnm j)) && decide (cv = 2) && wAt kw (.instanceMethod (mnm j)) && decide (1 ≤ n) && okNm (mnm j) (n - 1) && decide ((mnm j).name ≠ "<init>") && decide (mhs j = []) && (match rest with
        | sm :: sup :: _ => wAt sm (.sameMethod (mnm j).cls (mnm j).cls (mnm j).name (mnm j).desc) && wAt sup (.superclass own (mnm j).cls)
        | _ => false)
      else okLnk own ix w nest (mnm j) && decide (cv = 0) && wAt kw (.instanceMethod (mnm j)) && decide (1 ≤ n) && okNm (mnm j) (n - 1) && decide ((mnm j).name = "<init>") && decide (mret j = none) && decide (mhs j = [])
    | _ => if nest = 7 then decide (cv = 2) && wAt kw (.instanceMethod (mnm j)) && decide (1 ≤ n) && okNm (mnm j) (n - 1) && decide (mhs j = []) && (match rest with
        | sel :: sm :: jx :: kwx :: cwx :: _ => wAt w (.methodLink own ix (mnm jx)) && wAt sel (.selects (clN 1) (mnm jx) (mnm j)) && wAt sm (.sameMethod (mnm jx).cls (mnm jx).cls (mnm jx).name (mnm jx).desc) && wAt kwx (.instanceMethod (mnm jx)) && wAt cwx (mcw jx) && decide (mhs jx = []) && okNm (mnm jx) (n - 1)
        | _ => false)
      else okLnk own ix w nest (mnm j) && decide (nest = 0) && wAt kw (.instanceMethod (mnm j)) && decide (1 ≤ n) && okNm (mnm j) (n - 1) && decide (mhs j = []) && (match cv, rest with
      | c1 + 1, sel :: _ => wAt sel (.selects (clN c1) (mnm j) (mnm j)) && decide (c1 < 13)
      | _, _ => false))
  | _ => false
def isRefT (t : Option FieldType) : Bool := match t with
  | some (.object _) => true
  | some (.array _) => true
  | _ => false
/-- the words of 'throw new X(text)' but the constructor's link -/
def atX (X : String) : List Jvm.Cond := ((Bundle.throwableAtoms ++ Bundle.throwableSAtoms ++ Bundle.chainSAtoms X ["java/lang/RuntimeException", "java/lang/Exception"] ++
  [.instantiable X 6, .castable X X, .selects X Bundle.tFill0 Bundle.tFill0, .selects X Bundle.tFill Bundle.tFill,
   .lays X Bundle.tN "cause" "Ljava/lang/Throwable;", .lays X Bundle.tN "stackTrace" Bundle.steD, .lays X Bundle.tN "suppressedExceptions" Bundle.listD, .lays X Bundle.tN "detailMessage" "Ljava/lang/String;",
   .isRef (.static Bundle.tN "UNASSIGNED_STACK" Bundle.steD), .isRef (.static Bundle.tN "SUPPRESSED_SENTINEL" Bundle.listD),
   .fieldLink Bundle.tN 198 Bundle.tN "backtrace" "Ljava/lang/Object;", .lays Bundle.tN Bundle.tN "backtrace" "Ljava/lang/Object;", .lays X Bundle.tN "backtrace" "Ljava/lang/Object;"]) : List Jvm.Cond).filter vx_no
theorem atX_in {own : String} {ic : Nat} {X : String} {w : Jvm.Cond} (h : w ∈ vx_atS own ic X ["java/lang/RuntimeException", "java/lang/Exception"]) : w = .methodLink own ic (Bundle.initS X) ∨ w ∈ atX X := by
  obtain ⟨h1, h2⟩ := List.mem_filter.mp h
  simp only [Bundle.ownAtoms, List.mem_append, List.mem_cons] at h1
  by_cases hw : w = .methodLink own ic (Bundle.initS X)
  · exact Or.inl hw
  · refine Or.inr (List.mem_filter.mpr ⟨?_, h2⟩)
    simp only [List.mem_append, List.mem_cons]
    rcases h1 with h1 | h1 | h1
    · exact Or.inl h1
    · exact absurd h1 hw
    · exact Or.inr h1
def okAtX (X : String) : Bool := (atX X).all (fun w => vx_ot w && ((decide (w ∈ lw_tbl) && (k2_isCode w || goodWord w)) || (decide (w ∈ lw_tbl) && isNw w)))
theorem atX_0 : okAtX "java/lang/IllegalStateException" = true := by decide +kernel
theorem atX_1 : okAtX "java/lang/IllegalArgumentException" = true := by decide +kernel
theorem atX_2 : okAtX "java/lang/IndexOutOfBoundsException" = true := by decide +kernel
theorem atX_ok {X : String} (h : okAtX X = true) : ∀ w ∈ atX X, vx_ot w = true ∧ (w ∈ lwG ∨ w ∈ lwB) := by
  intro w hw
  have h1 := List.all_eq_true.mp h w hw
  simp only [Bool.and_eq_true, Bool.or_eq_true, decide_eq_true_eq] at h1
  refine ⟨h1.1, ?_⟩
  rcases h1.2 with h2 | h2
  · exact Or.inl (List.mem_filter.mpr ⟨h2.1, by rw [Bool.or_eq_true]; exact h2.2⟩)
  · exact Or.inr (List.mem_filter.mpr h2)
theorem ov4 : Jvm.Cond.arrayOver (.object "LampLighters$Lamp") ∈ lwB := List.mem_filter.mpr ⟨by decide +kernel, rfl⟩
theorem ov3 : Jvm.Cond.arrayOver (.array .int) ∈ lwB := List.mem_filter.mpr ⟨by decide +kernel, rfl⟩
theorem ov6 : Jvm.Cond.arrayOver (.object "java/lang/String") ∈ lwB := List.mem_filter.mpr ⟨by decide +kernel, rfl⟩
theorem ov7 : Jvm.Cond.arrayOver (.object "LampLightersLaw$Act") ∈ lwB := List.mem_filter.mpr ⟨by decide +kernel, rfl⟩
theorem ov8 : Jvm.Cond.arrayOver (.object "LampLightersLaw$Man") ∈ lwB := List.mem_filter.mpr ⟨by decide +kernel, rfl⟩
theorem ov5 : Jvm.Cond.arrayOver (.object "LampLighters$Lighter") ∈ lwB := List.mem_filter.mpr ⟨by decide +kernel, rfl⟩
/-- a throw's five instructions -/
noncomputable def okThr (own : String) (tb : List PI) (pc ix : Nat) (r : List Nat) : Bool := match r with
  | k :: w1 :: w2 :: _ => decide (100 ≤ k ∧ k < 103) && wAt w1 (.classLink own ix (exN (k - 100))) && wAt w2 (.initialized (exN (k - 100))) &&
    (match flk tb (pc + 3), flk tb (pc + 4), flk tb (pc + 6), flk tb (pc + 9) with
    | some (.dup, 1, _, _), some (.ldc is, 2, _, .ref z), some (.invokespecial ic, 3, _ :: w3 :: _, _), some (.athrow, 1, _, _) => okLdc own is (.ref z) && wAt w3 (.methodLink own ic (Bundle.initS (exN (k - 100))))
    | _, _, _, _ => false)
  | _ => false
/-- one entry of a method's table -/
noncomputable def okI (own : String) (ini : Bool) (rt : Option FieldType) (tb : List PI) (q : PI) : Bool := match q with
  | (pc, i, len, r, v) => ilen i len && (match i with
    | .ldc ix => okLdc own ix v || okLdcI own ix r v
    | .ldc_w _ => false
    | .ldc2_w ix => okLdc2 own ix r v
    | .getstatic ix => okSta own ix r v
    | .getfield ix => okGet own ix r
    | .putfield ix => okPut own ini ix r
    | .new ix => (match r with
      | k :: _ => if 100 ≤ k then okThr own tb pc ix r else okNew own ix r
      | [] => true)
    | .newarray a => okNewa a r
    | .anewarray ix => okANewa own ix r
    | .ifCond _ off => okJmp pc off
    | .if_icmp _ off => okJmp pc off
    | .goto off => okJmp pc off
    | .ifnull off => okJmp pc off
    | .ifnonnull off => okJmp pc off
    | .tableswitch dflt lo hi offs => okTab pc dflt lo hi offs
    | .areturn => isRefT rt
    | .lreturn => decide (rt = some .long)
    | .dreturn => decide (rt = some .double)
    | .return_ => decide (rt = none)
    | .invokestatic ix => (match r with
      | [] => true
      | 9998 :: _ => okCpy own ix r
      | 9997 :: _ => okMath own ix r
      | _ => okCall own 0 ix r)
    | .invokespecial ix => (match r with
      | [] => true
      | 9999 :: _ => okObj own ix r
      | 8888 :: _ => true
      | _ => okCall own 1 ix r)
    | .invokevirtual ix => (match r with
      | [] => true
      | _ => okCall own 2 ix r)
    | _ => true)
