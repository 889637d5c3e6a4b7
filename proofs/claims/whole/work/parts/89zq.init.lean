/-! THE FIRST OBJECTS: a heap that grows at its end -/
section INIT
variable {l m : List PC} {R : Nat → Option PC} {b n2 d k j a : Nat} {Q : PO → Prop} {q : PC} {fs : List Value} {v : Value} {ty : FieldType}
def NB (l m : List PC) (n2 : Nat) (R : Nat → Option PC) : PH := ((300 + (l ++ m).length, (l ++ m).length, n2), fun a => if a < 300 then R a else (l ++ m)[a - 300]?)
theorem NB_c (hb : b = 300 + l.length) : (NB l m n2 R).1.1 = b + m.length := by
  show 300 + (l ++ m).length = b + m.length
  rw [List.length_append]
  omega
theorem NB_new : hnew (NB l m n2 R) k q = NB l (m ++ [q]) (n2 + k) R := by
  unfold hnew NB
  refine Prod.ext ?_ (funext fun a => ?_)
  · show (300 + (l ++ m).length + 1, (l ++ m).length + 1, n2 + k) = (300 + (l ++ (m ++ [q])).length, (l ++ (m ++ [q])).length, n2 + k)
    simp only [List.length_append, List.length_cons, List.length_nil]
    congr 1
  · show (if a = 300 + (l ++ m).length then some q else if a < 300 then R a else (l ++ m)[a - 300]?) = if a < 300 then R a else (l ++ (m ++ [q]))[a - 300]?
    rw [← List.append_assoc]
    by_cases h1 : a < 300
    · rw [if_neg (by omega), if_pos h1, if_pos h1]
    rw [if_neg h1, if_neg h1]
    by_cases h2 : a = 300 + (l ++ m).length
    · rw [if_pos h2, List.getElem?_append_right (by omega), show a - 300 - (l ++ m).length = 0 by omega]
      rfl
    · rw [if_neg h2]
      by_cases h3 : a - 300 < (l ++ m).length
      · rw [List.getElem?_append_left h3]
      · rw [List.getElem?_eq_none (by omega), List.getElem?_eq_none (by simp only [List.length_append (as := l ++ m), List.length_cons, List.length_nil]; omega)]
theorem NB_new' : hnew (NB l m n2 R) k q = NB (l ++ m) [q] (n2 + k) R := by
  rw [NB_new]
  unfold NB
  rw [List.append_assoc]
theorem NB_back {m' : List PC} : NB (l ++ m) m' n2 R = NB l (m ++ m') n2 R := by
  unfold NB
  rw [List.append_assoc]
theorem NB_at (hb : b = 300 + l.length) : (NB l m n2 R).2 (b + j) = m[j]? := by
  show (if b + j < 300 then R (b + j) else (l ++ m)[b + j - 300]?) = m[j]?
  rw [if_neg (by omega), List.getElem?_append_right (by omega), show b + j - 300 - l.length = j by omega]
theorem NB_at0 (hb : b = 300 + l.length) : (NB l m n2 R).2 b = m[0]? := NB_at (j := 0) hb
theorem NB_set (hb : b = 300 + l.length) (hj : j < m.length) : hset (NB l m n2 R) (b + j) q = NB l (m.set j q) n2 R := by
  unfold hset NB
  refine Prod.ext ?_ (funext fun a => ?_)
  · simp only [List.length_append, List.length_set]
  · show (if a = b + j then some q else if a < 300 then R a else (l ++ m)[a - 300]?) = if a < 300 then R a else (l ++ m.set j q)[a - 300]?
    by_cases h : a = b + j
    · rw [if_pos h, if_neg (by omega), List.getElem?_append_right (by omega), show a - 300 - l.length = j by omega, List.getElem?_set_self hj]
    · rw [if_neg h]
      by_cases h1 : a < 300
      · rw [if_pos h1, if_pos h1]
      rw [if_neg h1, if_neg h1]
      by_cases h2 : a - 300 < l.length
      · rw [List.getElem?_append_left h2, List.getElem?_append_left h2]
      · rw [List.getElem?_append_right (by omega), List.getElem?_append_right (by omega), List.getElem?_set_ne (by omega)]
/-- the first object of the block gets a field -/
theorem NB_put {ci jj pc : Nat} {ls : PL} {st : List Value} (hb : b = 300 + l.length) (hk : k < fs.length) (hf : fits ty v = true) (hn : narrow ty v = v) : pP ((NB l (.inr (ci, fs) :: m) n2 R).2 b) ci k ty v b (fun q => Wp d jj pc ls st (hset (NB l (.inr (ci, fs) :: m) n2 R) b q) Q) = Wp d jj pc ls st (NB l (.inr (ci, fs.set k v) :: m) n2 R) Q := by
  rw [NB_at0 hb, List.getElem?_cons_zero, pP_mk (by omega) hk hf hn]
  have := NB_set (j := 0) (q := .inr (ci, fs.set k v)) (m := .inr (ci, fs) :: m) (n2 := n2) (R := R) hb (by simp)
  rw [Nat.add_zero, List.set_cons_zero] at this
  rw [this]
theorem fits_a {t : FieldType} : fits (.array t) (.ref a) = true := rfl
theorem fits_o {s : String} : fits (.object s) (.ref a) = true := rfl
theorem fits_i {x : Int32} : fits .int (.int x) = true := rfl
theorem nrw_a {t : FieldType} : narrow (.array t) v = v := rfl
theorem nrw_o {s : String} : narrow (.object s) v = v := rfl
theorem nrw_i {x : Int32} : narrow .int (.int x) = .int x := rfl
theorem arr0_0 {n : Nat} : arr0 0 n = (n, .inl fun _ => 0) := rfl
def pd0 : List Value := [.int 0, .int 0, .int 0, .int 0, .null, .null, .null, .null, .null, .null, .null, .null, .null, .null, .null, .null, .null]
theorem pdef0 : pdef 0 = pd0 := by decide +kernel
def pd1 : List Value := [.int 0, .int 0, .int 0, .int 0, .int 0, .int 0, .int 0]
theorem pdef1 : pdef 1 = pd1 := by decide +kernel
def pd2 : List Value := [.int 0, .int 0, .int 0, .int 0, .int 0, .int 0, .int 0, .null, .int 0, .null, .null, .null]
theorem pdef2 : pdef 2 = pd2 := by decide +kernel
def pd3 : List Value := [.null, .null, .null, .null, .int 0, .int 0, .int 0, .long 0, .int 0, .int 0]
theorem pdef3 : pdef 3 = pd3 := by decide +kernel
def pd4 : List Value := [.null, .int 0]
theorem pdef4 : pdef 4 = pd4 := by decide +kernel
def pd5 : List Value := [.null, .null, .null, .null]
theorem pdef5 : pdef 5 = pd5 := by decide +kernel
def pd6 : List Value := [.null, .null, .null, .int 0, .int 0, .int 0, .int 0, .int 0]
theorem pdef6 : pdef 6 = pd6 := by decide +kernel
def pd7 : List Value := [.null, .null, .null, .null, .null, .int 0]
theorem pdef7 : pdef 7 = pd7 := by decide +kernel
def pd9 : List Value := [.int 0, .int 0, .int 0, .int 0, .null, .null, .null, .null, .null, .null, .null, .null, .null, .null, .null, .null, .null, .null, .null, .null, .null]
theorem pdef9 : pdef 9 = pd9 := by decide +kernel
def pd10 : List Value := [.int 0, .null, .int 0, .int 0, .null, .null, .null, .null, .int 0, .int 0, .null, .null, .int 0, .null, .null, .null]
theorem pdef10 : pdef 10 = pd10 := by decide +kernel
theorem tn_0 : Int32.toNatClampNeg 0 = 0 := by decide
theorem tn_3 : Int32.toNatClampNeg 3 = 3 := by decide
theorem tn_6 : Int32.toNatClampNeg 6 = 6 := by decide
theorem tn_10 : Int32.toNatClampNeg 10 = 10 := by decide
theorem tn_20 : Int32.toNatClampNeg 20 = 20 := by decide
theorem tn_23 : Int32.toNatClampNeg 23 = 23 := by decide
theorem tn_32 : Int32.toNatClampNeg 32 = 32 := by decide
theorem tn_36 : Int32.toNatClampNeg 36 = 36 := by decide
theorem tn_60 : Int32.toNatClampNeg 60 = 60 := by decide
theorem tn_80 : Int32.toNatClampNeg 80 = 80 := by decide
theorem tn_100 : Int32.toNatClampNeg 100 = 100 := by decide
theorem tn_144 : Int32.toNatClampNeg 144 = 144 := by decide
theorem tn_401 : Int32.toNatClampNeg 401 = 401 := by decide
theorem tn_1600 : Int32.toNatClampNeg 1600 = 1600 := by decide
theorem arr0_1 {n : Nat} : arr0 1 n = (n, .inr (.inl fun _ => 0)) := rfl
theorem arr0_2 {n : Nat} : arr0 2 n = (n, .inl fun _ => 0) := rfl
theorem arr0_3 {n : Nat} : arr0 3 n = (n, .inl fun _ => 0) := rfl
theorem arr0_4 {n : Nat} : arr0 4 n = (n, .inr (.inr (.inr (.inr fun _ => none)))) := rfl
theorem arr0_5 {n : Nat} : arr0 5 n = (n, .inr (.inr (.inr (.inr fun _ => none)))) := rfl
def ms0 (b : Nat) : List PC := [.inr (0, [.int 0, .int 0, .int 0, .int 0, .ref (b + 1), .ref (b + 2), .ref (b + 3), .ref (b + 4), .ref (b + 5), .ref (b + 6), .ref (b + 7), .ref (b + 8), .ref (b + 9), .ref (b + 10), .ref (b + 11), .ref (b + 12), .ref (b + 13)]), .inl (0, 10, .inl fun _ => 0), .inl (0, 10, .inl fun _ => 0), .inl (0, 6, .inl fun _ => 0), .inl (0, 80, .inl fun _ => 0), .inl (0, 80, .inl fun _ => 0), .inl (0, 80, .inl fun _ => 0), .inl (0, 80, .inl fun _ => 0), .inl (0, 80, .inl fun _ => 0), .inl (0, 80, .inl fun _ => 0), .inl (0, 80, .inl fun _ => 0), .inl (0, 100, .inl fun _ => 0), .inl (0, 100, .inl fun _ => 0), .inl (0, 100, .inl fun _ => 0)]
theorem cn0 (hb : b = 300 + l.length) : Cp (d + 1) 0 [.ref b] (NB l [.inr (0, pd0)] n2 R) Q = Q (.inl none, NB l (ms0 b) (n2 + 886) R) := by
  rw [pd0, ce0]
  rw [w0_0, w0_1 ⟨by decide, by omega⟩, w0_4, w0_5, w0_7 (by decide), NB_c hb, NB_new]
  simp only [List.cons_append, List.nil_append, List.length_cons, List.length_nil, Nat.reduceAdd, arr0_0, arr0_1, arr0_2, arr0_3, tn_10]
  rw [w0_9, ft0_4, NB_put hb (by simp) fits_a nrw_a]
  simp only [List.set_cons_succ, List.set_cons_zero]
  rw [w0_12, w0_13, w0_15 (by decide), NB_c hb, NB_new]
  simp only [List.cons_append, List.nil_append, List.length_cons, List.length_nil, Nat.reduceAdd, arr0_0, arr0_1, arr0_2, arr0_3, tn_10]
  rw [w0_17, ft0_5, NB_put hb (by simp) fits_a nrw_a]
  simp only [List.set_cons_succ, List.set_cons_zero]
  rw [w0_20, w0_21, w0_23 (by decide), NB_c hb, NB_new]
  simp only [List.cons_append, List.nil_append, List.length_cons, List.length_nil, Nat.reduceAdd, arr0_0, arr0_1, arr0_2, arr0_3, tn_6]
  rw [w0_25, ft0_6, NB_put hb (by simp) fits_a nrw_a]
  simp only [List.set_cons_succ, List.set_cons_zero]
  rw [w0_28, w0_29, w0_31 (by decide), NB_c hb, NB_new]
  simp only [List.cons_append, List.nil_append, List.length_cons, List.length_nil, Nat.reduceAdd, arr0_0, arr0_1, arr0_2, arr0_3, tn_80]
  rw [w0_33, ft0_7, NB_put hb (by simp) fits_a nrw_a]
  simp only [List.set_cons_succ, List.set_cons_zero]
  rw [w0_36, w0_37, w0_39 (by decide), NB_c hb, NB_new]
  simp only [List.cons_append, List.nil_append, List.length_cons, List.length_nil, Nat.reduceAdd, arr0_0, arr0_1, arr0_2, arr0_3, tn_80]
  rw [w0_41, ft0_8, NB_put hb (by simp) fits_a nrw_a]
  simp only [List.set_cons_succ, List.set_cons_zero]
  rw [w0_44, w0_45, w0_47 (by decide), NB_c hb, NB_new]
  simp only [List.cons_append, List.nil_append, List.length_cons, List.length_nil, Nat.reduceAdd, arr0_0, arr0_1, arr0_2, arr0_3, tn_80]
  rw [w0_49, ft0_9, NB_put hb (by simp) fits_a nrw_a]
  simp only [List.set_cons_succ, List.set_cons_zero]
  rw [w0_52, w0_53, w0_55 (by decide), NB_c hb, NB_new]
  simp only [List.cons_append, List.nil_append, List.length_cons, List.length_nil, Nat.reduceAdd, arr0_0, arr0_1, arr0_2, arr0_3, tn_80]
  rw [w0_57, ft0_10, NB_put hb (by simp) fits_a nrw_a]
  simp only [List.set_cons_succ, List.set_cons_zero]
  rw [w0_60, w0_61, w0_63 (by decide), NB_c hb, NB_new]
  simp only [List.cons_append, List.nil_append, List.length_cons, List.length_nil, Nat.reduceAdd, arr0_0, arr0_1, arr0_2, arr0_3, tn_80]
  rw [w0_65, ft0_11, NB_put hb (by simp) fits_a nrw_a]
  simp only [List.set_cons_succ, List.set_cons_zero]
  rw [w0_68, w0_69, w0_71 (by decide), NB_c hb, NB_new]
  simp only [List.cons_append, List.nil_append, List.length_cons, List.length_nil, Nat.reduceAdd, arr0_0, arr0_1, arr0_2, arr0_3, tn_80]
  rw [w0_73, ft0_12, NB_put hb (by simp) fits_a nrw_a]
  simp only [List.set_cons_succ, List.set_cons_zero]
  rw [w0_76, w0_77, w0_79 (by decide), NB_c hb, NB_new]
  simp only [List.cons_append, List.nil_append, List.length_cons, List.length_nil, Nat.reduceAdd, arr0_0, arr0_1, arr0_2, arr0_3, tn_80]
  rw [w0_81, ft0_13, NB_put hb (by simp) fits_a nrw_a]
  simp only [List.set_cons_succ, List.set_cons_zero]
  rw [w0_84, w0_85, w0_87 (by decide), NB_c hb, NB_new]
  simp only [List.cons_append, List.nil_append, List.length_cons, List.length_nil, Nat.reduceAdd, arr0_0, arr0_1, arr0_2, arr0_3, tn_100]
  rw [w0_89, ft0_14, NB_put hb (by simp) fits_a nrw_a]
  simp only [List.set_cons_succ, List.set_cons_zero]
  rw [w0_92, w0_93, w0_95 (by decide), NB_c hb, NB_new]
  simp only [List.cons_append, List.nil_append, List.length_cons, List.length_nil, Nat.reduceAdd, arr0_0, arr0_1, arr0_2, arr0_3, tn_100]
  rw [w0_97, ft0_15, NB_put hb (by simp) fits_a nrw_a]
  simp only [List.set_cons_succ, List.set_cons_zero]
  rw [w0_100, w0_101, w0_103 (by decide), NB_c hb, NB_new]
  simp only [List.cons_append, List.nil_append, List.length_cons, List.length_nil, Nat.reduceAdd, arr0_0, arr0_1, arr0_2, arr0_3, tn_100]
  rw [w0_105, ft0_16, NB_put hb (by simp) fits_a nrw_a]
  simp only [List.set_cons_succ, List.set_cons_zero]
  rw [w0_108]
  rfl
def ms2 (b : Nat) : List PC := [.inr (1, [.int 0, .int 0, .int 0, .int 0, .int 0, .int 0, .int 0])]
theorem cn2 (hb : b = 300 + l.length) : Cp (d + 1) 2 [.ref b] (NB l [.inr (1, pd1)] n2 R) Q = Q (.inl none, NB l (ms2 b) (n2 + 0) R) := by
  rw [pd1, ce2]
  rw [w2_0, w2_1 ⟨by decide, by omega⟩, w2_4]
  rfl
def ms8 (b : Nat) : List PC := [.inr (2, [.int 0, .int 0, .int 0, .int (-1), .int (-1), .int 0, .int 0, .ref (b + 1), .int 0, .ref (b + 2), .ref (b + 3), .ref (b + 4)]), .inl (0, 20, .inl fun _ => 0), .inl (0, 36, .inl fun _ => 0), .inl (0, 36, .inl fun _ => 0), .inl (0, 36, .inl fun _ => 0)]
theorem cn8 (hb : b = 300 + l.length) : Cp (d + 1) 8 [.ref b] (NB l [.inr (2, pd2)] n2 R) Q = Q (.inl none, NB l (ms8 b) (n2 + 128) R) := by
  rw [pd2, ce8]
  rw [w8_0, w8_1 ⟨by decide, by omega⟩, w8_4, w8_5, w8_6, ft2_3, NB_put hb (by simp) fits_i nrw_i]
  simp only [List.set_cons_succ, List.set_cons_zero]
  rw [w8_9, w8_10, w8_11, ft2_4, NB_put hb (by simp) fits_i nrw_i]
  simp only [List.set_cons_succ, List.set_cons_zero]
  rw [w8_14, w8_15, w8_17 (by decide), NB_c hb, NB_new]
  simp only [List.cons_append, List.nil_append, List.length_cons, List.length_nil, Nat.reduceAdd, arr0_0, arr0_1, arr0_2, arr0_3, tn_20]
  rw [w8_19, ft2_7, NB_put hb (by simp) fits_a nrw_a]
  simp only [List.set_cons_succ, List.set_cons_zero]
  rw [w8_22, w8_23, w8_25 (by decide), NB_c hb, NB_new]
  simp only [List.cons_append, List.nil_append, List.length_cons, List.length_nil, Nat.reduceAdd, arr0_0, arr0_1, arr0_2, arr0_3, tn_36]
  rw [w8_27, ft2_9, NB_put hb (by simp) fits_a nrw_a]
  simp only [List.set_cons_succ, List.set_cons_zero]
  rw [w8_30, w8_31, w8_33 (by decide), NB_c hb, NB_new]
  simp only [List.cons_append, List.nil_append, List.length_cons, List.length_nil, Nat.reduceAdd, arr0_0, arr0_1, arr0_2, arr0_3, tn_36]
  rw [w8_35, ft2_10, NB_put hb (by simp) fits_a nrw_a]
  simp only [List.set_cons_succ, List.set_cons_zero]
  rw [w8_38, w8_39, w8_41 (by decide), NB_c hb, NB_new]
  simp only [List.cons_append, List.nil_append, List.length_cons, List.length_nil, Nat.reduceAdd, arr0_0, arr0_1, arr0_2, arr0_3, tn_36]
  rw [w8_43, ft2_11, NB_put hb (by simp) fits_a nrw_a]
  simp only [List.set_cons_succ, List.set_cons_zero]
  rw [w8_46]
  rfl
def ms37 (b : Nat) : List PC := [.inr (4, [.ref (b + 1), .int 0]), .inl (2, 1600, .inl fun _ => 0)]
theorem cn37 (hb : b = 300 + l.length) : Cp (d + 1) 37 [.ref b] (NB l [.inr (4, pd4)] n2 R) Q = Q (.inl none, NB l (ms37 b) (n2 + 1600) R) := by
  rw [pd4, ce37]
  rw [w37_0, w37_1 ⟨by decide, by omega⟩, w37_4, w37_5, w37_8 (by decide), NB_c hb, NB_new]
  simp only [List.cons_append, List.nil_append, List.length_cons, List.length_nil, Nat.reduceAdd, arr0_0, arr0_1, arr0_2, arr0_3, tn_1600]
  rw [w37_10, ft4_0, NB_put hb (by simp) fits_a nrw_a]
  simp only [List.set_cons_succ, List.set_cons_zero]
  rw [w37_13]
  rfl
def ms120 (b a : Nat) : List PC := [.inr (9, [.int 0, .int 0, .int 0, .int 0, .ref (b + 1), .ref (b + 2), .ref (b + 3), .ref (b + 4), .ref (b + 5), .ref (b + 6), .ref (b + 7), .ref (b + 8), .ref (b + 9), .ref (b + 10), .ref (b + 11), .ref (b + 12), .ref (b + 13), .ref (b + 14), .ref (b + 15), .ref (b + 16), .ref a]), .inl (0, 10, .inl fun _ => 0), .inl (0, 10, .inl fun _ => 0), .inl (0, 10, .inl fun _ => 0), .inl (0, 10, .inl fun _ => 0), .inl (3, 10, .inl fun _ => 0), .inl (0, 3, .inl fun _ => 0), .inl (0, 3, .inl fun _ => 0), .inl (0, 3, .inl fun _ => 0), .inl (0, 3, .inl fun _ => 0), .inl (0, 3, .inl fun _ => 0), .inl (0, 3, .inl fun _ => 0), .inl (0, 60, .inl fun _ => 0), .inl (0, 3, .inl fun _ => 0), .inl (0, 144, .inl fun _ => 0), .inl (0, 144, .inl fun _ => 0), .inl (0, 144, .inl fun _ => 0)]
theorem cn120 (hb : b = 300 + l.length) : Cp (d + 1) 120 [.ref b, .ref a] (NB l [.inr (9, pd9)] n2 R) Q = Q (.inl none, NB l (ms120 b a) (n2 + 563) R) := by
  rw [pd9, ce120]
  rw [w120_0, w120_1, w120_2, ft9_20, NB_put hb (by simp) fits_o nrw_o]
  simp only [List.set_cons_succ, List.set_cons_zero]
  rw [w120_5, w120_6 ⟨by decide, by omega⟩, w120_9, w120_10, w120_12 (by decide), NB_c hb, NB_new]
  simp only [List.cons_append, List.nil_append, List.length_cons, List.length_nil, Nat.reduceAdd, arr0_0, arr0_1, arr0_2, arr0_3, tn_10]
  rw [w120_14, ft9_4, NB_put hb (by simp) fits_a nrw_a]
  simp only [List.set_cons_succ, List.set_cons_zero]
  rw [w120_17, w120_18, w120_20 (by decide), NB_c hb, NB_new]
  simp only [List.cons_append, List.nil_append, List.length_cons, List.length_nil, Nat.reduceAdd, arr0_0, arr0_1, arr0_2, arr0_3, tn_10]
  rw [w120_22, ft9_5, NB_put hb (by simp) fits_a nrw_a]
  simp only [List.set_cons_succ, List.set_cons_zero]
  rw [w120_25, w120_26, w120_28 (by decide), NB_c hb, NB_new]
  simp only [List.cons_append, List.nil_append, List.length_cons, List.length_nil, Nat.reduceAdd, arr0_0, arr0_1, arr0_2, arr0_3, tn_10]
  rw [w120_30, ft9_6, NB_put hb (by simp) fits_a nrw_a]
  simp only [List.set_cons_succ, List.set_cons_zero]
  rw [w120_33, w120_34, w120_36 (by decide), NB_c hb, NB_new]
  simp only [List.cons_append, List.nil_append, List.length_cons, List.length_nil, Nat.reduceAdd, arr0_0, arr0_1, arr0_2, arr0_3, tn_10]
  rw [w120_38, ft9_7, NB_put hb (by simp) fits_a nrw_a]
  simp only [List.set_cons_succ, List.set_cons_zero]
  rw [w120_41, w120_42, w120_44 (by decide), NB_c hb, NB_new]
  simp only [List.cons_append, List.nil_append, List.length_cons, List.length_nil, Nat.reduceAdd, arr0_0, arr0_1, arr0_2, arr0_3, tn_10]
  rw [w120_46, ft9_8, NB_put hb (by simp) fits_a nrw_a]
  simp only [List.set_cons_succ, List.set_cons_zero]
  rw [w120_49, w120_50, w120_51 (by decide), NB_c hb, NB_new]
  simp only [List.cons_append, List.nil_append, List.length_cons, List.length_nil, Nat.reduceAdd, arr0_0, arr0_1, arr0_2, arr0_3, tn_3]
  rw [w120_53, ft9_9, NB_put hb (by simp) fits_a nrw_a]
  simp only [List.set_cons_succ, List.set_cons_zero]
  rw [w120_56, w120_57, w120_58 (by decide), NB_c hb, NB_new]
  simp only [List.cons_append, List.nil_append, List.length_cons, List.length_nil, Nat.reduceAdd, arr0_0, arr0_1, arr0_2, arr0_3, tn_3]
  rw [w120_60, ft9_10, NB_put hb (by simp) fits_a nrw_a]
  simp only [List.set_cons_succ, List.set_cons_zero]
  rw [w120_63, w120_64, w120_65 (by decide), NB_c hb, NB_new]
  simp only [List.cons_append, List.nil_append, List.length_cons, List.length_nil, Nat.reduceAdd, arr0_0, arr0_1, arr0_2, arr0_3, tn_3]
  rw [w120_67, ft9_11, NB_put hb (by simp) fits_a nrw_a]
  simp only [List.set_cons_succ, List.set_cons_zero]
  rw [w120_70, w120_71, w120_72 (by decide), NB_c hb, NB_new]
  simp only [List.cons_append, List.nil_append, List.length_cons, List.length_nil, Nat.reduceAdd, arr0_0, arr0_1, arr0_2, arr0_3, tn_3]
  rw [w120_74, ft9_12, NB_put hb (by simp) fits_a nrw_a]
  simp only [List.set_cons_succ, List.set_cons_zero]
  rw [w120_77, w120_78, w120_79 (by decide), NB_c hb, NB_new]
  simp only [List.cons_append, List.nil_append, List.length_cons, List.length_nil, Nat.reduceAdd, arr0_0, arr0_1, arr0_2, arr0_3, tn_3]
  rw [w120_81, ft9_13, NB_put hb (by simp) fits_a nrw_a]
  simp only [List.set_cons_succ, List.set_cons_zero]
  rw [w120_84, w120_85, w120_86 (by decide), NB_c hb, NB_new]
  simp only [List.cons_append, List.nil_append, List.length_cons, List.length_nil, Nat.reduceAdd, arr0_0, arr0_1, arr0_2, arr0_3, tn_3]
  rw [w120_88, ft9_14, NB_put hb (by simp) fits_a nrw_a]
  simp only [List.set_cons_succ, List.set_cons_zero]
  rw [w120_91, w120_92, w120_94 (by decide), NB_c hb, NB_new]
  simp only [List.cons_append, List.nil_append, List.length_cons, List.length_nil, Nat.reduceAdd, arr0_0, arr0_1, arr0_2, arr0_3, tn_60]
  rw [w120_96, ft9_15, NB_put hb (by simp) fits_a nrw_a]
  simp only [List.set_cons_succ, List.set_cons_zero]
  rw [w120_99, w120_100, w120_101 (by decide), NB_c hb, NB_new]
  simp only [List.cons_append, List.nil_append, List.length_cons, List.length_nil, Nat.reduceAdd, arr0_0, arr0_1, arr0_2, arr0_3, tn_3]
  rw [w120_103, ft9_16, NB_put hb (by simp) fits_a nrw_a]
  simp only [List.set_cons_succ, List.set_cons_zero]
  rw [w120_106, w120_107, w120_110 (by decide), NB_c hb, NB_new]
  simp only [List.cons_append, List.nil_append, List.length_cons, List.length_nil, Nat.reduceAdd, arr0_0, arr0_1, arr0_2, arr0_3, tn_144]
  rw [w120_112, ft9_17, NB_put hb (by simp) fits_a nrw_a]
  simp only [List.set_cons_succ, List.set_cons_zero]
  rw [w120_115, w120_116, w120_119 (by decide), NB_c hb, NB_new]
  simp only [List.cons_append, List.nil_append, List.length_cons, List.length_nil, Nat.reduceAdd, arr0_0, arr0_1, arr0_2, arr0_3, tn_144]
  rw [w120_121, ft9_18, NB_put hb (by simp) fits_a nrw_a]
  simp only [List.set_cons_succ, List.set_cons_zero]
  rw [w120_124, w120_125, w120_128 (by decide), NB_c hb, NB_new]
  simp only [List.cons_append, List.nil_append, List.length_cons, List.length_nil, Nat.reduceAdd, arr0_0, arr0_1, arr0_2, arr0_3, tn_144]
  rw [w120_130, ft9_19, NB_put hb (by simp) fits_a nrw_a]
  simp only [List.set_cons_succ, List.set_cons_zero]
  rw [w120_133]
  rfl
end INIT
