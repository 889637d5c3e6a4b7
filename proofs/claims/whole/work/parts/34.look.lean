/-! WHERE THINGS LIE IN THE CLASS'S HEAP -/
def TA (g : Nat) : Nat := 339 + 28 * g
def LA (g i : Nat) : Nat := 342 + 28 * g + i
def LI (g l : Nat) : Nat := 352 + 28 * g + 5 * l
def BA (b : Nat) : Nat := 303 + 22 * b
def bk (b : Nat) : Int32 := Int32.ofNat (303 + 22 * b)
def shq (a b : SH) : Bool := match a, b with
  | none, none => true
  | some (.inl x), some (.inl y) => decide (x = y)
  | some (.inr x), some (.inr y) => decide (x = y)
  | _, _ => false
def tq (a : Option SH) (b : SH) : Bool := match a with
  | some a => shq a b
  | none => false
theorem tq_eq {a : Option SH} {b : SH} (h : tq a b = true) : a = some b := by
  cases a with
  | none => cases h
  | some a =>
    rcases a with _ | x | x <;> rcases b with _ | y | y <;> simp [tq, shq] at h <;> simp [h]
def pRef (b st n : Nat) : Nat → Option Nat := fun k => if k < n then some (b + st * k) else none
theorem tN_nat {k : Nat} (h : k < 2 ^ 31) : (Int32.ofNat k).toNatClampNeg = k := by
  unfold Int32.toNatClampNeg
  rw [Int32.toInt_ofNat_of_lt h]
  rfl
theorem ofN_nn {k : Nat} (h : k < 2 ^ 31) : ¬ Int32.ofNat k < 0 := fun q => by
  rw [Int32.lt_iff_toInt_lt, Int32.toInt_ofNat_of_lt h] at q
  simp at q
  omega
theorem inB_nat {k n : Nat} (h : k < n) (hn : k < 2 ^ 31) : inB (Int32.ofNat k) n = true := inB_iff.mpr ⟨ofN_nn hn, by rw [tN_nat hn]; exact h⟩
def CH (c : Nat × Nat × Nat) (S : S3) (L : L3) (R : Nat → Option PC) : PH := (c, gov tC 300 S L R)
def gt (S : S3) (g v n : Nat) (x : Int32) : Int32 := if inB x n = true then S g v x.toNatClampNeg else -1
def pt (S : S3) (g v n : Nat) (x y : Int32) : S3 := if inB x n = true then su S g v x.toNatClampNeg y else S
def ptL (L : L3) (g v n : Nat) (x : Int32) (y : Int64) : L3 := if inB x n = true then sl L g v x.toNatClampNeg y else L
theorem bk_BA {b : Nat} (hb : b < 2) : (bk b).toNatClampNeg = BA b := by
  obtain rfl | rfl : b = 0 ∨ b = 1 := by omega
  · rfl
  · rfl
theorem CH_thr {c : Nat × Nat × Nat} {S : S3} {L : L3} {R : Nat → Option PC} : hthr (CH c S L R) = CH (c.1, c.2.1 + 1, c.2.2 + 6) S L R := rfl
section LOOKC
variable {c : Nat × Nat × Nat} {S : S3} {L : L3} {R : Nat → Option PC} {g i l b d : Nat} {x y : Int32} {z : Int64} {Q : PO → Prop}
theorem t_x0 : tC[0]? = some (some (.inl (7, [(3, 301, 0, 0), (3, 317, 0, 0), (3, 339, 0, 0), (3, 367, 0, 0), (2, 4, 207, 0), (0, 4, 205, 0)]))) := tq_eq (by decide +kernel)
theorem x0_at  : (CH c S L R).2 (300) = some (.inr (7, [.ref (301), .ref (317), .ref (TA 0), .ref (TA 1), .ref (S 4 207 0).toNatClampNeg, .int (S 4 205 0)])) := by
  have e := gov_in (b := 300) (S := S) (L := L) (R := R) (t_x0 )
  rw [show 300 + (0) = 300 from rfl] at e
  exact e
theorem x0_spare  (hb : b < 2) : hset (CH c S L R) (300) (.inr (7, [.ref (301), .ref (317), .ref (TA 0), .ref (TA 1), .ref (BA b), .int (S 4 205 0)])) = CH c (su S 4 207 0 (bk b)) L R := by
  have e := hs_ref hokC (b := 300) (k := 4) (c := c) (S := S) (L := L) (R := R) (x := bk b) (t_x0 ) rfl
  rw [show 300 + (0) = 300 from rfl] at e
  rw [bk_BA hb] at e
  exact e
theorem x0_errpos  : hset (CH c S L R) (300) (.inr (7, [.ref (301), .ref (317), .ref (TA 0), .ref (TA 1), .ref (S 4 207 0).toNatClampNeg, .int x])) = CH c (su S 4 205 0 x) L R := by
  have e := hs_fld hokC (b := 300) (k := 5) (c := c) (S := S) (L := L) (R := R) (x := x) (t_x0 ) rfl
  rw [show 300 + (0) = 300 from rfl] at e
  exact e
theorem x0_g0  {K : Value → Prop} : gP ((CH c S L R).2 (300)) 7 0 K = K (.ref (301)) := by
  rw [x0_at ]
  rfl
theorem x0_g1  {K : Value → Prop} : gP ((CH c S L R).2 (300)) 7 1 K = K (.ref (317)) := by
  rw [x0_at ]
  rfl
theorem x0_g2  {K : Value → Prop} : gP ((CH c S L R).2 (300)) 7 2 K = K (.ref (TA 0)) := by
  rw [x0_at ]
  rfl
theorem x0_g3  {K : Value → Prop} : gP ((CH c S L R).2 (300)) 7 3 K = K (.ref (TA 1)) := by
  rw [x0_at ]
  rfl
theorem x0_g4  {K : Value → Prop} : gP ((CH c S L R).2 (300)) 7 4 K = K (.ref (S 4 207 0).toNatClampNeg) := by
  rw [x0_at ]
  rfl
theorem x0_g5  {K : Value → Prop} : gP ((CH c S L R).2 (300)) 7 5 K = K (.int (S 4 205 0)) := by
  rw [x0_at ]
  rfl
theorem x0_r  {P : Prop} : rP ((CH c S L R).2 (300)) 7 P = P := by
  rw [x0_at ]
  exact rP_mk
theorem x0_p4  (hb : b < 2) {j pc : Nat} {ls : PL} {st : List Value} : pP ((CH c S L R).2 (300)) 7 4 (ftOf 7 4) (.ref (BA b)) (300) (fun q => Wp d j pc ls st (hset (CH c S L R) (300) q) Q) = Wp d j pc ls st (CH c (su S 4 207 0 (bk b)) L R) Q := by
  rw [x0_at , ft7_4, pP_obj (by omega) (by simp)]
  simp only [List.set_cons_zero, List.set_cons_succ]
  rw [x0_spare  hb]
theorem x0_p5  {j pc : Nat} {ls : PL} {st : List Value} : pP ((CH c S L R).2 (300)) 7 5 (ftOf 7 5) (.int x) (300) (fun q => Wp d j pc ls st (hset (CH c S L R) (300) q) Q) = Wp d j pc ls st (CH c (su S 4 205 0 x) L R) Q := by
  rw [x0_at , ft7_5, pP_int (by omega) (by simp)]
  simp only [List.set_cons_zero, List.set_cons_succ]
  rw [x0_errpos ]
theorem t_tape : tC[1]? = some (some (.inl (4, [(3, 302, 0, 0), (0, 4, 206, 0)]))) := tq_eq (by decide +kernel)
theorem tape_at  : (CH c S L R).2 (301) = some (.inr (4, [.ref (302), .int (S 4 206 0)])) := by
  have e := gov_in (b := 300) (S := S) (L := L) (R := R) (t_tape )
  rw [show 300 + (1) = 301 from rfl] at e
  exact e
theorem tape_length  : hset (CH c S L R) (301) (.inr (4, [.ref (302), .int x])) = CH c (su S 4 206 0 x) L R := by
  have e := hs_fld hokC (b := 300) (k := 1) (c := c) (S := S) (L := L) (R := R) (x := x) (t_tape ) rfl
  rw [show 300 + (1) = 301 from rfl] at e
  exact e
theorem tape_g0  {K : Value → Prop} : gP ((CH c S L R).2 (301)) 4 0 K = K (.ref (302)) := by
  rw [tape_at ]
  rfl
theorem tape_g1  {K : Value → Prop} : gP ((CH c S L R).2 (301)) 4 1 K = K (.int (S 4 206 0)) := by
  rw [tape_at ]
  rfl
theorem tape_r  {P : Prop} : rP ((CH c S L R).2 (301)) 4 P = P := by
  rw [tape_at ]
  exact rP_mk
theorem tape_p1  {j pc : Nat} {ls : PL} {st : List Value} : pP ((CH c S L R).2 (301)) 4 1 (ftOf 4 1) (.int x) (301) (fun q => Wp d j pc ls st (hset (CH c S L R) (301) q) Q) = Wp d j pc ls st (CH c (su S 4 206 0 x) L R) Q := by
  rw [tape_at , ft4_1, pP_int (by omega) (by simp)]
  simp only [List.set_cons_zero, List.set_cons_succ]
  rw [tape_length ]
theorem t_byts : tC[2]? = some (some (.inr (2, 1600, (0, 4, 210, 0)))) := tq_eq (by decide +kernel)
theorem byts_at  : (CH c S L R).2 (302) = some (.inl (2, 1600, .inl (S 4 (210)))) := by
  have e := gov_in (b := 300) (S := S) (L := L) (R := R) (t_byts )
  rw [show 300 + (2) = 302 from rfl] at e
  exact e
theorem byts_wr  {k : Nat} : hset (CH c S L R) (302) (.inl (2, 1600, .inl (upd (S 4 (210)) k x))) = CH c (su S 4 (210) k x) L R := by
  have e := hs_row1 hokC (b := 300) (c := c) (S := S) (L := L) (R := R) (x := x) (i := k) (t_byts )
  rw [show 300 + (2) = 302 from rfl] at e
  exact e
theorem t_book0 : tC[3]? = some (some (.inl (0, [(0, 2, 100, 0), (0, 2, 101, 0), (0, 2, 102, 0), (0, 2, 103, 0), (3, 304, 0, 0), (3, 305, 0, 0), (3, 306, 0, 0), (3, 307, 0, 0), (3, 308, 0, 0), (3, 309, 0, 0), (3, 310, 0, 0), (3, 311, 0, 0), (3, 312, 0, 0), (3, 313, 0, 0), (3, 314, 0, 0), (3, 315, 0, 0), (3, 316, 0, 0)]))) := tq_eq (by decide +kernel)
theorem t_book1 : tC[25]? = some (some (.inl (0, [(0, 3, 100, 0), (0, 3, 101, 0), (0, 3, 102, 0), (0, 3, 103, 0), (3, 326, 0, 0), (3, 327, 0, 0), (3, 328, 0, 0), (3, 329, 0, 0), (3, 330, 0, 0), (3, 331, 0, 0), (3, 332, 0, 0), (3, 333, 0, 0), (3, 334, 0, 0), (3, 335, 0, 0), (3, 336, 0, 0), (3, 337, 0, 0), (3, 338, 0, 0)]))) := tq_eq (by decide +kernel)
theorem book_at (hb : b < 2) : (CH c S L R).2 (BA b) = some (.inr (0, [.int (S (2 + b) 100 0), .int (S (2 + b) 101 0), .int (S (2 + b) 102 0), .int (S (2 + b) 103 0), .ref (BA b + 1), .ref (BA b + 2), .ref (BA b + 3), .ref (BA b + 4), .ref (BA b + 5), .ref (BA b + 6), .ref (BA b + 7), .ref (BA b + 8), .ref (BA b + 9), .ref (BA b + 10), .ref (BA b + 11), .ref (BA b + 12), .ref (BA b + 13)])) := by
  obtain rfl | rfl : b = 0 ∨ b = 1 := by omega
  · exact gov_in (b := 300) (S := S) (L := L) (R := R) t_book0
  · exact gov_in (b := 300) (S := S) (L := L) (R := R) t_book1
theorem book_lampc (hb : b < 2) : hset (CH c S L R) (BA b) (.inr (0, [.int x, .int (S (2 + b) 101 0), .int (S (2 + b) 102 0), .int (S (2 + b) 103 0), .ref (BA b + 1), .ref (BA b + 2), .ref (BA b + 3), .ref (BA b + 4), .ref (BA b + 5), .ref (BA b + 6), .ref (BA b + 7), .ref (BA b + 8), .ref (BA b + 9), .ref (BA b + 10), .ref (BA b + 11), .ref (BA b + 12), .ref (BA b + 13)])) = CH c (su S (2 + b) 100 0 x) L R := by
  obtain rfl | rfl : b = 0 ∨ b = 1 := by omega
  · exact hs_fld hokC (b := 300) (k := 0) (c := c) (S := S) (L := L) (R := R) (x := x) t_book0 rfl
  · exact hs_fld hokC (b := 300) (k := 0) (c := c) (S := S) (L := L) (R := R) (x := x) t_book1 rfl
theorem book_roundc (hb : b < 2) : hset (CH c S L R) (BA b) (.inr (0, [.int (S (2 + b) 100 0), .int x, .int (S (2 + b) 102 0), .int (S (2 + b) 103 0), .ref (BA b + 1), .ref (BA b + 2), .ref (BA b + 3), .ref (BA b + 4), .ref (BA b + 5), .ref (BA b + 6), .ref (BA b + 7), .ref (BA b + 8), .ref (BA b + 9), .ref (BA b + 10), .ref (BA b + 11), .ref (BA b + 12), .ref (BA b + 13)])) = CH c (su S (2 + b) 101 0 x) L R := by
  obtain rfl | rfl : b = 0 ∨ b = 1 := by omega
  · exact hs_fld hokC (b := 300) (k := 1) (c := c) (S := S) (L := L) (R := R) (x := x) t_book0 rfl
  · exact hs_fld hokC (b := 300) (k := 1) (c := c) (S := S) (L := L) (R := R) (x := x) t_book1 rfl
theorem book_actc (hb : b < 2) : hset (CH c S L R) (BA b) (.inr (0, [.int (S (2 + b) 100 0), .int (S (2 + b) 101 0), .int x, .int (S (2 + b) 103 0), .ref (BA b + 1), .ref (BA b + 2), .ref (BA b + 3), .ref (BA b + 4), .ref (BA b + 5), .ref (BA b + 6), .ref (BA b + 7), .ref (BA b + 8), .ref (BA b + 9), .ref (BA b + 10), .ref (BA b + 11), .ref (BA b + 12), .ref (BA b + 13)])) = CH c (su S (2 + b) 102 0 x) L R := by
  obtain rfl | rfl : b = 0 ∨ b = 1 := by omega
  · exact hs_fld hokC (b := 300) (k := 2) (c := c) (S := S) (L := L) (R := R) (x := x) t_book0 rfl
  · exact hs_fld hokC (b := 300) (k := 2) (c := c) (S := S) (L := L) (R := R) (x := x) t_book1 rfl
theorem book_compc (hb : b < 2) : hset (CH c S L R) (BA b) (.inr (0, [.int (S (2 + b) 100 0), .int (S (2 + b) 101 0), .int (S (2 + b) 102 0), .int x, .ref (BA b + 1), .ref (BA b + 2), .ref (BA b + 3), .ref (BA b + 4), .ref (BA b + 5), .ref (BA b + 6), .ref (BA b + 7), .ref (BA b + 8), .ref (BA b + 9), .ref (BA b + 10), .ref (BA b + 11), .ref (BA b + 12), .ref (BA b + 13)])) = CH c (su S (2 + b) 103 0 x) L R := by
  obtain rfl | rfl : b = 0 ∨ b = 1 := by omega
  · exact hs_fld hokC (b := 300) (k := 3) (c := c) (S := S) (L := L) (R := R) (x := x) t_book0 rfl
  · exact hs_fld hokC (b := 300) (k := 3) (c := c) (S := S) (L := L) (R := R) (x := x) t_book1 rfl
theorem book_g0 (hb : b < 2) {K : Value → Prop} : gP ((CH c S L R).2 (BA b)) 0 0 K = K (.int (S (2 + b) 100 0)) := by
  rw [book_at hb]
  rfl
theorem book_g1 (hb : b < 2) {K : Value → Prop} : gP ((CH c S L R).2 (BA b)) 0 1 K = K (.int (S (2 + b) 101 0)) := by
  rw [book_at hb]
  rfl
theorem book_g2 (hb : b < 2) {K : Value → Prop} : gP ((CH c S L R).2 (BA b)) 0 2 K = K (.int (S (2 + b) 102 0)) := by
  rw [book_at hb]
  rfl
theorem book_g3 (hb : b < 2) {K : Value → Prop} : gP ((CH c S L R).2 (BA b)) 0 3 K = K (.int (S (2 + b) 103 0)) := by
  rw [book_at hb]
  rfl
theorem book_g4 (hb : b < 2) {K : Value → Prop} : gP ((CH c S L R).2 (BA b)) 0 4 K = K (.ref (BA b + 1)) := by
  rw [book_at hb]
  rfl
theorem book_g5 (hb : b < 2) {K : Value → Prop} : gP ((CH c S L R).2 (BA b)) 0 5 K = K (.ref (BA b + 2)) := by
  rw [book_at hb]
  rfl
theorem book_g6 (hb : b < 2) {K : Value → Prop} : gP ((CH c S L R).2 (BA b)) 0 6 K = K (.ref (BA b + 3)) := by
  rw [book_at hb]
  rfl
theorem book_g7 (hb : b < 2) {K : Value → Prop} : gP ((CH c S L R).2 (BA b)) 0 7 K = K (.ref (BA b + 4)) := by
  rw [book_at hb]
  rfl
theorem book_g8 (hb : b < 2) {K : Value → Prop} : gP ((CH c S L R).2 (BA b)) 0 8 K = K (.ref (BA b + 5)) := by
  rw [book_at hb]
  rfl
theorem book_g9 (hb : b < 2) {K : Value → Prop} : gP ((CH c S L R).2 (BA b)) 0 9 K = K (.ref (BA b + 6)) := by
  rw [book_at hb]
  rfl
theorem book_g10 (hb : b < 2) {K : Value → Prop} : gP ((CH c S L R).2 (BA b)) 0 10 K = K (.ref (BA b + 7)) := by
  rw [book_at hb]
  rfl
theorem book_g11 (hb : b < 2) {K : Value → Prop} : gP ((CH c S L R).2 (BA b)) 0 11 K = K (.ref (BA b + 8)) := by
  rw [book_at hb]
  rfl
theorem book_g12 (hb : b < 2) {K : Value → Prop} : gP ((CH c S L R).2 (BA b)) 0 12 K = K (.ref (BA b + 9)) := by
  rw [book_at hb]
  rfl
theorem book_g13 (hb : b < 2) {K : Value → Prop} : gP ((CH c S L R).2 (BA b)) 0 13 K = K (.ref (BA b + 10)) := by
  rw [book_at hb]
  rfl
theorem book_g14 (hb : b < 2) {K : Value → Prop} : gP ((CH c S L R).2 (BA b)) 0 14 K = K (.ref (BA b + 11)) := by
  rw [book_at hb]
  rfl
theorem book_g15 (hb : b < 2) {K : Value → Prop} : gP ((CH c S L R).2 (BA b)) 0 15 K = K (.ref (BA b + 12)) := by
  rw [book_at hb]
  rfl
theorem book_g16 (hb : b < 2) {K : Value → Prop} : gP ((CH c S L R).2 (BA b)) 0 16 K = K (.ref (BA b + 13)) := by
  rw [book_at hb]
  rfl
theorem book_r (hb : b < 2) {P : Prop} : rP ((CH c S L R).2 (BA b)) 0 P = P := by
  rw [book_at hb]
  exact rP_mk
theorem book_p0 (hb : b < 2) {j pc : Nat} {ls : PL} {st : List Value} : pP ((CH c S L R).2 (BA b)) 0 0 (ftOf 0 0) (.int x) (BA b) (fun q => Wp d j pc ls st (hset (CH c S L R) (BA b) q) Q) = Wp d j pc ls st (CH c (su S (2 + b) 100 0 x) L R) Q := by
  rw [book_at hb, ft0_0, pP_int (by unfold BA; omega) (by simp)]
  simp only [List.set_cons_zero, List.set_cons_succ]
  rw [book_lampc hb]
theorem book_p1 (hb : b < 2) {j pc : Nat} {ls : PL} {st : List Value} : pP ((CH c S L R).2 (BA b)) 0 1 (ftOf 0 1) (.int x) (BA b) (fun q => Wp d j pc ls st (hset (CH c S L R) (BA b) q) Q) = Wp d j pc ls st (CH c (su S (2 + b) 101 0 x) L R) Q := by
  rw [book_at hb, ft0_1, pP_int (by unfold BA; omega) (by simp)]
  simp only [List.set_cons_zero, List.set_cons_succ]
  rw [book_roundc hb]
theorem book_p2 (hb : b < 2) {j pc : Nat} {ls : PL} {st : List Value} : pP ((CH c S L R).2 (BA b)) 0 2 (ftOf 0 2) (.int x) (BA b) (fun q => Wp d j pc ls st (hset (CH c S L R) (BA b) q) Q) = Wp d j pc ls st (CH c (su S (2 + b) 102 0 x) L R) Q := by
  rw [book_at hb, ft0_2, pP_int (by unfold BA; omega) (by simp)]
  simp only [List.set_cons_zero, List.set_cons_succ]
  rw [book_actc hb]
theorem book_p3 (hb : b < 2) {j pc : Nat} {ls : PL} {st : List Value} : pP ((CH c S L R).2 (BA b)) 0 3 (ftOf 0 3) (.int x) (BA b) (fun q => Wp d j pc ls st (hset (CH c S L R) (BA b) q) Q) = Wp d j pc ls st (CH c (su S (2 + b) 103 0 x) L R) Q := by
  rw [book_at hb, ft0_3, pP_int (by unfold BA; omega) (by simp)]
  simp only [List.set_cons_zero, List.set_cons_succ]
  rw [book_compc hb]
theorem t_b_posts : ∀ b < 2, tC[4 + 22 * b + 0]? = some (some (.inr (0, 10, (0, (2 + b), 104, 0)))) := fun b hb => tq_eq ((by decide +kernel : ∀ b < 2, tq (tC[4 + 22 * b + 0]?) (some (.inr (0, 10, (0, (2 + b), 104, 0)))) = true) b hb)
theorem b_posts_at (hb : b < 2) : (CH c S L R).2 (BA b + 1) = some (.inl (0, 10, .inl (S (2 + b) (104)))) := by
  have e := gov_in (b := 300) (S := S) (L := L) (R := R) (t_b_posts b hb)
  rw [show 300 + (4 + 22 * b + 0) = BA b + 1 from (by unfold BA; omega)] at e
  exact e
theorem b_posts_wr (hb : b < 2) {k : Nat} : hset (CH c S L R) (BA b + 1) (.inl (0, 10, .inl (upd (S (2 + b) (104)) k x))) = CH c (su S (2 + b) (104) k x) L R := by
  have e := hs_row1 hokC (b := 300) (c := c) (S := S) (L := L) (R := R) (x := x) (i := k) (t_b_posts b hb)
  rw [show 300 + (4 + 22 * b + 0) = BA b + 1 from (by unfold BA; omega)] at e
  exact e
theorem b_posts_get (hb : b < 2) : Cp (d + 1) 115 [.ref (BA b + 1), .int x] (CH c S L R) Q = Q (.inl (some (.int (gt S (2 + b) (104) 10 x))), CH c S L R) := by
  rw [c115 (b_posts_at hb) (by omega)]
  rfl
theorem b_posts_put (hb : b < 2) : Cp (d + 1) 116 [.ref (BA b + 1), .int x, .int y] (CH c S L R) Q = Q (.inl none, CH c (pt S (2 + b) (104) 10 x y) L R) := by
  rw [c116 (b_posts_at hb) (by unfold BA; omega) (by omega), b_posts_wr hb, pt]
  by_cases h : inB x 10 = true
  · simp only [if_pos h]
  · simp only [if_neg h]
theorem t_b_rooms : ∀ b < 2, tC[4 + 22 * b + 1]? = some (some (.inr (0, 10, (0, (2 + b), 105, 0)))) := fun b hb => tq_eq ((by decide +kernel : ∀ b < 2, tq (tC[4 + 22 * b + 1]?) (some (.inr (0, 10, (0, (2 + b), 105, 0)))) = true) b hb)
theorem b_rooms_at (hb : b < 2) : (CH c S L R).2 (BA b + 2) = some (.inl (0, 10, .inl (S (2 + b) (105)))) := by
  have e := gov_in (b := 300) (S := S) (L := L) (R := R) (t_b_rooms b hb)
  rw [show 300 + (4 + 22 * b + 1) = BA b + 2 from (by unfold BA; omega)] at e
  exact e
theorem b_rooms_wr (hb : b < 2) {k : Nat} : hset (CH c S L R) (BA b + 2) (.inl (0, 10, .inl (upd (S (2 + b) (105)) k x))) = CH c (su S (2 + b) (105) k x) L R := by
  have e := hs_row1 hokC (b := 300) (c := c) (S := S) (L := L) (R := R) (x := x) (i := k) (t_b_rooms b hb)
  rw [show 300 + (4 + 22 * b + 1) = BA b + 2 from (by unfold BA; omega)] at e
  exact e
theorem b_rooms_get (hb : b < 2) : Cp (d + 1) 115 [.ref (BA b + 2), .int x] (CH c S L R) Q = Q (.inl (some (.int (gt S (2 + b) (105) 10 x))), CH c S L R) := by
  rw [c115 (b_rooms_at hb) (by omega)]
  rfl
theorem b_rooms_put (hb : b < 2) : Cp (d + 1) 116 [.ref (BA b + 2), .int x, .int y] (CH c S L R) Q = Q (.inl none, CH c (pt S (2 + b) (105) 10 x y) L R) := by
  rw [c116 (b_rooms_at hb) (by unfold BA; omega) (by omega), b_rooms_wr hb, pt]
  by_cases h : inB x 10 = true
  · simp only [if_pos h]
  · simp only [if_neg h]
theorem t_b_blocks : ∀ b < 2, tC[4 + 22 * b + 2]? = some (some (.inr (0, 6, (0, (2 + b), 106, 0)))) := fun b hb => tq_eq ((by decide +kernel : ∀ b < 2, tq (tC[4 + 22 * b + 2]?) (some (.inr (0, 6, (0, (2 + b), 106, 0)))) = true) b hb)
theorem b_blocks_at (hb : b < 2) : (CH c S L R).2 (BA b + 3) = some (.inl (0, 6, .inl (S (2 + b) (106)))) := by
  have e := gov_in (b := 300) (S := S) (L := L) (R := R) (t_b_blocks b hb)
  rw [show 300 + (4 + 22 * b + 2) = BA b + 3 from (by unfold BA; omega)] at e
  exact e
theorem b_blocks_wr (hb : b < 2) {k : Nat} : hset (CH c S L R) (BA b + 3) (.inl (0, 6, .inl (upd (S (2 + b) (106)) k x))) = CH c (su S (2 + b) (106) k x) L R := by
  have e := hs_row1 hokC (b := 300) (c := c) (S := S) (L := L) (R := R) (x := x) (i := k) (t_b_blocks b hb)
  rw [show 300 + (4 + 22 * b + 2) = BA b + 3 from (by unfold BA; omega)] at e
  exact e
theorem b_blocks_get (hb : b < 2) : Cp (d + 1) 115 [.ref (BA b + 3), .int x] (CH c S L R) Q = Q (.inl (some (.int (gt S (2 + b) (106) 6 x))), CH c S L R) := by
  rw [c115 (b_blocks_at hb) (by omega)]
  rfl
theorem b_blocks_put (hb : b < 2) : Cp (d + 1) 116 [.ref (BA b + 3), .int x, .int y] (CH c S L R) Q = Q (.inl none, CH c (pt S (2 + b) (106) 6 x y) L R) := by
  rw [c116 (b_blocks_at hb) (by unfold BA; omega) (by omega), b_blocks_wr hb, pt]
  by_cases h : inB x 6 = true
  · simp only [if_pos h]
  · simp only [if_neg h]
theorem t_b_words : ∀ b < 2, tC[4 + 22 * b + 3]? = some (some (.inr (0, 80, (0, (2 + b), 107, 0)))) := fun b hb => tq_eq ((by decide +kernel : ∀ b < 2, tq (tC[4 + 22 * b + 3]?) (some (.inr (0, 80, (0, (2 + b), 107, 0)))) = true) b hb)
theorem b_words_at (hb : b < 2) : (CH c S L R).2 (BA b + 4) = some (.inl (0, 80, .inl (S (2 + b) (107)))) := by
  have e := gov_in (b := 300) (S := S) (L := L) (R := R) (t_b_words b hb)
  rw [show 300 + (4 + 22 * b + 3) = BA b + 4 from (by unfold BA; omega)] at e
  exact e
theorem b_words_wr (hb : b < 2) {k : Nat} : hset (CH c S L R) (BA b + 4) (.inl (0, 80, .inl (upd (S (2 + b) (107)) k x))) = CH c (su S (2 + b) (107) k x) L R := by
  have e := hs_row1 hokC (b := 300) (c := c) (S := S) (L := L) (R := R) (x := x) (i := k) (t_b_words b hb)
  rw [show 300 + (4 + 22 * b + 3) = BA b + 4 from (by unfold BA; omega)] at e
  exact e
theorem b_words_get (hb : b < 2) : Cp (d + 1) 115 [.ref (BA b + 4), .int x] (CH c S L R) Q = Q (.inl (some (.int (gt S (2 + b) (107) 80 x))), CH c S L R) := by
  rw [c115 (b_words_at hb) (by omega)]
  rfl
theorem b_words_put (hb : b < 2) : Cp (d + 1) 116 [.ref (BA b + 4), .int x, .int y] (CH c S L R) Q = Q (.inl none, CH c (pt S (2 + b) (107) 80 x y) L R) := by
  rw [c116 (b_words_at hb) (by unfold BA; omega) (by omega), b_words_wr hb, pt]
  by_cases h : inB x 80 = true
  · simp only [if_pos h]
  · simp only [if_neg h]
theorem t_b_values : ∀ b < 2, tC[4 + 22 * b + 4]? = some (some (.inr (0, 80, (0, (2 + b), 108, 0)))) := fun b hb => tq_eq ((by decide +kernel : ∀ b < 2, tq (tC[4 + 22 * b + 4]?) (some (.inr (0, 80, (0, (2 + b), 108, 0)))) = true) b hb)
theorem b_values_at (hb : b < 2) : (CH c S L R).2 (BA b + 5) = some (.inl (0, 80, .inl (S (2 + b) (108)))) := by
  have e := gov_in (b := 300) (S := S) (L := L) (R := R) (t_b_values b hb)
  rw [show 300 + (4 + 22 * b + 4) = BA b + 5 from (by unfold BA; omega)] at e
  exact e
theorem b_values_wr (hb : b < 2) {k : Nat} : hset (CH c S L R) (BA b + 5) (.inl (0, 80, .inl (upd (S (2 + b) (108)) k x))) = CH c (su S (2 + b) (108) k x) L R := by
  have e := hs_row1 hokC (b := 300) (c := c) (S := S) (L := L) (R := R) (x := x) (i := k) (t_b_values b hb)
  rw [show 300 + (4 + 22 * b + 4) = BA b + 5 from (by unfold BA; omega)] at e
  exact e
theorem b_values_get (hb : b < 2) : Cp (d + 1) 115 [.ref (BA b + 5), .int x] (CH c S L R) Q = Q (.inl (some (.int (gt S (2 + b) (108) 80 x))), CH c S L R) := by
  rw [c115 (b_values_at hb) (by omega)]
  rfl
theorem b_values_put (hb : b < 2) : Cp (d + 1) 116 [.ref (BA b + 5), .int x, .int y] (CH c S L R) Q = Q (.inl none, CH c (pt S (2 + b) (108) 80 x y) L R) := by
  rw [c116 (b_values_at hb) (by unfold BA; omega) (by omega), b_values_wr hb, pt]
  by_cases h : inB x 80 = true
  · simp only [if_pos h]
  · simp only [if_neg h]
theorem t_b_behind : ∀ b < 2, tC[4 + 22 * b + 5]? = some (some (.inr (0, 80, (0, (2 + b), 109, 0)))) := fun b hb => tq_eq ((by decide +kernel : ∀ b < 2, tq (tC[4 + 22 * b + 5]?) (some (.inr (0, 80, (0, (2 + b), 109, 0)))) = true) b hb)
theorem b_behind_at (hb : b < 2) : (CH c S L R).2 (BA b + 6) = some (.inl (0, 80, .inl (S (2 + b) (109)))) := by
  have e := gov_in (b := 300) (S := S) (L := L) (R := R) (t_b_behind b hb)
  rw [show 300 + (4 + 22 * b + 5) = BA b + 6 from (by unfold BA; omega)] at e
  exact e
theorem b_behind_wr (hb : b < 2) {k : Nat} : hset (CH c S L R) (BA b + 6) (.inl (0, 80, .inl (upd (S (2 + b) (109)) k x))) = CH c (su S (2 + b) (109) k x) L R := by
  have e := hs_row1 hokC (b := 300) (c := c) (S := S) (L := L) (R := R) (x := x) (i := k) (t_b_behind b hb)
  rw [show 300 + (4 + 22 * b + 5) = BA b + 6 from (by unfold BA; omega)] at e
  exact e
theorem b_behind_get (hb : b < 2) : Cp (d + 1) 115 [.ref (BA b + 6), .int x] (CH c S L R) Q = Q (.inl (some (.int (gt S (2 + b) (109) 80 x))), CH c S L R) := by
  rw [c115 (b_behind_at hb) (by omega)]
  rfl
theorem b_behind_put (hb : b < 2) : Cp (d + 1) 116 [.ref (BA b + 6), .int x, .int y] (CH c S L R) Q = Q (.inl none, CH c (pt S (2 + b) (109) 80 x y) L R) := by
  rw [c116 (b_behind_at hb) (by unfold BA; omega) (by omega), b_behind_wr hb, pt]
  by_cases h : inB x 80 = true
  · simp only [if_pos h]
  · simp only [if_neg h]
theorem t_b_bodies : ∀ b < 2, tC[4 + 22 * b + 6]? = some (some (.inr (0, 80, (0, (2 + b), 110, 0)))) := fun b hb => tq_eq ((by decide +kernel : ∀ b < 2, tq (tC[4 + 22 * b + 6]?) (some (.inr (0, 80, (0, (2 + b), 110, 0)))) = true) b hb)
theorem b_bodies_at (hb : b < 2) : (CH c S L R).2 (BA b + 7) = some (.inl (0, 80, .inl (S (2 + b) (110)))) := by
  have e := gov_in (b := 300) (S := S) (L := L) (R := R) (t_b_bodies b hb)
  rw [show 300 + (4 + 22 * b + 6) = BA b + 7 from (by unfold BA; omega)] at e
  exact e
theorem b_bodies_wr (hb : b < 2) {k : Nat} : hset (CH c S L R) (BA b + 7) (.inl (0, 80, .inl (upd (S (2 + b) (110)) k x))) = CH c (su S (2 + b) (110) k x) L R := by
  have e := hs_row1 hokC (b := 300) (c := c) (S := S) (L := L) (R := R) (x := x) (i := k) (t_b_bodies b hb)
  rw [show 300 + (4 + 22 * b + 6) = BA b + 7 from (by unfold BA; omega)] at e
  exact e
theorem b_bodies_get (hb : b < 2) : Cp (d + 1) 115 [.ref (BA b + 7), .int x] (CH c S L R) Q = Q (.inl (some (.int (gt S (2 + b) (110) 80 x))), CH c S L R) := by
  rw [c115 (b_bodies_at hb) (by omega)]
  rfl
theorem b_bodies_put (hb : b < 2) : Cp (d + 1) 116 [.ref (BA b + 7), .int x, .int y] (CH c S L R) Q = Q (.inl none, CH c (pt S (2 + b) (110) 80 x y) L R) := by
  rw [c116 (b_bodies_at hb) (by unfold BA; omega) (by omega), b_bodies_wr hb, pt]
  by_cases h : inB x 80 = true
  · simp only [if_pos h]
  · simp only [if_neg h]
theorem t_b_elses : ∀ b < 2, tC[4 + 22 * b + 7]? = some (some (.inr (0, 80, (0, (2 + b), 111, 0)))) := fun b hb => tq_eq ((by decide +kernel : ∀ b < 2, tq (tC[4 + 22 * b + 7]?) (some (.inr (0, 80, (0, (2 + b), 111, 0)))) = true) b hb)
theorem b_elses_at (hb : b < 2) : (CH c S L R).2 (BA b + 8) = some (.inl (0, 80, .inl (S (2 + b) (111)))) := by
  have e := gov_in (b := 300) (S := S) (L := L) (R := R) (t_b_elses b hb)
  rw [show 300 + (4 + 22 * b + 7) = BA b + 8 from (by unfold BA; omega)] at e
  exact e
theorem b_elses_wr (hb : b < 2) {k : Nat} : hset (CH c S L R) (BA b + 8) (.inl (0, 80, .inl (upd (S (2 + b) (111)) k x))) = CH c (su S (2 + b) (111) k x) L R := by
  have e := hs_row1 hokC (b := 300) (c := c) (S := S) (L := L) (R := R) (x := x) (i := k) (t_b_elses b hb)
  rw [show 300 + (4 + 22 * b + 7) = BA b + 8 from (by unfold BA; omega)] at e
  exact e
theorem b_elses_get (hb : b < 2) : Cp (d + 1) 115 [.ref (BA b + 8), .int x] (CH c S L R) Q = Q (.inl (some (.int (gt S (2 + b) (111) 80 x))), CH c S L R) := by
  rw [c115 (b_elses_at hb) (by omega)]
  rfl
theorem b_elses_put (hb : b < 2) : Cp (d + 1) 116 [.ref (BA b + 8), .int x, .int y] (CH c S L R) Q = Q (.inl none, CH c (pt S (2 + b) (111) 80 x y) L R) := by
  rw [c116 (b_elses_at hb) (by unfold BA; omega) (by omega), b_elses_wr hb, pt]
  by_cases h : inB x 80 = true
  · simp only [if_pos h]
  · simp only [if_neg h]
theorem t_b_fstc : ∀ b < 2, tC[4 + 22 * b + 8]? = some (some (.inr (0, 80, (0, (2 + b), 112, 0)))) := fun b hb => tq_eq ((by decide +kernel : ∀ b < 2, tq (tC[4 + 22 * b + 8]?) (some (.inr (0, 80, (0, (2 + b), 112, 0)))) = true) b hb)
theorem b_fstc_at (hb : b < 2) : (CH c S L R).2 (BA b + 9) = some (.inl (0, 80, .inl (S (2 + b) (112)))) := by
  have e := gov_in (b := 300) (S := S) (L := L) (R := R) (t_b_fstc b hb)
  rw [show 300 + (4 + 22 * b + 8) = BA b + 9 from (by unfold BA; omega)] at e
  exact e
theorem b_fstc_wr (hb : b < 2) {k : Nat} : hset (CH c S L R) (BA b + 9) (.inl (0, 80, .inl (upd (S (2 + b) (112)) k x))) = CH c (su S (2 + b) (112) k x) L R := by
  have e := hs_row1 hokC (b := 300) (c := c) (S := S) (L := L) (R := R) (x := x) (i := k) (t_b_fstc b hb)
  rw [show 300 + (4 + 22 * b + 8) = BA b + 9 from (by unfold BA; omega)] at e
  exact e
theorem b_fstc_get (hb : b < 2) : Cp (d + 1) 115 [.ref (BA b + 9), .int x] (CH c S L R) Q = Q (.inl (some (.int (gt S (2 + b) (112) 80 x))), CH c S L R) := by
  rw [c115 (b_fstc_at hb) (by omega)]
  rfl
theorem b_fstc_put (hb : b < 2) : Cp (d + 1) 116 [.ref (BA b + 9), .int x, .int y] (CH c S L R) Q = Q (.inl none, CH c (pt S (2 + b) (112) 80 x y) L R) := by
  rw [c116 (b_fstc_at hb) (by unfold BA; omega) (by omega), b_fstc_wr hb, pt]
  by_cases h : inB x 80 = true
  · simp only [if_pos h]
  · simp only [if_neg h]
theorem t_b_endc : ∀ b < 2, tC[4 + 22 * b + 9]? = some (some (.inr (0, 80, (0, (2 + b), 113, 0)))) := fun b hb => tq_eq ((by decide +kernel : ∀ b < 2, tq (tC[4 + 22 * b + 9]?) (some (.inr (0, 80, (0, (2 + b), 113, 0)))) = true) b hb)
theorem b_endc_at (hb : b < 2) : (CH c S L R).2 (BA b + 10) = some (.inl (0, 80, .inl (S (2 + b) (113)))) := by
  have e := gov_in (b := 300) (S := S) (L := L) (R := R) (t_b_endc b hb)
  rw [show 300 + (4 + 22 * b + 9) = BA b + 10 from (by unfold BA; omega)] at e
  exact e
theorem b_endc_wr (hb : b < 2) {k : Nat} : hset (CH c S L R) (BA b + 10) (.inl (0, 80, .inl (upd (S (2 + b) (113)) k x))) = CH c (su S (2 + b) (113) k x) L R := by
  have e := hs_row1 hokC (b := 300) (c := c) (S := S) (L := L) (R := R) (x := x) (i := k) (t_b_endc b hb)
  rw [show 300 + (4 + 22 * b + 9) = BA b + 10 from (by unfold BA; omega)] at e
  exact e
theorem b_endc_get (hb : b < 2) : Cp (d + 1) 115 [.ref (BA b + 10), .int x] (CH c S L R) Q = Q (.inl (some (.int (gt S (2 + b) (113) 80 x))), CH c S L R) := by
  rw [c115 (b_endc_at hb) (by omega)]
  rfl
theorem b_endc_put (hb : b < 2) : Cp (d + 1) 116 [.ref (BA b + 10), .int x, .int y] (CH c S L R) Q = Q (.inl none, CH c (pt S (2 + b) (113) 80 x y) L R) := by
  rw [c116 (b_endc_at hb) (by unfold BA; omega) (by omega), b_endc_wr hb, pt]
  by_cases h : inB x 80 = true
  · simp only [if_pos h]
  · simp only [if_neg h]
theorem t_b_lefts : ∀ b < 2, tC[4 + 22 * b + 10]? = some (some (.inr (0, 100, (0, (2 + b), 114, 0)))) := fun b hb => tq_eq ((by decide +kernel : ∀ b < 2, tq (tC[4 + 22 * b + 10]?) (some (.inr (0, 100, (0, (2 + b), 114, 0)))) = true) b hb)
theorem b_lefts_at (hb : b < 2) : (CH c S L R).2 (BA b + 11) = some (.inl (0, 100, .inl (S (2 + b) (114)))) := by
  have e := gov_in (b := 300) (S := S) (L := L) (R := R) (t_b_lefts b hb)
  rw [show 300 + (4 + 22 * b + 10) = BA b + 11 from (by unfold BA; omega)] at e
  exact e
theorem b_lefts_wr (hb : b < 2) {k : Nat} : hset (CH c S L R) (BA b + 11) (.inl (0, 100, .inl (upd (S (2 + b) (114)) k x))) = CH c (su S (2 + b) (114) k x) L R := by
  have e := hs_row1 hokC (b := 300) (c := c) (S := S) (L := L) (R := R) (x := x) (i := k) (t_b_lefts b hb)
  rw [show 300 + (4 + 22 * b + 10) = BA b + 11 from (by unfold BA; omega)] at e
  exact e
theorem b_lefts_get (hb : b < 2) : Cp (d + 1) 115 [.ref (BA b + 11), .int x] (CH c S L R) Q = Q (.inl (some (.int (gt S (2 + b) (114) 100 x))), CH c S L R) := by
  rw [c115 (b_lefts_at hb) (by omega)]
  rfl
theorem b_lefts_put (hb : b < 2) : Cp (d + 1) 116 [.ref (BA b + 11), .int x, .int y] (CH c S L R) Q = Q (.inl none, CH c (pt S (2 + b) (114) 100 x y) L R) := by
  rw [c116 (b_lefts_at hb) (by unfold BA; omega) (by omega), b_lefts_wr hb, pt]
  by_cases h : inB x 100 = true
  · simp only [if_pos h]
  · simp only [if_neg h]
theorem t_b_signs : ∀ b < 2, tC[4 + 22 * b + 11]? = some (some (.inr (0, 100, (0, (2 + b), 115, 0)))) := fun b hb => tq_eq ((by decide +kernel : ∀ b < 2, tq (tC[4 + 22 * b + 11]?) (some (.inr (0, 100, (0, (2 + b), 115, 0)))) = true) b hb)
theorem b_signs_at (hb : b < 2) : (CH c S L R).2 (BA b + 12) = some (.inl (0, 100, .inl (S (2 + b) (115)))) := by
  have e := gov_in (b := 300) (S := S) (L := L) (R := R) (t_b_signs b hb)
  rw [show 300 + (4 + 22 * b + 11) = BA b + 12 from (by unfold BA; omega)] at e
  exact e
theorem b_signs_wr (hb : b < 2) {k : Nat} : hset (CH c S L R) (BA b + 12) (.inl (0, 100, .inl (upd (S (2 + b) (115)) k x))) = CH c (su S (2 + b) (115) k x) L R := by
  have e := hs_row1 hokC (b := 300) (c := c) (S := S) (L := L) (R := R) (x := x) (i := k) (t_b_signs b hb)
  rw [show 300 + (4 + 22 * b + 11) = BA b + 12 from (by unfold BA; omega)] at e
  exact e
theorem b_signs_get (hb : b < 2) : Cp (d + 1) 115 [.ref (BA b + 12), .int x] (CH c S L R) Q = Q (.inl (some (.int (gt S (2 + b) (115) 100 x))), CH c S L R) := by
  rw [c115 (b_signs_at hb) (by omega)]
  rfl
theorem b_signs_put (hb : b < 2) : Cp (d + 1) 116 [.ref (BA b + 12), .int x, .int y] (CH c S L R) Q = Q (.inl none, CH c (pt S (2 + b) (115) 100 x y) L R) := by
  rw [c116 (b_signs_at hb) (by unfold BA; omega) (by omega), b_signs_wr hb, pt]
  by_cases h : inB x 100 = true
  · simp only [if_pos h]
  · simp only [if_neg h]
theorem t_b_rights : ∀ b < 2, tC[4 + 22 * b + 12]? = some (some (.inr (0, 100, (0, (2 + b), 116, 0)))) := fun b hb => tq_eq ((by decide +kernel : ∀ b < 2, tq (tC[4 + 22 * b + 12]?) (some (.inr (0, 100, (0, (2 + b), 116, 0)))) = true) b hb)
theorem b_rights_at (hb : b < 2) : (CH c S L R).2 (BA b + 13) = some (.inl (0, 100, .inl (S (2 + b) (116)))) := by
  have e := gov_in (b := 300) (S := S) (L := L) (R := R) (t_b_rights b hb)
  rw [show 300 + (4 + 22 * b + 12) = BA b + 13 from (by unfold BA; omega)] at e
  exact e
theorem b_rights_wr (hb : b < 2) {k : Nat} : hset (CH c S L R) (BA b + 13) (.inl (0, 100, .inl (upd (S (2 + b) (116)) k x))) = CH c (su S (2 + b) (116) k x) L R := by
  have e := hs_row1 hokC (b := 300) (c := c) (S := S) (L := L) (R := R) (x := x) (i := k) (t_b_rights b hb)
  rw [show 300 + (4 + 22 * b + 12) = BA b + 13 from (by unfold BA; omega)] at e
  exact e
theorem b_rights_get (hb : b < 2) : Cp (d + 1) 115 [.ref (BA b + 13), .int x] (CH c S L R) Q = Q (.inl (some (.int (gt S (2 + b) (116) 100 x))), CH c S L R) := by
  rw [c115 (b_rights_at hb) (by omega)]
  rfl
theorem b_rights_put (hb : b < 2) : Cp (d + 1) 116 [.ref (BA b + 13), .int x, .int y] (CH c S L R) Q = Q (.inl none, CH c (pt S (2 + b) (116) 100 x y) L R) := by
  rw [c116 (b_rights_at hb) (by unfold BA; omega) (by omega), b_rights_wr hb, pt]
  by_cases h : inB x 100 = true
  · simp only [if_pos h]
  · simp only [if_neg h]
theorem t_rdr : tC[17]? = some (some (.inl (3, [(3, 318, 0, 0), (3, 323, 0, 0), (3, 324, 0, 0), (2, 4, 208, 0), (0, 4, 200, 0), (0, 4, 201, 0), (0, 4, 202, 0), (1, 4, 0, 0), (0, 4, 203, 0), (0, 4, 204, 0)]))) := tq_eq (by decide +kernel)
theorem rdr_at  : (CH c S L R).2 (317) = some (.inr (3, [.ref (318), .ref (323), .ref (324), .ref (S 4 208 0).toNatClampNeg, .int (S 4 200 0), .int (S 4 201 0), .int (S 4 202 0), .long (L 4 0 0), .int (S 4 203 0), .int (S 4 204 0)])) := by
  have e := gov_in (b := 300) (S := S) (L := L) (R := R) (t_rdr )
  rw [show 300 + (17) = 317 from rfl] at e
  exact e
theorem rdr_book  (hb : b < 2) : hset (CH c S L R) (317) (.inr (3, [.ref (318), .ref (323), .ref (324), .ref (BA b), .int (S 4 200 0), .int (S 4 201 0), .int (S 4 202 0), .long (L 4 0 0), .int (S 4 203 0), .int (S 4 204 0)])) = CH c (su S 4 208 0 (bk b)) L R := by
  have e := hs_ref hokC (b := 300) (k := 3) (c := c) (S := S) (L := L) (R := R) (x := bk b) (t_rdr ) rfl
  rw [show 300 + (17) = 317 from rfl] at e
  rw [bk_BA hb] at e
  exact e
theorem rdr_at_  : hset (CH c S L R) (317) (.inr (3, [.ref (318), .ref (323), .ref (324), .ref (S 4 208 0).toNatClampNeg, .int x, .int (S 4 201 0), .int (S 4 202 0), .long (L 4 0 0), .int (S 4 203 0), .int (S 4 204 0)])) = CH c (su S 4 200 0 x) L R := by
  have e := hs_fld hokC (b := 300) (k := 4) (c := c) (S := S) (L := L) (R := R) (x := x) (t_rdr ) rfl
  rw [show 300 + (17) = 317 from rfl] at e
  exact e
theorem rdr_kind  : hset (CH c S L R) (317) (.inr (3, [.ref (318), .ref (323), .ref (324), .ref (S 4 208 0).toNatClampNeg, .int (S 4 200 0), .int x, .int (S 4 202 0), .long (L 4 0 0), .int (S 4 203 0), .int (S 4 204 0)])) = CH c (su S 4 201 0 x) L R := by
  have e := hs_fld hokC (b := 300) (k := 5) (c := c) (S := S) (L := L) (R := R) (x := x) (t_rdr ) rfl
  rw [show 300 + (17) = 317 from rfl] at e
  exact e
theorem rdr_start  : hset (CH c S L R) (317) (.inr (3, [.ref (318), .ref (323), .ref (324), .ref (S 4 208 0).toNatClampNeg, .int (S 4 200 0), .int (S 4 201 0), .int x, .long (L 4 0 0), .int (S 4 203 0), .int (S 4 204 0)])) = CH c (su S 4 202 0 x) L R := by
  have e := hs_fld hokC (b := 300) (k := 6) (c := c) (S := S) (L := L) (R := R) (x := x) (t_rdr ) rfl
  rw [show 300 + (17) = 317 from rfl] at e
  exact e
theorem rdr_value  : hset (CH c S L R) (317) (.inr (3, [.ref (318), .ref (323), .ref (324), .ref (S 4 208 0).toNatClampNeg, .int (S 4 200 0), .int (S 4 201 0), .int (S 4 202 0), .long z, .int (S 4 203 0), .int (S 4 204 0)])) = CH c S (sl L 4 0 0 z) R := by
  have e := hs_lng hokC (b := 300) (k := 7) (c := c) (S := S) (L := L) (R := R) (x := z) (t_rdr ) rfl
  rw [show 300 + (17) = 317 from rfl] at e
  exact e
theorem rdr_error  : hset (CH c S L R) (317) (.inr (3, [.ref (318), .ref (323), .ref (324), .ref (S 4 208 0).toNatClampNeg, .int (S 4 200 0), .int (S 4 201 0), .int (S 4 202 0), .long (L 4 0 0), .int x, .int (S 4 204 0)])) = CH c (su S 4 203 0 x) L R := by
  have e := hs_fld hokC (b := 300) (k := 8) (c := c) (S := S) (L := L) (R := R) (x := x) (t_rdr ) rfl
  rw [show 300 + (17) = 317 from rfl] at e
  exact e
theorem rdr_errpos  : hset (CH c S L R) (317) (.inr (3, [.ref (318), .ref (323), .ref (324), .ref (S 4 208 0).toNatClampNeg, .int (S 4 200 0), .int (S 4 201 0), .int (S 4 202 0), .long (L 4 0 0), .int (S 4 203 0), .int x])) = CH c (su S 4 204 0 x) L R := by
  have e := hs_fld hokC (b := 300) (k := 9) (c := c) (S := S) (L := L) (R := R) (x := x) (t_rdr ) rfl
  rw [show 300 + (17) = 317 from rfl] at e
  exact e
theorem rdr_g0  {K : Value → Prop} : gP ((CH c S L R).2 (317)) 3 0 K = K (.ref (318)) := by
  rw [rdr_at ]
  rfl
theorem rdr_g1  {K : Value → Prop} : gP ((CH c S L R).2 (317)) 3 1 K = K (.ref (323)) := by
  rw [rdr_at ]
  rfl
theorem rdr_g2  {K : Value → Prop} : gP ((CH c S L R).2 (317)) 3 2 K = K (.ref (324)) := by
  rw [rdr_at ]
  rfl
theorem rdr_g3  {K : Value → Prop} : gP ((CH c S L R).2 (317)) 3 3 K = K (.ref (S 4 208 0).toNatClampNeg) := by
  rw [rdr_at ]
  rfl
theorem rdr_g4  {K : Value → Prop} : gP ((CH c S L R).2 (317)) 3 4 K = K (.int (S 4 200 0)) := by
  rw [rdr_at ]
  rfl
theorem rdr_g5  {K : Value → Prop} : gP ((CH c S L R).2 (317)) 3 5 K = K (.int (S 4 201 0)) := by
  rw [rdr_at ]
  rfl
theorem rdr_g6  {K : Value → Prop} : gP ((CH c S L R).2 (317)) 3 6 K = K (.int (S 4 202 0)) := by
  rw [rdr_at ]
  rfl
theorem rdr_g7  {K : Value → Prop} : gP ((CH c S L R).2 (317)) 3 7 K = K (.long (L 4 0 0)) := by
  rw [rdr_at ]
  rfl
theorem rdr_g8  {K : Value → Prop} : gP ((CH c S L R).2 (317)) 3 8 K = K (.int (S 4 203 0)) := by
  rw [rdr_at ]
  rfl
theorem rdr_g9  {K : Value → Prop} : gP ((CH c S L R).2 (317)) 3 9 K = K (.int (S 4 204 0)) := by
  rw [rdr_at ]
  rfl
theorem rdr_r  {P : Prop} : rP ((CH c S L R).2 (317)) 3 P = P := by
  rw [rdr_at ]
  exact rP_mk
theorem rdr_p3  (hb : b < 2) {j pc : Nat} {ls : PL} {st : List Value} : pP ((CH c S L R).2 (317)) 3 3 (ftOf 3 3) (.ref (BA b)) (317) (fun q => Wp d j pc ls st (hset (CH c S L R) (317) q) Q) = Wp d j pc ls st (CH c (su S 4 208 0 (bk b)) L R) Q := by
  rw [rdr_at , ft3_3, pP_obj (by omega) (by simp)]
  simp only [List.set_cons_zero, List.set_cons_succ]
  rw [rdr_book  hb]
theorem rdr_p4  {j pc : Nat} {ls : PL} {st : List Value} : pP ((CH c S L R).2 (317)) 3 4 (ftOf 3 4) (.int x) (317) (fun q => Wp d j pc ls st (hset (CH c S L R) (317) q) Q) = Wp d j pc ls st (CH c (su S 4 200 0 x) L R) Q := by
  rw [rdr_at , ft3_4, pP_int (by omega) (by simp)]
  simp only [List.set_cons_zero, List.set_cons_succ]
  rw [rdr_at_ ]
theorem rdr_p5  {j pc : Nat} {ls : PL} {st : List Value} : pP ((CH c S L R).2 (317)) 3 5 (ftOf 3 5) (.int x) (317) (fun q => Wp d j pc ls st (hset (CH c S L R) (317) q) Q) = Wp d j pc ls st (CH c (su S 4 201 0 x) L R) Q := by
  rw [rdr_at , ft3_5, pP_int (by omega) (by simp)]
  simp only [List.set_cons_zero, List.set_cons_succ]
  rw [rdr_kind ]
theorem rdr_p6  {j pc : Nat} {ls : PL} {st : List Value} : pP ((CH c S L R).2 (317)) 3 6 (ftOf 3 6) (.int x) (317) (fun q => Wp d j pc ls st (hset (CH c S L R) (317) q) Q) = Wp d j pc ls st (CH c (su S 4 202 0 x) L R) Q := by
  rw [rdr_at , ft3_6, pP_int (by omega) (by simp)]
  simp only [List.set_cons_zero, List.set_cons_succ]
  rw [rdr_start ]
theorem rdr_p7  {j pc : Nat} {ls : PL} {st : List Value} : pP ((CH c S L R).2 (317)) 3 7 (ftOf 3 7) (.long z) (317) (fun q => Wp d j pc ls st (hset (CH c S L R) (317) q) Q) = Wp d j pc ls st (CH c S (sl L 4 0 0 z) R) Q := by
  rw [rdr_at , ft3_7, pP_long (by omega) (by simp)]
  simp only [List.set_cons_zero, List.set_cons_succ]
  rw [rdr_value ]
theorem rdr_p8  {j pc : Nat} {ls : PL} {st : List Value} : pP ((CH c S L R).2 (317)) 3 8 (ftOf 3 8) (.int x) (317) (fun q => Wp d j pc ls st (hset (CH c S L R) (317) q) Q) = Wp d j pc ls st (CH c (su S 4 203 0 x) L R) Q := by
  rw [rdr_at , ft3_8, pP_int (by omega) (by simp)]
  simp only [List.set_cons_zero, List.set_cons_succ]
  rw [rdr_error ]
theorem rdr_p9  {j pc : Nat} {ls : PL} {st : List Value} : pP ((CH c S L R).2 (317)) 3 9 (ftOf 3 9) (.int x) (317) (fun q => Wp d j pc ls st (hset (CH c S L R) (317) q) Q) = Wp d j pc ls st (CH c (su S 4 204 0 x) L R) Q := by
  rw [rdr_at , ft3_9, pP_int (by omega) (by simp)]
  simp only [List.set_cons_zero, List.set_cons_succ]
  rw [rdr_errpos ]
theorem t_toks : tC[18]? = some (some (.inl (5, [(3, 319, 0, 0), (3, 320, 0, 0), (3, 321, 0, 0), (3, 322, 0, 0)]))) := tq_eq (by decide +kernel)
theorem toks_at  : (CH c S L R).2 (318) = some (.inr (5, [.ref (319), .ref (320), .ref (321), .ref (322)])) := by
  have e := gov_in (b := 300) (S := S) (L := L) (R := R) (t_toks )
  rw [show 300 + (18) = 318 from rfl] at e
  exact e
theorem toks_g0  {K : Value → Prop} : gP ((CH c S L R).2 (318)) 5 0 K = K (.ref (319)) := by
  rw [toks_at ]
  rfl
theorem toks_g1  {K : Value → Prop} : gP ((CH c S L R).2 (318)) 5 1 K = K (.ref (320)) := by
  rw [toks_at ]
  rfl
theorem toks_g2  {K : Value → Prop} : gP ((CH c S L R).2 (318)) 5 2 K = K (.ref (321)) := by
  rw [toks_at ]
  rfl
theorem toks_g3  {K : Value → Prop} : gP ((CH c S L R).2 (318)) 5 3 K = K (.ref (322)) := by
  rw [toks_at ]
  rfl
theorem toks_r  {P : Prop} : rP ((CH c S L R).2 (318)) 5 P = P := by
  rw [toks_at ]
  exact rP_mk
theorem t_kinds : tC[19]? = some (some (.inr (0, 401, (0, 4, 211, 0)))) := tq_eq (by decide +kernel)
theorem kinds_at  : (CH c S L R).2 (319) = some (.inl (0, 401, .inl (S 4 (211)))) := by
  have e := gov_in (b := 300) (S := S) (L := L) (R := R) (t_kinds )
  rw [show 300 + (19) = 319 from rfl] at e
  exact e
theorem kinds_wr  {k : Nat} : hset (CH c S L R) (319) (.inl (0, 401, .inl (upd (S 4 (211)) k x))) = CH c (su S 4 (211) k x) L R := by
  have e := hs_row1 hokC (b := 300) (c := c) (S := S) (L := L) (R := R) (x := x) (i := k) (t_kinds )
  rw [show 300 + (19) = 319 from rfl] at e
  exact e
theorem kinds_get  : Cp (d + 1) 115 [.ref (319), .int x] (CH c S L R) Q = Q (.inl (some (.int (gt S 4 (211) 401 x))), CH c S L R) := by
  rw [c115 (kinds_at ) (by omega)]
  rfl
theorem kinds_put  : Cp (d + 1) 116 [.ref (319), .int x, .int y] (CH c S L R) Q = Q (.inl none, CH c (pt S 4 (211) 401 x y) L R) := by
  rw [c116 (kinds_at ) (by omega) (by omega), kinds_wr , pt]
  by_cases h : inB x 401 = true
  · simp only [if_pos h]
  · simp only [if_neg h]
theorem t_starts : tC[20]? = some (some (.inr (0, 401, (0, 4, 212, 0)))) := tq_eq (by decide +kernel)
theorem starts_at  : (CH c S L R).2 (320) = some (.inl (0, 401, .inl (S 4 (212)))) := by
  have e := gov_in (b := 300) (S := S) (L := L) (R := R) (t_starts )
  rw [show 300 + (20) = 320 from rfl] at e
  exact e
theorem starts_wr  {k : Nat} : hset (CH c S L R) (320) (.inl (0, 401, .inl (upd (S 4 (212)) k x))) = CH c (su S 4 (212) k x) L R := by
  have e := hs_row1 hokC (b := 300) (c := c) (S := S) (L := L) (R := R) (x := x) (i := k) (t_starts )
  rw [show 300 + (20) = 320 from rfl] at e
  exact e
theorem starts_get  : Cp (d + 1) 115 [.ref (320), .int x] (CH c S L R) Q = Q (.inl (some (.int (gt S 4 (212) 401 x))), CH c S L R) := by
  rw [c115 (starts_at ) (by omega)]
  rfl
theorem starts_put  : Cp (d + 1) 116 [.ref (320), .int x, .int y] (CH c S L R) Q = Q (.inl none, CH c (pt S 4 (212) 401 x y) L R) := by
  rw [c116 (starts_at ) (by omega) (by omega), starts_wr , pt]
  by_cases h : inB x 401 = true
  · simp only [if_pos h]
  · simp only [if_neg h]
theorem t_vals : tC[21]? = some (some (.inr (1, 401, (1, 4, 1, 0)))) := tq_eq (by decide +kernel)
theorem vals_at : (CH c S L R).2 (321) = some (.inl (1, 401, .inr (.inl (L 4 (1))))) := gov_in (b := 300) (S := S) (L := L) (R := R) t_vals
theorem vals_wr {k : Nat} : hset (CH c S L R) (321) (.inl (1, 401, .inr (.inl (vp_updL (L 4 (1)) k z)))) = CH c S (sl L 4 (1) k z) R := hs_row1L hokC (b := 300) (c := c) (S := S) (L := L) (R := R) (x := z) (i := k) t_vals
theorem vals_put : Cp (d + 1) 117 [.ref (321), .int x, .long z] (CH c S L R) Q = Q (.inl none, CH c S (ptL L 4 (1) 401 x z) R) := by
  rw [c117 vals_at (by omega) (by omega), vals_wr, ptL]
  by_cases h : inB x 401 = true
  · simp only [if_pos h]
  · simp only [if_neg h]
theorem t_resv : tC[22]? = some (some (.inr (1, 23, (1, 4, 2, 0)))) := tq_eq (by decide +kernel)
theorem resv_at : (CH c S L R).2 (322) = some (.inl (1, 23, .inr (.inl (L 4 (2))))) := gov_in (b := 300) (S := S) (L := L) (R := R) t_resv
theorem resv_wr {k : Nat} : hset (CH c S L R) (322) (.inl (1, 23, .inr (.inl (vp_updL (L 4 (2)) k z)))) = CH c S (sl L 4 (2) k z) R := hs_row1L hokC (b := 300) (c := c) (S := S) (L := L) (R := R) (x := z) (i := k) t_resv
theorem t_lnam : tC[23]? = some (some (.inr (1, 10, (1, 4, 3, 0)))) := tq_eq (by decide +kernel)
theorem lnam_at : (CH c S L R).2 (323) = some (.inl (1, 10, .inr (.inl (L 4 (3))))) := gov_in (b := 300) (S := S) (L := L) (R := R) t_lnam
theorem lnam_wr {k : Nat} : hset (CH c S L R) (323) (.inl (1, 10, .inr (.inl (vp_updL (L 4 (3)) k z)))) = CH c S (sl L 4 (3) k z) R := hs_row1L hokC (b := 300) (c := c) (S := S) (L := L) (R := R) (x := z) (i := k) t_lnam
theorem lnam_put : Cp (d + 1) 117 [.ref (323), .int x, .long z] (CH c S L R) Q = Q (.inl none, CH c S (ptL L 4 (3) 10 x z) R) := by
  rw [c117 lnam_at (by omega) (by omega), lnam_wr, ptL]
  by_cases h : inB x 10 = true
  · simp only [if_pos h]
  · simp only [if_neg h]
theorem t_rnam : tC[24]? = some (some (.inr (1, 6, (1, 4, 4, 0)))) := tq_eq (by decide +kernel)
theorem rnam_at : (CH c S L R).2 (324) = some (.inl (1, 6, .inr (.inl (L 4 (4))))) := gov_in (b := 300) (S := S) (L := L) (R := R) t_rnam
theorem rnam_wr {k : Nat} : hset (CH c S L R) (324) (.inl (1, 6, .inr (.inl (vp_updL (L 4 (4)) k z)))) = CH c S (sl L 4 (4) k z) R := hs_row1L hokC (b := 300) (c := c) (S := S) (L := L) (R := R) (x := z) (i := k) t_rnam
theorem rnam_put : Cp (d + 1) 117 [.ref (324), .int x, .long z] (CH c S L R) Q = Q (.inl none, CH c S (ptL L 4 (4) 6 x z) R) := by
  rw [c117 rnam_at (by omega) (by omega), rnam_wr, ptL]
  by_cases h : inB x 6 = true
  · simp only [if_pos h]
  · simp only [if_neg h]
theorem t_town0 : tC[39]? = some (some (.inl (6, [(2, 0, 60, 0), (3, 340, 0, 0), (3, 341, 0, 0), (0, 0, 4, 0), (0, 0, 0, 0), (0, 0, 1, 0), (0, 0, 2, 0), (0, 0, 3, 0)]))) := tq_eq (by decide +kernel)
theorem t_town1 : tC[67]? = some (some (.inl (6, [(2, 1, 60, 0), (3, 368, 0, 0), (3, 369, 0, 0), (0, 1, 4, 0), (0, 1, 0, 0), (0, 1, 1, 0), (0, 1, 2, 0), (0, 1, 3, 0)]))) := tq_eq (by decide +kernel)
theorem town_at (hg : g < 2) : (CH c S L R).2 (TA g) = some (.inr (6, [.ref (S g 60 0).toNatClampNeg, .ref (TA g + 1), .ref (TA g + 2), .int (S g 4 0), .int (S g 0 0), .int (S g 1 0), .int (S g 2 0), .int (S g 3 0)])) := by
  obtain rfl | rfl : g = 0 ∨ g = 1 := by omega
  · exact gov_in (b := 300) (S := S) (L := L) (R := R) t_town0
  · exact gov_in (b := 300) (S := S) (L := L) (R := R) t_town1
theorem town_lc (hg : g < 2) : hset (CH c S L R) (TA g) (.inr (6, [.ref (S g 60 0).toNatClampNeg, .ref (TA g + 1), .ref (TA g + 2), .int x, .int (S g 0 0), .int (S g 1 0), .int (S g 2 0), .int (S g 3 0)])) = CH c (su S g 4 0 x) L R := by
  obtain rfl | rfl : g = 0 ∨ g = 1 := by omega
  · exact hs_fld hokC (b := 300) (k := 3) (c := c) (S := S) (L := L) (R := R) (x := x) t_town0 rfl
  · exact hs_fld hokC (b := 300) (k := 3) (c := c) (S := S) (L := L) (R := R) (x := x) t_town1 rfl
theorem town_night (hg : g < 2) : hset (CH c S L R) (TA g) (.inr (6, [.ref (S g 60 0).toNatClampNeg, .ref (TA g + 1), .ref (TA g + 2), .int (S g 4 0), .int x, .int (S g 1 0), .int (S g 2 0), .int (S g 3 0)])) = CH c (su S g 0 0 x) L R := by
  obtain rfl | rfl : g = 0 ∨ g = 1 := by omega
  · exact hs_fld hokC (b := 300) (k := 4) (c := c) (S := S) (L := L) (R := R) (x := x) t_town0 rfl
  · exact hs_fld hokC (b := 300) (k := 4) (c := c) (S := S) (L := L) (R := R) (x := x) t_town1 rfl
theorem town_quarter (hg : g < 2) : hset (CH c S L R) (TA g) (.inr (6, [.ref (S g 60 0).toNatClampNeg, .ref (TA g + 1), .ref (TA g + 2), .int (S g 4 0), .int (S g 0 0), .int x, .int (S g 2 0), .int (S g 3 0)])) = CH c (su S g 1 0 x) L R := by
  obtain rfl | rfl : g = 0 ∨ g = 1 := by omega
  · exact hs_fld hokC (b := 300) (k := 5) (c := c) (S := S) (L := L) (R := R) (x := x) t_town0 rfl
  · exact hs_fld hokC (b := 300) (k := 5) (c := c) (S := S) (L := L) (R := R) (x := x) t_town1 rfl
theorem town_burnt (hg : g < 2) : hset (CH c S L R) (TA g) (.inr (6, [.ref (S g 60 0).toNatClampNeg, .ref (TA g + 1), .ref (TA g + 2), .int (S g 4 0), .int (S g 0 0), .int (S g 1 0), .int x, .int (S g 3 0)])) = CH c (su S g 2 0 x) L R := by
  obtain rfl | rfl : g = 0 ∨ g = 1 := by omega
  · exact hs_fld hokC (b := 300) (k := 6) (c := c) (S := S) (L := L) (R := R) (x := x) t_town0 rfl
  · exact hs_fld hokC (b := 300) (k := 6) (c := c) (S := S) (L := L) (R := R) (x := x) t_town1 rfl
theorem town_cloudy (hg : g < 2) : hset (CH c S L R) (TA g) (.inr (6, [.ref (S g 60 0).toNatClampNeg, .ref (TA g + 1), .ref (TA g + 2), .int (S g 4 0), .int (S g 0 0), .int (S g 1 0), .int (S g 2 0), .int x])) = CH c (su S g 3 0 x) L R := by
  obtain rfl | rfl : g = 0 ∨ g = 1 := by omega
  · exact hs_fld hokC (b := 300) (k := 7) (c := c) (S := S) (L := L) (R := R) (x := x) t_town0 rfl
  · exact hs_fld hokC (b := 300) (k := 7) (c := c) (S := S) (L := L) (R := R) (x := x) t_town1 rfl
theorem town_book (hg : g < 2) (hb : b < 2) : hset (CH c S L R) (TA g) (.inr (6, [.ref (BA b), .ref (TA g + 1), .ref (TA g + 2), .int (S g 4 0), .int (S g 0 0), .int (S g 1 0), .int (S g 2 0), .int (S g 3 0)])) = CH c (su S g 60 0 (bk b)) L R := by
  rw [← bk_BA hb]
  obtain rfl | rfl : g = 0 ∨ g = 1 := by omega
  · exact hs_ref hokC (b := 300) (k := 0) (c := c) (S := S) (L := L) (R := R) (x := bk b) t_town0 rfl
  · exact hs_ref hokC (b := 300) (k := 0) (c := c) (S := S) (L := L) (R := R) (x := bk b) t_town1 rfl
theorem town_g0 (hg : g < 2) {K : Value → Prop} : gP ((CH c S L R).2 (TA g)) 6 0 K = K (.ref (S g 60 0).toNatClampNeg) := by
  rw [town_at hg]
  rfl
theorem town_g1 (hg : g < 2) {K : Value → Prop} : gP ((CH c S L R).2 (TA g)) 6 1 K = K (.ref (TA g + 1)) := by
  rw [town_at hg]
  rfl
theorem town_g2 (hg : g < 2) {K : Value → Prop} : gP ((CH c S L R).2 (TA g)) 6 2 K = K (.ref (TA g + 2)) := by
  rw [town_at hg]
  rfl
theorem town_g3 (hg : g < 2) {K : Value → Prop} : gP ((CH c S L R).2 (TA g)) 6 3 K = K (.int (S g 4 0)) := by
  rw [town_at hg]
  rfl
theorem town_g4 (hg : g < 2) {K : Value → Prop} : gP ((CH c S L R).2 (TA g)) 6 4 K = K (.int (S g 0 0)) := by
  rw [town_at hg]
  rfl
theorem town_g5 (hg : g < 2) {K : Value → Prop} : gP ((CH c S L R).2 (TA g)) 6 5 K = K (.int (S g 1 0)) := by
  rw [town_at hg]
  rfl
theorem town_g6 (hg : g < 2) {K : Value → Prop} : gP ((CH c S L R).2 (TA g)) 6 6 K = K (.int (S g 2 0)) := by
  rw [town_at hg]
  rfl
theorem town_g7 (hg : g < 2) {K : Value → Prop} : gP ((CH c S L R).2 (TA g)) 6 7 K = K (.int (S g 3 0)) := by
  rw [town_at hg]
  rfl
theorem town_r (hg : g < 2) {P : Prop} : rP ((CH c S L R).2 (TA g)) 6 P = P := by
  rw [town_at hg]
  exact rP_mk
theorem town_p0 (hg : g < 2) (hb : b < 2) {j pc : Nat} {ls : PL} {st : List Value} : pP ((CH c S L R).2 (TA g)) 6 0 (ftOf 6 0) (.ref (BA b)) (TA g) (fun q => Wp d j pc ls st (hset (CH c S L R) (TA g) q) Q) = Wp d j pc ls st (CH c (su S g 60 0 (bk b)) L R) Q := by
  rw [town_at hg, ft6_0, pP_obj (by unfold TA; omega) (by simp)]
  simp only [List.set_cons_zero, List.set_cons_succ]
  rw [town_book hg hb]
theorem town_p3 (hg : g < 2) {j pc : Nat} {ls : PL} {st : List Value} : pP ((CH c S L R).2 (TA g)) 6 3 (ftOf 6 3) (.int x) (TA g) (fun q => Wp d j pc ls st (hset (CH c S L R) (TA g) q) Q) = Wp d j pc ls st (CH c (su S g 4 0 x) L R) Q := by
  rw [town_at hg, ft6_3, pP_int (by unfold TA; omega) (by simp)]
  simp only [List.set_cons_zero, List.set_cons_succ]
  rw [town_lc hg]
theorem town_p4 (hg : g < 2) {j pc : Nat} {ls : PL} {st : List Value} : pP ((CH c S L R).2 (TA g)) 6 4 (ftOf 6 4) (.int x) (TA g) (fun q => Wp d j pc ls st (hset (CH c S L R) (TA g) q) Q) = Wp d j pc ls st (CH c (su S g 0 0 x) L R) Q := by
  rw [town_at hg, ft6_4, pP_int (by unfold TA; omega) (by simp)]
  simp only [List.set_cons_zero, List.set_cons_succ]
  rw [town_night hg]
theorem town_p5 (hg : g < 2) {j pc : Nat} {ls : PL} {st : List Value} : pP ((CH c S L R).2 (TA g)) 6 5 (ftOf 6 5) (.int x) (TA g) (fun q => Wp d j pc ls st (hset (CH c S L R) (TA g) q) Q) = Wp d j pc ls st (CH c (su S g 1 0 x) L R) Q := by
  rw [town_at hg, ft6_5, pP_int (by unfold TA; omega) (by simp)]
  simp only [List.set_cons_zero, List.set_cons_succ]
  rw [town_quarter hg]
theorem town_p6 (hg : g < 2) {j pc : Nat} {ls : PL} {st : List Value} : pP ((CH c S L R).2 (TA g)) 6 6 (ftOf 6 6) (.int x) (TA g) (fun q => Wp d j pc ls st (hset (CH c S L R) (TA g) q) Q) = Wp d j pc ls st (CH c (su S g 2 0 x) L R) Q := by
  rw [town_at hg, ft6_6, pP_int (by unfold TA; omega) (by simp)]
  simp only [List.set_cons_zero, List.set_cons_succ]
  rw [town_burnt hg]
theorem town_p7 (hg : g < 2) (hx : x = 0 ∨ x = 1) {j pc : Nat} {ls : PL} {st : List Value} : pP ((CH c S L R).2 (TA g)) 6 7 (ftOf 6 7) (.int x) (TA g) (fun q => Wp d j pc ls st (hset (CH c S L R) (TA g) q) Q) = Wp d j pc ls st (CH c (su S g 3 0 x) L R) Q := by
  rw [town_at hg, ft6_7, pP_bool (by unfold TA; omega) (by simp) hx]
  simp only [List.set_cons_zero, List.set_cons_succ]
  rw [town_cloudy hg]
theorem t_lmps0 : tC[40]? = some (some (.inr (4, 10, (3, 342, 1, 0)))) := tq_eq (by decide +kernel)
theorem t_lmps1 : tC[68]? = some (some (.inr (4, 10, (3, 370, 1, 0)))) := tq_eq (by decide +kernel)
theorem lmps_at (hg : g < 2) : (CH c S L R).2 (TA g + 1) = some (.inl (4, 10, .inr (.inr (.inr (.inr (fun k => if k < 10 then some (LA g k) else none)))))) := by
  obtain rfl | rfl : g = 0 ∨ g = 1 := by omega
  · have e := gov_in (b := 300) (S := S) (L := L) (R := R) t_lmps0
    simp only [cellS, Nat.one_mul] at e
    exact e
  · have e := gov_in (b := 300) (S := S) (L := L) (R := R) t_lmps1
    simp only [cellS, Nat.one_mul] at e
    exact e
theorem t_lgts0 : tC[41]? = some (some (.inr (5, 3, (3, 352, 5, 0)))) := tq_eq (by decide +kernel)
theorem t_lgts1 : tC[69]? = some (some (.inr (5, 3, (3, 380, 5, 0)))) := tq_eq (by decide +kernel)
theorem lgts_at (hg : g < 2) : (CH c S L R).2 (TA g + 2) = some (.inl (5, 3, .inr (.inr (.inr (.inr (fun k => if k < 3 then some (LI g k) else none)))))) := by
  obtain rfl | rfl : g = 0 ∨ g = 1 := by omega
  · exact gov_in (b := 300) (S := S) (L := L) (R := R) t_lgts0
  · exact gov_in (b := 300) (S := S) (L := L) (R := R) t_lgts1
theorem lmps_n (hg : g < 2) {K : Int32 → Prop} : nP ((CH c S L R).2 (TA g + 1)) K = K 10 := by
  rw [lmps_at hg]
  rfl
theorem lmps_q (hg : g < 2) (hi : i < 10) {K : Value → Prop} : qP ((CH c S L R).2 (TA g + 1)) (Int32.ofNat i) K = K (.ref (LA g i)) := by
  rw [lmps_at hg, qP_mk (by omega) (inB_nat (by omega) (by omega)), tN_nat (by omega), if_pos hi]
  rfl
theorem lgts_n (hg : g < 2) {K : Int32 → Prop} : nP ((CH c S L R).2 (TA g + 2)) K = K 3 := by
  rw [lgts_at hg]
  rfl
theorem lgts_q (hg : g < 2) (hi : i < 3) {K : Value → Prop} : qP ((CH c S L R).2 (TA g + 2)) (Int32.ofNat i) K = K (.ref (LI g i)) := by
  rw [lgts_at hg, qP_mk (by omega) (inB_nat (by omega) (by omega)), tN_nat (by omega), if_pos hi]
  rfl
theorem t_lamp : ∀ g < 2, ∀ i < 10, tC[42 + 28 * g + i]? = some (some (.inl (1, [(0, g, 10, i), (0, g, 11, i), (0, g, 5, i), (0, g, 6, i), (0, g, 7, i), (0, g, 8, i), (0, g, 9, i)]))) := fun g hg i hi => tq_eq ((by decide +kernel : ∀ g < 2, ∀ i < 10, tq (tC[42 + 28 * g + i]?) (some (.inl (1, [(0, g, 10, i), (0, g, 11, i), (0, g, 5, i), (0, g, 6, i), (0, g, 7, i), (0, g, 8, i), (0, g, 9, i)]))) = true) g hg i hi)
theorem lamp_at (hg : g < 2) (hi : i < 10) : (CH c S L R).2 (LA g i) = some (.inr (1, [.int (S g 10 i), .int (S g 11 i), .int (S g 5 i), .int (S g 6 i), .int (S g 7 i), .int (S g 8 i), .int (S g 9 i)])) := by
  have e := gov_in (b := 300) (S := S) (L := L) (R := R) (t_lamp g hg i hi)
  rw [show 300 + (42 + 28 * g + i) = LA g i from (by unfold LA; omega)] at e
  exact e
theorem lamp_post (hg : g < 2) (hi : i < 10) : hset (CH c S L R) (LA g i) (.inr (1, [.int x, .int (S g 11 i), .int (S g 5 i), .int (S g 6 i), .int (S g 7 i), .int (S g 8 i), .int (S g 9 i)])) = CH c (su S g 10 i x) L R := by
  have e := hs_fld hokC (b := 300) (k := 0) (c := c) (S := S) (L := L) (R := R) (x := x) (t_lamp g hg i hi) rfl
  rw [show 300 + (42 + 28 * g + i) = LA g i from (by unfold LA; omega)] at e
  exact e
theorem lamp_room (hg : g < 2) (hi : i < 10) : hset (CH c S L R) (LA g i) (.inr (1, [.int (S g 10 i), .int x, .int (S g 5 i), .int (S g 6 i), .int (S g 7 i), .int (S g 8 i), .int (S g 9 i)])) = CH c (su S g 11 i x) L R := by
  have e := hs_fld hokC (b := 300) (k := 1) (c := c) (S := S) (L := L) (R := R) (x := x) (t_lamp g hg i hi) rfl
  rw [show 300 + (42 + 28 * g + i) = LA g i from (by unfold LA; omega)] at e
  exact e
theorem lamp_oil (hg : g < 2) (hi : i < 10) : hset (CH c S L R) (LA g i) (.inr (1, [.int (S g 10 i), .int (S g 11 i), .int x, .int (S g 6 i), .int (S g 7 i), .int (S g 8 i), .int (S g 9 i)])) = CH c (su S g 5 i x) L R := by
  have e := hs_fld hokC (b := 300) (k := 2) (c := c) (S := S) (L := L) (R := R) (x := x) (t_lamp g hg i hi) rfl
  rw [show 300 + (42 + 28 * g + i) = LA g i from (by unfold LA; omega)] at e
  exact e
theorem lamp_wick (hg : g < 2) (hi : i < 10) : hset (CH c S L R) (LA g i) (.inr (1, [.int (S g 10 i), .int (S g 11 i), .int (S g 5 i), .int x, .int (S g 7 i), .int (S g 8 i), .int (S g 9 i)])) = CH c (su S g 6 i x) L R := by
  have e := hs_fld hokC (b := 300) (k := 3) (c := c) (S := S) (L := L) (R := R) (x := x) (t_lamp g hg i hi) rfl
  rw [show 300 + (42 + 28 * g + i) = LA g i from (by unfold LA; omega)] at e
  exact e
theorem lamp_clock (hg : g < 2) (hi : i < 10) : hset (CH c S L R) (LA g i) (.inr (1, [.int (S g 10 i), .int (S g 11 i), .int (S g 5 i), .int (S g 6 i), .int x, .int (S g 8 i), .int (S g 9 i)])) = CH c (su S g 7 i x) L R := by
  have e := hs_fld hokC (b := 300) (k := 4) (c := c) (S := S) (L := L) (R := R) (x := x) (t_lamp g hg i hi) rfl
  rw [show 300 + (42 + 28 * g + i) = LA g i from (by unfold LA; omega)] at e
  exact e
theorem lamp_dark (hg : g < 2) (hi : i < 10) : hset (CH c S L R) (LA g i) (.inr (1, [.int (S g 10 i), .int (S g 11 i), .int (S g 5 i), .int (S g 6 i), .int (S g 7 i), .int x, .int (S g 9 i)])) = CH c (su S g 8 i x) L R := by
  have e := hs_fld hokC (b := 300) (k := 5) (c := c) (S := S) (L := L) (R := R) (x := x) (t_lamp g hg i hi) rfl
  rw [show 300 + (42 + 28 * g + i) = LA g i from (by unfold LA; omega)] at e
  exact e
theorem lamp_lit (hg : g < 2) (hi : i < 10) : hset (CH c S L R) (LA g i) (.inr (1, [.int (S g 10 i), .int (S g 11 i), .int (S g 5 i), .int (S g 6 i), .int (S g 7 i), .int (S g 8 i), .int x])) = CH c (su S g 9 i x) L R := by
  have e := hs_fld hokC (b := 300) (k := 6) (c := c) (S := S) (L := L) (R := R) (x := x) (t_lamp g hg i hi) rfl
  rw [show 300 + (42 + 28 * g + i) = LA g i from (by unfold LA; omega)] at e
  exact e
theorem lamp_g0 (hg : g < 2) (hi : i < 10) {K : Value → Prop} : gP ((CH c S L R).2 (LA g i)) 1 0 K = K (.int (S g 10 i)) := by
  rw [lamp_at hg hi]
  rfl
theorem lamp_g1 (hg : g < 2) (hi : i < 10) {K : Value → Prop} : gP ((CH c S L R).2 (LA g i)) 1 1 K = K (.int (S g 11 i)) := by
  rw [lamp_at hg hi]
  rfl
theorem lamp_g2 (hg : g < 2) (hi : i < 10) {K : Value → Prop} : gP ((CH c S L R).2 (LA g i)) 1 2 K = K (.int (S g 5 i)) := by
  rw [lamp_at hg hi]
  rfl
theorem lamp_g3 (hg : g < 2) (hi : i < 10) {K : Value → Prop} : gP ((CH c S L R).2 (LA g i)) 1 3 K = K (.int (S g 6 i)) := by
  rw [lamp_at hg hi]
  rfl
theorem lamp_g4 (hg : g < 2) (hi : i < 10) {K : Value → Prop} : gP ((CH c S L R).2 (LA g i)) 1 4 K = K (.int (S g 7 i)) := by
  rw [lamp_at hg hi]
  rfl
theorem lamp_g5 (hg : g < 2) (hi : i < 10) {K : Value → Prop} : gP ((CH c S L R).2 (LA g i)) 1 5 K = K (.int (S g 8 i)) := by
  rw [lamp_at hg hi]
  rfl
theorem lamp_g6 (hg : g < 2) (hi : i < 10) {K : Value → Prop} : gP ((CH c S L R).2 (LA g i)) 1 6 K = K (.int (S g 9 i)) := by
  rw [lamp_at hg hi]
  rfl
theorem lamp_r (hg : g < 2) (hi : i < 10) {P : Prop} : rP ((CH c S L R).2 (LA g i)) 1 P = P := by
  rw [lamp_at hg hi]
  exact rP_mk
theorem lamp_p0 (hg : g < 2) (hi : i < 10) {j pc : Nat} {ls : PL} {st : List Value} : pP ((CH c S L R).2 (LA g i)) 1 0 (ftOf 1 0) (.int x) (LA g i) (fun q => Wp d j pc ls st (hset (CH c S L R) (LA g i) q) Q) = Wp d j pc ls st (CH c (su S g 10 i x) L R) Q := by
  rw [lamp_at hg hi, ft1_0, pP_int (by unfold LA; omega) (by simp)]
  simp only [List.set_cons_zero, List.set_cons_succ]
  rw [lamp_post hg hi]
theorem lamp_p1 (hg : g < 2) (hi : i < 10) {j pc : Nat} {ls : PL} {st : List Value} : pP ((CH c S L R).2 (LA g i)) 1 1 (ftOf 1 1) (.int x) (LA g i) (fun q => Wp d j pc ls st (hset (CH c S L R) (LA g i) q) Q) = Wp d j pc ls st (CH c (su S g 11 i x) L R) Q := by
  rw [lamp_at hg hi, ft1_1, pP_int (by unfold LA; omega) (by simp)]
  simp only [List.set_cons_zero, List.set_cons_succ]
  rw [lamp_room hg hi]
theorem lamp_p2 (hg : g < 2) (hi : i < 10) {j pc : Nat} {ls : PL} {st : List Value} : pP ((CH c S L R).2 (LA g i)) 1 2 (ftOf 1 2) (.int x) (LA g i) (fun q => Wp d j pc ls st (hset (CH c S L R) (LA g i) q) Q) = Wp d j pc ls st (CH c (su S g 5 i x) L R) Q := by
  rw [lamp_at hg hi, ft1_2, pP_int (by unfold LA; omega) (by simp)]
  simp only [List.set_cons_zero, List.set_cons_succ]
  rw [lamp_oil hg hi]
theorem lamp_p3 (hg : g < 2) (hi : i < 10) {j pc : Nat} {ls : PL} {st : List Value} : pP ((CH c S L R).2 (LA g i)) 1 3 (ftOf 1 3) (.int x) (LA g i) (fun q => Wp d j pc ls st (hset (CH c S L R) (LA g i) q) Q) = Wp d j pc ls st (CH c (su S g 6 i x) L R) Q := by
  rw [lamp_at hg hi, ft1_3, pP_int (by unfold LA; omega) (by simp)]
  simp only [List.set_cons_zero, List.set_cons_succ]
  rw [lamp_wick hg hi]
theorem lamp_p4 (hg : g < 2) (hi : i < 10) {j pc : Nat} {ls : PL} {st : List Value} : pP ((CH c S L R).2 (LA g i)) 1 4 (ftOf 1 4) (.int x) (LA g i) (fun q => Wp d j pc ls st (hset (CH c S L R) (LA g i) q) Q) = Wp d j pc ls st (CH c (su S g 7 i x) L R) Q := by
  rw [lamp_at hg hi, ft1_4, pP_int (by unfold LA; omega) (by simp)]
  simp only [List.set_cons_zero, List.set_cons_succ]
  rw [lamp_clock hg hi]
theorem lamp_p5 (hg : g < 2) (hi : i < 10) {j pc : Nat} {ls : PL} {st : List Value} : pP ((CH c S L R).2 (LA g i)) 1 5 (ftOf 1 5) (.int x) (LA g i) (fun q => Wp d j pc ls st (hset (CH c S L R) (LA g i) q) Q) = Wp d j pc ls st (CH c (su S g 8 i x) L R) Q := by
  rw [lamp_at hg hi, ft1_5, pP_int (by unfold LA; omega) (by simp)]
  simp only [List.set_cons_zero, List.set_cons_succ]
  rw [lamp_dark hg hi]
theorem lamp_p6 (hg : g < 2) (hi : i < 10) (hx : x = 0 ∨ x = 1) {j pc : Nat} {ls : PL} {st : List Value} : pP ((CH c S L R).2 (LA g i)) 1 6 (ftOf 1 6) (.int x) (LA g i) (fun q => Wp d j pc ls st (hset (CH c S L R) (LA g i) q) Q) = Wp d j pc ls st (CH c (su S g 9 i x) L R) Q := by
  rw [lamp_at hg hi, ft1_6, pP_bool (by unfold LA; omega) (by simp) hx]
  simp only [List.set_cons_zero, List.set_cons_succ]
  rw [lamp_lit hg hi]
theorem t_lig00 : tC[52]? = some (some (.inl (2, [(0, 0, 19, 0), (0, 0, 12, 0), (0, 0, 13, 0), (0, 0, 14, 0), (0, 0, 15, 0), (0, 0, 16, 0), (0, 0, 17, 0), (3, 353, 0, 0), (0, 0, 18, 0), (3, 354, 0, 0), (3, 355, 0, 0), (3, 356, 0, 0)]))) := tq_eq (by decide +kernel)
theorem t_lig01 : tC[57]? = some (some (.inl (2, [(0, 0, 19, 1), (0, 0, 12, 1), (0, 0, 13, 1), (0, 0, 14, 1), (0, 0, 15, 1), (0, 0, 16, 1), (0, 0, 17, 1), (3, 358, 0, 0), (0, 0, 18, 1), (3, 359, 0, 0), (3, 360, 0, 0), (3, 361, 0, 0)]))) := tq_eq (by decide +kernel)
theorem t_lig02 : tC[62]? = some (some (.inl (2, [(0, 0, 19, 2), (0, 0, 12, 2), (0, 0, 13, 2), (0, 0, 14, 2), (0, 0, 15, 2), (0, 0, 16, 2), (0, 0, 17, 2), (3, 363, 0, 0), (0, 0, 18, 2), (3, 364, 0, 0), (3, 365, 0, 0), (3, 366, 0, 0)]))) := tq_eq (by decide +kernel)
theorem t_lig10 : tC[80]? = some (some (.inl (2, [(0, 1, 19, 0), (0, 1, 12, 0), (0, 1, 13, 0), (0, 1, 14, 0), (0, 1, 15, 0), (0, 1, 16, 0), (0, 1, 17, 0), (3, 381, 0, 0), (0, 1, 18, 0), (3, 382, 0, 0), (3, 383, 0, 0), (3, 384, 0, 0)]))) := tq_eq (by decide +kernel)
theorem t_lig11 : tC[85]? = some (some (.inl (2, [(0, 1, 19, 1), (0, 1, 12, 1), (0, 1, 13, 1), (0, 1, 14, 1), (0, 1, 15, 1), (0, 1, 16, 1), (0, 1, 17, 1), (3, 386, 0, 0), (0, 1, 18, 1), (3, 387, 0, 0), (3, 388, 0, 0), (3, 389, 0, 0)]))) := tq_eq (by decide +kernel)
theorem t_lig12 : tC[90]? = some (some (.inl (2, [(0, 1, 19, 2), (0, 1, 12, 2), (0, 1, 13, 2), (0, 1, 14, 2), (0, 1, 15, 2), (0, 1, 16, 2), (0, 1, 17, 2), (3, 391, 0, 0), (0, 1, 18, 2), (3, 392, 0, 0), (3, 393, 0, 0), (3, 394, 0, 0)]))) := tq_eq (by decide +kernel)
theorem lig_at (hg : g < 2) (hl : l < 3) : (CH c S L R).2 (LI g l) = some (.inr (2, [.int (S g 19 l), .int (S g 12 l), .int (S g 13 l), .int (S g 14 l), .int (S g 15 l), .int (S g 16 l), .int (S g 17 l), .ref (LI g l + 1), .int (S g 18 l), .ref (LI g l + 2), .ref (LI g l + 3), .ref (LI g l + 4)])) := by
  obtain rfl | rfl : g = 0 ∨ g = 1 := by omega
  all_goals obtain rfl | rfl | rfl : l = 0 ∨ l = 1 ∨ l = 2 := by omega
  · exact gov_in (b := 300) (S := S) (L := L) (R := R) t_lig00
  · exact gov_in (b := 300) (S := S) (L := L) (R := R) t_lig01
  · exact gov_in (b := 300) (S := S) (L := L) (R := R) t_lig02
  · exact gov_in (b := 300) (S := S) (L := L) (R := R) t_lig10
  · exact gov_in (b := 300) (S := S) (L := L) (R := R) t_lig11
  · exact gov_in (b := 300) (S := S) (L := L) (R := R) t_lig12
theorem lig_size (hg : g < 2) (hl : l < 3) : hset (CH c S L R) (LI g l) (.inr (2, [.int x, .int (S g 12 l), .int (S g 13 l), .int (S g 14 l), .int (S g 15 l), .int (S g 16 l), .int (S g 17 l), .ref (LI g l + 1), .int (S g 18 l), .ref (LI g l + 2), .ref (LI g l + 3), .ref (LI g l + 4)])) = CH c (su S g 19 l x) L R := by
  obtain rfl | rfl : g = 0 ∨ g = 1 := by omega
  all_goals obtain rfl | rfl | rfl : l = 0 ∨ l = 1 ∨ l = 2 := by omega
  · exact hs_fld hokC (b := 300) (k := 0) (c := c) (S := S) (L := L) (R := R) (x := x) t_lig00 rfl
  · exact hs_fld hokC (b := 300) (k := 0) (c := c) (S := S) (L := L) (R := R) (x := x) t_lig01 rfl
  · exact hs_fld hokC (b := 300) (k := 0) (c := c) (S := S) (L := L) (R := R) (x := x) t_lig02 rfl
  · exact hs_fld hokC (b := 300) (k := 0) (c := c) (S := S) (L := L) (R := R) (x := x) t_lig10 rfl
  · exact hs_fld hokC (b := 300) (k := 0) (c := c) (S := S) (L := L) (R := R) (x := x) t_lig11 rfl
  · exact hs_fld hokC (b := 300) (k := 0) (c := c) (S := S) (L := L) (R := R) (x := x) t_lig12 rfl
theorem lig_can (hg : g < 2) (hl : l < 3) : hset (CH c S L R) (LI g l) (.inr (2, [.int (S g 19 l), .int x, .int (S g 13 l), .int (S g 14 l), .int (S g 15 l), .int (S g 16 l), .int (S g 17 l), .ref (LI g l + 1), .int (S g 18 l), .ref (LI g l + 2), .ref (LI g l + 3), .ref (LI g l + 4)])) = CH c (su S g 12 l x) L R := by
  obtain rfl | rfl : g = 0 ∨ g = 1 := by omega
  all_goals obtain rfl | rfl | rfl : l = 0 ∨ l = 1 ∨ l = 2 := by omega
  · exact hs_fld hokC (b := 300) (k := 1) (c := c) (S := S) (L := L) (R := R) (x := x) t_lig00 rfl
  · exact hs_fld hokC (b := 300) (k := 1) (c := c) (S := S) (L := L) (R := R) (x := x) t_lig01 rfl
  · exact hs_fld hokC (b := 300) (k := 1) (c := c) (S := S) (L := L) (R := R) (x := x) t_lig02 rfl
  · exact hs_fld hokC (b := 300) (k := 1) (c := c) (S := S) (L := L) (R := R) (x := x) t_lig10 rfl
  · exact hs_fld hokC (b := 300) (k := 1) (c := c) (S := S) (L := L) (R := R) (x := x) t_lig11 rfl
  · exact hs_fld hokC (b := 300) (k := 1) (c := c) (S := S) (L := L) (R := R) (x := x) t_lig12 rfl
theorem lig_place (hg : g < 2) (hl : l < 3) : hset (CH c S L R) (LI g l) (.inr (2, [.int (S g 19 l), .int (S g 12 l), .int x, .int (S g 14 l), .int (S g 15 l), .int (S g 16 l), .int (S g 17 l), .ref (LI g l + 1), .int (S g 18 l), .ref (LI g l + 2), .ref (LI g l + 3), .ref (LI g l + 4)])) = CH c (su S g 13 l x) L R := by
  obtain rfl | rfl : g = 0 ∨ g = 1 := by omega
  all_goals obtain rfl | rfl | rfl : l = 0 ∨ l = 1 ∨ l = 2 := by omega
  · exact hs_fld hokC (b := 300) (k := 2) (c := c) (S := S) (L := L) (R := R) (x := x) t_lig00 rfl
  · exact hs_fld hokC (b := 300) (k := 2) (c := c) (S := S) (L := L) (R := R) (x := x) t_lig01 rfl
  · exact hs_fld hokC (b := 300) (k := 2) (c := c) (S := S) (L := L) (R := R) (x := x) t_lig02 rfl
  · exact hs_fld hokC (b := 300) (k := 2) (c := c) (S := S) (L := L) (R := R) (x := x) t_lig10 rfl
  · exact hs_fld hokC (b := 300) (k := 2) (c := c) (S := S) (L := L) (R := R) (x := x) t_lig11 rfl
  · exact hs_fld hokC (b := 300) (k := 2) (c := c) (S := S) (L := L) (R := R) (x := x) t_lig12 rfl
theorem lig_round (hg : g < 2) (hl : l < 3) : hset (CH c S L R) (LI g l) (.inr (2, [.int (S g 19 l), .int (S g 12 l), .int (S g 13 l), .int x, .int (S g 15 l), .int (S g 16 l), .int (S g 17 l), .ref (LI g l + 1), .int (S g 18 l), .ref (LI g l + 2), .ref (LI g l + 3), .ref (LI g l + 4)])) = CH c (su S g 14 l x) L R := by
  obtain rfl | rfl : g = 0 ∨ g = 1 := by omega
  all_goals obtain rfl | rfl | rfl : l = 0 ∨ l = 1 ∨ l = 2 := by omega
  · exact hs_fld hokC (b := 300) (k := 3) (c := c) (S := S) (L := L) (R := R) (x := x) t_lig00 rfl
  · exact hs_fld hokC (b := 300) (k := 3) (c := c) (S := S) (L := L) (R := R) (x := x) t_lig01 rfl
  · exact hs_fld hokC (b := 300) (k := 3) (c := c) (S := S) (L := L) (R := R) (x := x) t_lig02 rfl
  · exact hs_fld hokC (b := 300) (k := 3) (c := c) (S := S) (L := L) (R := R) (x := x) t_lig10 rfl
  · exact hs_fld hokC (b := 300) (k := 3) (c := c) (S := S) (L := L) (R := R) (x := x) t_lig11 rfl
  · exact hs_fld hokC (b := 300) (k := 3) (c := c) (S := S) (L := L) (R := R) (x := x) t_lig12 rfl
theorem lig_begun (hg : g < 2) (hl : l < 3) : hset (CH c S L R) (LI g l) (.inr (2, [.int (S g 19 l), .int (S g 12 l), .int (S g 13 l), .int (S g 14 l), .int x, .int (S g 16 l), .int (S g 17 l), .ref (LI g l + 1), .int (S g 18 l), .ref (LI g l + 2), .ref (LI g l + 3), .ref (LI g l + 4)])) = CH c (su S g 15 l x) L R := by
  obtain rfl | rfl : g = 0 ∨ g = 1 := by omega
  all_goals obtain rfl | rfl | rfl : l = 0 ∨ l = 1 ∨ l = 2 := by omega
  · exact hs_fld hokC (b := 300) (k := 4) (c := c) (S := S) (L := L) (R := R) (x := x) t_lig00 rfl
  · exact hs_fld hokC (b := 300) (k := 4) (c := c) (S := S) (L := L) (R := R) (x := x) t_lig01 rfl
  · exact hs_fld hokC (b := 300) (k := 4) (c := c) (S := S) (L := L) (R := R) (x := x) t_lig02 rfl
  · exact hs_fld hokC (b := 300) (k := 4) (c := c) (S := S) (L := L) (R := R) (x := x) t_lig10 rfl
  · exact hs_fld hokC (b := 300) (k := 4) (c := c) (S := S) (L := L) (R := R) (x := x) t_lig11 rfl
  · exact hs_fld hokC (b := 300) (k := 4) (c := c) (S := S) (L := L) (R := R) (x := x) t_lig12 rfl
theorem lig_left (hg : g < 2) (hl : l < 3) : hset (CH c S L R) (LI g l) (.inr (2, [.int (S g 19 l), .int (S g 12 l), .int (S g 13 l), .int (S g 14 l), .int (S g 15 l), .int x, .int (S g 17 l), .ref (LI g l + 1), .int (S g 18 l), .ref (LI g l + 2), .ref (LI g l + 3), .ref (LI g l + 4)])) = CH c (su S g 16 l x) L R := by
  obtain rfl | rfl : g = 0 ∨ g = 1 := by omega
  all_goals obtain rfl | rfl | rfl : l = 0 ∨ l = 1 ∨ l = 2 := by omega
  · exact hs_fld hokC (b := 300) (k := 5) (c := c) (S := S) (L := L) (R := R) (x := x) t_lig00 rfl
  · exact hs_fld hokC (b := 300) (k := 5) (c := c) (S := S) (L := L) (R := R) (x := x) t_lig01 rfl
  · exact hs_fld hokC (b := 300) (k := 5) (c := c) (S := S) (L := L) (R := R) (x := x) t_lig02 rfl
  · exact hs_fld hokC (b := 300) (k := 5) (c := c) (S := S) (L := L) (R := R) (x := x) t_lig10 rfl
  · exact hs_fld hokC (b := 300) (k := 5) (c := c) (S := S) (L := L) (R := R) (x := x) t_lig11 rfl
  · exact hs_fld hokC (b := 300) (k := 5) (c := c) (S := S) (L := L) (R := R) (x := x) t_lig12 rfl
theorem lig_noted (hg : g < 2) (hl : l < 3) : hset (CH c S L R) (LI g l) (.inr (2, [.int (S g 19 l), .int (S g 12 l), .int (S g 13 l), .int (S g 14 l), .int (S g 15 l), .int (S g 16 l), .int x, .ref (LI g l + 1), .int (S g 18 l), .ref (LI g l + 2), .ref (LI g l + 3), .ref (LI g l + 4)])) = CH c (su S g 17 l x) L R := by
  obtain rfl | rfl : g = 0 ∨ g = 1 := by omega
  all_goals obtain rfl | rfl | rfl : l = 0 ∨ l = 1 ∨ l = 2 := by omega
  · exact hs_fld hokC (b := 300) (k := 6) (c := c) (S := S) (L := L) (R := R) (x := x) t_lig00 rfl
  · exact hs_fld hokC (b := 300) (k := 6) (c := c) (S := S) (L := L) (R := R) (x := x) t_lig01 rfl
  · exact hs_fld hokC (b := 300) (k := 6) (c := c) (S := S) (L := L) (R := R) (x := x) t_lig02 rfl
  · exact hs_fld hokC (b := 300) (k := 6) (c := c) (S := S) (L := L) (R := R) (x := x) t_lig10 rfl
  · exact hs_fld hokC (b := 300) (k := 6) (c := c) (S := S) (L := L) (R := R) (x := x) t_lig11 rfl
  · exact hs_fld hokC (b := 300) (k := 6) (c := c) (S := S) (L := L) (R := R) (x := x) t_lig12 rfl
theorem lig_open (hg : g < 2) (hl : l < 3) : hset (CH c S L R) (LI g l) (.inr (2, [.int (S g 19 l), .int (S g 12 l), .int (S g 13 l), .int (S g 14 l), .int (S g 15 l), .int (S g 16 l), .int (S g 17 l), .ref (LI g l + 1), .int x, .ref (LI g l + 2), .ref (LI g l + 3), .ref (LI g l + 4)])) = CH c (su S g 18 l x) L R := by
  obtain rfl | rfl : g = 0 ∨ g = 1 := by omega
  all_goals obtain rfl | rfl | rfl : l = 0 ∨ l = 1 ∨ l = 2 := by omega
  · exact hs_fld hokC (b := 300) (k := 8) (c := c) (S := S) (L := L) (R := R) (x := x) t_lig00 rfl
  · exact hs_fld hokC (b := 300) (k := 8) (c := c) (S := S) (L := L) (R := R) (x := x) t_lig01 rfl
  · exact hs_fld hokC (b := 300) (k := 8) (c := c) (S := S) (L := L) (R := R) (x := x) t_lig02 rfl
  · exact hs_fld hokC (b := 300) (k := 8) (c := c) (S := S) (L := L) (R := R) (x := x) t_lig10 rfl
  · exact hs_fld hokC (b := 300) (k := 8) (c := c) (S := S) (L := L) (R := R) (x := x) t_lig11 rfl
  · exact hs_fld hokC (b := 300) (k := 8) (c := c) (S := S) (L := L) (R := R) (x := x) t_lig12 rfl
theorem lig_g0 (hg : g < 2) (hl : l < 3) {K : Value → Prop} : gP ((CH c S L R).2 (LI g l)) 2 0 K = K (.int (S g 19 l)) := by
  rw [lig_at hg hl]
  rfl
theorem lig_g1 (hg : g < 2) (hl : l < 3) {K : Value → Prop} : gP ((CH c S L R).2 (LI g l)) 2 1 K = K (.int (S g 12 l)) := by
  rw [lig_at hg hl]
  rfl
theorem lig_g2 (hg : g < 2) (hl : l < 3) {K : Value → Prop} : gP ((CH c S L R).2 (LI g l)) 2 2 K = K (.int (S g 13 l)) := by
  rw [lig_at hg hl]
  rfl
theorem lig_g3 (hg : g < 2) (hl : l < 3) {K : Value → Prop} : gP ((CH c S L R).2 (LI g l)) 2 3 K = K (.int (S g 14 l)) := by
  rw [lig_at hg hl]
  rfl
theorem lig_g4 (hg : g < 2) (hl : l < 3) {K : Value → Prop} : gP ((CH c S L R).2 (LI g l)) 2 4 K = K (.int (S g 15 l)) := by
  rw [lig_at hg hl]
  rfl
theorem lig_g5 (hg : g < 2) (hl : l < 3) {K : Value → Prop} : gP ((CH c S L R).2 (LI g l)) 2 5 K = K (.int (S g 16 l)) := by
  rw [lig_at hg hl]
  rfl
theorem lig_g6 (hg : g < 2) (hl : l < 3) {K : Value → Prop} : gP ((CH c S L R).2 (LI g l)) 2 6 K = K (.int (S g 17 l)) := by
  rw [lig_at hg hl]
  rfl
theorem lig_g7 (hg : g < 2) (hl : l < 3) {K : Value → Prop} : gP ((CH c S L R).2 (LI g l)) 2 7 K = K (.ref (LI g l + 1)) := by
  rw [lig_at hg hl]
  rfl
theorem lig_g8 (hg : g < 2) (hl : l < 3) {K : Value → Prop} : gP ((CH c S L R).2 (LI g l)) 2 8 K = K (.int (S g 18 l)) := by
  rw [lig_at hg hl]
  rfl
theorem lig_g9 (hg : g < 2) (hl : l < 3) {K : Value → Prop} : gP ((CH c S L R).2 (LI g l)) 2 9 K = K (.ref (LI g l + 2)) := by
  rw [lig_at hg hl]
  rfl
theorem lig_g10 (hg : g < 2) (hl : l < 3) {K : Value → Prop} : gP ((CH c S L R).2 (LI g l)) 2 10 K = K (.ref (LI g l + 3)) := by
  rw [lig_at hg hl]
  rfl
theorem lig_g11 (hg : g < 2) (hl : l < 3) {K : Value → Prop} : gP ((CH c S L R).2 (LI g l)) 2 11 K = K (.ref (LI g l + 4)) := by
  rw [lig_at hg hl]
  rfl
theorem lig_r (hg : g < 2) (hl : l < 3) {P : Prop} : rP ((CH c S L R).2 (LI g l)) 2 P = P := by
  rw [lig_at hg hl]
  exact rP_mk
theorem lig_p0 (hg : g < 2) (hl : l < 3) {j pc : Nat} {ls : PL} {st : List Value} : pP ((CH c S L R).2 (LI g l)) 2 0 (ftOf 2 0) (.int x) (LI g l) (fun q => Wp d j pc ls st (hset (CH c S L R) (LI g l) q) Q) = Wp d j pc ls st (CH c (su S g 19 l x) L R) Q := by
  rw [lig_at hg hl, ft2_0, pP_int (by unfold LI; omega) (by simp)]
  simp only [List.set_cons_zero, List.set_cons_succ]
  rw [lig_size hg hl]
theorem lig_p1 (hg : g < 2) (hl : l < 3) {j pc : Nat} {ls : PL} {st : List Value} : pP ((CH c S L R).2 (LI g l)) 2 1 (ftOf 2 1) (.int x) (LI g l) (fun q => Wp d j pc ls st (hset (CH c S L R) (LI g l) q) Q) = Wp d j pc ls st (CH c (su S g 12 l x) L R) Q := by
  rw [lig_at hg hl, ft2_1, pP_int (by unfold LI; omega) (by simp)]
  simp only [List.set_cons_zero, List.set_cons_succ]
  rw [lig_can hg hl]
theorem lig_p2 (hg : g < 2) (hl : l < 3) {j pc : Nat} {ls : PL} {st : List Value} : pP ((CH c S L R).2 (LI g l)) 2 2 (ftOf 2 2) (.int x) (LI g l) (fun q => Wp d j pc ls st (hset (CH c S L R) (LI g l) q) Q) = Wp d j pc ls st (CH c (su S g 13 l x) L R) Q := by
  rw [lig_at hg hl, ft2_2, pP_int (by unfold LI; omega) (by simp)]
  simp only [List.set_cons_zero, List.set_cons_succ]
  rw [lig_place hg hl]
theorem lig_p3 (hg : g < 2) (hl : l < 3) {j pc : Nat} {ls : PL} {st : List Value} : pP ((CH c S L R).2 (LI g l)) 2 3 (ftOf 2 3) (.int x) (LI g l) (fun q => Wp d j pc ls st (hset (CH c S L R) (LI g l) q) Q) = Wp d j pc ls st (CH c (su S g 14 l x) L R) Q := by
  rw [lig_at hg hl, ft2_3, pP_int (by unfold LI; omega) (by simp)]
  simp only [List.set_cons_zero, List.set_cons_succ]
  rw [lig_round hg hl]
theorem lig_p4 (hg : g < 2) (hl : l < 3) {j pc : Nat} {ls : PL} {st : List Value} : pP ((CH c S L R).2 (LI g l)) 2 4 (ftOf 2 4) (.int x) (LI g l) (fun q => Wp d j pc ls st (hset (CH c S L R) (LI g l) q) Q) = Wp d j pc ls st (CH c (su S g 15 l x) L R) Q := by
  rw [lig_at hg hl, ft2_4, pP_int (by unfold LI; omega) (by simp)]
  simp only [List.set_cons_zero, List.set_cons_succ]
  rw [lig_begun hg hl]
theorem lig_p5 (hg : g < 2) (hl : l < 3) {j pc : Nat} {ls : PL} {st : List Value} : pP ((CH c S L R).2 (LI g l)) 2 5 (ftOf 2 5) (.int x) (LI g l) (fun q => Wp d j pc ls st (hset (CH c S L R) (LI g l) q) Q) = Wp d j pc ls st (CH c (su S g 16 l x) L R) Q := by
  rw [lig_at hg hl, ft2_5, pP_int (by unfold LI; omega) (by simp)]
  simp only [List.set_cons_zero, List.set_cons_succ]
  rw [lig_left hg hl]
theorem lig_p6 (hg : g < 2) (hl : l < 3) {j pc : Nat} {ls : PL} {st : List Value} : pP ((CH c S L R).2 (LI g l)) 2 6 (ftOf 2 6) (.int x) (LI g l) (fun q => Wp d j pc ls st (hset (CH c S L R) (LI g l) q) Q) = Wp d j pc ls st (CH c (su S g 17 l x) L R) Q := by
  rw [lig_at hg hl, ft2_6, pP_int (by unfold LI; omega) (by simp)]
  simp only [List.set_cons_zero, List.set_cons_succ]
  rw [lig_noted hg hl]
theorem lig_p8 (hg : g < 2) (hl : l < 3) {j pc : Nat} {ls : PL} {st : List Value} : pP ((CH c S L R).2 (LI g l)) 2 8 (ftOf 2 8) (.int x) (LI g l) (fun q => Wp d j pc ls st (hset (CH c S L R) (LI g l) q) Q) = Wp d j pc ls st (CH c (su S g 18 l x) L R) Q := by
  rw [lig_at hg hl, ft2_8, pP_int (by unfold LI; omega) (by simp)]
  simp only [List.set_cons_zero, List.set_cons_succ]
  rw [lig_open hg hl]
theorem t_l_notes : ∀ g < 2, ∀ l < 3, tC[52 + 28 * g + 5 * l + 1]? = some (some (.inr (0, 20, (0, g, l + 20, 0)))) := fun g hg l hl => tq_eq ((by decide +kernel : ∀ g < 2, ∀ l < 3, tq (tC[52 + 28 * g + 5 * l + 1]?) (some (.inr (0, 20, (0, g, l + 20, 0)))) = true) g hg l hl)
theorem l_notes_at (hg : g < 2) (hl : l < 3) : (CH c S L R).2 (LI g l + 1) = some (.inl (0, 20, .inl (S g (l + 20)))) := by
  have e := gov_in (b := 300) (S := S) (L := L) (R := R) (t_l_notes g hg l hl)
  rw [show 300 + (52 + 28 * g + 5 * l + 1) = LI g l + 1 from (by unfold LI; omega)] at e
  exact e
theorem l_notes_wr (hg : g < 2) (hl : l < 3) {k : Nat} : hset (CH c S L R) (LI g l + 1) (.inl (0, 20, .inl (upd (S g (l + 20)) k x))) = CH c (su S g (l + 20) k x) L R := by
  have e := hs_row1 hokC (b := 300) (c := c) (S := S) (L := L) (R := R) (x := x) (i := k) (t_l_notes g hg l hl)
  rw [show 300 + (52 + 28 * g + 5 * l + 1) = LI g l + 1 from (by unfold LI; omega)] at e
  exact e
theorem l_notes_get (hg : g < 2) (hl : l < 3) : Cp (d + 1) 115 [.ref (LI g l + 1), .int x] (CH c S L R) Q = Q (.inl (some (.int (gt S g (l + 20) 20 x))), CH c S L R) := by
  rw [c115 (l_notes_at hg hl) (by omega)]
  rfl
theorem l_notes_put (hg : g < 2) (hl : l < 3) : Cp (d + 1) 116 [.ref (LI g l + 1), .int x, .int y] (CH c S L R) Q = Q (.inl none, CH c (pt S g (l + 20) 20 x y) L R) := by
  rw [c116 (l_notes_at hg hl) (by unfold LI; omega) (by omega), l_notes_wr hg hl, pt]
  by_cases h : inB x 20 = true
  · simp only [if_pos h]
  · simp only [if_neg h]
theorem t_l_firsts : ∀ g < 2, ∀ l < 3, tC[52 + 28 * g + 5 * l + 2]? = some (some (.inr (0, 36, (0, g, l + 30, 0)))) := fun g hg l hl => tq_eq ((by decide +kernel : ∀ g < 2, ∀ l < 3, tq (tC[52 + 28 * g + 5 * l + 2]?) (some (.inr (0, 36, (0, g, l + 30, 0)))) = true) g hg l hl)
theorem l_firsts_at (hg : g < 2) (hl : l < 3) : (CH c S L R).2 (LI g l + 2) = some (.inl (0, 36, .inl (S g (l + 30)))) := by
  have e := gov_in (b := 300) (S := S) (L := L) (R := R) (t_l_firsts g hg l hl)
  rw [show 300 + (52 + 28 * g + 5 * l + 2) = LI g l + 2 from (by unfold LI; omega)] at e
  exact e
theorem l_firsts_wr (hg : g < 2) (hl : l < 3) {k : Nat} : hset (CH c S L R) (LI g l + 2) (.inl (0, 36, .inl (upd (S g (l + 30)) k x))) = CH c (su S g (l + 30) k x) L R := by
  have e := hs_row1 hokC (b := 300) (c := c) (S := S) (L := L) (R := R) (x := x) (i := k) (t_l_firsts g hg l hl)
  rw [show 300 + (52 + 28 * g + 5 * l + 2) = LI g l + 2 from (by unfold LI; omega)] at e
  exact e
theorem l_firsts_get (hg : g < 2) (hl : l < 3) : Cp (d + 1) 115 [.ref (LI g l + 2), .int x] (CH c S L R) Q = Q (.inl (some (.int (gt S g (l + 30) 36 x))), CH c S L R) := by
  rw [c115 (l_firsts_at hg hl) (by omega)]
  rfl
theorem l_firsts_put (hg : g < 2) (hl : l < 3) : Cp (d + 1) 116 [.ref (LI g l + 2), .int x, .int y] (CH c S L R) Q = Q (.inl none, CH c (pt S g (l + 30) 36 x y) L R) := by
  rw [c116 (l_firsts_at hg hl) (by unfold LI; omega) (by omega), l_firsts_wr hg hl, pt]
  by_cases h : inB x 36 = true
  · simp only [if_pos h]
  · simp only [if_neg h]
theorem t_l_nexts : ∀ g < 2, ∀ l < 3, tC[52 + 28 * g + 5 * l + 3]? = some (some (.inr (0, 36, (0, g, l + 40, 0)))) := fun g hg l hl => tq_eq ((by decide +kernel : ∀ g < 2, ∀ l < 3, tq (tC[52 + 28 * g + 5 * l + 3]?) (some (.inr (0, 36, (0, g, l + 40, 0)))) = true) g hg l hl)
theorem l_nexts_at (hg : g < 2) (hl : l < 3) : (CH c S L R).2 (LI g l + 3) = some (.inl (0, 36, .inl (S g (l + 40)))) := by
  have e := gov_in (b := 300) (S := S) (L := L) (R := R) (t_l_nexts g hg l hl)
  rw [show 300 + (52 + 28 * g + 5 * l + 3) = LI g l + 3 from (by unfold LI; omega)] at e
  exact e
theorem l_nexts_wr (hg : g < 2) (hl : l < 3) {k : Nat} : hset (CH c S L R) (LI g l + 3) (.inl (0, 36, .inl (upd (S g (l + 40)) k x))) = CH c (su S g (l + 40) k x) L R := by
  have e := hs_row1 hokC (b := 300) (c := c) (S := S) (L := L) (R := R) (x := x) (i := k) (t_l_nexts g hg l hl)
  rw [show 300 + (52 + 28 * g + 5 * l + 3) = LI g l + 3 from (by unfold LI; omega)] at e
  exact e
theorem l_nexts_get (hg : g < 2) (hl : l < 3) : Cp (d + 1) 115 [.ref (LI g l + 3), .int x] (CH c S L R) Q = Q (.inl (some (.int (gt S g (l + 40) 36 x))), CH c S L R) := by
  rw [c115 (l_nexts_at hg hl) (by omega)]
  rfl
theorem l_nexts_put (hg : g < 2) (hl : l < 3) : Cp (d + 1) 116 [.ref (LI g l + 3), .int x, .int y] (CH c S L R) Q = Q (.inl none, CH c (pt S g (l + 40) 36 x y) L R) := by
  rw [c116 (l_nexts_at hg hl) (by unfold LI; omega) (by omega), l_nexts_wr hg hl, pt]
  by_cases h : inB x 36 = true
  · simp only [if_pos h]
  · simp only [if_neg h]
theorem t_l_repeats : ∀ g < 2, ∀ l < 3, tC[52 + 28 * g + 5 * l + 4]? = some (some (.inr (0, 36, (0, g, l + 50, 0)))) := fun g hg l hl => tq_eq ((by decide +kernel : ∀ g < 2, ∀ l < 3, tq (tC[52 + 28 * g + 5 * l + 4]?) (some (.inr (0, 36, (0, g, l + 50, 0)))) = true) g hg l hl)
theorem l_repeats_at (hg : g < 2) (hl : l < 3) : (CH c S L R).2 (LI g l + 4) = some (.inl (0, 36, .inl (S g (l + 50)))) := by
  have e := gov_in (b := 300) (S := S) (L := L) (R := R) (t_l_repeats g hg l hl)
  rw [show 300 + (52 + 28 * g + 5 * l + 4) = LI g l + 4 from (by unfold LI; omega)] at e
  exact e
theorem l_repeats_wr (hg : g < 2) (hl : l < 3) {k : Nat} : hset (CH c S L R) (LI g l + 4) (.inl (0, 36, .inl (upd (S g (l + 50)) k x))) = CH c (su S g (l + 50) k x) L R := by
  have e := hs_row1 hokC (b := 300) (c := c) (S := S) (L := L) (R := R) (x := x) (i := k) (t_l_repeats g hg l hl)
  rw [show 300 + (52 + 28 * g + 5 * l + 4) = LI g l + 4 from (by unfold LI; omega)] at e
  exact e
theorem l_repeats_get (hg : g < 2) (hl : l < 3) : Cp (d + 1) 115 [.ref (LI g l + 4), .int x] (CH c S L R) Q = Q (.inl (some (.int (gt S g (l + 50) 36 x))), CH c S L R) := by
  rw [c115 (l_repeats_at hg hl) (by omega)]
  rfl
theorem l_repeats_put (hg : g < 2) (hl : l < 3) : Cp (d + 1) 116 [.ref (LI g l + 4), .int x, .int y] (CH c S L R) Q = Q (.inl none, CH c (pt S g (l + 50) 36 x y) L R) := by
  rw [c116 (l_repeats_at hg hl) (by unfold LI; omega) (by omega), l_repeats_wr hg hl, pt]
  by_cases h : inB x 36 = true
  · simp only [if_pos h]
  · simp only [if_neg h]
end LOOKC
