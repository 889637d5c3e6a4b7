
/-! THE START: what the Statement gives of it, in the plain machine's words -/
def strO (i : Nat) : String := (STR.getD i ("", 0, "", 0)).1
def strK (i : Nat) : Nat := (STR.getD i ("", 0, "", 0)).2.1
def strT (i : Nat) : String := (STR.getD i ("", 0, "", 0)).2.2.1
def tmS (i : Nat) : Term := .string (strO i) (strK i)
def byS : List (List Int32) := [[108, 97, 109, 112, 32, 97, 116, 32, 104, 111, 108, 100, 115, 32, 114, 111, 117, 110, 100, 32, 108, 105, 103, 104, 116, 32, 100, 111, 117, 115, 101, 32, 116, 114, 105, 109, 32, 102, 105, 108, 108, 32, 119, 97, 105, 116, 32, 110, 111, 116, 101, 32, 103, 111, 32, 119, 97, 108, 107, 32, 100, 111, 32, 105, 102, 32, 97, 110, 100, 32, 101, 108, 115, 101, 32, 111, 105, 108, 32, 119, 105, 99, 107, 32, 108, 105, 116, 32, 99, 97, 110, 32, 109, 111, 111, 110, 32, 104, 111, 117, 114, 32, 112, 111, 115, 116], [110, 111, 32, 99, 97, 110, 32, 104, 111, 108, 100, 115, 32, 115, 111, 32, 109, 117, 99, 104], [97, 108, 108, 32, 108, 105, 103, 104, 116, 101, 114, 115, 32, 97, 114, 101, 32, 104, 105, 114, 101, 100], [113, 117, 97, 114, 116, 101, 114, 115, 32, 97, 114, 101, 32, 49, 32, 116, 111, 32, 52, 48], [110, 111, 32, 115, 117, 99, 104, 32, 108, 97, 109, 112], [110, 111, 32, 115, 117, 99, 104, 32, 108, 105, 103, 104, 116, 101, 114], [113, 117, 97, 114, 116, 101, 114, 115, 32, 97, 114, 101, 32, 49, 32, 116, 111, 32, 56, 48], [116, 104, 105, 115, 32, 111, 110, 101, 32, 104, 97, 115, 32, 110, 111, 32, 114, 111, 117, 110, 100], [110, 111, 32, 115, 117, 99, 104, 32, 110, 111, 116, 101], [116, 104, 101, 32, 116, 97, 112, 101, 32, 104, 97, 115, 32, 110, 111, 32, 115, 117, 99, 104, 32, 108, 101, 110, 103, 116, 104], [116, 104, 101, 32, 116, 97, 112, 101, 32, 105, 115, 32, 102, 117, 108, 108], [40, 41, 59, 60, 62, 61], [108, 97, 109, 112, 32, 108], [32, 97, 116, 32], [32, 104, 111, 108, 100, 115, 32], [59, 10], [114, 111, 117, 110, 100, 32, 114], [32, 40], [108, 105, 103, 104, 116], [100, 111, 117, 115, 101], [116, 114, 105, 109], [102, 105, 108, 108, 32], [119, 97, 105, 116, 32], [110, 111, 116, 101, 32], [103, 111, 32, 108], [119, 97, 108, 107, 32, 114], [100, 111, 32], [105, 102, 32], [], [32, 97, 110, 100, 32], [60, 62, 61], [59], [32, 101, 108, 115, 101], [41, 10], [110, 111, 32, 115, 117, 99, 104, 32, 114, 111, 117, 110, 100], [111, 105, 108, 32, 105, 115, 32, 49, 32, 116, 111, 32, 51, 48], [110, 105, 103, 104, 116, 115, 32, 97, 114, 101, 32, 49, 32, 116, 111, 32, 53], [111, 105, 108], [119, 105, 99, 107], [108, 105, 116], [99, 97, 110], [109, 111, 111, 110], [104, 111, 117, 114], [112, 111, 115, 116]]
def leS : List Nat := byS.map List.length
def wixL : List Nat := [37, 38, 39, 40, 41, 42, 43]
def digF (j : Nat) : Int32 := Int32.ofNat (48 + j % 10)
def FLC : List Jvm.Cond := flatC (Jvm.Cond.and given_1 narrow_1)
set_option maxRecDepth 100000 in
theorem st_ex : ∀ i, i < 44 → Jvm.Cond.exactly (tmS i) "java/lang/String" ∈ FLC := by decide +kernel
set_option maxRecDepth 100000 in
theorem st_co : ∀ i, i < 44 → Jvm.Cond.eq (.field (tmS i) "java/lang/String" "coder" "B") (.int 0) ∈ FLC := by decide +kernel
set_option maxRecDepth 100000 in
theorem st_ar : ∀ i, i < 44 → Jvm.Cond.arrayOf (.field (tmS i) "java/lang/String" "value" "[B") .byte ∈ FLC := by decide +kernel
set_option maxRecDepth 100000 in
theorem st_le : ∀ i, i < 44 → Jvm.Cond.eq (.length (.field (tmS i) "java/lang/String" "value" "[B")) (.int (Int32.ofNat (leS.getD i 0))) ∈ FLC := by decide +kernel
def pS : List Nat := [295, 405, 429, 455, 479, 495, 514, 538, 563, 579, 610, 630, 640, 650, 658, 669, 675, 686, 692, 701, 710, 718, 727, 736, 745, 753, 763, 770, 968, 781, 790, 797, 802, 811, 817, 834, 852, 873, 880, 888, 895, 902, 910, 918]
set_option maxRecDepth 100000 in
theorem st_elA : ∀ i, i < 44 → ∀ j, j < leS.getD i 0 → FLC[pS.getD i 0 + j]? = some (Jvm.Cond.eq (.elem (.field (tmS i) "java/lang/String" "value" "[B") (.int (Int32.ofNat j))) (.int ((byS.getD i []).getD j 0))) := by decide +kernel
theorem st_el : ∀ i, i < 44 → ∀ j, j < leS.getD i 0 → Jvm.Cond.eq (.elem (.field (tmS i) "java/lang/String" "value" "[B") (.int (Int32.ofNat j))) (.int ((byS.getD i []).getD j 0)) ∈ FLC := fun i hi j hj => List.mem_of_getElem? (st_elA i hi j hj)
set_option maxRecDepth 100000 in
theorem st_sr : ∀ i, i < 44 → Jvm.Cond.stringRef (strO i) (strK i) (strT i) ∈ lw_tbl := by decide +kernel
set_option maxRecDepth 100000 in
theorem st_wd : ∀ j, j < 7 → Jvm.Cond.eq (.elem (.static "LampLightersLaw" "WORDS" "[Ljava/lang/String;") (.int (Int32.ofNat j))) (tmS (wixL.getD j 0)) ∈ FLC ∧ wixL.getD j 0 < 44 := by decide +kernel
set_option maxRecDepth 100000 in
theorem st_dgA : ∀ j, j < 100 → FLC[14 + j]? = some (Jvm.Cond.eq (.elem (.static "java/lang/Integer" "DigitOnes" "[B") (.int (Int32.ofNat j))) (.int (digF j))) := by decide +kernel
theorem st_dg : ∀ j, j < 100 → Jvm.Cond.eq (.elem (.static "java/lang/Integer" "DigitOnes" "[B") (.int (Int32.ofNat j))) (.int (digF j)) ∈ FLC := fun j hj => List.mem_of_getElem? (st_dgA j hj)
theorem st_len : ∀ i, i < 44 → leS.getD i 0 < 2 ^ 31 := by decide +kernel
theorem st_str : ∀ i, i < 44 → STR[i]? = some (strO i, strK i, strT i, 1 + i) := by decide +kernel
theorem st_all : ∀ q ∈ STR, ∃ i, i < 44 ∧ q = (strO i, strK i, strT i, 1 + i) := by
  intro q hq
  obtain ⟨i, hi⟩ := List.getElem?_of_mem hq
  have hl : i < 44 := by
    have := (List.getElem?_eq_some_iff.mp hi).1
    have e : STR.length = 44 := by decide
    omega
  rw [st_str i hl] at hi
  cases hi
  exact ⟨i, hl, rfl⟩
/-- what is read alone: the script, the texts and their bytes, the row of words -/
def RO (L : Nat) (xs : Nat → Int32) : Nat → Option PC := fun k =>
  if k = 0 then some (.inl (0, L, .inl xs)) else if k < 45 then some (.inr (13, [.ref (99 + k), .int 0])) else
  if 100 ≤ k ∧ k < 144 then some (.inl (2, leS.getD (k - 100) 0, .inl (fun j => (byS.getD (k - 100) []).getD j 0))) else
  if k = 200 then some (.inl (6, 7, .inr (.inr (.inr (.inr (fun j => some (1 + wixL.getD j 0))))))) else
  if k = 190 then some (.inl (2, 100, .inl digF)) else none
def roL (b : Nat) (adK adV : Nat → Nat) (tW tD : Nat) : List Nat := (List.range 300).map fun k => if k = 0 then b else if k < 45 then adK (k - 1) else if 100 ≤ k ∧ k < 144 then adV (k - 100) else if k = 200 then tW else if k = 190 then tD else b
theorem roL_at {b : Nat} {adK adV : Nat → Nat} {tW tD k : Nat} (h : k < 300) : (roL b adK adV tW tD)[k]? = some (if k = 0 then b else if k < 45 then adK (k - 1) else if 100 ≤ k ∧ k < 144 then adV (k - 100) else if k = 200 then tW else if k = 190 then tD else b) := by
  simp only [roL, List.getElem?_map, List.getElem?_range h, Option.map_some]
theorem roL_len {b : Nat} {adK adV : Nat → Nat} {tW tD : Nat} : (roL b adK adV tW tD).length = 300 := by simp [roL]
section START
variable {s : State} {args : Array Value} {S0 : Nat}
theorem strs (hS0 : S0 = s.heap.size) (hs : ∀ w ∈ FLC, w.before args s = true) (hts : ∀ w ∈ lw_tbl, w.before args s = true) : ∃ adK adV : Nat → Nat, ∀ i, i < 44 → va_O "java/lang/String" (adK i) (A0 S0) s s.heap ∧ va_OF "java/lang/String" "value" "[B" (.ref (adV i)) (adK i) (A0 S0) s s.heap ∧ va_OF "java/lang/String" "coder" "B" (.int 0) (adK i) (A0 S0) s s.heap ∧
    va_T .byte (adV i) (leS.getD i 0) (fun j => .int ((byS.getD i []).getD j 0)) (A0 S0) s s.heap ∧ (tmS i).eval args s none [] s = some (.ref (adK i)) := by
  have key : ∀ i : Nat, ∃ q : Nat × Nat, i < 44 → va_O "java/lang/String" q.1 (A0 S0) s s.heap ∧ va_OF "java/lang/String" "value" "[B" (.ref q.2) q.1 (A0 S0) s s.heap ∧ va_OF "java/lang/String" "coder" "B" (.int 0) q.1 (A0 S0) s s.heap ∧
      va_T .byte q.2 (leS.getD i 0) (fun j => .int ((byS.getD i []).getD j 0)) (A0 S0) s s.heap ∧ (tmS i).eval args s none [] s = some (.ref q.1) := by
    intro i
    by_cases hi : i < 44
    · obtain ⟨adK, adV, ⟨h1, -⟩, h2⟩ := vk_Sof (args := args) (s := s) (N := 1) (tm := fun _ => tmS i) (len := [leS.getD i 0]) (byt := [byS.getD i []]) (A := A0 S0)
        (fun k hk => by obtain rfl : k = 0 := by omega
                        exact st_len i hi)
        (fun k hk => hs _ (st_ex i hi)) (fun k hk => hs _ (st_co i hi)) (fun k hk => hs _ (st_ar i hi))
        (fun k hk => by obtain rfl : k = 0 := by omega
                        exact hs _ (st_le i hi))
        (fun k hk j hj => by obtain rfl : k = 0 := by omega
                             exact hs _ (st_el i hi j hj))
        (fun a b ha hb hab => absurd (by omega) hab)
        (fun a ha h => by unfold A0 at h; omega)
      obtain ⟨q1, q2, q3, q4⟩ := h1 0 (by omega)
      exact ⟨(adK 0, adV 0), fun _ => ⟨q1, q3, q2, q4, h2 0 (by omega)⟩⟩
    · exact ⟨(0, 0), fun h => absurd h hi⟩
  obtain ⟨ad, had⟩ := Classical.axiomOfChoice key
  exact ⟨fun i => (ad i).1, fun i => (ad i).2, fun i hi => had i hi⟩
set_option maxRecDepth 100000 in
theorem flc_1 : Jvm.Cond.eq (.static "java/lang/String" "COMPACT_STRINGS" "Z") (.int 1) ∈ FLC := by decide +kernel
set_option maxRecDepth 100000 in
theorem flc_2 : Jvm.Cond.isRef (.static "jdk/internal/util/Preconditions" "SIOOBE_FORMATTER" "Ljava/util/function/BiFunction;") ∈ FLC := by decide +kernel
set_option maxRecDepth 100000 in
theorem flc_3 : Jvm.Cond.isRef (.static "java/lang/Throwable" "UNASSIGNED_STACK" "[Ljava/lang/StackTraceElement;") ∈ FLC := by decide +kernel
set_option maxRecDepth 100000 in
theorem flc_4 : Jvm.Cond.isRef (.static "java/lang/Throwable" "SUPPRESSED_SENTINEL" "Ljava/util/List;") ∈ FLC := by decide +kernel
set_option maxRecDepth 100000 in
theorem flc_5 : Jvm.Cond.arrayOf (.static "LampLightersLaw" "WORDS" "[Ljava/lang/String;") (.object "java/lang/String") ∈ FLC := by decide +kernel
set_option maxRecDepth 100000 in
theorem flc_6 : Jvm.Cond.eq (.length (.static "LampLightersLaw" "WORDS" "[Ljava/lang/String;")) (.int 7) ∈ FLC := by decide +kernel
set_option maxRecDepth 100000 in
theorem flc_8 : Jvm.Cond.arrayOf (.static "java/lang/Integer" "DigitOnes" "[B") .byte ∈ FLC := by decide +kernel
set_option maxRecDepth 100000 in
theorem flc_9 : Jvm.Cond.eq (.length (.static "java/lang/Integer" "DigitOnes" "[B")) (.int 100) ∈ FLC := by decide +kernel
set_option maxRecDepth 100000 in
theorem flc_7 : ∀ q ∈ NCS, Jvm.Cond.not (.castable q.1 q.2) ∈ FLC := by decide +kernel
/-- the surroundings of the law's start -/
theorem start_EN {b L : Nat} {xs : Nat → Int32} (hbl : b < s.heap.size) (hX : va_X b L xs s s.heap) (hL : L ≤ 260) (hs : ∀ w ∈ FLC, w.before args s = true) (hts : ∀ w ∈ lw_tbl, w.before args s = true) : ∃ (D : va_G) (tys : List (ClassId × FieldType)) (adK adV : Nat → Nat) (tW tD : Nat), EN D tys s.heap.size (roL b adK adV tW tD) (RO L xs) s := by
  obtain ⟨adK, adV, hstr⟩ := strs (S0 := s.heap.size) rfl hs hts
  have hA : ∀ a : Nat, a < s.heap.size → ¬ A0 s.heap.size a := fun a ha h => by unfold A0 at h; omega
  obtain ⟨tW, htW, hTW⟩ := va_Tof (args := args) (s := s) (tm := .static "LampLightersLaw" "WORDS" "[Ljava/lang/String;") (ty := .object "java/lang/String") (N := 7) (f := fun j => .ref (adK (wixL.getD j 0))) (A := A0 s.heap.size) (by decide) (hs _ flc_5) (va_eqt (hs _ flc_6)) (fun j hj => by
    obtain ⟨h1, h2⟩ := st_wd j hj
    obtain ⟨w, h3, h4⟩ := Cond.eq_one (show (Cond.eq _ _).holds args s none s [] = true from hs _ h1)
    rw [(hstr _ h2).2.2.2.2] at h4
    cases h4
    exact h3) hA
  obtain ⟨tD, htD, hTD⟩ := va_Tof (args := args) (s := s) (tm := .static "java/lang/Integer" "DigitOnes" "[B") (ty := .byte) (N := 100) (f := fun j => .int (digF j)) (A := A0 s.heap.size) (by decide) (hs _ flc_8) (va_eqt (hs _ flc_9)) (fun j hj => by
    have h1 := st_dg j hj
    obtain ⟨w, h3, h4⟩ := Cond.eq_one (show (Cond.eq _ _).holds args s none s [] = true from hs _ h1)
    cases h4
    exact h3) hA
  obtain ⟨c0, iS0, hKn0⟩ := u_known (C := RJ0) (T := TJ0) (N := 4) (n := 4) hts (fun w hw => (List.mem_filter.mp (uJ0 w hw)).1) (hts (.instantiable RJ0 4) (by decide +kernel))
  obtain ⟨c1, iS1, hKn1⟩ := u_known (C := RJ4) (T := TJ4) (N := 4) (n := 4) hts (fun w hw => (List.mem_filter.mp (uJ4 w hw)).1) (hts (.instantiable RJ4 4) (by decide +kernel))
  obtain ⟨c2, iS2, hKn2⟩ := u_known (C := RX0) (T := TX0) (N := 17) (n := 17) hts (fun w hw => (List.mem_filter.mp (uX0 w hw)).1) (hts (.instantiable RX0 17) (by decide +kernel))
  obtain ⟨c3, iS3, hKn3⟩ := u_known (C := RX1) (T := TX1) (N := 7) (n := 7) hts (fun w hw => (List.mem_filter.mp (uX1 w hw)).1) (hts (.instantiable RX1 7) (by decide +kernel))
  obtain ⟨c4, iS4, hKn4⟩ := u_known (C := RX2) (T := TX2) (N := 12) (n := 12) hts (fun w hw => (List.mem_filter.mp (uX2 w hw)).1) (hts (.instantiable RX2 12) (by decide +kernel))
  obtain ⟨c5, iS5, hKn5⟩ := u_known (C := RX3) (T := TX3) (N := 10) (n := 10) hts (fun w hw => (List.mem_filter.mp (uX3 w hw)).1) (hts (.instantiable RX3 10) (by decide +kernel))
  obtain ⟨c6, iS6, hKn6⟩ := u_known (C := RX4) (T := TX4) (N := 2) (n := 2) hts (fun w hw => (List.mem_filter.mp (uX4 w hw)).1) (hts (.instantiable RX4 2) (by decide +kernel))
  obtain ⟨c7, iS7, hKn7⟩ := u_known (C := RX5) (T := TX5) (N := 4) (n := 4) hts (fun w hw => (List.mem_filter.mp (uX5 w hw)).1) (hts (.instantiable RX5 4) (by decide +kernel))
  obtain ⟨c8, iS8, hKn8⟩ := u_known (C := RX6) (T := TX6) (N := 8) (n := 8) hts (fun w hw => (List.mem_filter.mp (uX6 w hw)).1) (hts (.instantiable RX6 8) (by decide +kernel))
  obtain ⟨c9, iS9, hKn9⟩ := u_known (C := RX7) (T := TX7) (N := 6) (n := 6) hts (fun w hw => (List.mem_filter.mp (uX7 w hw)).1) (hts (.instantiable RX7 6) (by decide +kernel))
  obtain ⟨c10, iS10, hKn10⟩ := u_known (C := RX8) (T := TX8) (N := 6) (n := 6) hts (fun w hw => (List.mem_filter.mp (uX8 w hw)).1) (hts (.instantiable RX8 6) (by decide +kernel))
  obtain ⟨c11, iS11, hKn11⟩ := u_known (C := RX9) (T := TX9) (N := 8) (n := 8) hts (fun w hw => (List.mem_filter.mp (uX9 w hw)).1) (hts (.instantiable RX9 8) (by decide +kernel))
  obtain ⟨c12, iS12, hKn12⟩ := u_known (C := RX10) (T := TX10) (N := 8) (n := 8) hts (fun w hw => (List.mem_filter.mp (uX10 w hw)).1) (hts (.instantiable RX10 8) (by decide +kernel))
  obtain ⟨dC, dI, hKc⟩ : ∃ (dC : Nat → ClassId) (dI : Nat → Nat → Nat), ∀ (k : Nat) (q : vw_C), vwCl[k]? = some q → u_Kn s q.1 q.2.1 q.2.2 (dC k) (dI k) := by
    refine ⟨fun k => [c0, c1, c2, c3, c4, c5, c6, c7, c8, c9, c10, c11, c12].getD k 0, fun k => [iS0, iS1, iS2, iS3, iS4, iS5, iS6, iS7, iS8, iS9, iS10, iS11, iS12].getD k (fun _ => 0), ?_⟩
    intro k q hq
    match k, hq with
    | 0, hq => cases hq; exact hKn0
    | 1, hq => cases hq; exact hKn1
    | 2, hq => cases hq; exact hKn2
    | 3, hq => cases hq; exact hKn3
    | 4, hq => cases hq; exact hKn4
    | 5, hq => cases hq; exact hKn5
    | 6, hq => cases hq; exact hKn6
    | 7, hq => cases hq; exact hKn7
    | 8, hq => cases hq; exact hKn8
    | 9, hq => cases hq; exact hKn9
    | 10, hq => cases hq; exact hKn10
    | 11, hq => cases hq; exact hKn11
    | 12, hq => cases hq; exact hKn12
    | k + 13, hq => simp [vwCl] at hq
  have harr : ∀ t, t < 3 → ∃ cA, ArrOfT s cA (tyOf t) ∧ va_RA s cA (tyOf t) := by
    intro t ht
    have hw : (Jvm.Cond.arrayClass (tyOf t)).before args s = true := hts _ (by
      rcases (show t = 0 ∨ t = 1 ∨ t = 2 by omega) with rfl | rfl | rfl <;> decide +kernel)
    obtain ⟨cA, kA, comp, h1, h2, h3⟩ := Cond.arrayClass_spec hw
    refine ⟨cA, fun n z => ⟨fun k h => (by cases h), kA, h2, comp, h3⟩, ?_⟩
    rcases (show t = 0 ∨ t = 1 ∨ t = 2 by omega) with rfl | rfl | rfl <;> exact h1
  have har3 : ∃ cA, ArrOfT s cA (tyOf 3) ∧ va_RA s cA (tyOf 3) := by
    have hw : (Jvm.Cond.arrayOver (.array .int)).before args s = true := hts _ (List.mem_filter.mp ov3).1
    obtain ⟨comp, cA, kA, h1, h2, h3, h4, h5⟩ := arrayOverA_spec hw
    exact ⟨cA, fun n z => ⟨fun k h => (by cases h), kA, h3, comp, h4⟩, h5⟩
  have harq : ∀ t, 4 ≤ t ∧ t ≤ 8 → ∃ cA, ArrOfT s cA (tyOf t) ∧ va_RA s cA (tyOf t) := by
    intro t ht
    have ht5 : t = 4 ∨ t = 5 ∨ t = 6 ∨ t = 7 ∨ t = 8 := by omega
    obtain ⟨C, hC⟩ : ∃ C, tyOf t = .object C := by rcases ht5 with rfl | rfl | rfl | rfl | rfl <;> exact ⟨_, rfl⟩
    have hw : (Jvm.Cond.arrayOver (.object C)).before args s = true := hts _ (by
      rcases ht5 with rfl | rfl | rfl | rfl | rfl <;> cases hC
      · exact (List.mem_filter.mp ov4).1
      · exact (List.mem_filter.mp ov5).1
      · exact (List.mem_filter.mp ov6).1
      · exact (List.mem_filter.mp ov7).1
      · exact (List.mem_filter.mp ov8).1)
    obtain ⟨comp, cA, kA, h1, h2, h3, h4, h5⟩ := Cond.arrayOver_spec hw
    rw [hC]
    exact ⟨cA, fun n z => ⟨fun k h => (by cases h), kA, h3, comp, h4⟩, kA, comp, h3, h4, h1, h5⟩
  obtain ⟨a0, g0, f0⟩ := harr 0 (by omega)
  obtain ⟨a1, g1, f1⟩ := harr 1 (by omega)
  obtain ⟨a2, g2, f2⟩ := harr 2 (by omega)
  obtain ⟨a3, g3, f3⟩ := har3
  obtain ⟨a4, g4, f4⟩ := harq 4 (by omega)
  obtain ⟨a5, g5, f5⟩ := harq 5 (by omega)
  obtain ⟨a6, g6, f6⟩ := harq 6 (by omega)
  obtain ⟨a7, g7, f7⟩ := harq 7 (by omega)
  obtain ⟨a8, g8, f8⟩ := harq 8 (by omega)
  refine ⟨(dC, dI), [(a0, tyOf 0), (a1, tyOf 1), (a2, tyOf 2), (a3, tyOf 3), (a4, tyOf 4), (a5, tyOf 5), (a6, tyOf 6), (a7, tyOf 7), (a8, tyOf 8)], adK, adV, tW, tD, ⟨hKc, ?_⟩, ?_, Nat.le_refl _, ?_, ?_, ?_, ?_, ?_, ?_, ?_, ?_⟩
  · intro k q hk
    match k, hk with
    | 0, hk => cases hk; exact ⟨g0, f0⟩
    | 1, hk => cases hk; exact ⟨g1, f1⟩
    | 2, hk => cases hk; exact ⟨g2, f2⟩
    | 3, hk => cases hk; exact ⟨g3, f3⟩
    | 4, hk => cases hk; exact ⟨g4, f4⟩
    | 5, hk => cases hk; exact ⟨g5, f5⟩
    | 6, hk => cases hk; exact ⟨g6, f6⟩
    | 7, hk => cases hk; exact ⟨g7, f7⟩
    | 8, hk => cases hk; exact ⟨g8, f8⟩
    | k + 9, hk => simp at hk
  · intro t ht
    rcases (show t = 0 ∨ t = 1 ∨ t = 2 ∨ t = 3 ∨ t = 4 ∨ t = 5 ∨ t = 6 ∨ t = 7 ∨ t = 8 by omega) with rfl | rfl | rfl | rfl | rfl | rfl | rfl | rfl | rfl <;> exact ⟨_, rfl⟩
  · intro k t x hk
    unfold RO at hk
    split at hk
    · rename_i h0
      subst h0
      cases hk
      refine ⟨by omega, b, fun j => .int (xs j), roL_at (by omega), Or.inl rfl, ?_, fun j hj => rfl⟩
      obtain ⟨scr, h1, h2, h3, h4, h5⟩ := hX
      exact ⟨scr, h1, h2, h3, by rw [h4]; exact Nat.le_refl _, by first | (rw [h4]; done) | (rw [h4]; rfl), h5, hA b hbl⟩
    · split at hk
      · cases hk
      · split at hk
        · rename_i h0 h1 h2
          cases hk
          obtain ⟨-, -, -, q4, -⟩ := hstr (k - 100) (by omega)
          refine ⟨by omega, adV (k - 100), _, ?_, Or.inr (Or.inl rfl), q4, fun j hj => rfl⟩
          rw [roL_at (by omega), if_neg h0, if_neg h1, if_pos h2]
        · split at hk
          · rename_i h0 h1 h2 h3
            subst h3
            cases hk
            refine ⟨by omega, tW, _, roL_at (by omega), Or.inr (Or.inr rfl), hTW, fun j hj => ?_⟩
            obtain ⟨-, h5⟩ := st_wd j hj
            show VR _ (.ref (1 + wixL.getD j 0)) (.ref (adK (wixL.getD j 0)))
            refine VR.mk ?_
            rw [roL_at (by omega), if_neg (by omega), if_pos (by omega), Nat.add_sub_cancel_left]
          · split at hk
            · rename_i h0 h1 h2 h3 h4
              subst h4
              cases hk
              exact ⟨by omega, tD, _, roL_at (by omega), Or.inr (Or.inl rfl), hTD, fun j hj => rfl⟩
            · cases hk
  · intro k ci fs hk
    unfold RO at hk
    split at hk
    · cases hk
    · split at hk
      · rename_i h0 h1
        cases hk
        obtain ⟨q1, q2, q3, q4, q5⟩ := hstr (k - 1) (by omega)
        refine ⟨by omega, rfl, adK (k - 1), _, _, .ref (adV (k - 1)), .int 0, ?_, rfl, q1, q2, ?_, q3, rfl⟩
        · rw [roL_at (by omega), if_neg h0, if_pos h1]
        · refine VR.mk ?_
          rw [roL_at (by omega), if_neg (by omega), if_neg (by omega), if_pos (by omega)]
          congr 2
          omega
      · split at hk
        · cases hk
        · split at hk
          · cases hk
          · split at hk <;> cases hk
  · intro q hq
    simp only [STT, List.mem_cons, List.not_mem_nil, or_false] at hq
    rcases hq with rfl | rfl | rfl | rfl
    · exact ⟨.int 1, rfl, va_Zof (hts (.laysStatic "java/lang/String" "COMPACT_STRINGS" "Z") (by decide +kernel)) (hts (.initialized "java/lang/String") (by decide +kernel)) (va_eqt (hs _ flc_1)) hA⟩
    · rcases va_Zqof (hts (.laysStatic "jdk/internal/util/Preconditions" "SIOOBE_FORMATTER" "Ljava/util/function/BiFunction;") (by decide +kernel)) (hts (.initialized "jdk/internal/util/Preconditions") (by decide +kernel)) (hs _ flc_2) hA with h | ⟨t, h⟩
      · exact ⟨.null, by simp [VR], h⟩
      · exact ⟨.ref t, by simp [VR], h⟩
    · refine ⟨.ref tW, VR.mk (roL_at (by omega)), va_Zref (hts (.laysStatic "LampLightersLaw" "WORDS" "[Ljava/lang/String;") (by decide +kernel)) (hts (.initialized "LampLightersLaw") (by decide +kernel)) htW hA⟩
    · refine ⟨.ref tD, VR.mk (roL_at (by omega)), va_Zref (hts (.laysStatic "java/lang/Integer" "DigitOnes" "[B") (by decide +kernel)) (hts (.initialized "java/lang/Integer") (by decide +kernel)) htD hA⟩
  · intro q hq
    obtain ⟨i, hi, rfl⟩ := st_all q hq
    refine ⟨adK i, ?_, vk_R.of (hts _ (st_sr i hi)) (hstr i hi).2.2.2.2⟩
    show (roL b adK adV tW tD)[1 + i]? = _
    rw [roL_at (by omega), if_neg (by omega), if_pos (by omega), Nat.add_sub_cancel_left]
  · exact vx_Zqof (hts _ (by decide +kernel)) (hts (.initialized "java/lang/Throwable") (by decide +kernel)) (hs _ flc_3) hA
  · exact vx_Zqof (hts _ (by decide +kernel)) (hts (.initialized "java/lang/Throwable") (by decide +kernel)) (hs _ flc_4) hA
  · intro w hw
    obtain ⟨h1, h2⟩ := List.mem_filter.mp hw
    have h3 := hts w h1
    cases w with
    | fieldLinkNest => exact va_Nw.of rfl h3
    | methodLinkNest => exact va_Nw.of rfl h3
    | castable => exact va_Nw.of rfl h3
    | declares => exact va_Nw.of rfl h3
    | arrayOver t =>
      cases t with
      | object C => exact va_AO.of h3
      | array t => exact aoA_moved (Vm.Alike.refl _) h3
      | _ => simp [isNw] at h2
    | _ => simp [isNw] at h2
  · intro q hq
    exact va_Nc.of (hs _ (flc_7 q hq))
end START
