/-! ENTRIES -/
section ENTS
variable {d : Nat} {h : PH} {Q : PO → Prop} {st : List Value} {l0 l1 l2 l3 l4 l5 l6 l7 l8 l9 l10 l11 l12 l13 l14 l15 l16 l17 l18 l19 l20 l21 l22 l23 : Option Value} {x0 : Int32} {y0 : Int64} {a0 : Nat} {x1 : Int32} {y1 : Int64} {a1 : Nat} {x2 : Int32} {y2 : Int64} {a2 : Nat} {x3 : Int32} {y3 : Int64} {a3 : Nat} {x4 : Int32} {y4 : Int64} {a4 : Nat} {x5 : Int32} {y5 : Int64} {a5 : Nat} {x6 : Int32} {y6 : Int64} {a6 : Nat} {x7 : Int32} {y7 : Int64} {a7 : Nat}
theorem C_ent {j n : Nat} {a : List Value} {ls : PL} (hm : mloc j = n) (hp : pent n a = ls) (hl : ls.length = n) : Cp (d + 1) j a h Q = Wp d j 0 ls [] h Q := by
  subst hm hp
  exact propext (Cp_succ hl)
theorem ml0 : mloc 0 = 1 := by decide +kernel
theorem ce0 : Cp (d + 1) 0 [.ref a0] h Q = Wp d 0 0 [some (.ref a0)] [] h Q := C_ent ml0 rfl rfl
theorem ml1 : mloc 1 = 1 := by decide +kernel
theorem ce1 : Cp (d + 1) 1 [.ref a0] h Q = Wp d 1 0 [some (.ref a0)] [] h Q := C_ent ml1 rfl rfl
theorem ml2 : mloc 2 = 1 := by decide +kernel
theorem ce2 : Cp (d + 1) 2 [.ref a0] h Q = Wp d 2 0 [some (.ref a0)] [] h Q := C_ent ml2 rfl rfl
theorem ml3 : mloc 3 = 3 := by decide +kernel
theorem ce3 : Cp (d + 1) 3 [.ref a0, .int x1, .int x2] h Q = Wp d 3 0 [some (.ref a0), some (.int x1), some (.int x2)] [] h Q := C_ent ml3 rfl rfl
theorem ml4 : mloc 4 = 2 := by decide +kernel
theorem ce4 : Cp (d + 1) 4 [.ref a0, .ref a1] h Q = Wp d 4 0 [some (.ref a0), some (.ref a1)] [] h Q := C_ent ml4 rfl rfl
theorem ml5 : mloc 5 = 1 := by decide +kernel
theorem ce5 : Cp (d + 1) 5 [.ref a0] h Q = Wp d 5 0 [some (.ref a0)] [] h Q := C_ent ml5 rfl rfl
theorem ml6 : mloc 6 = 2 := by decide +kernel
theorem ce6 : Cp (d + 1) 6 [.ref a0] h Q = Wp d 6 0 [some (.ref a0), none] [] h Q := C_ent ml6 rfl rfl
theorem ml7 : mloc 7 = 5 := by decide +kernel
theorem ce7 : Cp (d + 1) 7 [.ref a0, .long y1] h Q = Wp d 7 0 [some (.ref a0), some (.long y1), none, none, none] [] h Q := C_ent ml7 rfl rfl
theorem ml8 : mloc 8 = 1 := by decide +kernel
theorem ce8 : Cp (d + 1) 8 [.ref a0] h Q = Wp d 8 0 [some (.ref a0)] [] h Q := C_ent ml8 rfl rfl
theorem ml9 : mloc 9 = 2 := by decide +kernel
theorem ce9 : Cp (d + 1) 9 [.ref a0, .int x1] h Q = Wp d 9 0 [some (.ref a0), some (.int x1)] [] h Q := C_ent ml9 rfl rfl
theorem ml10 : mloc 10 = 1 := by decide +kernel
theorem ce10 : Cp (d + 1) 10 [.ref a0] h Q = Wp d 10 0 [some (.ref a0)] [] h Q := C_ent ml10 rfl rfl
theorem ml11 : mloc 11 = 3 := by decide +kernel
theorem ce11 : Cp (d + 1) 11 [.ref a0, .ref a1, .int x2] h Q = Wp d 11 0 [some (.ref a0), some (.ref a1), some (.int x2)] [] h Q := C_ent ml11 rfl rfl
theorem ml12 : mloc 12 = 1 := by decide +kernel
theorem ce12 : Cp (d + 1) 12 [.ref a0] h Q = Wp d 12 0 [some (.ref a0)] [] h Q := C_ent ml12 rfl rfl
theorem ml13 : mloc 13 = 1 := by decide +kernel
theorem ce13 : Cp (d + 1) 13 [.ref a0] h Q = Wp d 13 0 [some (.ref a0)] [] h Q := C_ent ml13 rfl rfl
theorem ml14 : mloc 14 = 3 := by decide +kernel
theorem ce14 : Cp (d + 1) 14 [.ref a0, .int x1, .int x2] h Q = Wp d 14 0 [some (.ref a0), some (.int x1), some (.int x2)] [] h Q := C_ent ml14 rfl rfl
theorem ml15 : mloc 15 = 4 := by decide +kernel
theorem ce15 : Cp (d + 1) 15 [.ref a0, .ref a1] h Q = Wp d 15 0 [some (.ref a0), some (.ref a1), none, none] [] h Q := C_ent ml15 rfl rfl
theorem ml16 : mloc 16 = 2 := by decide +kernel
theorem ce16 : Cp (d + 1) 16 [.ref a0, .int x1] h Q = Wp d 16 0 [some (.ref a0), some (.int x1)] [] h Q := C_ent ml16 rfl rfl
theorem ml17 : mloc 17 = 2 := by decide +kernel
theorem ce17 : Cp (d + 1) 17 [.ref a0, .int x1] h Q = Wp d 17 0 [some (.ref a0), some (.int x1)] [] h Q := C_ent ml17 rfl rfl
theorem ml18 : mloc 18 = 3 := by decide +kernel
theorem ce18 : Cp (d + 1) 18 [.ref a0, .ref a1] h Q = Wp d 18 0 [some (.ref a0), some (.ref a1), none] [] h Q := C_ent ml18 rfl rfl
theorem ml19 : mloc 19 = 6 := by decide +kernel
theorem ce19 : Cp (d + 1) 19 [.ref a0, .long y1] h Q = Wp d 19 0 [some (.ref a0), some (.long y1), none, none, none, none] [] h Q := C_ent ml19 rfl rfl
theorem ml20 : mloc 20 = 2 := by decide +kernel
theorem ce20 : Cp (d + 1) 20 [.ref a0, .ref a1] h Q = Wp d 20 0 [some (.ref a0), some (.ref a1)] [] h Q := C_ent ml20 rfl rfl
theorem ml21 : mloc 21 = 5 := by decide +kernel
theorem ce21 : Cp (d + 1) 21 [.ref a0, .ref a1, .ref a2] h Q = Wp d 21 0 [some (.ref a0), some (.ref a1), some (.ref a2), none, none] [] h Q := C_ent ml21 rfl rfl
theorem ml22 : mloc 22 = 2 := by decide +kernel
theorem ce22 : Cp (d + 1) 22 [.ref a0] h Q = Wp d 22 0 [some (.ref a0), none] [] h Q := C_ent ml22 rfl rfl
theorem ml23 : mloc 23 = 3 := by decide +kernel
theorem ce23 : Cp (d + 1) 23 [.ref a0] h Q = Wp d 23 0 [some (.ref a0), none, none] [] h Q := C_ent ml23 rfl rfl
theorem ml24 : mloc 24 = 6 := by decide +kernel
theorem ce24 : Cp (d + 1) 24 [.ref a0, .int x1] h Q = Wp d 24 0 [some (.ref a0), some (.int x1), none, none, none, none] [] h Q := C_ent ml24 rfl rfl
theorem ml25 : mloc 25 = 2 := by decide +kernel
theorem ce25 : Cp (d + 1) 25 [.ref a0] h Q = Wp d 25 0 [some (.ref a0), none] [] h Q := C_ent ml25 rfl rfl
theorem ml26 : mloc 26 = 4 := by decide +kernel
theorem ce26 : Cp (d + 1) 26 [.ref a0, .int x1, .int x2] h Q = Wp d 26 0 [some (.ref a0), some (.int x1), some (.int x2), none] [] h Q := C_ent ml26 rfl rfl
theorem ml27 : mloc 27 = 5 := by decide +kernel
theorem ce27 : Cp (d + 1) 27 [.ref a0, .ref a1, .int x2, .int x3] h Q = Wp d 27 0 [some (.ref a0), some (.ref a1), some (.int x2), some (.int x3), none] [] h Q := C_ent ml27 rfl rfl
theorem ml28 : mloc 28 = 5 := by decide +kernel
theorem ce28 : Cp (d + 1) 28 [.ref a0, .int x1] h Q = Wp d 28 0 [some (.ref a0), some (.int x1), none, none, none] [] h Q := C_ent ml28 rfl rfl
theorem ml29 : mloc 29 = 5 := by decide +kernel
theorem ce29 : Cp (d + 1) 29 [.ref a0, .int x1, .ref a2, .int x3] h Q = Wp d 29 0 [some (.ref a0), some (.int x1), some (.ref a2), some (.int x3), none] [] h Q := C_ent ml29 rfl rfl
theorem ml30 : mloc 30 = 3 := by decide +kernel
theorem ce30 : Cp (d + 1) 30 [.ref a0, .ref a1, .int x2] h Q = Wp d 30 0 [some (.ref a0), some (.ref a1), some (.int x2)] [] h Q := C_ent ml30 rfl rfl
theorem ml31 : mloc 31 = 5 := by decide +kernel
theorem ce31 : Cp (d + 1) 31 [.ref a0, .ref a1, .int x2, .int x3, .int x4] h Q = Wp d 31 0 [some (.ref a0), some (.ref a1), some (.int x2), some (.int x3), some (.int x4)] [] h Q := C_ent ml31 rfl rfl
theorem ml32 : mloc 32 = 2 := by decide +kernel
theorem ce32 : Cp (d + 1) 32 [.ref a0, .int x1] h Q = Wp d 32 0 [some (.ref a0), some (.int x1)] [] h Q := C_ent ml32 rfl rfl
theorem ml33 : mloc 33 = 4 := by decide +kernel
theorem ce33 : Cp (d + 1) 33 [.ref a0, .ref a1, .int x2] h Q = Wp d 33 0 [some (.ref a0), some (.ref a1), some (.int x2), none] [] h Q := C_ent ml33 rfl rfl
theorem ml34 : mloc 34 = 2 := by decide +kernel
theorem ce34 : Cp (d + 1) 34 [.ref a0, .int x1] h Q = Wp d 34 0 [some (.ref a0), some (.int x1)] [] h Q := C_ent ml34 rfl rfl
theorem ml35 : mloc 35 = 2 := by decide +kernel
theorem ce35 : Cp (d + 1) 35 [.ref a0, .int x1] h Q = Wp d 35 0 [some (.ref a0), some (.int x1)] [] h Q := C_ent ml35 rfl rfl
theorem ml36 : mloc 36 = 1 := by decide +kernel
theorem ce36 : Cp (d + 1) 36 [.ref a0] h Q = Wp d 36 0 [some (.ref a0)] [] h Q := C_ent ml36 rfl rfl
theorem ml37 : mloc 37 = 1 := by decide +kernel
theorem ce37 : Cp (d + 1) 37 [.ref a0] h Q = Wp d 37 0 [some (.ref a0)] [] h Q := C_ent ml37 rfl rfl
theorem ml38 : mloc 38 = 3 := by decide +kernel
theorem ce38 : Cp (d + 1) 38 [.ref a0, .int x1] h Q = Wp d 38 0 [some (.ref a0), some (.int x1), none] [] h Q := C_ent ml38 rfl rfl
theorem ml39 : mloc 39 = 2 := by decide +kernel
theorem ce39 : Cp (d + 1) 39 [.ref a0, .int x1] h Q = Wp d 39 0 [some (.ref a0), some (.int x1)] [] h Q := C_ent ml39 rfl rfl
theorem ml40 : mloc 40 = 4 := by decide +kernel
theorem ce40 : Cp (d + 1) 40 [.ref a0] h Q = Wp d 40 0 [some (.ref a0), none, none, none] [] h Q := C_ent ml40 rfl rfl
theorem ml41 : mloc 41 = 5 := by decide +kernel
theorem ce41 : Cp (d + 1) 41 [.ref a0, .ref a1] h Q = Wp d 41 0 [some (.ref a0), some (.ref a1), none, none, none] [] h Q := C_ent ml41 rfl rfl
theorem ml42 : mloc 42 = 3 := by decide +kernel
theorem ce42 : Cp (d + 1) 42 [.ref a0, .int x1] h Q = Wp d 42 0 [some (.ref a0), some (.int x1), none] [] h Q := C_ent ml42 rfl rfl
theorem ml43 : mloc 43 = 6 := by decide +kernel
theorem ce43 : Cp (d + 1) 43 [.ref a0, .ref a1, .int x2, .int x3] h Q = Wp d 43 0 [some (.ref a0), some (.ref a1), some (.int x2), some (.int x3), none, none] [] h Q := C_ent ml43 rfl rfl
theorem ml44 : mloc 44 = 7 := by decide +kernel
theorem ce44 : Cp (d + 1) 44 [.ref a0, .ref a1, .int x2, .int x3] h Q = Wp d 44 0 [some (.ref a0), some (.ref a1), some (.int x2), some (.int x3), none, none, none] [] h Q := C_ent ml44 rfl rfl
theorem ml45 : mloc 45 = 7 := by decide +kernel
theorem ce45 : Cp (d + 1) 45 [.ref a0, .ref a1, .int x2, .int x3] h Q = Wp d 45 0 [some (.ref a0), some (.ref a1), some (.int x2), some (.int x3), none, none, none] [] h Q := C_ent ml45 rfl rfl
theorem ml46 : mloc 46 = 6 := by decide +kernel
theorem ce46 : Cp (d + 1) 46 [.ref a0, .int x1, .int x2, .int x3, .long y4] h Q = Wp d 46 0 [some (.ref a0), some (.int x1), some (.int x2), some (.int x3), some (.long y4), none] [] h Q := C_ent ml46 rfl rfl
theorem ml47 : mloc 47 = 4 := by decide +kernel
theorem ce47 : Cp (d + 1) 47 [.ref a0, .long y1] h Q = Wp d 47 0 [some (.ref a0), some (.long y1), none, none] [] h Q := C_ent ml47 rfl rfl
theorem ml48 : mloc 48 = 3 := by decide +kernel
theorem ce48 : Cp (d + 1) 48 [.long y0, .int x1] h Q = Wp d 48 0 [some (.long y0), none, some (.int x1)] [] h Q := C_ent ml48 rfl rfl
theorem ml49 : mloc 49 = 1 := by decide +kernel
theorem ce49 : Cp (d + 1) 49 [.int x0] h Q = Wp d 49 0 [some (.int x0)] [] h Q := C_ent ml49 rfl rfl
theorem ml50 : mloc 50 = 1 := by decide +kernel
theorem ce50 : Cp (d + 1) 50 [.int x0] h Q = Wp d 50 0 [some (.int x0)] [] h Q := C_ent ml50 rfl rfl
theorem ml51 : mloc 51 = 3 := by decide +kernel
theorem ce51 : Cp (d + 1) 51 [.ref a0, .ref a1] h Q = Wp d 51 0 [some (.ref a0), some (.ref a1), none] [] h Q := C_ent ml51 rfl rfl
theorem ml52 : mloc 52 = 3 := by decide +kernel
theorem ce52 : Cp (d + 1) 52 [.ref a0, .ref a1] h Q = Wp d 52 0 [some (.ref a0), some (.ref a1), none] [] h Q := C_ent ml52 rfl rfl
theorem ml53 : mloc 53 = 3 := by decide +kernel
theorem ce53 : Cp (d + 1) 53 [.ref a0, .ref a1] h Q = Wp d 53 0 [some (.ref a0), some (.ref a1), none] [] h Q := C_ent ml53 rfl rfl
theorem ml54 : mloc 54 = 1 := by decide +kernel
theorem ce54 : Cp (d + 1) 54 [.ref a0] h Q = Wp d 54 0 [some (.ref a0)] [] h Q := C_ent ml54 rfl rfl
theorem ml55 : mloc 55 = 5 := by decide +kernel
theorem ce55 : Cp (d + 1) 55 [.ref a0, .int x1] h Q = Wp d 55 0 [some (.ref a0), some (.int x1), none, none, none] [] h Q := C_ent ml55 rfl rfl
theorem ml56 : mloc 56 = 3 := by decide +kernel
theorem ce56 : Cp (d + 1) 56 [.ref a0] h Q = Wp d 56 0 [some (.ref a0), none, none] [] h Q := C_ent ml56 rfl rfl
theorem ml57 : mloc 57 = 2 := by decide +kernel
theorem ce57 : Cp (d + 1) 57 [.ref a0] h Q = Wp d 57 0 [some (.ref a0), none] [] h Q := C_ent ml57 rfl rfl
theorem ml58 : mloc 58 = 3 := by decide +kernel
theorem ce58 : Cp (d + 1) 58 [.ref a0] h Q = Wp d 58 0 [some (.ref a0), none, none] [] h Q := C_ent ml58 rfl rfl
theorem ml59 : mloc 59 = 2 := by decide +kernel
theorem ce59 : Cp (d + 1) 59 [.ref a0, .ref a1] h Q = Wp d 59 0 [some (.ref a0), some (.ref a1)] [] h Q := C_ent ml59 rfl rfl
theorem ml60 : mloc 60 = 5 := by decide +kernel
theorem ce60 : Cp (d + 1) 60 [.ref a0, .ref a1] h Q = Wp d 60 0 [some (.ref a0), some (.ref a1), none, none, none] [] h Q := C_ent ml60 rfl rfl
theorem ml61 : mloc 61 = 3 := by decide +kernel
theorem ce61 : Cp (d + 1) 61 [.ref a0, .ref a1, .int x2] h Q = Wp d 61 0 [some (.ref a0), some (.ref a1), some (.int x2)] [] h Q := C_ent ml61 rfl rfl
theorem ml62 : mloc 62 = 4 := by decide +kernel
theorem ce62 : Cp (d + 1) 62 [.ref a0, .ref a1, .int x2] h Q = Wp d 62 0 [some (.ref a0), some (.ref a1), some (.int x2), none] [] h Q := C_ent ml62 rfl rfl
theorem ml63 : mloc 63 = 8 := by decide +kernel
theorem ce63 : Cp (d + 1) 63 [.ref a0, .ref a1, .int x2] h Q = Wp d 63 0 [some (.ref a0), some (.ref a1), some (.int x2), none, none, none, none, none] [] h Q := C_ent ml63 rfl rfl
theorem ml64 : mloc 64 = 6 := by decide +kernel
theorem ce64 : Cp (d + 1) 64 [.ref a0, .ref a1] h Q = Wp d 64 0 [some (.ref a0), some (.ref a1), none, none, none, none] [] h Q := C_ent ml64 rfl rfl
theorem ml65 : mloc 65 = 4 := by decide +kernel
theorem ce65 : Cp (d + 1) 65 [.ref a0, .ref a1, .int x2] h Q = Wp d 65 0 [some (.ref a0), some (.ref a1), some (.int x2), none] [] h Q := C_ent ml65 rfl rfl
theorem ml66 : mloc 66 = 4 := by decide +kernel
theorem ce66 : Cp (d + 1) 66 [.ref a0, .ref a1, .int x2] h Q = Wp d 66 0 [some (.ref a0), some (.ref a1), some (.int x2), none] [] h Q := C_ent ml66 rfl rfl
theorem ml67 : mloc 67 = 3 := by decide +kernel
theorem ce67 : Cp (d + 1) 67 [.ref a0, .int x1] h Q = Wp d 67 0 [some (.ref a0), some (.int x1), none] [] h Q := C_ent ml67 rfl rfl
theorem ml68 : mloc 68 = 2 := by decide +kernel
theorem ce68 : Cp (d + 1) 68 [.ref a0] h Q = Wp d 68 0 [some (.ref a0), none] [] h Q := C_ent ml68 rfl rfl
theorem ml69 : mloc 69 = 6 := by decide +kernel
theorem ce69 : Cp (d + 1) 69 [.ref a0, .int x1, .int x2, .int x3, .int x4, .int x5] h Q = Wp d 69 0 [some (.ref a0), some (.int x1), some (.int x2), some (.int x3), some (.int x4), some (.int x5)] [] h Q := C_ent ml69 rfl rfl
theorem ml70 : mloc 70 = 2 := by decide +kernel
theorem ce70 : Cp (d + 1) 70 [.ref a0, .int x1] h Q = Wp d 70 0 [some (.ref a0), some (.int x1)] [] h Q := C_ent ml70 rfl rfl
theorem ml71 : mloc 71 = 3 := by decide +kernel
theorem ce71 : Cp (d + 1) 71 [.ref a0] h Q = Wp d 71 0 [some (.ref a0), none, none] [] h Q := C_ent ml71 rfl rfl
theorem ml72 : mloc 72 = 1 := by decide +kernel
theorem ce72 : Cp (d + 1) 72 [.ref a0] h Q = Wp d 72 0 [some (.ref a0)] [] h Q := C_ent ml72 rfl rfl
theorem ml73 : mloc 73 = 3 := by decide +kernel
theorem ce73 : Cp (d + 1) 73 [.ref a0, .int x1] h Q = Wp d 73 0 [some (.ref a0), some (.int x1), none] [] h Q := C_ent ml73 rfl rfl
theorem ml74 : mloc 74 = 5 := by decide +kernel
theorem ce74 : Cp (d + 1) 74 [.ref a0, .int x1, .int x2] h Q = Wp d 74 0 [some (.ref a0), some (.int x1), some (.int x2), none, none] [] h Q := C_ent ml74 rfl rfl
theorem ml75 : mloc 75 = 3 := by decide +kernel
theorem ce75 : Cp (d + 1) 75 [.ref a0, .int x1] h Q = Wp d 75 0 [some (.ref a0), some (.int x1), none] [] h Q := C_ent ml75 rfl rfl
theorem ml76 : mloc 76 = 3 := by decide +kernel
theorem ce76 : Cp (d + 1) 76 [.ref a0, .int x1] h Q = Wp d 76 0 [some (.ref a0), some (.int x1), none] [] h Q := C_ent ml76 rfl rfl
theorem ml77 : mloc 77 = 4 := by decide +kernel
theorem ce77 : Cp (d + 1) 77 [.ref a0, .int x1] h Q = Wp d 77 0 [some (.ref a0), some (.int x1), none, none] [] h Q := C_ent ml77 rfl rfl
theorem ml78 : mloc 78 = 4 := by decide +kernel
theorem ce78 : Cp (d + 1) 78 [.ref a0, .int x1, .int x2] h Q = Wp d 78 0 [some (.ref a0), some (.int x1), some (.int x2), none] [] h Q := C_ent ml78 rfl rfl
theorem ml79 : mloc 79 = 4 := by decide +kernel
theorem ce79 : Cp (d + 1) 79 [.ref a0, .int x1] h Q = Wp d 79 0 [some (.ref a0), some (.int x1), none, none] [] h Q := C_ent ml79 rfl rfl
theorem ml80 : mloc 80 = 2 := by decide +kernel
theorem ce80 : Cp (d + 1) 80 [.ref a0, .int x1] h Q = Wp d 80 0 [some (.ref a0), some (.int x1)] [] h Q := C_ent ml80 rfl rfl
theorem ml81 : mloc 81 = 2 := by decide +kernel
theorem ce81 : Cp (d + 1) 81 [.ref a0, .int x1] h Q = Wp d 81 0 [some (.ref a0), some (.int x1)] [] h Q := C_ent ml81 rfl rfl
theorem ml82 : mloc 82 = 1 := by decide +kernel
theorem ce82 : Cp (d + 1) 82 [.ref a0] h Q = Wp d 82 0 [some (.ref a0)] [] h Q := C_ent ml82 rfl rfl
theorem ml83 : mloc 83 = 1 := by decide +kernel
theorem ce83 : Cp (d + 1) 83 [.ref a0] h Q = Wp d 83 0 [some (.ref a0)] [] h Q := C_ent ml83 rfl rfl
theorem ml84 : mloc 84 = 1 := by decide +kernel
theorem ce84 : Cp (d + 1) 84 [.ref a0] h Q = Wp d 84 0 [some (.ref a0)] [] h Q := C_ent ml84 rfl rfl
theorem ml85 : mloc 85 = 2 := by decide +kernel
theorem ce85 : Cp (d + 1) 85 [.ref a0, .int x1] h Q = Wp d 85 0 [some (.ref a0), some (.int x1)] [] h Q := C_ent ml85 rfl rfl
theorem ml86 : mloc 86 = 2 := by decide +kernel
theorem ce86 : Cp (d + 1) 86 [.ref a0, .int x1] h Q = Wp d 86 0 [some (.ref a0), some (.int x1)] [] h Q := C_ent ml86 rfl rfl
theorem ml87 : mloc 87 = 2 := by decide +kernel
theorem ce87 : Cp (d + 1) 87 [.ref a0, .int x1] h Q = Wp d 87 0 [some (.ref a0), some (.int x1)] [] h Q := C_ent ml87 rfl rfl
theorem ml88 : mloc 88 = 2 := by decide +kernel
theorem ce88 : Cp (d + 1) 88 [.ref a0, .int x1] h Q = Wp d 88 0 [some (.ref a0), some (.int x1)] [] h Q := C_ent ml88 rfl rfl
theorem ml89 : mloc 89 = 2 := by decide +kernel
theorem ce89 : Cp (d + 1) 89 [.ref a0, .int x1] h Q = Wp d 89 0 [some (.ref a0), some (.int x1)] [] h Q := C_ent ml89 rfl rfl
theorem ml90 : mloc 90 = 2 := by decide +kernel
theorem ce90 : Cp (d + 1) 90 [.ref a0, .int x1] h Q = Wp d 90 0 [some (.ref a0), some (.int x1)] [] h Q := C_ent ml90 rfl rfl
theorem ml91 : mloc 91 = 3 := by decide +kernel
theorem ce91 : Cp (d + 1) 91 [.ref a0] h Q = Wp d 91 0 [some (.ref a0), none, none] [] h Q := C_ent ml91 rfl rfl
theorem ml92 : mloc 92 = 1 := by decide +kernel
theorem ce92 : Cp (d + 1) 92 [.ref a0] h Q = Wp d 92 0 [some (.ref a0)] [] h Q := C_ent ml92 rfl rfl
theorem ml93 : mloc 93 = 1 := by decide +kernel
theorem ce93 : Cp (d + 1) 93 [.ref a0] h Q = Wp d 93 0 [some (.ref a0)] [] h Q := C_ent ml93 rfl rfl
theorem ml94 : mloc 94 = 1 := by decide +kernel
theorem ce94 : Cp (d + 1) 94 [.ref a0] h Q = Wp d 94 0 [some (.ref a0)] [] h Q := C_ent ml94 rfl rfl
theorem ml95 : mloc 95 = 1 := by decide +kernel
theorem ce95 : Cp (d + 1) 95 [.ref a0] h Q = Wp d 95 0 [some (.ref a0)] [] h Q := C_ent ml95 rfl rfl
theorem ml96 : mloc 96 = 1 := by decide +kernel
theorem ce96 : Cp (d + 1) 96 [.ref a0] h Q = Wp d 96 0 [some (.ref a0)] [] h Q := C_ent ml96 rfl rfl
theorem ml97 : mloc 97 = 1 := by decide +kernel
theorem ce97 : Cp (d + 1) 97 [.ref a0] h Q = Wp d 97 0 [some (.ref a0)] [] h Q := C_ent ml97 rfl rfl
theorem ml98 : mloc 98 = 2 := by decide +kernel
theorem ce98 : Cp (d + 1) 98 [.ref a0, .int x1] h Q = Wp d 98 0 [some (.ref a0), some (.int x1)] [] h Q := C_ent ml98 rfl rfl
theorem ml99 : mloc 99 = 2 := by decide +kernel
theorem ce99 : Cp (d + 1) 99 [.ref a0, .int x1] h Q = Wp d 99 0 [some (.ref a0), some (.int x1)] [] h Q := C_ent ml99 rfl rfl
theorem ml100 : mloc 100 = 2 := by decide +kernel
theorem ce100 : Cp (d + 1) 100 [.ref a0, .int x1] h Q = Wp d 100 0 [some (.ref a0), some (.int x1)] [] h Q := C_ent ml100 rfl rfl
theorem ml101 : mloc 101 = 3 := by decide +kernel
theorem ce101 : Cp (d + 1) 101 [.ref a0, .int x1] h Q = Wp d 101 0 [some (.ref a0), some (.int x1), none] [] h Q := C_ent ml101 rfl rfl
theorem ml102 : mloc 102 = 2 := by decide +kernel
theorem ce102 : Cp (d + 1) 102 [.ref a0, .int x1] h Q = Wp d 102 0 [some (.ref a0), some (.int x1)] [] h Q := C_ent ml102 rfl rfl
theorem ml103 : mloc 103 = 2 := by decide +kernel
theorem ce103 : Cp (d + 1) 103 [.ref a0, .int x1] h Q = Wp d 103 0 [some (.ref a0), some (.int x1)] [] h Q := C_ent ml103 rfl rfl
theorem ml104 : mloc 104 = 2 := by decide +kernel
theorem ce104 : Cp (d + 1) 104 [.ref a0, .int x1] h Q = Wp d 104 0 [some (.ref a0), some (.int x1)] [] h Q := C_ent ml104 rfl rfl
theorem ml105 : mloc 105 = 4 := by decide +kernel
theorem ce105 : Cp (d + 1) 105 [.ref a0, .int x1, .int x2] h Q = Wp d 105 0 [some (.ref a0), some (.int x1), some (.int x2), none] [] h Q := C_ent ml105 rfl rfl
theorem ml106 : mloc 106 = 3 := by decide +kernel
theorem ce106 : Cp (d + 1) 106 [.ref a0, .int x1] h Q = Wp d 106 0 [some (.ref a0), some (.int x1), none] [] h Q := C_ent ml106 rfl rfl
theorem ml107 : mloc 107 = 2 := by decide +kernel
theorem ce107 : Cp (d + 1) 107 [.ref a0, .int x1] h Q = Wp d 107 0 [some (.ref a0), some (.int x1)] [] h Q := C_ent ml107 rfl rfl
theorem ml108 : mloc 108 = 2 := by decide +kernel
theorem ce108 : Cp (d + 1) 108 [.ref a0] h Q = Wp d 108 0 [some (.ref a0), none] [] h Q := C_ent ml108 rfl rfl
theorem ml109 : mloc 109 = 7 := by decide +kernel
theorem ce109 : Cp (d + 1) 109 [.ref a0, .int x1, .int x2] h Q = Wp d 109 0 [some (.ref a0), some (.int x1), some (.int x2), none, none, none, none] [] h Q := C_ent ml109 rfl rfl
theorem ml110 : mloc 110 = 4 := by decide +kernel
theorem ce110 : Cp (d + 1) 110 [.ref a0] h Q = Wp d 110 0 [some (.ref a0), none, none, none] [] h Q := C_ent ml110 rfl rfl
theorem ml111 : mloc 111 = 4 := by decide +kernel
theorem ce111 : Cp (d + 1) 111 [.ref a0] h Q = Wp d 111 0 [some (.ref a0), none, none, none] [] h Q := C_ent ml111 rfl rfl
theorem ml112 : mloc 112 = 2 := by decide +kernel
theorem ce112 : Cp (d + 1) 112 [.ref a0, .int x1] h Q = Wp d 112 0 [some (.ref a0), some (.int x1)] [] h Q := C_ent ml112 rfl rfl
theorem ml113 : mloc 113 = 2 := by decide +kernel
theorem ce113 : Cp (d + 1) 113 [.ref a0, .int x1] h Q = Wp d 113 0 [some (.ref a0), some (.int x1)] [] h Q := C_ent ml113 rfl rfl
theorem ml114 : mloc 114 = 2 := by decide +kernel
theorem ce114 : Cp (d + 1) 114 [.int x0] h Q = Wp d 114 0 [some (.int x0), none] [] h Q := C_ent ml114 rfl rfl
theorem ml115 : mloc 115 = 2 := by decide +kernel
theorem ce115 : Cp (d + 1) 115 [.ref a0, .int x1] h Q = Wp d 115 0 [some (.ref a0), some (.int x1)] [] h Q := C_ent ml115 rfl rfl
theorem ml116 : mloc 116 = 3 := by decide +kernel
theorem ce116 : Cp (d + 1) 116 [.ref a0, .int x1, .int x2] h Q = Wp d 116 0 [some (.ref a0), some (.int x1), some (.int x2)] [] h Q := C_ent ml116 rfl rfl
theorem ml117 : mloc 117 = 4 := by decide +kernel
theorem ce117 : Cp (d + 1) 117 [.ref a0, .int x1, .long y2] h Q = Wp d 117 0 [some (.ref a0), some (.int x1), some (.long y2), none] [] h Q := C_ent ml117 rfl rfl
theorem ml118 : mloc 118 = 1 := by decide +kernel
theorem ce118 : Cp (d + 1) 118 [.ref a0] h Q = Wp d 118 0 [some (.ref a0)] [] h Q := C_ent ml118 rfl rfl
theorem ml119 : mloc 119 = 3 := by decide +kernel
theorem ce119 : Cp (d + 1) 119 [.ref a0, .int x1] h Q = Wp d 119 0 [some (.ref a0), some (.int x1), none] [] h Q := C_ent ml119 rfl rfl
theorem ml120 : mloc 120 = 2 := by decide +kernel
theorem ce120 : Cp (d + 1) 120 [.ref a0, .ref a1] h Q = Wp d 120 0 [some (.ref a0), some (.ref a1)] [] h Q := C_ent ml120 rfl rfl
theorem ml121 : mloc 121 = 3 := by decide +kernel
theorem ce121 : Cp (d + 1) 121 [.ref a0, .ref a1, .ref a2] h Q = Wp d 121 0 [some (.ref a0), some (.ref a1), some (.ref a2)] [] h Q := C_ent ml121 rfl rfl
theorem ml122 : mloc 122 = 3 := by decide +kernel
theorem ce122 : Cp (d + 1) 122 [.ref a0, .ref a1] h Q = Wp d 122 0 [some (.ref a0), some (.ref a1), none] [] h Q := C_ent ml122 rfl rfl
theorem ml123 : mloc 123 = 2 := by decide +kernel
theorem ce123 : Cp (d + 1) 123 [.ref a0] h Q = Wp d 123 0 [some (.ref a0), none] [] h Q := C_ent ml123 rfl rfl
theorem ml124 : mloc 124 = 2 := by decide +kernel
theorem ce124 : Cp (d + 1) 124 [.ref a0, .int x1] h Q = Wp d 124 0 [some (.ref a0), some (.int x1)] [] h Q := C_ent ml124 rfl rfl
theorem ml125 : mloc 125 = 2 := by decide +kernel
theorem ce125 : Cp (d + 1) 125 [.ref a0, .int x1] h Q = Wp d 125 0 [some (.ref a0), some (.int x1)] [] h Q := C_ent ml125 rfl rfl
theorem ml126 : mloc 126 = 3 := by decide +kernel
theorem ce126 : Cp (d + 1) 126 [.ref a0, .int x1] h Q = Wp d 126 0 [some (.ref a0), some (.int x1), none] [] h Q := C_ent ml126 rfl rfl
theorem ml127 : mloc 127 = 2 := by decide +kernel
theorem ce127 : Cp (d + 1) 127 [.ref a0] h Q = Wp d 127 0 [some (.ref a0), none] [] h Q := C_ent ml127 rfl rfl
theorem ml128 : mloc 128 = 1 := by decide +kernel
theorem ce128 : Cp (d + 1) 128 [.ref a0] h Q = Wp d 128 0 [some (.ref a0)] [] h Q := C_ent ml128 rfl rfl
theorem ml129 : mloc 129 = 2 := by decide +kernel
theorem ce129 : Cp (d + 1) 129 [.ref a0, .int x1] h Q = Wp d 129 0 [some (.ref a0), some (.int x1)] [] h Q := C_ent ml129 rfl rfl
theorem ml130 : mloc 130 = 5 := by decide +kernel
theorem ce130 : Cp (d + 1) 130 [.ref a0, .int x1, .int x2, .int x3] h Q = Wp d 130 0 [some (.ref a0), some (.int x1), some (.int x2), some (.int x3), none] [] h Q := C_ent ml130 rfl rfl
theorem ml131 : mloc 131 = 2 := by decide +kernel
theorem ce131 : Cp (d + 1) 131 [.ref a0, .int x1] h Q = Wp d 131 0 [some (.ref a0), some (.int x1)] [] h Q := C_ent ml131 rfl rfl
theorem ml132 : mloc 132 = 4 := by decide +kernel
theorem ce132 : Cp (d + 1) 132 [.ref a0, .int x1, .int x2] h Q = Wp d 132 0 [some (.ref a0), some (.int x1), some (.int x2), none] [] h Q := C_ent ml132 rfl rfl
theorem ml133 : mloc 133 = 3 := by decide +kernel
theorem ce133 : Cp (d + 1) 133 [.ref a0, .int x1, .int x2] h Q = Wp d 133 0 [some (.ref a0), some (.int x1), some (.int x2)] [] h Q := C_ent ml133 rfl rfl
theorem ml134 : mloc 134 = 6 := by decide +kernel
theorem ce134 : Cp (d + 1) 134 [.ref a0, .int x1, .int x2] h Q = Wp d 134 0 [some (.ref a0), some (.int x1), some (.int x2), none, none, none] [] h Q := C_ent ml134 rfl rfl
theorem ml135 : mloc 135 = 3 := by decide +kernel
theorem ce135 : Cp (d + 1) 135 [.ref a0, .int x1, .int x2] h Q = Wp d 135 0 [some (.ref a0), some (.int x1), some (.int x2)] [] h Q := C_ent ml135 rfl rfl
theorem ml136 : mloc 136 = 4 := by decide +kernel
theorem ce136 : Cp (d + 1) 136 [.ref a0, .int x1, .int x2] h Q = Wp d 136 0 [some (.ref a0), some (.int x1), some (.int x2), none] [] h Q := C_ent ml136 rfl rfl
theorem ml137 : mloc 137 = 4 := by decide +kernel
theorem ce137 : Cp (d + 1) 137 [.ref a0, .int x1] h Q = Wp d 137 0 [some (.ref a0), some (.int x1), none, none] [] h Q := C_ent ml137 rfl rfl
theorem ml138 : mloc 138 = 5 := by decide +kernel
theorem ce138 : Cp (d + 1) 138 [.ref a0, .int x1] h Q = Wp d 138 0 [some (.ref a0), some (.int x1), none, none, none] [] h Q := C_ent ml138 rfl rfl
theorem ml139 : mloc 139 = 5 := by decide +kernel
theorem ce139 : Cp (d + 1) 139 [.ref a0, .int x1, .int x2] h Q = Wp d 139 0 [some (.ref a0), some (.int x1), some (.int x2), none, none] [] h Q := C_ent ml139 rfl rfl
theorem ml140 : mloc 140 = 3 := by decide +kernel
theorem ce140 : Cp (d + 1) 140 [.ref a0, .int x1] h Q = Wp d 140 0 [some (.ref a0), some (.int x1), none] [] h Q := C_ent ml140 rfl rfl
theorem ml141 : mloc 141 = 2 := by decide +kernel
theorem ce141 : Cp (d + 1) 141 [.ref a0] h Q = Wp d 141 0 [some (.ref a0), none] [] h Q := C_ent ml141 rfl rfl
theorem ml142 : mloc 142 = 5 := by decide +kernel
theorem ce142 : Cp (d + 1) 142 [.ref a0] h Q = Wp d 142 0 [some (.ref a0), none, none, none, none] [] h Q := C_ent ml142 rfl rfl
theorem ml143 : mloc 143 = 4 := by decide +kernel
theorem ce143 : Cp (d + 1) 143 [.ref a0, .int x1] h Q = Wp d 143 0 [some (.ref a0), some (.int x1), none, none] [] h Q := C_ent ml143 rfl rfl
theorem ml144 : mloc 144 = 1 := by decide +kernel
theorem ce144 : Cp (d + 1) 144 [.ref a0] h Q = Wp d 144 0 [some (.ref a0)] [] h Q := C_ent ml144 rfl rfl
theorem ml145 : mloc 145 = 1 := by decide +kernel
theorem ce145 : Cp (d + 1) 145 [.ref a0] h Q = Wp d 145 0 [some (.ref a0)] [] h Q := C_ent ml145 rfl rfl
theorem ml146 : mloc 146 = 2 := by decide +kernel
theorem ce146 : Cp (d + 1) 146 [.ref a0, .int x1] h Q = Wp d 146 0 [some (.ref a0), some (.int x1)] [] h Q := C_ent ml146 rfl rfl
theorem ml147 : mloc 147 = 2 := by decide +kernel
theorem ce147 : Cp (d + 1) 147 [.ref a0, .int x1] h Q = Wp d 147 0 [some (.ref a0), some (.int x1)] [] h Q := C_ent ml147 rfl rfl
theorem ml148 : mloc 148 = 3 := by decide +kernel
theorem ce148 : Cp (d + 1) 148 [.int x0, .int x1, .int x2] h Q = Wp d 148 0 [some (.int x0), some (.int x1), some (.int x2)] [] h Q := C_ent ml148 rfl rfl
theorem ml149 : mloc 149 = 2 := by decide +kernel
theorem ce149 : Cp (d + 1) 149 [.ref a0, .int x1] h Q = Wp d 149 0 [some (.ref a0), some (.int x1)] [] h Q := C_ent ml149 rfl rfl
theorem ml150 : mloc 150 = 2 := by decide +kernel
theorem ce150 : Cp (d + 1) 150 [.ref a0, .int x1] h Q = Wp d 150 0 [some (.ref a0), some (.int x1)] [] h Q := C_ent ml150 rfl rfl
theorem ml151 : mloc 151 = 1 := by decide +kernel
theorem ce151 : Cp (d + 1) 151 [.int x0] h Q = Wp d 151 0 [some (.int x0)] [] h Q := C_ent ml151 rfl rfl
theorem ml152 : mloc 152 = 1 := by decide +kernel
theorem ce152 : Cp (d + 1) 152 [.int x0] h Q = Wp d 152 0 [some (.int x0)] [] h Q := C_ent ml152 rfl rfl
theorem ml153 : mloc 153 = 2 := by decide +kernel
theorem ce153 : Cp (d + 1) 153 [.ref a0, .int x1] h Q = Wp d 153 0 [some (.ref a0), some (.int x1)] [] h Q := C_ent ml153 rfl rfl
theorem ml154 : mloc 154 = 5 := by decide +kernel
theorem ce154 : Cp (d + 1) 154 [.ref a0, .int x1, .int x2] h Q = Wp d 154 0 [some (.ref a0), some (.int x1), some (.int x2), none, none] [] h Q := C_ent ml154 rfl rfl
theorem ml155 : mloc 155 = 6 := by decide +kernel
theorem ce155 : Cp (d + 1) 155 [.ref a0, .int x1, .int x2] h Q = Wp d 155 0 [some (.ref a0), some (.int x1), some (.int x2), none, none, none] [] h Q := C_ent ml155 rfl rfl
theorem ml156 : mloc 156 = 3 := by decide +kernel
theorem ce156 : Cp (d + 1) 156 [.ref a0] h Q = Wp d 156 0 [some (.ref a0), none, none] [] h Q := C_ent ml156 rfl rfl
theorem ml157 : mloc 157 = 2 := by decide +kernel
theorem ce157 : Cp (d + 1) 157 [.ref a0, .int x1] h Q = Wp d 157 0 [some (.ref a0), some (.int x1)] [] h Q := C_ent ml157 rfl rfl
theorem ml158 : mloc 158 = 2 := by decide +kernel
theorem ce158 : Cp (d + 1) 158 [.ref a0, .int x1] h Q = Wp d 158 0 [some (.ref a0), some (.int x1)] [] h Q := C_ent ml158 rfl rfl
theorem ml159 : mloc 159 = 2 := by decide +kernel
theorem ce159 : Cp (d + 1) 159 [.ref a0, .int x1] h Q = Wp d 159 0 [some (.ref a0), some (.int x1)] [] h Q := C_ent ml159 rfl rfl
theorem ml160 : mloc 160 = 2 := by decide +kernel
theorem ce160 : Cp (d + 1) 160 [.ref a0, .int x1] h Q = Wp d 160 0 [some (.ref a0), some (.int x1)] [] h Q := C_ent ml160 rfl rfl
theorem ml161 : mloc 161 = 3 := by decide +kernel
theorem ce161 : Cp (d + 1) 161 [.ref a0, .int x1, .int x2] h Q = Wp d 161 0 [some (.ref a0), some (.int x1), some (.int x2)] [] h Q := C_ent ml161 rfl rfl
theorem ml162 : mloc 162 = 2 := by decide +kernel
theorem ce162 : Cp (d + 1) 162 [.ref a0] h Q = Wp d 162 0 [some (.ref a0), none] [] h Q := C_ent ml162 rfl rfl
theorem ml163 : mloc 163 = 4 := by decide +kernel
theorem ce163 : Cp (d + 1) 163 [.ref a0] h Q = Wp d 163 0 [some (.ref a0), none, none, none] [] h Q := C_ent ml163 rfl rfl
theorem ml164 : mloc 164 = 4 := by decide +kernel
theorem ce164 : Cp (d + 1) 164 [.ref a0, .int x1] h Q = Wp d 164 0 [some (.ref a0), some (.int x1), none, none] [] h Q := C_ent ml164 rfl rfl
theorem ml165 : mloc 165 = 2 := by decide +kernel
theorem ce165 : Cp (d + 1) 165 [.ref a0, .int x1] h Q = Wp d 165 0 [some (.ref a0), some (.int x1)] [] h Q := C_ent ml165 rfl rfl
theorem ml166 : mloc 166 = 2 := by decide +kernel
theorem ce166 : Cp (d + 1) 166 [.ref a0, .int x1] h Q = Wp d 166 0 [some (.ref a0), some (.int x1)] [] h Q := C_ent ml166 rfl rfl
theorem ml167 : mloc 167 = 4 := by decide +kernel
theorem ce167 : Cp (d + 1) 167 [.ref a0] h Q = Wp d 167 0 [some (.ref a0), none, none, none] [] h Q := C_ent ml167 rfl rfl
theorem ml168 : mloc 168 = 1 := by decide +kernel
theorem ce168 : Cp (d + 1) 168 [.ref a0] h Q = Wp d 168 0 [some (.ref a0)] [] h Q := C_ent ml168 rfl rfl
theorem ml169 : mloc 169 = 2 := by decide +kernel
theorem ce169 : Cp (d + 1) 169 [.ref a0, .int x1] h Q = Wp d 169 0 [some (.ref a0), some (.int x1)] [] h Q := C_ent ml169 rfl rfl
theorem ml170 : mloc 170 = 4 := by decide +kernel
theorem ce170 : Cp (d + 1) 170 [.ref a0, .int x1] h Q = Wp d 170 0 [some (.ref a0), some (.int x1), none, none] [] h Q := C_ent ml170 rfl rfl
theorem ml171 : mloc 171 = 4 := by decide +kernel
theorem ce171 : Cp (d + 1) 171 [.ref a0, .int x1, .int x2] h Q = Wp d 171 0 [some (.ref a0), some (.int x1), some (.int x2), none] [] h Q := C_ent ml171 rfl rfl
theorem ml172 : mloc 172 = 5 := by decide +kernel
theorem ce172 : Cp (d + 1) 172 [.ref a0, .int x1, .int x2] h Q = Wp d 172 0 [some (.ref a0), some (.int x1), some (.int x2), none, none] [] h Q := C_ent ml172 rfl rfl
theorem ml173 : mloc 173 = 2 := by decide +kernel
theorem ce173 : Cp (d + 1) 173 [.ref a0, .int x1] h Q = Wp d 173 0 [some (.ref a0), some (.int x1)] [] h Q := C_ent ml173 rfl rfl
theorem ml174 : mloc 174 = 2 := by decide +kernel
theorem ce174 : Cp (d + 1) 174 [.ref a0, .int x1] h Q = Wp d 174 0 [some (.ref a0), some (.int x1)] [] h Q := C_ent ml174 rfl rfl
theorem ml175 : mloc 175 = 2 := by decide +kernel
theorem ce175 : Cp (d + 1) 175 [.ref a0, .int x1] h Q = Wp d 175 0 [some (.ref a0), some (.int x1)] [] h Q := C_ent ml175 rfl rfl
theorem ml176 : mloc 176 = 1 := by decide +kernel
theorem ce176 : Cp (d + 1) 176 [.ref a0] h Q = Wp d 176 0 [some (.ref a0)] [] h Q := C_ent ml176 rfl rfl
theorem ml177 : mloc 177 = 3 := by decide +kernel
theorem ce177 : Cp (d + 1) 177 [.ref a0, .int x1] h Q = Wp d 177 0 [some (.ref a0), some (.int x1), none] [] h Q := C_ent ml177 rfl rfl
theorem ml178 : mloc 178 = 5 := by decide +kernel
theorem ce178 : Cp (d + 1) 178 [.ref a0, .int x1, .ref a2, .int x3, .int x4] h Q = Wp d 178 0 [some (.ref a0), some (.int x1), some (.ref a2), some (.int x3), some (.int x4)] [] h Q := C_ent ml178 rfl rfl
theorem ml179 : mloc 179 = 2 := by decide +kernel
theorem ce179 : Cp (d + 1) 179 [.ref a0, .int x1] h Q = Wp d 179 0 [some (.ref a0), some (.int x1)] [] h Q := C_ent ml179 rfl rfl
theorem ml180 : mloc 180 = 3 := by decide +kernel
theorem ce180 : Cp (d + 1) 180 [.ref a0] h Q = Wp d 180 0 [some (.ref a0), none, none] [] h Q := C_ent ml180 rfl rfl
theorem ml181 : mloc 181 = 8 := by decide +kernel
theorem ce181 : Cp (d + 1) 181 [.ref a0, .int x1, .int x2, .int x3, .int x4, .int x5] h Q = Wp d 181 0 [some (.ref a0), some (.int x1), some (.int x2), some (.int x3), some (.int x4), some (.int x5), none, none] [] h Q := C_ent ml181 rfl rfl
theorem ml182 : mloc 182 = 2 := by decide +kernel
theorem ce182 : Cp (d + 1) 182 [.ref a0, .int x1] h Q = Wp d 182 0 [some (.ref a0), some (.int x1)] [] h Q := C_ent ml182 rfl rfl
theorem ml183 : mloc 183 = 2 := by decide +kernel
theorem ce183 : Cp (d + 1) 183 [.ref a0] h Q = Wp d 183 0 [some (.ref a0), none] [] h Q := C_ent ml183 rfl rfl
theorem ml184 : mloc 184 = 1 := by decide +kernel
theorem ce184 : Cp (d + 1) 184 [.ref a0] h Q = Wp d 184 0 [some (.ref a0)] [] h Q := C_ent ml184 rfl rfl
theorem ml185 : mloc 185 = 2 := by decide +kernel
theorem ce185 : Cp (d + 1) 185 [.ref a0, .int x1] h Q = Wp d 185 0 [some (.ref a0), some (.int x1)] [] h Q := C_ent ml185 rfl rfl
theorem ml186 : mloc 186 = 4 := by decide +kernel
theorem ce186 : Cp (d + 1) 186 [.ref a0, .int x1, .int x2] h Q = Wp d 186 0 [some (.ref a0), some (.int x1), some (.int x2), none] [] h Q := C_ent ml186 rfl rfl
theorem ml187 : mloc 187 = 3 := by decide +kernel
theorem ce187 : Cp (d + 1) 187 [.ref a0, .int x1] h Q = Wp d 187 0 [some (.ref a0), some (.int x1), none] [] h Q := C_ent ml187 rfl rfl
theorem ml188 : mloc 188 = 2 := by decide +kernel
theorem ce188 : Cp (d + 1) 188 [.ref a0, .int x1] h Q = Wp d 188 0 [some (.ref a0), some (.int x1)] [] h Q := C_ent ml188 rfl rfl
theorem ml189 : mloc 189 = 3 := by decide +kernel
theorem ce189 : Cp (d + 1) 189 [.ref a0, .int x1] h Q = Wp d 189 0 [some (.ref a0), some (.int x1), none] [] h Q := C_ent ml189 rfl rfl
theorem ml190 : mloc 190 = 3 := by decide +kernel
theorem ce190 : Cp (d + 1) 190 [.ref a0, .int x1, .int x2] h Q = Wp d 190 0 [some (.ref a0), some (.int x1), some (.int x2)] [] h Q := C_ent ml190 rfl rfl
theorem ml191 : mloc 191 = 3 := by decide +kernel
theorem ce191 : Cp (d + 1) 191 [.ref a0, .int x1] h Q = Wp d 191 0 [some (.ref a0), some (.int x1), none] [] h Q := C_ent ml191 rfl rfl
theorem ml192 : mloc 192 = 2 := by decide +kernel
theorem ce192 : Cp (d + 1) 192 [.ref a0, .int x1] h Q = Wp d 192 0 [some (.ref a0), some (.int x1)] [] h Q := C_ent ml192 rfl rfl
theorem ml193 : mloc 193 = 2 := by decide +kernel
theorem ce193 : Cp (d + 1) 193 [.ref a0, .int x1] h Q = Wp d 193 0 [some (.ref a0), some (.int x1)] [] h Q := C_ent ml193 rfl rfl
theorem ml194 : mloc 194 = 1 := by decide +kernel
theorem ce194 : Cp (d + 1) 194 [.ref a0] h Q = Wp d 194 0 [some (.ref a0)] [] h Q := C_ent ml194 rfl rfl
theorem ml195 : mloc 195 = 1 := by decide +kernel
theorem ce195 : Cp (d + 1) 195 [.ref a0] h Q = Wp d 195 0 [some (.ref a0)] [] h Q := C_ent ml195 rfl rfl
theorem ml196 : mloc 196 = 1 := by decide +kernel
theorem ce196 : Cp (d + 1) 196 [.ref a0] h Q = Wp d 196 0 [some (.ref a0)] [] h Q := C_ent ml196 rfl rfl
theorem ml197 : mloc 197 = 2 := by decide +kernel
theorem ce197 : Cp (d + 1) 197 [.ref a0, .int x1] h Q = Wp d 197 0 [some (.ref a0), some (.int x1)] [] h Q := C_ent ml197 rfl rfl
theorem ml198 : mloc 198 = 2 := by decide +kernel
theorem ce198 : Cp (d + 1) 198 [.ref a0, .int x1] h Q = Wp d 198 0 [some (.ref a0), some (.int x1)] [] h Q := C_ent ml198 rfl rfl
theorem ml199 : mloc 199 = 2 := by decide +kernel
theorem ce199 : Cp (d + 1) 199 [.ref a0, .int x1] h Q = Wp d 199 0 [some (.ref a0), some (.int x1)] [] h Q := C_ent ml199 rfl rfl
theorem ml200 : mloc 200 = 2 := by decide +kernel
theorem ce200 : Cp (d + 1) 200 [.ref a0, .int x1] h Q = Wp d 200 0 [some (.ref a0), some (.int x1)] [] h Q := C_ent ml200 rfl rfl
theorem ml201 : mloc 201 = 2 := by decide +kernel
theorem ce201 : Cp (d + 1) 201 [.ref a0, .int x1] h Q = Wp d 201 0 [some (.ref a0), some (.int x1)] [] h Q := C_ent ml201 rfl rfl
theorem ml202 : mloc 202 = 2 := by decide +kernel
theorem ce202 : Cp (d + 1) 202 [.ref a0, .int x1] h Q = Wp d 202 0 [some (.ref a0), some (.int x1)] [] h Q := C_ent ml202 rfl rfl
theorem ml203 : mloc 203 = 3 := by decide +kernel
theorem ce203 : Cp (d + 1) 203 [.ref a0] h Q = Wp d 203 0 [some (.ref a0), none, none] [] h Q := C_ent ml203 rfl rfl
theorem ml204 : mloc 204 = 1 := by decide +kernel
theorem ce204 : Cp (d + 1) 204 [.ref a0] h Q = Wp d 204 0 [some (.ref a0)] [] h Q := C_ent ml204 rfl rfl
theorem ml205 : mloc 205 = 1 := by decide +kernel
theorem ce205 : Cp (d + 1) 205 [.ref a0] h Q = Wp d 205 0 [some (.ref a0)] [] h Q := C_ent ml205 rfl rfl
theorem ml206 : mloc 206 = 1 := by decide +kernel
theorem ce206 : Cp (d + 1) 206 [.ref a0] h Q = Wp d 206 0 [some (.ref a0)] [] h Q := C_ent ml206 rfl rfl
theorem ml207 : mloc 207 = 1 := by decide +kernel
theorem ce207 : Cp (d + 1) 207 [.ref a0] h Q = Wp d 207 0 [some (.ref a0)] [] h Q := C_ent ml207 rfl rfl
theorem ml208 : mloc 208 = 1 := by decide +kernel
theorem ce208 : Cp (d + 1) 208 [.ref a0] h Q = Wp d 208 0 [some (.ref a0)] [] h Q := C_ent ml208 rfl rfl
theorem ml209 : mloc 209 = 1 := by decide +kernel
theorem ce209 : Cp (d + 1) 209 [.ref a0] h Q = Wp d 209 0 [some (.ref a0)] [] h Q := C_ent ml209 rfl rfl
theorem ml210 : mloc 210 = 1 := by decide +kernel
theorem ce210 : Cp (d + 1) 210 [.ref a0] h Q = Wp d 210 0 [some (.ref a0)] [] h Q := C_ent ml210 rfl rfl
theorem ml211 : mloc 211 = 2 := by decide +kernel
theorem ce211 : Cp (d + 1) 211 [.ref a0, .int x1] h Q = Wp d 211 0 [some (.ref a0), some (.int x1)] [] h Q := C_ent ml211 rfl rfl
theorem ml212 : mloc 212 = 2 := by decide +kernel
theorem ce212 : Cp (d + 1) 212 [.ref a0, .int x1] h Q = Wp d 212 0 [some (.ref a0), some (.int x1)] [] h Q := C_ent ml212 rfl rfl
theorem ml213 : mloc 213 = 2 := by decide +kernel
theorem ce213 : Cp (d + 1) 213 [.ref a0, .int x1] h Q = Wp d 213 0 [some (.ref a0), some (.int x1)] [] h Q := C_ent ml213 rfl rfl
theorem ml214 : mloc 214 = 2 := by decide +kernel
theorem ce214 : Cp (d + 1) 214 [.ref a0, .int x1] h Q = Wp d 214 0 [some (.ref a0), some (.int x1)] [] h Q := C_ent ml214 rfl rfl
theorem ml215 : mloc 215 = 2 := by decide +kernel
theorem ce215 : Cp (d + 1) 215 [.ref a0, .int x1] h Q = Wp d 215 0 [some (.ref a0), some (.int x1)] [] h Q := C_ent ml215 rfl rfl
theorem ml216 : mloc 216 = 2 := by decide +kernel
theorem ce216 : Cp (d + 1) 216 [.ref a0, .int x1] h Q = Wp d 216 0 [some (.ref a0), some (.int x1)] [] h Q := C_ent ml216 rfl rfl
theorem ml217 : mloc 217 = 2 := by decide +kernel
theorem ce217 : Cp (d + 1) 217 [.ref a0, .int x1] h Q = Wp d 217 0 [some (.ref a0), some (.int x1)] [] h Q := C_ent ml217 rfl rfl
theorem ml218 : mloc 218 = 2 := by decide +kernel
theorem ce218 : Cp (d + 1) 218 [.ref a0, .int x1] h Q = Wp d 218 0 [some (.ref a0), some (.int x1)] [] h Q := C_ent ml218 rfl rfl
theorem ml219 : mloc 219 = 2 := by decide +kernel
theorem ce219 : Cp (d + 1) 219 [.ref a0, .int x1] h Q = Wp d 219 0 [some (.ref a0), some (.int x1)] [] h Q := C_ent ml219 rfl rfl
theorem ml220 : mloc 220 = 3 := by decide +kernel
theorem ce220 : Cp (d + 1) 220 [.ref a0, .int x1, .int x2] h Q = Wp d 220 0 [some (.ref a0), some (.int x1), some (.int x2)] [] h Q := C_ent ml220 rfl rfl
theorem ml221 : mloc 221 = 3 := by decide +kernel
theorem ce221 : Cp (d + 1) 221 [.ref a0, .int x1, .int x2] h Q = Wp d 221 0 [some (.ref a0), some (.int x1), some (.int x2)] [] h Q := C_ent ml221 rfl rfl
theorem ml222 : mloc 222 = 3 := by decide +kernel
theorem ce222 : Cp (d + 1) 222 [.ref a0, .int x1] h Q = Wp d 222 0 [some (.ref a0), some (.int x1), none] [] h Q := C_ent ml222 rfl rfl
theorem ml223 : mloc 223 = 2 := by decide +kernel
theorem ce223 : Cp (d + 1) 223 [.ref a0, .int x1] h Q = Wp d 223 0 [some (.ref a0), some (.int x1)] [] h Q := C_ent ml223 rfl rfl
theorem ml224 : mloc 224 = 1 := by decide +kernel
theorem ce224 : Cp (d + 1) 224 [.ref a0] h Q = Wp d 224 0 [some (.ref a0)] [] h Q := C_ent ml224 rfl rfl
theorem ml225 : mloc 225 = 7 := by decide +kernel
theorem ce225 : Cp (d + 1) 225 [.ref a0, .int x1, .int x2] h Q = Wp d 225 0 [some (.ref a0), some (.int x1), some (.int x2), none, none, none, none] [] h Q := C_ent ml225 rfl rfl
theorem ml226 : mloc 226 = 3 := by decide +kernel
theorem ce226 : Cp (d + 1) 226 [.ref a0] h Q = Wp d 226 0 [some (.ref a0), none, none] [] h Q := C_ent ml226 rfl rfl
theorem ml227 : mloc 227 = 1 := by decide +kernel
theorem ce227 : Cp (d + 1) 227 [.int x0] h Q = Wp d 227 0 [some (.int x0)] [] h Q := C_ent ml227 rfl rfl
theorem ml228 : mloc 228 = 10 := by decide +kernel
theorem ce228 : Cp (d + 1) 228 [.ref a0] h Q = Wp d 228 0 [some (.ref a0), none, none, none, none, none, none, none, none, none] [] h Q := C_ent ml228 rfl rfl
theorem ml229 : mloc 229 = 1 := by decide +kernel
theorem ce229 : Cp (d + 1) 229 [.ref a0] h Q = Wp d 229 0 [some (.ref a0)] [] h Q := C_ent ml229 rfl rfl
theorem ml230 : mloc 230 = 2 := by decide +kernel
theorem ce230 : Cp (d + 1) 230 [.ref a0, .int x1] h Q = Wp d 230 0 [some (.ref a0), some (.int x1)] [] h Q := C_ent ml230 rfl rfl
theorem ml231 : mloc 231 = 2 := by decide +kernel
theorem ce231 : Cp (d + 1) 231 [.ref a0, .int x1] h Q = Wp d 231 0 [some (.ref a0), some (.int x1)] [] h Q := C_ent ml231 rfl rfl
theorem ml232 : mloc 232 = 3 := by decide +kernel
theorem ce232 : Cp (d + 1) 232 [.ref a0, .int x1, .int x2] h Q = Wp d 232 0 [some (.ref a0), some (.int x1), some (.int x2)] [] h Q := C_ent ml232 rfl rfl
theorem ml233 : mloc 233 = 1 := by decide +kernel
theorem ce233 : Cp (d + 1) 233 [.ref a0] h Q = Wp d 233 0 [some (.ref a0)] [] h Q := C_ent ml233 rfl rfl
theorem ml234 : mloc 234 = 1 := by decide +kernel
theorem ce234 : Cp (d + 1) 234 [.ref a0] h Q = Wp d 234 0 [some (.ref a0)] [] h Q := C_ent ml234 rfl rfl
theorem ml235 : mloc 235 = 2 := by decide +kernel
theorem ce235 : Cp (d + 1) 235 [.int x0, .int x1] h Q = Wp d 235 0 [some (.int x0), some (.int x1)] [] h Q := C_ent ml235 rfl rfl
theorem ml236 : mloc 236 = 2 := by decide +kernel
theorem ce236 : Cp (d + 1) 236 [.ref a0, .int x1] h Q = Wp d 236 0 [some (.ref a0), some (.int x1)] [] h Q := C_ent ml236 rfl rfl
theorem ml237 : mloc 237 = 1 := by decide +kernel
theorem ce237 : Cp (d + 1) 237 [.int x0] h Q = Wp d 237 0 [some (.int x0)] [] h Q := C_ent ml237 rfl rfl
theorem ml238 : mloc 238 = 4 := by decide +kernel
theorem ce238 : Cp (d + 1) 238 [.ref a0, .int x1, .int x2, .int x3] h Q = Wp d 238 0 [some (.ref a0), some (.int x1), some (.int x2), some (.int x3)] [] h Q := C_ent ml238 rfl rfl
theorem ml239 : mloc 239 = 6 := by decide +kernel
theorem ce239 : Cp (d + 1) 239 [.ref a0, .int x1, .int x2, .int x3] h Q = Wp d 239 0 [some (.ref a0), some (.int x1), some (.int x2), some (.int x3), none, none] [] h Q := C_ent ml239 rfl rfl
theorem ml240 : mloc 240 = 3 := by decide +kernel
theorem ce240 : Cp (d + 1) 240 [.int x0, .int x1, .ref a2] h Q = Wp d 240 0 [some (.int x0), some (.int x1), some (.ref a2)] [] h Q := C_ent ml240 rfl rfl
theorem ml241 : mloc 241 = 8 := by decide +kernel
theorem ce241 : Cp (d + 1) 241 [.ref a0, .int x1, .int x2, .int x3, .int x4, .int x5, .ref a6] h Q = Wp d 241 0 [some (.ref a0), some (.int x1), some (.int x2), some (.int x3), some (.int x4), some (.int x5), some (.ref a6), none] [] h Q := C_ent ml241 rfl rfl
theorem ml242 : mloc 242 = 4 := by decide +kernel
theorem ce242 : Cp (d + 1) 242 [.ref a0, .int x1, .ref a2] h Q = Wp d 242 0 [some (.ref a0), some (.int x1), some (.ref a2), none] [] h Q := C_ent ml242 rfl rfl
theorem ml243 : mloc 243 = 4 := by decide +kernel
theorem ce243 : Cp (d + 1) 243 [.ref a0, .int x1, .ref a2] h Q = Wp d 243 0 [some (.ref a0), some (.int x1), some (.ref a2), none] [] h Q := C_ent ml243 rfl rfl
theorem ml244 : mloc 244 = 5 := by decide +kernel
theorem ce244 : Cp (d + 1) 244 [.ref a0, .int x1, .int x2, .ref a3] h Q = Wp d 244 0 [some (.ref a0), some (.int x1), some (.int x2), some (.ref a3), none] [] h Q := C_ent ml244 rfl rfl
theorem ml245 : mloc 245 = 4 := by decide +kernel
theorem ce245 : Cp (d + 1) 245 [.ref a0, .int x1, .ref a2] h Q = Wp d 245 0 [some (.ref a0), some (.int x1), some (.ref a2), none] [] h Q := C_ent ml245 rfl rfl
theorem ml246 : mloc 246 = 4 := by decide +kernel
theorem ce246 : Cp (d + 1) 246 [.ref a0, .int x1, .ref a2] h Q = Wp d 246 0 [some (.ref a0), some (.int x1), some (.ref a2), none] [] h Q := C_ent ml246 rfl rfl
theorem ml247 : mloc 247 = 5 := by decide +kernel
theorem ce247 : Cp (d + 1) 247 [.ref a0, .int x1, .int x2, .ref a3] h Q = Wp d 247 0 [some (.ref a0), some (.int x1), some (.int x2), some (.ref a3), none] [] h Q := C_ent ml247 rfl rfl
theorem ml248 : mloc 248 = 4 := by decide +kernel
theorem ce248 : Cp (d + 1) 248 [.ref a0, .int x1, .ref a2] h Q = Wp d 248 0 [some (.ref a0), some (.int x1), some (.ref a2), none] [] h Q := C_ent ml248 rfl rfl
theorem ml249 : mloc 249 = 4 := by decide +kernel
theorem ce249 : Cp (d + 1) 249 [.ref a0, .int x1, .ref a2] h Q = Wp d 249 0 [some (.ref a0), some (.int x1), some (.ref a2), none] [] h Q := C_ent ml249 rfl rfl
theorem ml250 : mloc 250 = 4 := by decide +kernel
theorem ce250 : Cp (d + 1) 250 [.ref a0, .int x1, .ref a2] h Q = Wp d 250 0 [some (.ref a0), some (.int x1), some (.ref a2), none] [] h Q := C_ent ml250 rfl rfl
theorem ml251 : mloc 251 = 4 := by decide +kernel
theorem ce251 : Cp (d + 1) 251 [.ref a0, .int x1, .ref a2] h Q = Wp d 251 0 [some (.ref a0), some (.int x1), some (.ref a2), none] [] h Q := C_ent ml251 rfl rfl
theorem ml252 : mloc 252 = 4 := by decide +kernel
theorem ce252 : Cp (d + 1) 252 [.ref a0, .int x1, .ref a2] h Q = Wp d 252 0 [some (.ref a0), some (.int x1), some (.ref a2), none] [] h Q := C_ent ml252 rfl rfl
theorem ml253 : mloc 253 = 4 := by decide +kernel
theorem ce253 : Cp (d + 1) 253 [.ref a0, .int x1, .ref a2] h Q = Wp d 253 0 [some (.ref a0), some (.int x1), some (.ref a2), none] [] h Q := C_ent ml253 rfl rfl
theorem ml254 : mloc 254 = 4 := by decide +kernel
theorem ce254 : Cp (d + 1) 254 [.ref a0, .int x1, .ref a2] h Q = Wp d 254 0 [some (.ref a0), some (.int x1), some (.ref a2), none] [] h Q := C_ent ml254 rfl rfl
theorem ml255 : mloc 255 = 4 := by decide +kernel
theorem ce255 : Cp (d + 1) 255 [.ref a0, .int x1, .ref a2] h Q = Wp d 255 0 [some (.ref a0), some (.int x1), some (.ref a2), none] [] h Q := C_ent ml255 rfl rfl
theorem ml256 : mloc 256 = 4 := by decide +kernel
theorem ce256 : Cp (d + 1) 256 [.ref a0, .int x1, .ref a2] h Q = Wp d 256 0 [some (.ref a0), some (.int x1), some (.ref a2), none] [] h Q := C_ent ml256 rfl rfl
theorem ml257 : mloc 257 = 4 := by decide +kernel
theorem ce257 : Cp (d + 1) 257 [.ref a0, .int x1, .ref a2] h Q = Wp d 257 0 [some (.ref a0), some (.int x1), some (.ref a2), none] [] h Q := C_ent ml257 rfl rfl
theorem ml258 : mloc 258 = 4 := by decide +kernel
theorem ce258 : Cp (d + 1) 258 [.ref a0, .int x1, .ref a2] h Q = Wp d 258 0 [some (.ref a0), some (.int x1), some (.ref a2), none] [] h Q := C_ent ml258 rfl rfl
theorem ml259 : mloc 259 = 4 := by decide +kernel
theorem ce259 : Cp (d + 1) 259 [.ref a0, .int x1, .ref a2] h Q = Wp d 259 0 [some (.ref a0), some (.int x1), some (.ref a2), none] [] h Q := C_ent ml259 rfl rfl
theorem ml260 : mloc 260 = 4 := by decide +kernel
theorem ce260 : Cp (d + 1) 260 [.ref a0, .int x1, .ref a2] h Q = Wp d 260 0 [some (.ref a0), some (.int x1), some (.ref a2), none] [] h Q := C_ent ml260 rfl rfl
theorem ml261 : mloc 261 = 4 := by decide +kernel
theorem ce261 : Cp (d + 1) 261 [.ref a0, .int x1, .ref a2] h Q = Wp d 261 0 [some (.ref a0), some (.int x1), some (.ref a2), none] [] h Q := C_ent ml261 rfl rfl
theorem ml262 : mloc 262 = 4 := by decide +kernel
theorem ce262 : Cp (d + 1) 262 [.ref a0, .int x1, .ref a2] h Q = Wp d 262 0 [some (.ref a0), some (.int x1), some (.ref a2), none] [] h Q := C_ent ml262 rfl rfl
theorem ml263 : mloc 263 = 4 := by decide +kernel
theorem ce263 : Cp (d + 1) 263 [.ref a0, .int x1, .ref a2] h Q = Wp d 263 0 [some (.ref a0), some (.int x1), some (.ref a2), none] [] h Q := C_ent ml263 rfl rfl
theorem ml264 : mloc 264 = 5 := by decide +kernel
theorem ce264 : Cp (d + 1) 264 [.ref a0, .int x1, .int x2, .ref a3] h Q = Wp d 264 0 [some (.ref a0), some (.int x1), some (.int x2), some (.ref a3), none] [] h Q := C_ent ml264 rfl rfl
theorem ml265 : mloc 265 = 4 := by decide +kernel
theorem ce265 : Cp (d + 1) 265 [.ref a0, .int x1, .ref a2] h Q = Wp d 265 0 [some (.ref a0), some (.int x1), some (.ref a2), none] [] h Q := C_ent ml265 rfl rfl
theorem ml266 : mloc 266 = 4 := by decide +kernel
theorem ce266 : Cp (d + 1) 266 [.ref a0, .int x1, .ref a2] h Q = Wp d 266 0 [some (.ref a0), some (.int x1), some (.ref a2), none] [] h Q := C_ent ml266 rfl rfl
theorem ml267 : mloc 267 = 5 := by decide +kernel
theorem ce267 : Cp (d + 1) 267 [.ref a0, .int x1, .int x2, .ref a3] h Q = Wp d 267 0 [some (.ref a0), some (.int x1), some (.int x2), some (.ref a3), none] [] h Q := C_ent ml267 rfl rfl
theorem ml268 : mloc 268 = 9 := by decide +kernel
theorem ce268 : Cp (d + 1) 268 [.ref a0] h Q = Wp d 268 0 [some (.ref a0), none, none, none, none, none, none, none, none] [] h Q := C_ent ml268 rfl rfl
theorem w64_0n : Wp d 64 0 [l0, some .null, l2, l3, l4, l5] st h Q = Wp d 64 1 [l0, some .null, l2, l3, l4, l5] (.null :: st) h Q := W_go f64_0 rfl
theorem w64_5n : Wp d 64 5 [l0, some .null, l2, l3, l4, l5] st h Q = Wp d 64 6 [l0, some .null, l2, l3, l4, l5] (.null :: st) h Q := W_go f64_5 rfl
theorem w64_10n : Wp d 64 10 [some .null, l1, l2, l3, l4, l5] st h Q = Wp d 64 11 [some .null, l1, l2, l3, l4, l5] (.null :: st) h Q := W_go f64_10 rfl
theorem w64_22n : Wp d 64 22 [some .null, l1, l2, l3, l4, l5] st h Q = Wp d 64 23 [some .null, l1, l2, l3, l4, l5] (.null :: st) h Q := W_go f64_22 rfl
theorem w64_42n : Wp d 64 42 [l0, some .null, l2, l3, l4, l5] st h Q = Wp d 64 43 [l0, some .null, l2, l3, l4, l5] (.null :: st) h Q := W_go f64_42 rfl
theorem w64_43n : Wp d 64 43 [some .null, l1, l2, l3, l4, l5] st h Q = Wp d 64 44 [some .null, l1, l2, l3, l4, l5] (.null :: st) h Q := W_go f64_43 rfl
theorem w64_58n : Wp d 64 58 [some .null, l1, l2, l3, l4, l5] st h Q = Wp d 64 59 [some .null, l1, l2, l3, l4, l5] (.null :: st) h Q := W_go f64_58 rfl
theorem w64_59n : Wp d 64 59 [l0, some .null, l2, l3, l4, l5] st h Q = Wp d 64 60 [l0, some .null, l2, l3, l4, l5] (.null :: st) h Q := W_go f64_59 rfl
theorem w64_66n : Wp d 64 66 [l0, l1, l2, l3, l4, l5] (.null :: st) h Q = Wp d 64 68 [l0, l1, l2, l3, kl l4, some .null] st h Q := (W_st1 (pc' := 68) (k := 5) f64_66 rfl rfl (by simp only [List.length_cons, List.length_nil]; omega)).trans (by rw [pst1_succ]; rfl)
theorem w64_68n : Wp d 64 68 [l0, l1, l2, l3, l4, some .null] st h Q = Wp d 64 70 [l0, l1, l2, l3, l4, some .null] (.null :: st) h Q := W_go f64_68 rfl
theorem w64_108n : Wp d 64 108 [l0, l1, l2, l3, l4, some .null] st h Q = Wp d 64 110 [l0, l1, l2, l3, l4, some .null] (.null :: st) h Q := W_go f64_108 rfl
theorem w64_116n : Wp d 64 116 [l0, l1, l2, l3, l4, some .null] st h Q = Wp d 64 118 [l0, l1, l2, l3, l4, some .null] (.null :: st) h Q := W_go f64_116 rfl
theorem w64_125n : Wp d 64 125 [l0, l1, l2, l3, l4, some .null] st h Q = Wp d 64 127 [l0, l1, l2, l3, l4, some .null] (.null :: st) h Q := W_go f64_125 rfl
theorem w64_135n : Wp d 64 135 [l0, some .null, l2, l3, l4, l5] st h Q = Wp d 64 136 [l0, some .null, l2, l3, l4, l5] (.null :: st) h Q := W_go f64_135 rfl
theorem w64_136n : Wp d 64 136 [l0, l1, l2, l3, l4, some .null] st h Q = Wp d 64 138 [l0, l1, l2, l3, l4, some .null] (.null :: st) h Q := W_go f64_136 rfl
theorem w64_138n : Wp d 64 138 [some .null, l1, l2, l3, l4, l5] st h Q = Wp d 64 139 [some .null, l1, l2, l3, l4, l5] (.null :: st) h Q := W_go f64_138 rfl
theorem w64_139n : Wp d 64 139 [l0, some .null, l2, l3, l4, l5] st h Q = Wp d 64 140 [l0, some .null, l2, l3, l4, l5] (.null :: st) h Q := W_go f64_139 rfl
theorem w66_6n : Wp d 66 6 [some .null, l1, l2, l3] st h Q = Wp d 66 7 [some .null, l1, l2, l3] (.null :: st) h Q := W_go f66_6 rfl
theorem w66_7n : Wp d 66 7 [l0, some .null, l2, l3] st h Q = Wp d 66 8 [l0, some .null, l2, l3] (.null :: st) h Q := W_go f66_7 rfl
theorem w66_14n : Wp d 66 14 [l0, l1, l2, l3] (.null :: st) h Q = Wp d 66 15 [l0, l1, kl l2, some .null] st h Q := (W_st1 (pc' := 15) (k := 3) f66_14 rfl rfl (by simp only [List.length_cons, List.length_nil]; omega)).trans (by rw [pst1_succ]; rfl)
theorem w66_56n : Wp d 66 56 [l0, l1, l2, some .null] st h Q = Wp d 66 57 [l0, l1, l2, some .null] (.null :: st) h Q := W_go f66_56 rfl
theorem w66_64n : Wp d 66 64 [l0, l1, l2, some .null] st h Q = Wp d 66 65 [l0, l1, l2, some .null] (.null :: st) h Q := W_go f66_64 rfl
theorem w66_69n : Wp d 66 69 [l0, l1, l2, some .null] st h Q = Wp d 66 70 [l0, l1, l2, some .null] (.null :: st) h Q := W_go f66_69 rfl
theorem w66_77n : Wp d 66 77 [l0, l1, l2, some .null] st h Q = Wp d 66 78 [l0, l1, l2, some .null] (.null :: st) h Q := W_go f66_77 rfl
theorem w66_82n : Wp d 66 82 [l0, l1, l2, some .null] st h Q = Wp d 66 83 [l0, l1, l2, some .null] (.null :: st) h Q := W_go f66_82 rfl
theorem w66_90n : Wp d 66 90 [l0, l1, l2, some .null] st h Q = Wp d 66 91 [l0, l1, l2, some .null] (.null :: st) h Q := W_go f66_90 rfl
theorem w66_103n : Wp d 66 103 [l0, some .null, l2, l3] st h Q = Wp d 66 104 [l0, some .null, l2, l3] (.null :: st) h Q := W_go f66_103 rfl
theorem w66_108n : Wp d 66 108 [some .null, l1, l2, l3] st h Q = Wp d 66 109 [some .null, l1, l2, l3] (.null :: st) h Q := W_go f66_108 rfl
theorem w66_116n : Wp d 66 116 [some .null, l1, l2, l3] st h Q = Wp d 66 117 [some .null, l1, l2, l3] (.null :: st) h Q := W_go f66_116 rfl
theorem w66_121n : Wp d 66 121 [l0, some .null, l2, l3] st h Q = Wp d 66 122 [l0, some .null, l2, l3] (.null :: st) h Q := W_go f66_121 rfl
theorem w67_3n : Wp d 67 3 [some .null, l1, l2] st h Q = Wp d 67 4 [some .null, l1, l2] (.null :: st) h Q := W_go f67_3 rfl
theorem w67_14n : Wp d 67 14 [some .null, l1, l2] st h Q = Wp d 67 15 [some .null, l1, l2] (.null :: st) h Q := W_go f67_14 rfl
theorem w67_22n : Wp d 67 22 [some .null, l1, l2] st h Q = Wp d 67 23 [some .null, l1, l2] (.null :: st) h Q := W_go f67_22 rfl
theorem w67_35n : Wp d 67 35 [some .null, l1, l2] st h Q = Wp d 67 36 [some .null, l1, l2] (.null :: st) h Q := W_go f67_35 rfl
theorem w67_41n : Wp d 67 41 [l0, l1, l2] [.null] h Q = Q (.inl (some .null), h) := W_fin f67_41 rfl
theorem w67_49n : Wp d 67 49 [l0, l1, l2] [.null] h Q = Q (.inl (some .null), h) := W_fin f67_49 rfl
end ENTS
