section ROWS0
variable {d : Nat} {h : PH} {Q : PO → Prop} {st : List Value} {x y n sp dp : Int32} {x8 y8 : Int64} {xd yd : UInt64} {a b : Nat} {v v0 v1 v2 v3 v4 v5 v6 v7 v8 v9 : Value} {l0 l1 l2 l3 l4 l5 l6 l7 l8 l9 l10 l11 l12 l13 l14 l15 l16 l17 l18 l19 l20 l21 l22 l23 : Option Value}
theorem hm0 : mhs 0 = [] := by decide +kernel
theorem f0_0 : fetch 0 0 = some (.aload_n 0, 1, [], .null) := by decide +kernel
theorem w0_0 : Wp d 0 0 [some (.ref a)] st h Q = Wp d 0 1 [some (.ref a)] (.ref a :: st) h Q := W_go f0_0 rfl
theorem f0_1 : fetch 0 1 = some (.invokespecial 3, 3, [9999, 1053, 1031, 1032], .null) := by decide +kernel
theorem w0_1 (hp : psum st ≤ 8 ∧ a ≠ 201) : Wp d 0 1 [l0] (.ref a :: st) h Q = Wp d 0 4 [l0] st h Q := W_go f0_1 (by simp only [pstep, if_pos hp]; rfl)
theorem f0_4 : fetch 0 4 = some (.aload_n 0, 1, [], .null) := by decide +kernel
theorem w0_4 : Wp d 0 4 [some (.ref a)] st h Q = Wp d 0 5 [some (.ref a)] (.ref a :: st) h Q := W_go f0_4 rfl
theorem f0_5 : fetch 0 5 = some (.bipush 10, 2, [], .null) := by decide +kernel
theorem w0_5 : Wp d 0 5 [l0] st h Q = Wp d 0 7 [l0] (.int (10 : Int32) :: st) h Q := W_go f0_5 rfl
theorem f0_7 : fetch 0 7 = some (.newarray .int, 2, [0, 1141], .null) := by decide +kernel
theorem w0_7 (hx : ¬ x < 0 ∧ x.toNatClampNeg ≤ 60000) : Wp d 0 7 [l0] (.int x :: st) h Q = Wp d 0 9 [l0] (.ref h.1.1 :: st) (hnew h x.toNatClampNeg (.inl (0, arr0 0 x.toNatClampNeg))) Q := W_go f0_7 (by simp only [pstep, pnewa, if_pos hx]; rfl)
theorem f0_9 : fetch 0 9 = some (.putfield 9, 3, [0, 4, 1066, 0], .null) := by decide +kernel
theorem w0_9 : Wp d 0 9 [l0] (v :: .ref a :: st) h Q = pP (h.2 a) 0 4 (ftOf 0 4) v a (fun c => Wp d 0 12 [l0] st (hset h a c) Q) := W_put f0_9 (by rfl)
theorem f0_12 : fetch 0 12 = some (.aload_n 0, 1, [], .null) := by decide +kernel
theorem w0_12 : Wp d 0 12 [some (.ref a)] st h Q = Wp d 0 13 [some (.ref a)] (.ref a :: st) h Q := W_go f0_12 rfl
theorem f0_13 : fetch 0 13 = some (.bipush 10, 2, [], .null) := by decide +kernel
theorem w0_13 : Wp d 0 13 [l0] st h Q = Wp d 0 15 [l0] (.int (10 : Int32) :: st) h Q := W_go f0_13 rfl
theorem f0_15 : fetch 0 15 = some (.newarray .int, 2, [0, 1141], .null) := by decide +kernel
theorem w0_15 (hx : ¬ x < 0 ∧ x.toNatClampNeg ≤ 60000) : Wp d 0 15 [l0] (.int x :: st) h Q = Wp d 0 17 [l0] (.ref h.1.1 :: st) (hnew h x.toNatClampNeg (.inl (0, arr0 0 x.toNatClampNeg))) Q := W_go f0_15 (by simp only [pstep, pnewa, if_pos hx]; rfl)
theorem f0_17 : fetch 0 17 = some (.putfield 15, 3, [0, 5, 1069, 0], .null) := by decide +kernel
theorem w0_17 : Wp d 0 17 [l0] (v :: .ref a :: st) h Q = pP (h.2 a) 0 5 (ftOf 0 5) v a (fun c => Wp d 0 20 [l0] st (hset h a c) Q) := W_put f0_17 (by rfl)
theorem f0_20 : fetch 0 20 = some (.aload_n 0, 1, [], .null) := by decide +kernel
theorem w0_20 : Wp d 0 20 [some (.ref a)] st h Q = Wp d 0 21 [some (.ref a)] (.ref a :: st) h Q := W_go f0_20 rfl
theorem f0_21 : fetch 0 21 = some (.bipush 6, 2, [], .null) := by decide +kernel
theorem w0_21 : Wp d 0 21 [l0] st h Q = Wp d 0 23 [l0] (.int (6 : Int32) :: st) h Q := W_go f0_21 rfl
theorem f0_23 : fetch 0 23 = some (.newarray .int, 2, [0, 1141], .null) := by decide +kernel
theorem w0_23 (hx : ¬ x < 0 ∧ x.toNatClampNeg ≤ 60000) : Wp d 0 23 [l0] (.int x :: st) h Q = Wp d 0 25 [l0] (.ref h.1.1 :: st) (hnew h x.toNatClampNeg (.inl (0, arr0 0 x.toNatClampNeg))) Q := W_go f0_23 (by simp only [pstep, pnewa, if_pos hx]; rfl)
theorem f0_25 : fetch 0 25 = some (.putfield 18, 3, [0, 6, 1072, 0], .null) := by decide +kernel
theorem w0_25 : Wp d 0 25 [l0] (v :: .ref a :: st) h Q = pP (h.2 a) 0 6 (ftOf 0 6) v a (fun c => Wp d 0 28 [l0] st (hset h a c) Q) := W_put f0_25 (by rfl)
theorem f0_28 : fetch 0 28 = some (.aload_n 0, 1, [], .null) := by decide +kernel
theorem w0_28 : Wp d 0 28 [some (.ref a)] st h Q = Wp d 0 29 [some (.ref a)] (.ref a :: st) h Q := W_go f0_28 rfl
theorem f0_29 : fetch 0 29 = some (.bipush 80, 2, [], .null) := by decide +kernel
theorem w0_29 : Wp d 0 29 [l0] st h Q = Wp d 0 31 [l0] (.int (80 : Int32) :: st) h Q := W_go f0_29 rfl
theorem f0_31 : fetch 0 31 = some (.newarray .int, 2, [0, 1141], .null) := by decide +kernel
theorem w0_31 (hx : ¬ x < 0 ∧ x.toNatClampNeg ≤ 60000) : Wp d 0 31 [l0] (.int x :: st) h Q = Wp d 0 33 [l0] (.ref h.1.1 :: st) (hnew h x.toNatClampNeg (.inl (0, arr0 0 x.toNatClampNeg))) Q := W_go f0_31 (by simp only [pstep, pnewa, if_pos hx]; rfl)
theorem f0_33 : fetch 0 33 = some (.putfield 21, 3, [0, 7, 1076, 0], .null) := by decide +kernel
theorem w0_33 : Wp d 0 33 [l0] (v :: .ref a :: st) h Q = pP (h.2 a) 0 7 (ftOf 0 7) v a (fun c => Wp d 0 36 [l0] st (hset h a c) Q) := W_put f0_33 (by rfl)
theorem f0_36 : fetch 0 36 = some (.aload_n 0, 1, [], .null) := by decide +kernel
theorem w0_36 : Wp d 0 36 [some (.ref a)] st h Q = Wp d 0 37 [some (.ref a)] (.ref a :: st) h Q := W_go f0_36 rfl
theorem f0_37 : fetch 0 37 = some (.bipush 80, 2, [], .null) := by decide +kernel
theorem w0_37 : Wp d 0 37 [l0] st h Q = Wp d 0 39 [l0] (.int (80 : Int32) :: st) h Q := W_go f0_37 rfl
theorem f0_39 : fetch 0 39 = some (.newarray .int, 2, [0, 1141], .null) := by decide +kernel
theorem w0_39 (hx : ¬ x < 0 ∧ x.toNatClampNeg ≤ 60000) : Wp d 0 39 [l0] (.int x :: st) h Q = Wp d 0 41 [l0] (.ref h.1.1 :: st) (hnew h x.toNatClampNeg (.inl (0, arr0 0 x.toNatClampNeg))) Q := W_go f0_39 (by simp only [pstep, pnewa, if_pos hx]; rfl)
theorem f0_41 : fetch 0 41 = some (.putfield 24, 3, [0, 8, 1079, 0], .null) := by decide +kernel
theorem w0_41 : Wp d 0 41 [l0] (v :: .ref a :: st) h Q = pP (h.2 a) 0 8 (ftOf 0 8) v a (fun c => Wp d 0 44 [l0] st (hset h a c) Q) := W_put f0_41 (by rfl)
theorem f0_44 : fetch 0 44 = some (.aload_n 0, 1, [], .null) := by decide +kernel
theorem w0_44 : Wp d 0 44 [some (.ref a)] st h Q = Wp d 0 45 [some (.ref a)] (.ref a :: st) h Q := W_go f0_44 rfl
theorem f0_45 : fetch 0 45 = some (.bipush 80, 2, [], .null) := by decide +kernel
theorem w0_45 : Wp d 0 45 [l0] st h Q = Wp d 0 47 [l0] (.int (80 : Int32) :: st) h Q := W_go f0_45 rfl
theorem f0_47 : fetch 0 47 = some (.newarray .int, 2, [0, 1141], .null) := by decide +kernel
theorem w0_47 (hx : ¬ x < 0 ∧ x.toNatClampNeg ≤ 60000) : Wp d 0 47 [l0] (.int x :: st) h Q = Wp d 0 49 [l0] (.ref h.1.1 :: st) (hnew h x.toNatClampNeg (.inl (0, arr0 0 x.toNatClampNeg))) Q := W_go f0_47 (by simp only [pstep, pnewa, if_pos hx]; rfl)
theorem f0_49 : fetch 0 49 = some (.putfield 27, 3, [0, 9, 1082, 0], .null) := by decide +kernel
theorem w0_49 : Wp d 0 49 [l0] (v :: .ref a :: st) h Q = pP (h.2 a) 0 9 (ftOf 0 9) v a (fun c => Wp d 0 52 [l0] st (hset h a c) Q) := W_put f0_49 (by rfl)
theorem f0_52 : fetch 0 52 = some (.aload_n 0, 1, [], .null) := by decide +kernel
theorem w0_52 : Wp d 0 52 [some (.ref a)] st h Q = Wp d 0 53 [some (.ref a)] (.ref a :: st) h Q := W_go f0_52 rfl
theorem f0_53 : fetch 0 53 = some (.bipush 80, 2, [], .null) := by decide +kernel
theorem w0_53 : Wp d 0 53 [l0] st h Q = Wp d 0 55 [l0] (.int (80 : Int32) :: st) h Q := W_go f0_53 rfl
theorem f0_55 : fetch 0 55 = some (.newarray .int, 2, [0, 1141], .null) := by decide +kernel
theorem w0_55 (hx : ¬ x < 0 ∧ x.toNatClampNeg ≤ 60000) : Wp d 0 55 [l0] (.int x :: st) h Q = Wp d 0 57 [l0] (.ref h.1.1 :: st) (hnew h x.toNatClampNeg (.inl (0, arr0 0 x.toNatClampNeg))) Q := W_go f0_55 (by simp only [pstep, pnewa, if_pos hx]; rfl)
theorem f0_57 : fetch 0 57 = some (.putfield 30, 3, [0, 10, 1085, 0], .null) := by decide +kernel
theorem w0_57 : Wp d 0 57 [l0] (v :: .ref a :: st) h Q = pP (h.2 a) 0 10 (ftOf 0 10) v a (fun c => Wp d 0 60 [l0] st (hset h a c) Q) := W_put f0_57 (by rfl)
theorem f0_60 : fetch 0 60 = some (.aload_n 0, 1, [], .null) := by decide +kernel
theorem w0_60 : Wp d 0 60 [some (.ref a)] st h Q = Wp d 0 61 [some (.ref a)] (.ref a :: st) h Q := W_go f0_60 rfl
theorem f0_61 : fetch 0 61 = some (.bipush 80, 2, [], .null) := by decide +kernel
theorem w0_61 : Wp d 0 61 [l0] st h Q = Wp d 0 63 [l0] (.int (80 : Int32) :: st) h Q := W_go f0_61 rfl
theorem f0_63 : fetch 0 63 = some (.newarray .int, 2, [0, 1141], .null) := by decide +kernel
theorem w0_63 (hx : ¬ x < 0 ∧ x.toNatClampNeg ≤ 60000) : Wp d 0 63 [l0] (.int x :: st) h Q = Wp d 0 65 [l0] (.ref h.1.1 :: st) (hnew h x.toNatClampNeg (.inl (0, arr0 0 x.toNatClampNeg))) Q := W_go f0_63 (by simp only [pstep, pnewa, if_pos hx]; rfl)
theorem f0_65 : fetch 0 65 = some (.putfield 33, 3, [0, 11, 1088, 0], .null) := by decide +kernel
theorem w0_65 : Wp d 0 65 [l0] (v :: .ref a :: st) h Q = pP (h.2 a) 0 11 (ftOf 0 11) v a (fun c => Wp d 0 68 [l0] st (hset h a c) Q) := W_put f0_65 (by rfl)
theorem f0_68 : fetch 0 68 = some (.aload_n 0, 1, [], .null) := by decide +kernel
theorem w0_68 : Wp d 0 68 [some (.ref a)] st h Q = Wp d 0 69 [some (.ref a)] (.ref a :: st) h Q := W_go f0_68 rfl
theorem f0_69 : fetch 0 69 = some (.bipush 80, 2, [], .null) := by decide +kernel
theorem w0_69 : Wp d 0 69 [l0] st h Q = Wp d 0 71 [l0] (.int (80 : Int32) :: st) h Q := W_go f0_69 rfl
theorem f0_71 : fetch 0 71 = some (.newarray .int, 2, [0, 1141], .null) := by decide +kernel
theorem w0_71 (hx : ¬ x < 0 ∧ x.toNatClampNeg ≤ 60000) : Wp d 0 71 [l0] (.int x :: st) h Q = Wp d 0 73 [l0] (.ref h.1.1 :: st) (hnew h x.toNatClampNeg (.inl (0, arr0 0 x.toNatClampNeg))) Q := W_go f0_71 (by simp only [pstep, pnewa, if_pos hx]; rfl)
theorem f0_73 : fetch 0 73 = some (.putfield 36, 3, [0, 12, 1091, 0], .null) := by decide +kernel
theorem w0_73 : Wp d 0 73 [l0] (v :: .ref a :: st) h Q = pP (h.2 a) 0 12 (ftOf 0 12) v a (fun c => Wp d 0 76 [l0] st (hset h a c) Q) := W_put f0_73 (by rfl)
theorem f0_76 : fetch 0 76 = some (.aload_n 0, 1, [], .null) := by decide +kernel
theorem w0_76 : Wp d 0 76 [some (.ref a)] st h Q = Wp d 0 77 [some (.ref a)] (.ref a :: st) h Q := W_go f0_76 rfl
theorem f0_77 : fetch 0 77 = some (.bipush 80, 2, [], .null) := by decide +kernel
theorem w0_77 : Wp d 0 77 [l0] st h Q = Wp d 0 79 [l0] (.int (80 : Int32) :: st) h Q := W_go f0_77 rfl
theorem f0_79 : fetch 0 79 = some (.newarray .int, 2, [0, 1141], .null) := by decide +kernel
theorem w0_79 (hx : ¬ x < 0 ∧ x.toNatClampNeg ≤ 60000) : Wp d 0 79 [l0] (.int x :: st) h Q = Wp d 0 81 [l0] (.ref h.1.1 :: st) (hnew h x.toNatClampNeg (.inl (0, arr0 0 x.toNatClampNeg))) Q := W_go f0_79 (by simp only [pstep, pnewa, if_pos hx]; rfl)
theorem f0_81 : fetch 0 81 = some (.putfield 39, 3, [0, 13, 1094, 0], .null) := by decide +kernel
theorem w0_81 : Wp d 0 81 [l0] (v :: .ref a :: st) h Q = pP (h.2 a) 0 13 (ftOf 0 13) v a (fun c => Wp d 0 84 [l0] st (hset h a c) Q) := W_put f0_81 (by rfl)
theorem f0_84 : fetch 0 84 = some (.aload_n 0, 1, [], .null) := by decide +kernel
theorem w0_84 : Wp d 0 84 [some (.ref a)] st h Q = Wp d 0 85 [some (.ref a)] (.ref a :: st) h Q := W_go f0_84 rfl
theorem f0_85 : fetch 0 85 = some (.bipush 100, 2, [], .null) := by decide +kernel
theorem w0_85 : Wp d 0 85 [l0] st h Q = Wp d 0 87 [l0] (.int (100 : Int32) :: st) h Q := W_go f0_85 rfl
theorem f0_87 : fetch 0 87 = some (.newarray .int, 2, [0, 1141], .null) := by decide +kernel
theorem w0_87 (hx : ¬ x < 0 ∧ x.toNatClampNeg ≤ 60000) : Wp d 0 87 [l0] (.int x :: st) h Q = Wp d 0 89 [l0] (.ref h.1.1 :: st) (hnew h x.toNatClampNeg (.inl (0, arr0 0 x.toNatClampNeg))) Q := W_go f0_87 (by simp only [pstep, pnewa, if_pos hx]; rfl)
theorem f0_89 : fetch 0 89 = some (.putfield 42, 3, [0, 14, 1097, 0], .null) := by decide +kernel
theorem w0_89 : Wp d 0 89 [l0] (v :: .ref a :: st) h Q = pP (h.2 a) 0 14 (ftOf 0 14) v a (fun c => Wp d 0 92 [l0] st (hset h a c) Q) := W_put f0_89 (by rfl)
theorem f0_92 : fetch 0 92 = some (.aload_n 0, 1, [], .null) := by decide +kernel
theorem w0_92 : Wp d 0 92 [some (.ref a)] st h Q = Wp d 0 93 [some (.ref a)] (.ref a :: st) h Q := W_go f0_92 rfl
theorem f0_93 : fetch 0 93 = some (.bipush 100, 2, [], .null) := by decide +kernel
theorem w0_93 : Wp d 0 93 [l0] st h Q = Wp d 0 95 [l0] (.int (100 : Int32) :: st) h Q := W_go f0_93 rfl
theorem f0_95 : fetch 0 95 = some (.newarray .int, 2, [0, 1141], .null) := by decide +kernel
theorem w0_95 (hx : ¬ x < 0 ∧ x.toNatClampNeg ≤ 60000) : Wp d 0 95 [l0] (.int x :: st) h Q = Wp d 0 97 [l0] (.ref h.1.1 :: st) (hnew h x.toNatClampNeg (.inl (0, arr0 0 x.toNatClampNeg))) Q := W_go f0_95 (by simp only [pstep, pnewa, if_pos hx]; rfl)
theorem f0_97 : fetch 0 97 = some (.putfield 45, 3, [0, 15, 1100, 0], .null) := by decide +kernel
theorem w0_97 : Wp d 0 97 [l0] (v :: .ref a :: st) h Q = pP (h.2 a) 0 15 (ftOf 0 15) v a (fun c => Wp d 0 100 [l0] st (hset h a c) Q) := W_put f0_97 (by rfl)
theorem f0_100 : fetch 0 100 = some (.aload_n 0, 1, [], .null) := by decide +kernel
theorem w0_100 : Wp d 0 100 [some (.ref a)] st h Q = Wp d 0 101 [some (.ref a)] (.ref a :: st) h Q := W_go f0_100 rfl
theorem f0_101 : fetch 0 101 = some (.bipush 100, 2, [], .null) := by decide +kernel
theorem w0_101 : Wp d 0 101 [l0] st h Q = Wp d 0 103 [l0] (.int (100 : Int32) :: st) h Q := W_go f0_101 rfl
theorem f0_103 : fetch 0 103 = some (.newarray .int, 2, [0, 1141], .null) := by decide +kernel
theorem w0_103 (hx : ¬ x < 0 ∧ x.toNatClampNeg ≤ 60000) : Wp d 0 103 [l0] (.int x :: st) h Q = Wp d 0 105 [l0] (.ref h.1.1 :: st) (hnew h x.toNatClampNeg (.inl (0, arr0 0 x.toNatClampNeg))) Q := W_go f0_103 (by simp only [pstep, pnewa, if_pos hx]; rfl)
theorem f0_105 : fetch 0 105 = some (.putfield 48, 3, [0, 16, 1103, 0], .null) := by decide +kernel
theorem w0_105 : Wp d 0 105 [l0] (v :: .ref a :: st) h Q = pP (h.2 a) 0 16 (ftOf 0 16) v a (fun c => Wp d 0 108 [l0] st (hset h a c) Q) := W_put f0_105 (by rfl)
theorem f0_108 : fetch 0 108 = some (.return_, 1, [], .null) := by decide +kernel
theorem w0_108 : Wp d 0 108 [l0] [] h Q = Q (.inl none, h) := W_fin f0_108 rfl
theorem hm1 : mhs 1 = [] := by decide +kernel
theorem f1_0 : fetch 1 0 = some (.aload_n 0, 1, [], .null) := by decide +kernel
theorem w1_0 : Wp d 1 0 [some (.ref a)] st h Q = Wp d 1 1 [some (.ref a)] (.ref a :: st) h Q := W_go f1_0 rfl
theorem f1_1 : fetch 1 1 = some (.iconst 0, 1, [], .null) := by decide +kernel
theorem w1_1 : Wp d 1 1 [l0] st h Q = Wp d 1 2 [l0] (.int (0 : Int32) :: st) h Q := W_go f1_1 rfl
theorem f1_2 : fetch 1 2 = some (.putfield 51, 3, [0, 0, 1054, 0], .null) := by decide +kernel
theorem w1_2 : Wp d 1 2 [l0] (v :: .ref a :: st) h Q = pP (h.2 a) 0 0 (ftOf 0 0) v a (fun c => Wp d 1 5 [l0] st (hset h a c) Q) := W_put f1_2 (by rfl)
theorem f1_5 : fetch 1 5 = some (.aload_n 0, 1, [], .null) := by decide +kernel
theorem w1_5 : Wp d 1 5 [some (.ref a)] st h Q = Wp d 1 6 [some (.ref a)] (.ref a :: st) h Q := W_go f1_5 rfl
theorem f1_6 : fetch 1 6 = some (.iconst 0, 1, [], .null) := by decide +kernel
theorem w1_6 : Wp d 1 6 [l0] st h Q = Wp d 1 7 [l0] (.int (0 : Int32) :: st) h Q := W_go f1_6 rfl
theorem f1_7 : fetch 1 7 = some (.putfield 55, 3, [0, 1, 1058, 0], .null) := by decide +kernel
theorem w1_7 : Wp d 1 7 [l0] (v :: .ref a :: st) h Q = pP (h.2 a) 0 1 (ftOf 0 1) v a (fun c => Wp d 1 10 [l0] st (hset h a c) Q) := W_put f1_7 (by rfl)
theorem f1_10 : fetch 1 10 = some (.aload_n 0, 1, [], .null) := by decide +kernel
theorem w1_10 : Wp d 1 10 [some (.ref a)] st h Q = Wp d 1 11 [some (.ref a)] (.ref a :: st) h Q := W_go f1_10 rfl
theorem f1_11 : fetch 1 11 = some (.iconst 0, 1, [], .null) := by decide +kernel
theorem w1_11 : Wp d 1 11 [l0] st h Q = Wp d 1 12 [l0] (.int (0 : Int32) :: st) h Q := W_go f1_11 rfl
theorem f1_12 : fetch 1 12 = some (.putfield 58, 3, [0, 2, 1061, 0], .null) := by decide +kernel
theorem w1_12 : Wp d 1 12 [l0] (v :: .ref a :: st) h Q = pP (h.2 a) 0 2 (ftOf 0 2) v a (fun c => Wp d 1 15 [l0] st (hset h a c) Q) := W_put f1_12 (by rfl)
theorem f1_15 : fetch 1 15 = some (.aload_n 0, 1, [], .null) := by decide +kernel
theorem w1_15 : Wp d 1 15 [some (.ref a)] st h Q = Wp d 1 16 [some (.ref a)] (.ref a :: st) h Q := W_go f1_15 rfl
theorem f1_16 : fetch 1 16 = some (.iconst 0, 1, [], .null) := by decide +kernel
theorem w1_16 : Wp d 1 16 [l0] st h Q = Wp d 1 17 [l0] (.int (0 : Int32) :: st) h Q := W_go f1_16 rfl
theorem f1_17 : fetch 1 17 = some (.putfield 61, 3, [0, 3, 1064, 0], .null) := by decide +kernel
theorem w1_17 : Wp d 1 17 [l0] (v :: .ref a :: st) h Q = pP (h.2 a) 0 3 (ftOf 0 3) v a (fun c => Wp d 1 20 [l0] st (hset h a c) Q) := W_put f1_17 (by rfl)
theorem f1_20 : fetch 1 20 = some (.return_, 1, [], .null) := by decide +kernel
theorem w1_20 : Wp d 1 20 [l0] [] h Q = Q (.inl none, h) := W_fin f1_20 rfl
theorem hm2 : mhs 2 = [] := by decide +kernel
theorem f2_0 : fetch 2 0 = some (.aload_n 0, 1, [], .null) := by decide +kernel
theorem w2_0 : Wp d 2 0 [some (.ref a)] st h Q = Wp d 2 1 [some (.ref a)] (.ref a :: st) h Q := W_go f2_0 rfl
theorem f2_1 : fetch 2 1 = some (.invokespecial 3, 3, [9999, 2031, 1031, 1032], .null) := by decide +kernel
theorem w2_1 (hp : psum st ≤ 8 ∧ a ≠ 201) : Wp d 2 1 [l0] (.ref a :: st) h Q = Wp d 2 4 [l0] st h Q := W_go f2_1 (by simp only [pstep, if_pos hp]; rfl)
theorem f2_4 : fetch 2 4 = some (.return_, 1, [], .null) := by decide +kernel
theorem w2_4 : Wp d 2 4 [l0] [] h Q = Q (.inl none, h) := W_fin f2_4 rfl
theorem hm3 : mhs 3 = [] := by decide +kernel
theorem f3_0 : fetch 3 0 = some (.aload_n 0, 1, [], .null) := by decide +kernel
theorem w3_0 : Wp d 3 0 [some (.ref a), l1, l2] st h Q = Wp d 3 1 [some (.ref a), l1, l2] (.ref a :: st) h Q := W_go f3_0 rfl
theorem f3_1 : fetch 3 1 = some (.iload_n 1, 1, [], .null) := by decide +kernel
theorem w3_1 : Wp d 3 1 [l0, some (.int x), l2] st h Q = Wp d 3 2 [l0, some (.int x), l2] (.int x :: st) h Q := W_go f3_1 rfl
theorem f3_2 : fetch 3 2 = some (.putfield 9, 3, [1, 0, 2032, 0], .null) := by decide +kernel
theorem w3_2 : Wp d 3 2 [l0, l1, l2] (v :: .ref a :: st) h Q = pP (h.2 a) 1 0 (ftOf 1 0) v a (fun c => Wp d 3 5 [l0, l1, l2] st (hset h a c) Q) := W_put f3_2 (by rfl)
theorem f3_5 : fetch 3 5 = some (.aload_n 0, 1, [], .null) := by decide +kernel
theorem w3_5 : Wp d 3 5 [some (.ref a), l1, l2] st h Q = Wp d 3 6 [some (.ref a), l1, l2] (.ref a :: st) h Q := W_go f3_5 rfl
theorem f3_6 : fetch 3 6 = some (.iload_n 2, 1, [], .null) := by decide +kernel
theorem w3_6 : Wp d 3 6 [l0, l1, some (.int x)] st h Q = Wp d 3 7 [l0, l1, some (.int x)] (.int x :: st) h Q := W_go f3_6 rfl
theorem f3_7 : fetch 3 7 = some (.putfield 15, 3, [1, 1, 2035, 0], .null) := by decide +kernel
theorem w3_7 : Wp d 3 7 [l0, l1, l2] (v :: .ref a :: st) h Q = pP (h.2 a) 1 1 (ftOf 1 1) v a (fun c => Wp d 3 10 [l0, l1, l2] st (hset h a c) Q) := W_put f3_7 (by rfl)
theorem f3_10 : fetch 3 10 = some (.aload_n 0, 1, [], .null) := by decide +kernel
theorem w3_10 : Wp d 3 10 [some (.ref a), l1, l2] st h Q = Wp d 3 11 [some (.ref a), l1, l2] (.ref a :: st) h Q := W_go f3_10 rfl
theorem f3_11 : fetch 3 11 = some (.iload_n 2, 1, [], .null) := by decide +kernel
theorem w3_11 : Wp d 3 11 [l0, l1, some (.int x)] st h Q = Wp d 3 12 [l0, l1, some (.int x)] (.int x :: st) h Q := W_go f3_11 rfl
theorem f3_12 : fetch 3 12 = some (.putfield 18, 3, [1, 2, 2038, 0], .null) := by decide +kernel
theorem w3_12 : Wp d 3 12 [l0, l1, l2] (v :: .ref a :: st) h Q = pP (h.2 a) 1 2 (ftOf 1 2) v a (fun c => Wp d 3 15 [l0, l1, l2] st (hset h a c) Q) := W_put f3_12 (by rfl)
theorem f3_15 : fetch 3 15 = some (.aload_n 0, 1, [], .null) := by decide +kernel
theorem w3_15 : Wp d 3 15 [some (.ref a), l1, l2] st h Q = Wp d 3 16 [some (.ref a), l1, l2] (.ref a :: st) h Q := W_go f3_15 rfl
theorem f3_16 : fetch 3 16 = some (.bipush 10, 2, [], .null) := by decide +kernel
theorem w3_16 : Wp d 3 16 [l0, l1, l2] st h Q = Wp d 3 18 [l0, l1, l2] (.int (10 : Int32) :: st) h Q := W_go f3_16 rfl
theorem f3_18 : fetch 3 18 = some (.putfield 21, 3, [1, 3, 2041, 0], .null) := by decide +kernel
theorem w3_18 : Wp d 3 18 [l0, l1, l2] (v :: .ref a :: st) h Q = pP (h.2 a) 1 3 (ftOf 1 3) v a (fun c => Wp d 3 21 [l0, l1, l2] st (hset h a c) Q) := W_put f3_18 (by rfl)
theorem f3_21 : fetch 3 21 = some (.aload_n 0, 1, [], .null) := by decide +kernel
theorem w3_21 : Wp d 3 21 [some (.ref a), l1, l2] st h Q = Wp d 3 22 [some (.ref a), l1, l2] (.ref a :: st) h Q := W_go f3_21 rfl
theorem f3_22 : fetch 3 22 = some (.iconst 0, 1, [], .null) := by decide +kernel
theorem w3_22 : Wp d 3 22 [l0, l1, l2] st h Q = Wp d 3 23 [l0, l1, l2] (.int (0 : Int32) :: st) h Q := W_go f3_22 rfl
theorem f3_23 : fetch 3 23 = some (.putfield 24, 3, [1, 4, 2044, 0], .null) := by decide +kernel
theorem w3_23 : Wp d 3 23 [l0, l1, l2] (v :: .ref a :: st) h Q = pP (h.2 a) 1 4 (ftOf 1 4) v a (fun c => Wp d 3 26 [l0, l1, l2] st (hset h a c) Q) := W_put f3_23 (by rfl)
theorem f3_26 : fetch 3 26 = some (.aload_n 0, 1, [], .null) := by decide +kernel
theorem w3_26 : Wp d 3 26 [some (.ref a), l1, l2] st h Q = Wp d 3 27 [some (.ref a), l1, l2] (.ref a :: st) h Q := W_go f3_26 rfl
theorem f3_27 : fetch 3 27 = some (.iconst 0, 1, [], .null) := by decide +kernel
theorem w3_27 : Wp d 3 27 [l0, l1, l2] st h Q = Wp d 3 28 [l0, l1, l2] (.int (0 : Int32) :: st) h Q := W_go f3_27 rfl
theorem f3_28 : fetch 3 28 = some (.putfield 27, 3, [1, 5, 2045, 0], .null) := by decide +kernel
theorem w3_28 : Wp d 3 28 [l0, l1, l2] (v :: .ref a :: st) h Q = pP (h.2 a) 1 5 (ftOf 1 5) v a (fun c => Wp d 3 31 [l0, l1, l2] st (hset h a c) Q) := W_put f3_28 (by rfl)
theorem f3_31 : fetch 3 31 = some (.aload_n 0, 1, [], .null) := by decide +kernel
theorem w3_31 : Wp d 3 31 [some (.ref a), l1, l2] st h Q = Wp d 3 32 [some (.ref a), l1, l2] (.ref a :: st) h Q := W_go f3_31 rfl
theorem f3_32 : fetch 3 32 = some (.iconst 0, 1, [], .null) := by decide +kernel
theorem w3_32 : Wp d 3 32 [l0, l1, l2] st h Q = Wp d 3 33 [l0, l1, l2] (.int (0 : Int32) :: st) h Q := W_go f3_32 rfl
theorem f3_33 : fetch 3 33 = some (.putfield 30, 3, [1, 6, 2048, 0], .null) := by decide +kernel
theorem w3_33 : Wp d 3 33 [l0, l1, l2] (v :: .ref a :: st) h Q = pP (h.2 a) 1 6 (ftOf 1 6) v a (fun c => Wp d 3 36 [l0, l1, l2] st (hset h a c) Q) := W_put f3_33 (by rfl)
theorem f3_36 : fetch 3 36 = some (.return_, 1, [], .null) := by decide +kernel
theorem w3_36 : Wp d 3 36 [l0, l1, l2] [] h Q = Q (.inl none, h) := W_fin f3_36 rfl
theorem hm4 : mhs 4 = [] := by decide +kernel
theorem f4_0 : fetch 4 0 = some (.aload_n 0, 1, [], .null) := by decide +kernel
theorem w4_0 : Wp d 4 0 [some (.ref a), l1] st h Q = Wp d 4 1 [some (.ref a), l1] (.ref a :: st) h Q := W_go f4_0 rfl
theorem f4_1 : fetch 4 1 = some (.aload_n 1, 1, [], .null) := by decide +kernel
theorem w4_1 : Wp d 4 1 [l0, some (.ref a)] st h Q = Wp d 4 2 [l0, some (.ref a)] (.ref a :: st) h Q := W_go f4_1 rfl
theorem f4_2 : fetch 4 2 = some (.getfield 9, 3, [1, 0, 2032, 0], .null) := by decide +kernel
theorem w4_2 : Wp d 4 2 [l0, l1] (.ref a :: st) h Q = gP (h.2 a) 1 0 (fun w => Wp d 4 5 [l0, l1] (w :: st) h Q) := W_get f4_2 rfl
theorem f4_5 : fetch 4 5 = some (.putfield 9, 3, [1, 0, 2032, 0], .null) := by decide +kernel
theorem w4_5 : Wp d 4 5 [l0, l1] (v :: .ref a :: st) h Q = pP (h.2 a) 1 0 (ftOf 1 0) v a (fun c => Wp d 4 8 [l0, l1] st (hset h a c) Q) := W_put f4_5 (by rfl)
theorem f4_8 : fetch 4 8 = some (.aload_n 0, 1, [], .null) := by decide +kernel
theorem w4_8 : Wp d 4 8 [some (.ref a), l1] st h Q = Wp d 4 9 [some (.ref a), l1] (.ref a :: st) h Q := W_go f4_8 rfl
theorem f4_9 : fetch 4 9 = some (.aload_n 1, 1, [], .null) := by decide +kernel
theorem w4_9 : Wp d 4 9 [l0, some (.ref a)] st h Q = Wp d 4 10 [l0, some (.ref a)] (.ref a :: st) h Q := W_go f4_9 rfl
theorem f4_10 : fetch 4 10 = some (.getfield 15, 3, [1, 1, 2035, 0], .null) := by decide +kernel
theorem w4_10 : Wp d 4 10 [l0, l1] (.ref a :: st) h Q = gP (h.2 a) 1 1 (fun w => Wp d 4 13 [l0, l1] (w :: st) h Q) := W_get f4_10 rfl
theorem f4_13 : fetch 4 13 = some (.putfield 15, 3, [1, 1, 2035, 0], .null) := by decide +kernel
theorem w4_13 : Wp d 4 13 [l0, l1] (v :: .ref a :: st) h Q = pP (h.2 a) 1 1 (ftOf 1 1) v a (fun c => Wp d 4 16 [l0, l1] st (hset h a c) Q) := W_put f4_13 (by rfl)
theorem f4_16 : fetch 4 16 = some (.aload_n 0, 1, [], .null) := by decide +kernel
theorem w4_16 : Wp d 4 16 [some (.ref a), l1] st h Q = Wp d 4 17 [some (.ref a), l1] (.ref a :: st) h Q := W_go f4_16 rfl
theorem f4_17 : fetch 4 17 = some (.aload_n 1, 1, [], .null) := by decide +kernel
theorem w4_17 : Wp d 4 17 [l0, some (.ref a)] st h Q = Wp d 4 18 [l0, some (.ref a)] (.ref a :: st) h Q := W_go f4_17 rfl
theorem f4_18 : fetch 4 18 = some (.getfield 18, 3, [1, 2, 2038, 0], .null) := by decide +kernel
theorem w4_18 : Wp d 4 18 [l0, l1] (.ref a :: st) h Q = gP (h.2 a) 1 2 (fun w => Wp d 4 21 [l0, l1] (w :: st) h Q) := W_get f4_18 rfl
theorem f4_21 : fetch 4 21 = some (.putfield 18, 3, [1, 2, 2038, 0], .null) := by decide +kernel
theorem w4_21 : Wp d 4 21 [l0, l1] (v :: .ref a :: st) h Q = pP (h.2 a) 1 2 (ftOf 1 2) v a (fun c => Wp d 4 24 [l0, l1] st (hset h a c) Q) := W_put f4_21 (by rfl)
theorem f4_24 : fetch 4 24 = some (.aload_n 0, 1, [], .null) := by decide +kernel
theorem w4_24 : Wp d 4 24 [some (.ref a), l1] st h Q = Wp d 4 25 [some (.ref a), l1] (.ref a :: st) h Q := W_go f4_24 rfl
theorem f4_25 : fetch 4 25 = some (.aload_n 1, 1, [], .null) := by decide +kernel
theorem w4_25 : Wp d 4 25 [l0, some (.ref a)] st h Q = Wp d 4 26 [l0, some (.ref a)] (.ref a :: st) h Q := W_go f4_25 rfl
theorem f4_26 : fetch 4 26 = some (.getfield 21, 3, [1, 3, 2041, 0], .null) := by decide +kernel
theorem w4_26 : Wp d 4 26 [l0, l1] (.ref a :: st) h Q = gP (h.2 a) 1 3 (fun w => Wp d 4 29 [l0, l1] (w :: st) h Q) := W_get f4_26 rfl
theorem f4_29 : fetch 4 29 = some (.putfield 21, 3, [1, 3, 2041, 0], .null) := by decide +kernel
theorem w4_29 : Wp d 4 29 [l0, l1] (v :: .ref a :: st) h Q = pP (h.2 a) 1 3 (ftOf 1 3) v a (fun c => Wp d 4 32 [l0, l1] st (hset h a c) Q) := W_put f4_29 (by rfl)
theorem f4_32 : fetch 4 32 = some (.aload_n 0, 1, [], .null) := by decide +kernel
theorem w4_32 : Wp d 4 32 [some (.ref a), l1] st h Q = Wp d 4 33 [some (.ref a), l1] (.ref a :: st) h Q := W_go f4_32 rfl
theorem f4_33 : fetch 4 33 = some (.aload_n 1, 1, [], .null) := by decide +kernel
theorem w4_33 : Wp d 4 33 [l0, some (.ref a)] st h Q = Wp d 4 34 [l0, some (.ref a)] (.ref a :: st) h Q := W_go f4_33 rfl
theorem f4_34 : fetch 4 34 = some (.getfield 24, 3, [1, 4, 2044, 0], .null) := by decide +kernel
theorem w4_34 : Wp d 4 34 [l0, l1] (.ref a :: st) h Q = gP (h.2 a) 1 4 (fun w => Wp d 4 37 [l0, l1] (w :: st) h Q) := W_get f4_34 rfl
theorem f4_37 : fetch 4 37 = some (.putfield 24, 3, [1, 4, 2044, 0], .null) := by decide +kernel
theorem w4_37 : Wp d 4 37 [l0, l1] (v :: .ref a :: st) h Q = pP (h.2 a) 1 4 (ftOf 1 4) v a (fun c => Wp d 4 40 [l0, l1] st (hset h a c) Q) := W_put f4_37 (by rfl)
theorem f4_40 : fetch 4 40 = some (.aload_n 0, 1, [], .null) := by decide +kernel
theorem w4_40 : Wp d 4 40 [some (.ref a), l1] st h Q = Wp d 4 41 [some (.ref a), l1] (.ref a :: st) h Q := W_go f4_40 rfl
theorem f4_41 : fetch 4 41 = some (.aload_n 1, 1, [], .null) := by decide +kernel
theorem w4_41 : Wp d 4 41 [l0, some (.ref a)] st h Q = Wp d 4 42 [l0, some (.ref a)] (.ref a :: st) h Q := W_go f4_41 rfl
theorem f4_42 : fetch 4 42 = some (.getfield 27, 3, [1, 5, 2045, 0], .null) := by decide +kernel
theorem w4_42 : Wp d 4 42 [l0, l1] (.ref a :: st) h Q = gP (h.2 a) 1 5 (fun w => Wp d 4 45 [l0, l1] (w :: st) h Q) := W_get f4_42 rfl
theorem f4_45 : fetch 4 45 = some (.putfield 27, 3, [1, 5, 2045, 0], .null) := by decide +kernel
theorem w4_45 : Wp d 4 45 [l0, l1] (v :: .ref a :: st) h Q = pP (h.2 a) 1 5 (ftOf 1 5) v a (fun c => Wp d 4 48 [l0, l1] st (hset h a c) Q) := W_put f4_45 (by rfl)
theorem f4_48 : fetch 4 48 = some (.aload_n 0, 1, [], .null) := by decide +kernel
theorem w4_48 : Wp d 4 48 [some (.ref a), l1] st h Q = Wp d 4 49 [some (.ref a), l1] (.ref a :: st) h Q := W_go f4_48 rfl
theorem f4_49 : fetch 4 49 = some (.aload_n 1, 1, [], .null) := by decide +kernel
theorem w4_49 : Wp d 4 49 [l0, some (.ref a)] st h Q = Wp d 4 50 [l0, some (.ref a)] (.ref a :: st) h Q := W_go f4_49 rfl
theorem f4_50 : fetch 4 50 = some (.getfield 30, 3, [1, 6, 2048, 0], .null) := by decide +kernel
theorem w4_50 : Wp d 4 50 [l0, l1] (.ref a :: st) h Q = gP (h.2 a) 1 6 (fun w => Wp d 4 53 [l0, l1] (w :: st) h Q) := W_get f4_50 rfl
theorem f4_53 : fetch 4 53 = some (.putfield 30, 3, [1, 6, 2048, 0], .null) := by decide +kernel
theorem w4_53 : Wp d 4 53 [l0, l1] (v :: .ref a :: st) h Q = pP (h.2 a) 1 6 (ftOf 1 6) v a (fun c => Wp d 4 56 [l0, l1] st (hset h a c) Q) := W_put f4_53 (by rfl)
theorem f4_56 : fetch 4 56 = some (.return_, 1, [], .null) := by decide +kernel
theorem w4_56 : Wp d 4 56 [l0, l1] [] h Q = Q (.inl none, h) := W_fin f4_56 rfl
theorem hm5 : mhs 5 = [] := by decide +kernel
theorem f5_0 : fetch 5 0 = some (.aload_n 0, 1, [], .null) := by decide +kernel
theorem w5_0 : Wp d 5 0 [some (.ref a)] st h Q = Wp d 5 1 [some (.ref a)] (.ref a :: st) h Q := W_go f5_0 rfl
theorem f5_1 : fetch 5 1 = some (.aload_n 0, 1, [], .null) := by decide +kernel
theorem w5_1 : Wp d 5 1 [some (.ref a)] st h Q = Wp d 5 2 [some (.ref a)] (.ref a :: st) h Q := W_go f5_1 rfl
theorem f5_2 : fetch 5 2 = some (.getfield 18, 3, [1, 2, 2038, 0], .null) := by decide +kernel
theorem w5_2 : Wp d 5 2 [l0] (.ref a :: st) h Q = gP (h.2 a) 1 2 (fun w => Wp d 5 5 [l0] (w :: st) h Q) := W_get f5_2 rfl
theorem f5_5 : fetch 5 5 = some (.ifCond .le 14, 3, [], .null) := by decide +kernel
theorem w5_5 : Wp d 5 5 [l0] (.int x :: st) h Q = if icond .le x 0 = true then Wp d 5 19 [l0] st h Q else Wp d 5 8 [l0] st h Q := W_if f5_5 rfl
theorem f5_8 : fetch 5 8 = some (.aload_n 0, 1, [], .null) := by decide +kernel
theorem w5_8 : Wp d 5 8 [some (.ref a)] st h Q = Wp d 5 9 [some (.ref a)] (.ref a :: st) h Q := W_go f5_8 rfl
theorem f5_9 : fetch 5 9 = some (.getfield 21, 3, [1, 3, 2041, 0], .null) := by decide +kernel
theorem w5_9 : Wp d 5 9 [l0] (.ref a :: st) h Q = gP (h.2 a) 1 3 (fun w => Wp d 5 12 [l0] (w :: st) h Q) := W_get f5_9 rfl
theorem f5_12 : fetch 5 12 = some (.ifCond .le 7, 3, [], .null) := by decide +kernel
theorem w5_12 : Wp d 5 12 [l0] (.int x :: st) h Q = if icond .le x 0 = true then Wp d 5 19 [l0] st h Q else Wp d 5 15 [l0] st h Q := W_if f5_12 rfl
theorem f5_15 : fetch 5 15 = some (.iconst 1, 1, [], .null) := by decide +kernel
theorem w5_15 : Wp d 5 15 [l0] st h Q = Wp d 5 16 [l0] (.int (1 : Int32) :: st) h Q := W_go f5_15 rfl
theorem f5_16 : fetch 5 16 = some (.goto 4, 3, [], .null) := by decide +kernel
theorem w5_16 : Wp d 5 16 [l0] st h Q = Wp d 5 20 [l0] st h Q := W_go f5_16 rfl
theorem f5_19 : fetch 5 19 = some (.iconst 0, 1, [], .null) := by decide +kernel
theorem w5_19 : Wp d 5 19 [l0] st h Q = Wp d 5 20 [l0] (.int (0 : Int32) :: st) h Q := W_go f5_19 rfl
theorem f5_20 : fetch 5 20 = some (.putfield 30, 3, [1, 6, 2048, 0], .null) := by decide +kernel
theorem w5_20 : Wp d 5 20 [l0] (v :: .ref a :: st) h Q = pP (h.2 a) 1 6 (ftOf 1 6) v a (fun c => Wp d 5 23 [l0] st (hset h a c) Q) := W_put f5_20 (by rfl)
theorem f5_23 : fetch 5 23 = some (.return_, 1, [], .null) := by decide +kernel
theorem w5_23 : Wp d 5 23 [l0] [] h Q = Q (.inl none, h) := W_fin f5_23 rfl
theorem hm6 : mhs 6 = [] := by decide +kernel
theorem hr6 : mret 6 = (some .int) := by decide +kernel
theorem f6_0 : fetch 6 0 = some (.iconst 0, 1, [], .null) := by decide +kernel
theorem w6_0 : Wp d 6 0 [l0, l1] st h Q = Wp d 6 1 [l0, l1] (.int (0 : Int32) :: st) h Q := W_go f6_0 rfl
theorem f6_1 : fetch 6 1 = some (.istore_n 1, 1, [], .null) := by decide +kernel
theorem w6_1 : Wp d 6 1 [l0, l1] (.int x :: st) h Q = Wp d 6 2 [kl l0, some (.int x)] st h Q := (W_st1 (pc' := 2) (k := 1) f6_1 rfl rfl (by simp only [List.length_cons, List.length_nil]; omega)).trans (by rw [pst1_succ]; rfl)
theorem f6_2 : fetch 6 2 = some (.aload_n 0, 1, [], .null) := by decide +kernel
theorem w6_2 : Wp d 6 2 [some (.ref a), l1] st h Q = Wp d 6 3 [some (.ref a), l1] (.ref a :: st) h Q := W_go f6_2 rfl
theorem f6_3 : fetch 6 3 = some (.dup, 1, [], .null) := by decide +kernel
theorem w6_3i : Wp d 6 3 [l0, l1] (.int x :: st) h Q = Wp d 6 4 [l0, l1] (.int x :: .int x :: st) h Q := W_go f6_3 rfl
theorem w6_3 : Wp d 6 3 [l0, l1] (.ref a :: st) h Q = Wp d 6 4 [l0, l1] (.ref a :: .ref a :: st) h Q := W_go f6_3 rfl
theorem f6_4 : fetch 6 4 = some (.getfield 24, 3, [1, 4, 2044, 0], .null) := by decide +kernel
theorem w6_4 : Wp d 6 4 [l0, l1] (.ref a :: st) h Q = gP (h.2 a) 1 4 (fun w => Wp d 6 7 [l0, l1] (w :: st) h Q) := W_get f6_4 rfl
theorem f6_7 : fetch 6 7 = some (.iconst 1, 1, [], .null) := by decide +kernel
theorem w6_7 : Wp d 6 7 [l0, l1] st h Q = Wp d 6 8 [l0, l1] (.int (1 : Int32) :: st) h Q := W_go f6_7 rfl
theorem f6_8 : fetch 6 8 = some (.iadd, 1, [], .null) := by decide +kernel
theorem w6_8 : Wp d 6 8 [l0, l1] (.int y :: .int x :: st) h Q = Wp d 6 9 [l0, l1] (.int (x + y) :: st) h Q := W_go f6_8 rfl
theorem f6_9 : fetch 6 9 = some (.putfield 24, 3, [1, 4, 2044, 0], .null) := by decide +kernel
theorem w6_9 : Wp d 6 9 [l0, l1] (v :: .ref a :: st) h Q = pP (h.2 a) 1 4 (ftOf 1 4) v a (fun c => Wp d 6 12 [l0, l1] st (hset h a c) Q) := W_put f6_9 (by rfl)
theorem f6_12 : fetch 6 12 = some (.aload_n 0, 1, [], .null) := by decide +kernel
theorem w6_12 : Wp d 6 12 [some (.ref a), l1] st h Q = Wp d 6 13 [some (.ref a), l1] (.ref a :: st) h Q := W_go f6_12 rfl
theorem f6_13 : fetch 6 13 = some (.getfield 24, 3, [1, 4, 2044, 0], .null) := by decide +kernel
theorem w6_13 : Wp d 6 13 [l0, l1] (.ref a :: st) h Q = gP (h.2 a) 1 4 (fun w => Wp d 6 16 [l0, l1] (w :: st) h Q) := W_get f6_13 rfl
theorem f6_16 : fetch 6 16 = some (.iconst 2, 1, [], .null) := by decide +kernel
theorem w6_16 : Wp d 6 16 [l0, l1] st h Q = Wp d 6 17 [l0, l1] (.int (2 : Int32) :: st) h Q := W_go f6_16 rfl
theorem f6_17 : fetch 6 17 = some (.irem, 1, [], .null) := by decide +kernel
theorem w6_17 (hy : y ≠ 0) : Wp d 6 17 [l0, l1] (.int y :: .int x :: st) h Q = Wp d 6 18 [l0, l1] (.int (x - x / y * y) :: st) h Q := W_go f6_17 (by simp only [pstep, pint2, if_neg hy, pgo])
theorem f6_18 : fetch 6 18 = some (.ifCond .ne 15, 3, [], .null) := by decide +kernel
theorem w6_18 : Wp d 6 18 [l0, l1] (.int x :: st) h Q = if icond .ne x 0 = true then Wp d 6 33 [l0, l1] st h Q else Wp d 6 21 [l0, l1] st h Q := W_if f6_18 rfl
theorem f6_21 : fetch 6 21 = some (.iconst 1, 1, [], .null) := by decide +kernel
theorem w6_21 : Wp d 6 21 [l0, l1] st h Q = Wp d 6 22 [l0, l1] (.int (1 : Int32) :: st) h Q := W_go f6_21 rfl
theorem f6_22 : fetch 6 22 = some (.istore_n 1, 1, [], .null) := by decide +kernel
theorem w6_22 : Wp d 6 22 [l0, l1] (.int x :: st) h Q = Wp d 6 23 [kl l0, some (.int x)] st h Q := (W_st1 (pc' := 23) (k := 1) f6_22 rfl rfl (by simp only [List.length_cons, List.length_nil]; omega)).trans (by rw [pst1_succ]; rfl)
theorem f6_23 : fetch 6 23 = some (.aload_n 0, 1, [], .null) := by decide +kernel
theorem w6_23 : Wp d 6 23 [some (.ref a), l1] st h Q = Wp d 6 24 [some (.ref a), l1] (.ref a :: st) h Q := W_go f6_23 rfl
theorem f6_24 : fetch 6 24 = some (.dup, 1, [], .null) := by decide +kernel
theorem w6_24i : Wp d 6 24 [l0, l1] (.int x :: st) h Q = Wp d 6 25 [l0, l1] (.int x :: .int x :: st) h Q := W_go f6_24 rfl
theorem w6_24 : Wp d 6 24 [l0, l1] (.ref a :: st) h Q = Wp d 6 25 [l0, l1] (.ref a :: .ref a :: st) h Q := W_go f6_24 rfl
theorem f6_25 : fetch 6 25 = some (.getfield 18, 3, [1, 2, 2038, 0], .null) := by decide +kernel
theorem w6_25 : Wp d 6 25 [l0, l1] (.ref a :: st) h Q = gP (h.2 a) 1 2 (fun w => Wp d 6 28 [l0, l1] (w :: st) h Q) := W_get f6_25 rfl
theorem f6_28 : fetch 6 28 = some (.iconst 1, 1, [], .null) := by decide +kernel
theorem w6_28 : Wp d 6 28 [l0, l1] st h Q = Wp d 6 29 [l0, l1] (.int (1 : Int32) :: st) h Q := W_go f6_28 rfl
theorem f6_29 : fetch 6 29 = some (.isub, 1, [], .null) := by decide +kernel
theorem w6_29 : Wp d 6 29 [l0, l1] (.int y :: .int x :: st) h Q = Wp d 6 30 [l0, l1] (.int (x - y) :: st) h Q := W_go f6_29 rfl
theorem f6_30 : fetch 6 30 = some (.putfield 18, 3, [1, 2, 2038, 0], .null) := by decide +kernel
theorem w6_30 : Wp d 6 30 [l0, l1] (v :: .ref a :: st) h Q = pP (h.2 a) 1 2 (ftOf 1 2) v a (fun c => Wp d 6 33 [l0, l1] st (hset h a c) Q) := W_put f6_30 (by rfl)
theorem f6_33 : fetch 6 33 = some (.aload_n 0, 1, [], .null) := by decide +kernel
theorem w6_33 : Wp d 6 33 [some (.ref a), l1] st h Q = Wp d 6 34 [some (.ref a), l1] (.ref a :: st) h Q := W_go f6_33 rfl
theorem f6_34 : fetch 6 34 = some (.getfield 24, 3, [1, 4, 2044, 0], .null) := by decide +kernel
theorem w6_34 : Wp d 6 34 [l0, l1] (.ref a :: st) h Q = gP (h.2 a) 1 4 (fun w => Wp d 6 37 [l0, l1] (w :: st) h Q) := W_get f6_34 rfl
theorem f6_37 : fetch 6 37 = some (.iconst 4, 1, [], .null) := by decide +kernel
theorem w6_37 : Wp d 6 37 [l0, l1] st h Q = Wp d 6 38 [l0, l1] (.int (4 : Int32) :: st) h Q := W_go f6_37 rfl
theorem f6_38 : fetch 6 38 = some (.irem, 1, [], .null) := by decide +kernel
theorem w6_38 (hy : y ≠ 0) : Wp d 6 38 [l0, l1] (.int y :: .int x :: st) h Q = Wp d 6 39 [l0, l1] (.int (x - x / y * y) :: st) h Q := W_go f6_38 (by simp only [pstep, pint2, if_neg hy, pgo])
theorem f6_39 : fetch 6 39 = some (.ifCond .ne 13, 3, [], .null) := by decide +kernel
theorem w6_39 : Wp d 6 39 [l0, l1] (.int x :: st) h Q = if icond .ne x 0 = true then Wp d 6 52 [l0, l1] st h Q else Wp d 6 42 [l0, l1] st h Q := W_if f6_39 rfl
theorem f6_42 : fetch 6 42 = some (.aload_n 0, 1, [], .null) := by decide +kernel
theorem w6_42 : Wp d 6 42 [some (.ref a), l1] st h Q = Wp d 6 43 [some (.ref a), l1] (.ref a :: st) h Q := W_go f6_42 rfl
theorem f6_43 : fetch 6 43 = some (.dup, 1, [], .null) := by decide +kernel
theorem w6_43i : Wp d 6 43 [l0, l1] (.int x :: st) h Q = Wp d 6 44 [l0, l1] (.int x :: .int x :: st) h Q := W_go f6_43 rfl
theorem w6_43 : Wp d 6 43 [l0, l1] (.ref a :: st) h Q = Wp d 6 44 [l0, l1] (.ref a :: .ref a :: st) h Q := W_go f6_43 rfl
theorem f6_44 : fetch 6 44 = some (.getfield 21, 3, [1, 3, 2041, 0], .null) := by decide +kernel
theorem w6_44 : Wp d 6 44 [l0, l1] (.ref a :: st) h Q = gP (h.2 a) 1 3 (fun w => Wp d 6 47 [l0, l1] (w :: st) h Q) := W_get f6_44 rfl
theorem f6_47 : fetch 6 47 = some (.iconst 1, 1, [], .null) := by decide +kernel
theorem w6_47 : Wp d 6 47 [l0, l1] st h Q = Wp d 6 48 [l0, l1] (.int (1 : Int32) :: st) h Q := W_go f6_47 rfl
theorem f6_48 : fetch 6 48 = some (.isub, 1, [], .null) := by decide +kernel
theorem w6_48 : Wp d 6 48 [l0, l1] (.int y :: .int x :: st) h Q = Wp d 6 49 [l0, l1] (.int (x - y) :: st) h Q := W_go f6_48 rfl
theorem f6_49 : fetch 6 49 = some (.putfield 21, 3, [1, 3, 2041, 0], .null) := by decide +kernel
theorem w6_49 : Wp d 6 49 [l0, l1] (v :: .ref a :: st) h Q = pP (h.2 a) 1 3 (ftOf 1 3) v a (fun c => Wp d 6 52 [l0, l1] st (hset h a c) Q) := W_put f6_49 (by rfl)
theorem f6_52 : fetch 6 52 = some (.aload_n 0, 1, [], .null) := by decide +kernel
theorem w6_52 : Wp d 6 52 [some (.ref a), l1] st h Q = Wp d 6 53 [some (.ref a), l1] (.ref a :: st) h Q := W_go f6_52 rfl
theorem f6_53 : fetch 6 53 = some (.getfield 18, 3, [1, 2, 2038, 0], .null) := by decide +kernel
theorem w6_53 : Wp d 6 53 [l0, l1] (.ref a :: st) h Q = gP (h.2 a) 1 2 (fun w => Wp d 6 56 [l0, l1] (w :: st) h Q) := W_get f6_53 rfl
theorem f6_56 : fetch 6 56 = some (.ifCond .le 10, 3, [], .null) := by decide +kernel
theorem w6_56 : Wp d 6 56 [l0, l1] (.int x :: st) h Q = if icond .le x 0 = true then Wp d 6 66 [l0, l1] st h Q else Wp d 6 59 [l0, l1] st h Q := W_if f6_56 rfl
theorem f6_59 : fetch 6 59 = some (.aload_n 0, 1, [], .null) := by decide +kernel
theorem w6_59 : Wp d 6 59 [some (.ref a), l1] st h Q = Wp d 6 60 [some (.ref a), l1] (.ref a :: st) h Q := W_go f6_59 rfl
theorem f6_60 : fetch 6 60 = some (.getfield 21, 3, [1, 3, 2041, 0], .null) := by decide +kernel
theorem w6_60 : Wp d 6 60 [l0, l1] (.ref a :: st) h Q = gP (h.2 a) 1 3 (fun w => Wp d 6 63 [l0, l1] (w :: st) h Q) := W_get f6_60 rfl
theorem f6_63 : fetch 6 63 = some (.ifCond .gt 8, 3, [], .null) := by decide +kernel
theorem w6_63 : Wp d 6 63 [l0, l1] (.int x :: st) h Q = if icond .gt x 0 = true then Wp d 6 71 [l0, l1] st h Q else Wp d 6 66 [l0, l1] st h Q := W_if f6_63 rfl
theorem f6_66 : fetch 6 66 = some (.aload_n 0, 1, [], .null) := by decide +kernel
theorem w6_66 : Wp d 6 66 [some (.ref a), l1] st h Q = Wp d 6 67 [some (.ref a), l1] (.ref a :: st) h Q := W_go f6_66 rfl
theorem f6_67 : fetch 6 67 = some (.iconst 0, 1, [], .null) := by decide +kernel
theorem w6_67 : Wp d 6 67 [l0, l1] st h Q = Wp d 6 68 [l0, l1] (.int (0 : Int32) :: st) h Q := W_go f6_67 rfl
theorem f6_68 : fetch 6 68 = some (.putfield 30, 3, [1, 6, 2048, 0], .null) := by decide +kernel
theorem w6_68 : Wp d 6 68 [l0, l1] (v :: .ref a :: st) h Q = pP (h.2 a) 1 6 (ftOf 1 6) v a (fun c => Wp d 6 71 [l0, l1] st (hset h a c) Q) := W_put f6_68 (by rfl)
theorem f6_71 : fetch 6 71 = some (.iload_n 1, 1, [], .null) := by decide +kernel
theorem w6_71 : Wp d 6 71 [l0, some (.int x)] st h Q = Wp d 6 72 [l0, some (.int x)] (.int x :: st) h Q := W_go f6_71 rfl
theorem f6_72 : fetch 6 72 = some (.ireturn, 1, [], .null) := by decide +kernel
theorem w6_72 : Wp d 6 72 [l0, l1] [.int x] h Q = Q (.inl (some (.int x)), h) := W_iret f6_72 hr6
theorem hm7 : mhs 7 = [] := by decide +kernel
theorem f7_0 : fetch 7 0 = some (.lload_n 1, 1, [], .null) := by decide +kernel
theorem w7_0 : Wp d 7 0 [l0, some (.long x8), l2, l3, l4] st h Q = Wp d 7 1 [l0, some (.long x8), l2, l3, l4] (.long x8 :: st) h Q := W_go f7_0 rfl
theorem f7_1 : fetch 7 1 = some (.ldc2_w 34, 3, [3209], .long (31)) := by decide +kernel
theorem w7_1 : Wp d 7 1 [l0, l1, l2, l3, l4] st h Q = Wp d 7 4 [l0, l1, l2, l3, l4] ((.long (31)) :: st) h Q := W_go f7_1 rfl
theorem f7_4 : fetch 7 4 = some (.lmul, 1, [], .null) := by decide +kernel
theorem w7_4 : Wp d 7 4 [l0, l1, l2, l3, l4] (.long y8 :: .long x8 :: st) h Q = Wp d 7 5 [l0, l1, l2, l3, l4] (.long (x8 * y8) :: st) h Q := W_go f7_4 rfl
theorem f7_5 : fetch 7 5 = some (.aload_n 0, 1, [], .null) := by decide +kernel
theorem w7_5 : Wp d 7 5 [some (.ref a), l1, l2, l3, l4] st h Q = Wp d 7 6 [some (.ref a), l1, l2, l3, l4] (.ref a :: st) h Q := W_go f7_5 rfl
theorem f7_6 : fetch 7 6 = some (.getfield 9, 3, [1, 0, 2032, 0], .null) := by decide +kernel
theorem w7_6 : Wp d 7 6 [l0, l1, l2, l3, l4] (.ref a :: st) h Q = gP (h.2 a) 1 0 (fun w => Wp d 7 9 [l0, l1, l2, l3, l4] (w :: st) h Q) := W_get f7_6 rfl
theorem f7_9 : fetch 7 9 = some (.i2l, 1, [], .null) := by decide +kernel
theorem w7_9 : Wp d 7 9 [l0, l1, l2, l3, l4] (.int x :: st) h Q = Wp d 7 10 [l0, l1, l2, l3, l4] (.long x.toInt64 :: st) h Q := W_go f7_9 rfl
theorem f7_10 : fetch 7 10 = some (.ladd, 1, [], .null) := by decide +kernel
theorem w7_10 : Wp d 7 10 [l0, l1, l2, l3, l4] (.long y8 :: .long x8 :: st) h Q = Wp d 7 11 [l0, l1, l2, l3, l4] (.long (x8 + y8) :: st) h Q := W_go f7_10 rfl
theorem f7_11 : fetch 7 11 = some (.lstore_n 3, 1, [], .null) := by decide +kernel
theorem w7_11 : Wp d 7 11 [l0, l1, l2, l3, l4] (.long x8 :: st) h Q = Wp d 7 12 [l0, l1, kl l2, some (.long x8), none] st h Q := (W_st2 (pc' := 12) (k := 3) f7_11 rfl rfl (by simp only [List.length_cons, List.length_nil]; omega)).trans (by rw [pst2_succ]; rfl)
theorem f7_12 : fetch 7 12 = some (.lload_n 3, 1, [], .null) := by decide +kernel
theorem w7_12 : Wp d 7 12 [l0, l1, l2, some (.long x8), l4] st h Q = Wp d 7 13 [l0, l1, l2, some (.long x8), l4] (.long x8 :: st) h Q := W_go f7_12 rfl
theorem f7_13 : fetch 7 13 = some (.ldc2_w 34, 3, [3209], .long (31)) := by decide +kernel
theorem w7_13 : Wp d 7 13 [l0, l1, l2, l3, l4] st h Q = Wp d 7 16 [l0, l1, l2, l3, l4] ((.long (31)) :: st) h Q := W_go f7_13 rfl
theorem f7_16 : fetch 7 16 = some (.lmul, 1, [], .null) := by decide +kernel
theorem w7_16 : Wp d 7 16 [l0, l1, l2, l3, l4] (.long y8 :: .long x8 :: st) h Q = Wp d 7 17 [l0, l1, l2, l3, l4] (.long (x8 * y8) :: st) h Q := W_go f7_16 rfl
theorem f7_17 : fetch 7 17 = some (.aload_n 0, 1, [], .null) := by decide +kernel
theorem w7_17 : Wp d 7 17 [some (.ref a), l1, l2, l3, l4] st h Q = Wp d 7 18 [some (.ref a), l1, l2, l3, l4] (.ref a :: st) h Q := W_go f7_17 rfl
theorem f7_18 : fetch 7 18 = some (.getfield 15, 3, [1, 1, 2035, 0], .null) := by decide +kernel
theorem w7_18 : Wp d 7 18 [l0, l1, l2, l3, l4] (.ref a :: st) h Q = gP (h.2 a) 1 1 (fun w => Wp d 7 21 [l0, l1, l2, l3, l4] (w :: st) h Q) := W_get f7_18 rfl
theorem f7_21 : fetch 7 21 = some (.i2l, 1, [], .null) := by decide +kernel
theorem w7_21 : Wp d 7 21 [l0, l1, l2, l3, l4] (.int x :: st) h Q = Wp d 7 22 [l0, l1, l2, l3, l4] (.long x.toInt64 :: st) h Q := W_go f7_21 rfl
theorem f7_22 : fetch 7 22 = some (.ladd, 1, [], .null) := by decide +kernel
theorem w7_22 : Wp d 7 22 [l0, l1, l2, l3, l4] (.long y8 :: .long x8 :: st) h Q = Wp d 7 23 [l0, l1, l2, l3, l4] (.long (x8 + y8) :: st) h Q := W_go f7_22 rfl
theorem f7_23 : fetch 7 23 = some (.lstore_n 3, 1, [], .null) := by decide +kernel
theorem w7_23 : Wp d 7 23 [l0, l1, l2, l3, l4] (.long x8 :: st) h Q = Wp d 7 24 [l0, l1, kl l2, some (.long x8), none] st h Q := (W_st2 (pc' := 24) (k := 3) f7_23 rfl rfl (by simp only [List.length_cons, List.length_nil]; omega)).trans (by rw [pst2_succ]; rfl)
theorem f7_24 : fetch 7 24 = some (.lload_n 3, 1, [], .null) := by decide +kernel
theorem w7_24 : Wp d 7 24 [l0, l1, l2, some (.long x8), l4] st h Q = Wp d 7 25 [l0, l1, l2, some (.long x8), l4] (.long x8 :: st) h Q := W_go f7_24 rfl
theorem f7_25 : fetch 7 25 = some (.ldc2_w 34, 3, [3209], .long (31)) := by decide +kernel
theorem w7_25 : Wp d 7 25 [l0, l1, l2, l3, l4] st h Q = Wp d 7 28 [l0, l1, l2, l3, l4] ((.long (31)) :: st) h Q := W_go f7_25 rfl
theorem f7_28 : fetch 7 28 = some (.lmul, 1, [], .null) := by decide +kernel
theorem w7_28 : Wp d 7 28 [l0, l1, l2, l3, l4] (.long y8 :: .long x8 :: st) h Q = Wp d 7 29 [l0, l1, l2, l3, l4] (.long (x8 * y8) :: st) h Q := W_go f7_28 rfl
theorem f7_29 : fetch 7 29 = some (.aload_n 0, 1, [], .null) := by decide +kernel
theorem w7_29 : Wp d 7 29 [some (.ref a), l1, l2, l3, l4] st h Q = Wp d 7 30 [some (.ref a), l1, l2, l3, l4] (.ref a :: st) h Q := W_go f7_29 rfl
theorem f7_30 : fetch 7 30 = some (.getfield 18, 3, [1, 2, 2038, 0], .null) := by decide +kernel
theorem w7_30 : Wp d 7 30 [l0, l1, l2, l3, l4] (.ref a :: st) h Q = gP (h.2 a) 1 2 (fun w => Wp d 7 33 [l0, l1, l2, l3, l4] (w :: st) h Q) := W_get f7_30 rfl
theorem f7_33 : fetch 7 33 = some (.i2l, 1, [], .null) := by decide +kernel
theorem w7_33 : Wp d 7 33 [l0, l1, l2, l3, l4] (.int x :: st) h Q = Wp d 7 34 [l0, l1, l2, l3, l4] (.long x.toInt64 :: st) h Q := W_go f7_33 rfl
theorem f7_34 : fetch 7 34 = some (.ladd, 1, [], .null) := by decide +kernel
theorem w7_34 : Wp d 7 34 [l0, l1, l2, l3, l4] (.long y8 :: .long x8 :: st) h Q = Wp d 7 35 [l0, l1, l2, l3, l4] (.long (x8 + y8) :: st) h Q := W_go f7_34 rfl
theorem f7_35 : fetch 7 35 = some (.lstore_n 3, 1, [], .null) := by decide +kernel
theorem w7_35 : Wp d 7 35 [l0, l1, l2, l3, l4] (.long x8 :: st) h Q = Wp d 7 36 [l0, l1, kl l2, some (.long x8), none] st h Q := (W_st2 (pc' := 36) (k := 3) f7_35 rfl rfl (by simp only [List.length_cons, List.length_nil]; omega)).trans (by rw [pst2_succ]; rfl)
theorem f7_36 : fetch 7 36 = some (.lload_n 3, 1, [], .null) := by decide +kernel
theorem w7_36 : Wp d 7 36 [l0, l1, l2, some (.long x8), l4] st h Q = Wp d 7 37 [l0, l1, l2, some (.long x8), l4] (.long x8 :: st) h Q := W_go f7_36 rfl
theorem f7_37 : fetch 7 37 = some (.ldc2_w 34, 3, [3209], .long (31)) := by decide +kernel
theorem w7_37 : Wp d 7 37 [l0, l1, l2, l3, l4] st h Q = Wp d 7 40 [l0, l1, l2, l3, l4] ((.long (31)) :: st) h Q := W_go f7_37 rfl
theorem f7_40 : fetch 7 40 = some (.lmul, 1, [], .null) := by decide +kernel
theorem w7_40 : Wp d 7 40 [l0, l1, l2, l3, l4] (.long y8 :: .long x8 :: st) h Q = Wp d 7 41 [l0, l1, l2, l3, l4] (.long (x8 * y8) :: st) h Q := W_go f7_40 rfl
theorem f7_41 : fetch 7 41 = some (.aload_n 0, 1, [], .null) := by decide +kernel
theorem w7_41 : Wp d 7 41 [some (.ref a), l1, l2, l3, l4] st h Q = Wp d 7 42 [some (.ref a), l1, l2, l3, l4] (.ref a :: st) h Q := W_go f7_41 rfl
theorem f7_42 : fetch 7 42 = some (.getfield 21, 3, [1, 3, 2041, 0], .null) := by decide +kernel
theorem w7_42 : Wp d 7 42 [l0, l1, l2, l3, l4] (.ref a :: st) h Q = gP (h.2 a) 1 3 (fun w => Wp d 7 45 [l0, l1, l2, l3, l4] (w :: st) h Q) := W_get f7_42 rfl
theorem f7_45 : fetch 7 45 = some (.i2l, 1, [], .null) := by decide +kernel
theorem w7_45 : Wp d 7 45 [l0, l1, l2, l3, l4] (.int x :: st) h Q = Wp d 7 46 [l0, l1, l2, l3, l4] (.long x.toInt64 :: st) h Q := W_go f7_45 rfl
theorem f7_46 : fetch 7 46 = some (.ladd, 1, [], .null) := by decide +kernel
theorem w7_46 : Wp d 7 46 [l0, l1, l2, l3, l4] (.long y8 :: .long x8 :: st) h Q = Wp d 7 47 [l0, l1, l2, l3, l4] (.long (x8 + y8) :: st) h Q := W_go f7_46 rfl
theorem f7_47 : fetch 7 47 = some (.lstore_n 3, 1, [], .null) := by decide +kernel
theorem w7_47 : Wp d 7 47 [l0, l1, l2, l3, l4] (.long x8 :: st) h Q = Wp d 7 48 [l0, l1, kl l2, some (.long x8), none] st h Q := (W_st2 (pc' := 48) (k := 3) f7_47 rfl rfl (by simp only [List.length_cons, List.length_nil]; omega)).trans (by rw [pst2_succ]; rfl)
theorem f7_48 : fetch 7 48 = some (.lload_n 3, 1, [], .null) := by decide +kernel
theorem w7_48 : Wp d 7 48 [l0, l1, l2, some (.long x8), l4] st h Q = Wp d 7 49 [l0, l1, l2, some (.long x8), l4] (.long x8 :: st) h Q := W_go f7_48 rfl
theorem f7_49 : fetch 7 49 = some (.ldc2_w 34, 3, [3209], .long (31)) := by decide +kernel
theorem w7_49 : Wp d 7 49 [l0, l1, l2, l3, l4] st h Q = Wp d 7 52 [l0, l1, l2, l3, l4] ((.long (31)) :: st) h Q := W_go f7_49 rfl
theorem f7_52 : fetch 7 52 = some (.lmul, 1, [], .null) := by decide +kernel
theorem w7_52 : Wp d 7 52 [l0, l1, l2, l3, l4] (.long y8 :: .long x8 :: st) h Q = Wp d 7 53 [l0, l1, l2, l3, l4] (.long (x8 * y8) :: st) h Q := W_go f7_52 rfl
theorem f7_53 : fetch 7 53 = some (.aload_n 0, 1, [], .null) := by decide +kernel
theorem w7_53 : Wp d 7 53 [some (.ref a), l1, l2, l3, l4] st h Q = Wp d 7 54 [some (.ref a), l1, l2, l3, l4] (.ref a :: st) h Q := W_go f7_53 rfl
theorem f7_54 : fetch 7 54 = some (.getfield 30, 3, [1, 6, 2048, 0], .null) := by decide +kernel
theorem w7_54 : Wp d 7 54 [l0, l1, l2, l3, l4] (.ref a :: st) h Q = gP (h.2 a) 1 6 (fun w => Wp d 7 57 [l0, l1, l2, l3, l4] (w :: st) h Q) := W_get f7_54 rfl
theorem f7_57 : fetch 7 57 = some (.ifCond .eq 7, 3, [], .null) := by decide +kernel
theorem w7_57 : Wp d 7 57 [l0, l1, l2, l3, l4] (.int x :: st) h Q = if icond .eq x 0 = true then Wp d 7 64 [l0, l1, l2, l3, l4] st h Q else Wp d 7 60 [l0, l1, l2, l3, l4] st h Q := W_if f7_57 rfl
theorem f7_60 : fetch 7 60 = some (.iconst 1, 1, [], .null) := by decide +kernel
theorem w7_60 : Wp d 7 60 [l0, l1, l2, l3, l4] st h Q = Wp d 7 61 [l0, l1, l2, l3, l4] (.int (1 : Int32) :: st) h Q := W_go f7_60 rfl
theorem f7_61 : fetch 7 61 = some (.goto 4, 3, [], .null) := by decide +kernel
theorem w7_61 : Wp d 7 61 [l0, l1, l2, l3, l4] st h Q = Wp d 7 65 [l0, l1, l2, l3, l4] st h Q := W_go f7_61 rfl
theorem f7_64 : fetch 7 64 = some (.iconst 0, 1, [], .null) := by decide +kernel
theorem w7_64 : Wp d 7 64 [l0, l1, l2, l3, l4] st h Q = Wp d 7 65 [l0, l1, l2, l3, l4] (.int (0 : Int32) :: st) h Q := W_go f7_64 rfl
theorem f7_65 : fetch 7 65 = some (.i2l, 1, [], .null) := by decide +kernel
theorem w7_65 : Wp d 7 65 [l0, l1, l2, l3, l4] (.int x :: st) h Q = Wp d 7 66 [l0, l1, l2, l3, l4] (.long x.toInt64 :: st) h Q := W_go f7_65 rfl
theorem f7_66 : fetch 7 66 = some (.ladd, 1, [], .null) := by decide +kernel
theorem w7_66 : Wp d 7 66 [l0, l1, l2, l3, l4] (.long y8 :: .long x8 :: st) h Q = Wp d 7 67 [l0, l1, l2, l3, l4] (.long (x8 + y8) :: st) h Q := W_go f7_66 rfl
theorem f7_67 : fetch 7 67 = some (.lstore_n 3, 1, [], .null) := by decide +kernel
theorem w7_67 : Wp d 7 67 [l0, l1, l2, l3, l4] (.long x8 :: st) h Q = Wp d 7 68 [l0, l1, kl l2, some (.long x8), none] st h Q := (W_st2 (pc' := 68) (k := 3) f7_67 rfl rfl (by simp only [List.length_cons, List.length_nil]; omega)).trans (by rw [pst2_succ]; rfl)
theorem f7_68 : fetch 7 68 = some (.lload_n 3, 1, [], .null) := by decide +kernel
theorem w7_68 : Wp d 7 68 [l0, l1, l2, some (.long x8), l4] st h Q = Wp d 7 69 [l0, l1, l2, some (.long x8), l4] (.long x8 :: st) h Q := W_go f7_68 rfl
theorem f7_69 : fetch 7 69 = some (.ldc2_w 34, 3, [3209], .long (31)) := by decide +kernel
theorem w7_69 : Wp d 7 69 [l0, l1, l2, l3, l4] st h Q = Wp d 7 72 [l0, l1, l2, l3, l4] ((.long (31)) :: st) h Q := W_go f7_69 rfl
theorem f7_72 : fetch 7 72 = some (.lmul, 1, [], .null) := by decide +kernel
theorem w7_72 : Wp d 7 72 [l0, l1, l2, l3, l4] (.long y8 :: .long x8 :: st) h Q = Wp d 7 73 [l0, l1, l2, l3, l4] (.long (x8 * y8) :: st) h Q := W_go f7_72 rfl
theorem f7_73 : fetch 7 73 = some (.aload_n 0, 1, [], .null) := by decide +kernel
theorem w7_73 : Wp d 7 73 [some (.ref a), l1, l2, l3, l4] st h Q = Wp d 7 74 [some (.ref a), l1, l2, l3, l4] (.ref a :: st) h Q := W_go f7_73 rfl
theorem f7_74 : fetch 7 74 = some (.getfield 27, 3, [1, 5, 2045, 0], .null) := by decide +kernel
theorem w7_74 : Wp d 7 74 [l0, l1, l2, l3, l4] (.ref a :: st) h Q = gP (h.2 a) 1 5 (fun w => Wp d 7 77 [l0, l1, l2, l3, l4] (w :: st) h Q) := W_get f7_74 rfl
theorem f7_77 : fetch 7 77 = some (.i2l, 1, [], .null) := by decide +kernel
theorem w7_77 : Wp d 7 77 [l0, l1, l2, l3, l4] (.int x :: st) h Q = Wp d 7 78 [l0, l1, l2, l3, l4] (.long x.toInt64 :: st) h Q := W_go f7_77 rfl
theorem f7_78 : fetch 7 78 = some (.ladd, 1, [], .null) := by decide +kernel
theorem w7_78 : Wp d 7 78 [l0, l1, l2, l3, l4] (.long y8 :: .long x8 :: st) h Q = Wp d 7 79 [l0, l1, l2, l3, l4] (.long (x8 + y8) :: st) h Q := W_go f7_78 rfl
theorem f7_79 : fetch 7 79 = some (.lreturn, 1, [], .null) := by decide +kernel
theorem w7_79 : Wp d 7 79 [l0, l1, l2, l3, l4] [.long x8] h Q = Q (.inl (some (.long x8)), h) := W_fin f7_79 rfl
theorem hm8 : mhs 8 = [] := by decide +kernel
theorem f8_0 : fetch 8 0 = some (.aload_n 0, 1, [], .null) := by decide +kernel
theorem w8_0 : Wp d 8 0 [some (.ref a)] st h Q = Wp d 8 1 [some (.ref a)] (.ref a :: st) h Q := W_go f8_0 rfl
theorem f8_1 : fetch 8 1 = some (.invokespecial 3, 3, [9999, 2070, 1031, 1032], .null) := by decide +kernel
theorem w8_1 (hp : psum st ≤ 8 ∧ a ≠ 201) : Wp d 8 1 [l0] (.ref a :: st) h Q = Wp d 8 4 [l0] st h Q := W_go f8_1 (by simp only [pstep, if_pos hp]; rfl)
theorem f8_4 : fetch 8 4 = some (.aload_n 0, 1, [], .null) := by decide +kernel
theorem w8_4 : Wp d 8 4 [some (.ref a)] st h Q = Wp d 8 5 [some (.ref a)] (.ref a :: st) h Q := W_go f8_4 rfl
theorem f8_5 : fetch 8 5 = some (.iconst (-1), 1, [], .null) := by decide +kernel
theorem w8_5 : Wp d 8 5 [l0] st h Q = Wp d 8 6 [l0] (.int (-1 : Int32) :: st) h Q := W_go f8_5 rfl
theorem f8_6 : fetch 8 6 = some (.putfield 9, 3, [2, 3, 2079, 0], .null) := by decide +kernel
theorem w8_6 : Wp d 8 6 [l0] (v :: .ref a :: st) h Q = pP (h.2 a) 2 3 (ftOf 2 3) v a (fun c => Wp d 8 9 [l0] st (hset h a c) Q) := W_put f8_6 (by rfl)
theorem f8_9 : fetch 8 9 = some (.aload_n 0, 1, [], .null) := by decide +kernel
theorem w8_9 : Wp d 8 9 [some (.ref a)] st h Q = Wp d 8 10 [some (.ref a)] (.ref a :: st) h Q := W_go f8_9 rfl
theorem f8_10 : fetch 8 10 = some (.iconst (-1), 1, [], .null) := by decide +kernel
theorem w8_10 : Wp d 8 10 [l0] st h Q = Wp d 8 11 [l0] (.int (-1 : Int32) :: st) h Q := W_go f8_10 rfl
theorem f8_11 : fetch 8 11 = some (.putfield 15, 3, [2, 4, 2082, 0], .null) := by decide +kernel
theorem w8_11 : Wp d 8 11 [l0] (v :: .ref a :: st) h Q = pP (h.2 a) 2 4 (ftOf 2 4) v a (fun c => Wp d 8 14 [l0] st (hset h a c) Q) := W_put f8_11 (by rfl)
theorem f8_14 : fetch 8 14 = some (.aload_n 0, 1, [], .null) := by decide +kernel
theorem w8_14 : Wp d 8 14 [some (.ref a)] st h Q = Wp d 8 15 [some (.ref a)] (.ref a :: st) h Q := W_go f8_14 rfl
theorem f8_15 : fetch 8 15 = some (.bipush 20, 2, [], .null) := by decide +kernel
theorem w8_15 : Wp d 8 15 [l0] st h Q = Wp d 8 17 [l0] (.int (20 : Int32) :: st) h Q := W_go f8_15 rfl
theorem f8_17 : fetch 8 17 = some (.newarray .int, 2, [0, 1141], .null) := by decide +kernel
theorem w8_17 (hx : ¬ x < 0 ∧ x.toNatClampNeg ≤ 60000) : Wp d 8 17 [l0] (.int x :: st) h Q = Wp d 8 19 [l0] (.ref h.1.1 :: st) (hnew h x.toNatClampNeg (.inl (0, arr0 0 x.toNatClampNeg))) Q := W_go f8_17 (by simp only [pstep, pnewa, if_pos hx]; rfl)
theorem f8_19 : fetch 8 19 = some (.putfield 18, 3, [2, 7, 2089, 0], .null) := by decide +kernel
theorem w8_19 : Wp d 8 19 [l0] (v :: .ref a :: st) h Q = pP (h.2 a) 2 7 (ftOf 2 7) v a (fun c => Wp d 8 22 [l0] st (hset h a c) Q) := W_put f8_19 (by rfl)
theorem f8_22 : fetch 8 22 = some (.aload_n 0, 1, [], .null) := by decide +kernel
theorem w8_22 : Wp d 8 22 [some (.ref a)] st h Q = Wp d 8 23 [some (.ref a)] (.ref a :: st) h Q := W_go f8_22 rfl
theorem f8_23 : fetch 8 23 = some (.bipush 36, 2, [], .null) := by decide +kernel
theorem w8_23 : Wp d 8 23 [l0] st h Q = Wp d 8 25 [l0] (.int (36 : Int32) :: st) h Q := W_go f8_23 rfl
theorem f8_25 : fetch 8 25 = some (.newarray .int, 2, [0, 1141], .null) := by decide +kernel
theorem w8_25 (hx : ¬ x < 0 ∧ x.toNatClampNeg ≤ 60000) : Wp d 8 25 [l0] (.int x :: st) h Q = Wp d 8 27 [l0] (.ref h.1.1 :: st) (hnew h x.toNatClampNeg (.inl (0, arr0 0 x.toNatClampNeg))) Q := W_go f8_25 (by simp only [pstep, pnewa, if_pos hx]; rfl)
theorem f8_27 : fetch 8 27 = some (.putfield 22, 3, [2, 9, 2091, 0], .null) := by decide +kernel
theorem w8_27 : Wp d 8 27 [l0] (v :: .ref a :: st) h Q = pP (h.2 a) 2 9 (ftOf 2 9) v a (fun c => Wp d 8 30 [l0] st (hset h a c) Q) := W_put f8_27 (by rfl)
theorem f8_30 : fetch 8 30 = some (.aload_n 0, 1, [], .null) := by decide +kernel
theorem w8_30 : Wp d 8 30 [some (.ref a)] st h Q = Wp d 8 31 [some (.ref a)] (.ref a :: st) h Q := W_go f8_30 rfl
theorem f8_31 : fetch 8 31 = some (.bipush 36, 2, [], .null) := by decide +kernel
theorem w8_31 : Wp d 8 31 [l0] st h Q = Wp d 8 33 [l0] (.int (36 : Int32) :: st) h Q := W_go f8_31 rfl
theorem f8_33 : fetch 8 33 = some (.newarray .int, 2, [0, 1141], .null) := by decide +kernel
theorem w8_33 (hx : ¬ x < 0 ∧ x.toNatClampNeg ≤ 60000) : Wp d 8 33 [l0] (.int x :: st) h Q = Wp d 8 35 [l0] (.ref h.1.1 :: st) (hnew h x.toNatClampNeg (.inl (0, arr0 0 x.toNatClampNeg))) Q := W_go f8_33 (by simp only [pstep, pnewa, if_pos hx]; rfl)
theorem f8_35 : fetch 8 35 = some (.putfield 25, 3, [2, 10, 2092, 0], .null) := by decide +kernel
theorem w8_35 : Wp d 8 35 [l0] (v :: .ref a :: st) h Q = pP (h.2 a) 2 10 (ftOf 2 10) v a (fun c => Wp d 8 38 [l0] st (hset h a c) Q) := W_put f8_35 (by rfl)
theorem f8_38 : fetch 8 38 = some (.aload_n 0, 1, [], .null) := by decide +kernel
theorem w8_38 : Wp d 8 38 [some (.ref a)] st h Q = Wp d 8 39 [some (.ref a)] (.ref a :: st) h Q := W_go f8_38 rfl
theorem f8_39 : fetch 8 39 = some (.bipush 36, 2, [], .null) := by decide +kernel
theorem w8_39 : Wp d 8 39 [l0] st h Q = Wp d 8 41 [l0] (.int (36 : Int32) :: st) h Q := W_go f8_39 rfl
theorem f8_41 : fetch 8 41 = some (.newarray .int, 2, [0, 1141], .null) := by decide +kernel
theorem w8_41 (hx : ¬ x < 0 ∧ x.toNatClampNeg ≤ 60000) : Wp d 8 41 [l0] (.int x :: st) h Q = Wp d 8 43 [l0] (.ref h.1.1 :: st) (hnew h x.toNatClampNeg (.inl (0, arr0 0 x.toNatClampNeg))) Q := W_go f8_41 (by simp only [pstep, pnewa, if_pos hx]; rfl)
theorem f8_43 : fetch 8 43 = some (.putfield 28, 3, [2, 11, 2093, 0], .null) := by decide +kernel
theorem w8_43 : Wp d 8 43 [l0] (v :: .ref a :: st) h Q = pP (h.2 a) 2 11 (ftOf 2 11) v a (fun c => Wp d 8 46 [l0] st (hset h a c) Q) := W_put f8_43 (by rfl)
theorem f8_46 : fetch 8 46 = some (.return_, 1, [], .null) := by decide +kernel
theorem w8_46 : Wp d 8 46 [l0] [] h Q = Q (.inl none, h) := W_fin f8_46 rfl
theorem hm9 : mhs 9 = [] := by decide +kernel
theorem f9_0 : fetch 9 0 = some (.aload_n 0, 1, [], .null) := by decide +kernel
theorem w9_0 : Wp d 9 0 [some (.ref a), l1] st h Q = Wp d 9 1 [some (.ref a), l1] (.ref a :: st) h Q := W_go f9_0 rfl
theorem f9_1 : fetch 9 1 = some (.iload_n 1, 1, [], .null) := by decide +kernel
theorem w9_1 : Wp d 9 1 [l0, some (.int x)] st h Q = Wp d 9 2 [l0, some (.int x)] (.int x :: st) h Q := W_go f9_1 rfl
theorem f9_2 : fetch 9 2 = some (.putfield 31, 3, [2, 0, 2071, 0], .null) := by decide +kernel
theorem w9_2 : Wp d 9 2 [l0, l1] (v :: .ref a :: st) h Q = pP (h.2 a) 2 0 (ftOf 2 0) v a (fun c => Wp d 9 5 [l0, l1] st (hset h a c) Q) := W_put f9_2 (by rfl)
theorem f9_5 : fetch 9 5 = some (.aload_n 0, 1, [], .null) := by decide +kernel
theorem w9_5 : Wp d 9 5 [some (.ref a), l1] st h Q = Wp d 9 6 [some (.ref a), l1] (.ref a :: st) h Q := W_go f9_5 rfl
theorem f9_6 : fetch 9 6 = some (.iconst (-1), 1, [], .null) := by decide +kernel
theorem w9_6 : Wp d 9 6 [l0, l1] st h Q = Wp d 9 7 [l0, l1] (.int (-1 : Int32) :: st) h Q := W_go f9_6 rfl
theorem f9_7 : fetch 9 7 = some (.putfield 9, 3, [2, 3, 2079, 0], .null) := by decide +kernel
theorem w9_7 : Wp d 9 7 [l0, l1] (v :: .ref a :: st) h Q = pP (h.2 a) 2 3 (ftOf 2 3) v a (fun c => Wp d 9 10 [l0, l1] st (hset h a c) Q) := W_put f9_7 (by rfl)
theorem f9_10 : fetch 9 10 = some (.aload_n 0, 1, [], .null) := by decide +kernel
theorem w9_10 : Wp d 9 10 [some (.ref a), l1] st h Q = Wp d 9 11 [some (.ref a), l1] (.ref a :: st) h Q := W_go f9_10 rfl
theorem f9_11 : fetch 9 11 = some (.iconst 0, 1, [], .null) := by decide +kernel
theorem w9_11 : Wp d 9 11 [l0, l1] st h Q = Wp d 9 12 [l0, l1] (.int (0 : Int32) :: st) h Q := W_go f9_11 rfl
theorem f9_12 : fetch 9 12 = some (.putfield 34, 3, [2, 6, 2087, 0], .null) := by decide +kernel
theorem w9_12 : Wp d 9 12 [l0, l1] (v :: .ref a :: st) h Q = pP (h.2 a) 2 6 (ftOf 2 6) v a (fun c => Wp d 9 15 [l0, l1] st (hset h a c) Q) := W_put f9_12 (by rfl)
theorem f9_15 : fetch 9 15 = some (.aload_n 0, 1, [], .null) := by decide +kernel
theorem w9_15 : Wp d 9 15 [some (.ref a), l1] st h Q = Wp d 9 16 [some (.ref a), l1] (.ref a :: st) h Q := W_go f9_15 rfl
theorem f9_16 : fetch 9 16 = some (.invokevirtual 37, 3, [10, 1, 3, 0, 3126, 1012, 3129, 3127, 3128], .null) := by decide +kernel
theorem w9_16 (hp : psum st ≤ 8) : Wp d 9 16 [l0, l1] ((.ref b) :: st) h Q = rP (h.2 b) 2 (Cp d 10 [(.ref b)] h (fun o => cK o (fun w h2 => Wp d 9 19 [l0, l1] (w.toList ++ st) h2 Q) (fun E h2 => Q (.inr E, h2)))) := (W_invV (st := st) f9_16 rfl rfl (by simp only [List.length_cons]; omega) rfl rfl hp).trans (by simp only [hm9, if_true])
theorem f9_19 : fetch 9 19 = some (.return_, 1, [], .null) := by decide +kernel
theorem w9_19 : Wp d 9 19 [l0, l1] [] h Q = Q (.inl none, h) := W_fin f9_19 rfl
theorem hm10 : mhs 10 = [] := by decide +kernel
theorem f10_0 : fetch 10 0 = some (.aload_n 0, 1, [], .null) := by decide +kernel
theorem w10_0 : Wp d 10 0 [some (.ref a)] st h Q = Wp d 10 1 [some (.ref a)] (.ref a :: st) h Q := W_go f10_0 rfl
theorem f10_1 : fetch 10 1 = some (.aload_n 0, 1, [], .null) := by decide +kernel
theorem w10_1 : Wp d 10 1 [some (.ref a)] st h Q = Wp d 10 2 [some (.ref a)] (.ref a :: st) h Q := W_go f10_1 rfl
theorem f10_2 : fetch 10 2 = some (.getfield 31, 3, [2, 0, 2071, 0], .null) := by decide +kernel
theorem w10_2 : Wp d 10 2 [l0] (.ref a :: st) h Q = gP (h.2 a) 2 0 (fun w => Wp d 10 5 [l0] (w :: st) h Q) := W_get f10_2 rfl
theorem f10_5 : fetch 10 5 = some (.putfield 40, 3, [2, 1, 2073, 0], .null) := by decide +kernel
theorem w10_5 : Wp d 10 5 [l0] (v :: .ref a :: st) h Q = pP (h.2 a) 2 1 (ftOf 2 1) v a (fun c => Wp d 10 8 [l0] st (hset h a c) Q) := W_put f10_5 (by rfl)
theorem f10_8 : fetch 10 8 = some (.aload_n 0, 1, [], .null) := by decide +kernel
theorem w10_8 : Wp d 10 8 [some (.ref a)] st h Q = Wp d 10 9 [some (.ref a)] (.ref a :: st) h Q := W_go f10_8 rfl
theorem f10_9 : fetch 10 9 = some (.iconst 0, 1, [], .null) := by decide +kernel
theorem w10_9 : Wp d 10 9 [l0] st h Q = Wp d 10 10 [l0] (.int (0 : Int32) :: st) h Q := W_go f10_9 rfl
theorem f10_10 : fetch 10 10 = some (.putfield 43, 3, [2, 2, 2076, 0], .null) := by decide +kernel
theorem w10_10 : Wp d 10 10 [l0] (v :: .ref a :: st) h Q = pP (h.2 a) 2 2 (ftOf 2 2) v a (fun c => Wp d 10 13 [l0] st (hset h a c) Q) := W_put f10_10 (by rfl)
theorem f10_13 : fetch 10 13 = some (.aload_n 0, 1, [], .null) := by decide +kernel
theorem w10_13 : Wp d 10 13 [some (.ref a)] st h Q = Wp d 10 14 [some (.ref a)] (.ref a :: st) h Q := W_go f10_13 rfl
theorem f10_14 : fetch 10 14 = some (.invokevirtual 46, 3, [12, 1, 3, 0, 3130, 1012, 3133, 3131, 3132], .null) := by decide +kernel
theorem w10_14 (hp : psum st ≤ 8) : Wp d 10 14 [l0] ((.ref b) :: st) h Q = rP (h.2 b) 2 (Cp d 12 [(.ref b)] h (fun o => cK o (fun w h2 => Wp d 10 17 [l0] (w.toList ++ st) h2 Q) (fun E h2 => Q (.inr E, h2)))) := (W_invV (st := st) f10_14 rfl rfl (by simp only [List.length_cons]; omega) rfl rfl hp).trans (by simp only [hm10, if_true])
theorem f10_17 : fetch 10 17 = some (.return_, 1, [], .null) := by decide +kernel
theorem w10_17 : Wp d 10 17 [l0] [] h Q = Q (.inl none, h) := W_fin f10_17 rfl
theorem hm11 : mhs 11 = [] := by decide +kernel
theorem f11_0 : fetch 11 0 = some (.aload_n 0, 1, [], .null) := by decide +kernel
theorem w11_0 : Wp d 11 0 [some (.ref a), l1, l2] st h Q = Wp d 11 1 [some (.ref a), l1, l2] (.ref a :: st) h Q := W_go f11_0 rfl
theorem f11_1 : fetch 11 1 = some (.iload_n 2, 1, [], .null) := by decide +kernel
theorem w11_1 : Wp d 11 1 [l0, l1, some (.int x)] st h Q = Wp d 11 2 [l0, l1, some (.int x)] (.int x :: st) h Q := W_go f11_1 rfl
theorem f11_2 : fetch 11 2 = some (.putfield 9, 3, [2, 3, 2079, 0], .null) := by decide +kernel
theorem w11_2 : Wp d 11 2 [l0, l1, l2] (v :: .ref a :: st) h Q = pP (h.2 a) 2 3 (ftOf 2 3) v a (fun c => Wp d 11 5 [l0, l1, l2] st (hset h a c) Q) := W_put f11_2 (by rfl)
theorem f11_5 : fetch 11 5 = some (.aload_n 0, 1, [], .null) := by decide +kernel
theorem w11_5 : Wp d 11 5 [some (.ref a), l1, l2] st h Q = Wp d 11 6 [some (.ref a), l1, l2] (.ref a :: st) h Q := W_go f11_5 rfl
theorem f11_6 : fetch 11 6 = some (.invokevirtual 46, 3, [12, 1, 3, 0, 3130, 1012, 3133, 3131, 3132], .null) := by decide +kernel
theorem w11_6 (hp : psum st ≤ 8) : Wp d 11 6 [l0, l1, l2] ((.ref b) :: st) h Q = rP (h.2 b) 2 (Cp d 12 [(.ref b)] h (fun o => cK o (fun w h2 => Wp d 11 9 [l0, l1, l2] (w.toList ++ st) h2 Q) (fun E h2 => Q (.inr E, h2)))) := (W_invV (st := st) f11_6 rfl rfl (by simp only [List.length_cons]; omega) rfl rfl hp).trans (by simp only [hm11, if_true])
theorem f11_9 : fetch 11 9 = some (.aload_n 0, 1, [], .null) := by decide +kernel
theorem w11_9 : Wp d 11 9 [some (.ref a), l1, l2] st h Q = Wp d 11 10 [some (.ref a), l1, l2] (.ref a :: st) h Q := W_go f11_9 rfl
theorem f11_10 : fetch 11 10 = some (.aload_n 1, 1, [], .null) := by decide +kernel
theorem w11_10 : Wp d 11 10 [l0, some (.ref a), l2] st h Q = Wp d 11 11 [l0, some (.ref a), l2] (.ref a :: st) h Q := W_go f11_10 rfl
theorem f11_11 : fetch 11 11 = some (.getfield 49, 3, [0, 6, 1073, 0], .null) := by decide +kernel
theorem w11_11 : Wp d 11 11 [l0, l1, l2] (.ref a :: st) h Q = gP (h.2 a) 0 6 (fun w => Wp d 11 14 [l0, l1, l2] (w :: st) h Q) := W_get f11_11 rfl
theorem f11_14 : fetch 11 14 = some (.iload_n 2, 1, [], .null) := by decide +kernel
theorem w11_14 : Wp d 11 14 [l0, l1, some (.int x)] st h Q = Wp d 11 15 [l0, l1, some (.int x)] (.int x :: st) h Q := W_go f11_14 rfl
theorem f11_15 : fetch 11 15 = some (.invokestatic 54, 3, [115, 2, 0, 1, 3223, 1001, 3117, 3116], .null) := by decide +kernel
theorem w11_15 (hp : psum st ≤ 8) : Wp d 11 15 [l0, l1, l2] (v1 :: v0 :: st) h Q = Cp d 115 [v0, v1] h (fun o => cK o (fun w h2 => Wp d 11 18 [l0, l1, l2] (w.toList ++ st) h2 Q) (fun _ _ => False)) := (W_invS (st := st) f11_15 rfl rfl (by simp only [List.length_cons]; omega) rfl rfl hp)
theorem f11_18 : fetch 11 18 = some (.iconst 1, 1, [], .null) := by decide +kernel
theorem w11_18 : Wp d 11 18 [l0, l1, l2] st h Q = Wp d 11 19 [l0, l1, l2] (.int (1 : Int32) :: st) h Q := W_go f11_18 rfl
theorem f11_19 : fetch 11 19 = some (.invokevirtual 58, 3, [14, 3, 3, 0, 4130, 1012, 4133, 4131, 4132], .null) := by decide +kernel
theorem w11_19 (hp : psum st ≤ 8) : Wp d 11 19 [l0, l1, l2] (v2 :: v1 :: (.ref b) :: st) h Q = rP (h.2 b) 2 (Cp d 14 [(.ref b), v1, v2] h (fun o => cK o (fun w h2 => Wp d 11 22 [l0, l1, l2] (w.toList ++ st) h2 Q) (fun E h2 => Q (.inr E, h2)))) := (W_invV (st := st) f11_19 rfl rfl (by simp only [List.length_cons]; omega) rfl rfl hp).trans (by simp only [hm11, if_true])
theorem f11_22 : fetch 11 22 = some (.return_, 1, [], .null) := by decide +kernel
theorem w11_22 : Wp d 11 22 [l0, l1, l2] [] h Q = Q (.inl none, h) := W_fin f11_22 rfl
theorem hm12 : mhs 12 = [] := by decide +kernel
theorem f12_0 : fetch 12 0 = some (.aload_n 0, 1, [], .null) := by decide +kernel
theorem w12_0 : Wp d 12 0 [some (.ref a)] st h Q = Wp d 12 1 [some (.ref a)] (.ref a :: st) h Q := W_go f12_0 rfl
theorem f12_1 : fetch 12 1 = some (.iconst (-1), 1, [], .null) := by decide +kernel
theorem w12_1 : Wp d 12 1 [l0] st h Q = Wp d 12 2 [l0] (.int (-1 : Int32) :: st) h Q := W_go f12_1 rfl
theorem f12_2 : fetch 12 2 = some (.putfield 15, 3, [2, 4, 2082, 0], .null) := by decide +kernel
theorem w12_2 : Wp d 12 2 [l0] (v :: .ref a :: st) h Q = pP (h.2 a) 2 4 (ftOf 2 4) v a (fun c => Wp d 12 5 [l0] st (hset h a c) Q) := W_put f12_2 (by rfl)
theorem f12_5 : fetch 12 5 = some (.aload_n 0, 1, [], .null) := by decide +kernel
theorem w12_5 : Wp d 12 5 [some (.ref a)] st h Q = Wp d 12 6 [some (.ref a)] (.ref a :: st) h Q := W_go f12_5 rfl
theorem f12_6 : fetch 12 6 = some (.iconst 0, 1, [], .null) := by decide +kernel
theorem w12_6 : Wp d 12 6 [l0] st h Q = Wp d 12 7 [l0] (.int (0 : Int32) :: st) h Q := W_go f12_6 rfl
theorem f12_7 : fetch 12 7 = some (.putfield 62, 3, [2, 5, 2084, 0], .null) := by decide +kernel
theorem w12_7 : Wp d 12 7 [l0] (v :: .ref a :: st) h Q = pP (h.2 a) 2 5 (ftOf 2 5) v a (fun c => Wp d 12 10 [l0] st (hset h a c) Q) := W_put f12_7 (by rfl)
theorem f12_10 : fetch 12 10 = some (.aload_n 0, 1, [], .null) := by decide +kernel
theorem w12_10 : Wp d 12 10 [some (.ref a)] st h Q = Wp d 12 11 [some (.ref a)] (.ref a :: st) h Q := W_go f12_10 rfl
theorem f12_11 : fetch 12 11 = some (.iconst 0, 1, [], .null) := by decide +kernel
theorem w12_11 : Wp d 12 11 [l0] st h Q = Wp d 12 12 [l0] (.int (0 : Int32) :: st) h Q := W_go f12_11 rfl
theorem f12_12 : fetch 12 12 = some (.putfield 65, 3, [2, 8, 2090, 0], .null) := by decide +kernel
theorem w12_12 : Wp d 12 12 [l0] (v :: .ref a :: st) h Q = pP (h.2 a) 2 8 (ftOf 2 8) v a (fun c => Wp d 12 15 [l0] st (hset h a c) Q) := W_put f12_12 (by rfl)
theorem f12_15 : fetch 12 15 = some (.return_, 1, [], .null) := by decide +kernel
theorem w12_15 : Wp d 12 15 [l0] [] h Q = Q (.inl none, h) := W_fin f12_15 rfl
theorem hm13 : mhs 13 = [] := by decide +kernel
theorem hr13 : mret 13 = (some .boolean) := by decide +kernel
theorem f13_0 : fetch 13 0 = some (.aload_n 0, 1, [], .null) := by decide +kernel
theorem w13_0 : Wp d 13 0 [some (.ref a)] st h Q = Wp d 13 1 [some (.ref a)] (.ref a :: st) h Q := W_go f13_0 rfl
theorem f13_1 : fetch 13 1 = some (.getfield 15, 3, [2, 4, 2082, 0], .null) := by decide +kernel
theorem w13_1 : Wp d 13 1 [l0] (.ref a :: st) h Q = gP (h.2 a) 2 4 (fun w => Wp d 13 4 [l0] (w :: st) h Q) := W_get f13_1 rfl
theorem f13_4 : fetch 13 4 = some (.iconst (-1), 1, [], .null) := by decide +kernel
theorem w13_4 : Wp d 13 4 [l0] st h Q = Wp d 13 5 [l0] (.int (-1 : Int32) :: st) h Q := W_go f13_4 rfl
theorem f13_5 : fetch 13 5 = some (.if_icmp .ne 14, 3, [], .null) := by decide +kernel
theorem w13_5 : Wp d 13 5 [l0] (.int y :: .int x :: st) h Q = if icond .ne x y = true then Wp d 13 19 [l0] st h Q else Wp d 13 8 [l0] st h Q := W_if f13_5 rfl
theorem f13_8 : fetch 13 8 = some (.aload_n 0, 1, [], .null) := by decide +kernel
theorem w13_8 : Wp d 13 8 [some (.ref a)] st h Q = Wp d 13 9 [some (.ref a)] (.ref a :: st) h Q := W_go f13_8 rfl
theorem f13_9 : fetch 13 9 = some (.getfield 65, 3, [2, 8, 2090, 0], .null) := by decide +kernel
theorem w13_9 : Wp d 13 9 [l0] (.ref a :: st) h Q = gP (h.2 a) 2 8 (fun w => Wp d 13 12 [l0] (w :: st) h Q) := W_get f13_9 rfl
theorem f13_12 : fetch 13 12 = some (.ifCond .ne 7, 3, [], .null) := by decide +kernel
theorem w13_12 : Wp d 13 12 [l0] (.int x :: st) h Q = if icond .ne x 0 = true then Wp d 13 19 [l0] st h Q else Wp d 13 15 [l0] st h Q := W_if f13_12 rfl
theorem f13_15 : fetch 13 15 = some (.iconst 1, 1, [], .null) := by decide +kernel
theorem w13_15 : Wp d 13 15 [l0] st h Q = Wp d 13 16 [l0] (.int (1 : Int32) :: st) h Q := W_go f13_15 rfl
theorem f13_16 : fetch 13 16 = some (.goto 4, 3, [], .null) := by decide +kernel
theorem w13_16 : Wp d 13 16 [l0] st h Q = Wp d 13 20 [l0] st h Q := W_go f13_16 rfl
theorem f13_19 : fetch 13 19 = some (.iconst 0, 1, [], .null) := by decide +kernel
theorem w13_19 : Wp d 13 19 [l0] st h Q = Wp d 13 20 [l0] (.int (0 : Int32) :: st) h Q := W_go f13_19 rfl
theorem f13_20 : fetch 13 20 = some (.ireturn, 1, [], .null) := by decide +kernel
theorem w13_20 : Wp d 13 20 [l0] [.int x] h Q = (if narrow .boolean (.int x) = .int x then Q (.inl (some (.int x)), h) else False) := W_zret f13_20 hr13
theorem hm14 : mhs 14 = [] := by decide +kernel
theorem f14_0 : fetch 14 0 = some (.iload_n 1, 1, [], .null) := by decide +kernel
theorem w14_0 : Wp d 14 0 [l0, some (.int x), l2] st h Q = Wp d 14 1 [l0, some (.int x), l2] (.int x :: st) h Q := W_go f14_0 rfl
theorem f14_1 : fetch 14 1 = some (.iconst (-1), 1, [], .null) := by decide +kernel
theorem w14_1 : Wp d 14 1 [l0, l1, l2] st h Q = Wp d 14 2 [l0, l1, l2] (.int (-1 : Int32) :: st) h Q := W_go f14_1 rfl
theorem f14_2 : fetch 14 2 = some (.if_icmp .eq 17, 3, [], .null) := by decide +kernel
theorem w14_2 : Wp d 14 2 [l0, l1, l2] (.int y :: .int x :: st) h Q = if icond .eq x y = true then Wp d 14 19 [l0, l1, l2] st h Q else Wp d 14 5 [l0, l1, l2] st h Q := W_if f14_2 rfl
theorem f14_5 : fetch 14 5 = some (.iload_n 2, 1, [], .null) := by decide +kernel
theorem w14_5 : Wp d 14 5 [l0, l1, some (.int x)] st h Q = Wp d 14 6 [l0, l1, some (.int x)] (.int x :: st) h Q := W_go f14_5 rfl
theorem f14_6 : fetch 14 6 = some (.iconst 1, 1, [], .null) := by decide +kernel
theorem w14_6 : Wp d 14 6 [l0, l1, l2] st h Q = Wp d 14 7 [l0, l1, l2] (.int (1 : Int32) :: st) h Q := W_go f14_6 rfl
theorem f14_7 : fetch 14 7 = some (.if_icmp .lt 12, 3, [], .null) := by decide +kernel
theorem w14_7 : Wp d 14 7 [l0, l1, l2] (.int y :: .int x :: st) h Q = if icond .lt x y = true then Wp d 14 19 [l0, l1, l2] st h Q else Wp d 14 10 [l0, l1, l2] st h Q := W_if f14_7 rfl
theorem f14_10 : fetch 14 10 = some (.aload_n 0, 1, [], .null) := by decide +kernel
theorem w14_10 : Wp d 14 10 [some (.ref a), l1, l2] st h Q = Wp d 14 11 [some (.ref a), l1, l2] (.ref a :: st) h Q := W_go f14_10 rfl
theorem f14_11 : fetch 14 11 = some (.getfield 65, 3, [2, 8, 2090, 0], .null) := by decide +kernel
theorem w14_11 : Wp d 14 11 [l0, l1, l2] (.ref a :: st) h Q = gP (h.2 a) 2 8 (fun w => Wp d 14 14 [l0, l1, l2] (w :: st) h Q) := W_get f14_11 rfl
theorem f14_14 : fetch 14 14 = some (.bipush 36, 2, [], .null) := by decide +kernel
theorem w14_14 : Wp d 14 14 [l0, l1, l2] st h Q = Wp d 14 16 [l0, l1, l2] (.int (36 : Int32) :: st) h Q := W_go f14_14 rfl
theorem f14_16 : fetch 14 16 = some (.if_icmp .lt 4, 3, [], .null) := by decide +kernel
theorem w14_16 : Wp d 14 16 [l0, l1, l2] (.int y :: .int x :: st) h Q = if icond .lt x y = true then Wp d 14 20 [l0, l1, l2] st h Q else Wp d 14 19 [l0, l1, l2] st h Q := W_if f14_16 rfl
theorem f14_19 : fetch 14 19 = some (.return_, 1, [], .null) := by decide +kernel
theorem w14_19 : Wp d 14 19 [l0, l1, l2] [] h Q = Q (.inl none, h) := W_fin f14_19 rfl
theorem f14_20 : fetch 14 20 = some (.aload_n 0, 1, [], .null) := by decide +kernel
theorem w14_20 : Wp d 14 20 [some (.ref a), l1, l2] st h Q = Wp d 14 21 [some (.ref a), l1, l2] (.ref a :: st) h Q := W_go f14_20 rfl
theorem f14_21 : fetch 14 21 = some (.getfield 22, 3, [2, 9, 2091, 0], .null) := by decide +kernel
theorem w14_21 : Wp d 14 21 [l0, l1, l2] (.ref a :: st) h Q = gP (h.2 a) 2 9 (fun w => Wp d 14 24 [l0, l1, l2] (w :: st) h Q) := W_get f14_21 rfl
theorem f14_24 : fetch 14 24 = some (.aload_n 0, 1, [], .null) := by decide +kernel
theorem w14_24 : Wp d 14 24 [some (.ref a), l1, l2] st h Q = Wp d 14 25 [some (.ref a), l1, l2] (.ref a :: st) h Q := W_go f14_24 rfl
theorem f14_25 : fetch 14 25 = some (.getfield 65, 3, [2, 8, 2090, 0], .null) := by decide +kernel
theorem w14_25 : Wp d 14 25 [l0, l1, l2] (.ref a :: st) h Q = gP (h.2 a) 2 8 (fun w => Wp d 14 28 [l0, l1, l2] (w :: st) h Q) := W_get f14_25 rfl
theorem f14_28 : fetch 14 28 = some (.iload_n 1, 1, [], .null) := by decide +kernel
theorem w14_28 : Wp d 14 28 [l0, some (.int x), l2] st h Q = Wp d 14 29 [l0, some (.int x), l2] (.int x :: st) h Q := W_go f14_28 rfl
theorem f14_29 : fetch 14 29 = some (.invokestatic 68, 3, [116, 3, 0, 1, 4134, 1001, 2211, 2210], .null) := by decide +kernel
theorem w14_29 (hp : psum st ≤ 8) : Wp d 14 29 [l0, l1, l2] (v2 :: v1 :: v0 :: st) h Q = Cp d 116 [v0, v1, v2] h (fun o => cK o (fun w h2 => Wp d 14 32 [l0, l1, l2] (w.toList ++ st) h2 Q) (fun _ _ => False)) := (W_invS (st := st) f14_29 rfl rfl (by simp only [List.length_cons]; omega) rfl rfl hp)
theorem f14_32 : fetch 14 32 = some (.aload_n 0, 1, [], .null) := by decide +kernel
theorem w14_32 : Wp d 14 32 [some (.ref a), l1, l2] st h Q = Wp d 14 33 [some (.ref a), l1, l2] (.ref a :: st) h Q := W_go f14_32 rfl
theorem f14_33 : fetch 14 33 = some (.getfield 25, 3, [2, 10, 2092, 0], .null) := by decide +kernel
theorem w14_33 : Wp d 14 33 [l0, l1, l2] (.ref a :: st) h Q = gP (h.2 a) 2 10 (fun w => Wp d 14 36 [l0, l1, l2] (w :: st) h Q) := W_get f14_33 rfl
theorem f14_36 : fetch 14 36 = some (.aload_n 0, 1, [], .null) := by decide +kernel
theorem w14_36 : Wp d 14 36 [some (.ref a), l1, l2] st h Q = Wp d 14 37 [some (.ref a), l1, l2] (.ref a :: st) h Q := W_go f14_36 rfl
theorem f14_37 : fetch 14 37 = some (.getfield 65, 3, [2, 8, 2090, 0], .null) := by decide +kernel
theorem w14_37 : Wp d 14 37 [l0, l1, l2] (.ref a :: st) h Q = gP (h.2 a) 2 8 (fun w => Wp d 14 40 [l0, l1, l2] (w :: st) h Q) := W_get f14_37 rfl
theorem f14_40 : fetch 14 40 = some (.iload_n 1, 1, [], .null) := by decide +kernel
theorem w14_40 : Wp d 14 40 [l0, some (.int x), l2] st h Q = Wp d 14 41 [l0, some (.int x), l2] (.int x :: st) h Q := W_go f14_40 rfl
theorem f14_41 : fetch 14 41 = some (.invokestatic 68, 3, [116, 3, 0, 1, 4134, 1001, 2211, 2210], .null) := by decide +kernel
theorem w14_41 (hp : psum st ≤ 8) : Wp d 14 41 [l0, l1, l2] (v2 :: v1 :: v0 :: st) h Q = Cp d 116 [v0, v1, v2] h (fun o => cK o (fun w h2 => Wp d 14 44 [l0, l1, l2] (w.toList ++ st) h2 Q) (fun _ _ => False)) := (W_invS (st := st) f14_41 rfl rfl (by simp only [List.length_cons]; omega) rfl rfl hp)
theorem f14_44 : fetch 14 44 = some (.aload_n 0, 1, [], .null) := by decide +kernel
theorem w14_44 : Wp d 14 44 [some (.ref a), l1, l2] st h Q = Wp d 14 45 [some (.ref a), l1, l2] (.ref a :: st) h Q := W_go f14_44 rfl
theorem f14_45 : fetch 14 45 = some (.getfield 28, 3, [2, 11, 2093, 0], .null) := by decide +kernel
theorem w14_45 : Wp d 14 45 [l0, l1, l2] (.ref a :: st) h Q = gP (h.2 a) 2 11 (fun w => Wp d 14 48 [l0, l1, l2] (w :: st) h Q) := W_get f14_45 rfl
theorem f14_48 : fetch 14 48 = some (.aload_n 0, 1, [], .null) := by decide +kernel
theorem w14_48 : Wp d 14 48 [some (.ref a), l1, l2] st h Q = Wp d 14 49 [some (.ref a), l1, l2] (.ref a :: st) h Q := W_go f14_48 rfl
theorem f14_49 : fetch 14 49 = some (.getfield 65, 3, [2, 8, 2090, 0], .null) := by decide +kernel
theorem w14_49 : Wp d 14 49 [l0, l1, l2] (.ref a :: st) h Q = gP (h.2 a) 2 8 (fun w => Wp d 14 52 [l0, l1, l2] (w :: st) h Q) := W_get f14_49 rfl
theorem f14_52 : fetch 14 52 = some (.iload_n 2, 1, [], .null) := by decide +kernel
theorem w14_52 : Wp d 14 52 [l0, l1, some (.int x)] st h Q = Wp d 14 53 [l0, l1, some (.int x)] (.int x :: st) h Q := W_go f14_52 rfl
theorem f14_53 : fetch 14 53 = some (.iconst 1, 1, [], .null) := by decide +kernel
theorem w14_53 : Wp d 14 53 [l0, l1, l2] st h Q = Wp d 14 54 [l0, l1, l2] (.int (1 : Int32) :: st) h Q := W_go f14_53 rfl
theorem f14_54 : fetch 14 54 = some (.isub, 1, [], .null) := by decide +kernel
theorem w14_54 : Wp d 14 54 [l0, l1, l2] (.int y :: .int x :: st) h Q = Wp d 14 55 [l0, l1, l2] (.int (x - y) :: st) h Q := W_go f14_54 rfl
theorem f14_55 : fetch 14 55 = some (.invokestatic 68, 3, [116, 3, 0, 1, 4134, 1001, 2211, 2210], .null) := by decide +kernel
theorem w14_55 (hp : psum st ≤ 8) : Wp d 14 55 [l0, l1, l2] (v2 :: v1 :: v0 :: st) h Q = Cp d 116 [v0, v1, v2] h (fun o => cK o (fun w h2 => Wp d 14 58 [l0, l1, l2] (w.toList ++ st) h2 Q) (fun _ _ => False)) := (W_invS (st := st) f14_55 rfl rfl (by simp only [List.length_cons]; omega) rfl rfl hp)
theorem f14_58 : fetch 14 58 = some (.aload_n 0, 1, [], .null) := by decide +kernel
theorem w14_58 : Wp d 14 58 [some (.ref a), l1, l2] st h Q = Wp d 14 59 [some (.ref a), l1, l2] (.ref a :: st) h Q := W_go f14_58 rfl
theorem f14_59 : fetch 14 59 = some (.dup, 1, [], .null) := by decide +kernel
theorem w14_59i : Wp d 14 59 [l0, l1, l2] (.int x :: st) h Q = Wp d 14 60 [l0, l1, l2] (.int x :: .int x :: st) h Q := W_go f14_59 rfl
theorem w14_59 : Wp d 14 59 [l0, l1, l2] (.ref a :: st) h Q = Wp d 14 60 [l0, l1, l2] (.ref a :: .ref a :: st) h Q := W_go f14_59 rfl
theorem f14_60 : fetch 14 60 = some (.getfield 65, 3, [2, 8, 2090, 0], .null) := by decide +kernel
theorem w14_60 : Wp d 14 60 [l0, l1, l2] (.ref a :: st) h Q = gP (h.2 a) 2 8 (fun w => Wp d 14 63 [l0, l1, l2] (w :: st) h Q) := W_get f14_60 rfl
theorem f14_63 : fetch 14 63 = some (.iconst 1, 1, [], .null) := by decide +kernel
theorem w14_63 : Wp d 14 63 [l0, l1, l2] st h Q = Wp d 14 64 [l0, l1, l2] (.int (1 : Int32) :: st) h Q := W_go f14_63 rfl
theorem f14_64 : fetch 14 64 = some (.iadd, 1, [], .null) := by decide +kernel
theorem w14_64 : Wp d 14 64 [l0, l1, l2] (.int y :: .int x :: st) h Q = Wp d 14 65 [l0, l1, l2] (.int (x + y) :: st) h Q := W_go f14_64 rfl
theorem f14_65 : fetch 14 65 = some (.putfield 65, 3, [2, 8, 2090, 0], .null) := by decide +kernel
theorem w14_65 : Wp d 14 65 [l0, l1, l2] (v :: .ref a :: st) h Q = pP (h.2 a) 2 8 (ftOf 2 8) v a (fun c => Wp d 14 68 [l0, l1, l2] st (hset h a c) Q) := W_put f14_65 (by rfl)
theorem f14_68 : fetch 14 68 = some (.return_, 1, [], .null) := by decide +kernel
theorem w14_68 : Wp d 14 68 [l0, l1, l2] [] h Q = Q (.inl none, h) := W_fin f14_68 rfl
theorem hm15 : mhs 15 = [] := by decide +kernel
theorem hr15 : mret 15 = (some .int) := by decide +kernel
theorem f15_0 : fetch 15 0 = some (.aload_n 0, 1, [], .null) := by decide +kernel
theorem w15_0 : Wp d 15 0 [some (.ref a), l1, l2, l3] st h Q = Wp d 15 1 [some (.ref a), l1, l2, l3] (.ref a :: st) h Q := W_go f15_0 rfl
theorem f15_1 : fetch 15 1 = some (.getfield 65, 3, [2, 8, 2090, 0], .null) := by decide +kernel
theorem w15_1 : Wp d 15 1 [l0, l1, l2, l3] (.ref a :: st) h Q = gP (h.2 a) 2 8 (fun w => Wp d 15 4 [l0, l1, l2, l3] (w :: st) h Q) := W_get f15_1 rfl
theorem f15_4 : fetch 15 4 = some (.ifCond .le 93, 3, [], .null) := by decide +kernel
theorem w15_4 : Wp d 15 4 [l0, l1, l2, l3] (.int x :: st) h Q = if icond .le x 0 = true then Wp d 15 97 [l0, l1, l2, l3] st h Q else Wp d 15 7 [l0, l1, l2, l3] st h Q := W_if f15_4 rfl
theorem f15_7 : fetch 15 7 = some (.aload_n 0, 1, [], .null) := by decide +kernel
theorem w15_7 : Wp d 15 7 [some (.ref a), l1, l2, l3] st h Q = Wp d 15 8 [some (.ref a), l1, l2, l3] (.ref a :: st) h Q := W_go f15_7 rfl
theorem f15_8 : fetch 15 8 = some (.getfield 65, 3, [2, 8, 2090, 0], .null) := by decide +kernel
theorem w15_8 : Wp d 15 8 [l0, l1, l2, l3] (.ref a :: st) h Q = gP (h.2 a) 2 8 (fun w => Wp d 15 11 [l0, l1, l2, l3] (w :: st) h Q) := W_get f15_8 rfl
theorem f15_11 : fetch 15 11 = some (.iconst 1, 1, [], .null) := by decide +kernel
theorem w15_11 : Wp d 15 11 [l0, l1, l2, l3] st h Q = Wp d 15 12 [l0, l1, l2, l3] (.int (1 : Int32) :: st) h Q := W_go f15_11 rfl
theorem f15_12 : fetch 15 12 = some (.isub, 1, [], .null) := by decide +kernel
theorem w15_12 : Wp d 15 12 [l0, l1, l2, l3] (.int y :: .int x :: st) h Q = Wp d 15 13 [l0, l1, l2, l3] (.int (x - y) :: st) h Q := W_go f15_12 rfl
theorem f15_13 : fetch 15 13 = some (.istore_n 2, 1, [], .null) := by decide +kernel
theorem w15_13 : Wp d 15 13 [l0, l1, l2, l3] (.int x :: st) h Q = Wp d 15 14 [l0, kl l1, some (.int x), l3] st h Q := (W_st1 (pc' := 14) (k := 2) f15_13 rfl rfl (by simp only [List.length_cons, List.length_nil]; omega)).trans (by rw [pst1_succ]; rfl)
theorem f15_14 : fetch 15 14 = some (.aload_n 0, 1, [], .null) := by decide +kernel
theorem w15_14 : Wp d 15 14 [some (.ref a), l1, l2, l3] st h Q = Wp d 15 15 [some (.ref a), l1, l2, l3] (.ref a :: st) h Q := W_go f15_14 rfl
theorem f15_15 : fetch 15 15 = some (.getfield 25, 3, [2, 10, 2092, 0], .null) := by decide +kernel
theorem w15_15 : Wp d 15 15 [l0, l1, l2, l3] (.ref a :: st) h Q = gP (h.2 a) 2 10 (fun w => Wp d 15 18 [l0, l1, l2, l3] (w :: st) h Q) := W_get f15_15 rfl
theorem f15_18 : fetch 15 18 = some (.iload_n 2, 1, [], .null) := by decide +kernel
theorem w15_18 : Wp d 15 18 [l0, l1, some (.int x), l3] st h Q = Wp d 15 19 [l0, l1, some (.int x), l3] (.int x :: st) h Q := W_go f15_18 rfl
theorem f15_19 : fetch 15 19 = some (.invokestatic 54, 3, [115, 2, 0, 1, 3223, 1001, 3117, 3116], .null) := by decide +kernel
theorem w15_19 (hp : psum st ≤ 8) : Wp d 15 19 [l0, l1, l2, l3] (v1 :: v0 :: st) h Q = Cp d 115 [v0, v1] h (fun o => cK o (fun w h2 => Wp d 15 22 [l0, l1, l2, l3] (w.toList ++ st) h2 Q) (fun _ _ => False)) := (W_invS (st := st) f15_19 rfl rfl (by simp only [List.length_cons]; omega) rfl rfl hp)
theorem f15_22 : fetch 15 22 = some (.istore_n 3, 1, [], .null) := by decide +kernel
theorem w15_22 : Wp d 15 22 [l0, l1, l2, l3] (.int x :: st) h Q = Wp d 15 23 [l0, l1, kl l2, some (.int x)] st h Q := (W_st1 (pc' := 23) (k := 3) f15_22 rfl rfl (by simp only [List.length_cons, List.length_nil]; omega)).trans (by rw [pst1_succ]; rfl)
theorem f15_23 : fetch 15 23 = some (.iload_n 3, 1, [], .null) := by decide +kernel
theorem w15_23 : Wp d 15 23 [l0, l1, l2, some (.int x)] st h Q = Wp d 15 24 [l0, l1, l2, some (.int x)] (.int x :: st) h Q := W_go f15_23 rfl
theorem f15_24 : fetch 15 24 = some (.iconst (-1), 1, [], .null) := by decide +kernel
theorem w15_24 : Wp d 15 24 [l0, l1, l2, l3] st h Q = Wp d 15 25 [l0, l1, l2, l3] (.int (-1 : Int32) :: st) h Q := W_go f15_24 rfl
theorem f15_25 : fetch 15 25 = some (.if_icmp .ne 41, 3, [], .null) := by decide +kernel
theorem w15_25 : Wp d 15 25 [l0, l1, l2, l3] (.int y :: .int x :: st) h Q = if icond .ne x y = true then Wp d 15 66 [l0, l1, l2, l3] st h Q else Wp d 15 28 [l0, l1, l2, l3] st h Q := W_if f15_25 rfl
theorem f15_28 : fetch 15 28 = some (.aload_n 0, 1, [], .null) := by decide +kernel
theorem w15_28 : Wp d 15 28 [some (.ref a), l1, l2, l3] st h Q = Wp d 15 29 [some (.ref a), l1, l2, l3] (.ref a :: st) h Q := W_go f15_28 rfl
theorem f15_29 : fetch 15 29 = some (.getfield 28, 3, [2, 11, 2093, 0], .null) := by decide +kernel
theorem w15_29 : Wp d 15 29 [l0, l1, l2, l3] (.ref a :: st) h Q = gP (h.2 a) 2 11 (fun w => Wp d 15 32 [l0, l1, l2, l3] (w :: st) h Q) := W_get f15_29 rfl
theorem f15_32 : fetch 15 32 = some (.iload_n 2, 1, [], .null) := by decide +kernel
theorem w15_32 : Wp d 15 32 [l0, l1, some (.int x), l3] st h Q = Wp d 15 33 [l0, l1, some (.int x), l3] (.int x :: st) h Q := W_go f15_32 rfl
theorem f15_33 : fetch 15 33 = some (.invokestatic 54, 3, [115, 2, 0, 1, 3223, 1001, 3117, 3116], .null) := by decide +kernel
theorem w15_33 (hp : psum st ≤ 8) : Wp d 15 33 [l0, l1, l2, l3] (v1 :: v0 :: st) h Q = Cp d 115 [v0, v1] h (fun o => cK o (fun w h2 => Wp d 15 36 [l0, l1, l2, l3] (w.toList ++ st) h2 Q) (fun _ _ => False)) := (W_invS (st := st) f15_33 rfl rfl (by simp only [List.length_cons]; omega) rfl rfl hp)
theorem f15_36 : fetch 15 36 = some (.ifCond .le 30, 3, [], .null) := by decide +kernel
theorem w15_36 : Wp d 15 36 [l0, l1, l2, l3] (.int x :: st) h Q = if icond .le x 0 = true then Wp d 15 66 [l0, l1, l2, l3] st h Q else Wp d 15 39 [l0, l1, l2, l3] st h Q := W_if f15_36 rfl
theorem f15_39 : fetch 15 39 = some (.aload_n 0, 1, [], .null) := by decide +kernel
theorem w15_39 : Wp d 15 39 [some (.ref a), l1, l2, l3] st h Q = Wp d 15 40 [some (.ref a), l1, l2, l3] (.ref a :: st) h Q := W_go f15_39 rfl
theorem f15_40 : fetch 15 40 = some (.getfield 28, 3, [2, 11, 2093, 0], .null) := by decide +kernel
theorem w15_40 : Wp d 15 40 [l0, l1, l2, l3] (.ref a :: st) h Q = gP (h.2 a) 2 11 (fun w => Wp d 15 43 [l0, l1, l2, l3] (w :: st) h Q) := W_get f15_40 rfl
theorem f15_43 : fetch 15 43 = some (.iload_n 2, 1, [], .null) := by decide +kernel
theorem w15_43 : Wp d 15 43 [l0, l1, some (.int x), l3] st h Q = Wp d 15 44 [l0, l1, some (.int x), l3] (.int x :: st) h Q := W_go f15_43 rfl
theorem f15_44 : fetch 15 44 = some (.aload_n 0, 1, [], .null) := by decide +kernel
theorem w15_44 : Wp d 15 44 [some (.ref a), l1, l2, l3] st h Q = Wp d 15 45 [some (.ref a), l1, l2, l3] (.ref a :: st) h Q := W_go f15_44 rfl
theorem f15_45 : fetch 15 45 = some (.getfield 28, 3, [2, 11, 2093, 0], .null) := by decide +kernel
theorem w15_45 : Wp d 15 45 [l0, l1, l2, l3] (.ref a :: st) h Q = gP (h.2 a) 2 11 (fun w => Wp d 15 48 [l0, l1, l2, l3] (w :: st) h Q) := W_get f15_45 rfl
theorem f15_48 : fetch 15 48 = some (.iload_n 2, 1, [], .null) := by decide +kernel
theorem w15_48 : Wp d 15 48 [l0, l1, some (.int x), l3] st h Q = Wp d 15 49 [l0, l1, some (.int x), l3] (.int x :: st) h Q := W_go f15_48 rfl
theorem f15_49 : fetch 15 49 = some (.invokestatic 54, 3, [115, 2, 0, 1, 3223, 1001, 3117, 3116], .null) := by decide +kernel
theorem w15_49 (hp : psum st ≤ 8) : Wp d 15 49 [l0, l1, l2, l3] (v1 :: v0 :: st) h Q = Cp d 115 [v0, v1] h (fun o => cK o (fun w h2 => Wp d 15 52 [l0, l1, l2, l3] (w.toList ++ st) h2 Q) (fun _ _ => False)) := (W_invS (st := st) f15_49 rfl rfl (by simp only [List.length_cons]; omega) rfl rfl hp)
theorem f15_52 : fetch 15 52 = some (.iconst 1, 1, [], .null) := by decide +kernel
theorem w15_52 : Wp d 15 52 [l0, l1, l2, l3] st h Q = Wp d 15 53 [l0, l1, l2, l3] (.int (1 : Int32) :: st) h Q := W_go f15_52 rfl
theorem f15_53 : fetch 15 53 = some (.isub, 1, [], .null) := by decide +kernel
theorem w15_53 : Wp d 15 53 [l0, l1, l2, l3] (.int y :: .int x :: st) h Q = Wp d 15 54 [l0, l1, l2, l3] (.int (x - y) :: st) h Q := W_go f15_53 rfl
theorem f15_54 : fetch 15 54 = some (.invokestatic 68, 3, [116, 3, 0, 1, 4134, 1001, 2211, 2210], .null) := by decide +kernel
theorem w15_54 (hp : psum st ≤ 8) : Wp d 15 54 [l0, l1, l2, l3] (v2 :: v1 :: v0 :: st) h Q = Cp d 116 [v0, v1, v2] h (fun o => cK o (fun w h2 => Wp d 15 57 [l0, l1, l2, l3] (w.toList ++ st) h2 Q) (fun _ _ => False)) := (W_invS (st := st) f15_54 rfl rfl (by simp only [List.length_cons]; omega) rfl rfl hp)
theorem f15_57 : fetch 15 57 = some (.aload_n 0, 1, [], .null) := by decide +kernel
theorem w15_57 : Wp d 15 57 [some (.ref a), l1, l2, l3] st h Q = Wp d 15 58 [some (.ref a), l1, l2, l3] (.ref a :: st) h Q := W_go f15_57 rfl
theorem f15_58 : fetch 15 58 = some (.getfield 22, 3, [2, 9, 2091, 0], .null) := by decide +kernel
theorem w15_58 : Wp d 15 58 [l0, l1, l2, l3] (.ref a :: st) h Q = gP (h.2 a) 2 9 (fun w => Wp d 15 61 [l0, l1, l2, l3] (w :: st) h Q) := W_get f15_58 rfl
theorem f15_61 : fetch 15 61 = some (.iload_n 2, 1, [], .null) := by decide +kernel
theorem w15_61 : Wp d 15 61 [l0, l1, some (.int x), l3] st h Q = Wp d 15 62 [l0, l1, some (.int x), l3] (.int x :: st) h Q := W_go f15_61 rfl
theorem f15_62 : fetch 15 62 = some (.invokestatic 54, 3, [115, 2, 0, 1, 3223, 1001, 3117, 3116], .null) := by decide +kernel
theorem w15_62 (hp : psum st ≤ 8) : Wp d 15 62 [l0, l1, l2, l3] (v1 :: v0 :: st) h Q = Cp d 115 [v0, v1] h (fun o => cK o (fun w h2 => Wp d 15 65 [l0, l1, l2, l3] (w.toList ++ st) h2 Q) (fun _ _ => False)) := (W_invS (st := st) f15_62 rfl rfl (by simp only [List.length_cons]; omega) rfl rfl hp)
theorem f15_65 : fetch 15 65 = some (.istore_n 3, 1, [], .null) := by decide +kernel
theorem w15_65 : Wp d 15 65 [l0, l1, l2, l3] (.int x :: st) h Q = Wp d 15 66 [l0, l1, kl l2, some (.int x)] st h Q := (W_st1 (pc' := 66) (k := 3) f15_65 rfl rfl (by simp only [List.length_cons, List.length_nil]; omega)).trans (by rw [pst1_succ]; rfl)
theorem f15_66 : fetch 15 66 = some (.iload_n 3, 1, [], .null) := by decide +kernel
theorem w15_66 : Wp d 15 66 [l0, l1, l2, some (.int x)] st h Q = Wp d 15 67 [l0, l1, l2, some (.int x)] (.int x :: st) h Q := W_go f15_66 rfl
theorem f15_67 : fetch 15 67 = some (.iconst (-1), 1, [], .null) := by decide +kernel
theorem w15_67 : Wp d 15 67 [l0, l1, l2, l3] st h Q = Wp d 15 68 [l0, l1, l2, l3] (.int (-1 : Int32) :: st) h Q := W_go f15_67 rfl
theorem f15_68 : fetch 15 68 = some (.if_icmp .eq 21, 3, [], .null) := by decide +kernel
theorem w15_68 : Wp d 15 68 [l0, l1, l2, l3] (.int y :: .int x :: st) h Q = if icond .eq x y = true then Wp d 15 89 [l0, l1, l2, l3] st h Q else Wp d 15 71 [l0, l1, l2, l3] st h Q := W_if f15_68 rfl
theorem f15_71 : fetch 15 71 = some (.aload_n 0, 1, [], .null) := by decide +kernel
theorem w15_71 : Wp d 15 71 [some (.ref a), l1, l2, l3] st h Q = Wp d 15 72 [some (.ref a), l1, l2, l3] (.ref a :: st) h Q := W_go f15_71 rfl
theorem f15_72 : fetch 15 72 = some (.getfield 25, 3, [2, 10, 2092, 0], .null) := by decide +kernel
theorem w15_72 : Wp d 15 72 [l0, l1, l2, l3] (.ref a :: st) h Q = gP (h.2 a) 2 10 (fun w => Wp d 15 75 [l0, l1, l2, l3] (w :: st) h Q) := W_get f15_72 rfl
theorem f15_75 : fetch 15 75 = some (.iload_n 2, 1, [], .null) := by decide +kernel
theorem w15_75 : Wp d 15 75 [l0, l1, some (.int x), l3] st h Q = Wp d 15 76 [l0, l1, some (.int x), l3] (.int x :: st) h Q := W_go f15_75 rfl
theorem f15_76 : fetch 15 76 = some (.aload_n 1, 1, [], .null) := by decide +kernel
theorem w15_76 : Wp d 15 76 [l0, some (.ref a), l2, l3] st h Q = Wp d 15 77 [l0, some (.ref a), l2, l3] (.ref a :: st) h Q := W_go f15_76 rfl
theorem f15_77 : fetch 15 77 = some (.getfield 72, 3, [0, 9, 1084, 0], .null) := by decide +kernel
theorem w15_77 : Wp d 15 77 [l0, l1, l2, l3] (.ref a :: st) h Q = gP (h.2 a) 0 9 (fun w => Wp d 15 80 [l0, l1, l2, l3] (w :: st) h Q) := W_get f15_77 rfl
theorem f15_80 : fetch 15 80 = some (.iload_n 3, 1, [], .null) := by decide +kernel
theorem w15_80 : Wp d 15 80 [l0, l1, l2, some (.int x)] st h Q = Wp d 15 81 [l0, l1, l2, some (.int x)] (.int x :: st) h Q := W_go f15_80 rfl
theorem f15_81 : fetch 15 81 = some (.invokestatic 54, 3, [115, 2, 0, 1, 3223, 1001, 3117, 3116], .null) := by decide +kernel
theorem w15_81 (hp : psum st ≤ 8) : Wp d 15 81 [l0, l1, l2, l3] (v1 :: v0 :: st) h Q = Cp d 115 [v0, v1] h (fun o => cK o (fun w h2 => Wp d 15 84 [l0, l1, l2, l3] (w.toList ++ st) h2 Q) (fun _ _ => False)) := (W_invS (st := st) f15_81 rfl rfl (by simp only [List.length_cons]; omega) rfl rfl hp)
theorem f15_84 : fetch 15 84 = some (.invokestatic 68, 3, [116, 3, 0, 1, 4134, 1001, 2211, 2210], .null) := by decide +kernel
theorem w15_84 (hp : psum st ≤ 8) : Wp d 15 84 [l0, l1, l2, l3] (v2 :: v1 :: v0 :: st) h Q = Cp d 116 [v0, v1, v2] h (fun o => cK o (fun w h2 => Wp d 15 87 [l0, l1, l2, l3] (w.toList ++ st) h2 Q) (fun _ _ => False)) := (W_invS (st := st) f15_84 rfl rfl (by simp only [List.length_cons]; omega) rfl rfl hp)
theorem f15_87 : fetch 15 87 = some (.iload_n 3, 1, [], .null) := by decide +kernel
theorem w15_87 : Wp d 15 87 [l0, l1, l2, some (.int x)] st h Q = Wp d 15 88 [l0, l1, l2, some (.int x)] (.int x :: st) h Q := W_go f15_87 rfl
theorem f15_88 : fetch 15 88 = some (.ireturn, 1, [], .null) := by decide +kernel
theorem w15_88 : Wp d 15 88 [l0, l1, l2, l3] [.int x] h Q = Q (.inl (some (.int x)), h) := W_iret f15_88 hr15
theorem f15_89 : fetch 15 89 = some (.aload_n 0, 1, [], .null) := by decide +kernel
theorem w15_89 : Wp d 15 89 [some (.ref a), l1, l2, l3] st h Q = Wp d 15 90 [some (.ref a), l1, l2, l3] (.ref a :: st) h Q := W_go f15_89 rfl
theorem f15_90 : fetch 15 90 = some (.iload_n 2, 1, [], .null) := by decide +kernel
theorem w15_90 : Wp d 15 90 [l0, l1, some (.int x), l3] st h Q = Wp d 15 91 [l0, l1, some (.int x), l3] (.int x :: st) h Q := W_go f15_90 rfl
theorem f15_91 : fetch 15 91 = some (.putfield 65, 3, [2, 8, 2090, 0], .null) := by decide +kernel
theorem w15_91 : Wp d 15 91 [l0, l1, l2, l3] (v :: .ref a :: st) h Q = pP (h.2 a) 2 8 (ftOf 2 8) v a (fun c => Wp d 15 94 [l0, l1, l2, l3] st (hset h a c) Q) := W_put f15_91 (by rfl)
theorem f15_94 : fetch 15 94 = some (.goto (-94), 3, [], .null) := by decide +kernel
theorem w15_94 : Wp d 15 94 [l0, l1, l2, l3] st h Q = Wp d 15 0 [l0, l1, l2, l3] st h Q := W_go f15_94 rfl
theorem f15_97 : fetch 15 97 = some (.iconst (-1), 1, [], .null) := by decide +kernel
theorem w15_97 : Wp d 15 97 [l0, l1, l2, l3] st h Q = Wp d 15 98 [l0, l1, l2, l3] (.int (-1 : Int32) :: st) h Q := W_go f15_97 rfl
theorem f15_98 : fetch 15 98 = some (.ireturn, 1, [], .null) := by decide +kernel
theorem w15_98 : Wp d 15 98 [l0, l1, l2, l3] [.int x] h Q = Q (.inl (some (.int x)), h) := W_iret f15_98 hr15
theorem hm16 : mhs 16 = [] := by decide +kernel
theorem f16_0 : fetch 16 0 = some (.aload_n 0, 1, [], .null) := by decide +kernel
theorem w16_0 : Wp d 16 0 [some (.ref a), l1] st h Q = Wp d 16 1 [some (.ref a), l1] (.ref a :: st) h Q := W_go f16_0 rfl
theorem f16_1 : fetch 16 1 = some (.getfield 18, 3, [2, 7, 2089, 0], .null) := by decide +kernel
theorem w16_1 : Wp d 16 1 [l0, l1] (.ref a :: st) h Q = gP (h.2 a) 2 7 (fun w => Wp d 16 4 [l0, l1] (w :: st) h Q) := W_get f16_1 rfl
theorem f16_4 : fetch 16 4 = some (.aload_n 0, 1, [], .null) := by decide +kernel
theorem w16_4 : Wp d 16 4 [some (.ref a), l1] st h Q = Wp d 16 5 [some (.ref a), l1] (.ref a :: st) h Q := W_go f16_4 rfl
theorem f16_5 : fetch 16 5 = some (.getfield 34, 3, [2, 6, 2087, 0], .null) := by decide +kernel
theorem w16_5 : Wp d 16 5 [l0, l1] (.ref a :: st) h Q = gP (h.2 a) 2 6 (fun w => Wp d 16 8 [l0, l1] (w :: st) h Q) := W_get f16_5 rfl
theorem f16_8 : fetch 16 8 = some (.bipush 20, 2, [], .null) := by decide +kernel
theorem w16_8 : Wp d 16 8 [l0, l1] st h Q = Wp d 16 10 [l0, l1] (.int (20 : Int32) :: st) h Q := W_go f16_8 rfl
theorem f16_10 : fetch 16 10 = some (.irem, 1, [], .null) := by decide +kernel
theorem w16_10 (hy : y ≠ 0) : Wp d 16 10 [l0, l1] (.int y :: .int x :: st) h Q = Wp d 16 11 [l0, l1] (.int (x - x / y * y) :: st) h Q := W_go f16_10 (by simp only [pstep, pint2, if_neg hy, pgo])
theorem f16_11 : fetch 16 11 = some (.iload_n 1, 1, [], .null) := by decide +kernel
theorem w16_11 : Wp d 16 11 [l0, some (.int x)] st h Q = Wp d 16 12 [l0, some (.int x)] (.int x :: st) h Q := W_go f16_11 rfl
theorem f16_12 : fetch 16 12 = some (.invokestatic 68, 3, [116, 3, 0, 1, 4134, 1001, 2211, 2210], .null) := by decide +kernel
theorem w16_12 (hp : psum st ≤ 8) : Wp d 16 12 [l0, l1] (v2 :: v1 :: v0 :: st) h Q = Cp d 116 [v0, v1, v2] h (fun o => cK o (fun w h2 => Wp d 16 15 [l0, l1] (w.toList ++ st) h2 Q) (fun _ _ => False)) := (W_invS (st := st) f16_12 rfl rfl (by simp only [List.length_cons]; omega) rfl rfl hp)
theorem f16_15 : fetch 16 15 = some (.aload_n 0, 1, [], .null) := by decide +kernel
theorem w16_15 : Wp d 16 15 [some (.ref a), l1] st h Q = Wp d 16 16 [some (.ref a), l1] (.ref a :: st) h Q := W_go f16_15 rfl
theorem f16_16 : fetch 16 16 = some (.dup, 1, [], .null) := by decide +kernel
theorem w16_16i : Wp d 16 16 [l0, l1] (.int x :: st) h Q = Wp d 16 17 [l0, l1] (.int x :: .int x :: st) h Q := W_go f16_16 rfl
theorem w16_16 : Wp d 16 16 [l0, l1] (.ref a :: st) h Q = Wp d 16 17 [l0, l1] (.ref a :: .ref a :: st) h Q := W_go f16_16 rfl
theorem f16_17 : fetch 16 17 = some (.getfield 34, 3, [2, 6, 2087, 0], .null) := by decide +kernel
theorem w16_17 : Wp d 16 17 [l0, l1] (.ref a :: st) h Q = gP (h.2 a) 2 6 (fun w => Wp d 16 20 [l0, l1] (w :: st) h Q) := W_get f16_17 rfl
theorem f16_20 : fetch 16 20 = some (.iconst 1, 1, [], .null) := by decide +kernel
theorem w16_20 : Wp d 16 20 [l0, l1] st h Q = Wp d 16 21 [l0, l1] (.int (1 : Int32) :: st) h Q := W_go f16_20 rfl
theorem f16_21 : fetch 16 21 = some (.iadd, 1, [], .null) := by decide +kernel
theorem w16_21 : Wp d 16 21 [l0, l1] (.int y :: .int x :: st) h Q = Wp d 16 22 [l0, l1] (.int (x + y) :: st) h Q := W_go f16_21 rfl
theorem f16_22 : fetch 16 22 = some (.putfield 34, 3, [2, 6, 2087, 0], .null) := by decide +kernel
theorem w16_22 : Wp d 16 22 [l0, l1] (v :: .ref a :: st) h Q = pP (h.2 a) 2 6 (ftOf 2 6) v a (fun c => Wp d 16 25 [l0, l1] st (hset h a c) Q) := W_put f16_22 (by rfl)
theorem f16_25 : fetch 16 25 = some (.return_, 1, [], .null) := by decide +kernel
theorem w16_25 : Wp d 16 25 [l0, l1] [] h Q = Q (.inl none, h) := W_fin f16_25 rfl
theorem hm17 : mhs 17 = [] := by decide +kernel
theorem hr17 : mret 17 = (some .int) := by decide +kernel
theorem f17_0 : fetch 17 0 = some (.aload_n 0, 1, [], .null) := by decide +kernel
theorem w17_0 : Wp d 17 0 [some (.ref a), l1] st h Q = Wp d 17 1 [some (.ref a), l1] (.ref a :: st) h Q := W_go f17_0 rfl
theorem f17_1 : fetch 17 1 = some (.getfield 18, 3, [2, 7, 2089, 0], .null) := by decide +kernel
theorem w17_1 : Wp d 17 1 [l0, l1] (.ref a :: st) h Q = gP (h.2 a) 2 7 (fun w => Wp d 17 4 [l0, l1] (w :: st) h Q) := W_get f17_1 rfl
theorem f17_4 : fetch 17 4 = some (.aload_n 0, 1, [], .null) := by decide +kernel
theorem w17_4 : Wp d 17 4 [some (.ref a), l1] st h Q = Wp d 17 5 [some (.ref a), l1] (.ref a :: st) h Q := W_go f17_4 rfl
theorem f17_5 : fetch 17 5 = some (.getfield 34, 3, [2, 6, 2087, 0], .null) := by decide +kernel
theorem w17_5 : Wp d 17 5 [l0, l1] (.ref a :: st) h Q = gP (h.2 a) 2 6 (fun w => Wp d 17 8 [l0, l1] (w :: st) h Q) := W_get f17_5 rfl
theorem f17_8 : fetch 17 8 = some (.iconst 1, 1, [], .null) := by decide +kernel
theorem w17_8 : Wp d 17 8 [l0, l1] st h Q = Wp d 17 9 [l0, l1] (.int (1 : Int32) :: st) h Q := W_go f17_8 rfl
theorem f17_9 : fetch 17 9 = some (.isub, 1, [], .null) := by decide +kernel
theorem w17_9 : Wp d 17 9 [l0, l1] (.int y :: .int x :: st) h Q = Wp d 17 10 [l0, l1] (.int (x - y) :: st) h Q := W_go f17_9 rfl
theorem f17_10 : fetch 17 10 = some (.iload_n 1, 1, [], .null) := by decide +kernel
theorem w17_10 : Wp d 17 10 [l0, some (.int x)] st h Q = Wp d 17 11 [l0, some (.int x)] (.int x :: st) h Q := W_go f17_10 rfl
theorem f17_11 : fetch 17 11 = some (.isub, 1, [], .null) := by decide +kernel
theorem w17_11 : Wp d 17 11 [l0, l1] (.int y :: .int x :: st) h Q = Wp d 17 12 [l0, l1] (.int (x - y) :: st) h Q := W_go f17_11 rfl
theorem f17_12 : fetch 17 12 = some (.bipush 20, 2, [], .null) := by decide +kernel
theorem w17_12 : Wp d 17 12 [l0, l1] st h Q = Wp d 17 14 [l0, l1] (.int (20 : Int32) :: st) h Q := W_go f17_12 rfl
theorem f17_14 : fetch 17 14 = some (.irem, 1, [], .null) := by decide +kernel
theorem w17_14 (hy : y ≠ 0) : Wp d 17 14 [l0, l1] (.int y :: .int x :: st) h Q = Wp d 17 15 [l0, l1] (.int (x - x / y * y) :: st) h Q := W_go f17_14 (by simp only [pstep, pint2, if_neg hy, pgo])
theorem f17_15 : fetch 17 15 = some (.invokestatic 54, 3, [115, 2, 0, 1, 3223, 1001, 3117, 3116], .null) := by decide +kernel
theorem w17_15 (hp : psum st ≤ 8) : Wp d 17 15 [l0, l1] (v1 :: v0 :: st) h Q = Cp d 115 [v0, v1] h (fun o => cK o (fun w h2 => Wp d 17 18 [l0, l1] (w.toList ++ st) h2 Q) (fun _ _ => False)) := (W_invS (st := st) f17_15 rfl rfl (by simp only [List.length_cons]; omega) rfl rfl hp)
theorem f17_18 : fetch 17 18 = some (.ireturn, 1, [], .null) := by decide +kernel
theorem w17_18 : Wp d 17 18 [l0, l1] [.int x] h Q = Q (.inl (some (.int x)), h) := W_iret f17_18 hr17
theorem hm18 : mhs 18 = [] := by decide +kernel
theorem f18_0 : fetch 18 0 = some (.aload_n 0, 1, [], .null) := by decide +kernel
theorem w18_0 : Wp d 18 0 [some (.ref a), l1, l2] st h Q = Wp d 18 1 [some (.ref a), l1, l2] (.ref a :: st) h Q := W_go f18_0 rfl
theorem f18_1 : fetch 18 1 = some (.aload_n 1, 1, [], .null) := by decide +kernel
theorem w18_1 : Wp d 18 1 [l0, some (.ref a), l2] st h Q = Wp d 18 2 [l0, some (.ref a), l2] (.ref a :: st) h Q := W_go f18_1 rfl
theorem f18_2 : fetch 18 2 = some (.getfield 31, 3, [2, 0, 2071, 0], .null) := by decide +kernel
theorem w18_2 : Wp d 18 2 [l0, l1, l2] (.ref a :: st) h Q = gP (h.2 a) 2 0 (fun w => Wp d 18 5 [l0, l1, l2] (w :: st) h Q) := W_get f18_2 rfl
theorem f18_5 : fetch 18 5 = some (.putfield 31, 3, [2, 0, 2071, 0], .null) := by decide +kernel
theorem w18_5 : Wp d 18 5 [l0, l1, l2] (v :: .ref a :: st) h Q = pP (h.2 a) 2 0 (ftOf 2 0) v a (fun c => Wp d 18 8 [l0, l1, l2] st (hset h a c) Q) := W_put f18_5 (by rfl)
theorem f18_8 : fetch 18 8 = some (.aload_n 0, 1, [], .null) := by decide +kernel
theorem w18_8 : Wp d 18 8 [some (.ref a), l1, l2] st h Q = Wp d 18 9 [some (.ref a), l1, l2] (.ref a :: st) h Q := W_go f18_8 rfl
theorem f18_9 : fetch 18 9 = some (.aload_n 1, 1, [], .null) := by decide +kernel
theorem w18_9 : Wp d 18 9 [l0, some (.ref a), l2] st h Q = Wp d 18 10 [l0, some (.ref a), l2] (.ref a :: st) h Q := W_go f18_9 rfl
theorem f18_10 : fetch 18 10 = some (.getfield 40, 3, [2, 1, 2073, 0], .null) := by decide +kernel
theorem w18_10 : Wp d 18 10 [l0, l1, l2] (.ref a :: st) h Q = gP (h.2 a) 2 1 (fun w => Wp d 18 13 [l0, l1, l2] (w :: st) h Q) := W_get f18_10 rfl
theorem f18_13 : fetch 18 13 = some (.putfield 40, 3, [2, 1, 2073, 0], .null) := by decide +kernel
theorem w18_13 : Wp d 18 13 [l0, l1, l2] (v :: .ref a :: st) h Q = pP (h.2 a) 2 1 (ftOf 2 1) v a (fun c => Wp d 18 16 [l0, l1, l2] st (hset h a c) Q) := W_put f18_13 (by rfl)
theorem f18_16 : fetch 18 16 = some (.aload_n 0, 1, [], .null) := by decide +kernel
theorem w18_16 : Wp d 18 16 [some (.ref a), l1, l2] st h Q = Wp d 18 17 [some (.ref a), l1, l2] (.ref a :: st) h Q := W_go f18_16 rfl
theorem f18_17 : fetch 18 17 = some (.aload_n 1, 1, [], .null) := by decide +kernel
theorem w18_17 : Wp d 18 17 [l0, some (.ref a), l2] st h Q = Wp d 18 18 [l0, some (.ref a), l2] (.ref a :: st) h Q := W_go f18_17 rfl
theorem f18_18 : fetch 18 18 = some (.getfield 43, 3, [2, 2, 2076, 0], .null) := by decide +kernel
theorem w18_18 : Wp d 18 18 [l0, l1, l2] (.ref a :: st) h Q = gP (h.2 a) 2 2 (fun w => Wp d 18 21 [l0, l1, l2] (w :: st) h Q) := W_get f18_18 rfl
theorem f18_21 : fetch 18 21 = some (.putfield 43, 3, [2, 2, 2076, 0], .null) := by decide +kernel
theorem w18_21 : Wp d 18 21 [l0, l1, l2] (v :: .ref a :: st) h Q = pP (h.2 a) 2 2 (ftOf 2 2) v a (fun c => Wp d 18 24 [l0, l1, l2] st (hset h a c) Q) := W_put f18_21 (by rfl)
theorem f18_24 : fetch 18 24 = some (.aload_n 0, 1, [], .null) := by decide +kernel
theorem w18_24 : Wp d 18 24 [some (.ref a), l1, l2] st h Q = Wp d 18 25 [some (.ref a), l1, l2] (.ref a :: st) h Q := W_go f18_24 rfl
theorem f18_25 : fetch 18 25 = some (.aload_n 1, 1, [], .null) := by decide +kernel
theorem w18_25 : Wp d 18 25 [l0, some (.ref a), l2] st h Q = Wp d 18 26 [l0, some (.ref a), l2] (.ref a :: st) h Q := W_go f18_25 rfl
theorem f18_26 : fetch 18 26 = some (.getfield 9, 3, [2, 3, 2079, 0], .null) := by decide +kernel
theorem w18_26 : Wp d 18 26 [l0, l1, l2] (.ref a :: st) h Q = gP (h.2 a) 2 3 (fun w => Wp d 18 29 [l0, l1, l2] (w :: st) h Q) := W_get f18_26 rfl
theorem f18_29 : fetch 18 29 = some (.putfield 9, 3, [2, 3, 2079, 0], .null) := by decide +kernel
theorem w18_29 : Wp d 18 29 [l0, l1, l2] (v :: .ref a :: st) h Q = pP (h.2 a) 2 3 (ftOf 2 3) v a (fun c => Wp d 18 32 [l0, l1, l2] st (hset h a c) Q) := W_put f18_29 (by rfl)
theorem f18_32 : fetch 18 32 = some (.aload_n 0, 1, [], .null) := by decide +kernel
theorem w18_32 : Wp d 18 32 [some (.ref a), l1, l2] st h Q = Wp d 18 33 [some (.ref a), l1, l2] (.ref a :: st) h Q := W_go f18_32 rfl
theorem f18_33 : fetch 18 33 = some (.aload_n 1, 1, [], .null) := by decide +kernel
theorem w18_33 : Wp d 18 33 [l0, some (.ref a), l2] st h Q = Wp d 18 34 [l0, some (.ref a), l2] (.ref a :: st) h Q := W_go f18_33 rfl
theorem f18_34 : fetch 18 34 = some (.getfield 15, 3, [2, 4, 2082, 0], .null) := by decide +kernel
theorem w18_34 : Wp d 18 34 [l0, l1, l2] (.ref a :: st) h Q = gP (h.2 a) 2 4 (fun w => Wp d 18 37 [l0, l1, l2] (w :: st) h Q) := W_get f18_34 rfl
theorem f18_37 : fetch 18 37 = some (.putfield 15, 3, [2, 4, 2082, 0], .null) := by decide +kernel
theorem w18_37 : Wp d 18 37 [l0, l1, l2] (v :: .ref a :: st) h Q = pP (h.2 a) 2 4 (ftOf 2 4) v a (fun c => Wp d 18 40 [l0, l1, l2] st (hset h a c) Q) := W_put f18_37 (by rfl)
theorem f18_40 : fetch 18 40 = some (.aload_n 0, 1, [], .null) := by decide +kernel
theorem w18_40 : Wp d 18 40 [some (.ref a), l1, l2] st h Q = Wp d 18 41 [some (.ref a), l1, l2] (.ref a :: st) h Q := W_go f18_40 rfl
theorem f18_41 : fetch 18 41 = some (.aload_n 1, 1, [], .null) := by decide +kernel
theorem w18_41 : Wp d 18 41 [l0, some (.ref a), l2] st h Q = Wp d 18 42 [l0, some (.ref a), l2] (.ref a :: st) h Q := W_go f18_41 rfl
theorem f18_42 : fetch 18 42 = some (.getfield 62, 3, [2, 5, 2084, 0], .null) := by decide +kernel
theorem w18_42 : Wp d 18 42 [l0, l1, l2] (.ref a :: st) h Q = gP (h.2 a) 2 5 (fun w => Wp d 18 45 [l0, l1, l2] (w :: st) h Q) := W_get f18_42 rfl
theorem f18_45 : fetch 18 45 = some (.putfield 62, 3, [2, 5, 2084, 0], .null) := by decide +kernel
theorem w18_45 : Wp d 18 45 [l0, l1, l2] (v :: .ref a :: st) h Q = pP (h.2 a) 2 5 (ftOf 2 5) v a (fun c => Wp d 18 48 [l0, l1, l2] st (hset h a c) Q) := W_put f18_45 (by rfl)
theorem f18_48 : fetch 18 48 = some (.aload_n 0, 1, [], .null) := by decide +kernel
theorem w18_48 : Wp d 18 48 [some (.ref a), l1, l2] st h Q = Wp d 18 49 [some (.ref a), l1, l2] (.ref a :: st) h Q := W_go f18_48 rfl
theorem f18_49 : fetch 18 49 = some (.aload_n 1, 1, [], .null) := by decide +kernel
theorem w18_49 : Wp d 18 49 [l0, some (.ref a), l2] st h Q = Wp d 18 50 [l0, some (.ref a), l2] (.ref a :: st) h Q := W_go f18_49 rfl
theorem f18_50 : fetch 18 50 = some (.getfield 34, 3, [2, 6, 2087, 0], .null) := by decide +kernel
theorem w18_50 : Wp d 18 50 [l0, l1, l2] (.ref a :: st) h Q = gP (h.2 a) 2 6 (fun w => Wp d 18 53 [l0, l1, l2] (w :: st) h Q) := W_get f18_50 rfl
theorem f18_53 : fetch 18 53 = some (.putfield 34, 3, [2, 6, 2087, 0], .null) := by decide +kernel
theorem w18_53 : Wp d 18 53 [l0, l1, l2] (v :: .ref a :: st) h Q = pP (h.2 a) 2 6 (ftOf 2 6) v a (fun c => Wp d 18 56 [l0, l1, l2] st (hset h a c) Q) := W_put f18_53 (by rfl)
theorem f18_56 : fetch 18 56 = some (.aload_n 0, 1, [], .null) := by decide +kernel
theorem w18_56 : Wp d 18 56 [some (.ref a), l1, l2] st h Q = Wp d 18 57 [some (.ref a), l1, l2] (.ref a :: st) h Q := W_go f18_56 rfl
theorem f18_57 : fetch 18 57 = some (.aload_n 1, 1, [], .null) := by decide +kernel
theorem w18_57 : Wp d 18 57 [l0, some (.ref a), l2] st h Q = Wp d 18 58 [l0, some (.ref a), l2] (.ref a :: st) h Q := W_go f18_57 rfl
theorem f18_58 : fetch 18 58 = some (.getfield 65, 3, [2, 8, 2090, 0], .null) := by decide +kernel
theorem w18_58 : Wp d 18 58 [l0, l1, l2] (.ref a :: st) h Q = gP (h.2 a) 2 8 (fun w => Wp d 18 61 [l0, l1, l2] (w :: st) h Q) := W_get f18_58 rfl
theorem f18_61 : fetch 18 61 = some (.putfield 65, 3, [2, 8, 2090, 0], .null) := by decide +kernel
theorem w18_61 : Wp d 18 61 [l0, l1, l2] (v :: .ref a :: st) h Q = pP (h.2 a) 2 8 (ftOf 2 8) v a (fun c => Wp d 18 64 [l0, l1, l2] st (hset h a c) Q) := W_put f18_61 (by rfl)
theorem f18_64 : fetch 18 64 = some (.iconst 0, 1, [], .null) := by decide +kernel
theorem w18_64 : Wp d 18 64 [l0, l1, l2] st h Q = Wp d 18 65 [l0, l1, l2] (.int (0 : Int32) :: st) h Q := W_go f18_64 rfl
theorem f18_65 : fetch 18 65 = some (.istore_n 2, 1, [], .null) := by decide +kernel
theorem w18_65 : Wp d 18 65 [l0, l1, l2] (.int x :: st) h Q = Wp d 18 66 [l0, kl l1, some (.int x)] st h Q := (W_st1 (pc' := 66) (k := 2) f18_65 rfl rfl (by simp only [List.length_cons, List.length_nil]; omega)).trans (by rw [pst1_succ]; rfl)
theorem f18_66 : fetch 18 66 = some (.iload_n 2, 1, [], .null) := by decide +kernel
theorem w18_66 : Wp d 18 66 [l0, l1, some (.int x)] st h Q = Wp d 18 67 [l0, l1, some (.int x)] (.int x :: st) h Q := W_go f18_66 rfl
theorem f18_67 : fetch 18 67 = some (.aload_n 0, 1, [], .null) := by decide +kernel
theorem w18_67 : Wp d 18 67 [some (.ref a), l1, l2] st h Q = Wp d 18 68 [some (.ref a), l1, l2] (.ref a :: st) h Q := W_go f18_67 rfl
theorem f18_68 : fetch 18 68 = some (.getfield 65, 3, [2, 8, 2090, 0], .null) := by decide +kernel
theorem w18_68 : Wp d 18 68 [l0, l1, l2] (.ref a :: st) h Q = gP (h.2 a) 2 8 (fun w => Wp d 18 71 [l0, l1, l2] (w :: st) h Q) := W_get f18_68 rfl
theorem f18_71 : fetch 18 71 = some (.if_icmp .ge 63, 3, [], .null) := by decide +kernel
theorem w18_71 : Wp d 18 71 [l0, l1, l2] (.int y :: .int x :: st) h Q = if icond .ge x y = true then Wp d 18 134 [l0, l1, l2] st h Q else Wp d 18 74 [l0, l1, l2] st h Q := W_if f18_71 rfl
theorem f18_74 : fetch 18 74 = some (.iload_n 2, 1, [], .null) := by decide +kernel
theorem w18_74 : Wp d 18 74 [l0, l1, some (.int x)] st h Q = Wp d 18 75 [l0, l1, some (.int x)] (.int x :: st) h Q := W_go f18_74 rfl
theorem f18_75 : fetch 18 75 = some (.bipush 36, 2, [], .null) := by decide +kernel
theorem w18_75 : Wp d 18 75 [l0, l1, l2] st h Q = Wp d 18 77 [l0, l1, l2] (.int (36 : Int32) :: st) h Q := W_go f18_75 rfl
theorem f18_77 : fetch 18 77 = some (.if_icmp .ge 57, 3, [], .null) := by decide +kernel
theorem w18_77 : Wp d 18 77 [l0, l1, l2] (.int y :: .int x :: st) h Q = if icond .ge x y = true then Wp d 18 134 [l0, l1, l2] st h Q else Wp d 18 80 [l0, l1, l2] st h Q := W_if f18_77 rfl
theorem f18_80 : fetch 18 80 = some (.aload_n 0, 1, [], .null) := by decide +kernel
theorem w18_80 : Wp d 18 80 [some (.ref a), l1, l2] st h Q = Wp d 18 81 [some (.ref a), l1, l2] (.ref a :: st) h Q := W_go f18_80 rfl
theorem f18_81 : fetch 18 81 = some (.getfield 22, 3, [2, 9, 2091, 0], .null) := by decide +kernel
theorem w18_81 : Wp d 18 81 [l0, l1, l2] (.ref a :: st) h Q = gP (h.2 a) 2 9 (fun w => Wp d 18 84 [l0, l1, l2] (w :: st) h Q) := W_get f18_81 rfl
theorem f18_84 : fetch 18 84 = some (.iload_n 2, 1, [], .null) := by decide +kernel
theorem w18_84 : Wp d 18 84 [l0, l1, some (.int x)] st h Q = Wp d 18 85 [l0, l1, some (.int x)] (.int x :: st) h Q := W_go f18_84 rfl
theorem f18_85 : fetch 18 85 = some (.aload_n 1, 1, [], .null) := by decide +kernel
theorem w18_85 : Wp d 18 85 [l0, some (.ref a), l2] st h Q = Wp d 18 86 [l0, some (.ref a), l2] (.ref a :: st) h Q := W_go f18_85 rfl
theorem f18_86 : fetch 18 86 = some (.getfield 22, 3, [2, 9, 2091, 0], .null) := by decide +kernel
theorem w18_86 : Wp d 18 86 [l0, l1, l2] (.ref a :: st) h Q = gP (h.2 a) 2 9 (fun w => Wp d 18 89 [l0, l1, l2] (w :: st) h Q) := W_get f18_86 rfl
theorem f18_89 : fetch 18 89 = some (.iload_n 2, 1, [], .null) := by decide +kernel
theorem w18_89 : Wp d 18 89 [l0, l1, some (.int x)] st h Q = Wp d 18 90 [l0, l1, some (.int x)] (.int x :: st) h Q := W_go f18_89 rfl
theorem f18_90 : fetch 18 90 = some (.invokestatic 54, 3, [115, 2, 0, 1, 3223, 1001, 3117, 3116], .null) := by decide +kernel
theorem w18_90 (hp : psum st ≤ 8) : Wp d 18 90 [l0, l1, l2] (v1 :: v0 :: st) h Q = Cp d 115 [v0, v1] h (fun o => cK o (fun w h2 => Wp d 18 93 [l0, l1, l2] (w.toList ++ st) h2 Q) (fun _ _ => False)) := (W_invS (st := st) f18_90 rfl rfl (by simp only [List.length_cons]; omega) rfl rfl hp)
theorem f18_93 : fetch 18 93 = some (.invokestatic 68, 3, [116, 3, 0, 1, 4134, 1001, 2211, 2210], .null) := by decide +kernel
theorem w18_93 (hp : psum st ≤ 8) : Wp d 18 93 [l0, l1, l2] (v2 :: v1 :: v0 :: st) h Q = Cp d 116 [v0, v1, v2] h (fun o => cK o (fun w h2 => Wp d 18 96 [l0, l1, l2] (w.toList ++ st) h2 Q) (fun _ _ => False)) := (W_invS (st := st) f18_93 rfl rfl (by simp only [List.length_cons]; omega) rfl rfl hp)
theorem f18_96 : fetch 18 96 = some (.aload_n 0, 1, [], .null) := by decide +kernel
theorem w18_96 : Wp d 18 96 [some (.ref a), l1, l2] st h Q = Wp d 18 97 [some (.ref a), l1, l2] (.ref a :: st) h Q := W_go f18_96 rfl
theorem f18_97 : fetch 18 97 = some (.getfield 25, 3, [2, 10, 2092, 0], .null) := by decide +kernel
theorem w18_97 : Wp d 18 97 [l0, l1, l2] (.ref a :: st) h Q = gP (h.2 a) 2 10 (fun w => Wp d 18 100 [l0, l1, l2] (w :: st) h Q) := W_get f18_97 rfl
theorem f18_100 : fetch 18 100 = some (.iload_n 2, 1, [], .null) := by decide +kernel
theorem w18_100 : Wp d 18 100 [l0, l1, some (.int x)] st h Q = Wp d 18 101 [l0, l1, some (.int x)] (.int x :: st) h Q := W_go f18_100 rfl
theorem f18_101 : fetch 18 101 = some (.aload_n 1, 1, [], .null) := by decide +kernel
theorem w18_101 : Wp d 18 101 [l0, some (.ref a), l2] st h Q = Wp d 18 102 [l0, some (.ref a), l2] (.ref a :: st) h Q := W_go f18_101 rfl
theorem f18_102 : fetch 18 102 = some (.getfield 25, 3, [2, 10, 2092, 0], .null) := by decide +kernel
theorem w18_102 : Wp d 18 102 [l0, l1, l2] (.ref a :: st) h Q = gP (h.2 a) 2 10 (fun w => Wp d 18 105 [l0, l1, l2] (w :: st) h Q) := W_get f18_102 rfl
theorem f18_105 : fetch 18 105 = some (.iload_n 2, 1, [], .null) := by decide +kernel
theorem w18_105 : Wp d 18 105 [l0, l1, some (.int x)] st h Q = Wp d 18 106 [l0, l1, some (.int x)] (.int x :: st) h Q := W_go f18_105 rfl
theorem f18_106 : fetch 18 106 = some (.invokestatic 54, 3, [115, 2, 0, 1, 3223, 1001, 3117, 3116], .null) := by decide +kernel
theorem w18_106 (hp : psum st ≤ 8) : Wp d 18 106 [l0, l1, l2] (v1 :: v0 :: st) h Q = Cp d 115 [v0, v1] h (fun o => cK o (fun w h2 => Wp d 18 109 [l0, l1, l2] (w.toList ++ st) h2 Q) (fun _ _ => False)) := (W_invS (st := st) f18_106 rfl rfl (by simp only [List.length_cons]; omega) rfl rfl hp)
theorem f18_109 : fetch 18 109 = some (.invokestatic 68, 3, [116, 3, 0, 1, 4134, 1001, 2211, 2210], .null) := by decide +kernel
theorem w18_109 (hp : psum st ≤ 8) : Wp d 18 109 [l0, l1, l2] (v2 :: v1 :: v0 :: st) h Q = Cp d 116 [v0, v1, v2] h (fun o => cK o (fun w h2 => Wp d 18 112 [l0, l1, l2] (w.toList ++ st) h2 Q) (fun _ _ => False)) := (W_invS (st := st) f18_109 rfl rfl (by simp only [List.length_cons]; omega) rfl rfl hp)
theorem f18_112 : fetch 18 112 = some (.aload_n 0, 1, [], .null) := by decide +kernel
theorem w18_112 : Wp d 18 112 [some (.ref a), l1, l2] st h Q = Wp d 18 113 [some (.ref a), l1, l2] (.ref a :: st) h Q := W_go f18_112 rfl
theorem f18_113 : fetch 18 113 = some (.getfield 28, 3, [2, 11, 2093, 0], .null) := by decide +kernel
theorem w18_113 : Wp d 18 113 [l0, l1, l2] (.ref a :: st) h Q = gP (h.2 a) 2 11 (fun w => Wp d 18 116 [l0, l1, l2] (w :: st) h Q) := W_get f18_113 rfl
theorem f18_116 : fetch 18 116 = some (.iload_n 2, 1, [], .null) := by decide +kernel
theorem w18_116 : Wp d 18 116 [l0, l1, some (.int x)] st h Q = Wp d 18 117 [l0, l1, some (.int x)] (.int x :: st) h Q := W_go f18_116 rfl
theorem f18_117 : fetch 18 117 = some (.aload_n 1, 1, [], .null) := by decide +kernel
theorem w18_117 : Wp d 18 117 [l0, some (.ref a), l2] st h Q = Wp d 18 118 [l0, some (.ref a), l2] (.ref a :: st) h Q := W_go f18_117 rfl
theorem f18_118 : fetch 18 118 = some (.getfield 28, 3, [2, 11, 2093, 0], .null) := by decide +kernel
theorem w18_118 : Wp d 18 118 [l0, l1, l2] (.ref a :: st) h Q = gP (h.2 a) 2 11 (fun w => Wp d 18 121 [l0, l1, l2] (w :: st) h Q) := W_get f18_118 rfl
theorem f18_121 : fetch 18 121 = some (.iload_n 2, 1, [], .null) := by decide +kernel
theorem w18_121 : Wp d 18 121 [l0, l1, some (.int x)] st h Q = Wp d 18 122 [l0, l1, some (.int x)] (.int x :: st) h Q := W_go f18_121 rfl
theorem f18_122 : fetch 18 122 = some (.invokestatic 54, 3, [115, 2, 0, 1, 3223, 1001, 3117, 3116], .null) := by decide +kernel
theorem w18_122 (hp : psum st ≤ 8) : Wp d 18 122 [l0, l1, l2] (v1 :: v0 :: st) h Q = Cp d 115 [v0, v1] h (fun o => cK o (fun w h2 => Wp d 18 125 [l0, l1, l2] (w.toList ++ st) h2 Q) (fun _ _ => False)) := (W_invS (st := st) f18_122 rfl rfl (by simp only [List.length_cons]; omega) rfl rfl hp)
theorem f18_125 : fetch 18 125 = some (.invokestatic 68, 3, [116, 3, 0, 1, 4134, 1001, 2211, 2210], .null) := by decide +kernel
theorem w18_125 (hp : psum st ≤ 8) : Wp d 18 125 [l0, l1, l2] (v2 :: v1 :: v0 :: st) h Q = Cp d 116 [v0, v1, v2] h (fun o => cK o (fun w h2 => Wp d 18 128 [l0, l1, l2] (w.toList ++ st) h2 Q) (fun _ _ => False)) := (W_invS (st := st) f18_125 rfl rfl (by simp only [List.length_cons]; omega) rfl rfl hp)
theorem f18_128 : fetch 18 128 = some (.iinc 2 1, 3, [], .null) := by decide +kernel
theorem w18_128 : Wp d 18 128 [l0, l1, some (.int x)] st h Q = Wp d 18 131 [l0, kl l1, some (.int (x + (1 : Int32)))] st h Q := (W_iinc (y := (1 : Int32)) f18_128 rfl (by simp only [List.length_cons, List.length_nil]; omega) (by decide)).trans (by rw [pst1_succ]; rfl)
theorem f18_131 : fetch 18 131 = some (.goto (-65), 3, [], .null) := by decide +kernel
theorem w18_131 : Wp d 18 131 [l0, l1, l2] st h Q = Wp d 18 66 [l0, l1, l2] st h Q := W_go f18_131 rfl
theorem f18_134 : fetch 18 134 = some (.return_, 1, [], .null) := by decide +kernel
theorem w18_134 : Wp d 18 134 [l0, l1, l2] [] h Q = Q (.inl none, h) := W_fin f18_134 rfl
theorem hm19 : mhs 19 = [] := by decide +kernel
theorem f19_0 : fetch 19 0 = some (.lload_n 1, 1, [], .null) := by decide +kernel
theorem w19_0 : Wp d 19 0 [l0, some (.long x8), l2, l3, l4, l5] st h Q = Wp d 19 1 [l0, some (.long x8), l2, l3, l4, l5] (.long x8 :: st) h Q := W_go f19_0 rfl
theorem f19_1 : fetch 19 1 = some (.ldc2_w 75, 3, [3214], .long (31)) := by decide +kernel
theorem w19_1 : Wp d 19 1 [l0, l1, l2, l3, l4, l5] st h Q = Wp d 19 4 [l0, l1, l2, l3, l4, l5] ((.long (31)) :: st) h Q := W_go f19_1 rfl
theorem f19_4 : fetch 19 4 = some (.lmul, 1, [], .null) := by decide +kernel
theorem w19_4 : Wp d 19 4 [l0, l1, l2, l3, l4, l5] (.long y8 :: .long x8 :: st) h Q = Wp d 19 5 [l0, l1, l2, l3, l4, l5] (.long (x8 * y8) :: st) h Q := W_go f19_4 rfl
theorem f19_5 : fetch 19 5 = some (.aload_n 0, 1, [], .null) := by decide +kernel
theorem w19_5 : Wp d 19 5 [some (.ref a), l1, l2, l3, l4, l5] st h Q = Wp d 19 6 [some (.ref a), l1, l2, l3, l4, l5] (.ref a :: st) h Q := W_go f19_5 rfl
theorem f19_6 : fetch 19 6 = some (.getfield 43, 3, [2, 2, 2076, 0], .null) := by decide +kernel
theorem w19_6 : Wp d 19 6 [l0, l1, l2, l3, l4, l5] (.ref a :: st) h Q = gP (h.2 a) 2 2 (fun w => Wp d 19 9 [l0, l1, l2, l3, l4, l5] (w :: st) h Q) := W_get f19_6 rfl
theorem f19_9 : fetch 19 9 = some (.i2l, 1, [], .null) := by decide +kernel
theorem w19_9 : Wp d 19 9 [l0, l1, l2, l3, l4, l5] (.int x :: st) h Q = Wp d 19 10 [l0, l1, l2, l3, l4, l5] (.long x.toInt64 :: st) h Q := W_go f19_9 rfl
theorem f19_10 : fetch 19 10 = some (.ladd, 1, [], .null) := by decide +kernel
theorem w19_10 : Wp d 19 10 [l0, l1, l2, l3, l4, l5] (.long y8 :: .long x8 :: st) h Q = Wp d 19 11 [l0, l1, l2, l3, l4, l5] (.long (x8 + y8) :: st) h Q := W_go f19_10 rfl
theorem f19_11 : fetch 19 11 = some (.lstore_n 3, 1, [], .null) := by decide +kernel
theorem w19_11 : Wp d 19 11 [l0, l1, l2, l3, l4, l5] (.long x8 :: st) h Q = Wp d 19 12 [l0, l1, kl l2, some (.long x8), none, l5] st h Q := (W_st2 (pc' := 12) (k := 3) f19_11 rfl rfl (by simp only [List.length_cons, List.length_nil]; omega)).trans (by rw [pst2_succ]; rfl)
theorem f19_12 : fetch 19 12 = some (.lload_n 3, 1, [], .null) := by decide +kernel
theorem w19_12 : Wp d 19 12 [l0, l1, l2, some (.long x8), l4, l5] st h Q = Wp d 19 13 [l0, l1, l2, some (.long x8), l4, l5] (.long x8 :: st) h Q := W_go f19_12 rfl
theorem f19_13 : fetch 19 13 = some (.ldc2_w 75, 3, [3214], .long (31)) := by decide +kernel
theorem w19_13 : Wp d 19 13 [l0, l1, l2, l3, l4, l5] st h Q = Wp d 19 16 [l0, l1, l2, l3, l4, l5] ((.long (31)) :: st) h Q := W_go f19_13 rfl
theorem f19_16 : fetch 19 16 = some (.lmul, 1, [], .null) := by decide +kernel
theorem w19_16 : Wp d 19 16 [l0, l1, l2, l3, l4, l5] (.long y8 :: .long x8 :: st) h Q = Wp d 19 17 [l0, l1, l2, l3, l4, l5] (.long (x8 * y8) :: st) h Q := W_go f19_16 rfl
theorem f19_17 : fetch 19 17 = some (.aload_n 0, 1, [], .null) := by decide +kernel
theorem w19_17 : Wp d 19 17 [some (.ref a), l1, l2, l3, l4, l5] st h Q = Wp d 19 18 [some (.ref a), l1, l2, l3, l4, l5] (.ref a :: st) h Q := W_go f19_17 rfl
theorem f19_18 : fetch 19 18 = some (.getfield 40, 3, [2, 1, 2073, 0], .null) := by decide +kernel
theorem w19_18 : Wp d 19 18 [l0, l1, l2, l3, l4, l5] (.ref a :: st) h Q = gP (h.2 a) 2 1 (fun w => Wp d 19 21 [l0, l1, l2, l3, l4, l5] (w :: st) h Q) := W_get f19_18 rfl
theorem f19_21 : fetch 19 21 = some (.i2l, 1, [], .null) := by decide +kernel
theorem w19_21 : Wp d 19 21 [l0, l1, l2, l3, l4, l5] (.int x :: st) h Q = Wp d 19 22 [l0, l1, l2, l3, l4, l5] (.long x.toInt64 :: st) h Q := W_go f19_21 rfl
theorem f19_22 : fetch 19 22 = some (.ladd, 1, [], .null) := by decide +kernel
theorem w19_22 : Wp d 19 22 [l0, l1, l2, l3, l4, l5] (.long y8 :: .long x8 :: st) h Q = Wp d 19 23 [l0, l1, l2, l3, l4, l5] (.long (x8 + y8) :: st) h Q := W_go f19_22 rfl
theorem f19_23 : fetch 19 23 = some (.lstore_n 3, 1, [], .null) := by decide +kernel
theorem w19_23 : Wp d 19 23 [l0, l1, l2, l3, l4, l5] (.long x8 :: st) h Q = Wp d 19 24 [l0, l1, kl l2, some (.long x8), none, l5] st h Q := (W_st2 (pc' := 24) (k := 3) f19_23 rfl rfl (by simp only [List.length_cons, List.length_nil]; omega)).trans (by rw [pst2_succ]; rfl)
theorem f19_24 : fetch 19 24 = some (.lload_n 3, 1, [], .null) := by decide +kernel
theorem w19_24 : Wp d 19 24 [l0, l1, l2, some (.long x8), l4, l5] st h Q = Wp d 19 25 [l0, l1, l2, some (.long x8), l4, l5] (.long x8 :: st) h Q := W_go f19_24 rfl
theorem f19_25 : fetch 19 25 = some (.ldc2_w 75, 3, [3214], .long (31)) := by decide +kernel
theorem w19_25 : Wp d 19 25 [l0, l1, l2, l3, l4, l5] st h Q = Wp d 19 28 [l0, l1, l2, l3, l4, l5] ((.long (31)) :: st) h Q := W_go f19_25 rfl
theorem f19_28 : fetch 19 28 = some (.lmul, 1, [], .null) := by decide +kernel
theorem w19_28 : Wp d 19 28 [l0, l1, l2, l3, l4, l5] (.long y8 :: .long x8 :: st) h Q = Wp d 19 29 [l0, l1, l2, l3, l4, l5] (.long (x8 * y8) :: st) h Q := W_go f19_28 rfl
theorem f19_29 : fetch 19 29 = some (.aload_n 0, 1, [], .null) := by decide +kernel
theorem w19_29 : Wp d 19 29 [some (.ref a), l1, l2, l3, l4, l5] st h Q = Wp d 19 30 [some (.ref a), l1, l2, l3, l4, l5] (.ref a :: st) h Q := W_go f19_29 rfl
theorem f19_30 : fetch 19 30 = some (.getfield 9, 3, [2, 3, 2079, 0], .null) := by decide +kernel
theorem w19_30 : Wp d 19 30 [l0, l1, l2, l3, l4, l5] (.ref a :: st) h Q = gP (h.2 a) 2 3 (fun w => Wp d 19 33 [l0, l1, l2, l3, l4, l5] (w :: st) h Q) := W_get f19_30 rfl
theorem f19_33 : fetch 19 33 = some (.i2l, 1, [], .null) := by decide +kernel
theorem w19_33 : Wp d 19 33 [l0, l1, l2, l3, l4, l5] (.int x :: st) h Q = Wp d 19 34 [l0, l1, l2, l3, l4, l5] (.long x.toInt64 :: st) h Q := W_go f19_33 rfl
theorem f19_34 : fetch 19 34 = some (.ladd, 1, [], .null) := by decide +kernel
theorem w19_34 : Wp d 19 34 [l0, l1, l2, l3, l4, l5] (.long y8 :: .long x8 :: st) h Q = Wp d 19 35 [l0, l1, l2, l3, l4, l5] (.long (x8 + y8) :: st) h Q := W_go f19_34 rfl
theorem f19_35 : fetch 19 35 = some (.lstore_n 3, 1, [], .null) := by decide +kernel
theorem w19_35 : Wp d 19 35 [l0, l1, l2, l3, l4, l5] (.long x8 :: st) h Q = Wp d 19 36 [l0, l1, kl l2, some (.long x8), none, l5] st h Q := (W_st2 (pc' := 36) (k := 3) f19_35 rfl rfl (by simp only [List.length_cons, List.length_nil]; omega)).trans (by rw [pst2_succ]; rfl)
theorem f19_36 : fetch 19 36 = some (.lload_n 3, 1, [], .null) := by decide +kernel
theorem w19_36 : Wp d 19 36 [l0, l1, l2, some (.long x8), l4, l5] st h Q = Wp d 19 37 [l0, l1, l2, some (.long x8), l4, l5] (.long x8 :: st) h Q := W_go f19_36 rfl
theorem f19_37 : fetch 19 37 = some (.ldc2_w 75, 3, [3214], .long (31)) := by decide +kernel
theorem w19_37 : Wp d 19 37 [l0, l1, l2, l3, l4, l5] st h Q = Wp d 19 40 [l0, l1, l2, l3, l4, l5] ((.long (31)) :: st) h Q := W_go f19_37 rfl
theorem f19_40 : fetch 19 40 = some (.lmul, 1, [], .null) := by decide +kernel
theorem w19_40 : Wp d 19 40 [l0, l1, l2, l3, l4, l5] (.long y8 :: .long x8 :: st) h Q = Wp d 19 41 [l0, l1, l2, l3, l4, l5] (.long (x8 * y8) :: st) h Q := W_go f19_40 rfl
theorem f19_41 : fetch 19 41 = some (.aload_n 0, 1, [], .null) := by decide +kernel
theorem w19_41 : Wp d 19 41 [some (.ref a), l1, l2, l3, l4, l5] st h Q = Wp d 19 42 [some (.ref a), l1, l2, l3, l4, l5] (.ref a :: st) h Q := W_go f19_41 rfl
theorem f19_42 : fetch 19 42 = some (.invokevirtual 77, 3, [13, 1, 3, 0, 3215, 1012, 3218, 3216, 3217], .null) := by decide +kernel
theorem w19_42 (hp : psum st ≤ 8) : Wp d 19 42 [l0, l1, l2, l3, l4, l5] ((.ref b) :: st) h Q = rP (h.2 b) 2 (Cp d 13 [(.ref b)] h (fun o => cK o (fun w h2 => Wp d 19 45 [l0, l1, l2, l3, l4, l5] (w.toList ++ st) h2 Q) (fun E h2 => Q (.inr E, h2)))) := (W_invV (st := st) f19_42 rfl rfl (by simp only [List.length_cons]; omega) rfl rfl hp).trans (by simp only [hm19, if_true])
theorem f19_45 : fetch 19 45 = some (.ifCond .eq 7, 3, [], .null) := by decide +kernel
theorem w19_45 : Wp d 19 45 [l0, l1, l2, l3, l4, l5] (.int x :: st) h Q = if icond .eq x 0 = true then Wp d 19 52 [l0, l1, l2, l3, l4, l5] st h Q else Wp d 19 48 [l0, l1, l2, l3, l4, l5] st h Q := W_if f19_45 rfl
theorem f19_48 : fetch 19 48 = some (.iconst 1, 1, [], .null) := by decide +kernel
theorem w19_48 : Wp d 19 48 [l0, l1, l2, l3, l4, l5] st h Q = Wp d 19 49 [l0, l1, l2, l3, l4, l5] (.int (1 : Int32) :: st) h Q := W_go f19_48 rfl
theorem f19_49 : fetch 19 49 = some (.goto 4, 3, [], .null) := by decide +kernel
theorem w19_49 : Wp d 19 49 [l0, l1, l2, l3, l4, l5] st h Q = Wp d 19 53 [l0, l1, l2, l3, l4, l5] st h Q := W_go f19_49 rfl
theorem f19_52 : fetch 19 52 = some (.iconst 0, 1, [], .null) := by decide +kernel
theorem w19_52 : Wp d 19 52 [l0, l1, l2, l3, l4, l5] st h Q = Wp d 19 53 [l0, l1, l2, l3, l4, l5] (.int (0 : Int32) :: st) h Q := W_go f19_52 rfl
theorem f19_53 : fetch 19 53 = some (.i2l, 1, [], .null) := by decide +kernel
theorem w19_53 : Wp d 19 53 [l0, l1, l2, l3, l4, l5] (.int x :: st) h Q = Wp d 19 54 [l0, l1, l2, l3, l4, l5] (.long x.toInt64 :: st) h Q := W_go f19_53 rfl
theorem f19_54 : fetch 19 54 = some (.ladd, 1, [], .null) := by decide +kernel
theorem w19_54 : Wp d 19 54 [l0, l1, l2, l3, l4, l5] (.long y8 :: .long x8 :: st) h Q = Wp d 19 55 [l0, l1, l2, l3, l4, l5] (.long (x8 + y8) :: st) h Q := W_go f19_54 rfl
theorem f19_55 : fetch 19 55 = some (.lstore_n 3, 1, [], .null) := by decide +kernel
theorem w19_55 : Wp d 19 55 [l0, l1, l2, l3, l4, l5] (.long x8 :: st) h Q = Wp d 19 56 [l0, l1, kl l2, some (.long x8), none, l5] st h Q := (W_st2 (pc' := 56) (k := 3) f19_55 rfl rfl (by simp only [List.length_cons, List.length_nil]; omega)).trans (by rw [pst2_succ]; rfl)
theorem f19_56 : fetch 19 56 = some (.lload_n 3, 1, [], .null) := by decide +kernel
theorem w19_56 : Wp d 19 56 [l0, l1, l2, some (.long x8), l4, l5] st h Q = Wp d 19 57 [l0, l1, l2, some (.long x8), l4, l5] (.long x8 :: st) h Q := W_go f19_56 rfl
theorem f19_57 : fetch 19 57 = some (.ldc2_w 75, 3, [3214], .long (31)) := by decide +kernel
theorem w19_57 : Wp d 19 57 [l0, l1, l2, l3, l4, l5] st h Q = Wp d 19 60 [l0, l1, l2, l3, l4, l5] ((.long (31)) :: st) h Q := W_go f19_57 rfl
theorem f19_60 : fetch 19 60 = some (.lmul, 1, [], .null) := by decide +kernel
theorem w19_60 : Wp d 19 60 [l0, l1, l2, l3, l4, l5] (.long y8 :: .long x8 :: st) h Q = Wp d 19 61 [l0, l1, l2, l3, l4, l5] (.long (x8 * y8) :: st) h Q := W_go f19_60 rfl
theorem f19_61 : fetch 19 61 = some (.aload_n 0, 1, [], .null) := by decide +kernel
theorem w19_61 : Wp d 19 61 [some (.ref a), l1, l2, l3, l4, l5] st h Q = Wp d 19 62 [some (.ref a), l1, l2, l3, l4, l5] (.ref a :: st) h Q := W_go f19_61 rfl
theorem f19_62 : fetch 19 62 = some (.getfield 62, 3, [2, 5, 2084, 0], .null) := by decide +kernel
theorem w19_62 : Wp d 19 62 [l0, l1, l2, l3, l4, l5] (.ref a :: st) h Q = gP (h.2 a) 2 5 (fun w => Wp d 19 65 [l0, l1, l2, l3, l4, l5] (w :: st) h Q) := W_get f19_62 rfl
theorem f19_65 : fetch 19 65 = some (.i2l, 1, [], .null) := by decide +kernel
theorem w19_65 : Wp d 19 65 [l0, l1, l2, l3, l4, l5] (.int x :: st) h Q = Wp d 19 66 [l0, l1, l2, l3, l4, l5] (.long x.toInt64 :: st) h Q := W_go f19_65 rfl
theorem f19_66 : fetch 19 66 = some (.ladd, 1, [], .null) := by decide +kernel
theorem w19_66 : Wp d 19 66 [l0, l1, l2, l3, l4, l5] (.long y8 :: .long x8 :: st) h Q = Wp d 19 67 [l0, l1, l2, l3, l4, l5] (.long (x8 + y8) :: st) h Q := W_go f19_66 rfl
theorem f19_67 : fetch 19 67 = some (.lstore_n 3, 1, [], .null) := by decide +kernel
theorem w19_67 : Wp d 19 67 [l0, l1, l2, l3, l4, l5] (.long x8 :: st) h Q = Wp d 19 68 [l0, l1, kl l2, some (.long x8), none, l5] st h Q := (W_st2 (pc' := 68) (k := 3) f19_67 rfl rfl (by simp only [List.length_cons, List.length_nil]; omega)).trans (by rw [pst2_succ]; rfl)
theorem f19_68 : fetch 19 68 = some (.lload_n 3, 1, [], .null) := by decide +kernel
theorem w19_68 : Wp d 19 68 [l0, l1, l2, some (.long x8), l4, l5] st h Q = Wp d 19 69 [l0, l1, l2, some (.long x8), l4, l5] (.long x8 :: st) h Q := W_go f19_68 rfl
theorem f19_69 : fetch 19 69 = some (.ldc2_w 75, 3, [3214], .long (31)) := by decide +kernel
theorem w19_69 : Wp d 19 69 [l0, l1, l2, l3, l4, l5] st h Q = Wp d 19 72 [l0, l1, l2, l3, l4, l5] ((.long (31)) :: st) h Q := W_go f19_69 rfl
theorem f19_72 : fetch 19 72 = some (.lmul, 1, [], .null) := by decide +kernel
theorem w19_72 : Wp d 19 72 [l0, l1, l2, l3, l4, l5] (.long y8 :: .long x8 :: st) h Q = Wp d 19 73 [l0, l1, l2, l3, l4, l5] (.long (x8 * y8) :: st) h Q := W_go f19_72 rfl
theorem f19_73 : fetch 19 73 = some (.aload_n 0, 1, [], .null) := by decide +kernel
theorem w19_73 : Wp d 19 73 [some (.ref a), l1, l2, l3, l4, l5] st h Q = Wp d 19 74 [some (.ref a), l1, l2, l3, l4, l5] (.ref a :: st) h Q := W_go f19_73 rfl
theorem f19_74 : fetch 19 74 = some (.getfield 34, 3, [2, 6, 2087, 0], .null) := by decide +kernel
theorem w19_74 : Wp d 19 74 [l0, l1, l2, l3, l4, l5] (.ref a :: st) h Q = gP (h.2 a) 2 6 (fun w => Wp d 19 77 [l0, l1, l2, l3, l4, l5] (w :: st) h Q) := W_get f19_74 rfl
theorem f19_77 : fetch 19 77 = some (.i2l, 1, [], .null) := by decide +kernel
theorem w19_77 : Wp d 19 77 [l0, l1, l2, l3, l4, l5] (.int x :: st) h Q = Wp d 19 78 [l0, l1, l2, l3, l4, l5] (.long x.toInt64 :: st) h Q := W_go f19_77 rfl
theorem f19_78 : fetch 19 78 = some (.ladd, 1, [], .null) := by decide +kernel
theorem w19_78 : Wp d 19 78 [l0, l1, l2, l3, l4, l5] (.long y8 :: .long x8 :: st) h Q = Wp d 19 79 [l0, l1, l2, l3, l4, l5] (.long (x8 + y8) :: st) h Q := W_go f19_78 rfl
theorem f19_79 : fetch 19 79 = some (.lstore_n 3, 1, [], .null) := by decide +kernel
theorem w19_79 : Wp d 19 79 [l0, l1, l2, l3, l4, l5] (.long x8 :: st) h Q = Wp d 19 80 [l0, l1, kl l2, some (.long x8), none, l5] st h Q := (W_st2 (pc' := 80) (k := 3) f19_79 rfl rfl (by simp only [List.length_cons, List.length_nil]; omega)).trans (by rw [pst2_succ]; rfl)
theorem f19_80 : fetch 19 80 = some (.iconst 0, 1, [], .null) := by decide +kernel
theorem w19_80 : Wp d 19 80 [l0, l1, l2, l3, l4, l5] st h Q = Wp d 19 81 [l0, l1, l2, l3, l4, l5] (.int (0 : Int32) :: st) h Q := W_go f19_80 rfl
theorem f19_81 : fetch 19 81 = some (.istore 5, 2, [], .null) := by decide +kernel
theorem w19_81 : Wp d 19 81 [l0, l1, l2, l3, l4, l5] (.int x :: st) h Q = Wp d 19 83 [l0, l1, l2, l3, kl l4, some (.int x)] st h Q := (W_st1 (pc' := 83) (k := 5) f19_81 rfl rfl (by simp only [List.length_cons, List.length_nil]; omega)).trans (by rw [pst1_succ]; rfl)
theorem f19_83 : fetch 19 83 = some (.iload 5, 2, [], .null) := by decide +kernel
theorem w19_83 : Wp d 19 83 [l0, l1, l2, l3, l4, some (.int x)] st h Q = Wp d 19 85 [l0, l1, l2, l3, l4, some (.int x)] (.int x :: st) h Q := W_go f19_83 rfl
theorem f19_85 : fetch 19 85 = some (.bipush 20, 2, [], .null) := by decide +kernel
theorem w19_85 : Wp d 19 85 [l0, l1, l2, l3, l4, l5] st h Q = Wp d 19 87 [l0, l1, l2, l3, l4, l5] (.int (20 : Int32) :: st) h Q := W_go f19_85 rfl
theorem f19_87 : fetch 19 87 = some (.if_icmp .ge 32, 3, [], .null) := by decide +kernel
theorem w19_87 : Wp d 19 87 [l0, l1, l2, l3, l4, l5] (.int y :: .int x :: st) h Q = if icond .ge x y = true then Wp d 19 119 [l0, l1, l2, l3, l4, l5] st h Q else Wp d 19 90 [l0, l1, l2, l3, l4, l5] st h Q := W_if f19_87 rfl
theorem f19_90 : fetch 19 90 = some (.iload 5, 2, [], .null) := by decide +kernel
theorem w19_90 : Wp d 19 90 [l0, l1, l2, l3, l4, some (.int x)] st h Q = Wp d 19 92 [l0, l1, l2, l3, l4, some (.int x)] (.int x :: st) h Q := W_go f19_90 rfl
theorem f19_92 : fetch 19 92 = some (.aload_n 0, 1, [], .null) := by decide +kernel
theorem w19_92 : Wp d 19 92 [some (.ref a), l1, l2, l3, l4, l5] st h Q = Wp d 19 93 [some (.ref a), l1, l2, l3, l4, l5] (.ref a :: st) h Q := W_go f19_92 rfl
theorem f19_93 : fetch 19 93 = some (.getfield 34, 3, [2, 6, 2087, 0], .null) := by decide +kernel
theorem w19_93 : Wp d 19 93 [l0, l1, l2, l3, l4, l5] (.ref a :: st) h Q = gP (h.2 a) 2 6 (fun w => Wp d 19 96 [l0, l1, l2, l3, l4, l5] (w :: st) h Q) := W_get f19_93 rfl
theorem f19_96 : fetch 19 96 = some (.if_icmp .ge 23, 3, [], .null) := by decide +kernel
theorem w19_96 : Wp d 19 96 [l0, l1, l2, l3, l4, l5] (.int y :: .int x :: st) h Q = if icond .ge x y = true then Wp d 19 119 [l0, l1, l2, l3, l4, l5] st h Q else Wp d 19 99 [l0, l1, l2, l3, l4, l5] st h Q := W_if f19_96 rfl
theorem f19_99 : fetch 19 99 = some (.lload_n 3, 1, [], .null) := by decide +kernel
theorem w19_99 : Wp d 19 99 [l0, l1, l2, some (.long x8), l4, l5] st h Q = Wp d 19 100 [l0, l1, l2, some (.long x8), l4, l5] (.long x8 :: st) h Q := W_go f19_99 rfl
theorem f19_100 : fetch 19 100 = some (.ldc2_w 75, 3, [3214], .long (31)) := by decide +kernel
theorem w19_100 : Wp d 19 100 [l0, l1, l2, l3, l4, l5] st h Q = Wp d 19 103 [l0, l1, l2, l3, l4, l5] ((.long (31)) :: st) h Q := W_go f19_100 rfl
theorem f19_103 : fetch 19 103 = some (.lmul, 1, [], .null) := by decide +kernel
theorem w19_103 : Wp d 19 103 [l0, l1, l2, l3, l4, l5] (.long y8 :: .long x8 :: st) h Q = Wp d 19 104 [l0, l1, l2, l3, l4, l5] (.long (x8 * y8) :: st) h Q := W_go f19_103 rfl
theorem f19_104 : fetch 19 104 = some (.aload_n 0, 1, [], .null) := by decide +kernel
theorem w19_104 : Wp d 19 104 [some (.ref a), l1, l2, l3, l4, l5] st h Q = Wp d 19 105 [some (.ref a), l1, l2, l3, l4, l5] (.ref a :: st) h Q := W_go f19_104 rfl
theorem f19_105 : fetch 19 105 = some (.iload 5, 2, [], .null) := by decide +kernel
theorem w19_105 : Wp d 19 105 [l0, l1, l2, l3, l4, some (.int x)] st h Q = Wp d 19 107 [l0, l1, l2, l3, l4, some (.int x)] (.int x :: st) h Q := W_go f19_105 rfl
theorem f19_107 : fetch 19 107 = some (.invokevirtual 81, 3, [17, 2, 3, 0, 3219, 1012, 3222, 3220, 3221], .null) := by decide +kernel
theorem w19_107 (hp : psum st ≤ 8) : Wp d 19 107 [l0, l1, l2, l3, l4, l5] (v1 :: (.ref b) :: st) h Q = rP (h.2 b) 2 (Cp d 17 [(.ref b), v1] h (fun o => cK o (fun w h2 => Wp d 19 110 [l0, l1, l2, l3, l4, l5] (w.toList ++ st) h2 Q) (fun E h2 => Q (.inr E, h2)))) := (W_invV (st := st) f19_107 rfl rfl (by simp only [List.length_cons]; omega) rfl rfl hp).trans (by simp only [hm19, if_true])
theorem f19_110 : fetch 19 110 = some (.i2l, 1, [], .null) := by decide +kernel
theorem w19_110 : Wp d 19 110 [l0, l1, l2, l3, l4, l5] (.int x :: st) h Q = Wp d 19 111 [l0, l1, l2, l3, l4, l5] (.long x.toInt64 :: st) h Q := W_go f19_110 rfl
theorem f19_111 : fetch 19 111 = some (.ladd, 1, [], .null) := by decide +kernel
theorem w19_111 : Wp d 19 111 [l0, l1, l2, l3, l4, l5] (.long y8 :: .long x8 :: st) h Q = Wp d 19 112 [l0, l1, l2, l3, l4, l5] (.long (x8 + y8) :: st) h Q := W_go f19_111 rfl
theorem f19_112 : fetch 19 112 = some (.lstore_n 3, 1, [], .null) := by decide +kernel
theorem w19_112 : Wp d 19 112 [l0, l1, l2, l3, l4, l5] (.long x8 :: st) h Q = Wp d 19 113 [l0, l1, kl l2, some (.long x8), none, l5] st h Q := (W_st2 (pc' := 113) (k := 3) f19_112 rfl rfl (by simp only [List.length_cons, List.length_nil]; omega)).trans (by rw [pst2_succ]; rfl)
theorem f19_113 : fetch 19 113 = some (.iinc 5 1, 3, [], .null) := by decide +kernel
theorem w19_113 : Wp d 19 113 [l0, l1, l2, l3, l4, some (.int x)] st h Q = Wp d 19 116 [l0, l1, l2, l3, kl l4, some (.int (x + (1 : Int32)))] st h Q := (W_iinc (y := (1 : Int32)) f19_113 rfl (by simp only [List.length_cons, List.length_nil]; omega) (by decide)).trans (by rw [pst1_succ]; rfl)
theorem f19_116 : fetch 19 116 = some (.goto (-33), 3, [], .null) := by decide +kernel
theorem w19_116 : Wp d 19 116 [l0, l1, l2, l3, l4, l5] st h Q = Wp d 19 83 [l0, l1, l2, l3, l4, l5] st h Q := W_go f19_116 rfl
theorem f19_119 : fetch 19 119 = some (.lload_n 3, 1, [], .null) := by decide +kernel
theorem w19_119 : Wp d 19 119 [l0, l1, l2, some (.long x8), l4, l5] st h Q = Wp d 19 120 [l0, l1, l2, some (.long x8), l4, l5] (.long x8 :: st) h Q := W_go f19_119 rfl
theorem f19_120 : fetch 19 120 = some (.lreturn, 1, [], .null) := by decide +kernel
theorem w19_120 : Wp d 19 120 [l0, l1, l2, l3, l4, l5] [.long x8] h Q = Q (.inl (some (.long x8)), h) := W_fin f19_120 rfl
theorem hm20 : mhs 20 = [] := by decide +kernel
theorem f20_0 : fetch 20 0 = some (.aload_n 0, 1, [], .null) := by decide +kernel
theorem w20_0 : Wp d 20 0 [some (.ref a), l1] st h Q = Wp d 20 1 [some (.ref a), l1] (.ref a :: st) h Q := W_go f20_0 rfl
theorem f20_1 : fetch 20 1 = some (.invokespecial 3, 3, [9999, 1147, 1031, 1032], .null) := by decide +kernel
theorem w20_1 (hp : psum st ≤ 8 ∧ a ≠ 201) : Wp d 20 1 [l0, l1] (.ref a :: st) h Q = Wp d 20 4 [l0, l1] st h Q := W_go f20_1 (by simp only [pstep, if_pos hp]; rfl)
theorem f20_4 : fetch 20 4 = some (.aload_n 0, 1, [], .null) := by decide +kernel
theorem w20_4 : Wp d 20 4 [some (.ref a), l1] st h Q = Wp d 20 5 [some (.ref a), l1] (.ref a :: st) h Q := W_go f20_4 rfl
theorem f20_5 : fetch 20 5 = some (.new 9, 3, [5, 1148, 1149, 1005], .null) := by decide +kernel
theorem w20_5 : Wp d 20 5 [l0, l1] st h Q = Wp d 20 8 [l0, l1] (.ref h.1.1 :: st) (hnew h (pdef 5).length (.inr (5, pdef 5))) Q := W_go f20_5 rfl
theorem f20_8 : fetch 20 8 = some (.dup, 1, [], .null) := by decide +kernel
theorem w20_8i : Wp d 20 8 [l0, l1] (.int x :: st) h Q = Wp d 20 9 [l0, l1] (.int x :: .int x :: st) h Q := W_go f20_8 rfl
theorem w20_8 : Wp d 20 8 [l0, l1] (.ref a :: st) h Q = Wp d 20 9 [l0, l1] (.ref a :: .ref a :: st) h Q := W_go f20_8 rfl
theorem f20_9 : fetch 20 9 = some (.invokespecial 11, 3, [40, 1, 0, 0, 1150, 1005, 1152, 1151], .null) := by decide +kernel
theorem w20_9 (hp : psum st ≤ 8) (hb : b ≠ 201) : Wp d 20 9 [l0, l1] ((.ref b) :: st) h Q = Cp d 40 [(.ref b)] h (fun o => cK o (fun w h2 => Wp d 20 12 [l0, l1] (w.toList ++ st) h2 Q) (fun _ _ => False)) := (W_invI (st := st) f20_9 rfl rfl (by simp only [List.length_cons]; omega) rfl rfl hp hb)
theorem f20_12 : fetch 20 12 = some (.putfield 12, 3, [3, 0, 1225, 0], .null) := by decide +kernel
theorem w20_12 : Wp d 20 12 [l0, l1] (v :: .ref a :: st) h Q = pP (h.2 a) 3 0 (ftOf 3 0) v a (fun c => Wp d 20 15 [l0, l1] st (hset h a c) Q) := W_put f20_12 (by rfl)
theorem f20_15 : fetch 20 15 = some (.aload_n 0, 1, [], .null) := by decide +kernel
theorem w20_15 : Wp d 20 15 [some (.ref a), l1] st h Q = Wp d 20 16 [some (.ref a), l1] (.ref a :: st) h Q := W_go f20_15 rfl
theorem f20_16 : fetch 20 16 = some (.bipush 10, 2, [], .null) := by decide +kernel
theorem w20_16 : Wp d 20 16 [l0, l1] st h Q = Wp d 20 18 [l0, l1] (.int (10 : Int32) :: st) h Q := W_go f20_16 rfl
theorem f20_18 : fetch 20 18 = some (.newarray .long, 2, [1, 1224], .null) := by decide +kernel
theorem w20_18 (hx : ¬ x < 0 ∧ x.toNatClampNeg ≤ 60000) : Wp d 20 18 [l0, l1] (.int x :: st) h Q = Wp d 20 20 [l0, l1] (.ref h.1.1 :: st) (hnew h x.toNatClampNeg (.inl (1, arr0 1 x.toNatClampNeg))) Q := W_go f20_18 (by simp only [pstep, pnewa, if_pos hx]; rfl)
theorem f20_20 : fetch 20 20 = some (.putfield 18, 3, [3, 1, 1226, 0], .null) := by decide +kernel
theorem w20_20 : Wp d 20 20 [l0, l1] (v :: .ref a :: st) h Q = pP (h.2 a) 3 1 (ftOf 3 1) v a (fun c => Wp d 20 23 [l0, l1] st (hset h a c) Q) := W_put f20_20 (by rfl)
theorem f20_23 : fetch 20 23 = some (.aload_n 0, 1, [], .null) := by decide +kernel
theorem w20_23 : Wp d 20 23 [some (.ref a), l1] st h Q = Wp d 20 24 [some (.ref a), l1] (.ref a :: st) h Q := W_go f20_23 rfl
theorem f20_24 : fetch 20 24 = some (.bipush 6, 2, [], .null) := by decide +kernel
theorem w20_24 : Wp d 20 24 [l0, l1] st h Q = Wp d 20 26 [l0, l1] (.int (6 : Int32) :: st) h Q := W_go f20_24 rfl
theorem f20_26 : fetch 20 26 = some (.newarray .long, 2, [1, 1224], .null) := by decide +kernel
theorem w20_26 (hx : ¬ x < 0 ∧ x.toNatClampNeg ≤ 60000) : Wp d 20 26 [l0, l1] (.int x :: st) h Q = Wp d 20 28 [l0, l1] (.ref h.1.1 :: st) (hnew h x.toNatClampNeg (.inl (1, arr0 1 x.toNatClampNeg))) Q := W_go f20_26 (by simp only [pstep, pnewa, if_pos hx]; rfl)
theorem f20_28 : fetch 20 28 = some (.putfield 22, 3, [3, 2, 1227, 0], .null) := by decide +kernel
theorem w20_28 : Wp d 20 28 [l0, l1] (v :: .ref a :: st) h Q = pP (h.2 a) 3 2 (ftOf 3 2) v a (fun c => Wp d 20 31 [l0, l1] st (hset h a c) Q) := W_put f20_28 (by rfl)
theorem f20_31 : fetch 20 31 = some (.aload_n 0, 1, [], .null) := by decide +kernel
theorem w20_31 : Wp d 20 31 [some (.ref a), l1] st h Q = Wp d 20 32 [some (.ref a), l1] (.ref a :: st) h Q := W_go f20_31 rfl
theorem f20_32 : fetch 20 32 = some (.aload_n 1, 1, [], .null) := by decide +kernel
theorem w20_32 : Wp d 20 32 [l0, some (.ref a)] st h Q = Wp d 20 33 [l0, some (.ref a)] (.ref a :: st) h Q := W_go f20_32 rfl
theorem f20_33 : fetch 20 33 = some (.putfield 25, 3, [3, 3, 1228, 0], .null) := by decide +kernel
theorem w20_33 : Wp d 20 33 [l0, l1] (v :: .ref a :: st) h Q = pP (h.2 a) 3 3 (ftOf 3 3) v a (fun c => Wp d 20 36 [l0, l1] st (hset h a c) Q) := W_put f20_33 (by rfl)
theorem f20_36 : fetch 20 36 = some (.return_, 1, [], .null) := by decide +kernel
theorem w20_36 : Wp d 20 36 [l0, l1] [] h Q = Q (.inl none, h) := W_fin f20_36 rfl
theorem hm21 : mhs 21 = [] := by decide +kernel
theorem hr21 : mret 21 = (some .int) := by decide +kernel
theorem f21_0 : fetch 21 0 = some (.aload_n 0, 1, [], .null) := by decide +kernel
theorem w21_0 : Wp d 21 0 [some (.ref a), l1, l2, l3, l4] st h Q = Wp d 21 1 [some (.ref a), l1, l2, l3, l4] (.ref a :: st) h Q := W_go f21_0 rfl
theorem f21_1 : fetch 21 1 = some (.getfield 12, 3, [3, 0, 1225, 0], .null) := by decide +kernel
theorem w21_1 : Wp d 21 1 [l0, l1, l2, l3, l4] (.ref a :: st) h Q = gP (h.2 a) 3 0 (fun w => Wp d 21 4 [l0, l1, l2, l3, l4] (w :: st) h Q) := W_get f21_1 rfl
theorem f21_4 : fetch 21 4 = some (.aload_n 1, 1, [], .null) := by decide +kernel
theorem w21_4 : Wp d 21 4 [l0, some (.ref a), l2, l3, l4] st h Q = Wp d 21 5 [l0, some (.ref a), l2, l3, l4] (.ref a :: st) h Q := W_go f21_4 rfl
theorem f21_5 : fetch 21 5 = some (.invokevirtual 29, 3, [41, 2, 6, 0, 2179, 1005, 2182, 2180, 2181], .null) := by decide +kernel
theorem w21_5 (hp : psum st ≤ 8) : Wp d 21 5 [l0, l1, l2, l3, l4] (v1 :: (.ref b) :: st) h Q = rP (h.2 b) 5 (Cp d 41 [(.ref b), v1] h (fun o => cK o (fun w h2 => Wp d 21 8 [l0, l1, l2, l3, l4] (w.toList ++ st) h2 Q) (fun E h2 => Q (.inr E, h2)))) := (W_invV (st := st) f21_5 rfl rfl (by simp only [List.length_cons]; omega) rfl rfl hp).trans (by simp only [hm21, if_true])
theorem f21_8 : fetch 21 8 = some (.aload_n 0, 1, [], .null) := by decide +kernel
theorem w21_8 : Wp d 21 8 [some (.ref a), l1, l2, l3, l4] st h Q = Wp d 21 9 [some (.ref a), l1, l2, l3, l4] (.ref a :: st) h Q := W_go f21_8 rfl
theorem f21_9 : fetch 21 9 = some (.aload_n 2, 1, [], .null) := by decide +kernel
theorem w21_9 : Wp d 21 9 [l0, l1, some (.ref a), l3, l4] st h Q = Wp d 21 10 [l0, l1, some (.ref a), l3, l4] (.ref a :: st) h Q := W_go f21_9 rfl
theorem f21_10 : fetch 21 10 = some (.putfield 25, 3, [3, 3, 1228, 0], .null) := by decide +kernel
theorem w21_10 : Wp d 21 10 [l0, l1, l2, l3, l4] (v :: .ref a :: st) h Q = pP (h.2 a) 3 3 (ftOf 3 3) v a (fun c => Wp d 21 13 [l0, l1, l2, l3, l4] st (hset h a c) Q) := W_put f21_10 (by rfl)
theorem f21_13 : fetch 21 13 = some (.aload_n 0, 1, [], .null) := by decide +kernel
theorem w21_13 : Wp d 21 13 [some (.ref a), l1, l2, l3, l4] st h Q = Wp d 21 14 [some (.ref a), l1, l2, l3, l4] (.ref a :: st) h Q := W_go f21_13 rfl
theorem f21_14 : fetch 21 14 = some (.getfield 25, 3, [3, 3, 1228, 0], .null) := by decide +kernel
theorem w21_14 : Wp d 21 14 [l0, l1, l2, l3, l4] (.ref a :: st) h Q = gP (h.2 a) 3 3 (fun w => Wp d 21 17 [l0, l1, l2, l3, l4] (w :: st) h Q) := W_get f21_14 rfl
theorem f21_17 : fetch 21 17 = some (.invokevirtual 33, 3, [1, 1, 1, 0, 3044, 1003, 3047, 3045, 3046], .null) := by decide +kernel
theorem w21_17 (hp : psum st ≤ 8) : Wp d 21 17 [l0, l1, l2, l3, l4] ((.ref b) :: st) h Q = rP (h.2 b) 0 (Cp d 1 [(.ref b)] h (fun o => cK o (fun w h2 => Wp d 21 20 [l0, l1, l2, l3, l4] (w.toList ++ st) h2 Q) (fun E h2 => Q (.inr E, h2)))) := (W_invV (st := st) f21_17 rfl rfl (by simp only [List.length_cons]; omega) rfl rfl hp).trans (by simp only [hm21, if_true])
theorem f21_20 : fetch 21 20 = some (.aload_n 0, 1, [], .null) := by decide +kernel
theorem w21_20 : Wp d 21 20 [some (.ref a), l1, l2, l3, l4] st h Q = Wp d 21 21 [some (.ref a), l1, l2, l3, l4] (.ref a :: st) h Q := W_go f21_20 rfl
theorem f21_21 : fetch 21 21 = some (.iconst 0, 1, [], .null) := by decide +kernel
theorem w21_21 : Wp d 21 21 [l0, l1, l2, l3, l4] st h Q = Wp d 21 22 [l0, l1, l2, l3, l4] (.int (0 : Int32) :: st) h Q := W_go f21_21 rfl
theorem f21_22 : fetch 21 22 = some (.putfield 38, 3, [3, 8, 1233, 0], .null) := by decide +kernel
theorem w21_22 : Wp d 21 22 [l0, l1, l2, l3, l4] (v :: .ref a :: st) h Q = pP (h.2 a) 3 8 (ftOf 3 8) v a (fun c => Wp d 21 25 [l0, l1, l2, l3, l4] st (hset h a c) Q) := W_put f21_22 (by rfl)
theorem f21_25 : fetch 21 25 = some (.aload_n 0, 1, [], .null) := by decide +kernel
theorem w21_25 : Wp d 21 25 [some (.ref a), l1, l2, l3, l4] st h Q = Wp d 21 26 [some (.ref a), l1, l2, l3, l4] (.ref a :: st) h Q := W_go f21_25 rfl
theorem f21_26 : fetch 21 26 = some (.iconst (-1), 1, [], .null) := by decide +kernel
theorem w21_26 : Wp d 21 26 [l0, l1, l2, l3, l4] st h Q = Wp d 21 27 [l0, l1, l2, l3, l4] (.int (-1 : Int32) :: st) h Q := W_go f21_26 rfl
theorem f21_27 : fetch 21 27 = some (.putfield 42, 3, [3, 9, 1234, 0], .null) := by decide +kernel
theorem w21_27 : Wp d 21 27 [l0, l1, l2, l3, l4] (v :: .ref a :: st) h Q = pP (h.2 a) 3 9 (ftOf 3 9) v a (fun c => Wp d 21 30 [l0, l1, l2, l3, l4] st (hset h a c) Q) := W_put f21_27 (by rfl)
theorem f21_30 : fetch 21 30 = some (.aload_n 0, 1, [], .null) := by decide +kernel
theorem w21_30 : Wp d 21 30 [some (.ref a), l1, l2, l3, l4] st h Q = Wp d 21 31 [some (.ref a), l1, l2, l3, l4] (.ref a :: st) h Q := W_go f21_30 rfl
theorem f21_31 : fetch 21 31 = some (.iconst (-1), 1, [], .null) := by decide +kernel
theorem w21_31 : Wp d 21 31 [l0, l1, l2, l3, l4] st h Q = Wp d 21 32 [l0, l1, l2, l3, l4] (.int (-1 : Int32) :: st) h Q := W_go f21_31 rfl
theorem f21_32 : fetch 21 32 = some (.putfield 45, 3, [3, 4, 1229, 0], .null) := by decide +kernel
theorem w21_32 : Wp d 21 32 [l0, l1, l2, l3, l4] (v :: .ref a :: st) h Q = pP (h.2 a) 3 4 (ftOf 3 4) v a (fun c => Wp d 21 35 [l0, l1, l2, l3, l4] st (hset h a c) Q) := W_put f21_32 (by rfl)
theorem f21_35 : fetch 21 35 = some (.aload_n 0, 1, [], .null) := by decide +kernel
theorem w21_35 : Wp d 21 35 [some (.ref a), l1, l2, l3, l4] st h Q = Wp d 21 36 [some (.ref a), l1, l2, l3, l4] (.ref a :: st) h Q := W_go f21_35 rfl
theorem f21_36 : fetch 21 36 = some (.invokevirtual 48, 3, [36, 1, 4, 0, 3048, 1004, 3051, 3050, 5], .null) := by decide +kernel
theorem w21_36 (hp : psum st ≤ 8) : Wp d 21 36 [l0, l1, l2, l3, l4] ((.ref b) :: st) h Q = rP (h.2 b) 3 (Cp d 36 [(.ref b)] h (fun o => cK o (fun w h2 => Wp d 21 39 [l0, l1, l2, l3, l4] (w.toList ++ st) h2 Q) (fun E h2 => Q (.inr E, h2)))) := (W_invV (st := st) f21_36 rfl rfl (by simp only [List.length_cons]; omega) rfl rfl hp).trans (by simp only [hm21, if_true])
theorem f21_39 : fetch 21 39 = some (.iconst 1, 1, [], .null) := by decide +kernel
theorem w21_39 : Wp d 21 39 [l0, l1, l2, l3, l4] st h Q = Wp d 21 40 [l0, l1, l2, l3, l4] (.int (1 : Int32) :: st) h Q := W_go f21_39 rfl
theorem f21_40 : fetch 21 40 = some (.istore_n 3, 1, [], .null) := by decide +kernel
theorem w21_40 : Wp d 21 40 [l0, l1, l2, l3, l4] (.int x :: st) h Q = Wp d 21 41 [l0, l1, kl l2, some (.int x), l4] st h Q := (W_st1 (pc' := 41) (k := 3) f21_40 rfl rfl (by simp only [List.length_cons, List.length_nil]; omega)).trans (by rw [pst1_succ]; rfl)
theorem f21_41 : fetch 21 41 = some (.iconst 0, 1, [], .null) := by decide +kernel
theorem w21_41 : Wp d 21 41 [l0, l1, l2, l3, l4] st h Q = Wp d 21 42 [l0, l1, l2, l3, l4] (.int (0 : Int32) :: st) h Q := W_go f21_41 rfl
theorem f21_42 : fetch 21 42 = some (.istore 4, 2, [], .null) := by decide +kernel
theorem w21_42 : Wp d 21 42 [l0, l1, l2, l3, l4] (.int x :: st) h Q = Wp d 21 44 [l0, l1, l2, kl l3, some (.int x)] st h Q := (W_st1 (pc' := 44) (k := 4) f21_42 rfl rfl (by simp only [List.length_cons, List.length_nil]; omega)).trans (by rw [pst1_succ]; rfl)
theorem f21_44 : fetch 21 44 = some (.iload 4, 2, [], .null) := by decide +kernel
theorem w21_44 : Wp d 21 44 [l0, l1, l2, l3, some (.int x)] st h Q = Wp d 21 46 [l0, l1, l2, l3, some (.int x)] (.int x :: st) h Q := W_go f21_44 rfl
theorem f21_46 : fetch 21 46 = some (.sipush 400, 3, [], .null) := by decide +kernel
theorem w21_46 : Wp d 21 46 [l0, l1, l2, l3, l4] st h Q = Wp d 21 49 [l0, l1, l2, l3, l4] (.int (400 : Int32) :: st) h Q := W_go f21_46 rfl
theorem f21_49 : fetch 21 49 = some (.if_icmp .ge 25, 3, [], .null) := by decide +kernel
theorem w21_49 : Wp d 21 49 [l0, l1, l2, l3, l4] (.int y :: .int x :: st) h Q = if icond .ge x y = true then Wp d 21 74 [l0, l1, l2, l3, l4] st h Q else Wp d 21 52 [l0, l1, l2, l3, l4] st h Q := W_if f21_49 rfl
theorem f21_52 : fetch 21 52 = some (.iload_n 3, 1, [], .null) := by decide +kernel
theorem w21_52 : Wp d 21 52 [l0, l1, l2, some (.int x), l4] st h Q = Wp d 21 53 [l0, l1, l2, some (.int x), l4] (.int x :: st) h Q := W_go f21_52 rfl
theorem f21_53 : fetch 21 53 = some (.ifCond .eq 21, 3, [], .null) := by decide +kernel
theorem w21_53 : Wp d 21 53 [l0, l1, l2, l3, l4] (.int x :: st) h Q = if icond .eq x 0 = true then Wp d 21 74 [l0, l1, l2, l3, l4] st h Q else Wp d 21 56 [l0, l1, l2, l3, l4] st h Q := W_if f21_53 rfl
theorem f21_56 : fetch 21 56 = some (.aload_n 0, 1, [], .null) := by decide +kernel
theorem w21_56 : Wp d 21 56 [some (.ref a), l1, l2, l3, l4] st h Q = Wp d 21 57 [some (.ref a), l1, l2, l3, l4] (.ref a :: st) h Q := W_go f21_56 rfl
theorem f21_57 : fetch 21 57 = some (.getfield 51, 3, [3, 5, 1230, 0], .null) := by decide +kernel
theorem w21_57 : Wp d 21 57 [l0, l1, l2, l3, l4] (.ref a :: st) h Q = gP (h.2 a) 3 5 (fun w => Wp d 21 60 [l0, l1, l2, l3, l4] (w :: st) h Q) := W_get f21_57 rfl
theorem f21_60 : fetch 21 60 = some (.ifCond .ne 14, 3, [], .null) := by decide +kernel
theorem w21_60 : Wp d 21 60 [l0, l1, l2, l3, l4] (.int x :: st) h Q = if icond .ne x 0 = true then Wp d 21 74 [l0, l1, l2, l3, l4] st h Q else Wp d 21 63 [l0, l1, l2, l3, l4] st h Q := W_if f21_60 rfl
theorem f21_63 : fetch 21 63 = some (.aload_n 0, 1, [], .null) := by decide +kernel
theorem w21_63 : Wp d 21 63 [some (.ref a), l1, l2, l3, l4] st h Q = Wp d 21 64 [some (.ref a), l1, l2, l3, l4] (.ref a :: st) h Q := W_go f21_63 rfl
theorem f21_64 : fetch 21 64 = some (.invokevirtual 54, 3, [22, 1, 4, 0, 3052, 1004, 3055, 3054, 6], .null) := by decide +kernel
theorem w21_64 (hp : psum st ≤ 8) : Wp d 21 64 [l0, l1, l2, l3, l4] ((.ref b) :: st) h Q = rP (h.2 b) 3 (Cp d 22 [(.ref b)] h (fun o => cK o (fun w h2 => Wp d 21 67 [l0, l1, l2, l3, l4] (w.toList ++ st) h2 Q) (fun E h2 => Q (.inr E, h2)))) := (W_invV (st := st) f21_64 rfl rfl (by simp only [List.length_cons]; omega) rfl rfl hp).trans (by simp only [hm21, if_true])
theorem f21_67 : fetch 21 67 = some (.istore_n 3, 1, [], .null) := by decide +kernel
theorem w21_67 : Wp d 21 67 [l0, l1, l2, l3, l4] (.int x :: st) h Q = Wp d 21 68 [l0, l1, kl l2, some (.int x), l4] st h Q := (W_st1 (pc' := 68) (k := 3) f21_67 rfl rfl (by simp only [List.length_cons, List.length_nil]; omega)).trans (by rw [pst1_succ]; rfl)
theorem f21_68 : fetch 21 68 = some (.iinc 4 1, 3, [], .null) := by decide +kernel
theorem w21_68 : Wp d 21 68 [l0, l1, l2, l3, some (.int x)] st h Q = Wp d 21 71 [l0, l1, l2, kl l3, some (.int (x + (1 : Int32)))] st h Q := (W_iinc (y := (1 : Int32)) f21_68 rfl (by simp only [List.length_cons, List.length_nil]; omega) (by decide)).trans (by rw [pst1_succ]; rfl)
theorem f21_71 : fetch 21 71 = some (.goto (-27), 3, [], .null) := by decide +kernel
theorem w21_71 : Wp d 21 71 [l0, l1, l2, l3, l4] st h Q = Wp d 21 44 [l0, l1, l2, l3, l4] st h Q := W_go f21_71 rfl
theorem f21_74 : fetch 21 74 = some (.iconst 0, 1, [], .null) := by decide +kernel
theorem w21_74 : Wp d 21 74 [l0, l1, l2, l3, l4] st h Q = Wp d 21 75 [l0, l1, l2, l3, l4] (.int (0 : Int32) :: st) h Q := W_go f21_74 rfl
theorem f21_75 : fetch 21 75 = some (.istore 4, 2, [], .null) := by decide +kernel
theorem w21_75 : Wp d 21 75 [l0, l1, l2, l3, l4] (.int x :: st) h Q = Wp d 21 77 [l0, l1, l2, kl l3, some (.int x)] st h Q := (W_st1 (pc' := 77) (k := 4) f21_75 rfl rfl (by simp only [List.length_cons, List.length_nil]; omega)).trans (by rw [pst1_succ]; rfl)
theorem f21_77 : fetch 21 77 = some (.iload 4, 2, [], .null) := by decide +kernel
theorem w21_77 : Wp d 21 77 [l0, l1, l2, l3, some (.int x)] st h Q = Wp d 21 79 [l0, l1, l2, l3, some (.int x)] (.int x :: st) h Q := W_go f21_77 rfl
theorem f21_79 : fetch 21 79 = some (.sipush 400, 3, [], .null) := by decide +kernel
theorem w21_79 : Wp d 21 79 [l0, l1, l2, l3, l4] st h Q = Wp d 21 82 [l0, l1, l2, l3, l4] (.int (400 : Int32) :: st) h Q := W_go f21_79 rfl
theorem f21_82 : fetch 21 82 = some (.if_icmp .ge 26, 3, [], .null) := by decide +kernel
theorem w21_82 : Wp d 21 82 [l0, l1, l2, l3, l4] (.int y :: .int x :: st) h Q = if icond .ge x y = true then Wp d 21 108 [l0, l1, l2, l3, l4] st h Q else Wp d 21 85 [l0, l1, l2, l3, l4] st h Q := W_if f21_82 rfl
theorem f21_85 : fetch 21 85 = some (.iload_n 3, 1, [], .null) := by decide +kernel
theorem w21_85 : Wp d 21 85 [l0, l1, l2, some (.int x), l4] st h Q = Wp d 21 86 [l0, l1, l2, some (.int x), l4] (.int x :: st) h Q := W_go f21_85 rfl
theorem f21_86 : fetch 21 86 = some (.ifCond .eq 22, 3, [], .null) := by decide +kernel
theorem w21_86 : Wp d 21 86 [l0, l1, l2, l3, l4] (.int x :: st) h Q = if icond .eq x 0 = true then Wp d 21 108 [l0, l1, l2, l3, l4] st h Q else Wp d 21 89 [l0, l1, l2, l3, l4] st h Q := W_if f21_86 rfl
theorem f21_89 : fetch 21 89 = some (.aload_n 0, 1, [], .null) := by decide +kernel
theorem w21_89 : Wp d 21 89 [some (.ref a), l1, l2, l3, l4] st h Q = Wp d 21 90 [some (.ref a), l1, l2, l3, l4] (.ref a :: st) h Q := W_go f21_89 rfl
theorem f21_90 : fetch 21 90 = some (.getfield 51, 3, [3, 5, 1230, 0], .null) := by decide +kernel
theorem w21_90 : Wp d 21 90 [l0, l1, l2, l3, l4] (.ref a :: st) h Q = gP (h.2 a) 3 5 (fun w => Wp d 21 93 [l0, l1, l2, l3, l4] (w :: st) h Q) := W_get f21_90 rfl
theorem f21_93 : fetch 21 93 = some (.iconst 3, 1, [], .null) := by decide +kernel
theorem w21_93 : Wp d 21 93 [l0, l1, l2, l3, l4] st h Q = Wp d 21 94 [l0, l1, l2, l3, l4] (.int (3 : Int32) :: st) h Q := W_go f21_93 rfl
theorem f21_94 : fetch 21 94 = some (.if_icmp .ne 14, 3, [], .null) := by decide +kernel
theorem w21_94 : Wp d 21 94 [l0, l1, l2, l3, l4] (.int y :: .int x :: st) h Q = if icond .ne x y = true then Wp d 21 108 [l0, l1, l2, l3, l4] st h Q else Wp d 21 97 [l0, l1, l2, l3, l4] st h Q := W_if f21_94 rfl
theorem f21_97 : fetch 21 97 = some (.aload_n 0, 1, [], .null) := by decide +kernel
theorem w21_97 : Wp d 21 97 [some (.ref a), l1, l2, l3, l4] st h Q = Wp d 21 98 [some (.ref a), l1, l2, l3, l4] (.ref a :: st) h Q := W_go f21_97 rfl
theorem f21_98 : fetch 21 98 = some (.invokevirtual 58, 3, [23, 1, 4, 0, 3078, 1004, 3081, 3080, 12], .null) := by decide +kernel
theorem w21_98 (hp : psum st ≤ 8) : Wp d 21 98 [l0, l1, l2, l3, l4] ((.ref b) :: st) h Q = rP (h.2 b) 3 (Cp d 23 [(.ref b)] h (fun o => cK o (fun w h2 => Wp d 21 101 [l0, l1, l2, l3, l4] (w.toList ++ st) h2 Q) (fun E h2 => Q (.inr E, h2)))) := (W_invV (st := st) f21_98 rfl rfl (by simp only [List.length_cons]; omega) rfl rfl hp).trans (by simp only [hm21, if_true])
theorem f21_101 : fetch 21 101 = some (.istore_n 3, 1, [], .null) := by decide +kernel
theorem w21_101 : Wp d 21 101 [l0, l1, l2, l3, l4] (.int x :: st) h Q = Wp d 21 102 [l0, l1, kl l2, some (.int x), l4] st h Q := (W_st1 (pc' := 102) (k := 3) f21_101 rfl rfl (by simp only [List.length_cons, List.length_nil]; omega)).trans (by rw [pst1_succ]; rfl)
theorem f21_102 : fetch 21 102 = some (.iinc 4 1, 3, [], .null) := by decide +kernel
theorem w21_102 : Wp d 21 102 [l0, l1, l2, l3, some (.int x)] st h Q = Wp d 21 105 [l0, l1, l2, kl l3, some (.int (x + (1 : Int32)))] st h Q := (W_iinc (y := (1 : Int32)) f21_102 rfl (by simp only [List.length_cons, List.length_nil]; omega) (by decide)).trans (by rw [pst1_succ]; rfl)
theorem f21_105 : fetch 21 105 = some (.goto (-28), 3, [], .null) := by decide +kernel
theorem w21_105 : Wp d 21 105 [l0, l1, l2, l3, l4] st h Q = Wp d 21 77 [l0, l1, l2, l3, l4] st h Q := W_go f21_105 rfl
theorem f21_108 : fetch 21 108 = some (.iload_n 3, 1, [], .null) := by decide +kernel
theorem w21_108 : Wp d 21 108 [l0, l1, l2, some (.int x), l4] st h Q = Wp d 21 109 [l0, l1, l2, some (.int x), l4] (.int x :: st) h Q := W_go f21_108 rfl
theorem f21_109 : fetch 21 109 = some (.ifCond .eq 12, 3, [], .null) := by decide +kernel
theorem w21_109 : Wp d 21 109 [l0, l1, l2, l3, l4] (.int x :: st) h Q = if icond .eq x 0 = true then Wp d 21 121 [l0, l1, l2, l3, l4] st h Q else Wp d 21 112 [l0, l1, l2, l3, l4] st h Q := W_if f21_109 rfl
theorem f21_112 : fetch 21 112 = some (.aload_n 0, 1, [], .null) := by decide +kernel
theorem w21_112 : Wp d 21 112 [some (.ref a), l1, l2, l3, l4] st h Q = Wp d 21 113 [some (.ref a), l1, l2, l3, l4] (.ref a :: st) h Q := W_go f21_112 rfl
theorem f21_113 : fetch 21 113 = some (.getfield 51, 3, [3, 5, 1230, 0], .null) := by decide +kernel
theorem w21_113 : Wp d 21 113 [l0, l1, l2, l3, l4] (.ref a :: st) h Q = gP (h.2 a) 3 5 (fun w => Wp d 21 116 [l0, l1, l2, l3, l4] (w :: st) h Q) := W_get f21_113 rfl
theorem f21_116 : fetch 21 116 = some (.bipush 31, 2, [], .null) := by decide +kernel
theorem w21_116 : Wp d 21 116 [l0, l1, l2, l3, l4] st h Q = Wp d 21 118 [l0, l1, l2, l3, l4] (.int (31 : Int32) :: st) h Q := W_go f21_116 rfl
theorem f21_118 : fetch 21 118 = some (.if_icmp .eq 16, 3, [], .null) := by decide +kernel
theorem w21_118 : Wp d 21 118 [l0, l1, l2, l3, l4] (.int y :: .int x :: st) h Q = if icond .eq x y = true then Wp d 21 134 [l0, l1, l2, l3, l4] st h Q else Wp d 21 121 [l0, l1, l2, l3, l4] st h Q := W_if f21_118 rfl
theorem f21_121 : fetch 21 121 = some (.aload_n 0, 1, [], .null) := by decide +kernel
theorem w21_121 : Wp d 21 121 [some (.ref a), l1, l2, l3, l4] st h Q = Wp d 21 122 [some (.ref a), l1, l2, l3, l4] (.ref a :: st) h Q := W_go f21_121 rfl
theorem f21_122 : fetch 21 122 = some (.iconst 1, 1, [], .null) := by decide +kernel
theorem w21_122 : Wp d 21 122 [l0, l1, l2, l3, l4] st h Q = Wp d 21 123 [l0, l1, l2, l3, l4] (.int (1 : Int32) :: st) h Q := W_go f21_122 rfl
theorem f21_123 : fetch 21 123 = some (.putfield 38, 3, [3, 8, 1233, 0], .null) := by decide +kernel
theorem w21_123 : Wp d 21 123 [l0, l1, l2, l3, l4] (v :: .ref a :: st) h Q = pP (h.2 a) 3 8 (ftOf 3 8) v a (fun c => Wp d 21 126 [l0, l1, l2, l3, l4] st (hset h a c) Q) := W_put f21_123 (by rfl)
theorem f21_126 : fetch 21 126 = some (.aload_n 0, 1, [], .null) := by decide +kernel
theorem w21_126 : Wp d 21 126 [some (.ref a), l1, l2, l3, l4] st h Q = Wp d 21 127 [some (.ref a), l1, l2, l3, l4] (.ref a :: st) h Q := W_go f21_126 rfl
theorem f21_127 : fetch 21 127 = some (.aload_n 0, 1, [], .null) := by decide +kernel
theorem w21_127 : Wp d 21 127 [some (.ref a), l1, l2, l3, l4] st h Q = Wp d 21 128 [some (.ref a), l1, l2, l3, l4] (.ref a :: st) h Q := W_go f21_127 rfl
theorem f21_128 : fetch 21 128 = some (.getfield 61, 3, [3, 6, 1231, 0], .null) := by decide +kernel
theorem w21_128 : Wp d 21 128 [l0, l1, l2, l3, l4] (.ref a :: st) h Q = gP (h.2 a) 3 6 (fun w => Wp d 21 131 [l0, l1, l2, l3, l4] (w :: st) h Q) := W_get f21_128 rfl
theorem f21_131 : fetch 21 131 = some (.putfield 42, 3, [3, 9, 1234, 0], .null) := by decide +kernel
theorem w21_131 : Wp d 21 131 [l0, l1, l2, l3, l4] (v :: .ref a :: st) h Q = pP (h.2 a) 3 9 (ftOf 3 9) v a (fun c => Wp d 21 134 [l0, l1, l2, l3, l4] st (hset h a c) Q) := W_put f21_131 (by rfl)
theorem f21_134 : fetch 21 134 = some (.aload_n 0, 1, [], .null) := by decide +kernel
theorem w21_134 : Wp d 21 134 [some (.ref a), l1, l2, l3, l4] st h Q = Wp d 21 135 [some (.ref a), l1, l2, l3, l4] (.ref a :: st) h Q := W_go f21_134 rfl
theorem f21_135 : fetch 21 135 = some (.getfield 38, 3, [3, 8, 1233, 0], .null) := by decide +kernel
theorem w21_135 : Wp d 21 135 [l0, l1, l2, l3, l4] (.ref a :: st) h Q = gP (h.2 a) 3 8 (fun w => Wp d 21 138 [l0, l1, l2, l3, l4] (w :: st) h Q) := W_get f21_135 rfl
theorem f21_138 : fetch 21 138 = some (.ireturn, 1, [], .null) := by decide +kernel
theorem w21_138 : Wp d 21 138 [l0, l1, l2, l3, l4] [.int x] h Q = Q (.inl (some (.int x)), h) := W_iret f21_138 hr21
theorem hm22 : mhs 22 = [] := by decide +kernel
theorem hr22 : mret 22 = (some .boolean) := by decide +kernel
theorem f22_0 : fetch 22 0 = some (.aload_n 0, 1, [], .null) := by decide +kernel
theorem w22_0 : Wp d 22 0 [some (.ref a), l1] st h Q = Wp d 22 1 [some (.ref a), l1] (.ref a :: st) h Q := W_go f22_0 rfl
theorem f22_1 : fetch 22 1 = some (.invokevirtual 48, 3, [36, 1, 4, 0, 3048, 1004, 3051, 3050, 5], .null) := by decide +kernel
theorem w22_1 (hp : psum st ≤ 8) : Wp d 22 1 [l0, l1] ((.ref b) :: st) h Q = rP (h.2 b) 3 (Cp d 36 [(.ref b)] h (fun o => cK o (fun w h2 => Wp d 22 4 [l0, l1] (w.toList ++ st) h2 Q) (fun E h2 => Q (.inr E, h2)))) := (W_invV (st := st) f22_1 rfl rfl (by simp only [List.length_cons]; omega) rfl rfl hp).trans (by simp only [hm22, if_true])
theorem f22_4 : fetch 22 4 = some (.aload_n 0, 1, [], .null) := by decide +kernel
theorem w22_4 : Wp d 22 4 [some (.ref a), l1] st h Q = Wp d 22 5 [some (.ref a), l1] (.ref a :: st) h Q := W_go f22_4 rfl
theorem f22_5 : fetch 22 5 = some (.getfield 51, 3, [3, 5, 1230, 0], .null) := by decide +kernel
theorem w22_5 : Wp d 22 5 [l0, l1] (.ref a :: st) h Q = gP (h.2 a) 3 5 (fun w => Wp d 22 8 [l0, l1] (w :: st) h Q) := W_get f22_5 rfl
theorem f22_8 : fetch 22 8 = some (.bipush 23, 2, [], .null) := by decide +kernel
theorem w22_8 : Wp d 22 8 [l0, l1] st h Q = Wp d 22 10 [l0, l1] (.int (23 : Int32) :: st) h Q := W_go f22_8 rfl
theorem f22_10 : fetch 22 10 = some (.if_icmp .eq 5, 3, [], .null) := by decide +kernel
theorem w22_10 : Wp d 22 10 [l0, l1] (.int y :: .int x :: st) h Q = if icond .eq x y = true then Wp d 22 15 [l0, l1] st h Q else Wp d 22 13 [l0, l1] st h Q := W_if f22_10 rfl
theorem f22_13 : fetch 22 13 = some (.iconst 0, 1, [], .null) := by decide +kernel
theorem w22_13 : Wp d 22 13 [l0, l1] st h Q = Wp d 22 14 [l0, l1] (.int (0 : Int32) :: st) h Q := W_go f22_13 rfl
theorem f22_14 : fetch 22 14 = some (.ireturn, 1, [], .null) := by decide +kernel
theorem w22_14 : Wp d 22 14 [l0, l1] [.int x] h Q = (if narrow .boolean (.int x) = .int x then Q (.inl (some (.int x)), h) else False) := W_zret f22_14 hr22
theorem f22_15 : fetch 22 15 = some (.aload_n 0, 1, [], .null) := by decide +kernel
theorem w22_15 : Wp d 22 15 [some (.ref a), l1] st h Q = Wp d 22 16 [some (.ref a), l1] (.ref a :: st) h Q := W_go f22_15 rfl
theorem f22_16 : fetch 22 16 = some (.getfield 25, 3, [3, 3, 1228, 0], .null) := by decide +kernel
theorem w22_16 : Wp d 22 16 [l0, l1] (.ref a :: st) h Q = gP (h.2 a) 3 3 (fun w => Wp d 22 19 [l0, l1] (w :: st) h Q) := W_get f22_16 rfl
theorem f22_19 : fetch 22 19 = some (.getfield 64, 3, [0, 0, 1056, 0], .null) := by decide +kernel
theorem w22_19 : Wp d 22 19 [l0, l1] (.ref a :: st) h Q = gP (h.2 a) 0 0 (fun w => Wp d 22 22 [l0, l1] (w :: st) h Q) := W_get f22_19 rfl
theorem f22_22 : fetch 22 22 = some (.istore_n 1, 1, [], .null) := by decide +kernel
theorem w22_22 : Wp d 22 22 [l0, l1] (.int x :: st) h Q = Wp d 22 23 [kl l0, some (.int x)] st h Q := (W_st1 (pc' := 23) (k := 1) f22_22 rfl rfl (by simp only [List.length_cons, List.length_nil]; omega)).trans (by rw [pst1_succ]; rfl)
theorem f22_23 : fetch 22 23 = some (.aload_n 0, 1, [], .null) := by decide +kernel
theorem w22_23 : Wp d 22 23 [some (.ref a), l1] st h Q = Wp d 22 24 [some (.ref a), l1] (.ref a :: st) h Q := W_go f22_23 rfl
theorem f22_24 : fetch 22 24 = some (.iload_n 1, 1, [], .null) := by decide +kernel
theorem w22_24 : Wp d 22 24 [l0, some (.int x)] st h Q = Wp d 22 25 [l0, some (.int x)] (.int x :: st) h Q := W_go f22_24 rfl
theorem f22_25 : fetch 22 25 = some (.bipush 10, 2, [], .null) := by decide +kernel
theorem w22_25 : Wp d 22 25 [l0, l1] st h Q = Wp d 22 27 [l0, l1] (.int (10 : Int32) :: st) h Q := W_go f22_25 rfl
theorem f22_27 : fetch 22 27 = some (.if_icmp .lt 7, 3, [], .null) := by decide +kernel
theorem w22_27 : Wp d 22 27 [l0, l1] (.int y :: .int x :: st) h Q = if icond .lt x y = true then Wp d 22 34 [l0, l1] st h Q else Wp d 22 30 [l0, l1] st h Q := W_if f22_27 rfl
theorem f22_30 : fetch 22 30 = some (.iconst 1, 1, [], .null) := by decide +kernel
theorem w22_30 : Wp d 22 30 [l0, l1] st h Q = Wp d 22 31 [l0, l1] (.int (1 : Int32) :: st) h Q := W_go f22_30 rfl
theorem f22_31 : fetch 22 31 = some (.goto 4, 3, [], .null) := by decide +kernel
theorem w22_31 : Wp d 22 31 [l0, l1] st h Q = Wp d 22 35 [l0, l1] st h Q := W_go f22_31 rfl
theorem f22_34 : fetch 22 34 = some (.iconst 0, 1, [], .null) := by decide +kernel
theorem w22_34 : Wp d 22 34 [l0, l1] st h Q = Wp d 22 35 [l0, l1] (.int (0 : Int32) :: st) h Q := W_go f22_34 rfl
theorem f22_35 : fetch 22 35 = some (.invokevirtual 67, 3, [32, 2, 4, 0, 3056, 1004, 3059, 3058, 7], .null) := by decide +kernel
theorem w22_35 (hp : psum st ≤ 8) : Wp d 22 35 [l0, l1] (v1 :: (.ref b) :: st) h Q = rP (h.2 b) 3 (Cp d 32 [(.ref b), v1] h (fun o => cK o (fun w h2 => Wp d 22 38 [l0, l1] (w.toList ++ st) h2 Q) (fun E h2 => Q (.inr E, h2)))) := (W_invV (st := st) f22_35 rfl rfl (by simp only [List.length_cons]; omega) rfl rfl hp).trans (by simp only [hm22, if_true])
theorem f22_38 : fetch 22 38 = some (.aload_n 0, 1, [], .null) := by decide +kernel
theorem w22_38 : Wp d 22 38 [some (.ref a), l1] st h Q = Wp d 22 39 [some (.ref a), l1] (.ref a :: st) h Q := W_go f22_38 rfl
theorem f22_39 : fetch 22 39 = some (.getfield 18, 3, [3, 1, 1226, 0], .null) := by decide +kernel
theorem w22_39 : Wp d 22 39 [l0, l1] (.ref a :: st) h Q = gP (h.2 a) 3 1 (fun w => Wp d 22 42 [l0, l1] (w :: st) h Q) := W_get f22_39 rfl
theorem f22_42 : fetch 22 42 = some (.iload_n 1, 1, [], .null) := by decide +kernel
theorem w22_42 : Wp d 22 42 [l0, some (.int x)] st h Q = Wp d 22 43 [l0, some (.int x)] (.int x :: st) h Q := W_go f22_42 rfl
theorem f22_43 : fetch 22 43 = some (.aload_n 0, 1, [], .null) := by decide +kernel
theorem w22_43 : Wp d 22 43 [some (.ref a), l1] st h Q = Wp d 22 44 [some (.ref a), l1] (.ref a :: st) h Q := W_go f22_43 rfl
theorem f22_44 : fetch 22 44 = some (.getfield 71, 3, [3, 7, 1232, 0], .null) := by decide +kernel
theorem w22_44 : Wp d 22 44 [l0, l1] (.ref a :: st) h Q = gP (h.2 a) 3 7 (fun w => Wp d 22 47 [l0, l1] (w :: st) h Q) := W_get f22_44 rfl
theorem f22_47 : fetch 22 47 = some (.invokestatic 75, 3, [117, 3, 0, 1, 3068, 1001, 2214, 2213], .null) := by decide +kernel
theorem w22_47 (hp : psum st ≤ 8) : Wp d 22 47 [l0, l1] (v2 :: v1 :: v0 :: st) h Q = Cp d 117 [v0, v1, v2] h (fun o => cK o (fun w h2 => Wp d 22 50 [l0, l1] (w.toList ++ st) h2 Q) (fun _ _ => False)) := (W_invS (st := st) f22_47 rfl rfl (by simp only [List.length_cons]; omega) rfl rfl hp)
theorem f22_50 : fetch 22 50 = some (.aload_n 0, 1, [], .null) := by decide +kernel
theorem w22_50 : Wp d 22 50 [some (.ref a), l1] st h Q = Wp d 22 51 [some (.ref a), l1] (.ref a :: st) h Q := W_go f22_50 rfl
theorem f22_51 : fetch 22 51 = some (.invokevirtual 48, 3, [36, 1, 4, 0, 3048, 1004, 3051, 3050, 5], .null) := by decide +kernel
theorem w22_51 (hp : psum st ≤ 8) : Wp d 22 51 [l0, l1] ((.ref b) :: st) h Q = rP (h.2 b) 3 (Cp d 36 [(.ref b)] h (fun o => cK o (fun w h2 => Wp d 22 54 [l0, l1] (w.toList ++ st) h2 Q) (fun E h2 => Q (.inr E, h2)))) := (W_invV (st := st) f22_51 rfl rfl (by simp only [List.length_cons]; omega) rfl rfl hp).trans (by simp only [hm22, if_true])
theorem f22_54 : fetch 22 54 = some (.aload_n 0, 1, [], .null) := by decide +kernel
theorem w22_54 : Wp d 22 54 [some (.ref a), l1] st h Q = Wp d 22 55 [some (.ref a), l1] (.ref a :: st) h Q := W_go f22_54 rfl
theorem f22_55 : fetch 22 55 = some (.iconst 1, 1, [], .null) := by decide +kernel
theorem w22_55 : Wp d 22 55 [l0, l1] st h Q = Wp d 22 56 [l0, l1] (.int (1 : Int32) :: st) h Q := W_go f22_55 rfl
theorem f22_56 : fetch 22 56 = some (.invokevirtual 79, 3, [35, 2, 4, 0, 3069, 1004, 3072, 3071, 10], .null) := by decide +kernel
theorem w22_56 (hp : psum st ≤ 8) : Wp d 22 56 [l0, l1] (v1 :: (.ref b) :: st) h Q = rP (h.2 b) 3 (Cp d 35 [(.ref b), v1] h (fun o => cK o (fun w h2 => Wp d 22 59 [l0, l1] (w.toList ++ st) h2 Q) (fun E h2 => Q (.inr E, h2)))) := (W_invV (st := st) f22_56 rfl rfl (by simp only [List.length_cons]; omega) rfl rfl hp).trans (by simp only [hm22, if_true])
theorem f22_59 : fetch 22 59 = some (.ifCond .eq 21, 3, [], .null) := by decide +kernel
theorem w22_59 : Wp d 22 59 [l0, l1] (.int x :: st) h Q = if icond .eq x 0 = true then Wp d 22 80 [l0, l1] st h Q else Wp d 22 62 [l0, l1] st h Q := W_if f22_59 rfl
theorem f22_62 : fetch 22 62 = some (.aload_n 0, 1, [], .null) := by decide +kernel
theorem w22_62 : Wp d 22 62 [some (.ref a), l1] st h Q = Wp d 22 63 [some (.ref a), l1] (.ref a :: st) h Q := W_go f22_62 rfl
theorem f22_63 : fetch 22 63 = some (.aload_n 0, 1, [], .null) := by decide +kernel
theorem w22_63 : Wp d 22 63 [some (.ref a), l1] st h Q = Wp d 22 64 [some (.ref a), l1] (.ref a :: st) h Q := W_go f22_63 rfl
theorem f22_64 : fetch 22 64 = some (.getfield 25, 3, [3, 3, 1228, 0], .null) := by decide +kernel
theorem w22_64 : Wp d 22 64 [l0, l1] (.ref a :: st) h Q = gP (h.2 a) 3 3 (fun w => Wp d 22 67 [l0, l1] (w :: st) h Q) := W_get f22_64 rfl
theorem f22_67 : fetch 22 67 = some (.getfield 83, 3, [0, 4, 1068, 0], .null) := by decide +kernel
theorem w22_67 : Wp d 22 67 [l0, l1] (.ref a :: st) h Q = gP (h.2 a) 0 4 (fun w => Wp d 22 70 [l0, l1] (w :: st) h Q) := W_get f22_67 rfl
theorem f22_70 : fetch 22 70 = some (.iload_n 1, 1, [], .null) := by decide +kernel
theorem w22_70 : Wp d 22 70 [l0, some (.int x)] st h Q = Wp d 22 71 [l0, some (.int x)] (.int x :: st) h Q := W_go f22_70 rfl
theorem f22_71 : fetch 22 71 = some (.iconst 0, 1, [], .null) := by decide +kernel
theorem w22_71 : Wp d 22 71 [l0, l1] st h Q = Wp d 22 72 [l0, l1] (.int (0 : Int32) :: st) h Q := W_go f22_71 rfl
theorem f22_72 : fetch 22 72 = some (.bipush 29, 2, [], .null) := by decide +kernel
theorem w22_72 : Wp d 22 72 [l0, l1] st h Q = Wp d 22 74 [l0, l1] (.int (29 : Int32) :: st) h Q := W_go f22_72 rfl
theorem f22_74 : fetch 22 74 = some (.invokevirtual 87, 3, [31, 5, 4, 0, 3073, 1004, 3076, 3075, 11], .null) := by decide +kernel
theorem w22_74 (hp : psum st ≤ 8) : Wp d 22 74 [l0, l1] (v4 :: v3 :: v2 :: v1 :: (.ref b) :: st) h Q = rP (h.2 b) 3 (Cp d 31 [(.ref b), v1, v2, v3, v4] h (fun o => cK o (fun w h2 => Wp d 22 77 [l0, l1] (w.toList ++ st) h2 Q) (fun E h2 => Q (.inr E, h2)))) := (W_invV (st := st) f22_74 rfl rfl (by simp only [List.length_cons]; omega) rfl rfl hp).trans (by simp only [hm22, if_true])
theorem f22_77 : fetch 22 77 = some (.ifCond .ne 5, 3, [], .null) := by decide +kernel
theorem w22_77 : Wp d 22 77 [l0, l1] (.int x :: st) h Q = if icond .ne x 0 = true then Wp d 22 82 [l0, l1] st h Q else Wp d 22 80 [l0, l1] st h Q := W_if f22_77 rfl
theorem f22_80 : fetch 22 80 = some (.iconst 0, 1, [], .null) := by decide +kernel
theorem w22_80 : Wp d 22 80 [l0, l1] st h Q = Wp d 22 81 [l0, l1] (.int (0 : Int32) :: st) h Q := W_go f22_80 rfl
theorem f22_81 : fetch 22 81 = some (.ireturn, 1, [], .null) := by decide +kernel
theorem w22_81 : Wp d 22 81 [l0, l1] [.int x] h Q = (if narrow .boolean (.int x) = .int x then Q (.inl (some (.int x)), h) else False) := W_zret f22_81 hr22
theorem f22_82 : fetch 22 82 = some (.aload_n 0, 1, [], .null) := by decide +kernel
theorem w22_82 : Wp d 22 82 [some (.ref a), l1] st h Q = Wp d 22 83 [some (.ref a), l1] (.ref a :: st) h Q := W_go f22_82 rfl
theorem f22_83 : fetch 22 83 = some (.iconst 2, 1, [], .null) := by decide +kernel
theorem w22_83 : Wp d 22 83 [l0, l1] st h Q = Wp d 22 84 [l0, l1] (.int (2 : Int32) :: st) h Q := W_go f22_83 rfl
theorem f22_84 : fetch 22 84 = some (.invokevirtual 79, 3, [35, 2, 4, 0, 3069, 1004, 3072, 3071, 10], .null) := by decide +kernel
theorem w22_84 (hp : psum st ≤ 8) : Wp d 22 84 [l0, l1] (v1 :: (.ref b) :: st) h Q = rP (h.2 b) 3 (Cp d 35 [(.ref b), v1] h (fun o => cK o (fun w h2 => Wp d 22 87 [l0, l1] (w.toList ++ st) h2 Q) (fun E h2 => Q (.inr E, h2)))) := (W_invV (st := st) f22_84 rfl rfl (by simp only [List.length_cons]; omega) rfl rfl hp).trans (by simp only [hm22, if_true])
theorem f22_87 : fetch 22 87 = some (.ifCond .eq 21, 3, [], .null) := by decide +kernel
theorem w22_87 : Wp d 22 87 [l0, l1] (.int x :: st) h Q = if icond .eq x 0 = true then Wp d 22 108 [l0, l1] st h Q else Wp d 22 90 [l0, l1] st h Q := W_if f22_87 rfl
theorem f22_90 : fetch 22 90 = some (.aload_n 0, 1, [], .null) := by decide +kernel
theorem w22_90 : Wp d 22 90 [some (.ref a), l1] st h Q = Wp d 22 91 [some (.ref a), l1] (.ref a :: st) h Q := W_go f22_90 rfl
theorem f22_91 : fetch 22 91 = some (.aload_n 0, 1, [], .null) := by decide +kernel
theorem w22_91 : Wp d 22 91 [some (.ref a), l1] st h Q = Wp d 22 92 [some (.ref a), l1] (.ref a :: st) h Q := W_go f22_91 rfl
theorem f22_92 : fetch 22 92 = some (.getfield 25, 3, [3, 3, 1228, 0], .null) := by decide +kernel
theorem w22_92 : Wp d 22 92 [l0, l1] (.ref a :: st) h Q = gP (h.2 a) 3 3 (fun w => Wp d 22 95 [l0, l1] (w :: st) h Q) := W_get f22_92 rfl
theorem f22_95 : fetch 22 95 = some (.getfield 91, 3, [0, 5, 1071, 0], .null) := by decide +kernel
theorem w22_95 : Wp d 22 95 [l0, l1] (.ref a :: st) h Q = gP (h.2 a) 0 5 (fun w => Wp d 22 98 [l0, l1] (w :: st) h Q) := W_get f22_95 rfl
theorem f22_98 : fetch 22 98 = some (.iload_n 1, 1, [], .null) := by decide +kernel
theorem w22_98 : Wp d 22 98 [l0, some (.int x)] st h Q = Wp d 22 99 [l0, some (.int x)] (.int x :: st) h Q := W_go f22_98 rfl
theorem f22_99 : fetch 22 99 = some (.iconst 1, 1, [], .null) := by decide +kernel
theorem w22_99 : Wp d 22 99 [l0, l1] st h Q = Wp d 22 100 [l0, l1] (.int (1 : Int32) :: st) h Q := W_go f22_99 rfl
theorem f22_100 : fetch 22 100 = some (.bipush 30, 2, [], .null) := by decide +kernel
theorem w22_100 : Wp d 22 100 [l0, l1] st h Q = Wp d 22 102 [l0, l1] (.int (30 : Int32) :: st) h Q := W_go f22_100 rfl
theorem f22_102 : fetch 22 102 = some (.invokevirtual 87, 3, [31, 5, 4, 0, 3073, 1004, 3076, 3075, 11], .null) := by decide +kernel
theorem w22_102 (hp : psum st ≤ 8) : Wp d 22 102 [l0, l1] (v4 :: v3 :: v2 :: v1 :: (.ref b) :: st) h Q = rP (h.2 b) 3 (Cp d 31 [(.ref b), v1, v2, v3, v4] h (fun o => cK o (fun w h2 => Wp d 22 105 [l0, l1] (w.toList ++ st) h2 Q) (fun E h2 => Q (.inr E, h2)))) := (W_invV (st := st) f22_102 rfl rfl (by simp only [List.length_cons]; omega) rfl rfl hp).trans (by simp only [hm22, if_true])
theorem f22_105 : fetch 22 105 = some (.ifCond .ne 5, 3, [], .null) := by decide +kernel
theorem w22_105 : Wp d 22 105 [l0, l1] (.int x :: st) h Q = if icond .ne x 0 = true then Wp d 22 110 [l0, l1] st h Q else Wp d 22 108 [l0, l1] st h Q := W_if f22_105 rfl
theorem f22_108 : fetch 22 108 = some (.iconst 0, 1, [], .null) := by decide +kernel
theorem w22_108 : Wp d 22 108 [l0, l1] st h Q = Wp d 22 109 [l0, l1] (.int (0 : Int32) :: st) h Q := W_go f22_108 rfl
theorem f22_109 : fetch 22 109 = some (.ireturn, 1, [], .null) := by decide +kernel
theorem w22_109 : Wp d 22 109 [l0, l1] [.int x] h Q = (if narrow .boolean (.int x) = .int x then Q (.inl (some (.int x)), h) else False) := W_zret f22_109 hr22
theorem f22_110 : fetch 22 110 = some (.iload_n 1, 1, [], .null) := by decide +kernel
theorem w22_110 : Wp d 22 110 [l0, some (.int x)] st h Q = Wp d 22 111 [l0, some (.int x)] (.int x :: st) h Q := W_go f22_110 rfl
theorem f22_111 : fetch 22 111 = some (.bipush 10, 2, [], .null) := by decide +kernel
theorem w22_111 : Wp d 22 111 [l0, l1] st h Q = Wp d 22 113 [l0, l1] (.int (10 : Int32) :: st) h Q := W_go f22_111 rfl
theorem f22_113 : fetch 22 113 = some (.if_icmp .ge 13, 3, [], .null) := by decide +kernel
theorem w22_113 : Wp d 22 113 [l0, l1] (.int y :: .int x :: st) h Q = if icond .ge x y = true then Wp d 22 126 [l0, l1] st h Q else Wp d 22 116 [l0, l1] st h Q := W_if f22_113 rfl
theorem f22_116 : fetch 22 116 = some (.aload_n 0, 1, [], .null) := by decide +kernel
theorem w22_116 : Wp d 22 116 [some (.ref a), l1] st h Q = Wp d 22 117 [some (.ref a), l1] (.ref a :: st) h Q := W_go f22_116 rfl
theorem f22_117 : fetch 22 117 = some (.getfield 25, 3, [3, 3, 1228, 0], .null) := by decide +kernel
theorem w22_117 : Wp d 22 117 [l0, l1] (.ref a :: st) h Q = gP (h.2 a) 3 3 (fun w => Wp d 22 120 [l0, l1] (w :: st) h Q) := W_get f22_117 rfl
theorem f22_120 : fetch 22 120 = some (.iload_n 1, 1, [], .null) := by decide +kernel
theorem w22_120 : Wp d 22 120 [l0, some (.int x)] st h Q = Wp d 22 121 [l0, some (.int x)] (.int x :: st) h Q := W_go f22_120 rfl
theorem f22_121 : fetch 22 121 = some (.iconst 1, 1, [], .null) := by decide +kernel
theorem w22_121 : Wp d 22 121 [l0, l1] st h Q = Wp d 22 122 [l0, l1] (.int (1 : Int32) :: st) h Q := W_go f22_121 rfl
theorem f22_122 : fetch 22 122 = some (.iadd, 1, [], .null) := by decide +kernel
theorem w22_122 : Wp d 22 122 [l0, l1] (.int y :: .int x :: st) h Q = Wp d 22 123 [l0, l1] (.int (x + y) :: st) h Q := W_go f22_122 rfl
theorem f22_123 : fetch 22 123 = some (.putfield 64, 3, [0, 0, 1056, 0], .null) := by decide +kernel
theorem w22_123 : Wp d 22 123 [l0, l1] (v :: .ref a :: st) h Q = pP (h.2 a) 0 0 (ftOf 0 0) v a (fun c => Wp d 22 126 [l0, l1] st (hset h a c) Q) := W_put f22_123 (by rfl)
theorem f22_126 : fetch 22 126 = some (.aload_n 0, 1, [], .null) := by decide +kernel
theorem w22_126 : Wp d 22 126 [some (.ref a), l1] st h Q = Wp d 22 127 [some (.ref a), l1] (.ref a :: st) h Q := W_go f22_126 rfl
theorem f22_127 : fetch 22 127 = some (.bipush 27, 2, [], .null) := by decide +kernel
theorem w22_127 : Wp d 22 127 [l0, l1] st h Q = Wp d 22 129 [l0, l1] (.int (27 : Int32) :: st) h Q := W_go f22_127 rfl
theorem f22_129 : fetch 22 129 = some (.invokevirtual 79, 3, [35, 2, 4, 0, 3069, 1004, 3072, 3071, 10], .null) := by decide +kernel
theorem w22_129 (hp : psum st ≤ 8) : Wp d 22 129 [l0, l1] (v1 :: (.ref b) :: st) h Q = rP (h.2 b) 3 (Cp d 35 [(.ref b), v1] h (fun o => cK o (fun w h2 => Wp d 22 132 [l0, l1] (w.toList ++ st) h2 Q) (fun E h2 => Q (.inr E, h2)))) := (W_invV (st := st) f22_129 rfl rfl (by simp only [List.length_cons]; omega) rfl rfl hp).trans (by simp only [hm22, if_true])
theorem f22_132 : fetch 22 132 = some (.ireturn, 1, [], .null) := by decide +kernel
theorem w22_132 : Wp d 22 132 [l0, l1] [.int x] h Q = (if narrow .boolean (.int x) = .int x then Q (.inl (some (.int x)), h) else False) := W_zret f22_132 hr22
theorem hm23 : mhs 23 = [] := by decide +kernel
theorem hr23 : mret 23 = (some .boolean) := by decide +kernel
theorem f23_0 : fetch 23 0 = some (.aload_n 0, 1, [], .null) := by decide +kernel
theorem w23_0 : Wp d 23 0 [some (.ref a), l1, l2] st h Q = Wp d 23 1 [some (.ref a), l1, l2] (.ref a :: st) h Q := W_go f23_0 rfl
theorem f23_1 : fetch 23 1 = some (.invokevirtual 48, 3, [36, 1, 4, 0, 3048, 1004, 3051, 3050, 5], .null) := by decide +kernel
theorem w23_1 (hp : psum st ≤ 8) : Wp d 23 1 [l0, l1, l2] ((.ref b) :: st) h Q = rP (h.2 b) 3 (Cp d 36 [(.ref b)] h (fun o => cK o (fun w h2 => Wp d 23 4 [l0, l1, l2] (w.toList ++ st) h2 Q) (fun E h2 => Q (.inr E, h2)))) := (W_invV (st := st) f23_1 rfl rfl (by simp only [List.length_cons]; omega) rfl rfl hp).trans (by simp only [hm23, if_true])
theorem f23_4 : fetch 23 4 = some (.aload_n 0, 1, [], .null) := by decide +kernel
theorem w23_4 : Wp d 23 4 [some (.ref a), l1, l2] st h Q = Wp d 23 5 [some (.ref a), l1, l2] (.ref a :: st) h Q := W_go f23_4 rfl
theorem f23_5 : fetch 23 5 = some (.getfield 51, 3, [3, 5, 1230, 0], .null) := by decide +kernel
theorem w23_5 : Wp d 23 5 [l0, l1, l2] (.ref a :: st) h Q = gP (h.2 a) 3 5 (fun w => Wp d 23 8 [l0, l1, l2] (w :: st) h Q) := W_get f23_5 rfl
theorem f23_8 : fetch 23 8 = some (.bipush 23, 2, [], .null) := by decide +kernel
theorem w23_8 : Wp d 23 8 [l0, l1, l2] st h Q = Wp d 23 10 [l0, l1, l2] (.int (23 : Int32) :: st) h Q := W_go f23_8 rfl
theorem f23_10 : fetch 23 10 = some (.if_icmp .eq 5, 3, [], .null) := by decide +kernel
theorem w23_10 : Wp d 23 10 [l0, l1, l2] (.int y :: .int x :: st) h Q = if icond .eq x y = true then Wp d 23 15 [l0, l1, l2] st h Q else Wp d 23 13 [l0, l1, l2] st h Q := W_if f23_10 rfl
theorem f23_13 : fetch 23 13 = some (.iconst 0, 1, [], .null) := by decide +kernel
theorem w23_13 : Wp d 23 13 [l0, l1, l2] st h Q = Wp d 23 14 [l0, l1, l2] (.int (0 : Int32) :: st) h Q := W_go f23_13 rfl
theorem f23_14 : fetch 23 14 = some (.ireturn, 1, [], .null) := by decide +kernel
theorem w23_14 : Wp d 23 14 [l0, l1, l2] [.int x] h Q = (if narrow .boolean (.int x) = .int x then Q (.inl (some (.int x)), h) else False) := W_zret f23_14 hr23
theorem f23_15 : fetch 23 15 = some (.aload_n 0, 1, [], .null) := by decide +kernel
theorem w23_15 : Wp d 23 15 [some (.ref a), l1, l2] st h Q = Wp d 23 16 [some (.ref a), l1, l2] (.ref a :: st) h Q := W_go f23_15 rfl
theorem f23_16 : fetch 23 16 = some (.getfield 25, 3, [3, 3, 1228, 0], .null) := by decide +kernel
theorem w23_16 : Wp d 23 16 [l0, l1, l2] (.ref a :: st) h Q = gP (h.2 a) 3 3 (fun w => Wp d 23 19 [l0, l1, l2] (w :: st) h Q) := W_get f23_16 rfl
theorem f23_19 : fetch 23 19 = some (.getfield 94, 3, [0, 1, 1059, 0], .null) := by decide +kernel
theorem w23_19 : Wp d 23 19 [l0, l1, l2] (.ref a :: st) h Q = gP (h.2 a) 0 1 (fun w => Wp d 23 22 [l0, l1, l2] (w :: st) h Q) := W_get f23_19 rfl
theorem f23_22 : fetch 23 22 = some (.istore_n 1, 1, [], .null) := by decide +kernel
theorem w23_22 : Wp d 23 22 [l0, l1, l2] (.int x :: st) h Q = Wp d 23 23 [kl l0, some (.int x), l2] st h Q := (W_st1 (pc' := 23) (k := 1) f23_22 rfl rfl (by simp only [List.length_cons, List.length_nil]; omega)).trans (by rw [pst1_succ]; rfl)
theorem f23_23 : fetch 23 23 = some (.aload_n 0, 1, [], .null) := by decide +kernel
theorem w23_23 : Wp d 23 23 [some (.ref a), l1, l2] st h Q = Wp d 23 24 [some (.ref a), l1, l2] (.ref a :: st) h Q := W_go f23_23 rfl
theorem f23_24 : fetch 23 24 = some (.iload_n 1, 1, [], .null) := by decide +kernel
theorem w23_24 : Wp d 23 24 [l0, some (.int x), l2] st h Q = Wp d 23 25 [l0, some (.int x), l2] (.int x :: st) h Q := W_go f23_24 rfl
theorem f23_25 : fetch 23 25 = some (.bipush 6, 2, [], .null) := by decide +kernel
theorem w23_25 : Wp d 23 25 [l0, l1, l2] st h Q = Wp d 23 27 [l0, l1, l2] (.int (6 : Int32) :: st) h Q := W_go f23_25 rfl
theorem f23_27 : fetch 23 27 = some (.if_icmp .lt 7, 3, [], .null) := by decide +kernel
theorem w23_27 : Wp d 23 27 [l0, l1, l2] (.int y :: .int x :: st) h Q = if icond .lt x y = true then Wp d 23 34 [l0, l1, l2] st h Q else Wp d 23 30 [l0, l1, l2] st h Q := W_if f23_27 rfl
theorem f23_30 : fetch 23 30 = some (.iconst 1, 1, [], .null) := by decide +kernel
theorem w23_30 : Wp d 23 30 [l0, l1, l2] st h Q = Wp d 23 31 [l0, l1, l2] (.int (1 : Int32) :: st) h Q := W_go f23_30 rfl
theorem f23_31 : fetch 23 31 = some (.goto 4, 3, [], .null) := by decide +kernel
theorem w23_31 : Wp d 23 31 [l0, l1, l2] st h Q = Wp d 23 35 [l0, l1, l2] st h Q := W_go f23_31 rfl
theorem f23_34 : fetch 23 34 = some (.iconst 0, 1, [], .null) := by decide +kernel
theorem w23_34 : Wp d 23 34 [l0, l1, l2] st h Q = Wp d 23 35 [l0, l1, l2] (.int (0 : Int32) :: st) h Q := W_go f23_34 rfl
theorem f23_35 : fetch 23 35 = some (.invokevirtual 67, 3, [32, 2, 4, 0, 3056, 1004, 3059, 3058, 7], .null) := by decide +kernel
theorem w23_35 (hp : psum st ≤ 8) : Wp d 23 35 [l0, l1, l2] (v1 :: (.ref b) :: st) h Q = rP (h.2 b) 3 (Cp d 32 [(.ref b), v1] h (fun o => cK o (fun w h2 => Wp d 23 38 [l0, l1, l2] (w.toList ++ st) h2 Q) (fun E h2 => Q (.inr E, h2)))) := (W_invV (st := st) f23_35 rfl rfl (by simp only [List.length_cons]; omega) rfl rfl hp).trans (by simp only [hm23, if_true])
theorem f23_38 : fetch 23 38 = some (.aload_n 0, 1, [], .null) := by decide +kernel
theorem w23_38 : Wp d 23 38 [some (.ref a), l1, l2] st h Q = Wp d 23 39 [some (.ref a), l1, l2] (.ref a :: st) h Q := W_go f23_38 rfl
theorem f23_39 : fetch 23 39 = some (.getfield 22, 3, [3, 2, 1227, 0], .null) := by decide +kernel
theorem w23_39 : Wp d 23 39 [l0, l1, l2] (.ref a :: st) h Q = gP (h.2 a) 3 2 (fun w => Wp d 23 42 [l0, l1, l2] (w :: st) h Q) := W_get f23_39 rfl
theorem f23_42 : fetch 23 42 = some (.iload_n 1, 1, [], .null) := by decide +kernel
theorem w23_42 : Wp d 23 42 [l0, some (.int x), l2] st h Q = Wp d 23 43 [l0, some (.int x), l2] (.int x :: st) h Q := W_go f23_42 rfl
theorem f23_43 : fetch 23 43 = some (.aload_n 0, 1, [], .null) := by decide +kernel
theorem w23_43 : Wp d 23 43 [some (.ref a), l1, l2] st h Q = Wp d 23 44 [some (.ref a), l1, l2] (.ref a :: st) h Q := W_go f23_43 rfl
theorem f23_44 : fetch 23 44 = some (.getfield 71, 3, [3, 7, 1232, 0], .null) := by decide +kernel
theorem w23_44 : Wp d 23 44 [l0, l1, l2] (.ref a :: st) h Q = gP (h.2 a) 3 7 (fun w => Wp d 23 47 [l0, l1, l2] (w :: st) h Q) := W_get f23_44 rfl
theorem f23_47 : fetch 23 47 = some (.invokestatic 75, 3, [117, 3, 0, 1, 3068, 1001, 2214, 2213], .null) := by decide +kernel
theorem w23_47 (hp : psum st ≤ 8) : Wp d 23 47 [l0, l1, l2] (v2 :: v1 :: v0 :: st) h Q = Cp d 117 [v0, v1, v2] h (fun o => cK o (fun w h2 => Wp d 23 50 [l0, l1, l2] (w.toList ++ st) h2 Q) (fun _ _ => False)) := (W_invS (st := st) f23_47 rfl rfl (by simp only [List.length_cons]; omega) rfl rfl hp)
theorem f23_50 : fetch 23 50 = some (.aload_n 0, 1, [], .null) := by decide +kernel
theorem w23_50 : Wp d 23 50 [some (.ref a), l1, l2] st h Q = Wp d 23 51 [some (.ref a), l1, l2] (.ref a :: st) h Q := W_go f23_50 rfl
theorem f23_51 : fetch 23 51 = some (.invokevirtual 48, 3, [36, 1, 4, 0, 3048, 1004, 3051, 3050, 5], .null) := by decide +kernel
theorem w23_51 (hp : psum st ≤ 8) : Wp d 23 51 [l0, l1, l2] ((.ref b) :: st) h Q = rP (h.2 b) 3 (Cp d 36 [(.ref b)] h (fun o => cK o (fun w h2 => Wp d 23 54 [l0, l1, l2] (w.toList ++ st) h2 Q) (fun E h2 => Q (.inr E, h2)))) := (W_invV (st := st) f23_51 rfl rfl (by simp only [List.length_cons]; omega) rfl rfl hp).trans (by simp only [hm23, if_true])
theorem f23_54 : fetch 23 54 = some (.aload_n 0, 1, [], .null) := by decide +kernel
theorem w23_54 : Wp d 23 54 [some (.ref a), l1, l2] st h Q = Wp d 23 55 [some (.ref a), l1, l2] (.ref a :: st) h Q := W_go f23_54 rfl
theorem f23_55 : fetch 23 55 = some (.iconst 0, 1, [], .null) := by decide +kernel
theorem w23_55 : Wp d 23 55 [l0, l1, l2] st h Q = Wp d 23 56 [l0, l1, l2] (.int (0 : Int32) :: st) h Q := W_go f23_55 rfl
theorem f23_56 : fetch 23 56 = some (.invokevirtual 97, 3, [24, 2, 4, 0, 3082, 1004, 3085, 3084, 13], .null) := by decide +kernel
theorem w23_56 (hp : psum st ≤ 8) : Wp d 23 56 [l0, l1, l2] (v1 :: (.ref b) :: st) h Q = rP (h.2 b) 3 (Cp d 24 [(.ref b), v1] h (fun o => cK o (fun w h2 => Wp d 23 59 [l0, l1, l2] (w.toList ++ st) h2 Q) (fun E h2 => Q (.inr E, h2)))) := (W_invV (st := st) f23_56 rfl rfl (by simp only [List.length_cons]; omega) rfl rfl hp).trans (by simp only [hm23, if_true])
theorem f23_59 : fetch 23 59 = some (.istore_n 2, 1, [], .null) := by decide +kernel
theorem w23_59 : Wp d 23 59 [l0, l1, l2] (.int x :: st) h Q = Wp d 23 60 [l0, kl l1, some (.int x)] st h Q := (W_st1 (pc' := 60) (k := 2) f23_59 rfl rfl (by simp only [List.length_cons, List.length_nil]; omega)).trans (by rw [pst1_succ]; rfl)
theorem f23_60 : fetch 23 60 = some (.iload_n 2, 1, [], .null) := by decide +kernel
theorem w23_60 : Wp d 23 60 [l0, l1, some (.int x)] st h Q = Wp d 23 61 [l0, l1, some (.int x)] (.int x :: st) h Q := W_go f23_60 rfl
theorem f23_61 : fetch 23 61 = some (.bipush (-2), 2, [], .null) := by decide +kernel
theorem w23_61 : Wp d 23 61 [l0, l1, l2] st h Q = Wp d 23 63 [l0, l1, l2] (.int (-2 : Int32) :: st) h Q := W_go f23_61 rfl
theorem f23_63 : fetch 23 63 = some (.if_icmp .ne 5, 3, [], .null) := by decide +kernel
theorem w23_63 : Wp d 23 63 [l0, l1, l2] (.int y :: .int x :: st) h Q = if icond .ne x y = true then Wp d 23 68 [l0, l1, l2] st h Q else Wp d 23 66 [l0, l1, l2] st h Q := W_if f23_63 rfl
theorem f23_66 : fetch 23 66 = some (.iconst 0, 1, [], .null) := by decide +kernel
theorem w23_66 : Wp d 23 66 [l0, l1, l2] st h Q = Wp d 23 67 [l0, l1, l2] (.int (0 : Int32) :: st) h Q := W_go f23_66 rfl
theorem f23_67 : fetch 23 67 = some (.ireturn, 1, [], .null) := by decide +kernel
theorem w23_67 : Wp d 23 67 [l0, l1, l2] [.int x] h Q = (if narrow .boolean (.int x) = .int x then Q (.inl (some (.int x)), h) else False) := W_zret f23_67 hr23
theorem f23_68 : fetch 23 68 = some (.aload_n 0, 1, [], .null) := by decide +kernel
theorem w23_68 : Wp d 23 68 [some (.ref a), l1, l2] st h Q = Wp d 23 69 [some (.ref a), l1, l2] (.ref a :: st) h Q := W_go f23_68 rfl
theorem f23_69 : fetch 23 69 = some (.getfield 25, 3, [3, 3, 1228, 0], .null) := by decide +kernel
theorem w23_69 : Wp d 23 69 [l0, l1, l2] (.ref a :: st) h Q = gP (h.2 a) 3 3 (fun w => Wp d 23 72 [l0, l1, l2] (w :: st) h Q) := W_get f23_69 rfl
theorem f23_72 : fetch 23 72 = some (.getfield 101, 3, [0, 6, 1074, 0], .null) := by decide +kernel
theorem w23_72 : Wp d 23 72 [l0, l1, l2] (.ref a :: st) h Q = gP (h.2 a) 0 6 (fun w => Wp d 23 75 [l0, l1, l2] (w :: st) h Q) := W_get f23_72 rfl
theorem f23_75 : fetch 23 75 = some (.iload_n 1, 1, [], .null) := by decide +kernel
theorem w23_75 : Wp d 23 75 [l0, some (.int x), l2] st h Q = Wp d 23 76 [l0, some (.int x), l2] (.int x :: st) h Q := W_go f23_75 rfl
theorem f23_76 : fetch 23 76 = some (.iload_n 2, 1, [], .null) := by decide +kernel
theorem w23_76 : Wp d 23 76 [l0, l1, some (.int x)] st h Q = Wp d 23 77 [l0, l1, some (.int x)] (.int x :: st) h Q := W_go f23_76 rfl
theorem f23_77 : fetch 23 77 = some (.invokestatic 104, 3, [116, 3, 0, 1, 3077, 1001, 2211, 2210], .null) := by decide +kernel
theorem w23_77 (hp : psum st ≤ 8) : Wp d 23 77 [l0, l1, l2] (v2 :: v1 :: v0 :: st) h Q = Cp d 116 [v0, v1, v2] h (fun o => cK o (fun w h2 => Wp d 23 80 [l0, l1, l2] (w.toList ++ st) h2 Q) (fun _ _ => False)) := (W_invS (st := st) f23_77 rfl rfl (by simp only [List.length_cons]; omega) rfl rfl hp)
theorem f23_80 : fetch 23 80 = some (.iload_n 1, 1, [], .null) := by decide +kernel
theorem w23_80 : Wp d 23 80 [l0, some (.int x), l2] st h Q = Wp d 23 81 [l0, some (.int x), l2] (.int x :: st) h Q := W_go f23_80 rfl
theorem f23_81 : fetch 23 81 = some (.bipush 6, 2, [], .null) := by decide +kernel
theorem w23_81 : Wp d 23 81 [l0, l1, l2] st h Q = Wp d 23 83 [l0, l1, l2] (.int (6 : Int32) :: st) h Q := W_go f23_81 rfl
theorem f23_83 : fetch 23 83 = some (.if_icmp .ge 13, 3, [], .null) := by decide +kernel
theorem w23_83 : Wp d 23 83 [l0, l1, l2] (.int y :: .int x :: st) h Q = if icond .ge x y = true then Wp d 23 96 [l0, l1, l2] st h Q else Wp d 23 86 [l0, l1, l2] st h Q := W_if f23_83 rfl
theorem f23_86 : fetch 23 86 = some (.aload_n 0, 1, [], .null) := by decide +kernel
theorem w23_86 : Wp d 23 86 [some (.ref a), l1, l2] st h Q = Wp d 23 87 [some (.ref a), l1, l2] (.ref a :: st) h Q := W_go f23_86 rfl
theorem f23_87 : fetch 23 87 = some (.getfield 25, 3, [3, 3, 1228, 0], .null) := by decide +kernel
theorem w23_87 : Wp d 23 87 [l0, l1, l2] (.ref a :: st) h Q = gP (h.2 a) 3 3 (fun w => Wp d 23 90 [l0, l1, l2] (w :: st) h Q) := W_get f23_87 rfl
theorem f23_90 : fetch 23 90 = some (.iload_n 1, 1, [], .null) := by decide +kernel
theorem w23_90 : Wp d 23 90 [l0, some (.int x), l2] st h Q = Wp d 23 91 [l0, some (.int x), l2] (.int x :: st) h Q := W_go f23_90 rfl
theorem f23_91 : fetch 23 91 = some (.iconst 1, 1, [], .null) := by decide +kernel
theorem w23_91 : Wp d 23 91 [l0, l1, l2] st h Q = Wp d 23 92 [l0, l1, l2] (.int (1 : Int32) :: st) h Q := W_go f23_91 rfl
theorem f23_92 : fetch 23 92 = some (.iadd, 1, [], .null) := by decide +kernel
theorem w23_92 : Wp d 23 92 [l0, l1, l2] (.int y :: .int x :: st) h Q = Wp d 23 93 [l0, l1, l2] (.int (x + y) :: st) h Q := W_go f23_92 rfl
theorem f23_93 : fetch 23 93 = some (.putfield 94, 3, [0, 1, 1059, 0], .null) := by decide +kernel
theorem w23_93 : Wp d 23 93 [l0, l1, l2] (v :: .ref a :: st) h Q = pP (h.2 a) 0 1 (ftOf 0 1) v a (fun c => Wp d 23 96 [l0, l1, l2] st (hset h a c) Q) := W_put f23_93 (by rfl)
theorem f23_96 : fetch 23 96 = some (.iconst 1, 1, [], .null) := by decide +kernel
theorem w23_96 : Wp d 23 96 [l0, l1, l2] st h Q = Wp d 23 97 [l0, l1, l2] (.int (1 : Int32) :: st) h Q := W_go f23_96 rfl
theorem f23_97 : fetch 23 97 = some (.ireturn, 1, [], .null) := by decide +kernel
theorem w23_97 : Wp d 23 97 [l0, l1, l2] [.int x] h Q = (if narrow .boolean (.int x) = .int x then Q (.inl (some (.int x)), h) else False) := W_zret f23_97 hr23
theorem hm24 : mhs 24 = [] := by decide +kernel
theorem hr24 : mret 24 = (some .int) := by decide +kernel
theorem f24_0 : fetch 24 0 = some (.aload_n 0, 1, [], .null) := by decide +kernel
theorem w24_0 : Wp d 24 0 [some (.ref a), l1, l2, l3, l4, l5] st h Q = Wp d 24 1 [some (.ref a), l1, l2, l3, l4, l5] (.ref a :: st) h Q := W_go f24_0 rfl
theorem f24_1 : fetch 24 1 = some (.getfield 51, 3, [3, 5, 1230, 0], .null) := by decide +kernel
theorem w24_1 : Wp d 24 1 [l0, l1, l2, l3, l4, l5] (.ref a :: st) h Q = gP (h.2 a) 3 5 (fun w => Wp d 24 4 [l0, l1, l2, l3, l4, l5] (w :: st) h Q) := W_get f24_1 rfl
theorem f24_4 : fetch 24 4 = some (.bipush 25, 2, [], .null) := by decide +kernel
theorem w24_4 : Wp d 24 4 [l0, l1, l2, l3, l4, l5] st h Q = Wp d 24 6 [l0, l1, l2, l3, l4, l5] (.int (25 : Int32) :: st) h Q := W_go f24_4 rfl
theorem f24_6 : fetch 24 6 = some (.if_icmp .ne 9, 3, [], .null) := by decide +kernel
theorem w24_6 : Wp d 24 6 [l0, l1, l2, l3, l4, l5] (.int y :: .int x :: st) h Q = if icond .ne x y = true then Wp d 24 15 [l0, l1, l2, l3, l4, l5] st h Q else Wp d 24 9 [l0, l1, l2, l3, l4, l5] st h Q := W_if f24_6 rfl
theorem f24_9 : fetch 24 9 = some (.iload_n 1, 1, [], .null) := by decide +kernel
theorem w24_9 : Wp d 24 9 [l0, some (.int x), l2, l3, l4, l5] st h Q = Wp d 24 10 [l0, some (.int x), l2, l3, l4, l5] (.int x :: st) h Q := W_go f24_9 rfl
theorem f24_10 : fetch 24 10 = some (.bipush 6, 2, [], .null) := by decide +kernel
theorem w24_10 : Wp d 24 10 [l0, l1, l2, l3, l4, l5] st h Q = Wp d 24 12 [l0, l1, l2, l3, l4, l5] (.int (6 : Int32) :: st) h Q := W_go f24_10 rfl
theorem f24_12 : fetch 24 12 = some (.if_icmp .lt 6, 3, [], .null) := by decide +kernel
theorem w24_12 : Wp d 24 12 [l0, l1, l2, l3, l4, l5] (.int y :: .int x :: st) h Q = if icond .lt x y = true then Wp d 24 18 [l0, l1, l2, l3, l4, l5] st h Q else Wp d 24 15 [l0, l1, l2, l3, l4, l5] st h Q := W_if f24_12 rfl
theorem f24_15 : fetch 24 15 = some (.bipush (-2), 2, [], .null) := by decide +kernel
theorem w24_15 : Wp d 24 15 [l0, l1, l2, l3, l4, l5] st h Q = Wp d 24 17 [l0, l1, l2, l3, l4, l5] (.int (-2 : Int32) :: st) h Q := W_go f24_15 rfl
theorem f24_17 : fetch 24 17 = some (.ireturn, 1, [], .null) := by decide +kernel
theorem w24_17 : Wp d 24 17 [l0, l1, l2, l3, l4, l5] [.int x] h Q = Q (.inl (some (.int x)), h) := W_iret f24_17 hr24
theorem f24_18 : fetch 24 18 = some (.aload_n 0, 1, [], .null) := by decide +kernel
theorem w24_18 : Wp d 24 18 [some (.ref a), l1, l2, l3, l4, l5] st h Q = Wp d 24 19 [some (.ref a), l1, l2, l3, l4, l5] (.ref a :: st) h Q := W_go f24_18 rfl
theorem f24_19 : fetch 24 19 = some (.invokevirtual 48, 3, [36, 1, 4, 0, 3048, 1004, 3051, 3050, 5], .null) := by decide +kernel
theorem w24_19 (hp : psum st ≤ 8) : Wp d 24 19 [l0, l1, l2, l3, l4, l5] ((.ref b) :: st) h Q = rP (h.2 b) 3 (Cp d 36 [(.ref b)] h (fun o => cK o (fun w h2 => Wp d 24 22 [l0, l1, l2, l3, l4, l5] (w.toList ++ st) h2 Q) (fun E h2 => Q (.inr E, h2)))) := (W_invV (st := st) f24_19 rfl rfl (by simp only [List.length_cons]; omega) rfl rfl hp).trans (by simp only [hm24, if_true])
theorem f24_22 : fetch 24 22 = some (.iconst (-1), 1, [], .null) := by decide +kernel
theorem w24_22 : Wp d 24 22 [l0, l1, l2, l3, l4, l5] st h Q = Wp d 24 23 [l0, l1, l2, l3, l4, l5] (.int (-1 : Int32) :: st) h Q := W_go f24_22 rfl
theorem f24_23 : fetch 24 23 = some (.istore_n 2, 1, [], .null) := by decide +kernel
theorem w24_23 : Wp d 24 23 [l0, l1, l2, l3, l4, l5] (.int x :: st) h Q = Wp d 24 24 [l0, kl l1, some (.int x), l3, l4, l5] st h Q := (W_st1 (pc' := 24) (k := 2) f24_23 rfl rfl (by simp only [List.length_cons, List.length_nil]; omega)).trans (by rw [pst1_succ]; rfl)
theorem f24_24 : fetch 24 24 = some (.iconst (-1), 1, [], .null) := by decide +kernel
theorem w24_24 : Wp d 24 24 [l0, l1, l2, l3, l4, l5] st h Q = Wp d 24 25 [l0, l1, l2, l3, l4, l5] (.int (-1 : Int32) :: st) h Q := W_go f24_24 rfl
theorem f24_25 : fetch 24 25 = some (.istore_n 3, 1, [], .null) := by decide +kernel
theorem w24_25 : Wp d 24 25 [l0, l1, l2, l3, l4, l5] (.int x :: st) h Q = Wp d 24 26 [l0, l1, kl l2, some (.int x), l4, l5] st h Q := (W_st1 (pc' := 26) (k := 3) f24_25 rfl rfl (by simp only [List.length_cons, List.length_nil]; omega)).trans (by rw [pst1_succ]; rfl)
theorem f24_26 : fetch 24 26 = some (.iconst 0, 1, [], .null) := by decide +kernel
theorem w24_26 : Wp d 24 26 [l0, l1, l2, l3, l4, l5] st h Q = Wp d 24 27 [l0, l1, l2, l3, l4, l5] (.int (0 : Int32) :: st) h Q := W_go f24_26 rfl
theorem f24_27 : fetch 24 27 = some (.istore 4, 2, [], .null) := by decide +kernel
theorem w24_27 : Wp d 24 27 [l0, l1, l2, l3, l4, l5] (.int x :: st) h Q = Wp d 24 29 [l0, l1, l2, kl l3, some (.int x), l5] st h Q := (W_st1 (pc' := 29) (k := 4) f24_27 rfl rfl (by simp only [List.length_cons, List.length_nil]; omega)).trans (by rw [pst1_succ]; rfl)
theorem f24_29 : fetch 24 29 = some (.iload 4, 2, [], .null) := by decide +kernel
theorem w24_29 : Wp d 24 29 [l0, l1, l2, l3, some (.int x), l5] st h Q = Wp d 24 31 [l0, l1, l2, l3, some (.int x), l5] (.int x :: st) h Q := W_go f24_29 rfl
theorem f24_31 : fetch 24 31 = some (.sipush 400, 3, [], .null) := by decide +kernel
theorem w24_31 : Wp d 24 31 [l0, l1, l2, l3, l4, l5] st h Q = Wp d 24 34 [l0, l1, l2, l3, l4, l5] (.int (400 : Int32) :: st) h Q := W_go f24_31 rfl
theorem f24_34 : fetch 24 34 = some (.if_icmp .ge 72, 3, [], .null) := by decide +kernel
theorem w24_34 : Wp d 24 34 [l0, l1, l2, l3, l4, l5] (.int y :: .int x :: st) h Q = if icond .ge x y = true then Wp d 24 106 [l0, l1, l2, l3, l4, l5] st h Q else Wp d 24 37 [l0, l1, l2, l3, l4, l5] st h Q := W_if f24_34 rfl
theorem f24_37 : fetch 24 37 = some (.aload_n 0, 1, [], .null) := by decide +kernel
theorem w24_37 : Wp d 24 37 [some (.ref a), l1, l2, l3, l4, l5] st h Q = Wp d 24 38 [some (.ref a), l1, l2, l3, l4, l5] (.ref a :: st) h Q := W_go f24_37 rfl
theorem f24_38 : fetch 24 38 = some (.getfield 51, 3, [3, 5, 1230, 0], .null) := by decide +kernel
theorem w24_38 : Wp d 24 38 [l0, l1, l2, l3, l4, l5] (.ref a :: st) h Q = gP (h.2 a) 3 5 (fun w => Wp d 24 41 [l0, l1, l2, l3, l4, l5] (w :: st) h Q) := W_get f24_38 rfl
theorem f24_41 : fetch 24 41 = some (.iconst 4, 1, [], .null) := by decide +kernel
theorem w24_41 : Wp d 24 41 [l0, l1, l2, l3, l4, l5] st h Q = Wp d 24 42 [l0, l1, l2, l3, l4, l5] (.int (4 : Int32) :: st) h Q := W_go f24_41 rfl
theorem f24_42 : fetch 24 42 = some (.if_icmp .lt 64, 3, [], .null) := by decide +kernel
theorem w24_42 : Wp d 24 42 [l0, l1, l2, l3, l4, l5] (.int y :: .int x :: st) h Q = if icond .lt x y = true then Wp d 24 106 [l0, l1, l2, l3, l4, l5] st h Q else Wp d 24 45 [l0, l1, l2, l3, l4, l5] st h Q := W_if f24_42 rfl
theorem f24_45 : fetch 24 45 = some (.aload_n 0, 1, [], .null) := by decide +kernel
theorem w24_45 : Wp d 24 45 [some (.ref a), l1, l2, l3, l4, l5] st h Q = Wp d 24 46 [some (.ref a), l1, l2, l3, l4, l5] (.ref a :: st) h Q := W_go f24_45 rfl
theorem f24_46 : fetch 24 46 = some (.getfield 51, 3, [3, 5, 1230, 0], .null) := by decide +kernel
theorem w24_46 : Wp d 24 46 [l0, l1, l2, l3, l4, l5] (.ref a :: st) h Q = gP (h.2 a) 3 5 (fun w => Wp d 24 49 [l0, l1, l2, l3, l4, l5] (w :: st) h Q) := W_get f24_46 rfl
theorem f24_49 : fetch 24 49 = some (.bipush 13, 2, [], .null) := by decide +kernel
theorem w24_49 : Wp d 24 49 [l0, l1, l2, l3, l4, l5] st h Q = Wp d 24 51 [l0, l1, l2, l3, l4, l5] (.int (13 : Int32) :: st) h Q := W_go f24_49 rfl
theorem f24_51 : fetch 24 51 = some (.if_icmp .gt 55, 3, [], .null) := by decide +kernel
theorem w24_51 : Wp d 24 51 [l0, l1, l2, l3, l4, l5] (.int y :: .int x :: st) h Q = if icond .gt x y = true then Wp d 24 106 [l0, l1, l2, l3, l4, l5] st h Q else Wp d 24 54 [l0, l1, l2, l3, l4, l5] st h Q := W_if f24_51 rfl
theorem f24_54 : fetch 24 54 = some (.aload_n 0, 1, [], .null) := by decide +kernel
theorem w24_54 : Wp d 24 54 [some (.ref a), l1, l2, l3, l4, l5] st h Q = Wp d 24 55 [some (.ref a), l1, l2, l3, l4, l5] (.ref a :: st) h Q := W_go f24_54 rfl
theorem f24_55 : fetch 24 55 = some (.invokevirtual 107, 3, [25, 1, 4, 0, 3086, 1004, 3089, 3088, 14], .null) := by decide +kernel
theorem w24_55 (hp : psum st ≤ 8) : Wp d 24 55 [l0, l1, l2, l3, l4, l5] ((.ref b) :: st) h Q = rP (h.2 b) 3 (Cp d 25 [(.ref b)] h (fun o => cK o (fun w h2 => Wp d 24 58 [l0, l1, l2, l3, l4, l5] (w.toList ++ st) h2 Q) (fun E h2 => Q (.inr E, h2)))) := (W_invV (st := st) f24_55 rfl rfl (by simp only [List.length_cons]; omega) rfl rfl hp).trans (by simp only [hm24, if_true])
theorem f24_58 : fetch 24 58 = some (.istore 5, 2, [], .null) := by decide +kernel
theorem w24_58 : Wp d 24 58 [l0, l1, l2, l3, l4, l5] (.int x :: st) h Q = Wp d 24 60 [l0, l1, l2, l3, kl l4, some (.int x)] st h Q := (W_st1 (pc' := 60) (k := 5) f24_58 rfl rfl (by simp only [List.length_cons, List.length_nil]; omega)).trans (by rw [pst1_succ]; rfl)
theorem f24_60 : fetch 24 60 = some (.aload_n 0, 1, [], .null) := by decide +kernel
theorem w24_60 : Wp d 24 60 [some (.ref a), l1, l2, l3, l4, l5] st h Q = Wp d 24 61 [some (.ref a), l1, l2, l3, l4, l5] (.ref a :: st) h Q := W_go f24_60 rfl
theorem f24_61 : fetch 24 61 = some (.iload 5, 2, [], .null) := by decide +kernel
theorem w24_61 : Wp d 24 61 [l0, l1, l2, l3, l4, some (.int x)] st h Q = Wp d 24 63 [l0, l1, l2, l3, l4, some (.int x)] (.int x :: st) h Q := W_go f24_61 rfl
theorem f24_63 : fetch 24 63 = some (.iload_n 1, 1, [], .null) := by decide +kernel
theorem w24_63 : Wp d 24 63 [l0, some (.int x), l2, l3, l4, l5] st h Q = Wp d 24 64 [l0, some (.int x), l2, l3, l4, l5] (.int x :: st) h Q := W_go f24_63 rfl
theorem f24_64 : fetch 24 64 = some (.invokevirtual 111, 3, [26, 3, 4, 0, 3090, 1004, 3093, 3092, 15], .null) := by decide +kernel
theorem w24_64 (hp : psum st ≤ 8) : Wp d 24 64 [l0, l1, l2, l3, l4, l5] (v2 :: v1 :: (.ref b) :: st) h Q = rP (h.2 b) 3 (Cp d 26 [(.ref b), v1, v2] h (fun o => cK o (fun w h2 => Wp d 24 67 [l0, l1, l2, l3, l4, l5] (w.toList ++ st) h2 Q) (fun E h2 => Q (.inr E, h2)))) := (W_invV (st := st) f24_64 rfl rfl (by simp only [List.length_cons]; omega) rfl rfl hp).trans (by simp only [hm24, if_true])
theorem f24_67 : fetch 24 67 = some (.ifCond .ne 6, 3, [], .null) := by decide +kernel
theorem w24_67 : Wp d 24 67 [l0, l1, l2, l3, l4, l5] (.int x :: st) h Q = if icond .ne x 0 = true then Wp d 24 73 [l0, l1, l2, l3, l4, l5] st h Q else Wp d 24 70 [l0, l1, l2, l3, l4, l5] st h Q := W_if f24_67 rfl
theorem f24_70 : fetch 24 70 = some (.bipush (-2), 2, [], .null) := by decide +kernel
theorem w24_70 : Wp d 24 70 [l0, l1, l2, l3, l4, l5] st h Q = Wp d 24 72 [l0, l1, l2, l3, l4, l5] (.int (-2 : Int32) :: st) h Q := W_go f24_70 rfl
theorem f24_72 : fetch 24 72 = some (.ireturn, 1, [], .null) := by decide +kernel
theorem w24_72 : Wp d 24 72 [l0, l1, l2, l3, l4, l5] [.int x] h Q = Q (.inl (some (.int x)), h) := W_iret f24_72 hr24
theorem f24_73 : fetch 24 73 = some (.iload_n 3, 1, [], .null) := by decide +kernel
theorem w24_73 : Wp d 24 73 [l0, l1, l2, some (.int x), l4, l5] st h Q = Wp d 24 74 [l0, l1, l2, some (.int x), l4, l5] (.int x :: st) h Q := W_go f24_73 rfl
theorem f24_74 : fetch 24 74 = some (.iconst (-1), 1, [], .null) := by decide +kernel
theorem w24_74 : Wp d 24 74 [l0, l1, l2, l3, l4, l5] st h Q = Wp d 24 75 [l0, l1, l2, l3, l4, l5] (.int (-1 : Int32) :: st) h Q := W_go f24_74 rfl
theorem f24_75 : fetch 24 75 = some (.if_icmp .ne 9, 3, [], .null) := by decide +kernel
theorem w24_75 : Wp d 24 75 [l0, l1, l2, l3, l4, l5] (.int y :: .int x :: st) h Q = if icond .ne x y = true then Wp d 24 84 [l0, l1, l2, l3, l4, l5] st h Q else Wp d 24 78 [l0, l1, l2, l3, l4, l5] st h Q := W_if f24_75 rfl
theorem f24_78 : fetch 24 78 = some (.iload 5, 2, [], .null) := by decide +kernel
theorem w24_78 : Wp d 24 78 [l0, l1, l2, l3, l4, some (.int x)] st h Q = Wp d 24 80 [l0, l1, l2, l3, l4, some (.int x)] (.int x :: st) h Q := W_go f24_78 rfl
theorem f24_80 : fetch 24 80 = some (.istore_n 2, 1, [], .null) := by decide +kernel
theorem w24_80 : Wp d 24 80 [l0, l1, l2, l3, l4, l5] (.int x :: st) h Q = Wp d 24 81 [l0, kl l1, some (.int x), l3, l4, l5] st h Q := (W_st1 (pc' := 81) (k := 2) f24_80 rfl rfl (by simp only [List.length_cons, List.length_nil]; omega)).trans (by rw [pst1_succ]; rfl)
theorem f24_81 : fetch 24 81 = some (.goto 16, 3, [], .null) := by decide +kernel
theorem w24_81 : Wp d 24 81 [l0, l1, l2, l3, l4, l5] st h Q = Wp d 24 97 [l0, l1, l2, l3, l4, l5] st h Q := W_go f24_81 rfl
theorem f24_84 : fetch 24 84 = some (.aload_n 0, 1, [], .null) := by decide +kernel
theorem w24_84 : Wp d 24 84 [some (.ref a), l1, l2, l3, l4, l5] st h Q = Wp d 24 85 [some (.ref a), l1, l2, l3, l4, l5] (.ref a :: st) h Q := W_go f24_84 rfl
theorem f24_85 : fetch 24 85 = some (.getfield 25, 3, [3, 3, 1228, 0], .null) := by decide +kernel
theorem w24_85 : Wp d 24 85 [l0, l1, l2, l3, l4, l5] (.ref a :: st) h Q = gP (h.2 a) 3 3 (fun w => Wp d 24 88 [l0, l1, l2, l3, l4, l5] (w :: st) h Q) := W_get f24_85 rfl
theorem f24_88 : fetch 24 88 = some (.getfield 115, 3, [0, 9, 1083, 0], .null) := by decide +kernel
theorem w24_88 : Wp d 24 88 [l0, l1, l2, l3, l4, l5] (.ref a :: st) h Q = gP (h.2 a) 0 9 (fun w => Wp d 24 91 [l0, l1, l2, l3, l4, l5] (w :: st) h Q) := W_get f24_88 rfl
theorem f24_91 : fetch 24 91 = some (.iload_n 3, 1, [], .null) := by decide +kernel
theorem w24_91 : Wp d 24 91 [l0, l1, l2, some (.int x), l4, l5] st h Q = Wp d 24 92 [l0, l1, l2, some (.int x), l4, l5] (.int x :: st) h Q := W_go f24_91 rfl
theorem f24_92 : fetch 24 92 = some (.iload 5, 2, [], .null) := by decide +kernel
theorem w24_92 : Wp d 24 92 [l0, l1, l2, l3, l4, some (.int x)] st h Q = Wp d 24 94 [l0, l1, l2, l3, l4, some (.int x)] (.int x :: st) h Q := W_go f24_92 rfl
theorem f24_94 : fetch 24 94 = some (.invokestatic 104, 3, [116, 3, 0, 1, 3077, 1001, 2211, 2210], .null) := by decide +kernel
theorem w24_94 (hp : psum st ≤ 8) : Wp d 24 94 [l0, l1, l2, l3, l4, l5] (v2 :: v1 :: v0 :: st) h Q = Cp d 116 [v0, v1, v2] h (fun o => cK o (fun w h2 => Wp d 24 97 [l0, l1, l2, l3, l4, l5] (w.toList ++ st) h2 Q) (fun _ _ => False)) := (W_invS (st := st) f24_94 rfl rfl (by simp only [List.length_cons]; omega) rfl rfl hp)
theorem f24_97 : fetch 24 97 = some (.iload 5, 2, [], .null) := by decide +kernel
theorem w24_97 : Wp d 24 97 [l0, l1, l2, l3, l4, some (.int x)] st h Q = Wp d 24 99 [l0, l1, l2, l3, l4, some (.int x)] (.int x :: st) h Q := W_go f24_97 rfl
theorem f24_99 : fetch 24 99 = some (.istore_n 3, 1, [], .null) := by decide +kernel
theorem w24_99 : Wp d 24 99 [l0, l1, l2, l3, l4, l5] (.int x :: st) h Q = Wp d 24 100 [l0, l1, kl l2, some (.int x), l4, l5] st h Q := (W_st1 (pc' := 100) (k := 3) f24_99 rfl rfl (by simp only [List.length_cons, List.length_nil]; omega)).trans (by rw [pst1_succ]; rfl)
theorem f24_100 : fetch 24 100 = some (.iinc 4 1, 3, [], .null) := by decide +kernel
theorem w24_100 : Wp d 24 100 [l0, l1, l2, l3, some (.int x), l5] st h Q = Wp d 24 103 [l0, l1, l2, kl l3, some (.int (x + (1 : Int32))), l5] st h Q := (W_iinc (y := (1 : Int32)) f24_100 rfl (by simp only [List.length_cons, List.length_nil]; omega) (by decide)).trans (by rw [pst1_succ]; rfl)
theorem f24_103 : fetch 24 103 = some (.goto (-74), 3, [], .null) := by decide +kernel
theorem w24_103 : Wp d 24 103 [l0, l1, l2, l3, l4, l5] st h Q = Wp d 24 29 [l0, l1, l2, l3, l4, l5] st h Q := W_go f24_103 rfl
theorem f24_106 : fetch 24 106 = some (.aload_n 0, 1, [], .null) := by decide +kernel
theorem w24_106 : Wp d 24 106 [some (.ref a), l1, l2, l3, l4, l5] st h Q = Wp d 24 107 [some (.ref a), l1, l2, l3, l4, l5] (.ref a :: st) h Q := W_go f24_106 rfl
theorem f24_107 : fetch 24 107 = some (.bipush 26, 2, [], .null) := by decide +kernel
theorem w24_107 : Wp d 24 107 [l0, l1, l2, l3, l4, l5] st h Q = Wp d 24 109 [l0, l1, l2, l3, l4, l5] (.int (26 : Int32) :: st) h Q := W_go f24_107 rfl
theorem f24_109 : fetch 24 109 = some (.invokevirtual 79, 3, [35, 2, 4, 0, 3069, 1004, 3072, 3071, 10], .null) := by decide +kernel
theorem w24_109 (hp : psum st ≤ 8) : Wp d 24 109 [l0, l1, l2, l3, l4, l5] (v1 :: (.ref b) :: st) h Q = rP (h.2 b) 3 (Cp d 35 [(.ref b), v1] h (fun o => cK o (fun w h2 => Wp d 24 112 [l0, l1, l2, l3, l4, l5] (w.toList ++ st) h2 Q) (fun E h2 => Q (.inr E, h2)))) := (W_invV (st := st) f24_109 rfl rfl (by simp only [List.length_cons]; omega) rfl rfl hp).trans (by simp only [hm24, if_true])
theorem f24_112 : fetch 24 112 = some (.ifCond .eq 7, 3, [], .null) := by decide +kernel
theorem w24_112 : Wp d 24 112 [l0, l1, l2, l3, l4, l5] (.int x :: st) h Q = if icond .eq x 0 = true then Wp d 24 119 [l0, l1, l2, l3, l4, l5] st h Q else Wp d 24 115 [l0, l1, l2, l3, l4, l5] st h Q := W_if f24_112 rfl
theorem f24_115 : fetch 24 115 = some (.iload_n 2, 1, [], .null) := by decide +kernel
theorem w24_115 : Wp d 24 115 [l0, l1, some (.int x), l3, l4, l5] st h Q = Wp d 24 116 [l0, l1, some (.int x), l3, l4, l5] (.int x :: st) h Q := W_go f24_115 rfl
theorem f24_116 : fetch 24 116 = some (.goto 5, 3, [], .null) := by decide +kernel
theorem w24_116 : Wp d 24 116 [l0, l1, l2, l3, l4, l5] st h Q = Wp d 24 121 [l0, l1, l2, l3, l4, l5] st h Q := W_go f24_116 rfl
theorem f24_119 : fetch 24 119 = some (.bipush (-2), 2, [], .null) := by decide +kernel
theorem w24_119 : Wp d 24 119 [l0, l1, l2, l3, l4, l5] st h Q = Wp d 24 121 [l0, l1, l2, l3, l4, l5] (.int (-2 : Int32) :: st) h Q := W_go f24_119 rfl
theorem f24_121 : fetch 24 121 = some (.ireturn, 1, [], .null) := by decide +kernel
theorem w24_121 : Wp d 24 121 [l0, l1, l2, l3, l4, l5] [.int x] h Q = Q (.inl (some (.int x)), h) := W_iret f24_121 hr24
theorem hm25 : mhs 25 = [] := by decide +kernel
theorem hr25 : mret 25 = (some .int) := by decide +kernel
theorem f25_0 : fetch 25 0 = some (.aload_n 0, 1, [], .null) := by decide +kernel
theorem w25_0 : Wp d 25 0 [some (.ref a), l1] st h Q = Wp d 25 1 [some (.ref a), l1] (.ref a :: st) h Q := W_go f25_0 rfl
theorem f25_1 : fetch 25 1 = some (.getfield 25, 3, [3, 3, 1228, 0], .null) := by decide +kernel
theorem w25_1 : Wp d 25 1 [l0, l1] (.ref a :: st) h Q = gP (h.2 a) 3 3 (fun w => Wp d 25 4 [l0, l1] (w :: st) h Q) := W_get f25_1 rfl
theorem f25_4 : fetch 25 4 = some (.getfield 118, 3, [0, 2, 1062, 0], .null) := by decide +kernel
theorem w25_4 : Wp d 25 4 [l0, l1] (.ref a :: st) h Q = gP (h.2 a) 0 2 (fun w => Wp d 25 7 [l0, l1] (w :: st) h Q) := W_get f25_4 rfl
theorem f25_7 : fetch 25 7 = some (.istore_n 1, 1, [], .null) := by decide +kernel
theorem w25_7 : Wp d 25 7 [l0, l1] (.int x :: st) h Q = Wp d 25 8 [kl l0, some (.int x)] st h Q := (W_st1 (pc' := 8) (k := 1) f25_7 rfl rfl (by simp only [List.length_cons, List.length_nil]; omega)).trans (by rw [pst1_succ]; rfl)
theorem f25_8 : fetch 25 8 = some (.iload_n 1, 1, [], .null) := by decide +kernel
theorem w25_8 : Wp d 25 8 [l0, some (.int x)] st h Q = Wp d 25 9 [l0, some (.int x)] (.int x :: st) h Q := W_go f25_8 rfl
theorem f25_9 : fetch 25 9 = some (.bipush 80, 2, [], .null) := by decide +kernel
theorem w25_9 : Wp d 25 9 [l0, l1] st h Q = Wp d 25 11 [l0, l1] (.int (80 : Int32) :: st) h Q := W_go f25_9 rfl
theorem f25_11 : fetch 25 11 = some (.if_icmp .lt 10, 3, [], .null) := by decide +kernel
theorem w25_11 : Wp d 25 11 [l0, l1] (.int y :: .int x :: st) h Q = if icond .lt x y = true then Wp d 25 21 [l0, l1] st h Q else Wp d 25 14 [l0, l1] st h Q := W_if f25_11 rfl
theorem f25_14 : fetch 25 14 = some (.aload_n 0, 1, [], .null) := by decide +kernel
theorem w25_14 : Wp d 25 14 [some (.ref a), l1] st h Q = Wp d 25 15 [some (.ref a), l1] (.ref a :: st) h Q := W_go f25_14 rfl
theorem f25_15 : fetch 25 15 = some (.iconst 4, 1, [], .null) := by decide +kernel
theorem w25_15 : Wp d 25 15 [l0, l1] st h Q = Wp d 25 16 [l0, l1] (.int (4 : Int32) :: st) h Q := W_go f25_15 rfl
theorem f25_16 : fetch 25 16 = some (.invokevirtual 121, 3, [34, 2, 4, 0, 3064, 1004, 3067, 3066, 9], .null) := by decide +kernel
theorem w25_16 (hp : psum st ≤ 8) : Wp d 25 16 [l0, l1] (v1 :: (.ref b) :: st) h Q = rP (h.2 b) 3 (Cp d 34 [(.ref b), v1] h (fun o => cK o (fun w h2 => Wp d 25 19 [l0, l1] (w.toList ++ st) h2 Q) (fun E h2 => Q (.inr E, h2)))) := (W_invV (st := st) f25_16 rfl rfl (by simp only [List.length_cons]; omega) rfl rfl hp).trans (by simp only [hm25, if_true])
theorem f25_19 : fetch 25 19 = some (.iconst (-1), 1, [], .null) := by decide +kernel
theorem w25_19 : Wp d 25 19 [l0, l1] st h Q = Wp d 25 20 [l0, l1] (.int (-1 : Int32) :: st) h Q := W_go f25_19 rfl
theorem f25_20 : fetch 25 20 = some (.ireturn, 1, [], .null) := by decide +kernel
theorem w25_20 : Wp d 25 20 [l0, l1] [.int x] h Q = Q (.inl (some (.int x)), h) := W_iret f25_20 hr25
theorem f25_21 : fetch 25 21 = some (.aload_n 0, 1, [], .null) := by decide +kernel
theorem w25_21 : Wp d 25 21 [some (.ref a), l1] st h Q = Wp d 25 22 [some (.ref a), l1] (.ref a :: st) h Q := W_go f25_21 rfl
theorem f25_22 : fetch 25 22 = some (.getfield 25, 3, [3, 3, 1228, 0], .null) := by decide +kernel
theorem w25_22 : Wp d 25 22 [l0, l1] (.ref a :: st) h Q = gP (h.2 a) 3 3 (fun w => Wp d 25 25 [l0, l1] (w :: st) h Q) := W_get f25_22 rfl
theorem f25_25 : fetch 25 25 = some (.getfield 125, 3, [0, 7, 1077, 0], .null) := by decide +kernel
theorem w25_25 : Wp d 25 25 [l0, l1] (.ref a :: st) h Q = gP (h.2 a) 0 7 (fun w => Wp d 25 28 [l0, l1] (w :: st) h Q) := W_get f25_25 rfl
theorem f25_28 : fetch 25 28 = some (.iload_n 1, 1, [], .null) := by decide +kernel
theorem w25_28 : Wp d 25 28 [l0, some (.int x)] st h Q = Wp d 25 29 [l0, some (.int x)] (.int x :: st) h Q := W_go f25_28 rfl
theorem f25_29 : fetch 25 29 = some (.aload_n 0, 1, [], .null) := by decide +kernel
theorem w25_29 : Wp d 25 29 [some (.ref a), l1] st h Q = Wp d 25 30 [some (.ref a), l1] (.ref a :: st) h Q := W_go f25_29 rfl
theorem f25_30 : fetch 25 30 = some (.getfield 51, 3, [3, 5, 1230, 0], .null) := by decide +kernel
theorem w25_30 : Wp d 25 30 [l0, l1] (.ref a :: st) h Q = gP (h.2 a) 3 5 (fun w => Wp d 25 33 [l0, l1] (w :: st) h Q) := W_get f25_30 rfl
theorem f25_33 : fetch 25 33 = some (.invokestatic 104, 3, [116, 3, 0, 1, 3077, 1001, 2211, 2210], .null) := by decide +kernel
theorem w25_33 (hp : psum st ≤ 8) : Wp d 25 33 [l0, l1] (v2 :: v1 :: v0 :: st) h Q = Cp d 116 [v0, v1, v2] h (fun o => cK o (fun w h2 => Wp d 25 36 [l0, l1] (w.toList ++ st) h2 Q) (fun _ _ => False)) := (W_invS (st := st) f25_33 rfl rfl (by simp only [List.length_cons]; omega) rfl rfl hp)
theorem f25_36 : fetch 25 36 = some (.aload_n 0, 1, [], .null) := by decide +kernel
theorem w25_36 : Wp d 25 36 [some (.ref a), l1] st h Q = Wp d 25 37 [some (.ref a), l1] (.ref a :: st) h Q := W_go f25_36 rfl
theorem f25_37 : fetch 25 37 = some (.getfield 25, 3, [3, 3, 1228, 0], .null) := by decide +kernel
theorem w25_37 : Wp d 25 37 [l0, l1] (.ref a :: st) h Q = gP (h.2 a) 3 3 (fun w => Wp d 25 40 [l0, l1] (w :: st) h Q) := W_get f25_37 rfl
theorem f25_40 : fetch 25 40 = some (.getfield 115, 3, [0, 9, 1083, 0], .null) := by decide +kernel
theorem w25_40 : Wp d 25 40 [l0, l1] (.ref a :: st) h Q = gP (h.2 a) 0 9 (fun w => Wp d 25 43 [l0, l1] (w :: st) h Q) := W_get f25_40 rfl
theorem f25_43 : fetch 25 43 = some (.iload_n 1, 1, [], .null) := by decide +kernel
theorem w25_43 : Wp d 25 43 [l0, some (.int x)] st h Q = Wp d 25 44 [l0, some (.int x)] (.int x :: st) h Q := W_go f25_43 rfl
theorem f25_44 : fetch 25 44 = some (.iconst (-1), 1, [], .null) := by decide +kernel
theorem w25_44 : Wp d 25 44 [l0, l1] st h Q = Wp d 25 45 [l0, l1] (.int (-1 : Int32) :: st) h Q := W_go f25_44 rfl
theorem f25_45 : fetch 25 45 = some (.invokestatic 104, 3, [116, 3, 0, 1, 3077, 1001, 2211, 2210], .null) := by decide +kernel
theorem w25_45 (hp : psum st ≤ 8) : Wp d 25 45 [l0, l1] (v2 :: v1 :: v0 :: st) h Q = Cp d 116 [v0, v1, v2] h (fun o => cK o (fun w h2 => Wp d 25 48 [l0, l1] (w.toList ++ st) h2 Q) (fun _ _ => False)) := (W_invS (st := st) f25_45 rfl rfl (by simp only [List.length_cons]; omega) rfl rfl hp)
theorem f25_48 : fetch 25 48 = some (.aload_n 0, 1, [], .null) := by decide +kernel
theorem w25_48 : Wp d 25 48 [some (.ref a), l1] st h Q = Wp d 25 49 [some (.ref a), l1] (.ref a :: st) h Q := W_go f25_48 rfl
theorem f25_49 : fetch 25 49 = some (.getfield 25, 3, [3, 3, 1228, 0], .null) := by decide +kernel
theorem w25_49 : Wp d 25 49 [l0, l1] (.ref a :: st) h Q = gP (h.2 a) 3 3 (fun w => Wp d 25 52 [l0, l1] (w :: st) h Q) := W_get f25_49 rfl
theorem f25_52 : fetch 25 52 = some (.getfield 128, 3, [0, 11, 1089, 0], .null) := by decide +kernel
theorem w25_52 : Wp d 25 52 [l0, l1] (.ref a :: st) h Q = gP (h.2 a) 0 11 (fun w => Wp d 25 55 [l0, l1] (w :: st) h Q) := W_get f25_52 rfl
theorem f25_55 : fetch 25 55 = some (.iload_n 1, 1, [], .null) := by decide +kernel
theorem w25_55 : Wp d 25 55 [l0, some (.int x)] st h Q = Wp d 25 56 [l0, some (.int x)] (.int x :: st) h Q := W_go f25_55 rfl
theorem f25_56 : fetch 25 56 = some (.iconst (-1), 1, [], .null) := by decide +kernel
theorem w25_56 : Wp d 25 56 [l0, l1] st h Q = Wp d 25 57 [l0, l1] (.int (-1 : Int32) :: st) h Q := W_go f25_56 rfl
theorem f25_57 : fetch 25 57 = some (.invokestatic 104, 3, [116, 3, 0, 1, 3077, 1001, 2211, 2210], .null) := by decide +kernel
theorem w25_57 (hp : psum st ≤ 8) : Wp d 25 57 [l0, l1] (v2 :: v1 :: v0 :: st) h Q = Cp d 116 [v0, v1, v2] h (fun o => cK o (fun w h2 => Wp d 25 60 [l0, l1] (w.toList ++ st) h2 Q) (fun _ _ => False)) := (W_invS (st := st) f25_57 rfl rfl (by simp only [List.length_cons]; omega) rfl rfl hp)
theorem f25_60 : fetch 25 60 = some (.aload_n 0, 1, [], .null) := by decide +kernel
theorem w25_60 : Wp d 25 60 [some (.ref a), l1] st h Q = Wp d 25 61 [some (.ref a), l1] (.ref a :: st) h Q := W_go f25_60 rfl
theorem f25_61 : fetch 25 61 = some (.getfield 25, 3, [3, 3, 1228, 0], .null) := by decide +kernel
theorem w25_61 : Wp d 25 61 [l0, l1] (.ref a :: st) h Q = gP (h.2 a) 3 3 (fun w => Wp d 25 64 [l0, l1] (w :: st) h Q) := W_get f25_61 rfl
theorem f25_64 : fetch 25 64 = some (.iload_n 1, 1, [], .null) := by decide +kernel
theorem w25_64 : Wp d 25 64 [l0, some (.int x)] st h Q = Wp d 25 65 [l0, some (.int x)] (.int x :: st) h Q := W_go f25_64 rfl
theorem f25_65 : fetch 25 65 = some (.iconst 1, 1, [], .null) := by decide +kernel
theorem w25_65 : Wp d 25 65 [l0, l1] st h Q = Wp d 25 66 [l0, l1] (.int (1 : Int32) :: st) h Q := W_go f25_65 rfl
theorem f25_66 : fetch 25 66 = some (.iadd, 1, [], .null) := by decide +kernel
theorem w25_66 : Wp d 25 66 [l0, l1] (.int y :: .int x :: st) h Q = Wp d 25 67 [l0, l1] (.int (x + y) :: st) h Q := W_go f25_66 rfl
theorem f25_67 : fetch 25 67 = some (.putfield 118, 3, [0, 2, 1062, 0], .null) := by decide +kernel
theorem w25_67 : Wp d 25 67 [l0, l1] (v :: .ref a :: st) h Q = pP (h.2 a) 0 2 (ftOf 0 2) v a (fun c => Wp d 25 70 [l0, l1] st (hset h a c) Q) := W_put f25_67 (by rfl)
theorem f25_70 : fetch 25 70 = some (.iload_n 1, 1, [], .null) := by decide +kernel
theorem w25_70 : Wp d 25 70 [l0, some (.int x)] st h Q = Wp d 25 71 [l0, some (.int x)] (.int x :: st) h Q := W_go f25_70 rfl
theorem f25_71 : fetch 25 71 = some (.ireturn, 1, [], .null) := by decide +kernel
theorem w25_71 : Wp d 25 71 [l0, l1] [.int x] h Q = Q (.inl (some (.int x)), h) := W_iret f25_71 hr25
theorem hm26 : mhs 26 = [] := by decide +kernel
theorem hr26 : mret 26 = (some .boolean) := by decide +kernel
theorem f26_0 : fetch 26 0 = some (.aload_n 0, 1, [], .null) := by decide +kernel
theorem w26_0 : Wp d 26 0 [some (.ref a), l1, l2, l3] st h Q = Wp d 26 1 [some (.ref a), l1, l2, l3] (.ref a :: st) h Q := W_go f26_0 rfl
theorem f26_1 : fetch 26 1 = some (.getfield 51, 3, [3, 5, 1230, 0], .null) := by decide +kernel
theorem w26_1 : Wp d 26 1 [l0, l1, l2, l3] (.ref a :: st) h Q = gP (h.2 a) 3 5 (fun w => Wp d 26 4 [l0, l1, l2, l3] (w :: st) h Q) := W_get f26_1 rfl
theorem f26_4 : fetch 26 4 = some (.istore_n 3, 1, [], .null) := by decide +kernel
theorem w26_4 : Wp d 26 4 [l0, l1, l2, l3] (.int x :: st) h Q = Wp d 26 5 [l0, l1, kl l2, some (.int x)] st h Q := (W_st1 (pc' := 5) (k := 3) f26_4 rfl rfl (by simp only [List.length_cons, List.length_nil]; omega)).trans (by rw [pst1_succ]; rfl)
theorem f26_5 : fetch 26 5 = some (.aload_n 0, 1, [], .null) := by decide +kernel
theorem w26_5 : Wp d 26 5 [some (.ref a), l1, l2, l3] st h Q = Wp d 26 6 [some (.ref a), l1, l2, l3] (.ref a :: st) h Q := W_go f26_5 rfl
theorem f26_6 : fetch 26 6 = some (.invokevirtual 48, 3, [36, 1, 4, 0, 3048, 1004, 3051, 3050, 5], .null) := by decide +kernel
theorem w26_6 (hp : psum st ≤ 8) : Wp d 26 6 [l0, l1, l2, l3] ((.ref b) :: st) h Q = rP (h.2 b) 3 (Cp d 36 [(.ref b)] h (fun o => cK o (fun w h2 => Wp d 26 9 [l0, l1, l2, l3] (w.toList ++ st) h2 Q) (fun E h2 => Q (.inr E, h2)))) := (W_invV (st := st) f26_6 rfl rfl (by simp only [List.length_cons]; omega) rfl rfl hp).trans (by simp only [hm26, if_true])
theorem f26_9 : fetch 26 9 = some (.iload_n 3, 1, [], .null) := by decide +kernel
theorem w26_9 : Wp d 26 9 [l0, l1, l2, some (.int x)] st h Q = Wp d 26 10 [l0, l1, l2, some (.int x)] (.int x :: st) h Q := W_go f26_9 rfl
theorem f26_10 : fetch 26 10 = some (.tableswitch 232 7 13 #[42, 42, 42, 72, 106, 140, 177], 42, [], .null) := by decide +kernel
theorem w26_10 : Wp d 26 10 [l0, l1, l2, l3] (.int x :: st) h Q = Wp d 26 (ptable 10 232 7 13 #[42, 42, 42, 72, 106, 140, 177] x) [l0, l1, l2, l3] st h Q := W_go f26_10 rfl
theorem f26_52 : fetch 26 52 = some (.aload_n 0, 1, [], .null) := by decide +kernel
theorem w26_52 : Wp d 26 52 [some (.ref a), l1, l2, l3] st h Q = Wp d 26 53 [some (.ref a), l1, l2, l3] (.ref a :: st) h Q := W_go f26_52 rfl
theorem f26_53 : fetch 26 53 = some (.aload_n 0, 1, [], .null) := by decide +kernel
theorem w26_53 : Wp d 26 53 [some (.ref a), l1, l2, l3] st h Q = Wp d 26 54 [some (.ref a), l1, l2, l3] (.ref a :: st) h Q := W_go f26_53 rfl
theorem f26_54 : fetch 26 54 = some (.getfield 25, 3, [3, 3, 1228, 0], .null) := by decide +kernel
theorem w26_54 : Wp d 26 54 [l0, l1, l2, l3] (.ref a :: st) h Q = gP (h.2 a) 3 3 (fun w => Wp d 26 57 [l0, l1, l2, l3] (w :: st) h Q) := W_get f26_54 rfl
theorem f26_57 : fetch 26 57 = some (.getfield 131, 3, [0, 8, 1080, 0], .null) := by decide +kernel
theorem w26_57 : Wp d 26 57 [l0, l1, l2, l3] (.ref a :: st) h Q = gP (h.2 a) 0 8 (fun w => Wp d 26 60 [l0, l1, l2, l3] (w :: st) h Q) := W_get f26_57 rfl
theorem f26_60 : fetch 26 60 = some (.iload_n 1, 1, [], .null) := by decide +kernel
theorem w26_60 : Wp d 26 60 [l0, some (.int x), l2, l3] st h Q = Wp d 26 61 [l0, some (.int x), l2, l3] (.int x :: st) h Q := W_go f26_60 rfl
theorem f26_61 : fetch 26 61 = some (.invokevirtual 134, 3, [30, 3, 4, 0, 3094, 1004, 3097, 3096, 16], .null) := by decide +kernel
theorem w26_61 (hp : psum st ≤ 8) : Wp d 26 61 [l0, l1, l2, l3] (v2 :: v1 :: (.ref b) :: st) h Q = rP (h.2 b) 3 (Cp d 30 [(.ref b), v1, v2] h (fun o => cK o (fun w h2 => Wp d 26 64 [l0, l1, l2, l3] (w.toList ++ st) h2 Q) (fun E h2 => Q (.inr E, h2)))) := (W_invV (st := st) f26_61 rfl rfl (by simp only [List.length_cons]; omega) rfl rfl hp).trans (by simp only [hm26, if_true])
theorem f26_64 : fetch 26 64 = some (.ifCond .eq 16, 3, [], .null) := by decide +kernel
theorem w26_64 : Wp d 26 64 [l0, l1, l2, l3] (.int x :: st) h Q = if icond .eq x 0 = true then Wp d 26 80 [l0, l1, l2, l3] st h Q else Wp d 26 67 [l0, l1, l2, l3] st h Q := W_if f26_64 rfl
theorem f26_67 : fetch 26 67 = some (.aload_n 0, 1, [], .null) := by decide +kernel
theorem w26_67 : Wp d 26 67 [some (.ref a), l1, l2, l3] st h Q = Wp d 26 68 [some (.ref a), l1, l2, l3] (.ref a :: st) h Q := W_go f26_67 rfl
theorem f26_68 : fetch 26 68 = some (.bipush 27, 2, [], .null) := by decide +kernel
theorem w26_68 : Wp d 26 68 [l0, l1, l2, l3] st h Q = Wp d 26 70 [l0, l1, l2, l3] (.int (27 : Int32) :: st) h Q := W_go f26_68 rfl
theorem f26_70 : fetch 26 70 = some (.invokevirtual 79, 3, [35, 2, 4, 0, 3069, 1004, 3072, 3071, 10], .null) := by decide +kernel
theorem w26_70 (hp : psum st ≤ 8) : Wp d 26 70 [l0, l1, l2, l3] (v1 :: (.ref b) :: st) h Q = rP (h.2 b) 3 (Cp d 35 [(.ref b), v1] h (fun o => cK o (fun w h2 => Wp d 26 73 [l0, l1, l2, l3] (w.toList ++ st) h2 Q) (fun E h2 => Q (.inr E, h2)))) := (W_invV (st := st) f26_70 rfl rfl (by simp only [List.length_cons]; omega) rfl rfl hp).trans (by simp only [hm26, if_true])
theorem f26_73 : fetch 26 73 = some (.ifCond .eq 7, 3, [], .null) := by decide +kernel
theorem w26_73 : Wp d 26 73 [l0, l1, l2, l3] (.int x :: st) h Q = if icond .eq x 0 = true then Wp d 26 80 [l0, l1, l2, l3] st h Q else Wp d 26 76 [l0, l1, l2, l3] st h Q := W_if f26_73 rfl
theorem f26_76 : fetch 26 76 = some (.iconst 1, 1, [], .null) := by decide +kernel
theorem w26_76 : Wp d 26 76 [l0, l1, l2, l3] st h Q = Wp d 26 77 [l0, l1, l2, l3] (.int (1 : Int32) :: st) h Q := W_go f26_76 rfl
theorem f26_77 : fetch 26 77 = some (.goto 4, 3, [], .null) := by decide +kernel
theorem w26_77 : Wp d 26 77 [l0, l1, l2, l3] st h Q = Wp d 26 81 [l0, l1, l2, l3] st h Q := W_go f26_77 rfl
theorem f26_80 : fetch 26 80 = some (.iconst 0, 1, [], .null) := by decide +kernel
theorem w26_80 : Wp d 26 80 [l0, l1, l2, l3] st h Q = Wp d 26 81 [l0, l1, l2, l3] (.int (0 : Int32) :: st) h Q := W_go f26_80 rfl
theorem f26_81 : fetch 26 81 = some (.ireturn, 1, [], .null) := by decide +kernel
theorem w26_81 : Wp d 26 81 [l0, l1, l2, l3] [.int x] h Q = (if narrow .boolean (.int x) = .int x then Q (.inl (some (.int x)), h) else False) := W_zret f26_81 hr26
theorem f26_82 : fetch 26 82 = some (.aload_n 0, 1, [], .null) := by decide +kernel
theorem w26_82 : Wp d 26 82 [some (.ref a), l1, l2, l3] st h Q = Wp d 26 83 [some (.ref a), l1, l2, l3] (.ref a :: st) h Q := W_go f26_82 rfl
theorem f26_83 : fetch 26 83 = some (.iload_n 1, 1, [], .null) := by decide +kernel
theorem w26_83 : Wp d 26 83 [l0, some (.int x), l2, l3] st h Q = Wp d 26 84 [l0, some (.int x), l2, l3] (.int x :: st) h Q := W_go f26_83 rfl
theorem f26_84 : fetch 26 84 = some (.aload_n 0, 1, [], .null) := by decide +kernel
theorem w26_84 : Wp d 26 84 [some (.ref a), l1, l2, l3] st h Q = Wp d 26 85 [some (.ref a), l1, l2, l3] (.ref a :: st) h Q := W_go f26_84 rfl
theorem f26_85 : fetch 26 85 = some (.getfield 18, 3, [3, 1, 1226, 0], .null) := by decide +kernel
theorem w26_85 : Wp d 26 85 [l0, l1, l2, l3] (.ref a :: st) h Q = gP (h.2 a) 3 1 (fun w => Wp d 26 88 [l0, l1, l2, l3] (w :: st) h Q) := W_get f26_85 rfl
theorem f26_88 : fetch 26 88 = some (.aload_n 0, 1, [], .null) := by decide +kernel
theorem w26_88 : Wp d 26 88 [some (.ref a), l1, l2, l3] st h Q = Wp d 26 89 [some (.ref a), l1, l2, l3] (.ref a :: st) h Q := W_go f26_88 rfl
theorem f26_89 : fetch 26 89 = some (.getfield 25, 3, [3, 3, 1228, 0], .null) := by decide +kernel
theorem w26_89 : Wp d 26 89 [l0, l1, l2, l3] (.ref a :: st) h Q = gP (h.2 a) 3 3 (fun w => Wp d 26 92 [l0, l1, l2, l3] (w :: st) h Q) := W_get f26_89 rfl
theorem f26_92 : fetch 26 92 = some (.getfield 64, 3, [0, 0, 1056, 0], .null) := by decide +kernel
theorem w26_92 : Wp d 26 92 [l0, l1, l2, l3] (.ref a :: st) h Q = gP (h.2 a) 0 0 (fun w => Wp d 26 95 [l0, l1, l2, l3] (w :: st) h Q) := W_get f26_92 rfl
theorem f26_95 : fetch 26 95 = some (.invokevirtual 138, 3, [29, 4, 4, 0, 3099, 1004, 3102, 3101, 17], .null) := by decide +kernel
theorem w26_95 (hp : psum st ≤ 8) : Wp d 26 95 [l0, l1, l2, l3] (v3 :: v2 :: v1 :: (.ref b) :: st) h Q = rP (h.2 b) 3 (Cp d 29 [(.ref b), v1, v2, v3] h (fun o => cK o (fun w h2 => Wp d 26 98 [l0, l1, l2, l3] (w.toList ++ st) h2 Q) (fun E h2 => Q (.inr E, h2)))) := (W_invV (st := st) f26_95 rfl rfl (by simp only [List.length_cons]; omega) rfl rfl hp).trans (by simp only [hm26, if_true])
theorem f26_98 : fetch 26 98 = some (.ifCond .eq 16, 3, [], .null) := by decide +kernel
theorem w26_98 : Wp d 26 98 [l0, l1, l2, l3] (.int x :: st) h Q = if icond .eq x 0 = true then Wp d 26 114 [l0, l1, l2, l3] st h Q else Wp d 26 101 [l0, l1, l2, l3] st h Q := W_if f26_98 rfl
theorem f26_101 : fetch 26 101 = some (.aload_n 0, 1, [], .null) := by decide +kernel
theorem w26_101 : Wp d 26 101 [some (.ref a), l1, l2, l3] st h Q = Wp d 26 102 [some (.ref a), l1, l2, l3] (.ref a :: st) h Q := W_go f26_101 rfl
theorem f26_102 : fetch 26 102 = some (.bipush 27, 2, [], .null) := by decide +kernel
theorem w26_102 : Wp d 26 102 [l0, l1, l2, l3] st h Q = Wp d 26 104 [l0, l1, l2, l3] (.int (27 : Int32) :: st) h Q := W_go f26_102 rfl
theorem f26_104 : fetch 26 104 = some (.invokevirtual 79, 3, [35, 2, 4, 0, 3069, 1004, 3072, 3071, 10], .null) := by decide +kernel
theorem w26_104 (hp : psum st ≤ 8) : Wp d 26 104 [l0, l1, l2, l3] (v1 :: (.ref b) :: st) h Q = rP (h.2 b) 3 (Cp d 35 [(.ref b), v1] h (fun o => cK o (fun w h2 => Wp d 26 107 [l0, l1, l2, l3] (w.toList ++ st) h2 Q) (fun E h2 => Q (.inr E, h2)))) := (W_invV (st := st) f26_104 rfl rfl (by simp only [List.length_cons]; omega) rfl rfl hp).trans (by simp only [hm26, if_true])
theorem f26_107 : fetch 26 107 = some (.ifCond .eq 7, 3, [], .null) := by decide +kernel
theorem w26_107 : Wp d 26 107 [l0, l1, l2, l3] (.int x :: st) h Q = if icond .eq x 0 = true then Wp d 26 114 [l0, l1, l2, l3] st h Q else Wp d 26 110 [l0, l1, l2, l3] st h Q := W_if f26_107 rfl
theorem f26_110 : fetch 26 110 = some (.iconst 1, 1, [], .null) := by decide +kernel
theorem w26_110 : Wp d 26 110 [l0, l1, l2, l3] st h Q = Wp d 26 111 [l0, l1, l2, l3] (.int (1 : Int32) :: st) h Q := W_go f26_110 rfl
theorem f26_111 : fetch 26 111 = some (.goto 4, 3, [], .null) := by decide +kernel
theorem w26_111 : Wp d 26 111 [l0, l1, l2, l3] st h Q = Wp d 26 115 [l0, l1, l2, l3] st h Q := W_go f26_111 rfl
theorem f26_114 : fetch 26 114 = some (.iconst 0, 1, [], .null) := by decide +kernel
theorem w26_114 : Wp d 26 114 [l0, l1, l2, l3] st h Q = Wp d 26 115 [l0, l1, l2, l3] (.int (0 : Int32) :: st) h Q := W_go f26_114 rfl
theorem f26_115 : fetch 26 115 = some (.ireturn, 1, [], .null) := by decide +kernel
theorem w26_115 : Wp d 26 115 [l0, l1, l2, l3] [.int x] h Q = (if narrow .boolean (.int x) = .int x then Q (.inl (some (.int x)), h) else False) := W_zret f26_115 hr26
theorem f26_116 : fetch 26 116 = some (.aload_n 0, 1, [], .null) := by decide +kernel
theorem w26_116 : Wp d 26 116 [some (.ref a), l1, l2, l3] st h Q = Wp d 26 117 [some (.ref a), l1, l2, l3] (.ref a :: st) h Q := W_go f26_116 rfl
theorem f26_117 : fetch 26 117 = some (.iload_n 1, 1, [], .null) := by decide +kernel
theorem w26_117 : Wp d 26 117 [l0, some (.int x), l2, l3] st h Q = Wp d 26 118 [l0, some (.int x), l2, l3] (.int x :: st) h Q := W_go f26_117 rfl
theorem f26_118 : fetch 26 118 = some (.aload_n 0, 1, [], .null) := by decide +kernel
theorem w26_118 : Wp d 26 118 [some (.ref a), l1, l2, l3] st h Q = Wp d 26 119 [some (.ref a), l1, l2, l3] (.ref a :: st) h Q := W_go f26_118 rfl
theorem f26_119 : fetch 26 119 = some (.getfield 22, 3, [3, 2, 1227, 0], .null) := by decide +kernel
theorem w26_119 : Wp d 26 119 [l0, l1, l2, l3] (.ref a :: st) h Q = gP (h.2 a) 3 2 (fun w => Wp d 26 122 [l0, l1, l2, l3] (w :: st) h Q) := W_get f26_119 rfl
theorem f26_122 : fetch 26 122 = some (.aload_n 0, 1, [], .null) := by decide +kernel
theorem w26_122 : Wp d 26 122 [some (.ref a), l1, l2, l3] st h Q = Wp d 26 123 [some (.ref a), l1, l2, l3] (.ref a :: st) h Q := W_go f26_122 rfl
theorem f26_123 : fetch 26 123 = some (.getfield 25, 3, [3, 3, 1228, 0], .null) := by decide +kernel
theorem w26_123 : Wp d 26 123 [l0, l1, l2, l3] (.ref a :: st) h Q = gP (h.2 a) 3 3 (fun w => Wp d 26 126 [l0, l1, l2, l3] (w :: st) h Q) := W_get f26_123 rfl
theorem f26_126 : fetch 26 126 = some (.getfield 94, 3, [0, 1, 1059, 0], .null) := by decide +kernel
theorem w26_126 : Wp d 26 126 [l0, l1, l2, l3] (.ref a :: st) h Q = gP (h.2 a) 0 1 (fun w => Wp d 26 129 [l0, l1, l2, l3] (w :: st) h Q) := W_get f26_126 rfl
theorem f26_129 : fetch 26 129 = some (.invokevirtual 138, 3, [29, 4, 4, 0, 3099, 1004, 3102, 3101, 17], .null) := by decide +kernel
theorem w26_129 (hp : psum st ≤ 8) : Wp d 26 129 [l0, l1, l2, l3] (v3 :: v2 :: v1 :: (.ref b) :: st) h Q = rP (h.2 b) 3 (Cp d 29 [(.ref b), v1, v2, v3] h (fun o => cK o (fun w h2 => Wp d 26 132 [l0, l1, l2, l3] (w.toList ++ st) h2 Q) (fun E h2 => Q (.inr E, h2)))) := (W_invV (st := st) f26_129 rfl rfl (by simp only [List.length_cons]; omega) rfl rfl hp).trans (by simp only [hm26, if_true])
theorem f26_132 : fetch 26 132 = some (.ifCond .eq 16, 3, [], .null) := by decide +kernel
theorem w26_132 : Wp d 26 132 [l0, l1, l2, l3] (.int x :: st) h Q = if icond .eq x 0 = true then Wp d 26 148 [l0, l1, l2, l3] st h Q else Wp d 26 135 [l0, l1, l2, l3] st h Q := W_if f26_132 rfl
theorem f26_135 : fetch 26 135 = some (.aload_n 0, 1, [], .null) := by decide +kernel
theorem w26_135 : Wp d 26 135 [some (.ref a), l1, l2, l3] st h Q = Wp d 26 136 [some (.ref a), l1, l2, l3] (.ref a :: st) h Q := W_go f26_135 rfl
theorem f26_136 : fetch 26 136 = some (.bipush 27, 2, [], .null) := by decide +kernel
theorem w26_136 : Wp d 26 136 [l0, l1, l2, l3] st h Q = Wp d 26 138 [l0, l1, l2, l3] (.int (27 : Int32) :: st) h Q := W_go f26_136 rfl
theorem f26_138 : fetch 26 138 = some (.invokevirtual 79, 3, [35, 2, 4, 0, 3069, 1004, 3072, 3071, 10], .null) := by decide +kernel
theorem w26_138 (hp : psum st ≤ 8) : Wp d 26 138 [l0, l1, l2, l3] (v1 :: (.ref b) :: st) h Q = rP (h.2 b) 3 (Cp d 35 [(.ref b), v1] h (fun o => cK o (fun w h2 => Wp d 26 141 [l0, l1, l2, l3] (w.toList ++ st) h2 Q) (fun E h2 => Q (.inr E, h2)))) := (W_invV (st := st) f26_138 rfl rfl (by simp only [List.length_cons]; omega) rfl rfl hp).trans (by simp only [hm26, if_true])
theorem f26_141 : fetch 26 141 = some (.ifCond .eq 7, 3, [], .null) := by decide +kernel
theorem w26_141 : Wp d 26 141 [l0, l1, l2, l3] (.int x :: st) h Q = if icond .eq x 0 = true then Wp d 26 148 [l0, l1, l2, l3] st h Q else Wp d 26 144 [l0, l1, l2, l3] st h Q := W_if f26_141 rfl
theorem f26_144 : fetch 26 144 = some (.iconst 1, 1, [], .null) := by decide +kernel
theorem w26_144 : Wp d 26 144 [l0, l1, l2, l3] st h Q = Wp d 26 145 [l0, l1, l2, l3] (.int (1 : Int32) :: st) h Q := W_go f26_144 rfl
theorem f26_145 : fetch 26 145 = some (.goto 4, 3, [], .null) := by decide +kernel
theorem w26_145 : Wp d 26 145 [l0, l1, l2, l3] st h Q = Wp d 26 149 [l0, l1, l2, l3] st h Q := W_go f26_145 rfl
theorem f26_148 : fetch 26 148 = some (.iconst 0, 1, [], .null) := by decide +kernel
theorem w26_148 : Wp d 26 148 [l0, l1, l2, l3] st h Q = Wp d 26 149 [l0, l1, l2, l3] (.int (0 : Int32) :: st) h Q := W_go f26_148 rfl
theorem f26_149 : fetch 26 149 = some (.ireturn, 1, [], .null) := by decide +kernel
theorem w26_149 : Wp d 26 149 [l0, l1, l2, l3] [.int x] h Q = (if narrow .boolean (.int x) = .int x then Q (.inl (some (.int x)), h) else False) := W_zret f26_149 hr26
theorem f26_150 : fetch 26 150 = some (.aload_n 0, 1, [], .null) := by decide +kernel
theorem w26_150 : Wp d 26 150 [some (.ref a), l1, l2, l3] st h Q = Wp d 26 151 [some (.ref a), l1, l2, l3] (.ref a :: st) h Q := W_go f26_150 rfl
theorem f26_151 : fetch 26 151 = some (.aload_n 0, 1, [], .null) := by decide +kernel
theorem w26_151 : Wp d 26 151 [some (.ref a), l1, l2, l3] st h Q = Wp d 26 152 [some (.ref a), l1, l2, l3] (.ref a :: st) h Q := W_go f26_151 rfl
theorem f26_152 : fetch 26 152 = some (.getfield 25, 3, [3, 3, 1228, 0], .null) := by decide +kernel
theorem w26_152 : Wp d 26 152 [l0, l1, l2, l3] (.ref a :: st) h Q = gP (h.2 a) 3 3 (fun w => Wp d 26 155 [l0, l1, l2, l3] (w :: st) h Q) := W_get f26_152 rfl
theorem f26_155 : fetch 26 155 = some (.getfield 131, 3, [0, 8, 1080, 0], .null) := by decide +kernel
theorem w26_155 : Wp d 26 155 [l0, l1, l2, l3] (.ref a :: st) h Q = gP (h.2 a) 0 8 (fun w => Wp d 26 158 [l0, l1, l2, l3] (w :: st) h Q) := W_get f26_155 rfl
theorem f26_158 : fetch 26 158 = some (.iload_n 1, 1, [], .null) := by decide +kernel
theorem w26_158 : Wp d 26 158 [l0, some (.int x), l2, l3] st h Q = Wp d 26 159 [l0, some (.int x), l2, l3] (.int x :: st) h Q := W_go f26_158 rfl
theorem f26_159 : fetch 26 159 = some (.invokevirtual 134, 3, [30, 3, 4, 0, 3094, 1004, 3097, 3096, 16], .null) := by decide +kernel
theorem w26_159 (hp : psum st ≤ 8) : Wp d 26 159 [l0, l1, l2, l3] (v2 :: v1 :: (.ref b) :: st) h Q = rP (h.2 b) 3 (Cp d 30 [(.ref b), v1, v2] h (fun o => cK o (fun w h2 => Wp d 26 162 [l0, l1, l2, l3] (w.toList ++ st) h2 Q) (fun E h2 => Q (.inr E, h2)))) := (W_invV (st := st) f26_159 rfl rfl (by simp only [List.length_cons]; omega) rfl rfl hp).trans (by simp only [hm26, if_true])
theorem f26_162 : fetch 26 162 = some (.ifCond .eq 23, 3, [], .null) := by decide +kernel
theorem w26_162 : Wp d 26 162 [l0, l1, l2, l3] (.int x :: st) h Q = if icond .eq x 0 = true then Wp d 26 185 [l0, l1, l2, l3] st h Q else Wp d 26 165 [l0, l1, l2, l3] st h Q := W_if f26_162 rfl
theorem f26_165 : fetch 26 165 = some (.aload_n 0, 1, [], .null) := by decide +kernel
theorem w26_165 : Wp d 26 165 [some (.ref a), l1, l2, l3] st h Q = Wp d 26 166 [some (.ref a), l1, l2, l3] (.ref a :: st) h Q := W_go f26_165 rfl
theorem f26_166 : fetch 26 166 = some (.aload_n 0, 1, [], .null) := by decide +kernel
theorem w26_166 : Wp d 26 166 [some (.ref a), l1, l2, l3] st h Q = Wp d 26 167 [some (.ref a), l1, l2, l3] (.ref a :: st) h Q := W_go f26_166 rfl
theorem f26_167 : fetch 26 167 = some (.getfield 25, 3, [3, 3, 1228, 0], .null) := by decide +kernel
theorem w26_167 : Wp d 26 167 [l0, l1, l2, l3] (.ref a :: st) h Q = gP (h.2 a) 3 3 (fun w => Wp d 26 170 [l0, l1, l2, l3] (w :: st) h Q) := W_get f26_167 rfl
theorem f26_170 : fetch 26 170 = some (.getfield 142, 3, [0, 10, 1086, 0], .null) := by decide +kernel
theorem w26_170 : Wp d 26 170 [l0, l1, l2, l3] (.ref a :: st) h Q = gP (h.2 a) 0 10 (fun w => Wp d 26 173 [l0, l1, l2, l3] (w :: st) h Q) := W_get f26_170 rfl
theorem f26_173 : fetch 26 173 = some (.iload_n 1, 1, [], .null) := by decide +kernel
theorem w26_173 : Wp d 26 173 [l0, some (.int x), l2, l3] st h Q = Wp d 26 174 [l0, some (.int x), l2, l3] (.int x :: st) h Q := W_go f26_173 rfl
theorem f26_174 : fetch 26 174 = some (.iload_n 2, 1, [], .null) := by decide +kernel
theorem w26_174 : Wp d 26 174 [l0, l1, some (.int x), l3] st h Q = Wp d 26 175 [l0, l1, some (.int x), l3] (.int x :: st) h Q := W_go f26_174 rfl
theorem f26_175 : fetch 26 175 = some (.invokevirtual 145, 3, [27, 4, 4, 0, 3103, 1004, 3106, 3105, 18], .null) := by decide +kernel
theorem w26_175 (hp : psum st ≤ 8) : Wp d 26 175 [l0, l1, l2, l3] (v3 :: v2 :: v1 :: (.ref b) :: st) h Q = rP (h.2 b) 3 (Cp d 27 [(.ref b), v1, v2, v3] h (fun o => cK o (fun w h2 => Wp d 26 178 [l0, l1, l2, l3] (w.toList ++ st) h2 Q) (fun E h2 => Q (.inr E, h2)))) := (W_invV (st := st) f26_175 rfl rfl (by simp only [List.length_cons]; omega) rfl rfl hp).trans (by simp only [hm26, if_true])
theorem f26_178 : fetch 26 178 = some (.ifCond .eq 7, 3, [], .null) := by decide +kernel
theorem w26_178 : Wp d 26 178 [l0, l1, l2, l3] (.int x :: st) h Q = if icond .eq x 0 = true then Wp d 26 185 [l0, l1, l2, l3] st h Q else Wp d 26 181 [l0, l1, l2, l3] st h Q := W_if f26_178 rfl
theorem f26_181 : fetch 26 181 = some (.iconst 1, 1, [], .null) := by decide +kernel
theorem w26_181 : Wp d 26 181 [l0, l1, l2, l3] st h Q = Wp d 26 182 [l0, l1, l2, l3] (.int (1 : Int32) :: st) h Q := W_go f26_181 rfl
theorem f26_182 : fetch 26 182 = some (.goto 4, 3, [], .null) := by decide +kernel
theorem w26_182 : Wp d 26 182 [l0, l1, l2, l3] st h Q = Wp d 26 186 [l0, l1, l2, l3] st h Q := W_go f26_182 rfl
theorem f26_185 : fetch 26 185 = some (.iconst 0, 1, [], .null) := by decide +kernel
theorem w26_185 : Wp d 26 185 [l0, l1, l2, l3] st h Q = Wp d 26 186 [l0, l1, l2, l3] (.int (0 : Int32) :: st) h Q := W_go f26_185 rfl
theorem f26_186 : fetch 26 186 = some (.ireturn, 1, [], .null) := by decide +kernel
theorem w26_186 : Wp d 26 186 [l0, l1, l2, l3] [.int x] h Q = (if narrow .boolean (.int x) = .int x then Q (.inl (some (.int x)), h) else False) := W_zret f26_186 hr26
theorem f26_187 : fetch 26 187 = some (.aload_n 0, 1, [], .null) := by decide +kernel
theorem w26_187 : Wp d 26 187 [some (.ref a), l1, l2, l3] st h Q = Wp d 26 188 [some (.ref a), l1, l2, l3] (.ref a :: st) h Q := W_go f26_187 rfl
theorem f26_188 : fetch 26 188 = some (.iload_n 1, 1, [], .null) := by decide +kernel
theorem w26_188 : Wp d 26 188 [l0, some (.int x), l2, l3] st h Q = Wp d 26 189 [l0, some (.int x), l2, l3] (.int x :: st) h Q := W_go f26_188 rfl
theorem f26_189 : fetch 26 189 = some (.invokevirtual 149, 3, [28, 2, 4, 0, 3107, 1004, 3110, 3109, 19], .null) := by decide +kernel
theorem w26_189 (hp : psum st ≤ 8) : Wp d 26 189 [l0, l1, l2, l3] (v1 :: (.ref b) :: st) h Q = rP (h.2 b) 3 (Cp d 28 [(.ref b), v1] h (fun o => cK o (fun w h2 => Wp d 26 192 [l0, l1, l2, l3] (w.toList ++ st) h2 Q) (fun E h2 => Q (.inr E, h2)))) := (W_invV (st := st) f26_189 rfl rfl (by simp only [List.length_cons]; omega) rfl rfl hp).trans (by simp only [hm26, if_true])
theorem f26_192 : fetch 26 192 = some (.ifCond .eq 48, 3, [], .null) := by decide +kernel
theorem w26_192 : Wp d 26 192 [l0, l1, l2, l3] (.int x :: st) h Q = if icond .eq x 0 = true then Wp d 26 240 [l0, l1, l2, l3] st h Q else Wp d 26 195 [l0, l1, l2, l3] st h Q := W_if f26_192 rfl
theorem f26_195 : fetch 26 195 = some (.aload_n 0, 1, [], .null) := by decide +kernel
theorem w26_195 : Wp d 26 195 [some (.ref a), l1, l2, l3] st h Q = Wp d 26 196 [some (.ref a), l1, l2, l3] (.ref a :: st) h Q := W_go f26_195 rfl
theorem f26_196 : fetch 26 196 = some (.aload_n 0, 1, [], .null) := by decide +kernel
theorem w26_196 : Wp d 26 196 [some (.ref a), l1, l2, l3] st h Q = Wp d 26 197 [some (.ref a), l1, l2, l3] (.ref a :: st) h Q := W_go f26_196 rfl
theorem f26_197 : fetch 26 197 = some (.getfield 25, 3, [3, 3, 1228, 0], .null) := by decide +kernel
theorem w26_197 : Wp d 26 197 [l0, l1, l2, l3] (.ref a :: st) h Q = gP (h.2 a) 3 3 (fun w => Wp d 26 200 [l0, l1, l2, l3] (w :: st) h Q) := W_get f26_197 rfl
theorem f26_200 : fetch 26 200 = some (.getfield 142, 3, [0, 10, 1086, 0], .null) := by decide +kernel
theorem w26_200 : Wp d 26 200 [l0, l1, l2, l3] (.ref a :: st) h Q = gP (h.2 a) 0 10 (fun w => Wp d 26 203 [l0, l1, l2, l3] (w :: st) h Q) := W_get f26_200 rfl
theorem f26_203 : fetch 26 203 = some (.iload_n 1, 1, [], .null) := by decide +kernel
theorem w26_203 : Wp d 26 203 [l0, some (.int x), l2, l3] st h Q = Wp d 26 204 [l0, some (.int x), l2, l3] (.int x :: st) h Q := W_go f26_203 rfl
theorem f26_204 : fetch 26 204 = some (.iload_n 2, 1, [], .null) := by decide +kernel
theorem w26_204 : Wp d 26 204 [l0, l1, some (.int x), l3] st h Q = Wp d 26 205 [l0, l1, some (.int x), l3] (.int x :: st) h Q := W_go f26_204 rfl
theorem f26_205 : fetch 26 205 = some (.invokevirtual 145, 3, [27, 4, 4, 0, 3103, 1004, 3106, 3105, 18], .null) := by decide +kernel
theorem w26_205 (hp : psum st ≤ 8) : Wp d 26 205 [l0, l1, l2, l3] (v3 :: v2 :: v1 :: (.ref b) :: st) h Q = rP (h.2 b) 3 (Cp d 27 [(.ref b), v1, v2, v3] h (fun o => cK o (fun w h2 => Wp d 26 208 [l0, l1, l2, l3] (w.toList ++ st) h2 Q) (fun E h2 => Q (.inr E, h2)))) := (W_invV (st := st) f26_205 rfl rfl (by simp only [List.length_cons]; omega) rfl rfl hp).trans (by simp only [hm26, if_true])
theorem f26_208 : fetch 26 208 = some (.ifCond .eq 32, 3, [], .null) := by decide +kernel
theorem w26_208 : Wp d 26 208 [l0, l1, l2, l3] (.int x :: st) h Q = if icond .eq x 0 = true then Wp d 26 240 [l0, l1, l2, l3] st h Q else Wp d 26 211 [l0, l1, l2, l3] st h Q := W_if f26_208 rfl
theorem f26_211 : fetch 26 211 = some (.aload_n 0, 1, [], .null) := by decide +kernel
theorem w26_211 : Wp d 26 211 [some (.ref a), l1, l2, l3] st h Q = Wp d 26 212 [some (.ref a), l1, l2, l3] (.ref a :: st) h Q := W_go f26_211 rfl
theorem f26_212 : fetch 26 212 = some (.bipush 15, 2, [], .null) := by decide +kernel
theorem w26_212 : Wp d 26 212 [l0, l1, l2, l3] st h Q = Wp d 26 214 [l0, l1, l2, l3] (.int (15 : Int32) :: st) h Q := W_go f26_212 rfl
theorem f26_214 : fetch 26 214 = some (.invokevirtual 79, 3, [35, 2, 4, 0, 3069, 1004, 3072, 3071, 10], .null) := by decide +kernel
theorem w26_214 (hp : psum st ≤ 8) : Wp d 26 214 [l0, l1, l2, l3] (v1 :: (.ref b) :: st) h Q = rP (h.2 b) 3 (Cp d 35 [(.ref b), v1] h (fun o => cK o (fun w h2 => Wp d 26 217 [l0, l1, l2, l3] (w.toList ++ st) h2 Q) (fun E h2 => Q (.inr E, h2)))) := (W_invV (st := st) f26_214 rfl rfl (by simp only [List.length_cons]; omega) rfl rfl hp).trans (by simp only [hm26, if_true])
theorem f26_217 : fetch 26 217 = some (.ifCond .eq 19, 3, [], .null) := by decide +kernel
theorem w26_217 : Wp d 26 217 [l0, l1, l2, l3] (.int x :: st) h Q = if icond .eq x 0 = true then Wp d 26 236 [l0, l1, l2, l3] st h Q else Wp d 26 220 [l0, l1, l2, l3] st h Q := W_if f26_217 rfl
theorem f26_220 : fetch 26 220 = some (.aload_n 0, 1, [], .null) := by decide +kernel
theorem w26_220 : Wp d 26 220 [some (.ref a), l1, l2, l3] st h Q = Wp d 26 221 [some (.ref a), l1, l2, l3] (.ref a :: st) h Q := W_go f26_220 rfl
theorem f26_221 : fetch 26 221 = some (.aload_n 0, 1, [], .null) := by decide +kernel
theorem w26_221 : Wp d 26 221 [some (.ref a), l1, l2, l3] st h Q = Wp d 26 222 [some (.ref a), l1, l2, l3] (.ref a :: st) h Q := W_go f26_221 rfl
theorem f26_222 : fetch 26 222 = some (.getfield 25, 3, [3, 3, 1228, 0], .null) := by decide +kernel
theorem w26_222 : Wp d 26 222 [l0, l1, l2, l3] (.ref a :: st) h Q = gP (h.2 a) 3 3 (fun w => Wp d 26 225 [l0, l1, l2, l3] (w :: st) h Q) := W_get f26_222 rfl
theorem f26_225 : fetch 26 225 = some (.getfield 128, 3, [0, 11, 1089, 0], .null) := by decide +kernel
theorem w26_225 : Wp d 26 225 [l0, l1, l2, l3] (.ref a :: st) h Q = gP (h.2 a) 0 11 (fun w => Wp d 26 228 [l0, l1, l2, l3] (w :: st) h Q) := W_get f26_225 rfl
theorem f26_228 : fetch 26 228 = some (.iload_n 1, 1, [], .null) := by decide +kernel
theorem w26_228 : Wp d 26 228 [l0, some (.int x), l2, l3] st h Q = Wp d 26 229 [l0, some (.int x), l2, l3] (.int x :: st) h Q := W_go f26_228 rfl
theorem f26_229 : fetch 26 229 = some (.iload_n 2, 1, [], .null) := by decide +kernel
theorem w26_229 : Wp d 26 229 [l0, l1, some (.int x), l3] st h Q = Wp d 26 230 [l0, l1, some (.int x), l3] (.int x :: st) h Q := W_go f26_229 rfl
theorem f26_230 : fetch 26 230 = some (.invokevirtual 145, 3, [27, 4, 4, 0, 3103, 1004, 3106, 3105, 18], .null) := by decide +kernel
theorem w26_230 (hp : psum st ≤ 8) : Wp d 26 230 [l0, l1, l2, l3] (v3 :: v2 :: v1 :: (.ref b) :: st) h Q = rP (h.2 b) 3 (Cp d 27 [(.ref b), v1, v2, v3] h (fun o => cK o (fun w h2 => Wp d 26 233 [l0, l1, l2, l3] (w.toList ++ st) h2 Q) (fun E h2 => Q (.inr E, h2)))) := (W_invV (st := st) f26_230 rfl rfl (by simp only [List.length_cons]; omega) rfl rfl hp).trans (by simp only [hm26, if_true])
theorem f26_233 : fetch 26 233 = some (.ifCond .eq 7, 3, [], .null) := by decide +kernel
theorem w26_233 : Wp d 26 233 [l0, l1, l2, l3] (.int x :: st) h Q = if icond .eq x 0 = true then Wp d 26 240 [l0, l1, l2, l3] st h Q else Wp d 26 236 [l0, l1, l2, l3] st h Q := W_if f26_233 rfl
theorem f26_236 : fetch 26 236 = some (.iconst 1, 1, [], .null) := by decide +kernel
theorem w26_236 : Wp d 26 236 [l0, l1, l2, l3] st h Q = Wp d 26 237 [l0, l1, l2, l3] (.int (1 : Int32) :: st) h Q := W_go f26_236 rfl
theorem f26_237 : fetch 26 237 = some (.goto 4, 3, [], .null) := by decide +kernel
theorem w26_237 : Wp d 26 237 [l0, l1, l2, l3] st h Q = Wp d 26 241 [l0, l1, l2, l3] st h Q := W_go f26_237 rfl
theorem f26_240 : fetch 26 240 = some (.iconst 0, 1, [], .null) := by decide +kernel
theorem w26_240 : Wp d 26 240 [l0, l1, l2, l3] st h Q = Wp d 26 241 [l0, l1, l2, l3] (.int (0 : Int32) :: st) h Q := W_go f26_240 rfl
theorem f26_241 : fetch 26 241 = some (.ireturn, 1, [], .null) := by decide +kernel
theorem w26_241 : Wp d 26 241 [l0, l1, l2, l3] [.int x] h Q = (if narrow .boolean (.int x) = .int x then Q (.inl (some (.int x)), h) else False) := W_zret f26_241 hr26
theorem f26_242 : fetch 26 242 = some (.aload_n 0, 1, [], .null) := by decide +kernel
theorem w26_242 : Wp d 26 242 [some (.ref a), l1, l2, l3] st h Q = Wp d 26 243 [some (.ref a), l1, l2, l3] (.ref a :: st) h Q := W_go f26_242 rfl
theorem f26_243 : fetch 26 243 = some (.bipush 27, 2, [], .null) := by decide +kernel
theorem w26_243 : Wp d 26 243 [l0, l1, l2, l3] st h Q = Wp d 26 245 [l0, l1, l2, l3] (.int (27 : Int32) :: st) h Q := W_go f26_243 rfl
theorem f26_245 : fetch 26 245 = some (.invokevirtual 79, 3, [35, 2, 4, 0, 3069, 1004, 3072, 3071, 10], .null) := by decide +kernel
theorem w26_245 (hp : psum st ≤ 8) : Wp d 26 245 [l0, l1, l2, l3] (v1 :: (.ref b) :: st) h Q = rP (h.2 b) 3 (Cp d 35 [(.ref b), v1] h (fun o => cK o (fun w h2 => Wp d 26 248 [l0, l1, l2, l3] (w.toList ++ st) h2 Q) (fun E h2 => Q (.inr E, h2)))) := (W_invV (st := st) f26_245 rfl rfl (by simp only [List.length_cons]; omega) rfl rfl hp).trans (by simp only [hm26, if_true])
theorem f26_248 : fetch 26 248 = some (.ireturn, 1, [], .null) := by decide +kernel
theorem w26_248 : Wp d 26 248 [l0, l1, l2, l3] [.int x] h Q = (if narrow .boolean (.int x) = .int x then Q (.inl (some (.int x)), h) else False) := W_zret f26_248 hr26
theorem hm27 : mhs 27 = [] := by decide +kernel
theorem hr27 : mret 27 = (some .boolean) := by decide +kernel
theorem f27_0 : fetch 27 0 = some (.aload_n 0, 1, [], .null) := by decide +kernel
theorem w27_0 : Wp d 27 0 [some (.ref a), l1, l2, l3, l4] st h Q = Wp d 27 1 [some (.ref a), l1, l2, l3, l4] (.ref a :: st) h Q := W_go f27_0 rfl
theorem f27_1 : fetch 27 1 = some (.iload_n 3, 1, [], .null) := by decide +kernel
theorem w27_1 : Wp d 27 1 [l0, l1, l2, some (.int x), l4] st h Q = Wp d 27 2 [l0, l1, l2, some (.int x), l4] (.int x :: st) h Q := W_go f27_1 rfl
theorem f27_2 : fetch 27 2 = some (.iconst 1, 1, [], .null) := by decide +kernel
theorem w27_2 : Wp d 27 2 [l0, l1, l2, l3, l4] st h Q = Wp d 27 3 [l0, l1, l2, l3, l4] (.int (1 : Int32) :: st) h Q := W_go f27_2 rfl
theorem f27_3 : fetch 27 3 = some (.iadd, 1, [], .null) := by decide +kernel
theorem w27_3 : Wp d 27 3 [l0, l1, l2, l3, l4] (.int y :: .int x :: st) h Q = Wp d 27 4 [l0, l1, l2, l3, l4] (.int (x + y) :: st) h Q := W_go f27_3 rfl
theorem f27_4 : fetch 27 4 = some (.invokevirtual 97, 3, [24, 2, 4, 0, 3082, 1004, 3085, 3084, 13], .null) := by decide +kernel
theorem w27_4 (hp : psum st ≤ 8) : Wp d 27 4 [l0, l1, l2, l3, l4] (v1 :: (.ref b) :: st) h Q = rP (h.2 b) 3 (Cp d 24 [(.ref b), v1] h (fun o => cK o (fun w h2 => Wp d 27 7 [l0, l1, l2, l3, l4] (w.toList ++ st) h2 Q) (fun E h2 => Q (.inr E, h2)))) := (W_invV (st := st) f27_4 rfl rfl (by simp only [List.length_cons]; omega) rfl rfl hp).trans (by simp only [hm27, if_true])
theorem f27_7 : fetch 27 7 = some (.istore 4, 2, [], .null) := by decide +kernel
theorem w27_7 : Wp d 27 7 [l0, l1, l2, l3, l4] (.int x :: st) h Q = Wp d 27 9 [l0, l1, l2, kl l3, some (.int x)] st h Q := (W_st1 (pc' := 9) (k := 4) f27_7 rfl rfl (by simp only [List.length_cons, List.length_nil]; omega)).trans (by rw [pst1_succ]; rfl)
theorem f27_9 : fetch 27 9 = some (.aload_n 1, 1, [], .null) := by decide +kernel
theorem w27_9 : Wp d 27 9 [l0, some (.ref a), l2, l3, l4] st h Q = Wp d 27 10 [l0, some (.ref a), l2, l3, l4] (.ref a :: st) h Q := W_go f27_9 rfl
theorem f27_10 : fetch 27 10 = some (.iload_n 2, 1, [], .null) := by decide +kernel
theorem w27_10 : Wp d 27 10 [l0, l1, some (.int x), l3, l4] st h Q = Wp d 27 11 [l0, l1, some (.int x), l3, l4] (.int x :: st) h Q := W_go f27_10 rfl
theorem f27_11 : fetch 27 11 = some (.iload 4, 2, [], .null) := by decide +kernel
theorem w27_11 : Wp d 27 11 [l0, l1, l2, l3, some (.int x)] st h Q = Wp d 27 13 [l0, l1, l2, l3, some (.int x)] (.int x :: st) h Q := W_go f27_11 rfl
theorem f27_13 : fetch 27 13 = some (.invokestatic 104, 3, [116, 3, 0, 1, 3077, 1001, 2211, 2210], .null) := by decide +kernel
theorem w27_13 (hp : psum st ≤ 8) : Wp d 27 13 [l0, l1, l2, l3, l4] (v2 :: v1 :: v0 :: st) h Q = Cp d 116 [v0, v1, v2] h (fun o => cK o (fun w h2 => Wp d 27 16 [l0, l1, l2, l3, l4] (w.toList ++ st) h2 Q) (fun _ _ => False)) := (W_invS (st := st) f27_13 rfl rfl (by simp only [List.length_cons]; omega) rfl rfl hp)
theorem f27_16 : fetch 27 16 = some (.iload 4, 2, [], .null) := by decide +kernel
theorem w27_16 : Wp d 27 16 [l0, l1, l2, l3, some (.int x)] st h Q = Wp d 27 18 [l0, l1, l2, l3, some (.int x)] (.int x :: st) h Q := W_go f27_16 rfl
theorem f27_18 : fetch 27 18 = some (.bipush (-2), 2, [], .null) := by decide +kernel
theorem w27_18 : Wp d 27 18 [l0, l1, l2, l3, l4] st h Q = Wp d 27 20 [l0, l1, l2, l3, l4] (.int (-2 : Int32) :: st) h Q := W_go f27_18 rfl
theorem f27_20 : fetch 27 20 = some (.if_icmp .eq 7, 3, [], .null) := by decide +kernel
theorem w27_20 : Wp d 27 20 [l0, l1, l2, l3, l4] (.int y :: .int x :: st) h Q = if icond .eq x y = true then Wp d 27 27 [l0, l1, l2, l3, l4] st h Q else Wp d 27 23 [l0, l1, l2, l3, l4] st h Q := W_if f27_20 rfl
theorem f27_23 : fetch 27 23 = some (.iconst 1, 1, [], .null) := by decide +kernel
theorem w27_23 : Wp d 27 23 [l0, l1, l2, l3, l4] st h Q = Wp d 27 24 [l0, l1, l2, l3, l4] (.int (1 : Int32) :: st) h Q := W_go f27_23 rfl
theorem f27_24 : fetch 27 24 = some (.goto 4, 3, [], .null) := by decide +kernel
theorem w27_24 : Wp d 27 24 [l0, l1, l2, l3, l4] st h Q = Wp d 27 28 [l0, l1, l2, l3, l4] st h Q := W_go f27_24 rfl
theorem f27_27 : fetch 27 27 = some (.iconst 0, 1, [], .null) := by decide +kernel
theorem w27_27 : Wp d 27 27 [l0, l1, l2, l3, l4] st h Q = Wp d 27 28 [l0, l1, l2, l3, l4] (.int (0 : Int32) :: st) h Q := W_go f27_27 rfl
theorem f27_28 : fetch 27 28 = some (.ireturn, 1, [], .null) := by decide +kernel
theorem w27_28 : Wp d 27 28 [l0, l1, l2, l3, l4] [.int x] h Q = (if narrow .boolean (.int x) = .int x then Q (.inl (some (.int x)), h) else False) := W_zret f27_28 hr27
theorem hm28 : mhs 28 = [] := by decide +kernel
theorem hr28 : mret 28 = (some .boolean) := by decide +kernel
theorem f28_0 : fetch 28 0 = some (.aload_n 0, 1, [], .null) := by decide +kernel
theorem w28_0 : Wp d 28 0 [some (.ref a), l1, l2, l3, l4] st h Q = Wp d 28 1 [some (.ref a), l1, l2, l3, l4] (.ref a :: st) h Q := W_go f28_0 rfl
theorem f28_1 : fetch 28 1 = some (.getfield 25, 3, [3, 3, 1228, 0], .null) := by decide +kernel
theorem w28_1 : Wp d 28 1 [l0, l1, l2, l3, l4] (.ref a :: st) h Q = gP (h.2 a) 3 3 (fun w => Wp d 28 4 [l0, l1, l2, l3, l4] (w :: st) h Q) := W_get f28_1 rfl
theorem f28_4 : fetch 28 4 = some (.getfield 152, 3, [0, 12, 1092, 0], .null) := by decide +kernel
theorem w28_4 : Wp d 28 4 [l0, l1, l2, l3, l4] (.ref a :: st) h Q = gP (h.2 a) 0 12 (fun w => Wp d 28 7 [l0, l1, l2, l3, l4] (w :: st) h Q) := W_get f28_4 rfl
theorem f28_7 : fetch 28 7 = some (.iload_n 1, 1, [], .null) := by decide +kernel
theorem w28_7 : Wp d 28 7 [l0, some (.int x), l2, l3, l4] st h Q = Wp d 28 8 [l0, some (.int x), l2, l3, l4] (.int x :: st) h Q := W_go f28_7 rfl
theorem f28_8 : fetch 28 8 = some (.aload_n 0, 1, [], .null) := by decide +kernel
theorem w28_8 : Wp d 28 8 [some (.ref a), l1, l2, l3, l4] st h Q = Wp d 28 9 [some (.ref a), l1, l2, l3, l4] (.ref a :: st) h Q := W_go f28_8 rfl
theorem f28_9 : fetch 28 9 = some (.getfield 25, 3, [3, 3, 1228, 0], .null) := by decide +kernel
theorem w28_9 : Wp d 28 9 [l0, l1, l2, l3, l4] (.ref a :: st) h Q = gP (h.2 a) 3 3 (fun w => Wp d 28 12 [l0, l1, l2, l3, l4] (w :: st) h Q) := W_get f28_9 rfl
theorem f28_12 : fetch 28 12 = some (.getfield 155, 3, [0, 3, 1065, 0], .null) := by decide +kernel
theorem w28_12 : Wp d 28 12 [l0, l1, l2, l3, l4] (.ref a :: st) h Q = gP (h.2 a) 0 3 (fun w => Wp d 28 15 [l0, l1, l2, l3, l4] (w :: st) h Q) := W_get f28_12 rfl
theorem f28_15 : fetch 28 15 = some (.invokestatic 104, 3, [116, 3, 0, 1, 3077, 1001, 2211, 2210], .null) := by decide +kernel
theorem w28_15 (hp : psum st ≤ 8) : Wp d 28 15 [l0, l1, l2, l3, l4] (v2 :: v1 :: v0 :: st) h Q = Cp d 116 [v0, v1, v2] h (fun o => cK o (fun w h2 => Wp d 28 18 [l0, l1, l2, l3, l4] (w.toList ++ st) h2 Q) (fun _ _ => False)) := (W_invS (st := st) f28_15 rfl rfl (by simp only [List.length_cons]; omega) rfl rfl hp)
theorem f28_18 : fetch 28 18 = some (.iconst 1, 1, [], .null) := by decide +kernel
theorem w28_18 : Wp d 28 18 [l0, l1, l2, l3, l4] st h Q = Wp d 28 19 [l0, l1, l2, l3, l4] (.int (1 : Int32) :: st) h Q := W_go f28_18 rfl
theorem f28_19 : fetch 28 19 = some (.istore_n 2, 1, [], .null) := by decide +kernel
theorem w28_19 : Wp d 28 19 [l0, l1, l2, l3, l4] (.int x :: st) h Q = Wp d 28 20 [l0, kl l1, some (.int x), l3, l4] st h Q := (W_st1 (pc' := 20) (k := 2) f28_19 rfl rfl (by simp only [List.length_cons, List.length_nil]; omega)).trans (by rw [pst1_succ]; rfl)
theorem f28_20 : fetch 28 20 = some (.iconst 0, 1, [], .null) := by decide +kernel
theorem w28_20 : Wp d 28 20 [l0, l1, l2, l3, l4] st h Q = Wp d 28 21 [l0, l1, l2, l3, l4] (.int (0 : Int32) :: st) h Q := W_go f28_20 rfl
theorem f28_21 : fetch 28 21 = some (.istore_n 3, 1, [], .null) := by decide +kernel
theorem w28_21 : Wp d 28 21 [l0, l1, l2, l3, l4] (.int x :: st) h Q = Wp d 28 22 [l0, l1, kl l2, some (.int x), l4] st h Q := (W_st1 (pc' := 22) (k := 3) f28_21 rfl rfl (by simp only [List.length_cons, List.length_nil]; omega)).trans (by rw [pst1_succ]; rfl)
theorem f28_22 : fetch 28 22 = some (.iload_n 3, 1, [], .null) := by decide +kernel
theorem w28_22 : Wp d 28 22 [l0, l1, l2, some (.int x), l4] st h Q = Wp d 28 23 [l0, l1, l2, some (.int x), l4] (.int x :: st) h Q := W_go f28_22 rfl
theorem f28_23 : fetch 28 23 = some (.sipush 400, 3, [], .null) := by decide +kernel
theorem w28_23 : Wp d 28 23 [l0, l1, l2, l3, l4] st h Q = Wp d 28 26 [l0, l1, l2, l3, l4] (.int (400 : Int32) :: st) h Q := W_go f28_23 rfl
theorem f28_26 : fetch 28 26 = some (.if_icmp .ge 114, 3, [], .null) := by decide +kernel
theorem w28_26 : Wp d 28 26 [l0, l1, l2, l3, l4] (.int y :: .int x :: st) h Q = if icond .ge x y = true then Wp d 28 140 [l0, l1, l2, l3, l4] st h Q else Wp d 28 29 [l0, l1, l2, l3, l4] st h Q := W_if f28_26 rfl
theorem f28_29 : fetch 28 29 = some (.iload_n 2, 1, [], .null) := by decide +kernel
theorem w28_29 : Wp d 28 29 [l0, l1, some (.int x), l3, l4] st h Q = Wp d 28 30 [l0, l1, some (.int x), l3, l4] (.int x :: st) h Q := W_go f28_29 rfl
theorem f28_30 : fetch 28 30 = some (.ifCond .eq 110, 3, [], .null) := by decide +kernel
theorem w28_30 : Wp d 28 30 [l0, l1, l2, l3, l4] (.int x :: st) h Q = if icond .eq x 0 = true then Wp d 28 140 [l0, l1, l2, l3, l4] st h Q else Wp d 28 33 [l0, l1, l2, l3, l4] st h Q := W_if f28_30 rfl
theorem f28_33 : fetch 28 33 = some (.aload_n 0, 1, [], .null) := by decide +kernel
theorem w28_33 : Wp d 28 33 [some (.ref a), l1, l2, l3, l4] st h Q = Wp d 28 34 [some (.ref a), l1, l2, l3, l4] (.ref a :: st) h Q := W_go f28_33 rfl
theorem f28_34 : fetch 28 34 = some (.getfield 25, 3, [3, 3, 1228, 0], .null) := by decide +kernel
theorem w28_34 : Wp d 28 34 [l0, l1, l2, l3, l4] (.ref a :: st) h Q = gP (h.2 a) 3 3 (fun w => Wp d 28 37 [l0, l1, l2, l3, l4] (w :: st) h Q) := W_get f28_34 rfl
theorem f28_37 : fetch 28 37 = some (.getfield 155, 3, [0, 3, 1065, 0], .null) := by decide +kernel
theorem w28_37 : Wp d 28 37 [l0, l1, l2, l3, l4] (.ref a :: st) h Q = gP (h.2 a) 0 3 (fun w => Wp d 28 40 [l0, l1, l2, l3, l4] (w :: st) h Q) := W_get f28_37 rfl
theorem f28_40 : fetch 28 40 = some (.istore 4, 2, [], .null) := by decide +kernel
theorem w28_40 : Wp d 28 40 [l0, l1, l2, l3, l4] (.int x :: st) h Q = Wp d 28 42 [l0, l1, l2, kl l3, some (.int x)] st h Q := (W_st1 (pc' := 42) (k := 4) f28_40 rfl rfl (by simp only [List.length_cons, List.length_nil]; omega)).trans (by rw [pst1_succ]; rfl)
theorem f28_42 : fetch 28 42 = some (.aload_n 0, 1, [], .null) := by decide +kernel
theorem w28_42 : Wp d 28 42 [some (.ref a), l1, l2, l3, l4] st h Q = Wp d 28 43 [some (.ref a), l1, l2, l3, l4] (.ref a :: st) h Q := W_go f28_42 rfl
theorem f28_43 : fetch 28 43 = some (.aload_n 0, 1, [], .null) := by decide +kernel
theorem w28_43 : Wp d 28 43 [some (.ref a), l1, l2, l3, l4] st h Q = Wp d 28 44 [some (.ref a), l1, l2, l3, l4] (.ref a :: st) h Q := W_go f28_43 rfl
theorem f28_44 : fetch 28 44 = some (.getfield 25, 3, [3, 3, 1228, 0], .null) := by decide +kernel
theorem w28_44 : Wp d 28 44 [l0, l1, l2, l3, l4] (.ref a :: st) h Q = gP (h.2 a) 3 3 (fun w => Wp d 28 47 [l0, l1, l2, l3, l4] (w :: st) h Q) := W_get f28_44 rfl
theorem f28_47 : fetch 28 47 = some (.getfield 158, 3, [0, 14, 1098, 0], .null) := by decide +kernel
theorem w28_47 : Wp d 28 47 [l0, l1, l2, l3, l4] (.ref a :: st) h Q = gP (h.2 a) 0 14 (fun w => Wp d 28 50 [l0, l1, l2, l3, l4] (w :: st) h Q) := W_get f28_47 rfl
theorem f28_50 : fetch 28 50 = some (.iload 4, 2, [], .null) := by decide +kernel
theorem w28_50 : Wp d 28 50 [l0, l1, l2, l3, some (.int x)] st h Q = Wp d 28 52 [l0, l1, l2, l3, some (.int x)] (.int x :: st) h Q := W_go f28_50 rfl
theorem f28_52 : fetch 28 52 = some (.invokevirtual 134, 3, [30, 3, 4, 0, 3094, 1004, 3097, 3096, 16], .null) := by decide +kernel
theorem w28_52 (hp : psum st ≤ 8) : Wp d 28 52 [l0, l1, l2, l3, l4] (v2 :: v1 :: (.ref b) :: st) h Q = rP (h.2 b) 3 (Cp d 30 [(.ref b), v1, v2] h (fun o => cK o (fun w h2 => Wp d 28 55 [l0, l1, l2, l3, l4] (w.toList ++ st) h2 Q) (fun E h2 => Q (.inr E, h2)))) := (W_invV (st := st) f28_52 rfl rfl (by simp only [List.length_cons]; omega) rfl rfl hp).trans (by simp only [hm28, if_true])
theorem f28_55 : fetch 28 55 = some (.ifCond .eq 21, 3, [], .null) := by decide +kernel
theorem w28_55 : Wp d 28 55 [l0, l1, l2, l3, l4] (.int x :: st) h Q = if icond .eq x 0 = true then Wp d 28 76 [l0, l1, l2, l3, l4] st h Q else Wp d 28 58 [l0, l1, l2, l3, l4] st h Q := W_if f28_55 rfl
theorem f28_58 : fetch 28 58 = some (.aload_n 0, 1, [], .null) := by decide +kernel
theorem w28_58 : Wp d 28 58 [some (.ref a), l1, l2, l3, l4] st h Q = Wp d 28 59 [some (.ref a), l1, l2, l3, l4] (.ref a :: st) h Q := W_go f28_58 rfl
theorem f28_59 : fetch 28 59 = some (.getfield 51, 3, [3, 5, 1230, 0], .null) := by decide +kernel
theorem w28_59 : Wp d 28 59 [l0, l1, l2, l3, l4] (.ref a :: st) h Q = gP (h.2 a) 3 5 (fun w => Wp d 28 62 [l0, l1, l2, l3, l4] (w :: st) h Q) := W_get f28_59 rfl
theorem f28_62 : fetch 28 62 = some (.bipush 28, 2, [], .null) := by decide +kernel
theorem w28_62 : Wp d 28 62 [l0, l1, l2, l3, l4] st h Q = Wp d 28 64 [l0, l1, l2, l3, l4] (.int (28 : Int32) :: st) h Q := W_go f28_62 rfl
theorem f28_64 : fetch 28 64 = some (.if_icmp .lt 12, 3, [], .null) := by decide +kernel
theorem w28_64 : Wp d 28 64 [l0, l1, l2, l3, l4] (.int y :: .int x :: st) h Q = if icond .lt x y = true then Wp d 28 76 [l0, l1, l2, l3, l4] st h Q else Wp d 28 67 [l0, l1, l2, l3, l4] st h Q := W_if f28_64 rfl
theorem f28_67 : fetch 28 67 = some (.aload_n 0, 1, [], .null) := by decide +kernel
theorem w28_67 : Wp d 28 67 [some (.ref a), l1, l2, l3, l4] st h Q = Wp d 28 68 [some (.ref a), l1, l2, l3, l4] (.ref a :: st) h Q := W_go f28_67 rfl
theorem f28_68 : fetch 28 68 = some (.getfield 51, 3, [3, 5, 1230, 0], .null) := by decide +kernel
theorem w28_68 : Wp d 28 68 [l0, l1, l2, l3, l4] (.ref a :: st) h Q = gP (h.2 a) 3 5 (fun w => Wp d 28 71 [l0, l1, l2, l3, l4] (w :: st) h Q) := W_get f28_68 rfl
theorem f28_71 : fetch 28 71 = some (.bipush 30, 2, [], .null) := by decide +kernel
theorem w28_71 : Wp d 28 71 [l0, l1, l2, l3, l4] st h Q = Wp d 28 73 [l0, l1, l2, l3, l4] (.int (30 : Int32) :: st) h Q := W_go f28_71 rfl
theorem f28_73 : fetch 28 73 = some (.if_icmp .le 5, 3, [], .null) := by decide +kernel
theorem w28_73 : Wp d 28 73 [l0, l1, l2, l3, l4] (.int y :: .int x :: st) h Q = if icond .le x y = true then Wp d 28 78 [l0, l1, l2, l3, l4] st h Q else Wp d 28 76 [l0, l1, l2, l3, l4] st h Q := W_if f28_73 rfl
theorem f28_76 : fetch 28 76 = some (.iconst 0, 1, [], .null) := by decide +kernel
theorem w28_76 : Wp d 28 76 [l0, l1, l2, l3, l4] st h Q = Wp d 28 77 [l0, l1, l2, l3, l4] (.int (0 : Int32) :: st) h Q := W_go f28_76 rfl
theorem f28_77 : fetch 28 77 = some (.ireturn, 1, [], .null) := by decide +kernel
theorem w28_77 : Wp d 28 77 [l0, l1, l2, l3, l4] [.int x] h Q = (if narrow .boolean (.int x) = .int x then Q (.inl (some (.int x)), h) else False) := W_zret f28_77 hr28
theorem f28_78 : fetch 28 78 = some (.aload_n 0, 1, [], .null) := by decide +kernel
theorem w28_78 : Wp d 28 78 [some (.ref a), l1, l2, l3, l4] st h Q = Wp d 28 79 [some (.ref a), l1, l2, l3, l4] (.ref a :: st) h Q := W_go f28_78 rfl
theorem f28_79 : fetch 28 79 = some (.getfield 25, 3, [3, 3, 1228, 0], .null) := by decide +kernel
theorem w28_79 : Wp d 28 79 [l0, l1, l2, l3, l4] (.ref a :: st) h Q = gP (h.2 a) 3 3 (fun w => Wp d 28 82 [l0, l1, l2, l3, l4] (w :: st) h Q) := W_get f28_79 rfl
theorem f28_82 : fetch 28 82 = some (.getfield 161, 3, [0, 15, 1101, 0], .null) := by decide +kernel
theorem w28_82 : Wp d 28 82 [l0, l1, l2, l3, l4] (.ref a :: st) h Q = gP (h.2 a) 0 15 (fun w => Wp d 28 85 [l0, l1, l2, l3, l4] (w :: st) h Q) := W_get f28_82 rfl
theorem f28_85 : fetch 28 85 = some (.iload 4, 2, [], .null) := by decide +kernel
theorem w28_85 : Wp d 28 85 [l0, l1, l2, l3, some (.int x)] st h Q = Wp d 28 87 [l0, l1, l2, l3, some (.int x)] (.int x :: st) h Q := W_go f28_85 rfl
theorem f28_87 : fetch 28 87 = some (.aload_n 0, 1, [], .null) := by decide +kernel
theorem w28_87 : Wp d 28 87 [some (.ref a), l1, l2, l3, l4] st h Q = Wp d 28 88 [some (.ref a), l1, l2, l3, l4] (.ref a :: st) h Q := W_go f28_87 rfl
theorem f28_88 : fetch 28 88 = some (.getfield 51, 3, [3, 5, 1230, 0], .null) := by decide +kernel
theorem w28_88 : Wp d 28 88 [l0, l1, l2, l3, l4] (.ref a :: st) h Q = gP (h.2 a) 3 5 (fun w => Wp d 28 91 [l0, l1, l2, l3, l4] (w :: st) h Q) := W_get f28_88 rfl
theorem f28_91 : fetch 28 91 = some (.invokestatic 104, 3, [116, 3, 0, 1, 3077, 1001, 2211, 2210], .null) := by decide +kernel
theorem w28_91 (hp : psum st ≤ 8) : Wp d 28 91 [l0, l1, l2, l3, l4] (v2 :: v1 :: v0 :: st) h Q = Cp d 116 [v0, v1, v2] h (fun o => cK o (fun w h2 => Wp d 28 94 [l0, l1, l2, l3, l4] (w.toList ++ st) h2 Q) (fun _ _ => False)) := (W_invS (st := st) f28_91 rfl rfl (by simp only [List.length_cons]; omega) rfl rfl hp)
theorem f28_94 : fetch 28 94 = some (.aload_n 0, 1, [], .null) := by decide +kernel
theorem w28_94 : Wp d 28 94 [some (.ref a), l1, l2, l3, l4] st h Q = Wp d 28 95 [some (.ref a), l1, l2, l3, l4] (.ref a :: st) h Q := W_go f28_94 rfl
theorem f28_95 : fetch 28 95 = some (.invokevirtual 48, 3, [36, 1, 4, 0, 3048, 1004, 3051, 3050, 5], .null) := by decide +kernel
theorem w28_95 (hp : psum st ≤ 8) : Wp d 28 95 [l0, l1, l2, l3, l4] ((.ref b) :: st) h Q = rP (h.2 b) 3 (Cp d 36 [(.ref b)] h (fun o => cK o (fun w h2 => Wp d 28 98 [l0, l1, l2, l3, l4] (w.toList ++ st) h2 Q) (fun E h2 => Q (.inr E, h2)))) := (W_invV (st := st) f28_95 rfl rfl (by simp only [List.length_cons]; omega) rfl rfl hp).trans (by simp only [hm28, if_true])
theorem f28_98 : fetch 28 98 = some (.aload_n 0, 1, [], .null) := by decide +kernel
theorem w28_98 : Wp d 28 98 [some (.ref a), l1, l2, l3, l4] st h Q = Wp d 28 99 [some (.ref a), l1, l2, l3, l4] (.ref a :: st) h Q := W_go f28_98 rfl
theorem f28_99 : fetch 28 99 = some (.aload_n 0, 1, [], .null) := by decide +kernel
theorem w28_99 : Wp d 28 99 [some (.ref a), l1, l2, l3, l4] st h Q = Wp d 28 100 [some (.ref a), l1, l2, l3, l4] (.ref a :: st) h Q := W_go f28_99 rfl
theorem f28_100 : fetch 28 100 = some (.getfield 25, 3, [3, 3, 1228, 0], .null) := by decide +kernel
theorem w28_100 : Wp d 28 100 [l0, l1, l2, l3, l4] (.ref a :: st) h Q = gP (h.2 a) 3 3 (fun w => Wp d 28 103 [l0, l1, l2, l3, l4] (w :: st) h Q) := W_get f28_100 rfl
theorem f28_103 : fetch 28 103 = some (.getfield 164, 3, [0, 16, 1104, 0], .null) := by decide +kernel
theorem w28_103 : Wp d 28 103 [l0, l1, l2, l3, l4] (.ref a :: st) h Q = gP (h.2 a) 0 16 (fun w => Wp d 28 106 [l0, l1, l2, l3, l4] (w :: st) h Q) := W_get f28_103 rfl
theorem f28_106 : fetch 28 106 = some (.iload 4, 2, [], .null) := by decide +kernel
theorem w28_106 : Wp d 28 106 [l0, l1, l2, l3, some (.int x)] st h Q = Wp d 28 108 [l0, l1, l2, l3, some (.int x)] (.int x :: st) h Q := W_go f28_106 rfl
theorem f28_108 : fetch 28 108 = some (.invokevirtual 134, 3, [30, 3, 4, 0, 3094, 1004, 3097, 3096, 16], .null) := by decide +kernel
theorem w28_108 (hp : psum st ≤ 8) : Wp d 28 108 [l0, l1, l2, l3, l4] (v2 :: v1 :: (.ref b) :: st) h Q = rP (h.2 b) 3 (Cp d 30 [(.ref b), v1, v2] h (fun o => cK o (fun w h2 => Wp d 28 111 [l0, l1, l2, l3, l4] (w.toList ++ st) h2 Q) (fun E h2 => Q (.inr E, h2)))) := (W_invV (st := st) f28_108 rfl rfl (by simp only [List.length_cons]; omega) rfl rfl hp).trans (by simp only [hm28, if_true])
theorem f28_111 : fetch 28 111 = some (.ifCond .ne 5, 3, [], .null) := by decide +kernel
theorem w28_111 : Wp d 28 111 [l0, l1, l2, l3, l4] (.int x :: st) h Q = if icond .ne x 0 = true then Wp d 28 116 [l0, l1, l2, l3, l4] st h Q else Wp d 28 114 [l0, l1, l2, l3, l4] st h Q := W_if f28_111 rfl
theorem f28_114 : fetch 28 114 = some (.iconst 0, 1, [], .null) := by decide +kernel
theorem w28_114 : Wp d 28 114 [l0, l1, l2, l3, l4] st h Q = Wp d 28 115 [l0, l1, l2, l3, l4] (.int (0 : Int32) :: st) h Q := W_go f28_114 rfl
theorem f28_115 : fetch 28 115 = some (.ireturn, 1, [], .null) := by decide +kernel
theorem w28_115 : Wp d 28 115 [l0, l1, l2, l3, l4] [.int x] h Q = (if narrow .boolean (.int x) = .int x then Q (.inl (some (.int x)), h) else False) := W_zret f28_115 hr28
theorem f28_116 : fetch 28 116 = some (.aload_n 0, 1, [], .null) := by decide +kernel
theorem w28_116 : Wp d 28 116 [some (.ref a), l1, l2, l3, l4] st h Q = Wp d 28 117 [some (.ref a), l1, l2, l3, l4] (.ref a :: st) h Q := W_go f28_116 rfl
theorem f28_117 : fetch 28 117 = some (.getfield 25, 3, [3, 3, 1228, 0], .null) := by decide +kernel
theorem w28_117 : Wp d 28 117 [l0, l1, l2, l3, l4] (.ref a :: st) h Q = gP (h.2 a) 3 3 (fun w => Wp d 28 120 [l0, l1, l2, l3, l4] (w :: st) h Q) := W_get f28_117 rfl
theorem f28_120 : fetch 28 120 = some (.iload 4, 2, [], .null) := by decide +kernel
theorem w28_120 : Wp d 28 120 [l0, l1, l2, l3, some (.int x)] st h Q = Wp d 28 122 [l0, l1, l2, l3, some (.int x)] (.int x :: st) h Q := W_go f28_120 rfl
theorem f28_122 : fetch 28 122 = some (.iconst 1, 1, [], .null) := by decide +kernel
theorem w28_122 : Wp d 28 122 [l0, l1, l2, l3, l4] st h Q = Wp d 28 123 [l0, l1, l2, l3, l4] (.int (1 : Int32) :: st) h Q := W_go f28_122 rfl
theorem f28_123 : fetch 28 123 = some (.iadd, 1, [], .null) := by decide +kernel
theorem w28_123 : Wp d 28 123 [l0, l1, l2, l3, l4] (.int y :: .int x :: st) h Q = Wp d 28 124 [l0, l1, l2, l3, l4] (.int (x + y) :: st) h Q := W_go f28_123 rfl
theorem f28_124 : fetch 28 124 = some (.putfield 155, 3, [0, 3, 1065, 0], .null) := by decide +kernel
theorem w28_124 : Wp d 28 124 [l0, l1, l2, l3, l4] (v :: .ref a :: st) h Q = pP (h.2 a) 0 3 (ftOf 0 3) v a (fun c => Wp d 28 127 [l0, l1, l2, l3, l4] st (hset h a c) Q) := W_put f28_124 (by rfl)
theorem f28_127 : fetch 28 127 = some (.aload_n 0, 1, [], .null) := by decide +kernel
theorem w28_127 : Wp d 28 127 [some (.ref a), l1, l2, l3, l4] st h Q = Wp d 28 128 [some (.ref a), l1, l2, l3, l4] (.ref a :: st) h Q := W_go f28_127 rfl
theorem f28_128 : fetch 28 128 = some (.bipush 14, 2, [], .null) := by decide +kernel
theorem w28_128 : Wp d 28 128 [l0, l1, l2, l3, l4] st h Q = Wp d 28 130 [l0, l1, l2, l3, l4] (.int (14 : Int32) :: st) h Q := W_go f28_128 rfl
theorem f28_130 : fetch 28 130 = some (.invokevirtual 79, 3, [35, 2, 4, 0, 3069, 1004, 3072, 3071, 10], .null) := by decide +kernel
theorem w28_130 (hp : psum st ≤ 8) : Wp d 28 130 [l0, l1, l2, l3, l4] (v1 :: (.ref b) :: st) h Q = rP (h.2 b) 3 (Cp d 35 [(.ref b), v1] h (fun o => cK o (fun w h2 => Wp d 28 133 [l0, l1, l2, l3, l4] (w.toList ++ st) h2 Q) (fun E h2 => Q (.inr E, h2)))) := (W_invV (st := st) f28_130 rfl rfl (by simp only [List.length_cons]; omega) rfl rfl hp).trans (by simp only [hm28, if_true])
theorem f28_133 : fetch 28 133 = some (.istore_n 2, 1, [], .null) := by decide +kernel
theorem w28_133 : Wp d 28 133 [l0, l1, l2, l3, l4] (.int x :: st) h Q = Wp d 28 134 [l0, kl l1, some (.int x), l3, l4] st h Q := (W_st1 (pc' := 134) (k := 2) f28_133 rfl rfl (by simp only [List.length_cons, List.length_nil]; omega)).trans (by rw [pst1_succ]; rfl)
theorem f28_134 : fetch 28 134 = some (.iinc 3 1, 3, [], .null) := by decide +kernel
theorem w28_134 : Wp d 28 134 [l0, l1, l2, some (.int x), l4] st h Q = Wp d 28 137 [l0, l1, kl l2, some (.int (x + (1 : Int32))), l4] st h Q := (W_iinc (y := (1 : Int32)) f28_134 rfl (by simp only [List.length_cons, List.length_nil]; omega) (by decide)).trans (by rw [pst1_succ]; rfl)
theorem f28_137 : fetch 28 137 = some (.goto (-115), 3, [], .null) := by decide +kernel
theorem w28_137 : Wp d 28 137 [l0, l1, l2, l3, l4] st h Q = Wp d 28 22 [l0, l1, l2, l3, l4] st h Q := W_go f28_137 rfl
theorem f28_140 : fetch 28 140 = some (.aload_n 0, 1, [], .null) := by decide +kernel
theorem w28_140 : Wp d 28 140 [some (.ref a), l1, l2, l3, l4] st h Q = Wp d 28 141 [some (.ref a), l1, l2, l3, l4] (.ref a :: st) h Q := W_go f28_140 rfl
theorem f28_141 : fetch 28 141 = some (.getfield 25, 3, [3, 3, 1228, 0], .null) := by decide +kernel
theorem w28_141 : Wp d 28 141 [l0, l1, l2, l3, l4] (.ref a :: st) h Q = gP (h.2 a) 3 3 (fun w => Wp d 28 144 [l0, l1, l2, l3, l4] (w :: st) h Q) := W_get f28_141 rfl
theorem f28_144 : fetch 28 144 = some (.getfield 167, 3, [0, 13, 1095, 0], .null) := by decide +kernel
theorem w28_144 : Wp d 28 144 [l0, l1, l2, l3, l4] (.ref a :: st) h Q = gP (h.2 a) 0 13 (fun w => Wp d 28 147 [l0, l1, l2, l3, l4] (w :: st) h Q) := W_get f28_144 rfl
theorem f28_147 : fetch 28 147 = some (.iload_n 1, 1, [], .null) := by decide +kernel
theorem w28_147 : Wp d 28 147 [l0, some (.int x), l2, l3, l4] st h Q = Wp d 28 148 [l0, some (.int x), l2, l3, l4] (.int x :: st) h Q := W_go f28_147 rfl
theorem f28_148 : fetch 28 148 = some (.aload_n 0, 1, [], .null) := by decide +kernel
theorem w28_148 : Wp d 28 148 [some (.ref a), l1, l2, l3, l4] st h Q = Wp d 28 149 [some (.ref a), l1, l2, l3, l4] (.ref a :: st) h Q := W_go f28_148 rfl
theorem f28_149 : fetch 28 149 = some (.getfield 25, 3, [3, 3, 1228, 0], .null) := by decide +kernel
theorem w28_149 : Wp d 28 149 [l0, l1, l2, l3, l4] (.ref a :: st) h Q = gP (h.2 a) 3 3 (fun w => Wp d 28 152 [l0, l1, l2, l3, l4] (w :: st) h Q) := W_get f28_149 rfl
theorem f28_152 : fetch 28 152 = some (.getfield 155, 3, [0, 3, 1065, 0], .null) := by decide +kernel
theorem w28_152 : Wp d 28 152 [l0, l1, l2, l3, l4] (.ref a :: st) h Q = gP (h.2 a) 0 3 (fun w => Wp d 28 155 [l0, l1, l2, l3, l4] (w :: st) h Q) := W_get f28_152 rfl
theorem f28_155 : fetch 28 155 = some (.invokestatic 104, 3, [116, 3, 0, 1, 3077, 1001, 2211, 2210], .null) := by decide +kernel
theorem w28_155 (hp : psum st ≤ 8) : Wp d 28 155 [l0, l1, l2, l3, l4] (v2 :: v1 :: v0 :: st) h Q = Cp d 116 [v0, v1, v2] h (fun o => cK o (fun w h2 => Wp d 28 158 [l0, l1, l2, l3, l4] (w.toList ++ st) h2 Q) (fun _ _ => False)) := (W_invS (st := st) f28_155 rfl rfl (by simp only [List.length_cons]; omega) rfl rfl hp)
theorem f28_158 : fetch 28 158 = some (.iconst 1, 1, [], .null) := by decide +kernel
theorem w28_158 : Wp d 28 158 [l0, l1, l2, l3, l4] st h Q = Wp d 28 159 [l0, l1, l2, l3, l4] (.int (1 : Int32) :: st) h Q := W_go f28_158 rfl
theorem f28_159 : fetch 28 159 = some (.ireturn, 1, [], .null) := by decide +kernel
theorem w28_159 : Wp d 28 159 [l0, l1, l2, l3, l4] [.int x] h Q = (if narrow .boolean (.int x) = .int x then Q (.inl (some (.int x)), h) else False) := W_zret f28_159 hr28
theorem hm29 : mhs 29 = [] := by decide +kernel
theorem hr29 : mret 29 = (some .boolean) := by decide +kernel
theorem f29_0 : fetch 29 0 = some (.aload_n 0, 1, [], .null) := by decide +kernel
theorem w29_0 : Wp d 29 0 [some (.ref a), l1, l2, l3, l4] st h Q = Wp d 29 1 [some (.ref a), l1, l2, l3, l4] (.ref a :: st) h Q := W_go f29_0 rfl
theorem f29_1 : fetch 29 1 = some (.getfield 51, 3, [3, 5, 1230, 0], .null) := by decide +kernel
theorem w29_1 : Wp d 29 1 [l0, l1, l2, l3, l4] (.ref a :: st) h Q = gP (h.2 a) 3 5 (fun w => Wp d 29 4 [l0, l1, l2, l3, l4] (w :: st) h Q) := W_get f29_1 rfl
theorem f29_4 : fetch 29 4 = some (.bipush 23, 2, [], .null) := by decide +kernel
theorem w29_4 : Wp d 29 4 [l0, l1, l2, l3, l4] st h Q = Wp d 29 6 [l0, l1, l2, l3, l4] (.int (23 : Int32) :: st) h Q := W_go f29_4 rfl
theorem f29_6 : fetch 29 6 = some (.if_icmp .eq 5, 3, [], .null) := by decide +kernel
theorem w29_6 : Wp d 29 6 [l0, l1, l2, l3, l4] (.int y :: .int x :: st) h Q = if icond .eq x y = true then Wp d 29 11 [l0, l1, l2, l3, l4] st h Q else Wp d 29 9 [l0, l1, l2, l3, l4] st h Q := W_if f29_6 rfl
theorem f29_9 : fetch 29 9 = some (.iconst 0, 1, [], .null) := by decide +kernel
theorem w29_9 : Wp d 29 9 [l0, l1, l2, l3, l4] st h Q = Wp d 29 10 [l0, l1, l2, l3, l4] (.int (0 : Int32) :: st) h Q := W_go f29_9 rfl
theorem f29_10 : fetch 29 10 = some (.ireturn, 1, [], .null) := by decide +kernel
theorem w29_10 : Wp d 29 10 [l0, l1, l2, l3, l4] [.int x] h Q = (if narrow .boolean (.int x) = .int x then Q (.inl (some (.int x)), h) else False) := W_zret f29_10 hr29
theorem f29_11 : fetch 29 11 = some (.aload_n 0, 1, [], .null) := by decide +kernel
theorem w29_11 : Wp d 29 11 [some (.ref a), l1, l2, l3, l4] st h Q = Wp d 29 12 [some (.ref a), l1, l2, l3, l4] (.ref a :: st) h Q := W_go f29_11 rfl
theorem f29_12 : fetch 29 12 = some (.aload_n 2, 1, [], .null) := by decide +kernel
theorem w29_12 : Wp d 29 12 [l0, l1, some (.ref a), l3, l4] st h Q = Wp d 29 13 [l0, l1, some (.ref a), l3, l4] (.ref a :: st) h Q := W_go f29_12 rfl
theorem f29_13 : fetch 29 13 = some (.iload_n 3, 1, [], .null) := by decide +kernel
theorem w29_13 : Wp d 29 13 [l0, l1, l2, some (.int x), l4] st h Q = Wp d 29 14 [l0, l1, l2, some (.int x), l4] (.int x :: st) h Q := W_go f29_13 rfl
theorem f29_14 : fetch 29 14 = some (.invokevirtual 170, 3, [33, 3, 4, 0, 3060, 1004, 3063, 3062, 8], .null) := by decide +kernel
theorem w29_14 (hp : psum st ≤ 8) : Wp d 29 14 [l0, l1, l2, l3, l4] (v2 :: v1 :: (.ref b) :: st) h Q = rP (h.2 b) 3 (Cp d 33 [(.ref b), v1, v2] h (fun o => cK o (fun w h2 => Wp d 29 17 [l0, l1, l2, l3, l4] (w.toList ++ st) h2 Q) (fun E h2 => Q (.inr E, h2)))) := (W_invV (st := st) f29_14 rfl rfl (by simp only [List.length_cons]; omega) rfl rfl hp).trans (by simp only [hm29, if_true])
theorem f29_17 : fetch 29 17 = some (.istore 4, 2, [], .null) := by decide +kernel
theorem w29_17 : Wp d 29 17 [l0, l1, l2, l3, l4] (.int x :: st) h Q = Wp d 29 19 [l0, l1, l2, kl l3, some (.int x)] st h Q := (W_st1 (pc' := 19) (k := 4) f29_17 rfl rfl (by simp only [List.length_cons, List.length_nil]; omega)).trans (by rw [pst1_succ]; rfl)
theorem f29_19 : fetch 29 19 = some (.iload 4, 2, [], .null) := by decide +kernel
theorem w29_19 : Wp d 29 19 [l0, l1, l2, l3, some (.int x)] st h Q = Wp d 29 21 [l0, l1, l2, l3, some (.int x)] (.int x :: st) h Q := W_go f29_19 rfl
theorem f29_21 : fetch 29 21 = some (.iconst (-1), 1, [], .null) := by decide +kernel
theorem w29_21 : Wp d 29 21 [l0, l1, l2, l3, l4] st h Q = Wp d 29 22 [l0, l1, l2, l3, l4] (.int (-1 : Int32) :: st) h Q := W_go f29_21 rfl
theorem f29_22 : fetch 29 22 = some (.if_icmp .ne 8, 3, [], .null) := by decide +kernel
theorem w29_22 : Wp d 29 22 [l0, l1, l2, l3, l4] (.int y :: .int x :: st) h Q = if icond .ne x y = true then Wp d 29 30 [l0, l1, l2, l3, l4] st h Q else Wp d 29 25 [l0, l1, l2, l3, l4] st h Q := W_if f29_22 rfl
theorem f29_25 : fetch 29 25 = some (.aload_n 0, 1, [], .null) := by decide +kernel
theorem w29_25 : Wp d 29 25 [some (.ref a), l1, l2, l3, l4] st h Q = Wp d 29 26 [some (.ref a), l1, l2, l3, l4] (.ref a :: st) h Q := W_go f29_25 rfl
theorem f29_26 : fetch 29 26 = some (.iconst 3, 1, [], .null) := by decide +kernel
theorem w29_26 : Wp d 29 26 [l0, l1, l2, l3, l4] st h Q = Wp d 29 27 [l0, l1, l2, l3, l4] (.int (3 : Int32) :: st) h Q := W_go f29_26 rfl
theorem f29_27 : fetch 29 27 = some (.invokevirtual 121, 3, [34, 2, 4, 0, 3064, 1004, 3067, 3066, 9], .null) := by decide +kernel
theorem w29_27 (hp : psum st ≤ 8) : Wp d 29 27 [l0, l1, l2, l3, l4] (v1 :: (.ref b) :: st) h Q = rP (h.2 b) 3 (Cp d 34 [(.ref b), v1] h (fun o => cK o (fun w h2 => Wp d 29 30 [l0, l1, l2, l3, l4] (w.toList ++ st) h2 Q) (fun E h2 => Q (.inr E, h2)))) := (W_invV (st := st) f29_27 rfl rfl (by simp only [List.length_cons]; omega) rfl rfl hp).trans (by simp only [hm29, if_true])
theorem f29_30 : fetch 29 30 = some (.aload_n 0, 1, [], .null) := by decide +kernel
theorem w29_30 : Wp d 29 30 [some (.ref a), l1, l2, l3, l4] st h Q = Wp d 29 31 [some (.ref a), l1, l2, l3, l4] (.ref a :: st) h Q := W_go f29_30 rfl
theorem f29_31 : fetch 29 31 = some (.getfield 25, 3, [3, 3, 1228, 0], .null) := by decide +kernel
theorem w29_31 : Wp d 29 31 [l0, l1, l2, l3, l4] (.ref a :: st) h Q = gP (h.2 a) 3 3 (fun w => Wp d 29 34 [l0, l1, l2, l3, l4] (w :: st) h Q) := W_get f29_31 rfl
theorem f29_34 : fetch 29 34 = some (.getfield 131, 3, [0, 8, 1080, 0], .null) := by decide +kernel
theorem w29_34 : Wp d 29 34 [l0, l1, l2, l3, l4] (.ref a :: st) h Q = gP (h.2 a) 0 8 (fun w => Wp d 29 37 [l0, l1, l2, l3, l4] (w :: st) h Q) := W_get f29_34 rfl
theorem f29_37 : fetch 29 37 = some (.iload_n 1, 1, [], .null) := by decide +kernel
theorem w29_37 : Wp d 29 37 [l0, some (.int x), l2, l3, l4] st h Q = Wp d 29 38 [l0, some (.int x), l2, l3, l4] (.int x :: st) h Q := W_go f29_37 rfl
theorem f29_38 : fetch 29 38 = some (.iload 4, 2, [], .null) := by decide +kernel
theorem w29_38 : Wp d 29 38 [l0, l1, l2, l3, some (.int x)] st h Q = Wp d 29 40 [l0, l1, l2, l3, some (.int x)] (.int x :: st) h Q := W_go f29_38 rfl
theorem f29_40 : fetch 29 40 = some (.invokestatic 104, 3, [116, 3, 0, 1, 3077, 1001, 2211, 2210], .null) := by decide +kernel
theorem w29_40 (hp : psum st ≤ 8) : Wp d 29 40 [l0, l1, l2, l3, l4] (v2 :: v1 :: v0 :: st) h Q = Cp d 116 [v0, v1, v2] h (fun o => cK o (fun w h2 => Wp d 29 43 [l0, l1, l2, l3, l4] (w.toList ++ st) h2 Q) (fun _ _ => False)) := (W_invS (st := st) f29_40 rfl rfl (by simp only [List.length_cons]; omega) rfl rfl hp)
theorem f29_43 : fetch 29 43 = some (.aload_n 0, 1, [], .null) := by decide +kernel
theorem w29_43 : Wp d 29 43 [some (.ref a), l1, l2, l3, l4] st h Q = Wp d 29 44 [some (.ref a), l1, l2, l3, l4] (.ref a :: st) h Q := W_go f29_43 rfl
theorem f29_44 : fetch 29 44 = some (.invokevirtual 48, 3, [36, 1, 4, 0, 3048, 1004, 3051, 3050, 5], .null) := by decide +kernel
theorem w29_44 (hp : psum st ≤ 8) : Wp d 29 44 [l0, l1, l2, l3, l4] ((.ref b) :: st) h Q = rP (h.2 b) 3 (Cp d 36 [(.ref b)] h (fun o => cK o (fun w h2 => Wp d 29 47 [l0, l1, l2, l3, l4] (w.toList ++ st) h2 Q) (fun E h2 => Q (.inr E, h2)))) := (W_invV (st := st) f29_44 rfl rfl (by simp only [List.length_cons]; omega) rfl rfl hp).trans (by simp only [hm29, if_true])
theorem f29_47 : fetch 29 47 = some (.iconst 1, 1, [], .null) := by decide +kernel
theorem w29_47 : Wp d 29 47 [l0, l1, l2, l3, l4] st h Q = Wp d 29 48 [l0, l1, l2, l3, l4] (.int (1 : Int32) :: st) h Q := W_go f29_47 rfl
theorem f29_48 : fetch 29 48 = some (.ireturn, 1, [], .null) := by decide +kernel
theorem w29_48 : Wp d 29 48 [l0, l1, l2, l3, l4] [.int x] h Q = (if narrow .boolean (.int x) = .int x then Q (.inl (some (.int x)), h) else False) := W_zret f29_48 hr29
theorem hm30 : mhs 30 = [] := by decide +kernel
theorem hr30 : mret 30 = (some .boolean) := by decide +kernel
theorem f30_0 : fetch 30 0 = some (.aload_n 0, 1, [], .null) := by decide +kernel
theorem w30_0 : Wp d 30 0 [some (.ref a), l1, l2] st h Q = Wp d 30 1 [some (.ref a), l1, l2] (.ref a :: st) h Q := W_go f30_0 rfl
theorem f30_1 : fetch 30 1 = some (.getfield 51, 3, [3, 5, 1230, 0], .null) := by decide +kernel
theorem w30_1 : Wp d 30 1 [l0, l1, l2] (.ref a :: st) h Q = gP (h.2 a) 3 5 (fun w => Wp d 30 4 [l0, l1, l2] (w :: st) h Q) := W_get f30_1 rfl
theorem f30_4 : fetch 30 4 = some (.bipush 24, 2, [], .null) := by decide +kernel
theorem w30_4 : Wp d 30 4 [l0, l1, l2] st h Q = Wp d 30 6 [l0, l1, l2] (.int (24 : Int32) :: st) h Q := W_go f30_4 rfl
theorem f30_6 : fetch 30 6 = some (.if_icmp .ne 32, 3, [], .null) := by decide +kernel
theorem w30_6 : Wp d 30 6 [l0, l1, l2] (.int y :: .int x :: st) h Q = if icond .ne x y = true then Wp d 30 38 [l0, l1, l2] st h Q else Wp d 30 9 [l0, l1, l2] st h Q := W_if f30_6 rfl
theorem f30_9 : fetch 30 9 = some (.aload_n 0, 1, [], .null) := by decide +kernel
theorem w30_9 : Wp d 30 9 [some (.ref a), l1, l2] st h Q = Wp d 30 10 [some (.ref a), l1, l2] (.ref a :: st) h Q := W_go f30_9 rfl
theorem f30_10 : fetch 30 10 = some (.getfield 71, 3, [3, 7, 1232, 0], .null) := by decide +kernel
theorem w30_10 : Wp d 30 10 [l0, l1, l2] (.ref a :: st) h Q = gP (h.2 a) 3 7 (fun w => Wp d 30 13 [l0, l1, l2] (w :: st) h Q) := W_get f30_10 rfl
theorem f30_13 : fetch 30 13 = some (.ldc2_w 174, 3, [3098], .long (99)) := by decide +kernel
theorem w30_13 : Wp d 30 13 [l0, l1, l2] st h Q = Wp d 30 16 [l0, l1, l2] ((.long (99)) :: st) h Q := W_go f30_13 rfl
theorem f30_16 : fetch 30 16 = some (.lcmp, 1, [], .null) := by decide +kernel
theorem w30_16 : Wp d 30 16 [l0, l1, l2] (.long y8 :: .long x8 :: st) h Q = Wp d 30 17 [l0, l1, l2] (.int (lg_cmp x8 y8) :: st) h Q := W_go f30_16 rfl
theorem f30_17 : fetch 30 17 = some (.ifCond .le 8, 3, [], .null) := by decide +kernel
theorem w30_17 : Wp d 30 17 [l0, l1, l2] (.int x :: st) h Q = if icond .le x 0 = true then Wp d 30 25 [l0, l1, l2] st h Q else Wp d 30 20 [l0, l1, l2] st h Q := W_if f30_17 rfl
theorem f30_20 : fetch 30 20 = some (.aload_n 0, 1, [], .null) := by decide +kernel
theorem w30_20 : Wp d 30 20 [some (.ref a), l1, l2] st h Q = Wp d 30 21 [some (.ref a), l1, l2] (.ref a :: st) h Q := W_go f30_20 rfl
theorem f30_21 : fetch 30 21 = some (.iconst 5, 1, [], .null) := by decide +kernel
theorem w30_21 : Wp d 30 21 [l0, l1, l2] st h Q = Wp d 30 22 [l0, l1, l2] (.int (5 : Int32) :: st) h Q := W_go f30_21 rfl
theorem f30_22 : fetch 30 22 = some (.invokevirtual 121, 3, [34, 2, 4, 0, 3064, 1004, 3067, 3066, 9], .null) := by decide +kernel
theorem w30_22 (hp : psum st ≤ 8) : Wp d 30 22 [l0, l1, l2] (v1 :: (.ref b) :: st) h Q = rP (h.2 b) 3 (Cp d 34 [(.ref b), v1] h (fun o => cK o (fun w h2 => Wp d 30 25 [l0, l1, l2] (w.toList ++ st) h2 Q) (fun E h2 => Q (.inr E, h2)))) := (W_invV (st := st) f30_22 rfl rfl (by simp only [List.length_cons]; omega) rfl rfl hp).trans (by simp only [hm30, if_true])
theorem f30_25 : fetch 30 25 = some (.aload_n 1, 1, [], .null) := by decide +kernel
theorem w30_25 : Wp d 30 25 [l0, some (.ref a), l2] st h Q = Wp d 30 26 [l0, some (.ref a), l2] (.ref a :: st) h Q := W_go f30_25 rfl
theorem f30_26 : fetch 30 26 = some (.iload_n 2, 1, [], .null) := by decide +kernel
theorem w30_26 : Wp d 30 26 [l0, l1, some (.int x)] st h Q = Wp d 30 27 [l0, l1, some (.int x)] (.int x :: st) h Q := W_go f30_26 rfl
theorem f30_27 : fetch 30 27 = some (.aload_n 0, 1, [], .null) := by decide +kernel
theorem w30_27 : Wp d 30 27 [some (.ref a), l1, l2] st h Q = Wp d 30 28 [some (.ref a), l1, l2] (.ref a :: st) h Q := W_go f30_27 rfl
theorem f30_28 : fetch 30 28 = some (.getfield 71, 3, [3, 7, 1232, 0], .null) := by decide +kernel
theorem w30_28 : Wp d 30 28 [l0, l1, l2] (.ref a :: st) h Q = gP (h.2 a) 3 7 (fun w => Wp d 30 31 [l0, l1, l2] (w :: st) h Q) := W_get f30_28 rfl
theorem f30_31 : fetch 30 31 = some (.l2i, 1, [], .null) := by decide +kernel
theorem w30_31 : Wp d 30 31 [l0, l1, l2] (.long x8 :: st) h Q = Wp d 30 32 [l0, l1, l2] (.int x8.toInt32 :: st) h Q := W_go f30_31 rfl
theorem f30_32 : fetch 30 32 = some (.invokestatic 104, 3, [116, 3, 0, 1, 3077, 1001, 2211, 2210], .null) := by decide +kernel
theorem w30_32 (hp : psum st ≤ 8) : Wp d 30 32 [l0, l1, l2] (v2 :: v1 :: v0 :: st) h Q = Cp d 116 [v0, v1, v2] h (fun o => cK o (fun w h2 => Wp d 30 35 [l0, l1, l2] (w.toList ++ st) h2 Q) (fun _ _ => False)) := (W_invS (st := st) f30_32 rfl rfl (by simp only [List.length_cons]; omega) rfl rfl hp)
theorem f30_35 : fetch 30 35 = some (.goto 36, 3, [], .null) := by decide +kernel
theorem w30_35 : Wp d 30 35 [l0, l1, l2] st h Q = Wp d 30 71 [l0, l1, l2] st h Q := W_go f30_35 rfl
theorem f30_38 : fetch 30 38 = some (.aload_n 0, 1, [], .null) := by decide +kernel
theorem w30_38 : Wp d 30 38 [some (.ref a), l1, l2] st h Q = Wp d 30 39 [some (.ref a), l1, l2] (.ref a :: st) h Q := W_go f30_38 rfl
theorem f30_39 : fetch 30 39 = some (.getfield 51, 3, [3, 5, 1230, 0], .null) := by decide +kernel
theorem w30_39 : Wp d 30 39 [l0, l1, l2] (.ref a :: st) h Q = gP (h.2 a) 3 5 (fun w => Wp d 30 42 [l0, l1, l2] (w :: st) h Q) := W_get f30_39 rfl
theorem f30_42 : fetch 30 42 = some (.bipush 16, 2, [], .null) := by decide +kernel
theorem w30_42 : Wp d 30 42 [l0, l1, l2] st h Q = Wp d 30 44 [l0, l1, l2] (.int (16 : Int32) :: st) h Q := W_go f30_42 rfl
theorem f30_44 : fetch 30 44 = some (.if_icmp .lt 25, 3, [], .null) := by decide +kernel
theorem w30_44 : Wp d 30 44 [l0, l1, l2] (.int y :: .int x :: st) h Q = if icond .lt x y = true then Wp d 30 69 [l0, l1, l2] st h Q else Wp d 30 47 [l0, l1, l2] st h Q := W_if f30_44 rfl
theorem f30_47 : fetch 30 47 = some (.aload_n 0, 1, [], .null) := by decide +kernel
theorem w30_47 : Wp d 30 47 [some (.ref a), l1, l2] st h Q = Wp d 30 48 [some (.ref a), l1, l2] (.ref a :: st) h Q := W_go f30_47 rfl
theorem f30_48 : fetch 30 48 = some (.getfield 51, 3, [3, 5, 1230, 0], .null) := by decide +kernel
theorem w30_48 : Wp d 30 48 [l0, l1, l2] (.ref a :: st) h Q = gP (h.2 a) 3 5 (fun w => Wp d 30 51 [l0, l1, l2] (w :: st) h Q) := W_get f30_48 rfl
theorem f30_51 : fetch 30 51 = some (.bipush 22, 2, [], .null) := by decide +kernel
theorem w30_51 : Wp d 30 51 [l0, l1, l2] st h Q = Wp d 30 53 [l0, l1, l2] (.int (22 : Int32) :: st) h Q := W_go f30_51 rfl
theorem f30_53 : fetch 30 53 = some (.if_icmp .gt 16, 3, [], .null) := by decide +kernel
theorem w30_53 : Wp d 30 53 [l0, l1, l2] (.int y :: .int x :: st) h Q = if icond .gt x y = true then Wp d 30 69 [l0, l1, l2] st h Q else Wp d 30 56 [l0, l1, l2] st h Q := W_if f30_53 rfl
theorem f30_56 : fetch 30 56 = some (.aload_n 1, 1, [], .null) := by decide +kernel
theorem w30_56 : Wp d 30 56 [l0, some (.ref a), l2] st h Q = Wp d 30 57 [l0, some (.ref a), l2] (.ref a :: st) h Q := W_go f30_56 rfl
theorem f30_57 : fetch 30 57 = some (.iload_n 2, 1, [], .null) := by decide +kernel
theorem w30_57 : Wp d 30 57 [l0, l1, some (.int x)] st h Q = Wp d 30 58 [l0, l1, some (.int x)] (.int x :: st) h Q := W_go f30_57 rfl
theorem f30_58 : fetch 30 58 = some (.aload_n 0, 1, [], .null) := by decide +kernel
theorem w30_58 : Wp d 30 58 [some (.ref a), l1, l2] st h Q = Wp d 30 59 [some (.ref a), l1, l2] (.ref a :: st) h Q := W_go f30_58 rfl
theorem f30_59 : fetch 30 59 = some (.getfield 51, 3, [3, 5, 1230, 0], .null) := by decide +kernel
theorem w30_59 : Wp d 30 59 [l0, l1, l2] (.ref a :: st) h Q = gP (h.2 a) 3 5 (fun w => Wp d 30 62 [l0, l1, l2] (w :: st) h Q) := W_get f30_59 rfl
theorem f30_62 : fetch 30 62 = some (.ineg, 1, [], .null) := by decide +kernel
theorem w30_62 : Wp d 30 62 [l0, l1, l2] (.int x :: st) h Q = Wp d 30 63 [l0, l1, l2] (.int (-x) :: st) h Q := W_go f30_62 rfl
theorem f30_63 : fetch 30 63 = some (.invokestatic 104, 3, [116, 3, 0, 1, 3077, 1001, 2211, 2210], .null) := by decide +kernel
theorem w30_63 (hp : psum st ≤ 8) : Wp d 30 63 [l0, l1, l2] (v2 :: v1 :: v0 :: st) h Q = Cp d 116 [v0, v1, v2] h (fun o => cK o (fun w h2 => Wp d 30 66 [l0, l1, l2] (w.toList ++ st) h2 Q) (fun _ _ => False)) := (W_invS (st := st) f30_63 rfl rfl (by simp only [List.length_cons]; omega) rfl rfl hp)
theorem f30_66 : fetch 30 66 = some (.goto 5, 3, [], .null) := by decide +kernel
theorem w30_66 : Wp d 30 66 [l0, l1, l2] st h Q = Wp d 30 71 [l0, l1, l2] st h Q := W_go f30_66 rfl
theorem f30_69 : fetch 30 69 = some (.iconst 0, 1, [], .null) := by decide +kernel
theorem w30_69 : Wp d 30 69 [l0, l1, l2] st h Q = Wp d 30 70 [l0, l1, l2] (.int (0 : Int32) :: st) h Q := W_go f30_69 rfl
theorem f30_70 : fetch 30 70 = some (.ireturn, 1, [], .null) := by decide +kernel
theorem w30_70 : Wp d 30 70 [l0, l1, l2] [.int x] h Q = (if narrow .boolean (.int x) = .int x then Q (.inl (some (.int x)), h) else False) := W_zret f30_70 hr30
theorem f30_71 : fetch 30 71 = some (.aload_n 0, 1, [], .null) := by decide +kernel
theorem w30_71 : Wp d 30 71 [some (.ref a), l1, l2] st h Q = Wp d 30 72 [some (.ref a), l1, l2] (.ref a :: st) h Q := W_go f30_71 rfl
theorem f30_72 : fetch 30 72 = some (.invokevirtual 48, 3, [36, 1, 4, 0, 3048, 1004, 3051, 3050, 5], .null) := by decide +kernel
theorem w30_72 (hp : psum st ≤ 8) : Wp d 30 72 [l0, l1, l2] ((.ref b) :: st) h Q = rP (h.2 b) 3 (Cp d 36 [(.ref b)] h (fun o => cK o (fun w h2 => Wp d 30 75 [l0, l1, l2] (w.toList ++ st) h2 Q) (fun E h2 => Q (.inr E, h2)))) := (W_invV (st := st) f30_72 rfl rfl (by simp only [List.length_cons]; omega) rfl rfl hp).trans (by simp only [hm30, if_true])
theorem f30_75 : fetch 30 75 = some (.iconst 1, 1, [], .null) := by decide +kernel
theorem w30_75 : Wp d 30 75 [l0, l1, l2] st h Q = Wp d 30 76 [l0, l1, l2] (.int (1 : Int32) :: st) h Q := W_go f30_75 rfl
theorem f30_76 : fetch 30 76 = some (.ireturn, 1, [], .null) := by decide +kernel
theorem w30_76 : Wp d 30 76 [l0, l1, l2] [.int x] h Q = (if narrow .boolean (.int x) = .int x then Q (.inl (some (.int x)), h) else False) := W_zret f30_76 hr30
theorem hm31 : mhs 31 = [] := by decide +kernel
theorem hr31 : mret 31 = (some .boolean) := by decide +kernel
theorem f31_0 : fetch 31 0 = some (.aload_n 0, 1, [], .null) := by decide +kernel
theorem w31_0 : Wp d 31 0 [some (.ref a), l1, l2, l3, l4] st h Q = Wp d 31 1 [some (.ref a), l1, l2, l3, l4] (.ref a :: st) h Q := W_go f31_0 rfl
theorem f31_1 : fetch 31 1 = some (.getfield 51, 3, [3, 5, 1230, 0], .null) := by decide +kernel
theorem w31_1 : Wp d 31 1 [l0, l1, l2, l3, l4] (.ref a :: st) h Q = gP (h.2 a) 3 5 (fun w => Wp d 31 4 [l0, l1, l2, l3, l4] (w :: st) h Q) := W_get f31_1 rfl
theorem f31_4 : fetch 31 4 = some (.bipush 24, 2, [], .null) := by decide +kernel
theorem w31_4 : Wp d 31 4 [l0, l1, l2, l3, l4] st h Q = Wp d 31 6 [l0, l1, l2, l3, l4] (.int (24 : Int32) :: st) h Q := W_go f31_4 rfl
theorem f31_6 : fetch 31 6 = some (.if_icmp .eq 5, 3, [], .null) := by decide +kernel
theorem w31_6 : Wp d 31 6 [l0, l1, l2, l3, l4] (.int y :: .int x :: st) h Q = if icond .eq x y = true then Wp d 31 11 [l0, l1, l2, l3, l4] st h Q else Wp d 31 9 [l0, l1, l2, l3, l4] st h Q := W_if f31_6 rfl
theorem f31_9 : fetch 31 9 = some (.iconst 0, 1, [], .null) := by decide +kernel
theorem w31_9 : Wp d 31 9 [l0, l1, l2, l3, l4] st h Q = Wp d 31 10 [l0, l1, l2, l3, l4] (.int (0 : Int32) :: st) h Q := W_go f31_9 rfl
theorem f31_10 : fetch 31 10 = some (.ireturn, 1, [], .null) := by decide +kernel
theorem w31_10 : Wp d 31 10 [l0, l1, l2, l3, l4] [.int x] h Q = (if narrow .boolean (.int x) = .int x then Q (.inl (some (.int x)), h) else False) := W_zret f31_10 hr31
theorem f31_11 : fetch 31 11 = some (.aload_n 0, 1, [], .null) := by decide +kernel
theorem w31_11 : Wp d 31 11 [some (.ref a), l1, l2, l3, l4] st h Q = Wp d 31 12 [some (.ref a), l1, l2, l3, l4] (.ref a :: st) h Q := W_go f31_11 rfl
theorem f31_12 : fetch 31 12 = some (.getfield 71, 3, [3, 7, 1232, 0], .null) := by decide +kernel
theorem w31_12 : Wp d 31 12 [l0, l1, l2, l3, l4] (.ref a :: st) h Q = gP (h.2 a) 3 7 (fun w => Wp d 31 15 [l0, l1, l2, l3, l4] (w :: st) h Q) := W_get f31_12 rfl
theorem f31_15 : fetch 31 15 = some (.iload_n 3, 1, [], .null) := by decide +kernel
theorem w31_15 : Wp d 31 15 [l0, l1, l2, some (.int x), l4] st h Q = Wp d 31 16 [l0, l1, l2, some (.int x), l4] (.int x :: st) h Q := W_go f31_15 rfl
theorem f31_16 : fetch 31 16 = some (.i2l, 1, [], .null) := by decide +kernel
theorem w31_16 : Wp d 31 16 [l0, l1, l2, l3, l4] (.int x :: st) h Q = Wp d 31 17 [l0, l1, l2, l3, l4] (.long x.toInt64 :: st) h Q := W_go f31_16 rfl
theorem f31_17 : fetch 31 17 = some (.lcmp, 1, [], .null) := by decide +kernel
theorem w31_17 : Wp d 31 17 [l0, l1, l2, l3, l4] (.long y8 :: .long x8 :: st) h Q = Wp d 31 18 [l0, l1, l2, l3, l4] (.int (lg_cmp x8 y8) :: st) h Q := W_go f31_17 rfl
theorem f31_18 : fetch 31 18 = some (.ifCond .lt 14, 3, [], .null) := by decide +kernel
theorem w31_18 : Wp d 31 18 [l0, l1, l2, l3, l4] (.int x :: st) h Q = if icond .lt x 0 = true then Wp d 31 32 [l0, l1, l2, l3, l4] st h Q else Wp d 31 21 [l0, l1, l2, l3, l4] st h Q := W_if f31_18 rfl
theorem f31_21 : fetch 31 21 = some (.aload_n 0, 1, [], .null) := by decide +kernel
theorem w31_21 : Wp d 31 21 [some (.ref a), l1, l2, l3, l4] st h Q = Wp d 31 22 [some (.ref a), l1, l2, l3, l4] (.ref a :: st) h Q := W_go f31_21 rfl
theorem f31_22 : fetch 31 22 = some (.getfield 71, 3, [3, 7, 1232, 0], .null) := by decide +kernel
theorem w31_22 : Wp d 31 22 [l0, l1, l2, l3, l4] (.ref a :: st) h Q = gP (h.2 a) 3 7 (fun w => Wp d 31 25 [l0, l1, l2, l3, l4] (w :: st) h Q) := W_get f31_22 rfl
theorem f31_25 : fetch 31 25 = some (.iload 4, 2, [], .null) := by decide +kernel
theorem w31_25 : Wp d 31 25 [l0, l1, l2, l3, some (.int x)] st h Q = Wp d 31 27 [l0, l1, l2, l3, some (.int x)] (.int x :: st) h Q := W_go f31_25 rfl
theorem f31_27 : fetch 31 27 = some (.i2l, 1, [], .null) := by decide +kernel
theorem w31_27 : Wp d 31 27 [l0, l1, l2, l3, l4] (.int x :: st) h Q = Wp d 31 28 [l0, l1, l2, l3, l4] (.long x.toInt64 :: st) h Q := W_go f31_27 rfl
theorem f31_28 : fetch 31 28 = some (.lcmp, 1, [], .null) := by decide +kernel
theorem w31_28 : Wp d 31 28 [l0, l1, l2, l3, l4] (.long y8 :: .long x8 :: st) h Q = Wp d 31 29 [l0, l1, l2, l3, l4] (.int (lg_cmp x8 y8) :: st) h Q := W_go f31_28 rfl
theorem f31_29 : fetch 31 29 = some (.ifCond .le 8, 3, [], .null) := by decide +kernel
theorem w31_29 : Wp d 31 29 [l0, l1, l2, l3, l4] (.int x :: st) h Q = if icond .le x 0 = true then Wp d 31 37 [l0, l1, l2, l3, l4] st h Q else Wp d 31 32 [l0, l1, l2, l3, l4] st h Q := W_if f31_29 rfl
theorem f31_32 : fetch 31 32 = some (.aload_n 0, 1, [], .null) := by decide +kernel
theorem w31_32 : Wp d 31 32 [some (.ref a), l1, l2, l3, l4] st h Q = Wp d 31 33 [some (.ref a), l1, l2, l3, l4] (.ref a :: st) h Q := W_go f31_32 rfl
theorem f31_33 : fetch 31 33 = some (.iconst 5, 1, [], .null) := by decide +kernel
theorem w31_33 : Wp d 31 33 [l0, l1, l2, l3, l4] st h Q = Wp d 31 34 [l0, l1, l2, l3, l4] (.int (5 : Int32) :: st) h Q := W_go f31_33 rfl
theorem f31_34 : fetch 31 34 = some (.invokevirtual 121, 3, [34, 2, 4, 0, 3064, 1004, 3067, 3066, 9], .null) := by decide +kernel
theorem w31_34 (hp : psum st ≤ 8) : Wp d 31 34 [l0, l1, l2, l3, l4] (v1 :: (.ref b) :: st) h Q = rP (h.2 b) 3 (Cp d 34 [(.ref b), v1] h (fun o => cK o (fun w h2 => Wp d 31 37 [l0, l1, l2, l3, l4] (w.toList ++ st) h2 Q) (fun E h2 => Q (.inr E, h2)))) := (W_invV (st := st) f31_34 rfl rfl (by simp only [List.length_cons]; omega) rfl rfl hp).trans (by simp only [hm31, if_true])
theorem f31_37 : fetch 31 37 = some (.aload_n 1, 1, [], .null) := by decide +kernel
theorem w31_37 : Wp d 31 37 [l0, some (.ref a), l2, l3, l4] st h Q = Wp d 31 38 [l0, some (.ref a), l2, l3, l4] (.ref a :: st) h Q := W_go f31_37 rfl
theorem f31_38 : fetch 31 38 = some (.iload_n 2, 1, [], .null) := by decide +kernel
theorem w31_38 : Wp d 31 38 [l0, l1, some (.int x), l3, l4] st h Q = Wp d 31 39 [l0, l1, some (.int x), l3, l4] (.int x :: st) h Q := W_go f31_38 rfl
theorem f31_39 : fetch 31 39 = some (.aload_n 0, 1, [], .null) := by decide +kernel
theorem w31_39 : Wp d 31 39 [some (.ref a), l1, l2, l3, l4] st h Q = Wp d 31 40 [some (.ref a), l1, l2, l3, l4] (.ref a :: st) h Q := W_go f31_39 rfl
theorem f31_40 : fetch 31 40 = some (.getfield 71, 3, [3, 7, 1232, 0], .null) := by decide +kernel
theorem w31_40 : Wp d 31 40 [l0, l1, l2, l3, l4] (.ref a :: st) h Q = gP (h.2 a) 3 7 (fun w => Wp d 31 43 [l0, l1, l2, l3, l4] (w :: st) h Q) := W_get f31_40 rfl
theorem f31_43 : fetch 31 43 = some (.l2i, 1, [], .null) := by decide +kernel
theorem w31_43 : Wp d 31 43 [l0, l1, l2, l3, l4] (.long x8 :: st) h Q = Wp d 31 44 [l0, l1, l2, l3, l4] (.int x8.toInt32 :: st) h Q := W_go f31_43 rfl
theorem f31_44 : fetch 31 44 = some (.invokestatic 104, 3, [116, 3, 0, 1, 3077, 1001, 2211, 2210], .null) := by decide +kernel
theorem w31_44 (hp : psum st ≤ 8) : Wp d 31 44 [l0, l1, l2, l3, l4] (v2 :: v1 :: v0 :: st) h Q = Cp d 116 [v0, v1, v2] h (fun o => cK o (fun w h2 => Wp d 31 47 [l0, l1, l2, l3, l4] (w.toList ++ st) h2 Q) (fun _ _ => False)) := (W_invS (st := st) f31_44 rfl rfl (by simp only [List.length_cons]; omega) rfl rfl hp)
theorem f31_47 : fetch 31 47 = some (.aload_n 0, 1, [], .null) := by decide +kernel
theorem w31_47 : Wp d 31 47 [some (.ref a), l1, l2, l3, l4] st h Q = Wp d 31 48 [some (.ref a), l1, l2, l3, l4] (.ref a :: st) h Q := W_go f31_47 rfl
theorem f31_48 : fetch 31 48 = some (.invokevirtual 48, 3, [36, 1, 4, 0, 3048, 1004, 3051, 3050, 5], .null) := by decide +kernel
theorem w31_48 (hp : psum st ≤ 8) : Wp d 31 48 [l0, l1, l2, l3, l4] ((.ref b) :: st) h Q = rP (h.2 b) 3 (Cp d 36 [(.ref b)] h (fun o => cK o (fun w h2 => Wp d 31 51 [l0, l1, l2, l3, l4] (w.toList ++ st) h2 Q) (fun E h2 => Q (.inr E, h2)))) := (W_invV (st := st) f31_48 rfl rfl (by simp only [List.length_cons]; omega) rfl rfl hp).trans (by simp only [hm31, if_true])
theorem f31_51 : fetch 31 51 = some (.iconst 1, 1, [], .null) := by decide +kernel
theorem w31_51 : Wp d 31 51 [l0, l1, l2, l3, l4] st h Q = Wp d 31 52 [l0, l1, l2, l3, l4] (.int (1 : Int32) :: st) h Q := W_go f31_51 rfl
theorem f31_52 : fetch 31 52 = some (.ireturn, 1, [], .null) := by decide +kernel
theorem w31_52 : Wp d 31 52 [l0, l1, l2, l3, l4] [.int x] h Q = (if narrow .boolean (.int x) = .int x then Q (.inl (some (.int x)), h) else False) := W_zret f31_52 hr31
theorem hm32 : mhs 32 = [] := by decide +kernel
theorem f32_0 : fetch 32 0 = some (.aload_n 0, 1, [], .null) := by decide +kernel
theorem w32_0 : Wp d 32 0 [some (.ref a), l1] st h Q = Wp d 32 1 [some (.ref a), l1] (.ref a :: st) h Q := W_go f32_0 rfl
theorem f32_1 : fetch 32 1 = some (.aload_n 0, 1, [], .null) := by decide +kernel
theorem w32_1 : Wp d 32 1 [some (.ref a), l1] st h Q = Wp d 32 2 [some (.ref a), l1] (.ref a :: st) h Q := W_go f32_1 rfl
theorem f32_2 : fetch 32 2 = some (.getfield 18, 3, [3, 1, 1226, 0], .null) := by decide +kernel
theorem w32_2 : Wp d 32 2 [l0, l1] (.ref a :: st) h Q = gP (h.2 a) 3 1 (fun w => Wp d 32 5 [l0, l1] (w :: st) h Q) := W_get f32_2 rfl
theorem f32_5 : fetch 32 5 = some (.aload_n 0, 1, [], .null) := by decide +kernel
theorem w32_5 : Wp d 32 5 [some (.ref a), l1] st h Q = Wp d 32 6 [some (.ref a), l1] (.ref a :: st) h Q := W_go f32_5 rfl
theorem f32_6 : fetch 32 6 = some (.getfield 25, 3, [3, 3, 1228, 0], .null) := by decide +kernel
theorem w32_6 : Wp d 32 6 [l0, l1] (.ref a :: st) h Q = gP (h.2 a) 3 3 (fun w => Wp d 32 9 [l0, l1] (w :: st) h Q) := W_get f32_6 rfl
theorem f32_9 : fetch 32 9 = some (.getfield 64, 3, [0, 0, 1056, 0], .null) := by decide +kernel
theorem w32_9 : Wp d 32 9 [l0, l1] (.ref a :: st) h Q = gP (h.2 a) 0 0 (fun w => Wp d 32 12 [l0, l1] (w :: st) h Q) := W_get f32_9 rfl
theorem f32_12 : fetch 32 12 = some (.invokevirtual 170, 3, [33, 3, 4, 0, 3060, 1004, 3063, 3062, 8], .null) := by decide +kernel
theorem w32_12 (hp : psum st ≤ 8) : Wp d 32 12 [l0, l1] (v2 :: v1 :: (.ref b) :: st) h Q = rP (h.2 b) 3 (Cp d 33 [(.ref b), v1, v2] h (fun o => cK o (fun w h2 => Wp d 32 15 [l0, l1] (w.toList ++ st) h2 Q) (fun E h2 => Q (.inr E, h2)))) := (W_invV (st := st) f32_12 rfl rfl (by simp only [List.length_cons]; omega) rfl rfl hp).trans (by simp only [hm32, if_true])
theorem f32_15 : fetch 32 15 = some (.iconst (-1), 1, [], .null) := by decide +kernel
theorem w32_15 : Wp d 32 15 [l0, l1] st h Q = Wp d 32 16 [l0, l1] (.int (-1 : Int32) :: st) h Q := W_go f32_15 rfl
theorem f32_16 : fetch 32 16 = some (.if_icmp .ne 22, 3, [], .null) := by decide +kernel
theorem w32_16 : Wp d 32 16 [l0, l1] (.int y :: .int x :: st) h Q = if icond .ne x y = true then Wp d 32 38 [l0, l1] st h Q else Wp d 32 19 [l0, l1] st h Q := W_if f32_16 rfl
theorem f32_19 : fetch 32 19 = some (.aload_n 0, 1, [], .null) := by decide +kernel
theorem w32_19 : Wp d 32 19 [some (.ref a), l1] st h Q = Wp d 32 20 [some (.ref a), l1] (.ref a :: st) h Q := W_go f32_19 rfl
theorem f32_20 : fetch 32 20 = some (.aload_n 0, 1, [], .null) := by decide +kernel
theorem w32_20 : Wp d 32 20 [some (.ref a), l1] st h Q = Wp d 32 21 [some (.ref a), l1] (.ref a :: st) h Q := W_go f32_20 rfl
theorem f32_21 : fetch 32 21 = some (.getfield 22, 3, [3, 2, 1227, 0], .null) := by decide +kernel
theorem w32_21 : Wp d 32 21 [l0, l1] (.ref a :: st) h Q = gP (h.2 a) 3 2 (fun w => Wp d 32 24 [l0, l1] (w :: st) h Q) := W_get f32_21 rfl
theorem f32_24 : fetch 32 24 = some (.aload_n 0, 1, [], .null) := by decide +kernel
theorem w32_24 : Wp d 32 24 [some (.ref a), l1] st h Q = Wp d 32 25 [some (.ref a), l1] (.ref a :: st) h Q := W_go f32_24 rfl
theorem f32_25 : fetch 32 25 = some (.getfield 25, 3, [3, 3, 1228, 0], .null) := by decide +kernel
theorem w32_25 : Wp d 32 25 [l0, l1] (.ref a :: st) h Q = gP (h.2 a) 3 3 (fun w => Wp d 32 28 [l0, l1] (w :: st) h Q) := W_get f32_25 rfl
theorem f32_28 : fetch 32 28 = some (.getfield 94, 3, [0, 1, 1059, 0], .null) := by decide +kernel
theorem w32_28 : Wp d 32 28 [l0, l1] (.ref a :: st) h Q = gP (h.2 a) 0 1 (fun w => Wp d 32 31 [l0, l1] (w :: st) h Q) := W_get f32_28 rfl
theorem f32_31 : fetch 32 31 = some (.invokevirtual 170, 3, [33, 3, 4, 0, 3060, 1004, 3063, 3062, 8], .null) := by decide +kernel
theorem w32_31 (hp : psum st ≤ 8) : Wp d 32 31 [l0, l1] (v2 :: v1 :: (.ref b) :: st) h Q = rP (h.2 b) 3 (Cp d 33 [(.ref b), v1, v2] h (fun o => cK o (fun w h2 => Wp d 32 34 [l0, l1] (w.toList ++ st) h2 Q) (fun E h2 => Q (.inr E, h2)))) := (W_invV (st := st) f32_31 rfl rfl (by simp only [List.length_cons]; omega) rfl rfl hp).trans (by simp only [hm32, if_true])
theorem f32_34 : fetch 32 34 = some (.iconst (-1), 1, [], .null) := by decide +kernel
theorem w32_34 : Wp d 32 34 [l0, l1] st h Q = Wp d 32 35 [l0, l1] (.int (-1 : Int32) :: st) h Q := W_go f32_34 rfl
theorem f32_35 : fetch 32 35 = some (.if_icmp .eq 11, 3, [], .null) := by decide +kernel
theorem w32_35 : Wp d 32 35 [l0, l1] (.int y :: .int x :: st) h Q = if icond .eq x y = true then Wp d 32 46 [l0, l1] st h Q else Wp d 32 38 [l0, l1] st h Q := W_if f32_35 rfl
theorem f32_38 : fetch 32 38 = some (.aload_n 0, 1, [], .null) := by decide +kernel
theorem w32_38 : Wp d 32 38 [some (.ref a), l1] st h Q = Wp d 32 39 [some (.ref a), l1] (.ref a :: st) h Q := W_go f32_38 rfl
theorem f32_39 : fetch 32 39 = some (.iconst 2, 1, [], .null) := by decide +kernel
theorem w32_39 : Wp d 32 39 [l0, l1] st h Q = Wp d 32 40 [l0, l1] (.int (2 : Int32) :: st) h Q := W_go f32_39 rfl
theorem f32_40 : fetch 32 40 = some (.invokevirtual 121, 3, [34, 2, 4, 0, 3064, 1004, 3067, 3066, 9], .null) := by decide +kernel
theorem w32_40 (hp : psum st ≤ 8) : Wp d 32 40 [l0, l1] (v1 :: (.ref b) :: st) h Q = rP (h.2 b) 3 (Cp d 34 [(.ref b), v1] h (fun o => cK o (fun w h2 => Wp d 32 43 [l0, l1] (w.toList ++ st) h2 Q) (fun E h2 => Q (.inr E, h2)))) := (W_invV (st := st) f32_40 rfl rfl (by simp only [List.length_cons]; omega) rfl rfl hp).trans (by simp only [hm32, if_true])
theorem f32_43 : fetch 32 43 = some (.goto 12, 3, [], .null) := by decide +kernel
theorem w32_43 : Wp d 32 43 [l0, l1] st h Q = Wp d 32 55 [l0, l1] st h Q := W_go f32_43 rfl
theorem f32_46 : fetch 32 46 = some (.iload_n 1, 1, [], .null) := by decide +kernel
theorem w32_46 : Wp d 32 46 [l0, some (.int x)] st h Q = Wp d 32 47 [l0, some (.int x)] (.int x :: st) h Q := W_go f32_46 rfl
theorem f32_47 : fetch 32 47 = some (.ifCond .eq 8, 3, [], .null) := by decide +kernel
theorem w32_47 : Wp d 32 47 [l0, l1] (.int x :: st) h Q = if icond .eq x 0 = true then Wp d 32 55 [l0, l1] st h Q else Wp d 32 50 [l0, l1] st h Q := W_if f32_47 rfl
theorem f32_50 : fetch 32 50 = some (.aload_n 0, 1, [], .null) := by decide +kernel
theorem w32_50 : Wp d 32 50 [some (.ref a), l1] st h Q = Wp d 32 51 [some (.ref a), l1] (.ref a :: st) h Q := W_go f32_50 rfl
theorem f32_51 : fetch 32 51 = some (.iconst 4, 1, [], .null) := by decide +kernel
theorem w32_51 : Wp d 32 51 [l0, l1] st h Q = Wp d 32 52 [l0, l1] (.int (4 : Int32) :: st) h Q := W_go f32_51 rfl
theorem f32_52 : fetch 32 52 = some (.invokevirtual 121, 3, [34, 2, 4, 0, 3064, 1004, 3067, 3066, 9], .null) := by decide +kernel
theorem w32_52 (hp : psum st ≤ 8) : Wp d 32 52 [l0, l1] (v1 :: (.ref b) :: st) h Q = rP (h.2 b) 3 (Cp d 34 [(.ref b), v1] h (fun o => cK o (fun w h2 => Wp d 32 55 [l0, l1] (w.toList ++ st) h2 Q) (fun E h2 => Q (.inr E, h2)))) := (W_invV (st := st) f32_52 rfl rfl (by simp only [List.length_cons]; omega) rfl rfl hp).trans (by simp only [hm32, if_true])
theorem f32_55 : fetch 32 55 = some (.return_, 1, [], .null) := by decide +kernel
theorem w32_55 : Wp d 32 55 [l0, l1] [] h Q = Q (.inl none, h) := W_fin f32_55 rfl
theorem hm33 : mhs 33 = [] := by decide +kernel
theorem hr33 : mret 33 = (some .int) := by decide +kernel
theorem f33_0 : fetch 33 0 = some (.iconst 0, 1, [], .null) := by decide +kernel
theorem w33_0 : Wp d 33 0 [l0, l1, l2, l3] st h Q = Wp d 33 1 [l0, l1, l2, l3] (.int (0 : Int32) :: st) h Q := W_go f33_0 rfl
theorem f33_1 : fetch 33 1 = some (.istore_n 3, 1, [], .null) := by decide +kernel
theorem w33_1 : Wp d 33 1 [l0, l1, l2, l3] (.int x :: st) h Q = Wp d 33 2 [l0, l1, kl l2, some (.int x)] st h Q := (W_st1 (pc' := 2) (k := 3) f33_1 rfl rfl (by simp only [List.length_cons, List.length_nil]; omega)).trans (by rw [pst1_succ]; rfl)
theorem f33_2 : fetch 33 2 = some (.iload_n 3, 1, [], .null) := by decide +kernel
theorem w33_2 : Wp d 33 2 [l0, l1, l2, some (.int x)] st h Q = Wp d 33 3 [l0, l1, l2, some (.int x)] (.int x :: st) h Q := W_go f33_2 rfl
theorem f33_3 : fetch 33 3 = some (.iload_n 2, 1, [], .null) := by decide +kernel
theorem w33_3 : Wp d 33 3 [l0, l1, some (.int x), l3] st h Q = Wp d 33 4 [l0, l1, some (.int x), l3] (.int x :: st) h Q := W_go f33_3 rfl
theorem f33_4 : fetch 33 4 = some (.if_icmp .ge 28, 3, [], .null) := by decide +kernel
theorem w33_4 : Wp d 33 4 [l0, l1, l2, l3] (.int y :: .int x :: st) h Q = if icond .ge x y = true then Wp d 33 32 [l0, l1, l2, l3] st h Q else Wp d 33 7 [l0, l1, l2, l3] st h Q := W_if f33_4 rfl
theorem f33_7 : fetch 33 7 = some (.iload_n 3, 1, [], .null) := by decide +kernel
theorem w33_7 : Wp d 33 7 [l0, l1, l2, some (.int x)] st h Q = Wp d 33 8 [l0, l1, l2, some (.int x)] (.int x :: st) h Q := W_go f33_7 rfl
theorem f33_8 : fetch 33 8 = some (.aload_n 1, 1, [], .null) := by decide +kernel
theorem w33_8 : Wp d 33 8 [l0, some (.ref a), l2, l3] st h Q = Wp d 33 9 [l0, some (.ref a), l2, l3] (.ref a :: st) h Q := W_go f33_8 rfl
theorem f33_9 : fetch 33 9 = some (.arraylength, 1, [], .null) := by decide +kernel
theorem w33_9 : Wp d 33 9 [l0, l1, l2, l3] (.ref a :: st) h Q = nP (h.2 a) (fun w => Wp d 33 10 [l0, l1, l2, l3] (.int w :: st) h Q) := W_len f33_9 rfl
theorem f33_10 : fetch 33 10 = some (.if_icmp .ge 22, 3, [], .null) := by decide +kernel
theorem w33_10 : Wp d 33 10 [l0, l1, l2, l3] (.int y :: .int x :: st) h Q = if icond .ge x y = true then Wp d 33 32 [l0, l1, l2, l3] st h Q else Wp d 33 13 [l0, l1, l2, l3] st h Q := W_if f33_10 rfl
theorem f33_13 : fetch 33 13 = some (.aload_n 1, 1, [], .null) := by decide +kernel
theorem w33_13 : Wp d 33 13 [l0, some (.ref a), l2, l3] st h Q = Wp d 33 14 [l0, some (.ref a), l2, l3] (.ref a :: st) h Q := W_go f33_13 rfl
theorem f33_14 : fetch 33 14 = some (.iload_n 3, 1, [], .null) := by decide +kernel
theorem w33_14 : Wp d 33 14 [l0, l1, l2, some (.int x)] st h Q = Wp d 33 15 [l0, l1, l2, some (.int x)] (.int x :: st) h Q := W_go f33_14 rfl
theorem f33_15 : fetch 33 15 = some (.laload, 1, [], .null) := by decide +kernel
theorem w33_15 : Wp d 33 15 [l0, l1, l2, l3] (.int x :: .ref a :: st) h Q = lP (h.2 a) x (fun w => Wp d 33 16 [l0, l1, l2, l3] (.long w :: st) h Q) := W_lld f33_15 rfl
theorem f33_16 : fetch 33 16 = some (.aload_n 0, 1, [], .null) := by decide +kernel
theorem w33_16 : Wp d 33 16 [some (.ref a), l1, l2, l3] st h Q = Wp d 33 17 [some (.ref a), l1, l2, l3] (.ref a :: st) h Q := W_go f33_16 rfl
theorem f33_17 : fetch 33 17 = some (.getfield 71, 3, [3, 7, 1232, 0], .null) := by decide +kernel
theorem w33_17 : Wp d 33 17 [l0, l1, l2, l3] (.ref a :: st) h Q = gP (h.2 a) 3 7 (fun w => Wp d 33 20 [l0, l1, l2, l3] (w :: st) h Q) := W_get f33_17 rfl
theorem f33_20 : fetch 33 20 = some (.lcmp, 1, [], .null) := by decide +kernel
theorem w33_20 : Wp d 33 20 [l0, l1, l2, l3] (.long y8 :: .long x8 :: st) h Q = Wp d 33 21 [l0, l1, l2, l3] (.int (lg_cmp x8 y8) :: st) h Q := W_go f33_20 rfl
theorem f33_21 : fetch 33 21 = some (.ifCond .ne 5, 3, [], .null) := by decide +kernel
theorem w33_21 : Wp d 33 21 [l0, l1, l2, l3] (.int x :: st) h Q = if icond .ne x 0 = true then Wp d 33 26 [l0, l1, l2, l3] st h Q else Wp d 33 24 [l0, l1, l2, l3] st h Q := W_if f33_21 rfl
theorem f33_24 : fetch 33 24 = some (.iload_n 3, 1, [], .null) := by decide +kernel
theorem w33_24 : Wp d 33 24 [l0, l1, l2, some (.int x)] st h Q = Wp d 33 25 [l0, l1, l2, some (.int x)] (.int x :: st) h Q := W_go f33_24 rfl
theorem f33_25 : fetch 33 25 = some (.ireturn, 1, [], .null) := by decide +kernel
theorem w33_25 : Wp d 33 25 [l0, l1, l2, l3] [.int x] h Q = Q (.inl (some (.int x)), h) := W_iret f33_25 hr33
theorem f33_26 : fetch 33 26 = some (.iinc 3 1, 3, [], .null) := by decide +kernel
theorem w33_26 : Wp d 33 26 [l0, l1, l2, some (.int x)] st h Q = Wp d 33 29 [l0, l1, kl l2, some (.int (x + (1 : Int32)))] st h Q := (W_iinc (y := (1 : Int32)) f33_26 rfl (by simp only [List.length_cons, List.length_nil]; omega) (by decide)).trans (by rw [pst1_succ]; rfl)
theorem f33_29 : fetch 33 29 = some (.goto (-27), 3, [], .null) := by decide +kernel
theorem w33_29 : Wp d 33 29 [l0, l1, l2, l3] st h Q = Wp d 33 2 [l0, l1, l2, l3] st h Q := W_go f33_29 rfl
theorem f33_32 : fetch 33 32 = some (.iconst (-1), 1, [], .null) := by decide +kernel
theorem w33_32 : Wp d 33 32 [l0, l1, l2, l3] st h Q = Wp d 33 33 [l0, l1, l2, l3] (.int (-1 : Int32) :: st) h Q := W_go f33_32 rfl
theorem f33_33 : fetch 33 33 = some (.ireturn, 1, [], .null) := by decide +kernel
theorem w33_33 : Wp d 33 33 [l0, l1, l2, l3] [.int x] h Q = Q (.inl (some (.int x)), h) := W_iret f33_33 hr33
theorem hm34 : mhs 34 = [] := by decide +kernel
theorem f34_0 : fetch 34 0 = some (.aload_n 0, 1, [], .null) := by decide +kernel
theorem w34_0 : Wp d 34 0 [some (.ref a), l1] st h Q = Wp d 34 1 [some (.ref a), l1] (.ref a :: st) h Q := W_go f34_0 rfl
theorem f34_1 : fetch 34 1 = some (.getfield 38, 3, [3, 8, 1233, 0], .null) := by decide +kernel
theorem w34_1 : Wp d 34 1 [l0, l1] (.ref a :: st) h Q = gP (h.2 a) 3 8 (fun w => Wp d 34 4 [l0, l1] (w :: st) h Q) := W_get f34_1 rfl
theorem f34_4 : fetch 34 4 = some (.ifCond .ne 16, 3, [], .null) := by decide +kernel
theorem w34_4 : Wp d 34 4 [l0, l1] (.int x :: st) h Q = if icond .ne x 0 = true then Wp d 34 20 [l0, l1] st h Q else Wp d 34 7 [l0, l1] st h Q := W_if f34_4 rfl
theorem f34_7 : fetch 34 7 = some (.aload_n 0, 1, [], .null) := by decide +kernel
theorem w34_7 : Wp d 34 7 [some (.ref a), l1] st h Q = Wp d 34 8 [some (.ref a), l1] (.ref a :: st) h Q := W_go f34_7 rfl
theorem f34_8 : fetch 34 8 = some (.iload_n 1, 1, [], .null) := by decide +kernel
theorem w34_8 : Wp d 34 8 [l0, some (.int x)] st h Q = Wp d 34 9 [l0, some (.int x)] (.int x :: st) h Q := W_go f34_8 rfl
theorem f34_9 : fetch 34 9 = some (.putfield 38, 3, [3, 8, 1233, 0], .null) := by decide +kernel
theorem w34_9 : Wp d 34 9 [l0, l1] (v :: .ref a :: st) h Q = pP (h.2 a) 3 8 (ftOf 3 8) v a (fun c => Wp d 34 12 [l0, l1] st (hset h a c) Q) := W_put f34_9 (by rfl)
theorem f34_12 : fetch 34 12 = some (.aload_n 0, 1, [], .null) := by decide +kernel
theorem w34_12 : Wp d 34 12 [some (.ref a), l1] st h Q = Wp d 34 13 [some (.ref a), l1] (.ref a :: st) h Q := W_go f34_12 rfl
theorem f34_13 : fetch 34 13 = some (.aload_n 0, 1, [], .null) := by decide +kernel
theorem w34_13 : Wp d 34 13 [some (.ref a), l1] st h Q = Wp d 34 14 [some (.ref a), l1] (.ref a :: st) h Q := W_go f34_13 rfl
theorem f34_14 : fetch 34 14 = some (.getfield 61, 3, [3, 6, 1231, 0], .null) := by decide +kernel
theorem w34_14 : Wp d 34 14 [l0, l1] (.ref a :: st) h Q = gP (h.2 a) 3 6 (fun w => Wp d 34 17 [l0, l1] (w :: st) h Q) := W_get f34_14 rfl
theorem f34_17 : fetch 34 17 = some (.putfield 42, 3, [3, 9, 1234, 0], .null) := by decide +kernel
theorem w34_17 : Wp d 34 17 [l0, l1] (v :: .ref a :: st) h Q = pP (h.2 a) 3 9 (ftOf 3 9) v a (fun c => Wp d 34 20 [l0, l1] st (hset h a c) Q) := W_put f34_17 (by rfl)
theorem f34_20 : fetch 34 20 = some (.return_, 1, [], .null) := by decide +kernel
theorem w34_20 : Wp d 34 20 [l0, l1] [] h Q = Q (.inl none, h) := W_fin f34_20 rfl
theorem hm35 : mhs 35 = [] := by decide +kernel
theorem hr35 : mret 35 = (some .boolean) := by decide +kernel
theorem f35_0 : fetch 35 0 = some (.aload_n 0, 1, [], .null) := by decide +kernel
theorem w35_0 : Wp d 35 0 [some (.ref a), l1] st h Q = Wp d 35 1 [some (.ref a), l1] (.ref a :: st) h Q := W_go f35_0 rfl
theorem f35_1 : fetch 35 1 = some (.getfield 51, 3, [3, 5, 1230, 0], .null) := by decide +kernel
theorem w35_1 : Wp d 35 1 [l0, l1] (.ref a :: st) h Q = gP (h.2 a) 3 5 (fun w => Wp d 35 4 [l0, l1] (w :: st) h Q) := W_get f35_1 rfl
theorem f35_4 : fetch 35 4 = some (.iload_n 1, 1, [], .null) := by decide +kernel
theorem w35_4 : Wp d 35 4 [l0, some (.int x)] st h Q = Wp d 35 5 [l0, some (.int x)] (.int x :: st) h Q := W_go f35_4 rfl
theorem f35_5 : fetch 35 5 = some (.if_icmp .eq 5, 3, [], .null) := by decide +kernel
theorem w35_5 : Wp d 35 5 [l0, l1] (.int y :: .int x :: st) h Q = if icond .eq x y = true then Wp d 35 10 [l0, l1] st h Q else Wp d 35 8 [l0, l1] st h Q := W_if f35_5 rfl
theorem f35_8 : fetch 35 8 = some (.iconst 0, 1, [], .null) := by decide +kernel
theorem w35_8 : Wp d 35 8 [l0, l1] st h Q = Wp d 35 9 [l0, l1] (.int (0 : Int32) :: st) h Q := W_go f35_8 rfl
theorem f35_9 : fetch 35 9 = some (.ireturn, 1, [], .null) := by decide +kernel
theorem w35_9 : Wp d 35 9 [l0, l1] [.int x] h Q = (if narrow .boolean (.int x) = .int x then Q (.inl (some (.int x)), h) else False) := W_zret f35_9 hr35
theorem f35_10 : fetch 35 10 = some (.aload_n 0, 1, [], .null) := by decide +kernel
theorem w35_10 : Wp d 35 10 [some (.ref a), l1] st h Q = Wp d 35 11 [some (.ref a), l1] (.ref a :: st) h Q := W_go f35_10 rfl
theorem f35_11 : fetch 35 11 = some (.invokevirtual 48, 3, [36, 1, 4, 0, 3048, 1004, 3051, 3050, 5], .null) := by decide +kernel
theorem w35_11 (hp : psum st ≤ 8) : Wp d 35 11 [l0, l1] ((.ref b) :: st) h Q = rP (h.2 b) 3 (Cp d 36 [(.ref b)] h (fun o => cK o (fun w h2 => Wp d 35 14 [l0, l1] (w.toList ++ st) h2 Q) (fun E h2 => Q (.inr E, h2)))) := (W_invV (st := st) f35_11 rfl rfl (by simp only [List.length_cons]; omega) rfl rfl hp).trans (by simp only [hm35, if_true])
theorem f35_14 : fetch 35 14 = some (.iconst 1, 1, [], .null) := by decide +kernel
theorem w35_14 : Wp d 35 14 [l0, l1] st h Q = Wp d 35 15 [l0, l1] (.int (1 : Int32) :: st) h Q := W_go f35_14 rfl
theorem f35_15 : fetch 35 15 = some (.ireturn, 1, [], .null) := by decide +kernel
theorem w35_15 : Wp d 35 15 [l0, l1] [.int x] h Q = (if narrow .boolean (.int x) = .int x then Q (.inl (some (.int x)), h) else False) := W_zret f35_15 hr35
theorem hm36 : mhs 36 = [] := by decide +kernel
theorem f36_0 : fetch 36 0 = some (.aload_n 0, 1, [], .null) := by decide +kernel
theorem w36_0 : Wp d 36 0 [some (.ref a)] st h Q = Wp d 36 1 [some (.ref a)] (.ref a :: st) h Q := W_go f36_0 rfl
theorem f36_1 : fetch 36 1 = some (.dup, 1, [], .null) := by decide +kernel
theorem w36_1i : Wp d 36 1 [l0] (.int x :: st) h Q = Wp d 36 2 [l0] (.int x :: .int x :: st) h Q := W_go f36_1 rfl
theorem w36_1 : Wp d 36 1 [l0] (.ref a :: st) h Q = Wp d 36 2 [l0] (.ref a :: .ref a :: st) h Q := W_go f36_1 rfl
theorem f36_2 : fetch 36 2 = some (.getfield 45, 3, [3, 4, 1229, 0], .null) := by decide +kernel
theorem w36_2 : Wp d 36 2 [l0] (.ref a :: st) h Q = gP (h.2 a) 3 4 (fun w => Wp d 36 5 [l0] (w :: st) h Q) := W_get f36_2 rfl
theorem f36_5 : fetch 36 5 = some (.iconst 1, 1, [], .null) := by decide +kernel
theorem w36_5 : Wp d 36 5 [l0] st h Q = Wp d 36 6 [l0] (.int (1 : Int32) :: st) h Q := W_go f36_5 rfl
theorem f36_6 : fetch 36 6 = some (.iadd, 1, [], .null) := by decide +kernel
theorem w36_6 : Wp d 36 6 [l0] (.int y :: .int x :: st) h Q = Wp d 36 7 [l0] (.int (x + y) :: st) h Q := W_go f36_6 rfl
theorem f36_7 : fetch 36 7 = some (.putfield 45, 3, [3, 4, 1229, 0], .null) := by decide +kernel
theorem w36_7 : Wp d 36 7 [l0] (v :: .ref a :: st) h Q = pP (h.2 a) 3 4 (ftOf 3 4) v a (fun c => Wp d 36 10 [l0] st (hset h a c) Q) := W_put f36_7 (by rfl)
theorem f36_10 : fetch 36 10 = some (.aload_n 0, 1, [], .null) := by decide +kernel
theorem w36_10 : Wp d 36 10 [some (.ref a)] st h Q = Wp d 36 11 [some (.ref a)] (.ref a :: st) h Q := W_go f36_10 rfl
theorem f36_11 : fetch 36 11 = some (.getfield 45, 3, [3, 4, 1229, 0], .null) := by decide +kernel
theorem w36_11 : Wp d 36 11 [l0] (.ref a :: st) h Q = gP (h.2 a) 3 4 (fun w => Wp d 36 14 [l0] (w :: st) h Q) := W_get f36_11 rfl
theorem f36_14 : fetch 36 14 = some (.ifCond .lt 96, 3, [], .null) := by decide +kernel
theorem w36_14 : Wp d 36 14 [l0] (.int x :: st) h Q = if icond .lt x 0 = true then Wp d 36 110 [l0] st h Q else Wp d 36 17 [l0] st h Q := W_if f36_14 rfl
theorem f36_17 : fetch 36 17 = some (.aload_n 0, 1, [], .null) := by decide +kernel
theorem w36_17 : Wp d 36 17 [some (.ref a)] st h Q = Wp d 36 18 [some (.ref a)] (.ref a :: st) h Q := W_go f36_17 rfl
theorem f36_18 : fetch 36 18 = some (.getfield 45, 3, [3, 4, 1229, 0], .null) := by decide +kernel
theorem w36_18 : Wp d 36 18 [l0] (.ref a :: st) h Q = gP (h.2 a) 3 4 (fun w => Wp d 36 21 [l0] (w :: st) h Q) := W_get f36_18 rfl
theorem f36_21 : fetch 36 21 = some (.aload_n 0, 1, [], .null) := by decide +kernel
theorem w36_21 : Wp d 36 21 [some (.ref a)] st h Q = Wp d 36 22 [some (.ref a)] (.ref a :: st) h Q := W_go f36_21 rfl
theorem f36_22 : fetch 36 22 = some (.getfield 12, 3, [3, 0, 1225, 0], .null) := by decide +kernel
theorem w36_22 : Wp d 36 22 [l0] (.ref a :: st) h Q = gP (h.2 a) 3 0 (fun w => Wp d 36 25 [l0] (w :: st) h Q) := W_get f36_22 rfl
theorem f36_25 : fetch 36 25 = some (.getfield 176, 3, [5, 0, 1209, 0], .null) := by decide +kernel
theorem w36_25 : Wp d 36 25 [l0] (.ref a :: st) h Q = gP (h.2 a) 5 0 (fun w => Wp d 36 28 [l0] (w :: st) h Q) := W_get f36_25 rfl
theorem f36_28 : fetch 36 28 = some (.arraylength, 1, [], .null) := by decide +kernel
theorem w36_28 : Wp d 36 28 [l0] (.ref a :: st) h Q = nP (h.2 a) (fun w => Wp d 36 29 [l0] (.int w :: st) h Q) := W_len f36_28 rfl
theorem f36_29 : fetch 36 29 = some (.if_icmp .ge 81, 3, [], .null) := by decide +kernel
theorem w36_29 : Wp d 36 29 [l0] (.int y :: .int x :: st) h Q = if icond .ge x y = true then Wp d 36 110 [l0] st h Q else Wp d 36 32 [l0] st h Q := W_if f36_29 rfl
theorem f36_32 : fetch 36 32 = some (.aload_n 0, 1, [], .null) := by decide +kernel
theorem w36_32 : Wp d 36 32 [some (.ref a)] st h Q = Wp d 36 33 [some (.ref a)] (.ref a :: st) h Q := W_go f36_32 rfl
theorem f36_33 : fetch 36 33 = some (.getfield 45, 3, [3, 4, 1229, 0], .null) := by decide +kernel
theorem w36_33 : Wp d 36 33 [l0] (.ref a :: st) h Q = gP (h.2 a) 3 4 (fun w => Wp d 36 36 [l0] (w :: st) h Q) := W_get f36_33 rfl
theorem f36_36 : fetch 36 36 = some (.aload_n 0, 1, [], .null) := by decide +kernel
theorem w36_36 : Wp d 36 36 [some (.ref a)] st h Q = Wp d 36 37 [some (.ref a)] (.ref a :: st) h Q := W_go f36_36 rfl
theorem f36_37 : fetch 36 37 = some (.getfield 12, 3, [3, 0, 1225, 0], .null) := by decide +kernel
theorem w36_37 : Wp d 36 37 [l0] (.ref a :: st) h Q = gP (h.2 a) 3 0 (fun w => Wp d 36 40 [l0] (w :: st) h Q) := W_get f36_37 rfl
theorem f36_40 : fetch 36 40 = some (.getfield 179, 3, [5, 1, 1211, 0], .null) := by decide +kernel
theorem w36_40 : Wp d 36 40 [l0] (.ref a :: st) h Q = gP (h.2 a) 5 1 (fun w => Wp d 36 43 [l0] (w :: st) h Q) := W_get f36_40 rfl
theorem f36_43 : fetch 36 43 = some (.arraylength, 1, [], .null) := by decide +kernel
theorem w36_43 : Wp d 36 43 [l0] (.ref a :: st) h Q = nP (h.2 a) (fun w => Wp d 36 44 [l0] (.int w :: st) h Q) := W_len f36_43 rfl
theorem f36_44 : fetch 36 44 = some (.if_icmp .ge 66, 3, [], .null) := by decide +kernel
theorem w36_44 : Wp d 36 44 [l0] (.int y :: .int x :: st) h Q = if icond .ge x y = true then Wp d 36 110 [l0] st h Q else Wp d 36 47 [l0] st h Q := W_if f36_44 rfl
theorem f36_47 : fetch 36 47 = some (.aload_n 0, 1, [], .null) := by decide +kernel
theorem w36_47 : Wp d 36 47 [some (.ref a)] st h Q = Wp d 36 48 [some (.ref a)] (.ref a :: st) h Q := W_go f36_47 rfl
theorem f36_48 : fetch 36 48 = some (.getfield 45, 3, [3, 4, 1229, 0], .null) := by decide +kernel
theorem w36_48 : Wp d 36 48 [l0] (.ref a :: st) h Q = gP (h.2 a) 3 4 (fun w => Wp d 36 51 [l0] (w :: st) h Q) := W_get f36_48 rfl
theorem f36_51 : fetch 36 51 = some (.aload_n 0, 1, [], .null) := by decide +kernel
theorem w36_51 : Wp d 36 51 [some (.ref a)] st h Q = Wp d 36 52 [some (.ref a)] (.ref a :: st) h Q := W_go f36_51 rfl
theorem f36_52 : fetch 36 52 = some (.getfield 12, 3, [3, 0, 1225, 0], .null) := by decide +kernel
theorem w36_52 : Wp d 36 52 [l0] (.ref a :: st) h Q = gP (h.2 a) 3 0 (fun w => Wp d 36 55 [l0] (w :: st) h Q) := W_get f36_52 rfl
theorem f36_55 : fetch 36 55 = some (.getfield 182, 3, [5, 2, 1213, 0], .null) := by decide +kernel
theorem w36_55 : Wp d 36 55 [l0] (.ref a :: st) h Q = gP (h.2 a) 5 2 (fun w => Wp d 36 58 [l0] (w :: st) h Q) := W_get f36_55 rfl
theorem f36_58 : fetch 36 58 = some (.arraylength, 1, [], .null) := by decide +kernel
theorem w36_58 : Wp d 36 58 [l0] (.ref a :: st) h Q = nP (h.2 a) (fun w => Wp d 36 59 [l0] (.int w :: st) h Q) := W_len f36_58 rfl
theorem f36_59 : fetch 36 59 = some (.if_icmp .ge 51, 3, [], .null) := by decide +kernel
theorem w36_59 : Wp d 36 59 [l0] (.int y :: .int x :: st) h Q = if icond .ge x y = true then Wp d 36 110 [l0] st h Q else Wp d 36 62 [l0] st h Q := W_if f36_59 rfl
theorem f36_62 : fetch 36 62 = some (.aload_n 0, 1, [], .null) := by decide +kernel
theorem w36_62 : Wp d 36 62 [some (.ref a)] st h Q = Wp d 36 63 [some (.ref a)] (.ref a :: st) h Q := W_go f36_62 rfl
theorem f36_63 : fetch 36 63 = some (.aload_n 0, 1, [], .null) := by decide +kernel
theorem w36_63 : Wp d 36 63 [some (.ref a)] st h Q = Wp d 36 64 [some (.ref a)] (.ref a :: st) h Q := W_go f36_63 rfl
theorem f36_64 : fetch 36 64 = some (.getfield 12, 3, [3, 0, 1225, 0], .null) := by decide +kernel
theorem w36_64 : Wp d 36 64 [l0] (.ref a :: st) h Q = gP (h.2 a) 3 0 (fun w => Wp d 36 67 [l0] (w :: st) h Q) := W_get f36_64 rfl
theorem f36_67 : fetch 36 67 = some (.getfield 176, 3, [5, 0, 1209, 0], .null) := by decide +kernel
theorem w36_67 : Wp d 36 67 [l0] (.ref a :: st) h Q = gP (h.2 a) 5 0 (fun w => Wp d 36 70 [l0] (w :: st) h Q) := W_get f36_67 rfl
theorem f36_70 : fetch 36 70 = some (.aload_n 0, 1, [], .null) := by decide +kernel
theorem w36_70 : Wp d 36 70 [some (.ref a)] st h Q = Wp d 36 71 [some (.ref a)] (.ref a :: st) h Q := W_go f36_70 rfl
theorem f36_71 : fetch 36 71 = some (.getfield 45, 3, [3, 4, 1229, 0], .null) := by decide +kernel
theorem w36_71 : Wp d 36 71 [l0] (.ref a :: st) h Q = gP (h.2 a) 3 4 (fun w => Wp d 36 74 [l0] (w :: st) h Q) := W_get f36_71 rfl
theorem f36_74 : fetch 36 74 = some (.iaload, 1, [], .null) := by decide +kernel
theorem w36_74 : Wp d 36 74 [l0] (.int x :: .ref a :: st) h Q = aP false (h.2 a) x (fun w => Wp d 36 75 [l0] (.int w :: st) h Q) := W_ald f36_74 rfl
theorem f36_75 : fetch 36 75 = some (.putfield 51, 3, [3, 5, 1230, 0], .null) := by decide +kernel
theorem w36_75 : Wp d 36 75 [l0] (v :: .ref a :: st) h Q = pP (h.2 a) 3 5 (ftOf 3 5) v a (fun c => Wp d 36 78 [l0] st (hset h a c) Q) := W_put f36_75 (by rfl)
theorem f36_78 : fetch 36 78 = some (.aload_n 0, 1, [], .null) := by decide +kernel
theorem w36_78 : Wp d 36 78 [some (.ref a)] st h Q = Wp d 36 79 [some (.ref a)] (.ref a :: st) h Q := W_go f36_78 rfl
theorem f36_79 : fetch 36 79 = some (.aload_n 0, 1, [], .null) := by decide +kernel
theorem w36_79 : Wp d 36 79 [some (.ref a)] st h Q = Wp d 36 80 [some (.ref a)] (.ref a :: st) h Q := W_go f36_79 rfl
theorem f36_80 : fetch 36 80 = some (.getfield 12, 3, [3, 0, 1225, 0], .null) := by decide +kernel
theorem w36_80 : Wp d 36 80 [l0] (.ref a :: st) h Q = gP (h.2 a) 3 0 (fun w => Wp d 36 83 [l0] (w :: st) h Q) := W_get f36_80 rfl
theorem f36_83 : fetch 36 83 = some (.getfield 179, 3, [5, 1, 1211, 0], .null) := by decide +kernel
theorem w36_83 : Wp d 36 83 [l0] (.ref a :: st) h Q = gP (h.2 a) 5 1 (fun w => Wp d 36 86 [l0] (w :: st) h Q) := W_get f36_83 rfl
theorem f36_86 : fetch 36 86 = some (.aload_n 0, 1, [], .null) := by decide +kernel
theorem w36_86 : Wp d 36 86 [some (.ref a)] st h Q = Wp d 36 87 [some (.ref a)] (.ref a :: st) h Q := W_go f36_86 rfl
theorem f36_87 : fetch 36 87 = some (.getfield 45, 3, [3, 4, 1229, 0], .null) := by decide +kernel
theorem w36_87 : Wp d 36 87 [l0] (.ref a :: st) h Q = gP (h.2 a) 3 4 (fun w => Wp d 36 90 [l0] (w :: st) h Q) := W_get f36_87 rfl
theorem f36_90 : fetch 36 90 = some (.iaload, 1, [], .null) := by decide +kernel
theorem w36_90 : Wp d 36 90 [l0] (.int x :: .ref a :: st) h Q = aP false (h.2 a) x (fun w => Wp d 36 91 [l0] (.int w :: st) h Q) := W_ald f36_90 rfl
theorem f36_91 : fetch 36 91 = some (.putfield 61, 3, [3, 6, 1231, 0], .null) := by decide +kernel
theorem w36_91 : Wp d 36 91 [l0] (v :: .ref a :: st) h Q = pP (h.2 a) 3 6 (ftOf 3 6) v a (fun c => Wp d 36 94 [l0] st (hset h a c) Q) := W_put f36_91 (by rfl)
theorem f36_94 : fetch 36 94 = some (.aload_n 0, 1, [], .null) := by decide +kernel
theorem w36_94 : Wp d 36 94 [some (.ref a)] st h Q = Wp d 36 95 [some (.ref a)] (.ref a :: st) h Q := W_go f36_94 rfl
theorem f36_95 : fetch 36 95 = some (.aload_n 0, 1, [], .null) := by decide +kernel
theorem w36_95 : Wp d 36 95 [some (.ref a)] st h Q = Wp d 36 96 [some (.ref a)] (.ref a :: st) h Q := W_go f36_95 rfl
theorem f36_96 : fetch 36 96 = some (.getfield 12, 3, [3, 0, 1225, 0], .null) := by decide +kernel
theorem w36_96 : Wp d 36 96 [l0] (.ref a :: st) h Q = gP (h.2 a) 3 0 (fun w => Wp d 36 99 [l0] (w :: st) h Q) := W_get f36_96 rfl
theorem f36_99 : fetch 36 99 = some (.getfield 182, 3, [5, 2, 1213, 0], .null) := by decide +kernel
theorem w36_99 : Wp d 36 99 [l0] (.ref a :: st) h Q = gP (h.2 a) 5 2 (fun w => Wp d 36 102 [l0] (w :: st) h Q) := W_get f36_99 rfl
theorem f36_102 : fetch 36 102 = some (.aload_n 0, 1, [], .null) := by decide +kernel
theorem w36_102 : Wp d 36 102 [some (.ref a)] st h Q = Wp d 36 103 [some (.ref a)] (.ref a :: st) h Q := W_go f36_102 rfl
theorem f36_103 : fetch 36 103 = some (.getfield 45, 3, [3, 4, 1229, 0], .null) := by decide +kernel
theorem w36_103 : Wp d 36 103 [l0] (.ref a :: st) h Q = gP (h.2 a) 3 4 (fun w => Wp d 36 106 [l0] (w :: st) h Q) := W_get f36_103 rfl
theorem f36_106 : fetch 36 106 = some (.laload, 1, [], .null) := by decide +kernel
theorem w36_106 : Wp d 36 106 [l0] (.int x :: .ref a :: st) h Q = lP (h.2 a) x (fun w => Wp d 36 107 [l0] (.long w :: st) h Q) := W_lld f36_106 rfl
theorem f36_107 : fetch 36 107 = some (.putfield 71, 3, [3, 7, 1232, 0], .null) := by decide +kernel
theorem w36_107 : Wp d 36 107 [l0] (v :: .ref a :: st) h Q = pP (h.2 a) 3 7 (ftOf 3 7) v a (fun c => Wp d 36 110 [l0] st (hset h a c) Q) := W_put f36_107 (by rfl)
theorem f36_110 : fetch 36 110 = some (.return_, 1, [], .null) := by decide +kernel
theorem w36_110 : Wp d 36 110 [l0] [] h Q = Q (.inl none, h) := W_fin f36_110 rfl
theorem hm37 : mhs 37 = [] := by decide +kernel
theorem f37_0 : fetch 37 0 = some (.aload_n 0, 1, [], .null) := by decide +kernel
theorem w37_0 : Wp d 37 0 [some (.ref a)] st h Q = Wp d 37 1 [some (.ref a)] (.ref a :: st) h Q := W_go f37_0 rfl
theorem f37_1 : fetch 37 1 = some (.invokespecial 3, 3, [9999, 1038, 1031, 1032], .null) := by decide +kernel
theorem w37_1 (hp : psum st ≤ 8 ∧ a ≠ 201) : Wp d 37 1 [l0] (.ref a :: st) h Q = Wp d 37 4 [l0] st h Q := W_go f37_1 (by simp only [pstep, if_pos hp]; rfl)
theorem f37_4 : fetch 37 4 = some (.aload_n 0, 1, [], .null) := by decide +kernel
theorem w37_4 : Wp d 37 4 [some (.ref a)] st h Q = Wp d 37 5 [some (.ref a)] (.ref a :: st) h Q := W_go f37_4 rfl
theorem f37_5 : fetch 37 5 = some (.sipush 1600, 3, [], .null) := by decide +kernel
theorem w37_5 : Wp d 37 5 [l0] st h Q = Wp d 37 8 [l0] (.int (1600 : Int32) :: st) h Q := W_go f37_5 rfl
theorem f37_8 : fetch 37 8 = some (.newarray .byte, 2, [2, 1047], .null) := by decide +kernel
theorem w37_8 (hx : ¬ x < 0 ∧ x.toNatClampNeg ≤ 60000) : Wp d 37 8 [l0] (.int x :: st) h Q = Wp d 37 10 [l0] (.ref h.1.1 :: st) (hnew h x.toNatClampNeg (.inl (2, arr0 2 x.toNatClampNeg))) Q := W_go f37_8 (by simp only [pstep, pnewa, if_pos hx]; rfl)
theorem f37_10 : fetch 37 10 = some (.putfield 9, 3, [4, 0, 1039, 0], .null) := by decide +kernel
theorem w37_10 : Wp d 37 10 [l0] (v :: .ref a :: st) h Q = pP (h.2 a) 4 0 (ftOf 4 0) v a (fun c => Wp d 37 13 [l0] st (hset h a c) Q) := W_put f37_10 (by rfl)
theorem f37_13 : fetch 37 13 = some (.return_, 1, [], .null) := by decide +kernel
theorem w37_13 : Wp d 37 13 [l0] [] h Q = Q (.inl none, h) := W_fin f37_13 rfl
theorem hm38 : mhs 38 = [] := by decide +kernel
theorem f38_0 : fetch 38 0 = some (.bipush 24, 2, [], .null) := by decide +kernel
theorem w38_0 : Wp d 38 0 [l0, l1, l2] st h Q = Wp d 38 2 [l0, l1, l2] (.int (24 : Int32) :: st) h Q := W_go f38_0 rfl
theorem f38_2 : fetch 38 2 = some (.istore_n 2, 1, [], .null) := by decide +kernel
theorem w38_2 : Wp d 38 2 [l0, l1, l2] (.int x :: st) h Q = Wp d 38 3 [l0, kl l1, some (.int x)] st h Q := (W_st1 (pc' := 3) (k := 2) f38_2 rfl rfl (by simp only [List.length_cons, List.length_nil]; omega)).trans (by rw [pst1_succ]; rfl)
theorem f38_3 : fetch 38 3 = some (.iload_n 2, 1, [], .null) := by decide +kernel
theorem w38_3 : Wp d 38 3 [l0, l1, some (.int x)] st h Q = Wp d 38 4 [l0, l1, some (.int x)] (.int x :: st) h Q := W_go f38_3 rfl
theorem f38_4 : fetch 38 4 = some (.ifCond .lt 51, 3, [], .null) := by decide +kernel
theorem w38_4 : Wp d 38 4 [l0, l1, l2] (.int x :: st) h Q = if icond .lt x 0 = true then Wp d 38 55 [l0, l1, l2] st h Q else Wp d 38 7 [l0, l1, l2] st h Q := W_if f38_4 rfl
theorem f38_7 : fetch 38 7 = some (.aload_n 0, 1, [], .null) := by decide +kernel
theorem w38_7 : Wp d 38 7 [some (.ref a), l1, l2] st h Q = Wp d 38 8 [some (.ref a), l1, l2] (.ref a :: st) h Q := W_go f38_7 rfl
theorem f38_8 : fetch 38 8 = some (.getfield 15, 3, [4, 1, 1041, 0], .null) := by decide +kernel
theorem w38_8 : Wp d 38 8 [l0, l1, l2] (.ref a :: st) h Q = gP (h.2 a) 4 1 (fun w => Wp d 38 11 [l0, l1, l2] (w :: st) h Q) := W_get f38_8 rfl
theorem f38_11 : fetch 38 11 = some (.ifCond .lt 38, 3, [], .null) := by decide +kernel
theorem w38_11 : Wp d 38 11 [l0, l1, l2] (.int x :: st) h Q = if icond .lt x 0 = true then Wp d 38 49 [l0, l1, l2] st h Q else Wp d 38 14 [l0, l1, l2] st h Q := W_if f38_11 rfl
theorem f38_14 : fetch 38 14 = some (.aload_n 0, 1, [], .null) := by decide +kernel
theorem w38_14 : Wp d 38 14 [some (.ref a), l1, l2] st h Q = Wp d 38 15 [some (.ref a), l1, l2] (.ref a :: st) h Q := W_go f38_14 rfl
theorem f38_15 : fetch 38 15 = some (.getfield 15, 3, [4, 1, 1041, 0], .null) := by decide +kernel
theorem w38_15 : Wp d 38 15 [l0, l1, l2] (.ref a :: st) h Q = gP (h.2 a) 4 1 (fun w => Wp d 38 18 [l0, l1, l2] (w :: st) h Q) := W_get f38_15 rfl
theorem f38_18 : fetch 38 18 = some (.aload_n 0, 1, [], .null) := by decide +kernel
theorem w38_18 : Wp d 38 18 [some (.ref a), l1, l2] st h Q = Wp d 38 19 [some (.ref a), l1, l2] (.ref a :: st) h Q := W_go f38_18 rfl
theorem f38_19 : fetch 38 19 = some (.getfield 9, 3, [4, 0, 1039, 0], .null) := by decide +kernel
theorem w38_19 : Wp d 38 19 [l0, l1, l2] (.ref a :: st) h Q = gP (h.2 a) 4 0 (fun w => Wp d 38 22 [l0, l1, l2] (w :: st) h Q) := W_get f38_19 rfl
theorem f38_22 : fetch 38 22 = some (.arraylength, 1, [], .null) := by decide +kernel
theorem w38_22 : Wp d 38 22 [l0, l1, l2] (.ref a :: st) h Q = nP (h.2 a) (fun w => Wp d 38 23 [l0, l1, l2] (.int w :: st) h Q) := W_len f38_22 rfl
theorem f38_23 : fetch 38 23 = some (.if_icmp .ge 26, 3, [], .null) := by decide +kernel
theorem w38_23 : Wp d 38 23 [l0, l1, l2] (.int y :: .int x :: st) h Q = if icond .ge x y = true then Wp d 38 49 [l0, l1, l2] st h Q else Wp d 38 26 [l0, l1, l2] st h Q := W_if f38_23 rfl
theorem f38_26 : fetch 38 26 = some (.aload_n 0, 1, [], .null) := by decide +kernel
theorem w38_26 : Wp d 38 26 [some (.ref a), l1, l2] st h Q = Wp d 38 27 [some (.ref a), l1, l2] (.ref a :: st) h Q := W_go f38_26 rfl
theorem f38_27 : fetch 38 27 = some (.getfield 9, 3, [4, 0, 1039, 0], .null) := by decide +kernel
theorem w38_27 : Wp d 38 27 [l0, l1, l2] (.ref a :: st) h Q = gP (h.2 a) 4 0 (fun w => Wp d 38 30 [l0, l1, l2] (w :: st) h Q) := W_get f38_27 rfl
theorem f38_30 : fetch 38 30 = some (.aload_n 0, 1, [], .null) := by decide +kernel
theorem w38_30 : Wp d 38 30 [some (.ref a), l1, l2] st h Q = Wp d 38 31 [some (.ref a), l1, l2] (.ref a :: st) h Q := W_go f38_30 rfl
theorem f38_31 : fetch 38 31 = some (.getfield 15, 3, [4, 1, 1041, 0], .null) := by decide +kernel
theorem w38_31 : Wp d 38 31 [l0, l1, l2] (.ref a :: st) h Q = gP (h.2 a) 4 1 (fun w => Wp d 38 34 [l0, l1, l2] (w :: st) h Q) := W_get f38_31 rfl
theorem f38_34 : fetch 38 34 = some (.iload_n 1, 1, [], .null) := by decide +kernel
theorem w38_34 : Wp d 38 34 [l0, some (.int x), l2] st h Q = Wp d 38 35 [l0, some (.int x), l2] (.int x :: st) h Q := W_go f38_34 rfl
theorem f38_35 : fetch 38 35 = some (.iload_n 2, 1, [], .null) := by decide +kernel
theorem w38_35 : Wp d 38 35 [l0, l1, some (.int x)] st h Q = Wp d 38 36 [l0, l1, some (.int x)] (.int x :: st) h Q := W_go f38_35 rfl
theorem f38_36 : fetch 38 36 = some (.ishr, 1, [], .null) := by decide +kernel
theorem w38_36 : Wp d 38 36 [l0, l1, l2] (.int y :: .int x :: st) h Q = Wp d 38 37 [l0, l1, l2] (.int (x >>> (y &&& 31)) :: st) h Q := W_go f38_36 rfl
theorem f38_37 : fetch 38 37 = some (.i2b, 1, [], .null) := by decide +kernel
theorem w38_37 : Wp d 38 37 [l0, l1, l2] (.int x :: st) h Q = Wp d 38 38 [l0, l1, l2] (.int x.toInt8.toInt32 :: st) h Q := W_go f38_37 rfl
theorem f38_38 : fetch 38 38 = some (.bastore, 1, [], .null) := by decide +kernel
theorem w38_38 : Wp d 38 38 [l0, l1, l2] (.int y :: .int x :: .ref a :: st) h Q = asP true (h.2 a) a x y (fun c => Wp d 38 39 [l0, l1, l2] st (hset h a c) Q) := W_ast f38_38 rfl
theorem f38_39 : fetch 38 39 = some (.aload_n 0, 1, [], .null) := by decide +kernel
theorem w38_39 : Wp d 38 39 [some (.ref a), l1, l2] st h Q = Wp d 38 40 [some (.ref a), l1, l2] (.ref a :: st) h Q := W_go f38_39 rfl
theorem f38_40 : fetch 38 40 = some (.dup, 1, [], .null) := by decide +kernel
theorem w38_40i : Wp d 38 40 [l0, l1, l2] (.int x :: st) h Q = Wp d 38 41 [l0, l1, l2] (.int x :: .int x :: st) h Q := W_go f38_40 rfl
theorem w38_40 : Wp d 38 40 [l0, l1, l2] (.ref a :: st) h Q = Wp d 38 41 [l0, l1, l2] (.ref a :: .ref a :: st) h Q := W_go f38_40 rfl
theorem f38_41 : fetch 38 41 = some (.getfield 15, 3, [4, 1, 1041, 0], .null) := by decide +kernel
theorem w38_41 : Wp d 38 41 [l0, l1, l2] (.ref a :: st) h Q = gP (h.2 a) 4 1 (fun w => Wp d 38 44 [l0, l1, l2] (w :: st) h Q) := W_get f38_41 rfl
theorem f38_44 : fetch 38 44 = some (.iconst 1, 1, [], .null) := by decide +kernel
theorem w38_44 : Wp d 38 44 [l0, l1, l2] st h Q = Wp d 38 45 [l0, l1, l2] (.int (1 : Int32) :: st) h Q := W_go f38_44 rfl
theorem f38_45 : fetch 38 45 = some (.iadd, 1, [], .null) := by decide +kernel
theorem w38_45 : Wp d 38 45 [l0, l1, l2] (.int y :: .int x :: st) h Q = Wp d 38 46 [l0, l1, l2] (.int (x + y) :: st) h Q := W_go f38_45 rfl
theorem f38_46 : fetch 38 46 = some (.putfield 15, 3, [4, 1, 1041, 0], .null) := by decide +kernel
theorem w38_46 : Wp d 38 46 [l0, l1, l2] (v :: .ref a :: st) h Q = pP (h.2 a) 4 1 (ftOf 4 1) v a (fun c => Wp d 38 49 [l0, l1, l2] st (hset h a c) Q) := W_put f38_46 (by rfl)
theorem f38_49 : fetch 38 49 = some (.iinc 2 (-8), 3, [], .null) := by decide +kernel
theorem w38_49 : Wp d 38 49 [l0, l1, some (.int x)] st h Q = Wp d 38 52 [l0, kl l1, some (.int (x + (-8 : Int32)))] st h Q := (W_iinc (y := (-8 : Int32)) f38_49 rfl (by simp only [List.length_cons, List.length_nil]; omega) (by decide)).trans (by rw [pst1_succ]; rfl)
theorem f38_52 : fetch 38 52 = some (.goto (-49), 3, [], .null) := by decide +kernel
theorem w38_52 : Wp d 38 52 [l0, l1, l2] st h Q = Wp d 38 3 [l0, l1, l2] st h Q := W_go f38_52 rfl
theorem f38_55 : fetch 38 55 = some (.return_, 1, [], .null) := by decide +kernel
theorem w38_55 : Wp d 38 55 [l0, l1, l2] [] h Q = Q (.inl none, h) := W_fin f38_55 rfl
theorem hm39 : mhs 39 = [] := by decide +kernel
theorem hr39 : mret 39 = (some .int) := by decide +kernel
theorem f39_0 : fetch 39 0 = some (.iload_n 1, 1, [], .null) := by decide +kernel
theorem w39_0 : Wp d 39 0 [l0, some (.int x)] st h Q = Wp d 39 1 [l0, some (.int x)] (.int x :: st) h Q := W_go f39_0 rfl
theorem f39_1 : fetch 39 1 = some (.ifCond .lt 33, 3, [], .null) := by decide +kernel
theorem w39_1 : Wp d 39 1 [l0, l1] (.int x :: st) h Q = if icond .lt x 0 = true then Wp d 39 34 [l0, l1] st h Q else Wp d 39 4 [l0, l1] st h Q := W_if f39_1 rfl
theorem f39_4 : fetch 39 4 = some (.iload_n 1, 1, [], .null) := by decide +kernel
theorem w39_4 : Wp d 39 4 [l0, some (.int x)] st h Q = Wp d 39 5 [l0, some (.int x)] (.int x :: st) h Q := W_go f39_4 rfl
theorem f39_5 : fetch 39 5 = some (.aload_n 0, 1, [], .null) := by decide +kernel
theorem w39_5 : Wp d 39 5 [some (.ref a), l1] st h Q = Wp d 39 6 [some (.ref a), l1] (.ref a :: st) h Q := W_go f39_5 rfl
theorem f39_6 : fetch 39 6 = some (.getfield 15, 3, [4, 1, 1041, 0], .null) := by decide +kernel
theorem w39_6 : Wp d 39 6 [l0, l1] (.ref a :: st) h Q = gP (h.2 a) 4 1 (fun w => Wp d 39 9 [l0, l1] (w :: st) h Q) := W_get f39_6 rfl
theorem f39_9 : fetch 39 9 = some (.if_icmp .ge 25, 3, [], .null) := by decide +kernel
theorem w39_9 : Wp d 39 9 [l0, l1] (.int y :: .int x :: st) h Q = if icond .ge x y = true then Wp d 39 34 [l0, l1] st h Q else Wp d 39 12 [l0, l1] st h Q := W_if f39_9 rfl
theorem f39_12 : fetch 39 12 = some (.iload_n 1, 1, [], .null) := by decide +kernel
theorem w39_12 : Wp d 39 12 [l0, some (.int x)] st h Q = Wp d 39 13 [l0, some (.int x)] (.int x :: st) h Q := W_go f39_12 rfl
theorem f39_13 : fetch 39 13 = some (.aload_n 0, 1, [], .null) := by decide +kernel
theorem w39_13 : Wp d 39 13 [some (.ref a), l1] st h Q = Wp d 39 14 [some (.ref a), l1] (.ref a :: st) h Q := W_go f39_13 rfl
theorem f39_14 : fetch 39 14 = some (.getfield 9, 3, [4, 0, 1039, 0], .null) := by decide +kernel
theorem w39_14 : Wp d 39 14 [l0, l1] (.ref a :: st) h Q = gP (h.2 a) 4 0 (fun w => Wp d 39 17 [l0, l1] (w :: st) h Q) := W_get f39_14 rfl
theorem f39_17 : fetch 39 17 = some (.arraylength, 1, [], .null) := by decide +kernel
theorem w39_17 : Wp d 39 17 [l0, l1] (.ref a :: st) h Q = nP (h.2 a) (fun w => Wp d 39 18 [l0, l1] (.int w :: st) h Q) := W_len f39_17 rfl
theorem f39_18 : fetch 39 18 = some (.if_icmp .ge 16, 3, [], .null) := by decide +kernel
theorem w39_18 : Wp d 39 18 [l0, l1] (.int y :: .int x :: st) h Q = if icond .ge x y = true then Wp d 39 34 [l0, l1] st h Q else Wp d 39 21 [l0, l1] st h Q := W_if f39_18 rfl
theorem f39_21 : fetch 39 21 = some (.aload_n 0, 1, [], .null) := by decide +kernel
theorem w39_21 : Wp d 39 21 [some (.ref a), l1] st h Q = Wp d 39 22 [some (.ref a), l1] (.ref a :: st) h Q := W_go f39_21 rfl
theorem f39_22 : fetch 39 22 = some (.getfield 9, 3, [4, 0, 1039, 0], .null) := by decide +kernel
theorem w39_22 : Wp d 39 22 [l0, l1] (.ref a :: st) h Q = gP (h.2 a) 4 0 (fun w => Wp d 39 25 [l0, l1] (w :: st) h Q) := W_get f39_22 rfl
theorem f39_25 : fetch 39 25 = some (.iload_n 1, 1, [], .null) := by decide +kernel
theorem w39_25 : Wp d 39 25 [l0, some (.int x)] st h Q = Wp d 39 26 [l0, some (.int x)] (.int x :: st) h Q := W_go f39_25 rfl
theorem f39_26 : fetch 39 26 = some (.baload, 1, [], .null) := by decide +kernel
theorem w39_26 : Wp d 39 26 [l0, l1] (.int x :: .ref a :: st) h Q = aP true (h.2 a) x (fun w => Wp d 39 27 [l0, l1] (.int w :: st) h Q) := W_ald f39_26 rfl
theorem f39_27 : fetch 39 27 = some (.sipush 255, 3, [], .null) := by decide +kernel
theorem w39_27 : Wp d 39 27 [l0, l1] st h Q = Wp d 39 30 [l0, l1] (.int (255 : Int32) :: st) h Q := W_go f39_27 rfl
theorem f39_30 : fetch 39 30 = some (.iand, 1, [], .null) := by decide +kernel
theorem w39_30 : Wp d 39 30 [l0, l1] (.int y :: .int x :: st) h Q = Wp d 39 31 [l0, l1] (.int (x &&& y) :: st) h Q := W_go f39_30 rfl
theorem f39_31 : fetch 39 31 = some (.goto 4, 3, [], .null) := by decide +kernel
theorem w39_31 : Wp d 39 31 [l0, l1] st h Q = Wp d 39 35 [l0, l1] st h Q := W_go f39_31 rfl
theorem f39_34 : fetch 39 34 = some (.iconst (-1), 1, [], .null) := by decide +kernel
theorem w39_34 : Wp d 39 34 [l0, l1] st h Q = Wp d 39 35 [l0, l1] (.int (-1 : Int32) :: st) h Q := W_go f39_34 rfl
theorem f39_35 : fetch 39 35 = some (.ireturn, 1, [], .null) := by decide +kernel
theorem w39_35 : Wp d 39 35 [l0, l1] [.int x] h Q = Q (.inl (some (.int x)), h) := W_iret f39_35 hr39
end ROWS0
