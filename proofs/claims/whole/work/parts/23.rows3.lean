section ROWS120
variable {d : Nat} {h : PH} {Q : PO → Prop} {st : List Value} {x y n sp dp : Int32} {x8 y8 : Int64} {xd yd : UInt64} {a b : Nat} {v v0 v1 v2 v3 v4 v5 v6 v7 v8 v9 : Value} {l0 l1 l2 l3 l4 l5 l6 l7 l8 l9 l10 l11 l12 l13 l14 l15 l16 l17 l18 l19 l20 l21 l22 l23 : Option Value}
theorem hm120 : mhs 120 = [] := by decide +kernel
theorem f120_0 : fetch 120 0 = some (.aload_n 0, 1, [], .null) := by decide +kernel
theorem w120_0 : Wp d 120 0 [some (.ref a), l1] st h Q = Wp d 120 1 [some (.ref a), l1] (.ref a :: st) h Q := W_go f120_0 rfl
theorem f120_1 : fetch 120 1 = some (.aload_n 1, 1, [], .null) := by decide +kernel
theorem w120_1 : Wp d 120 1 [l0, some (.ref a)] st h Q = Wp d 120 2 [l0, some (.ref a)] (.ref a :: st) h Q := W_go f120_1 rfl
theorem f120_2 : fetch 120 2 = some (.putfield 3, 3, [9, 20, 6074, 0], .null) := by decide +kernel
theorem w120_2 : Wp d 120 2 [l0, l1] (v :: .ref a :: st) h Q = pP (h.2 a) 9 20 (ftOf 9 20) v a (fun c => Wp d 120 5 [l0, l1] st (hset h a c) Q) := W_put f120_2 (by rfl)
theorem f120_5 : fetch 120 5 = some (.aload_n 0, 1, [], .null) := by decide +kernel
theorem w120_5 : Wp d 120 5 [some (.ref a), l1] st h Q = Wp d 120 6 [some (.ref a), l1] (.ref a :: st) h Q := W_go f120_5 rfl
theorem f120_6 : fetch 120 6 = some (.invokespecial 9, 3, [9999, 6037, 1031, 1032], .null) := by decide +kernel
theorem w120_6 (hp : psum st ≤ 8 ∧ a ≠ 201) : Wp d 120 6 [l0, l1] (.ref a :: st) h Q = Wp d 120 9 [l0, l1] st h Q := W_go f120_6 (by simp only [pstep, if_pos hp]; rfl)
theorem f120_9 : fetch 120 9 = some (.aload_n 0, 1, [], .null) := by decide +kernel
theorem w120_9 : Wp d 120 9 [some (.ref a), l1] st h Q = Wp d 120 10 [some (.ref a), l1] (.ref a :: st) h Q := W_go f120_9 rfl
theorem f120_10 : fetch 120 10 = some (.bipush 10, 2, [], .null) := by decide +kernel
theorem w120_10 : Wp d 120 10 [l0, l1] st h Q = Wp d 120 12 [l0, l1] (.int (10 : Int32) :: st) h Q := W_go f120_10 rfl
theorem f120_12 : fetch 120 12 = some (.newarray .int, 2, [0, 1141], .null) := by decide +kernel
theorem w120_12 (hx : ¬ x < 0 ∧ x.toNatClampNeg ≤ 60000) : Wp d 120 12 [l0, l1] (.int x :: st) h Q = Wp d 120 14 [l0, l1] (.ref h.1.1 :: st) (hnew h x.toNatClampNeg (.inl (0, arr0 0 x.toNatClampNeg))) Q := W_go f120_12 (by simp only [pstep, pnewa, if_pos hx]; rfl)
theorem f120_14 : fetch 120 14 = some (.putfield 15, 3, [9, 4, 6046, 0], .null) := by decide +kernel
theorem w120_14 : Wp d 120 14 [l0, l1] (v :: .ref a :: st) h Q = pP (h.2 a) 9 4 (ftOf 9 4) v a (fun c => Wp d 120 17 [l0, l1] st (hset h a c) Q) := W_put f120_14 (by rfl)
theorem f120_17 : fetch 120 17 = some (.aload_n 0, 1, [], .null) := by decide +kernel
theorem w120_17 : Wp d 120 17 [some (.ref a), l1] st h Q = Wp d 120 18 [some (.ref a), l1] (.ref a :: st) h Q := W_go f120_17 rfl
theorem f120_18 : fetch 120 18 = some (.bipush 10, 2, [], .null) := by decide +kernel
theorem w120_18 : Wp d 120 18 [l0, l1] st h Q = Wp d 120 20 [l0, l1] (.int (10 : Int32) :: st) h Q := W_go f120_18 rfl
theorem f120_20 : fetch 120 20 = some (.newarray .int, 2, [0, 1141], .null) := by decide +kernel
theorem w120_20 (hx : ¬ x < 0 ∧ x.toNatClampNeg ≤ 60000) : Wp d 120 20 [l0, l1] (.int x :: st) h Q = Wp d 120 22 [l0, l1] (.ref h.1.1 :: st) (hnew h x.toNatClampNeg (.inl (0, arr0 0 x.toNatClampNeg))) Q := W_go f120_20 (by simp only [pstep, pnewa, if_pos hx]; rfl)
theorem f120_22 : fetch 120 22 = some (.putfield 19, 3, [9, 5, 6048, 0], .null) := by decide +kernel
theorem w120_22 : Wp d 120 22 [l0, l1] (v :: .ref a :: st) h Q = pP (h.2 a) 9 5 (ftOf 9 5) v a (fun c => Wp d 120 25 [l0, l1] st (hset h a c) Q) := W_put f120_22 (by rfl)
theorem f120_25 : fetch 120 25 = some (.aload_n 0, 1, [], .null) := by decide +kernel
theorem w120_25 : Wp d 120 25 [some (.ref a), l1] st h Q = Wp d 120 26 [some (.ref a), l1] (.ref a :: st) h Q := W_go f120_25 rfl
theorem f120_26 : fetch 120 26 = some (.bipush 10, 2, [], .null) := by decide +kernel
theorem w120_26 : Wp d 120 26 [l0, l1] st h Q = Wp d 120 28 [l0, l1] (.int (10 : Int32) :: st) h Q := W_go f120_26 rfl
theorem f120_28 : fetch 120 28 = some (.newarray .int, 2, [0, 1141], .null) := by decide +kernel
theorem w120_28 (hx : ¬ x < 0 ∧ x.toNatClampNeg ≤ 60000) : Wp d 120 28 [l0, l1] (.int x :: st) h Q = Wp d 120 30 [l0, l1] (.ref h.1.1 :: st) (hnew h x.toNatClampNeg (.inl (0, arr0 0 x.toNatClampNeg))) Q := W_go f120_28 (by simp only [pstep, pnewa, if_pos hx]; rfl)
theorem f120_30 : fetch 120 30 = some (.putfield 22, 3, [9, 6, 6050, 0], .null) := by decide +kernel
theorem w120_30 : Wp d 120 30 [l0, l1] (v :: .ref a :: st) h Q = pP (h.2 a) 9 6 (ftOf 9 6) v a (fun c => Wp d 120 33 [l0, l1] st (hset h a c) Q) := W_put f120_30 (by rfl)
theorem f120_33 : fetch 120 33 = some (.aload_n 0, 1, [], .null) := by decide +kernel
theorem w120_33 : Wp d 120 33 [some (.ref a), l1] st h Q = Wp d 120 34 [some (.ref a), l1] (.ref a :: st) h Q := W_go f120_33 rfl
theorem f120_34 : fetch 120 34 = some (.bipush 10, 2, [], .null) := by decide +kernel
theorem w120_34 : Wp d 120 34 [l0, l1] st h Q = Wp d 120 36 [l0, l1] (.int (10 : Int32) :: st) h Q := W_go f120_34 rfl
theorem f120_36 : fetch 120 36 = some (.newarray .int, 2, [0, 1141], .null) := by decide +kernel
theorem w120_36 (hx : ¬ x < 0 ∧ x.toNatClampNeg ≤ 60000) : Wp d 120 36 [l0, l1] (.int x :: st) h Q = Wp d 120 38 [l0, l1] (.ref h.1.1 :: st) (hnew h x.toNatClampNeg (.inl (0, arr0 0 x.toNatClampNeg))) Q := W_go f120_36 (by simp only [pstep, pnewa, if_pos hx]; rfl)
theorem f120_38 : fetch 120 38 = some (.putfield 25, 3, [9, 7, 6051, 0], .null) := by decide +kernel
theorem w120_38 : Wp d 120 38 [l0, l1] (v :: .ref a :: st) h Q = pP (h.2 a) 9 7 (ftOf 9 7) v a (fun c => Wp d 120 41 [l0, l1] st (hset h a c) Q) := W_put f120_38 (by rfl)
theorem f120_41 : fetch 120 41 = some (.aload_n 0, 1, [], .null) := by decide +kernel
theorem w120_41 : Wp d 120 41 [some (.ref a), l1] st h Q = Wp d 120 42 [some (.ref a), l1] (.ref a :: st) h Q := W_go f120_41 rfl
theorem f120_42 : fetch 120 42 = some (.bipush 10, 2, [], .null) := by decide +kernel
theorem w120_42 : Wp d 120 42 [l0, l1] st h Q = Wp d 120 44 [l0, l1] (.int (10 : Int32) :: st) h Q := W_go f120_42 rfl
theorem f120_44 : fetch 120 44 = some (.newarray .boolean, 2, [3, 6118], .null) := by decide +kernel
theorem w120_44 (hx : ¬ x < 0 ∧ x.toNatClampNeg ≤ 60000) : Wp d 120 44 [l0, l1] (.int x :: st) h Q = Wp d 120 46 [l0, l1] (.ref h.1.1 :: st) (hnew h x.toNatClampNeg (.inl (3, arr0 3 x.toNatClampNeg))) Q := W_go f120_44 (by simp only [pstep, pnewa, if_pos hx]; rfl)
theorem f120_46 : fetch 120 46 = some (.putfield 28, 3, [9, 8, 6053, 0], .null) := by decide +kernel
theorem w120_46 : Wp d 120 46 [l0, l1] (v :: .ref a :: st) h Q = pP (h.2 a) 9 8 (ftOf 9 8) v a (fun c => Wp d 120 49 [l0, l1] st (hset h a c) Q) := W_put f120_46 (by rfl)
theorem f120_49 : fetch 120 49 = some (.aload_n 0, 1, [], .null) := by decide +kernel
theorem w120_49 : Wp d 120 49 [some (.ref a), l1] st h Q = Wp d 120 50 [some (.ref a), l1] (.ref a :: st) h Q := W_go f120_49 rfl
theorem f120_50 : fetch 120 50 = some (.iconst 3, 1, [], .null) := by decide +kernel
theorem w120_50 : Wp d 120 50 [l0, l1] st h Q = Wp d 120 51 [l0, l1] (.int (3 : Int32) :: st) h Q := W_go f120_50 rfl
theorem f120_51 : fetch 120 51 = some (.newarray .int, 2, [0, 1141], .null) := by decide +kernel
theorem w120_51 (hx : ¬ x < 0 ∧ x.toNatClampNeg ≤ 60000) : Wp d 120 51 [l0, l1] (.int x :: st) h Q = Wp d 120 53 [l0, l1] (.ref h.1.1 :: st) (hnew h x.toNatClampNeg (.inl (0, arr0 0 x.toNatClampNeg))) Q := W_go f120_51 (by simp only [pstep, pnewa, if_pos hx]; rfl)
theorem f120_53 : fetch 120 53 = some (.putfield 32, 3, [9, 9, 6055, 0], .null) := by decide +kernel
theorem w120_53 : Wp d 120 53 [l0, l1] (v :: .ref a :: st) h Q = pP (h.2 a) 9 9 (ftOf 9 9) v a (fun c => Wp d 120 56 [l0, l1] st (hset h a c) Q) := W_put f120_53 (by rfl)
theorem f120_56 : fetch 120 56 = some (.aload_n 0, 1, [], .null) := by decide +kernel
theorem w120_56 : Wp d 120 56 [some (.ref a), l1] st h Q = Wp d 120 57 [some (.ref a), l1] (.ref a :: st) h Q := W_go f120_56 rfl
theorem f120_57 : fetch 120 57 = some (.iconst 3, 1, [], .null) := by decide +kernel
theorem w120_57 : Wp d 120 57 [l0, l1] st h Q = Wp d 120 58 [l0, l1] (.int (3 : Int32) :: st) h Q := W_go f120_57 rfl
theorem f120_58 : fetch 120 58 = some (.newarray .int, 2, [0, 1141], .null) := by decide +kernel
theorem w120_58 (hx : ¬ x < 0 ∧ x.toNatClampNeg ≤ 60000) : Wp d 120 58 [l0, l1] (.int x :: st) h Q = Wp d 120 60 [l0, l1] (.ref h.1.1 :: st) (hnew h x.toNatClampNeg (.inl (0, arr0 0 x.toNatClampNeg))) Q := W_go f120_58 (by simp only [pstep, pnewa, if_pos hx]; rfl)
theorem f120_60 : fetch 120 60 = some (.putfield 35, 3, [9, 10, 6057, 0], .null) := by decide +kernel
theorem w120_60 : Wp d 120 60 [l0, l1] (v :: .ref a :: st) h Q = pP (h.2 a) 9 10 (ftOf 9 10) v a (fun c => Wp d 120 63 [l0, l1] st (hset h a c) Q) := W_put f120_60 (by rfl)
theorem f120_63 : fetch 120 63 = some (.aload_n 0, 1, [], .null) := by decide +kernel
theorem w120_63 : Wp d 120 63 [some (.ref a), l1] st h Q = Wp d 120 64 [some (.ref a), l1] (.ref a :: st) h Q := W_go f120_63 rfl
theorem f120_64 : fetch 120 64 = some (.iconst 3, 1, [], .null) := by decide +kernel
theorem w120_64 : Wp d 120 64 [l0, l1] st h Q = Wp d 120 65 [l0, l1] (.int (3 : Int32) :: st) h Q := W_go f120_64 rfl
theorem f120_65 : fetch 120 65 = some (.newarray .int, 2, [0, 1141], .null) := by decide +kernel
theorem w120_65 (hx : ¬ x < 0 ∧ x.toNatClampNeg ≤ 60000) : Wp d 120 65 [l0, l1] (.int x :: st) h Q = Wp d 120 67 [l0, l1] (.ref h.1.1 :: st) (hnew h x.toNatClampNeg (.inl (0, arr0 0 x.toNatClampNeg))) Q := W_go f120_65 (by simp only [pstep, pnewa, if_pos hx]; rfl)
theorem f120_67 : fetch 120 67 = some (.putfield 38, 3, [9, 11, 6059, 0], .null) := by decide +kernel
theorem w120_67 : Wp d 120 67 [l0, l1] (v :: .ref a :: st) h Q = pP (h.2 a) 9 11 (ftOf 9 11) v a (fun c => Wp d 120 70 [l0, l1] st (hset h a c) Q) := W_put f120_67 (by rfl)
theorem f120_70 : fetch 120 70 = some (.aload_n 0, 1, [], .null) := by decide +kernel
theorem w120_70 : Wp d 120 70 [some (.ref a), l1] st h Q = Wp d 120 71 [some (.ref a), l1] (.ref a :: st) h Q := W_go f120_70 rfl
theorem f120_71 : fetch 120 71 = some (.iconst 3, 1, [], .null) := by decide +kernel
theorem w120_71 : Wp d 120 71 [l0, l1] st h Q = Wp d 120 72 [l0, l1] (.int (3 : Int32) :: st) h Q := W_go f120_71 rfl
theorem f120_72 : fetch 120 72 = some (.newarray .int, 2, [0, 1141], .null) := by decide +kernel
theorem w120_72 (hx : ¬ x < 0 ∧ x.toNatClampNeg ≤ 60000) : Wp d 120 72 [l0, l1] (.int x :: st) h Q = Wp d 120 74 [l0, l1] (.ref h.1.1 :: st) (hnew h x.toNatClampNeg (.inl (0, arr0 0 x.toNatClampNeg))) Q := W_go f120_72 (by simp only [pstep, pnewa, if_pos hx]; rfl)
theorem f120_74 : fetch 120 74 = some (.putfield 41, 3, [9, 12, 6061, 0], .null) := by decide +kernel
theorem w120_74 : Wp d 120 74 [l0, l1] (v :: .ref a :: st) h Q = pP (h.2 a) 9 12 (ftOf 9 12) v a (fun c => Wp d 120 77 [l0, l1] st (hset h a c) Q) := W_put f120_74 (by rfl)
theorem f120_77 : fetch 120 77 = some (.aload_n 0, 1, [], .null) := by decide +kernel
theorem w120_77 : Wp d 120 77 [some (.ref a), l1] st h Q = Wp d 120 78 [some (.ref a), l1] (.ref a :: st) h Q := W_go f120_77 rfl
theorem f120_78 : fetch 120 78 = some (.iconst 3, 1, [], .null) := by decide +kernel
theorem w120_78 : Wp d 120 78 [l0, l1] st h Q = Wp d 120 79 [l0, l1] (.int (3 : Int32) :: st) h Q := W_go f120_78 rfl
theorem f120_79 : fetch 120 79 = some (.newarray .int, 2, [0, 1141], .null) := by decide +kernel
theorem w120_79 (hx : ¬ x < 0 ∧ x.toNatClampNeg ≤ 60000) : Wp d 120 79 [l0, l1] (.int x :: st) h Q = Wp d 120 81 [l0, l1] (.ref h.1.1 :: st) (hnew h x.toNatClampNeg (.inl (0, arr0 0 x.toNatClampNeg))) Q := W_go f120_79 (by simp only [pstep, pnewa, if_pos hx]; rfl)
theorem f120_81 : fetch 120 81 = some (.putfield 44, 3, [9, 13, 6063, 0], .null) := by decide +kernel
theorem w120_81 : Wp d 120 81 [l0, l1] (v :: .ref a :: st) h Q = pP (h.2 a) 9 13 (ftOf 9 13) v a (fun c => Wp d 120 84 [l0, l1] st (hset h a c) Q) := W_put f120_81 (by rfl)
theorem f120_84 : fetch 120 84 = some (.aload_n 0, 1, [], .null) := by decide +kernel
theorem w120_84 : Wp d 120 84 [some (.ref a), l1] st h Q = Wp d 120 85 [some (.ref a), l1] (.ref a :: st) h Q := W_go f120_84 rfl
theorem f120_85 : fetch 120 85 = some (.iconst 3, 1, [], .null) := by decide +kernel
theorem w120_85 : Wp d 120 85 [l0, l1] st h Q = Wp d 120 86 [l0, l1] (.int (3 : Int32) :: st) h Q := W_go f120_85 rfl
theorem f120_86 : fetch 120 86 = some (.newarray .int, 2, [0, 1141], .null) := by decide +kernel
theorem w120_86 (hx : ¬ x < 0 ∧ x.toNatClampNeg ≤ 60000) : Wp d 120 86 [l0, l1] (.int x :: st) h Q = Wp d 120 88 [l0, l1] (.ref h.1.1 :: st) (hnew h x.toNatClampNeg (.inl (0, arr0 0 x.toNatClampNeg))) Q := W_go f120_86 (by simp only [pstep, pnewa, if_pos hx]; rfl)
theorem f120_88 : fetch 120 88 = some (.putfield 47, 3, [9, 14, 6065, 0], .null) := by decide +kernel
theorem w120_88 : Wp d 120 88 [l0, l1] (v :: .ref a :: st) h Q = pP (h.2 a) 9 14 (ftOf 9 14) v a (fun c => Wp d 120 91 [l0, l1] st (hset h a c) Q) := W_put f120_88 (by rfl)
theorem f120_91 : fetch 120 91 = some (.aload_n 0, 1, [], .null) := by decide +kernel
theorem w120_91 : Wp d 120 91 [some (.ref a), l1] st h Q = Wp d 120 92 [some (.ref a), l1] (.ref a :: st) h Q := W_go f120_91 rfl
theorem f120_92 : fetch 120 92 = some (.bipush 60, 2, [], .null) := by decide +kernel
theorem w120_92 : Wp d 120 92 [l0, l1] st h Q = Wp d 120 94 [l0, l1] (.int (60 : Int32) :: st) h Q := W_go f120_92 rfl
theorem f120_94 : fetch 120 94 = some (.newarray .int, 2, [0, 1141], .null) := by decide +kernel
theorem w120_94 (hx : ¬ x < 0 ∧ x.toNatClampNeg ≤ 60000) : Wp d 120 94 [l0, l1] (.int x :: st) h Q = Wp d 120 96 [l0, l1] (.ref h.1.1 :: st) (hnew h x.toNatClampNeg (.inl (0, arr0 0 x.toNatClampNeg))) Q := W_go f120_94 (by simp only [pstep, pnewa, if_pos hx]; rfl)
theorem f120_96 : fetch 120 96 = some (.putfield 50, 3, [9, 15, 6067, 0], .null) := by decide +kernel
theorem w120_96 : Wp d 120 96 [l0, l1] (v :: .ref a :: st) h Q = pP (h.2 a) 9 15 (ftOf 9 15) v a (fun c => Wp d 120 99 [l0, l1] st (hset h a c) Q) := W_put f120_96 (by rfl)
theorem f120_99 : fetch 120 99 = some (.aload_n 0, 1, [], .null) := by decide +kernel
theorem w120_99 : Wp d 120 99 [some (.ref a), l1] st h Q = Wp d 120 100 [some (.ref a), l1] (.ref a :: st) h Q := W_go f120_99 rfl
theorem f120_100 : fetch 120 100 = some (.iconst 3, 1, [], .null) := by decide +kernel
theorem w120_100 : Wp d 120 100 [l0, l1] st h Q = Wp d 120 101 [l0, l1] (.int (3 : Int32) :: st) h Q := W_go f120_100 rfl
theorem f120_101 : fetch 120 101 = some (.newarray .int, 2, [0, 1141], .null) := by decide +kernel
theorem w120_101 (hx : ¬ x < 0 ∧ x.toNatClampNeg ≤ 60000) : Wp d 120 101 [l0, l1] (.int x :: st) h Q = Wp d 120 103 [l0, l1] (.ref h.1.1 :: st) (hnew h x.toNatClampNeg (.inl (0, arr0 0 x.toNatClampNeg))) Q := W_go f120_101 (by simp only [pstep, pnewa, if_pos hx]; rfl)
theorem f120_103 : fetch 120 103 = some (.putfield 53, 3, [9, 16, 6069, 0], .null) := by decide +kernel
theorem w120_103 : Wp d 120 103 [l0, l1] (v :: .ref a :: st) h Q = pP (h.2 a) 9 16 (ftOf 9 16) v a (fun c => Wp d 120 106 [l0, l1] st (hset h a c) Q) := W_put f120_103 (by rfl)
theorem f120_106 : fetch 120 106 = some (.aload_n 0, 1, [], .null) := by decide +kernel
theorem w120_106 : Wp d 120 106 [some (.ref a), l1] st h Q = Wp d 120 107 [some (.ref a), l1] (.ref a :: st) h Q := W_go f120_106 rfl
theorem f120_107 : fetch 120 107 = some (.sipush 144, 3, [], .null) := by decide +kernel
theorem w120_107 : Wp d 120 107 [l0, l1] st h Q = Wp d 120 110 [l0, l1] (.int (144 : Int32) :: st) h Q := W_go f120_107 rfl
theorem f120_110 : fetch 120 110 = some (.newarray .int, 2, [0, 1141], .null) := by decide +kernel
theorem w120_110 (hx : ¬ x < 0 ∧ x.toNatClampNeg ≤ 60000) : Wp d 120 110 [l0, l1] (.int x :: st) h Q = Wp d 120 112 [l0, l1] (.ref h.1.1 :: st) (hnew h x.toNatClampNeg (.inl (0, arr0 0 x.toNatClampNeg))) Q := W_go f120_110 (by simp only [pstep, pnewa, if_pos hx]; rfl)
theorem f120_112 : fetch 120 112 = some (.putfield 56, 3, [9, 17, 6071, 0], .null) := by decide +kernel
theorem w120_112 : Wp d 120 112 [l0, l1] (v :: .ref a :: st) h Q = pP (h.2 a) 9 17 (ftOf 9 17) v a (fun c => Wp d 120 115 [l0, l1] st (hset h a c) Q) := W_put f120_112 (by rfl)
theorem f120_115 : fetch 120 115 = some (.aload_n 0, 1, [], .null) := by decide +kernel
theorem w120_115 : Wp d 120 115 [some (.ref a), l1] st h Q = Wp d 120 116 [some (.ref a), l1] (.ref a :: st) h Q := W_go f120_115 rfl
theorem f120_116 : fetch 120 116 = some (.sipush 144, 3, [], .null) := by decide +kernel
theorem w120_116 : Wp d 120 116 [l0, l1] st h Q = Wp d 120 119 [l0, l1] (.int (144 : Int32) :: st) h Q := W_go f120_116 rfl
theorem f120_119 : fetch 120 119 = some (.newarray .int, 2, [0, 1141], .null) := by decide +kernel
theorem w120_119 (hx : ¬ x < 0 ∧ x.toNatClampNeg ≤ 60000) : Wp d 120 119 [l0, l1] (.int x :: st) h Q = Wp d 120 121 [l0, l1] (.ref h.1.1 :: st) (hnew h x.toNatClampNeg (.inl (0, arr0 0 x.toNatClampNeg))) Q := W_go f120_119 (by simp only [pstep, pnewa, if_pos hx]; rfl)
theorem f120_121 : fetch 120 121 = some (.putfield 59, 3, [9, 18, 6072, 0], .null) := by decide +kernel
theorem w120_121 : Wp d 120 121 [l0, l1] (v :: .ref a :: st) h Q = pP (h.2 a) 9 18 (ftOf 9 18) v a (fun c => Wp d 120 124 [l0, l1] st (hset h a c) Q) := W_put f120_121 (by rfl)
theorem f120_124 : fetch 120 124 = some (.aload_n 0, 1, [], .null) := by decide +kernel
theorem w120_124 : Wp d 120 124 [some (.ref a), l1] st h Q = Wp d 120 125 [some (.ref a), l1] (.ref a :: st) h Q := W_go f120_124 rfl
theorem f120_125 : fetch 120 125 = some (.sipush 144, 3, [], .null) := by decide +kernel
theorem w120_125 : Wp d 120 125 [l0, l1] st h Q = Wp d 120 128 [l0, l1] (.int (144 : Int32) :: st) h Q := W_go f120_125 rfl
theorem f120_128 : fetch 120 128 = some (.newarray .int, 2, [0, 1141], .null) := by decide +kernel
theorem w120_128 (hx : ¬ x < 0 ∧ x.toNatClampNeg ≤ 60000) : Wp d 120 128 [l0, l1] (.int x :: st) h Q = Wp d 120 130 [l0, l1] (.ref h.1.1 :: st) (hnew h x.toNatClampNeg (.inl (0, arr0 0 x.toNatClampNeg))) Q := W_go f120_128 (by simp only [pstep, pnewa, if_pos hx]; rfl)
theorem f120_130 : fetch 120 130 = some (.putfield 62, 3, [9, 19, 6073, 0], .null) := by decide +kernel
theorem w120_130 : Wp d 120 130 [l0, l1] (v :: .ref a :: st) h Q = pP (h.2 a) 9 19 (ftOf 9 19) v a (fun c => Wp d 120 133 [l0, l1] st (hset h a c) Q) := W_put f120_130 (by rfl)
theorem f120_133 : fetch 120 133 = some (.return_, 1, [], .null) := by decide +kernel
theorem w120_133 : Wp d 120 133 [l0, l1] [] h Q = Q (.inl none, h) := W_fin f120_133 rfl
theorem hm121 : mhs 121 = [] := by decide +kernel
theorem f121_0 : fetch 121 0 = some (.aload_n 1, 1, [], .null) := by decide +kernel
theorem w121_0 : Wp d 121 0 [l0, some (.ref a), l2] st h Q = Wp d 121 1 [l0, some (.ref a), l2] (.ref a :: st) h Q := W_go f121_0 rfl
theorem f121_1 : fetch 121 1 = some (.iconst 0, 1, [], .null) := by decide +kernel
theorem w121_1 : Wp d 121 1 [l0, l1, l2] st h Q = Wp d 121 2 [l0, l1, l2] (.int (0 : Int32) :: st) h Q := W_go f121_1 rfl
theorem f121_2 : fetch 121 2 = some (.aload_n 2, 1, [], .null) := by decide +kernel
theorem w121_2 : Wp d 121 2 [l0, l1, some (.ref a)] st h Q = Wp d 121 3 [l0, l1, some (.ref a)] (.ref a :: st) h Q := W_go f121_2 rfl
theorem f121_3 : fetch 121 3 = some (.iconst 0, 1, [], .null) := by decide +kernel
theorem w121_3 : Wp d 121 3 [l0, l1, l2] st h Q = Wp d 121 4 [l0, l1, l2] (.int (0 : Int32) :: st) h Q := W_go f121_3 rfl
theorem f121_4 : fetch 121 4 = some (.aload_n 2, 1, [], .null) := by decide +kernel
theorem w121_4 : Wp d 121 4 [l0, l1, some (.ref a)] st h Q = Wp d 121 5 [l0, l1, some (.ref a)] (.ref a :: st) h Q := W_go f121_4 rfl
theorem f121_5 : fetch 121 5 = some (.arraylength, 1, [], .null) := by decide +kernel
theorem w121_5 : Wp d 121 5 [l0, l1, l2] (.ref a :: st) h Q = nP (h.2 a) (fun w => Wp d 121 6 [l0, l1, l2] (.int w :: st) h Q) := W_len f121_5 rfl
theorem f121_6 : fetch 121 6 = some (.invokestatic 65, 3, [9998, 8109, 8111, 8110, 1024], .null) := by decide +kernel
theorem w121_6 (hp : psum st ≤ 8) : Wp d 121 6 [l0, l1, l2] (.int n :: .int dp :: .ref a :: .int sp :: .ref b :: st) h Q = cpP (h.2 b) (h.2 a) b a sp dp n (fun c => Wp d 121 9 [l0, l1, l2] st (hset h a c) Q) := W_cpy f121_6 hp rfl
theorem f121_9 : fetch 121 9 = some (.return_, 1, [], .null) := by decide +kernel
theorem w121_9 : Wp d 121 9 [l0, l1, l2] [] h Q = Q (.inl none, h) := W_fin f121_9 rfl
theorem hm122 : mhs 122 = [] := by decide +kernel
theorem f122_0 : fetch 122 0 = some (.aload_n 0, 1, [], .null) := by decide +kernel
theorem w122_0 : Wp d 122 0 [some (.ref a), l1, l2] st h Q = Wp d 122 1 [some (.ref a), l1, l2] (.ref a :: st) h Q := W_go f122_0 rfl
theorem f122_1 : fetch 122 1 = some (.aload_n 1, 1, [], .null) := by decide +kernel
theorem w122_1 : Wp d 122 1 [l0, some (.ref a), l2] st h Q = Wp d 122 2 [l0, some (.ref a), l2] (.ref a :: st) h Q := W_go f122_1 rfl
theorem f122_2 : fetch 122 2 = some (.getfield 71, 3, [9, 0, 6038, 0], .null) := by decide +kernel
theorem w122_2 : Wp d 122 2 [l0, l1, l2] (.ref a :: st) h Q = gP (h.2 a) 9 0 (fun w => Wp d 122 5 [l0, l1, l2] (w :: st) h Q) := W_get f122_2 rfl
theorem f122_5 : fetch 122 5 = some (.putfield 71, 3, [9, 0, 6038, 0], .null) := by decide +kernel
theorem w122_5 : Wp d 122 5 [l0, l1, l2] (v :: .ref a :: st) h Q = pP (h.2 a) 9 0 (ftOf 9 0) v a (fun c => Wp d 122 8 [l0, l1, l2] st (hset h a c) Q) := W_put f122_5 (by rfl)
theorem f122_8 : fetch 122 8 = some (.aload_n 0, 1, [], .null) := by decide +kernel
theorem w122_8 : Wp d 122 8 [some (.ref a), l1, l2] st h Q = Wp d 122 9 [some (.ref a), l1, l2] (.ref a :: st) h Q := W_go f122_8 rfl
theorem f122_9 : fetch 122 9 = some (.aload_n 1, 1, [], .null) := by decide +kernel
theorem w122_9 : Wp d 122 9 [l0, some (.ref a), l2] st h Q = Wp d 122 10 [l0, some (.ref a), l2] (.ref a :: st) h Q := W_go f122_9 rfl
theorem f122_10 : fetch 122 10 = some (.getfield 75, 3, [9, 1, 6040, 0], .null) := by decide +kernel
theorem w122_10 : Wp d 122 10 [l0, l1, l2] (.ref a :: st) h Q = gP (h.2 a) 9 1 (fun w => Wp d 122 13 [l0, l1, l2] (w :: st) h Q) := W_get f122_10 rfl
theorem f122_13 : fetch 122 13 = some (.putfield 75, 3, [9, 1, 6040, 0], .null) := by decide +kernel
theorem w122_13 : Wp d 122 13 [l0, l1, l2] (v :: .ref a :: st) h Q = pP (h.2 a) 9 1 (ftOf 9 1) v a (fun c => Wp d 122 16 [l0, l1, l2] st (hset h a c) Q) := W_put f122_13 (by rfl)
theorem f122_16 : fetch 122 16 = some (.aload_n 0, 1, [], .null) := by decide +kernel
theorem w122_16 : Wp d 122 16 [some (.ref a), l1, l2] st h Q = Wp d 122 17 [some (.ref a), l1, l2] (.ref a :: st) h Q := W_go f122_16 rfl
theorem f122_17 : fetch 122 17 = some (.aload_n 1, 1, [], .null) := by decide +kernel
theorem w122_17 : Wp d 122 17 [l0, some (.ref a), l2] st h Q = Wp d 122 18 [l0, some (.ref a), l2] (.ref a :: st) h Q := W_go f122_17 rfl
theorem f122_18 : fetch 122 18 = some (.getfield 78, 3, [9, 2, 6042, 0], .null) := by decide +kernel
theorem w122_18 : Wp d 122 18 [l0, l1, l2] (.ref a :: st) h Q = gP (h.2 a) 9 2 (fun w => Wp d 122 21 [l0, l1, l2] (w :: st) h Q) := W_get f122_18 rfl
theorem f122_21 : fetch 122 21 = some (.putfield 78, 3, [9, 2, 6042, 0], .null) := by decide +kernel
theorem w122_21 : Wp d 122 21 [l0, l1, l2] (v :: .ref a :: st) h Q = pP (h.2 a) 9 2 (ftOf 9 2) v a (fun c => Wp d 122 24 [l0, l1, l2] st (hset h a c) Q) := W_put f122_21 (by rfl)
theorem f122_24 : fetch 122 24 = some (.aload_n 0, 1, [], .null) := by decide +kernel
theorem w122_24 : Wp d 122 24 [some (.ref a), l1, l2] st h Q = Wp d 122 25 [some (.ref a), l1, l2] (.ref a :: st) h Q := W_go f122_24 rfl
theorem f122_25 : fetch 122 25 = some (.aload_n 1, 1, [], .null) := by decide +kernel
theorem w122_25 : Wp d 122 25 [l0, some (.ref a), l2] st h Q = Wp d 122 26 [l0, some (.ref a), l2] (.ref a :: st) h Q := W_go f122_25 rfl
theorem f122_26 : fetch 122 26 = some (.getfield 82, 3, [9, 3, 6044, 0], .null) := by decide +kernel
theorem w122_26 : Wp d 122 26 [l0, l1, l2] (.ref a :: st) h Q = gP (h.2 a) 9 3 (fun w => Wp d 122 29 [l0, l1, l2] (w :: st) h Q) := W_get f122_26 rfl
theorem f122_29 : fetch 122 29 = some (.putfield 82, 3, [9, 3, 6044, 0], .null) := by decide +kernel
theorem w122_29 : Wp d 122 29 [l0, l1, l2] (v :: .ref a :: st) h Q = pP (h.2 a) 9 3 (ftOf 9 3) v a (fun c => Wp d 122 32 [l0, l1, l2] st (hset h a c) Q) := W_put f122_29 (by rfl)
theorem f122_32 : fetch 122 32 = some (.aload_n 0, 1, [], .null) := by decide +kernel
theorem w122_32 : Wp d 122 32 [some (.ref a), l1, l2] st h Q = Wp d 122 33 [some (.ref a), l1, l2] (.ref a :: st) h Q := W_go f122_32 rfl
theorem f122_33 : fetch 122 33 = some (.aload_n 1, 1, [], .null) := by decide +kernel
theorem w122_33 : Wp d 122 33 [l0, some (.ref a), l2] st h Q = Wp d 122 34 [l0, some (.ref a), l2] (.ref a :: st) h Q := W_go f122_33 rfl
theorem f122_34 : fetch 122 34 = some (.getfield 15, 3, [9, 4, 6046, 0], .null) := by decide +kernel
theorem w122_34 : Wp d 122 34 [l0, l1, l2] (.ref a :: st) h Q = gP (h.2 a) 9 4 (fun w => Wp d 122 37 [l0, l1, l2] (w :: st) h Q) := W_get f122_34 rfl
theorem f122_37 : fetch 122 37 = some (.aload_n 0, 1, [], .null) := by decide +kernel
theorem w122_37 : Wp d 122 37 [some (.ref a), l1, l2] st h Q = Wp d 122 38 [some (.ref a), l1, l2] (.ref a :: st) h Q := W_go f122_37 rfl
theorem f122_38 : fetch 122 38 = some (.getfield 15, 3, [9, 4, 6046, 0], .null) := by decide +kernel
theorem w122_38 : Wp d 122 38 [l0, l1, l2] (.ref a :: st) h Q = gP (h.2 a) 9 4 (fun w => Wp d 122 41 [l0, l1, l2] (w :: st) h Q) := W_get f122_38 rfl
theorem f122_41 : fetch 122 41 = some (.invokevirtual 85, 3, [121, 3, 10, 0, 8105, 1015, 8108, 8107, 83], .null) := by decide +kernel
theorem w122_41 (hp : psum st ≤ 8) : Wp d 122 41 [l0, l1, l2] (v2 :: v1 :: (.ref b) :: st) h Q = rP (h.2 b) 9 (Cp d 121 [(.ref b), v1, v2] h (fun o => cK o (fun w h2 => Wp d 122 44 [l0, l1, l2] (w.toList ++ st) h2 Q) (fun E h2 => Q (.inr E, h2)))) := (W_invV (st := st) f122_41 rfl rfl (by simp only [List.length_cons]; omega) rfl rfl hp).trans (by simp only [hm122, if_true])
theorem f122_44 : fetch 122 44 = some (.aload_n 0, 1, [], .null) := by decide +kernel
theorem w122_44 : Wp d 122 44 [some (.ref a), l1, l2] st h Q = Wp d 122 45 [some (.ref a), l1, l2] (.ref a :: st) h Q := W_go f122_44 rfl
theorem f122_45 : fetch 122 45 = some (.aload_n 1, 1, [], .null) := by decide +kernel
theorem w122_45 : Wp d 122 45 [l0, some (.ref a), l2] st h Q = Wp d 122 46 [l0, some (.ref a), l2] (.ref a :: st) h Q := W_go f122_45 rfl
theorem f122_46 : fetch 122 46 = some (.getfield 19, 3, [9, 5, 6048, 0], .null) := by decide +kernel
theorem w122_46 : Wp d 122 46 [l0, l1, l2] (.ref a :: st) h Q = gP (h.2 a) 9 5 (fun w => Wp d 122 49 [l0, l1, l2] (w :: st) h Q) := W_get f122_46 rfl
theorem f122_49 : fetch 122 49 = some (.aload_n 0, 1, [], .null) := by decide +kernel
theorem w122_49 : Wp d 122 49 [some (.ref a), l1, l2] st h Q = Wp d 122 50 [some (.ref a), l1, l2] (.ref a :: st) h Q := W_go f122_49 rfl
theorem f122_50 : fetch 122 50 = some (.getfield 19, 3, [9, 5, 6048, 0], .null) := by decide +kernel
theorem w122_50 : Wp d 122 50 [l0, l1, l2] (.ref a :: st) h Q = gP (h.2 a) 9 5 (fun w => Wp d 122 53 [l0, l1, l2] (w :: st) h Q) := W_get f122_50 rfl
theorem f122_53 : fetch 122 53 = some (.invokevirtual 85, 3, [121, 3, 10, 0, 8105, 1015, 8108, 8107, 83], .null) := by decide +kernel
theorem w122_53 (hp : psum st ≤ 8) : Wp d 122 53 [l0, l1, l2] (v2 :: v1 :: (.ref b) :: st) h Q = rP (h.2 b) 9 (Cp d 121 [(.ref b), v1, v2] h (fun o => cK o (fun w h2 => Wp d 122 56 [l0, l1, l2] (w.toList ++ st) h2 Q) (fun E h2 => Q (.inr E, h2)))) := (W_invV (st := st) f122_53 rfl rfl (by simp only [List.length_cons]; omega) rfl rfl hp).trans (by simp only [hm122, if_true])
theorem f122_56 : fetch 122 56 = some (.aload_n 0, 1, [], .null) := by decide +kernel
theorem w122_56 : Wp d 122 56 [some (.ref a), l1, l2] st h Q = Wp d 122 57 [some (.ref a), l1, l2] (.ref a :: st) h Q := W_go f122_56 rfl
theorem f122_57 : fetch 122 57 = some (.aload_n 1, 1, [], .null) := by decide +kernel
theorem w122_57 : Wp d 122 57 [l0, some (.ref a), l2] st h Q = Wp d 122 58 [l0, some (.ref a), l2] (.ref a :: st) h Q := W_go f122_57 rfl
theorem f122_58 : fetch 122 58 = some (.getfield 22, 3, [9, 6, 6050, 0], .null) := by decide +kernel
theorem w122_58 : Wp d 122 58 [l0, l1, l2] (.ref a :: st) h Q = gP (h.2 a) 9 6 (fun w => Wp d 122 61 [l0, l1, l2] (w :: st) h Q) := W_get f122_58 rfl
theorem f122_61 : fetch 122 61 = some (.aload_n 0, 1, [], .null) := by decide +kernel
theorem w122_61 : Wp d 122 61 [some (.ref a), l1, l2] st h Q = Wp d 122 62 [some (.ref a), l1, l2] (.ref a :: st) h Q := W_go f122_61 rfl
theorem f122_62 : fetch 122 62 = some (.getfield 22, 3, [9, 6, 6050, 0], .null) := by decide +kernel
theorem w122_62 : Wp d 122 62 [l0, l1, l2] (.ref a :: st) h Q = gP (h.2 a) 9 6 (fun w => Wp d 122 65 [l0, l1, l2] (w :: st) h Q) := W_get f122_62 rfl
theorem f122_65 : fetch 122 65 = some (.invokevirtual 85, 3, [121, 3, 10, 0, 8105, 1015, 8108, 8107, 83], .null) := by decide +kernel
theorem w122_65 (hp : psum st ≤ 8) : Wp d 122 65 [l0, l1, l2] (v2 :: v1 :: (.ref b) :: st) h Q = rP (h.2 b) 9 (Cp d 121 [(.ref b), v1, v2] h (fun o => cK o (fun w h2 => Wp d 122 68 [l0, l1, l2] (w.toList ++ st) h2 Q) (fun E h2 => Q (.inr E, h2)))) := (W_invV (st := st) f122_65 rfl rfl (by simp only [List.length_cons]; omega) rfl rfl hp).trans (by simp only [hm122, if_true])
theorem f122_68 : fetch 122 68 = some (.aload_n 0, 1, [], .null) := by decide +kernel
theorem w122_68 : Wp d 122 68 [some (.ref a), l1, l2] st h Q = Wp d 122 69 [some (.ref a), l1, l2] (.ref a :: st) h Q := W_go f122_68 rfl
theorem f122_69 : fetch 122 69 = some (.aload_n 1, 1, [], .null) := by decide +kernel
theorem w122_69 : Wp d 122 69 [l0, some (.ref a), l2] st h Q = Wp d 122 70 [l0, some (.ref a), l2] (.ref a :: st) h Q := W_go f122_69 rfl
theorem f122_70 : fetch 122 70 = some (.getfield 25, 3, [9, 7, 6051, 0], .null) := by decide +kernel
theorem w122_70 : Wp d 122 70 [l0, l1, l2] (.ref a :: st) h Q = gP (h.2 a) 9 7 (fun w => Wp d 122 73 [l0, l1, l2] (w :: st) h Q) := W_get f122_70 rfl
theorem f122_73 : fetch 122 73 = some (.aload_n 0, 1, [], .null) := by decide +kernel
theorem w122_73 : Wp d 122 73 [some (.ref a), l1, l2] st h Q = Wp d 122 74 [some (.ref a), l1, l2] (.ref a :: st) h Q := W_go f122_73 rfl
theorem f122_74 : fetch 122 74 = some (.getfield 25, 3, [9, 7, 6051, 0], .null) := by decide +kernel
theorem w122_74 : Wp d 122 74 [l0, l1, l2] (.ref a :: st) h Q = gP (h.2 a) 9 7 (fun w => Wp d 122 77 [l0, l1, l2] (w :: st) h Q) := W_get f122_74 rfl
theorem f122_77 : fetch 122 77 = some (.invokevirtual 85, 3, [121, 3, 10, 0, 8105, 1015, 8108, 8107, 83], .null) := by decide +kernel
theorem w122_77 (hp : psum st ≤ 8) : Wp d 122 77 [l0, l1, l2] (v2 :: v1 :: (.ref b) :: st) h Q = rP (h.2 b) 9 (Cp d 121 [(.ref b), v1, v2] h (fun o => cK o (fun w h2 => Wp d 122 80 [l0, l1, l2] (w.toList ++ st) h2 Q) (fun E h2 => Q (.inr E, h2)))) := (W_invV (st := st) f122_77 rfl rfl (by simp only [List.length_cons]; omega) rfl rfl hp).trans (by simp only [hm122, if_true])
theorem f122_80 : fetch 122 80 = some (.iconst 0, 1, [], .null) := by decide +kernel
theorem w122_80 : Wp d 122 80 [l0, l1, l2] st h Q = Wp d 122 81 [l0, l1, l2] (.int (0 : Int32) :: st) h Q := W_go f122_80 rfl
theorem f122_81 : fetch 122 81 = some (.istore_n 2, 1, [], .null) := by decide +kernel
theorem w122_81 : Wp d 122 81 [l0, l1, l2] (.int x :: st) h Q = Wp d 122 82 [l0, kl l1, some (.int x)] st h Q := (W_st1 (pc' := 82) (k := 2) f122_81 rfl rfl (by simp only [List.length_cons, List.length_nil]; omega)).trans (by rw [pst1_succ]; rfl)
theorem f122_82 : fetch 122 82 = some (.iload_n 2, 1, [], .null) := by decide +kernel
theorem w122_82 : Wp d 122 82 [l0, l1, some (.int x)] st h Q = Wp d 122 83 [l0, l1, some (.int x)] (.int x :: st) h Q := W_go f122_82 rfl
theorem f122_83 : fetch 122 83 = some (.bipush 10, 2, [], .null) := by decide +kernel
theorem w122_83 : Wp d 122 83 [l0, l1, l2] st h Q = Wp d 122 85 [l0, l1, l2] (.int (10 : Int32) :: st) h Q := W_go f122_83 rfl
theorem f122_85 : fetch 122 85 = some (.if_icmp .ge 21, 3, [], .null) := by decide +kernel
theorem w122_85 : Wp d 122 85 [l0, l1, l2] (.int y :: .int x :: st) h Q = if icond .ge x y = true then Wp d 122 106 [l0, l1, l2] st h Q else Wp d 122 88 [l0, l1, l2] st h Q := W_if f122_85 rfl
theorem f122_88 : fetch 122 88 = some (.aload_n 0, 1, [], .null) := by decide +kernel
theorem w122_88 : Wp d 122 88 [some (.ref a), l1, l2] st h Q = Wp d 122 89 [some (.ref a), l1, l2] (.ref a :: st) h Q := W_go f122_88 rfl
theorem f122_89 : fetch 122 89 = some (.getfield 28, 3, [9, 8, 6053, 0], .null) := by decide +kernel
theorem w122_89 : Wp d 122 89 [l0, l1, l2] (.ref a :: st) h Q = gP (h.2 a) 9 8 (fun w => Wp d 122 92 [l0, l1, l2] (w :: st) h Q) := W_get f122_89 rfl
theorem f122_92 : fetch 122 92 = some (.iload_n 2, 1, [], .null) := by decide +kernel
theorem w122_92 : Wp d 122 92 [l0, l1, some (.int x)] st h Q = Wp d 122 93 [l0, l1, some (.int x)] (.int x :: st) h Q := W_go f122_92 rfl
theorem f122_93 : fetch 122 93 = some (.aload_n 1, 1, [], .null) := by decide +kernel
theorem w122_93 : Wp d 122 93 [l0, some (.ref a), l2] st h Q = Wp d 122 94 [l0, some (.ref a), l2] (.ref a :: st) h Q := W_go f122_93 rfl
theorem f122_94 : fetch 122 94 = some (.getfield 28, 3, [9, 8, 6053, 0], .null) := by decide +kernel
theorem w122_94 : Wp d 122 94 [l0, l1, l2] (.ref a :: st) h Q = gP (h.2 a) 9 8 (fun w => Wp d 122 97 [l0, l1, l2] (w :: st) h Q) := W_get f122_94 rfl
theorem f122_97 : fetch 122 97 = some (.iload_n 2, 1, [], .null) := by decide +kernel
theorem w122_97 : Wp d 122 97 [l0, l1, some (.int x)] st h Q = Wp d 122 98 [l0, l1, some (.int x)] (.int x :: st) h Q := W_go f122_97 rfl
theorem f122_98 : fetch 122 98 = some (.baload, 1, [], .null) := by decide +kernel
theorem w122_98 : Wp d 122 98 [l0, l1, l2] (.int x :: .ref a :: st) h Q = aP true (h.2 a) x (fun w => Wp d 122 99 [l0, l1, l2] (.int w :: st) h Q) := W_ald f122_98 rfl
theorem f122_99 : fetch 122 99 = some (.bastore, 1, [], .null) := by decide +kernel
theorem w122_99 : Wp d 122 99 [l0, l1, l2] (.int y :: .int x :: .ref a :: st) h Q = asP true (h.2 a) a x y (fun c => Wp d 122 100 [l0, l1, l2] st (hset h a c) Q) := W_ast f122_99 rfl
theorem f122_100 : fetch 122 100 = some (.iinc 2 1, 3, [], .null) := by decide +kernel
theorem w122_100 : Wp d 122 100 [l0, l1, some (.int x)] st h Q = Wp d 122 103 [l0, kl l1, some (.int (x + (1 : Int32)))] st h Q := (W_iinc (y := (1 : Int32)) f122_100 rfl (by simp only [List.length_cons, List.length_nil]; omega) (by decide)).trans (by rw [pst1_succ]; rfl)
theorem f122_103 : fetch 122 103 = some (.goto (-21), 3, [], .null) := by decide +kernel
theorem w122_103 : Wp d 122 103 [l0, l1, l2] st h Q = Wp d 122 82 [l0, l1, l2] st h Q := W_go f122_103 rfl
theorem f122_106 : fetch 122 106 = some (.aload_n 0, 1, [], .null) := by decide +kernel
theorem w122_106 : Wp d 122 106 [some (.ref a), l1, l2] st h Q = Wp d 122 107 [some (.ref a), l1, l2] (.ref a :: st) h Q := W_go f122_106 rfl
theorem f122_107 : fetch 122 107 = some (.aload_n 1, 1, [], .null) := by decide +kernel
theorem w122_107 : Wp d 122 107 [l0, some (.ref a), l2] st h Q = Wp d 122 108 [l0, some (.ref a), l2] (.ref a :: st) h Q := W_go f122_107 rfl
theorem f122_108 : fetch 122 108 = some (.getfield 32, 3, [9, 9, 6055, 0], .null) := by decide +kernel
theorem w122_108 : Wp d 122 108 [l0, l1, l2] (.ref a :: st) h Q = gP (h.2 a) 9 9 (fun w => Wp d 122 111 [l0, l1, l2] (w :: st) h Q) := W_get f122_108 rfl
theorem f122_111 : fetch 122 111 = some (.aload_n 0, 1, [], .null) := by decide +kernel
theorem w122_111 : Wp d 122 111 [some (.ref a), l1, l2] st h Q = Wp d 122 112 [some (.ref a), l1, l2] (.ref a :: st) h Q := W_go f122_111 rfl
theorem f122_112 : fetch 122 112 = some (.getfield 32, 3, [9, 9, 6055, 0], .null) := by decide +kernel
theorem w122_112 : Wp d 122 112 [l0, l1, l2] (.ref a :: st) h Q = gP (h.2 a) 9 9 (fun w => Wp d 122 115 [l0, l1, l2] (w :: st) h Q) := W_get f122_112 rfl
theorem f122_115 : fetch 122 115 = some (.invokevirtual 85, 3, [121, 3, 10, 0, 8105, 1015, 8108, 8107, 83], .null) := by decide +kernel
theorem w122_115 (hp : psum st ≤ 8) : Wp d 122 115 [l0, l1, l2] (v2 :: v1 :: (.ref b) :: st) h Q = rP (h.2 b) 9 (Cp d 121 [(.ref b), v1, v2] h (fun o => cK o (fun w h2 => Wp d 122 118 [l0, l1, l2] (w.toList ++ st) h2 Q) (fun E h2 => Q (.inr E, h2)))) := (W_invV (st := st) f122_115 rfl rfl (by simp only [List.length_cons]; omega) rfl rfl hp).trans (by simp only [hm122, if_true])
theorem f122_118 : fetch 122 118 = some (.aload_n 0, 1, [], .null) := by decide +kernel
theorem w122_118 : Wp d 122 118 [some (.ref a), l1, l2] st h Q = Wp d 122 119 [some (.ref a), l1, l2] (.ref a :: st) h Q := W_go f122_118 rfl
theorem f122_119 : fetch 122 119 = some (.aload_n 1, 1, [], .null) := by decide +kernel
theorem w122_119 : Wp d 122 119 [l0, some (.ref a), l2] st h Q = Wp d 122 120 [l0, some (.ref a), l2] (.ref a :: st) h Q := W_go f122_119 rfl
theorem f122_120 : fetch 122 120 = some (.getfield 35, 3, [9, 10, 6057, 0], .null) := by decide +kernel
theorem w122_120 : Wp d 122 120 [l0, l1, l2] (.ref a :: st) h Q = gP (h.2 a) 9 10 (fun w => Wp d 122 123 [l0, l1, l2] (w :: st) h Q) := W_get f122_120 rfl
theorem f122_123 : fetch 122 123 = some (.aload_n 0, 1, [], .null) := by decide +kernel
theorem w122_123 : Wp d 122 123 [some (.ref a), l1, l2] st h Q = Wp d 122 124 [some (.ref a), l1, l2] (.ref a :: st) h Q := W_go f122_123 rfl
theorem f122_124 : fetch 122 124 = some (.getfield 35, 3, [9, 10, 6057, 0], .null) := by decide +kernel
theorem w122_124 : Wp d 122 124 [l0, l1, l2] (.ref a :: st) h Q = gP (h.2 a) 9 10 (fun w => Wp d 122 127 [l0, l1, l2] (w :: st) h Q) := W_get f122_124 rfl
theorem f122_127 : fetch 122 127 = some (.invokevirtual 85, 3, [121, 3, 10, 0, 8105, 1015, 8108, 8107, 83], .null) := by decide +kernel
theorem w122_127 (hp : psum st ≤ 8) : Wp d 122 127 [l0, l1, l2] (v2 :: v1 :: (.ref b) :: st) h Q = rP (h.2 b) 9 (Cp d 121 [(.ref b), v1, v2] h (fun o => cK o (fun w h2 => Wp d 122 130 [l0, l1, l2] (w.toList ++ st) h2 Q) (fun E h2 => Q (.inr E, h2)))) := (W_invV (st := st) f122_127 rfl rfl (by simp only [List.length_cons]; omega) rfl rfl hp).trans (by simp only [hm122, if_true])
theorem f122_130 : fetch 122 130 = some (.aload_n 0, 1, [], .null) := by decide +kernel
theorem w122_130 : Wp d 122 130 [some (.ref a), l1, l2] st h Q = Wp d 122 131 [some (.ref a), l1, l2] (.ref a :: st) h Q := W_go f122_130 rfl
theorem f122_131 : fetch 122 131 = some (.aload_n 1, 1, [], .null) := by decide +kernel
theorem w122_131 : Wp d 122 131 [l0, some (.ref a), l2] st h Q = Wp d 122 132 [l0, some (.ref a), l2] (.ref a :: st) h Q := W_go f122_131 rfl
theorem f122_132 : fetch 122 132 = some (.getfield 38, 3, [9, 11, 6059, 0], .null) := by decide +kernel
theorem w122_132 : Wp d 122 132 [l0, l1, l2] (.ref a :: st) h Q = gP (h.2 a) 9 11 (fun w => Wp d 122 135 [l0, l1, l2] (w :: st) h Q) := W_get f122_132 rfl
theorem f122_135 : fetch 122 135 = some (.aload_n 0, 1, [], .null) := by decide +kernel
theorem w122_135 : Wp d 122 135 [some (.ref a), l1, l2] st h Q = Wp d 122 136 [some (.ref a), l1, l2] (.ref a :: st) h Q := W_go f122_135 rfl
theorem f122_136 : fetch 122 136 = some (.getfield 38, 3, [9, 11, 6059, 0], .null) := by decide +kernel
theorem w122_136 : Wp d 122 136 [l0, l1, l2] (.ref a :: st) h Q = gP (h.2 a) 9 11 (fun w => Wp d 122 139 [l0, l1, l2] (w :: st) h Q) := W_get f122_136 rfl
theorem f122_139 : fetch 122 139 = some (.invokevirtual 85, 3, [121, 3, 10, 0, 8105, 1015, 8108, 8107, 83], .null) := by decide +kernel
theorem w122_139 (hp : psum st ≤ 8) : Wp d 122 139 [l0, l1, l2] (v2 :: v1 :: (.ref b) :: st) h Q = rP (h.2 b) 9 (Cp d 121 [(.ref b), v1, v2] h (fun o => cK o (fun w h2 => Wp d 122 142 [l0, l1, l2] (w.toList ++ st) h2 Q) (fun E h2 => Q (.inr E, h2)))) := (W_invV (st := st) f122_139 rfl rfl (by simp only [List.length_cons]; omega) rfl rfl hp).trans (by simp only [hm122, if_true])
theorem f122_142 : fetch 122 142 = some (.aload_n 0, 1, [], .null) := by decide +kernel
theorem w122_142 : Wp d 122 142 [some (.ref a), l1, l2] st h Q = Wp d 122 143 [some (.ref a), l1, l2] (.ref a :: st) h Q := W_go f122_142 rfl
theorem f122_143 : fetch 122 143 = some (.aload_n 1, 1, [], .null) := by decide +kernel
theorem w122_143 : Wp d 122 143 [l0, some (.ref a), l2] st h Q = Wp d 122 144 [l0, some (.ref a), l2] (.ref a :: st) h Q := W_go f122_143 rfl
theorem f122_144 : fetch 122 144 = some (.getfield 41, 3, [9, 12, 6061, 0], .null) := by decide +kernel
theorem w122_144 : Wp d 122 144 [l0, l1, l2] (.ref a :: st) h Q = gP (h.2 a) 9 12 (fun w => Wp d 122 147 [l0, l1, l2] (w :: st) h Q) := W_get f122_144 rfl
theorem f122_147 : fetch 122 147 = some (.aload_n 0, 1, [], .null) := by decide +kernel
theorem w122_147 : Wp d 122 147 [some (.ref a), l1, l2] st h Q = Wp d 122 148 [some (.ref a), l1, l2] (.ref a :: st) h Q := W_go f122_147 rfl
theorem f122_148 : fetch 122 148 = some (.getfield 41, 3, [9, 12, 6061, 0], .null) := by decide +kernel
theorem w122_148 : Wp d 122 148 [l0, l1, l2] (.ref a :: st) h Q = gP (h.2 a) 9 12 (fun w => Wp d 122 151 [l0, l1, l2] (w :: st) h Q) := W_get f122_148 rfl
theorem f122_151 : fetch 122 151 = some (.invokevirtual 85, 3, [121, 3, 10, 0, 8105, 1015, 8108, 8107, 83], .null) := by decide +kernel
theorem w122_151 (hp : psum st ≤ 8) : Wp d 122 151 [l0, l1, l2] (v2 :: v1 :: (.ref b) :: st) h Q = rP (h.2 b) 9 (Cp d 121 [(.ref b), v1, v2] h (fun o => cK o (fun w h2 => Wp d 122 154 [l0, l1, l2] (w.toList ++ st) h2 Q) (fun E h2 => Q (.inr E, h2)))) := (W_invV (st := st) f122_151 rfl rfl (by simp only [List.length_cons]; omega) rfl rfl hp).trans (by simp only [hm122, if_true])
theorem f122_154 : fetch 122 154 = some (.aload_n 0, 1, [], .null) := by decide +kernel
theorem w122_154 : Wp d 122 154 [some (.ref a), l1, l2] st h Q = Wp d 122 155 [some (.ref a), l1, l2] (.ref a :: st) h Q := W_go f122_154 rfl
theorem f122_155 : fetch 122 155 = some (.aload_n 1, 1, [], .null) := by decide +kernel
theorem w122_155 : Wp d 122 155 [l0, some (.ref a), l2] st h Q = Wp d 122 156 [l0, some (.ref a), l2] (.ref a :: st) h Q := W_go f122_155 rfl
theorem f122_156 : fetch 122 156 = some (.getfield 44, 3, [9, 13, 6063, 0], .null) := by decide +kernel
theorem w122_156 : Wp d 122 156 [l0, l1, l2] (.ref a :: st) h Q = gP (h.2 a) 9 13 (fun w => Wp d 122 159 [l0, l1, l2] (w :: st) h Q) := W_get f122_156 rfl
theorem f122_159 : fetch 122 159 = some (.aload_n 0, 1, [], .null) := by decide +kernel
theorem w122_159 : Wp d 122 159 [some (.ref a), l1, l2] st h Q = Wp d 122 160 [some (.ref a), l1, l2] (.ref a :: st) h Q := W_go f122_159 rfl
theorem f122_160 : fetch 122 160 = some (.getfield 44, 3, [9, 13, 6063, 0], .null) := by decide +kernel
theorem w122_160 : Wp d 122 160 [l0, l1, l2] (.ref a :: st) h Q = gP (h.2 a) 9 13 (fun w => Wp d 122 163 [l0, l1, l2] (w :: st) h Q) := W_get f122_160 rfl
theorem f122_163 : fetch 122 163 = some (.invokevirtual 85, 3, [121, 3, 10, 0, 8105, 1015, 8108, 8107, 83], .null) := by decide +kernel
theorem w122_163 (hp : psum st ≤ 8) : Wp d 122 163 [l0, l1, l2] (v2 :: v1 :: (.ref b) :: st) h Q = rP (h.2 b) 9 (Cp d 121 [(.ref b), v1, v2] h (fun o => cK o (fun w h2 => Wp d 122 166 [l0, l1, l2] (w.toList ++ st) h2 Q) (fun E h2 => Q (.inr E, h2)))) := (W_invV (st := st) f122_163 rfl rfl (by simp only [List.length_cons]; omega) rfl rfl hp).trans (by simp only [hm122, if_true])
theorem f122_166 : fetch 122 166 = some (.aload_n 0, 1, [], .null) := by decide +kernel
theorem w122_166 : Wp d 122 166 [some (.ref a), l1, l2] st h Q = Wp d 122 167 [some (.ref a), l1, l2] (.ref a :: st) h Q := W_go f122_166 rfl
theorem f122_167 : fetch 122 167 = some (.aload_n 1, 1, [], .null) := by decide +kernel
theorem w122_167 : Wp d 122 167 [l0, some (.ref a), l2] st h Q = Wp d 122 168 [l0, some (.ref a), l2] (.ref a :: st) h Q := W_go f122_167 rfl
theorem f122_168 : fetch 122 168 = some (.getfield 47, 3, [9, 14, 6065, 0], .null) := by decide +kernel
theorem w122_168 : Wp d 122 168 [l0, l1, l2] (.ref a :: st) h Q = gP (h.2 a) 9 14 (fun w => Wp d 122 171 [l0, l1, l2] (w :: st) h Q) := W_get f122_168 rfl
theorem f122_171 : fetch 122 171 = some (.aload_n 0, 1, [], .null) := by decide +kernel
theorem w122_171 : Wp d 122 171 [some (.ref a), l1, l2] st h Q = Wp d 122 172 [some (.ref a), l1, l2] (.ref a :: st) h Q := W_go f122_171 rfl
theorem f122_172 : fetch 122 172 = some (.getfield 47, 3, [9, 14, 6065, 0], .null) := by decide +kernel
theorem w122_172 : Wp d 122 172 [l0, l1, l2] (.ref a :: st) h Q = gP (h.2 a) 9 14 (fun w => Wp d 122 175 [l0, l1, l2] (w :: st) h Q) := W_get f122_172 rfl
theorem f122_175 : fetch 122 175 = some (.invokevirtual 85, 3, [121, 3, 10, 0, 8105, 1015, 8108, 8107, 83], .null) := by decide +kernel
theorem w122_175 (hp : psum st ≤ 8) : Wp d 122 175 [l0, l1, l2] (v2 :: v1 :: (.ref b) :: st) h Q = rP (h.2 b) 9 (Cp d 121 [(.ref b), v1, v2] h (fun o => cK o (fun w h2 => Wp d 122 178 [l0, l1, l2] (w.toList ++ st) h2 Q) (fun E h2 => Q (.inr E, h2)))) := (W_invV (st := st) f122_175 rfl rfl (by simp only [List.length_cons]; omega) rfl rfl hp).trans (by simp only [hm122, if_true])
theorem f122_178 : fetch 122 178 = some (.aload_n 0, 1, [], .null) := by decide +kernel
theorem w122_178 : Wp d 122 178 [some (.ref a), l1, l2] st h Q = Wp d 122 179 [some (.ref a), l1, l2] (.ref a :: st) h Q := W_go f122_178 rfl
theorem f122_179 : fetch 122 179 = some (.aload_n 1, 1, [], .null) := by decide +kernel
theorem w122_179 : Wp d 122 179 [l0, some (.ref a), l2] st h Q = Wp d 122 180 [l0, some (.ref a), l2] (.ref a :: st) h Q := W_go f122_179 rfl
theorem f122_180 : fetch 122 180 = some (.getfield 50, 3, [9, 15, 6067, 0], .null) := by decide +kernel
theorem w122_180 : Wp d 122 180 [l0, l1, l2] (.ref a :: st) h Q = gP (h.2 a) 9 15 (fun w => Wp d 122 183 [l0, l1, l2] (w :: st) h Q) := W_get f122_180 rfl
theorem f122_183 : fetch 122 183 = some (.aload_n 0, 1, [], .null) := by decide +kernel
theorem w122_183 : Wp d 122 183 [some (.ref a), l1, l2] st h Q = Wp d 122 184 [some (.ref a), l1, l2] (.ref a :: st) h Q := W_go f122_183 rfl
theorem f122_184 : fetch 122 184 = some (.getfield 50, 3, [9, 15, 6067, 0], .null) := by decide +kernel
theorem w122_184 : Wp d 122 184 [l0, l1, l2] (.ref a :: st) h Q = gP (h.2 a) 9 15 (fun w => Wp d 122 187 [l0, l1, l2] (w :: st) h Q) := W_get f122_184 rfl
theorem f122_187 : fetch 122 187 = some (.invokevirtual 85, 3, [121, 3, 10, 0, 8105, 1015, 8108, 8107, 83], .null) := by decide +kernel
theorem w122_187 (hp : psum st ≤ 8) : Wp d 122 187 [l0, l1, l2] (v2 :: v1 :: (.ref b) :: st) h Q = rP (h.2 b) 9 (Cp d 121 [(.ref b), v1, v2] h (fun o => cK o (fun w h2 => Wp d 122 190 [l0, l1, l2] (w.toList ++ st) h2 Q) (fun E h2 => Q (.inr E, h2)))) := (W_invV (st := st) f122_187 rfl rfl (by simp only [List.length_cons]; omega) rfl rfl hp).trans (by simp only [hm122, if_true])
theorem f122_190 : fetch 122 190 = some (.aload_n 0, 1, [], .null) := by decide +kernel
theorem w122_190 : Wp d 122 190 [some (.ref a), l1, l2] st h Q = Wp d 122 191 [some (.ref a), l1, l2] (.ref a :: st) h Q := W_go f122_190 rfl
theorem f122_191 : fetch 122 191 = some (.aload_n 1, 1, [], .null) := by decide +kernel
theorem w122_191 : Wp d 122 191 [l0, some (.ref a), l2] st h Q = Wp d 122 192 [l0, some (.ref a), l2] (.ref a :: st) h Q := W_go f122_191 rfl
theorem f122_192 : fetch 122 192 = some (.getfield 53, 3, [9, 16, 6069, 0], .null) := by decide +kernel
theorem w122_192 : Wp d 122 192 [l0, l1, l2] (.ref a :: st) h Q = gP (h.2 a) 9 16 (fun w => Wp d 122 195 [l0, l1, l2] (w :: st) h Q) := W_get f122_192 rfl
theorem f122_195 : fetch 122 195 = some (.aload_n 0, 1, [], .null) := by decide +kernel
theorem w122_195 : Wp d 122 195 [some (.ref a), l1, l2] st h Q = Wp d 122 196 [some (.ref a), l1, l2] (.ref a :: st) h Q := W_go f122_195 rfl
theorem f122_196 : fetch 122 196 = some (.getfield 53, 3, [9, 16, 6069, 0], .null) := by decide +kernel
theorem w122_196 : Wp d 122 196 [l0, l1, l2] (.ref a :: st) h Q = gP (h.2 a) 9 16 (fun w => Wp d 122 199 [l0, l1, l2] (w :: st) h Q) := W_get f122_196 rfl
theorem f122_199 : fetch 122 199 = some (.invokevirtual 85, 3, [121, 3, 10, 0, 8105, 1015, 8108, 8107, 83], .null) := by decide +kernel
theorem w122_199 (hp : psum st ≤ 8) : Wp d 122 199 [l0, l1, l2] (v2 :: v1 :: (.ref b) :: st) h Q = rP (h.2 b) 9 (Cp d 121 [(.ref b), v1, v2] h (fun o => cK o (fun w h2 => Wp d 122 202 [l0, l1, l2] (w.toList ++ st) h2 Q) (fun E h2 => Q (.inr E, h2)))) := (W_invV (st := st) f122_199 rfl rfl (by simp only [List.length_cons]; omega) rfl rfl hp).trans (by simp only [hm122, if_true])
theorem f122_202 : fetch 122 202 = some (.aload_n 0, 1, [], .null) := by decide +kernel
theorem w122_202 : Wp d 122 202 [some (.ref a), l1, l2] st h Q = Wp d 122 203 [some (.ref a), l1, l2] (.ref a :: st) h Q := W_go f122_202 rfl
theorem f122_203 : fetch 122 203 = some (.aload_n 1, 1, [], .null) := by decide +kernel
theorem w122_203 : Wp d 122 203 [l0, some (.ref a), l2] st h Q = Wp d 122 204 [l0, some (.ref a), l2] (.ref a :: st) h Q := W_go f122_203 rfl
theorem f122_204 : fetch 122 204 = some (.getfield 56, 3, [9, 17, 6071, 0], .null) := by decide +kernel
theorem w122_204 : Wp d 122 204 [l0, l1, l2] (.ref a :: st) h Q = gP (h.2 a) 9 17 (fun w => Wp d 122 207 [l0, l1, l2] (w :: st) h Q) := W_get f122_204 rfl
theorem f122_207 : fetch 122 207 = some (.aload_n 0, 1, [], .null) := by decide +kernel
theorem w122_207 : Wp d 122 207 [some (.ref a), l1, l2] st h Q = Wp d 122 208 [some (.ref a), l1, l2] (.ref a :: st) h Q := W_go f122_207 rfl
theorem f122_208 : fetch 122 208 = some (.getfield 56, 3, [9, 17, 6071, 0], .null) := by decide +kernel
theorem w122_208 : Wp d 122 208 [l0, l1, l2] (.ref a :: st) h Q = gP (h.2 a) 9 17 (fun w => Wp d 122 211 [l0, l1, l2] (w :: st) h Q) := W_get f122_208 rfl
theorem f122_211 : fetch 122 211 = some (.invokevirtual 85, 3, [121, 3, 10, 0, 8105, 1015, 8108, 8107, 83], .null) := by decide +kernel
theorem w122_211 (hp : psum st ≤ 8) : Wp d 122 211 [l0, l1, l2] (v2 :: v1 :: (.ref b) :: st) h Q = rP (h.2 b) 9 (Cp d 121 [(.ref b), v1, v2] h (fun o => cK o (fun w h2 => Wp d 122 214 [l0, l1, l2] (w.toList ++ st) h2 Q) (fun E h2 => Q (.inr E, h2)))) := (W_invV (st := st) f122_211 rfl rfl (by simp only [List.length_cons]; omega) rfl rfl hp).trans (by simp only [hm122, if_true])
theorem f122_214 : fetch 122 214 = some (.aload_n 0, 1, [], .null) := by decide +kernel
theorem w122_214 : Wp d 122 214 [some (.ref a), l1, l2] st h Q = Wp d 122 215 [some (.ref a), l1, l2] (.ref a :: st) h Q := W_go f122_214 rfl
theorem f122_215 : fetch 122 215 = some (.aload_n 1, 1, [], .null) := by decide +kernel
theorem w122_215 : Wp d 122 215 [l0, some (.ref a), l2] st h Q = Wp d 122 216 [l0, some (.ref a), l2] (.ref a :: st) h Q := W_go f122_215 rfl
theorem f122_216 : fetch 122 216 = some (.getfield 59, 3, [9, 18, 6072, 0], .null) := by decide +kernel
theorem w122_216 : Wp d 122 216 [l0, l1, l2] (.ref a :: st) h Q = gP (h.2 a) 9 18 (fun w => Wp d 122 219 [l0, l1, l2] (w :: st) h Q) := W_get f122_216 rfl
theorem f122_219 : fetch 122 219 = some (.aload_n 0, 1, [], .null) := by decide +kernel
theorem w122_219 : Wp d 122 219 [some (.ref a), l1, l2] st h Q = Wp d 122 220 [some (.ref a), l1, l2] (.ref a :: st) h Q := W_go f122_219 rfl
theorem f122_220 : fetch 122 220 = some (.getfield 59, 3, [9, 18, 6072, 0], .null) := by decide +kernel
theorem w122_220 : Wp d 122 220 [l0, l1, l2] (.ref a :: st) h Q = gP (h.2 a) 9 18 (fun w => Wp d 122 223 [l0, l1, l2] (w :: st) h Q) := W_get f122_220 rfl
theorem f122_223 : fetch 122 223 = some (.invokevirtual 85, 3, [121, 3, 10, 0, 8105, 1015, 8108, 8107, 83], .null) := by decide +kernel
theorem w122_223 (hp : psum st ≤ 8) : Wp d 122 223 [l0, l1, l2] (v2 :: v1 :: (.ref b) :: st) h Q = rP (h.2 b) 9 (Cp d 121 [(.ref b), v1, v2] h (fun o => cK o (fun w h2 => Wp d 122 226 [l0, l1, l2] (w.toList ++ st) h2 Q) (fun E h2 => Q (.inr E, h2)))) := (W_invV (st := st) f122_223 rfl rfl (by simp only [List.length_cons]; omega) rfl rfl hp).trans (by simp only [hm122, if_true])
theorem f122_226 : fetch 122 226 = some (.aload_n 0, 1, [], .null) := by decide +kernel
theorem w122_226 : Wp d 122 226 [some (.ref a), l1, l2] st h Q = Wp d 122 227 [some (.ref a), l1, l2] (.ref a :: st) h Q := W_go f122_226 rfl
theorem f122_227 : fetch 122 227 = some (.aload_n 1, 1, [], .null) := by decide +kernel
theorem w122_227 : Wp d 122 227 [l0, some (.ref a), l2] st h Q = Wp d 122 228 [l0, some (.ref a), l2] (.ref a :: st) h Q := W_go f122_227 rfl
theorem f122_228 : fetch 122 228 = some (.getfield 62, 3, [9, 19, 6073, 0], .null) := by decide +kernel
theorem w122_228 : Wp d 122 228 [l0, l1, l2] (.ref a :: st) h Q = gP (h.2 a) 9 19 (fun w => Wp d 122 231 [l0, l1, l2] (w :: st) h Q) := W_get f122_228 rfl
theorem f122_231 : fetch 122 231 = some (.aload_n 0, 1, [], .null) := by decide +kernel
theorem w122_231 : Wp d 122 231 [some (.ref a), l1, l2] st h Q = Wp d 122 232 [some (.ref a), l1, l2] (.ref a :: st) h Q := W_go f122_231 rfl
theorem f122_232 : fetch 122 232 = some (.getfield 62, 3, [9, 19, 6073, 0], .null) := by decide +kernel
theorem w122_232 : Wp d 122 232 [l0, l1, l2] (.ref a :: st) h Q = gP (h.2 a) 9 19 (fun w => Wp d 122 235 [l0, l1, l2] (w :: st) h Q) := W_get f122_232 rfl
theorem f122_235 : fetch 122 235 = some (.invokevirtual 85, 3, [121, 3, 10, 0, 8105, 1015, 8108, 8107, 83], .null) := by decide +kernel
theorem w122_235 (hp : psum st ≤ 8) : Wp d 122 235 [l0, l1, l2] (v2 :: v1 :: (.ref b) :: st) h Q = rP (h.2 b) 9 (Cp d 121 [(.ref b), v1, v2] h (fun o => cK o (fun w h2 => Wp d 122 238 [l0, l1, l2] (w.toList ++ st) h2 Q) (fun E h2 => Q (.inr E, h2)))) := (W_invV (st := st) f122_235 rfl rfl (by simp only [List.length_cons]; omega) rfl rfl hp).trans (by simp only [hm122, if_true])
theorem f122_238 : fetch 122 238 = some (.aload_n 0, 1, [], .null) := by decide +kernel
theorem w122_238 : Wp d 122 238 [some (.ref a), l1, l2] st h Q = Wp d 122 239 [some (.ref a), l1, l2] (.ref a :: st) h Q := W_go f122_238 rfl
theorem f122_239 : fetch 122 239 = some (.areturn, 1, [], .null) := by decide +kernel
theorem w122_239 : Wp d 122 239 [l0, l1, l2] [.ref a] h Q = Q (.inl (some (.ref a)), h) := W_fin f122_239 rfl
theorem hm123 : mhs 123 = [] := by decide +kernel
theorem f123_0 : fetch 123 0 = some (.aload_n 0, 1, [], .null) := by decide +kernel
theorem w123_0 : Wp d 123 0 [some (.ref a), l1] st h Q = Wp d 123 1 [some (.ref a), l1] (.ref a :: st) h Q := W_go f123_0 rfl
theorem f123_1 : fetch 123 1 = some (.iconst 0, 1, [], .null) := by decide +kernel
theorem w123_1 : Wp d 123 1 [l0, l1] st h Q = Wp d 123 2 [l0, l1] (.int (0 : Int32) :: st) h Q := W_go f123_1 rfl
theorem f123_2 : fetch 123 2 = some (.putfield 71, 3, [9, 0, 6038, 0], .null) := by decide +kernel
theorem w123_2 : Wp d 123 2 [l0, l1] (v :: .ref a :: st) h Q = pP (h.2 a) 9 0 (ftOf 9 0) v a (fun c => Wp d 123 5 [l0, l1] st (hset h a c) Q) := W_put f123_2 (by rfl)
theorem f123_5 : fetch 123 5 = some (.aload_n 0, 1, [], .null) := by decide +kernel
theorem w123_5 : Wp d 123 5 [some (.ref a), l1] st h Q = Wp d 123 6 [some (.ref a), l1] (.ref a :: st) h Q := W_go f123_5 rfl
theorem f123_6 : fetch 123 6 = some (.iconst 0, 1, [], .null) := by decide +kernel
theorem w123_6 : Wp d 123 6 [l0, l1] st h Q = Wp d 123 7 [l0, l1] (.int (0 : Int32) :: st) h Q := W_go f123_6 rfl
theorem f123_7 : fetch 123 7 = some (.putfield 75, 3, [9, 1, 6040, 0], .null) := by decide +kernel
theorem w123_7 : Wp d 123 7 [l0, l1] (v :: .ref a :: st) h Q = pP (h.2 a) 9 1 (ftOf 9 1) v a (fun c => Wp d 123 10 [l0, l1] st (hset h a c) Q) := W_put f123_7 (by rfl)
theorem f123_10 : fetch 123 10 = some (.aload_n 0, 1, [], .null) := by decide +kernel
theorem w123_10 : Wp d 123 10 [some (.ref a), l1] st h Q = Wp d 123 11 [some (.ref a), l1] (.ref a :: st) h Q := W_go f123_10 rfl
theorem f123_11 : fetch 123 11 = some (.iconst 0, 1, [], .null) := by decide +kernel
theorem w123_11 : Wp d 123 11 [l0, l1] st h Q = Wp d 123 12 [l0, l1] (.int (0 : Int32) :: st) h Q := W_go f123_11 rfl
theorem f123_12 : fetch 123 12 = some (.putfield 78, 3, [9, 2, 6042, 0], .null) := by decide +kernel
theorem w123_12 : Wp d 123 12 [l0, l1] (v :: .ref a :: st) h Q = pP (h.2 a) 9 2 (ftOf 9 2) v a (fun c => Wp d 123 15 [l0, l1] st (hset h a c) Q) := W_put f123_12 (by rfl)
theorem f123_15 : fetch 123 15 = some (.aload_n 0, 1, [], .null) := by decide +kernel
theorem w123_15 : Wp d 123 15 [some (.ref a), l1] st h Q = Wp d 123 16 [some (.ref a), l1] (.ref a :: st) h Q := W_go f123_15 rfl
theorem f123_16 : fetch 123 16 = some (.iconst 0, 1, [], .null) := by decide +kernel
theorem w123_16 : Wp d 123 16 [l0, l1] st h Q = Wp d 123 17 [l0, l1] (.int (0 : Int32) :: st) h Q := W_go f123_16 rfl
theorem f123_17 : fetch 123 17 = some (.putfield 82, 3, [9, 3, 6044, 0], .null) := by decide +kernel
theorem w123_17 : Wp d 123 17 [l0, l1] (v :: .ref a :: st) h Q = pP (h.2 a) 9 3 (ftOf 9 3) v a (fun c => Wp d 123 20 [l0, l1] st (hset h a c) Q) := W_put f123_17 (by rfl)
theorem f123_20 : fetch 123 20 = some (.iconst 0, 1, [], .null) := by decide +kernel
theorem w123_20 : Wp d 123 20 [l0, l1] st h Q = Wp d 123 21 [l0, l1] (.int (0 : Int32) :: st) h Q := W_go f123_20 rfl
theorem f123_21 : fetch 123 21 = some (.istore_n 1, 1, [], .null) := by decide +kernel
theorem w123_21 : Wp d 123 21 [l0, l1] (.int x :: st) h Q = Wp d 123 22 [kl l0, some (.int x)] st h Q := (W_st1 (pc' := 22) (k := 1) f123_21 rfl rfl (by simp only [List.length_cons, List.length_nil]; omega)).trans (by rw [pst1_succ]; rfl)
theorem f123_22 : fetch 123 22 = some (.iload_n 1, 1, [], .null) := by decide +kernel
theorem w123_22 : Wp d 123 22 [l0, some (.int x)] st h Q = Wp d 123 23 [l0, some (.int x)] (.int x :: st) h Q := W_go f123_22 rfl
theorem f123_23 : fetch 123 23 = some (.bipush 10, 2, [], .null) := by decide +kernel
theorem w123_23 : Wp d 123 23 [l0, l1] st h Q = Wp d 123 25 [l0, l1] (.int (10 : Int32) :: st) h Q := W_go f123_23 rfl
theorem f123_25 : fetch 123 25 = some (.if_icmp .ge 56, 3, [], .null) := by decide +kernel
theorem w123_25 : Wp d 123 25 [l0, l1] (.int y :: .int x :: st) h Q = if icond .ge x y = true then Wp d 123 81 [l0, l1] st h Q else Wp d 123 28 [l0, l1] st h Q := W_if f123_25 rfl
theorem f123_28 : fetch 123 28 = some (.aload_n 0, 1, [], .null) := by decide +kernel
theorem w123_28 : Wp d 123 28 [some (.ref a), l1] st h Q = Wp d 123 29 [some (.ref a), l1] (.ref a :: st) h Q := W_go f123_28 rfl
theorem f123_29 : fetch 123 29 = some (.getfield 15, 3, [9, 4, 6046, 0], .null) := by decide +kernel
theorem w123_29 : Wp d 123 29 [l0, l1] (.ref a :: st) h Q = gP (h.2 a) 9 4 (fun w => Wp d 123 32 [l0, l1] (w :: st) h Q) := W_get f123_29 rfl
theorem f123_32 : fetch 123 32 = some (.iload_n 1, 1, [], .null) := by decide +kernel
theorem w123_32 : Wp d 123 32 [l0, some (.int x)] st h Q = Wp d 123 33 [l0, some (.int x)] (.int x :: st) h Q := W_go f123_32 rfl
theorem f123_33 : fetch 123 33 = some (.aload_n 0, 1, [], .null) := by decide +kernel
theorem w123_33 : Wp d 123 33 [some (.ref a), l1] st h Q = Wp d 123 34 [some (.ref a), l1] (.ref a :: st) h Q := W_go f123_33 rfl
theorem f123_34 : fetch 123 34 = some (.getfield 3, 3, [9, 20, 6074, 0], .null) := by decide +kernel
theorem w123_34 : Wp d 123 34 [l0, l1] (.ref a :: st) h Q = gP (h.2 a) 9 20 (fun w => Wp d 123 37 [l0, l1] (w :: st) h Q) := W_get f123_34 rfl
theorem f123_37 : fetch 123 37 = some (.getfield 89, 3, [10, 10, 6142, 1], .null) := by decide +kernel
theorem w123_37 : Wp d 123 37 [l0, l1] (.ref a :: st) h Q = gP (h.2 a) 10 10 (fun w => Wp d 123 40 [l0, l1] (w :: st) h Q) := W_get f123_37 rfl
theorem f123_40 : fetch 123 40 = some (.getfield 93, 3, [8, 4, 5182, 1], .null) := by decide +kernel
theorem w123_40 : Wp d 123 40 [l0, l1] (.ref a :: st) h Q = gP (h.2 a) 8 4 (fun w => Wp d 123 43 [l0, l1] (w :: st) h Q) := W_get f123_40 rfl
theorem f123_43 : fetch 123 43 = some (.iload_n 1, 1, [], .null) := by decide +kernel
theorem w123_43 : Wp d 123 43 [l0, some (.int x)] st h Q = Wp d 123 44 [l0, some (.int x)] (.int x :: st) h Q := W_go f123_43 rfl
theorem f123_44 : fetch 123 44 = some (.iaload, 1, [], .null) := by decide +kernel
theorem w123_44 : Wp d 123 44 [l0, l1] (.int x :: .ref a :: st) h Q = aP false (h.2 a) x (fun w => Wp d 123 45 [l0, l1] (.int w :: st) h Q) := W_ald f123_44 rfl
theorem f123_45 : fetch 123 45 = some (.iastore, 1, [], .null) := by decide +kernel
theorem w123_45 : Wp d 123 45 [l0, l1] (.int y :: .int x :: .ref a :: st) h Q = asP false (h.2 a) a x y (fun c => Wp d 123 46 [l0, l1] st (hset h a c) Q) := W_ast f123_45 rfl
theorem f123_46 : fetch 123 46 = some (.aload_n 0, 1, [], .null) := by decide +kernel
theorem w123_46 : Wp d 123 46 [some (.ref a), l1] st h Q = Wp d 123 47 [some (.ref a), l1] (.ref a :: st) h Q := W_go f123_46 rfl
theorem f123_47 : fetch 123 47 = some (.getfield 19, 3, [9, 5, 6048, 0], .null) := by decide +kernel
theorem w123_47 : Wp d 123 47 [l0, l1] (.ref a :: st) h Q = gP (h.2 a) 9 5 (fun w => Wp d 123 50 [l0, l1] (w :: st) h Q) := W_get f123_47 rfl
theorem f123_50 : fetch 123 50 = some (.iload_n 1, 1, [], .null) := by decide +kernel
theorem w123_50 : Wp d 123 50 [l0, some (.int x)] st h Q = Wp d 123 51 [l0, some (.int x)] (.int x :: st) h Q := W_go f123_50 rfl
theorem f123_51 : fetch 123 51 = some (.bipush 10, 2, [], .null) := by decide +kernel
theorem w123_51 : Wp d 123 51 [l0, l1] st h Q = Wp d 123 53 [l0, l1] (.int (10 : Int32) :: st) h Q := W_go f123_51 rfl
theorem f123_53 : fetch 123 53 = some (.iastore, 1, [], .null) := by decide +kernel
theorem w123_53 : Wp d 123 53 [l0, l1] (.int y :: .int x :: .ref a :: st) h Q = asP false (h.2 a) a x y (fun c => Wp d 123 54 [l0, l1] st (hset h a c) Q) := W_ast f123_53 rfl
theorem f123_54 : fetch 123 54 = some (.aload_n 0, 1, [], .null) := by decide +kernel
theorem w123_54 : Wp d 123 54 [some (.ref a), l1] st h Q = Wp d 123 55 [some (.ref a), l1] (.ref a :: st) h Q := W_go f123_54 rfl
theorem f123_55 : fetch 123 55 = some (.getfield 22, 3, [9, 6, 6050, 0], .null) := by decide +kernel
theorem w123_55 : Wp d 123 55 [l0, l1] (.ref a :: st) h Q = gP (h.2 a) 9 6 (fun w => Wp d 123 58 [l0, l1] (w :: st) h Q) := W_get f123_55 rfl
theorem f123_58 : fetch 123 58 = some (.iload_n 1, 1, [], .null) := by decide +kernel
theorem w123_58 : Wp d 123 58 [l0, some (.int x)] st h Q = Wp d 123 59 [l0, some (.int x)] (.int x :: st) h Q := W_go f123_58 rfl
theorem f123_59 : fetch 123 59 = some (.iconst 0, 1, [], .null) := by decide +kernel
theorem w123_59 : Wp d 123 59 [l0, l1] st h Q = Wp d 123 60 [l0, l1] (.int (0 : Int32) :: st) h Q := W_go f123_59 rfl
theorem f123_60 : fetch 123 60 = some (.iastore, 1, [], .null) := by decide +kernel
theorem w123_60 : Wp d 123 60 [l0, l1] (.int y :: .int x :: .ref a :: st) h Q = asP false (h.2 a) a x y (fun c => Wp d 123 61 [l0, l1] st (hset h a c) Q) := W_ast f123_60 rfl
theorem f123_61 : fetch 123 61 = some (.aload_n 0, 1, [], .null) := by decide +kernel
theorem w123_61 : Wp d 123 61 [some (.ref a), l1] st h Q = Wp d 123 62 [some (.ref a), l1] (.ref a :: st) h Q := W_go f123_61 rfl
theorem f123_62 : fetch 123 62 = some (.getfield 25, 3, [9, 7, 6051, 0], .null) := by decide +kernel
theorem w123_62 : Wp d 123 62 [l0, l1] (.ref a :: st) h Q = gP (h.2 a) 9 7 (fun w => Wp d 123 65 [l0, l1] (w :: st) h Q) := W_get f123_62 rfl
theorem f123_65 : fetch 123 65 = some (.iload_n 1, 1, [], .null) := by decide +kernel
theorem w123_65 : Wp d 123 65 [l0, some (.int x)] st h Q = Wp d 123 66 [l0, some (.int x)] (.int x :: st) h Q := W_go f123_65 rfl
theorem f123_66 : fetch 123 66 = some (.iconst 0, 1, [], .null) := by decide +kernel
theorem w123_66 : Wp d 123 66 [l0, l1] st h Q = Wp d 123 67 [l0, l1] (.int (0 : Int32) :: st) h Q := W_go f123_66 rfl
theorem f123_67 : fetch 123 67 = some (.iastore, 1, [], .null) := by decide +kernel
theorem w123_67 : Wp d 123 67 [l0, l1] (.int y :: .int x :: .ref a :: st) h Q = asP false (h.2 a) a x y (fun c => Wp d 123 68 [l0, l1] st (hset h a c) Q) := W_ast f123_67 rfl
theorem f123_68 : fetch 123 68 = some (.aload_n 0, 1, [], .null) := by decide +kernel
theorem w123_68 : Wp d 123 68 [some (.ref a), l1] st h Q = Wp d 123 69 [some (.ref a), l1] (.ref a :: st) h Q := W_go f123_68 rfl
theorem f123_69 : fetch 123 69 = some (.getfield 28, 3, [9, 8, 6053, 0], .null) := by decide +kernel
theorem w123_69 : Wp d 123 69 [l0, l1] (.ref a :: st) h Q = gP (h.2 a) 9 8 (fun w => Wp d 123 72 [l0, l1] (w :: st) h Q) := W_get f123_69 rfl
theorem f123_72 : fetch 123 72 = some (.iload_n 1, 1, [], .null) := by decide +kernel
theorem w123_72 : Wp d 123 72 [l0, some (.int x)] st h Q = Wp d 123 73 [l0, some (.int x)] (.int x :: st) h Q := W_go f123_72 rfl
theorem f123_73 : fetch 123 73 = some (.iconst 0, 1, [], .null) := by decide +kernel
theorem w123_73 : Wp d 123 73 [l0, l1] st h Q = Wp d 123 74 [l0, l1] (.int (0 : Int32) :: st) h Q := W_go f123_73 rfl
theorem f123_74 : fetch 123 74 = some (.bastore, 1, [], .null) := by decide +kernel
theorem w123_74 : Wp d 123 74 [l0, l1] (.int y :: .int x :: .ref a :: st) h Q = asP true (h.2 a) a x y (fun c => Wp d 123 75 [l0, l1] st (hset h a c) Q) := W_ast f123_74 rfl
theorem f123_75 : fetch 123 75 = some (.iinc 1 1, 3, [], .null) := by decide +kernel
theorem w123_75 : Wp d 123 75 [l0, some (.int x)] st h Q = Wp d 123 78 [kl l0, some (.int (x + (1 : Int32)))] st h Q := (W_iinc (y := (1 : Int32)) f123_75 rfl (by simp only [List.length_cons, List.length_nil]; omega) (by decide)).trans (by rw [pst1_succ]; rfl)
theorem f123_78 : fetch 123 78 = some (.goto (-56), 3, [], .null) := by decide +kernel
theorem w123_78 : Wp d 123 78 [l0, l1] st h Q = Wp d 123 22 [l0, l1] st h Q := W_go f123_78 rfl
theorem f123_81 : fetch 123 81 = some (.iconst 0, 1, [], .null) := by decide +kernel
theorem w123_81 : Wp d 123 81 [l0, l1] st h Q = Wp d 123 82 [l0, l1] (.int (0 : Int32) :: st) h Q := W_go f123_81 rfl
theorem f123_82 : fetch 123 82 = some (.istore_n 1, 1, [], .null) := by decide +kernel
theorem w123_82 : Wp d 123 82 [l0, l1] (.int x :: st) h Q = Wp d 123 83 [kl l0, some (.int x)] st h Q := (W_st1 (pc' := 83) (k := 1) f123_82 rfl rfl (by simp only [List.length_cons, List.length_nil]; omega)).trans (by rw [pst1_succ]; rfl)
theorem f123_83 : fetch 123 83 = some (.iload_n 1, 1, [], .null) := by decide +kernel
theorem w123_83 : Wp d 123 83 [l0, some (.int x)] st h Q = Wp d 123 84 [l0, some (.int x)] (.int x :: st) h Q := W_go f123_83 rfl
theorem f123_84 : fetch 123 84 = some (.aload_n 0, 1, [], .null) := by decide +kernel
theorem w123_84 : Wp d 123 84 [some (.ref a), l1] st h Q = Wp d 123 85 [some (.ref a), l1] (.ref a :: st) h Q := W_go f123_84 rfl
theorem f123_85 : fetch 123 85 = some (.getfield 3, 3, [9, 20, 6074, 0], .null) := by decide +kernel
theorem w123_85 : Wp d 123 85 [l0, l1] (.ref a :: st) h Q = gP (h.2 a) 9 20 (fun w => Wp d 123 88 [l0, l1] (w :: st) h Q) := W_get f123_85 rfl
theorem f123_88 : fetch 123 88 = some (.getfield 98, 3, [10, 12, 6144, 1], .null) := by decide +kernel
theorem w123_88 : Wp d 123 88 [l0, l1] (.ref a :: st) h Q = gP (h.2 a) 10 12 (fun w => Wp d 123 91 [l0, l1] (w :: st) h Q) := W_get f123_88 rfl
theorem f123_91 : fetch 123 91 = some (.if_icmp .ge 14, 3, [], .null) := by decide +kernel
theorem w123_91 : Wp d 123 91 [l0, l1] (.int y :: .int x :: st) h Q = if icond .ge x y = true then Wp d 123 105 [l0, l1] st h Q else Wp d 123 94 [l0, l1] st h Q := W_if f123_91 rfl
theorem f123_94 : fetch 123 94 = some (.aload_n 0, 1, [], .null) := by decide +kernel
theorem w123_94 : Wp d 123 94 [some (.ref a), l1] st h Q = Wp d 123 95 [some (.ref a), l1] (.ref a :: st) h Q := W_go f123_94 rfl
theorem f123_95 : fetch 123 95 = some (.iload_n 1, 1, [], .null) := by decide +kernel
theorem w123_95 : Wp d 123 95 [l0, some (.int x)] st h Q = Wp d 123 96 [l0, some (.int x)] (.int x :: st) h Q := W_go f123_95 rfl
theorem f123_96 : fetch 123 96 = some (.invokevirtual 101, 3, [124, 2, 10, 0, 6123, 1015, 6126, 6124, 6125], .null) := by decide +kernel
theorem w123_96 (hp : psum st ≤ 8) : Wp d 123 96 [l0, l1] (v1 :: (.ref b) :: st) h Q = rP (h.2 b) 9 (Cp d 124 [(.ref b), v1] h (fun o => cK o (fun w h2 => Wp d 123 99 [l0, l1] (w.toList ++ st) h2 Q) (fun E h2 => Q (.inr E, h2)))) := (W_invV (st := st) f123_96 rfl rfl (by simp only [List.length_cons]; omega) rfl rfl hp).trans (by simp only [hm123, if_true])
theorem f123_99 : fetch 123 99 = some (.iinc 1 1, 3, [], .null) := by decide +kernel
theorem w123_99 : Wp d 123 99 [l0, some (.int x)] st h Q = Wp d 123 102 [kl l0, some (.int (x + (1 : Int32)))] st h Q := (W_iinc (y := (1 : Int32)) f123_99 rfl (by simp only [List.length_cons, List.length_nil]; omega) (by decide)).trans (by rw [pst1_succ]; rfl)
theorem f123_102 : fetch 123 102 = some (.goto (-19), 3, [], .null) := by decide +kernel
theorem w123_102 : Wp d 123 102 [l0, l1] st h Q = Wp d 123 83 [l0, l1] st h Q := W_go f123_102 rfl
theorem f123_105 : fetch 123 105 = some (.return_, 1, [], .null) := by decide +kernel
theorem w123_105 : Wp d 123 105 [l0, l1] [] h Q = Q (.inl none, h) := W_fin f123_105 rfl
theorem hm124 : mhs 124 = [] := by decide +kernel
theorem f124_0 : fetch 124 0 = some (.aload_n 0, 1, [], .null) := by decide +kernel
theorem w124_0 : Wp d 124 0 [some (.ref a), l1] st h Q = Wp d 124 1 [some (.ref a), l1] (.ref a :: st) h Q := W_go f124_0 rfl
theorem f124_1 : fetch 124 1 = some (.getfield 32, 3, [9, 9, 6055, 0], .null) := by decide +kernel
theorem w124_1 : Wp d 124 1 [l0, l1] (.ref a :: st) h Q = gP (h.2 a) 9 9 (fun w => Wp d 124 4 [l0, l1] (w :: st) h Q) := W_get f124_1 rfl
theorem f124_4 : fetch 124 4 = some (.iload_n 1, 1, [], .null) := by decide +kernel
theorem w124_4 : Wp d 124 4 [l0, some (.int x)] st h Q = Wp d 124 5 [l0, some (.int x)] (.int x :: st) h Q := W_go f124_4 rfl
theorem f124_5 : fetch 124 5 = some (.aload_n 0, 1, [], .null) := by decide +kernel
theorem w124_5 : Wp d 124 5 [some (.ref a), l1] st h Q = Wp d 124 6 [some (.ref a), l1] (.ref a :: st) h Q := W_go f124_5 rfl
theorem f124_6 : fetch 124 6 = some (.getfield 3, 3, [9, 20, 6074, 0], .null) := by decide +kernel
theorem w124_6 : Wp d 124 6 [l0, l1] (.ref a :: st) h Q = gP (h.2 a) 9 20 (fun w => Wp d 124 9 [l0, l1] (w :: st) h Q) := W_get f124_6 rfl
theorem f124_9 : fetch 124 9 = some (.getfield 105, 3, [10, 13, 6147, 1], .null) := by decide +kernel
theorem w124_9 : Wp d 124 9 [l0, l1] (.ref a :: st) h Q = gP (h.2 a) 10 13 (fun w => Wp d 124 12 [l0, l1] (w :: st) h Q) := W_get f124_9 rfl
theorem f124_12 : fetch 124 12 = some (.iload_n 1, 1, [], .null) := by decide +kernel
theorem w124_12 : Wp d 124 12 [l0, some (.int x)] st h Q = Wp d 124 13 [l0, some (.int x)] (.int x :: st) h Q := W_go f124_12 rfl
theorem f124_13 : fetch 124 13 = some (.iaload, 1, [], .null) := by decide +kernel
theorem w124_13 : Wp d 124 13 [l0, l1] (.int x :: .ref a :: st) h Q = aP false (h.2 a) x (fun w => Wp d 124 14 [l0, l1] (.int w :: st) h Q) := W_ald f124_13 rfl
theorem f124_14 : fetch 124 14 = some (.iastore, 1, [], .null) := by decide +kernel
theorem w124_14 : Wp d 124 14 [l0, l1] (.int y :: .int x :: .ref a :: st) h Q = asP false (h.2 a) a x y (fun c => Wp d 124 15 [l0, l1] st (hset h a c) Q) := W_ast f124_14 rfl
theorem f124_15 : fetch 124 15 = some (.aload_n 0, 1, [], .null) := by decide +kernel
theorem w124_15 : Wp d 124 15 [some (.ref a), l1] st h Q = Wp d 124 16 [some (.ref a), l1] (.ref a :: st) h Q := W_go f124_15 rfl
theorem f124_16 : fetch 124 16 = some (.getfield 35, 3, [9, 10, 6057, 0], .null) := by decide +kernel
theorem w124_16 : Wp d 124 16 [l0, l1] (.ref a :: st) h Q = gP (h.2 a) 9 10 (fun w => Wp d 124 19 [l0, l1] (w :: st) h Q) := W_get f124_16 rfl
theorem f124_19 : fetch 124 19 = some (.iload_n 1, 1, [], .null) := by decide +kernel
theorem w124_19 : Wp d 124 19 [l0, some (.int x)] st h Q = Wp d 124 20 [l0, some (.int x)] (.int x :: st) h Q := W_go f124_19 rfl
theorem f124_20 : fetch 124 20 = some (.iconst 0, 1, [], .null) := by decide +kernel
theorem w124_20 : Wp d 124 20 [l0, l1] st h Q = Wp d 124 21 [l0, l1] (.int (0 : Int32) :: st) h Q := W_go f124_20 rfl
theorem f124_21 : fetch 124 21 = some (.iastore, 1, [], .null) := by decide +kernel
theorem w124_21 : Wp d 124 21 [l0, l1] (.int y :: .int x :: .ref a :: st) h Q = asP false (h.2 a) a x y (fun c => Wp d 124 22 [l0, l1] st (hset h a c) Q) := W_ast f124_21 rfl
theorem f124_22 : fetch 124 22 = some (.aload_n 0, 1, [], .null) := by decide +kernel
theorem w124_22 : Wp d 124 22 [some (.ref a), l1] st h Q = Wp d 124 23 [some (.ref a), l1] (.ref a :: st) h Q := W_go f124_22 rfl
theorem f124_23 : fetch 124 23 = some (.getfield 38, 3, [9, 11, 6059, 0], .null) := by decide +kernel
theorem w124_23 : Wp d 124 23 [l0, l1] (.ref a :: st) h Q = gP (h.2 a) 9 11 (fun w => Wp d 124 26 [l0, l1] (w :: st) h Q) := W_get f124_23 rfl
theorem f124_26 : fetch 124 26 = some (.iload_n 1, 1, [], .null) := by decide +kernel
theorem w124_26 : Wp d 124 26 [l0, some (.int x)] st h Q = Wp d 124 27 [l0, some (.int x)] (.int x :: st) h Q := W_go f124_26 rfl
theorem f124_27 : fetch 124 27 = some (.iconst (-1), 1, [], .null) := by decide +kernel
theorem w124_27 : Wp d 124 27 [l0, l1] st h Q = Wp d 124 28 [l0, l1] (.int (-1 : Int32) :: st) h Q := W_go f124_27 rfl
theorem f124_28 : fetch 124 28 = some (.iastore, 1, [], .null) := by decide +kernel
theorem w124_28 : Wp d 124 28 [l0, l1] (.int y :: .int x :: .ref a :: st) h Q = asP false (h.2 a) a x y (fun c => Wp d 124 29 [l0, l1] st (hset h a c) Q) := W_ast f124_28 rfl
theorem f124_29 : fetch 124 29 = some (.aload_n 0, 1, [], .null) := by decide +kernel
theorem w124_29 : Wp d 124 29 [some (.ref a), l1] st h Q = Wp d 124 30 [some (.ref a), l1] (.ref a :: st) h Q := W_go f124_29 rfl
theorem f124_30 : fetch 124 30 = some (.getfield 47, 3, [9, 14, 6065, 0], .null) := by decide +kernel
theorem w124_30 : Wp d 124 30 [l0, l1] (.ref a :: st) h Q = gP (h.2 a) 9 14 (fun w => Wp d 124 33 [l0, l1] (w :: st) h Q) := W_get f124_30 rfl
theorem f124_33 : fetch 124 33 = some (.iload_n 1, 1, [], .null) := by decide +kernel
theorem w124_33 : Wp d 124 33 [l0, some (.int x)] st h Q = Wp d 124 34 [l0, some (.int x)] (.int x :: st) h Q := W_go f124_33 rfl
theorem f124_34 : fetch 124 34 = some (.iconst 0, 1, [], .null) := by decide +kernel
theorem w124_34 : Wp d 124 34 [l0, l1] st h Q = Wp d 124 35 [l0, l1] (.int (0 : Int32) :: st) h Q := W_go f124_34 rfl
theorem f124_35 : fetch 124 35 = some (.iastore, 1, [], .null) := by decide +kernel
theorem w124_35 : Wp d 124 35 [l0, l1] (.int y :: .int x :: .ref a :: st) h Q = asP false (h.2 a) a x y (fun c => Wp d 124 36 [l0, l1] st (hset h a c) Q) := W_ast f124_35 rfl
theorem f124_36 : fetch 124 36 = some (.aload_n 0, 1, [], .null) := by decide +kernel
theorem w124_36 : Wp d 124 36 [some (.ref a), l1] st h Q = Wp d 124 37 [some (.ref a), l1] (.ref a :: st) h Q := W_go f124_36 rfl
theorem f124_37 : fetch 124 37 = some (.iload_n 1, 1, [], .null) := by decide +kernel
theorem w124_37 : Wp d 124 37 [l0, some (.int x)] st h Q = Wp d 124 38 [l0, some (.int x)] (.int x :: st) h Q := W_go f124_37 rfl
theorem f124_38 : fetch 124 38 = some (.invokevirtual 108, 3, [129, 2, 10, 0, 6127, 1015, 6130, 6129, 34], .null) := by decide +kernel
theorem w124_38 (hp : psum st ≤ 8) : Wp d 124 38 [l0, l1] (v1 :: (.ref b) :: st) h Q = rP (h.2 b) 9 (Cp d 129 [(.ref b), v1] h (fun o => cK o (fun w h2 => Wp d 124 41 [l0, l1] (w.toList ++ st) h2 Q) (fun E h2 => Q (.inr E, h2)))) := (W_invV (st := st) f124_38 rfl rfl (by simp only [List.length_cons]; omega) rfl rfl hp).trans (by simp only [hm124, if_true])
theorem f124_41 : fetch 124 41 = some (.return_, 1, [], .null) := by decide +kernel
theorem w124_41 : Wp d 124 41 [l0, l1] [] h Q = Q (.inl none, h) := W_fin f124_41 rfl
theorem hm125 : mhs 125 = [] := by decide +kernel
theorem hr125 : mret 125 = (some .boolean) := by decide +kernel
theorem f125_0 : fetch 125 0 = some (.aload_n 0, 1, [], .null) := by decide +kernel
theorem w125_0 : Wp d 125 0 [some (.ref a), l1] st h Q = Wp d 125 1 [some (.ref a), l1] (.ref a :: st) h Q := W_go f125_0 rfl
theorem f125_1 : fetch 125 1 = some (.getfield 28, 3, [9, 8, 6053, 0], .null) := by decide +kernel
theorem w125_1 : Wp d 125 1 [l0, l1] (.ref a :: st) h Q = gP (h.2 a) 9 8 (fun w => Wp d 125 4 [l0, l1] (w :: st) h Q) := W_get f125_1 rfl
theorem f125_4 : fetch 125 4 = some (.iload_n 1, 1, [], .null) := by decide +kernel
theorem w125_4 : Wp d 125 4 [l0, some (.int x)] st h Q = Wp d 125 5 [l0, some (.int x)] (.int x :: st) h Q := W_go f125_4 rfl
theorem f125_5 : fetch 125 5 = some (.aload_n 0, 1, [], .null) := by decide +kernel
theorem w125_5 : Wp d 125 5 [some (.ref a), l1] st h Q = Wp d 125 6 [some (.ref a), l1] (.ref a :: st) h Q := W_go f125_5 rfl
theorem f125_6 : fetch 125 6 = some (.getfield 15, 3, [9, 4, 6046, 0], .null) := by decide +kernel
theorem w125_6 : Wp d 125 6 [l0, l1] (.ref a :: st) h Q = gP (h.2 a) 9 4 (fun w => Wp d 125 9 [l0, l1] (w :: st) h Q) := W_get f125_6 rfl
theorem f125_9 : fetch 125 9 = some (.iload_n 1, 1, [], .null) := by decide +kernel
theorem w125_9 : Wp d 125 9 [l0, some (.int x)] st h Q = Wp d 125 10 [l0, some (.int x)] (.int x :: st) h Q := W_go f125_9 rfl
theorem f125_10 : fetch 125 10 = some (.iaload, 1, [], .null) := by decide +kernel
theorem w125_10 : Wp d 125 10 [l0, l1] (.int x :: .ref a :: st) h Q = aP false (h.2 a) x (fun w => Wp d 125 11 [l0, l1] (.int w :: st) h Q) := W_ald f125_10 rfl
theorem f125_11 : fetch 125 11 = some (.ifCond .le 16, 3, [], .null) := by decide +kernel
theorem w125_11 : Wp d 125 11 [l0, l1] (.int x :: st) h Q = if icond .le x 0 = true then Wp d 125 27 [l0, l1] st h Q else Wp d 125 14 [l0, l1] st h Q := W_if f125_11 rfl
theorem f125_14 : fetch 125 14 = some (.aload_n 0, 1, [], .null) := by decide +kernel
theorem w125_14 : Wp d 125 14 [some (.ref a), l1] st h Q = Wp d 125 15 [some (.ref a), l1] (.ref a :: st) h Q := W_go f125_14 rfl
theorem f125_15 : fetch 125 15 = some (.getfield 19, 3, [9, 5, 6048, 0], .null) := by decide +kernel
theorem w125_15 : Wp d 125 15 [l0, l1] (.ref a :: st) h Q = gP (h.2 a) 9 5 (fun w => Wp d 125 18 [l0, l1] (w :: st) h Q) := W_get f125_15 rfl
theorem f125_18 : fetch 125 18 = some (.iload_n 1, 1, [], .null) := by decide +kernel
theorem w125_18 : Wp d 125 18 [l0, some (.int x)] st h Q = Wp d 125 19 [l0, some (.int x)] (.int x :: st) h Q := W_go f125_18 rfl
theorem f125_19 : fetch 125 19 = some (.iaload, 1, [], .null) := by decide +kernel
theorem w125_19 : Wp d 125 19 [l0, l1] (.int x :: .ref a :: st) h Q = aP false (h.2 a) x (fun w => Wp d 125 20 [l0, l1] (.int w :: st) h Q) := W_ald f125_19 rfl
theorem f125_20 : fetch 125 20 = some (.ifCond .le 7, 3, [], .null) := by decide +kernel
theorem w125_20 : Wp d 125 20 [l0, l1] (.int x :: st) h Q = if icond .le x 0 = true then Wp d 125 27 [l0, l1] st h Q else Wp d 125 23 [l0, l1] st h Q := W_if f125_20 rfl
theorem f125_23 : fetch 125 23 = some (.iconst 1, 1, [], .null) := by decide +kernel
theorem w125_23 : Wp d 125 23 [l0, l1] st h Q = Wp d 125 24 [l0, l1] (.int (1 : Int32) :: st) h Q := W_go f125_23 rfl
theorem f125_24 : fetch 125 24 = some (.goto 4, 3, [], .null) := by decide +kernel
theorem w125_24 : Wp d 125 24 [l0, l1] st h Q = Wp d 125 28 [l0, l1] st h Q := W_go f125_24 rfl
theorem f125_27 : fetch 125 27 = some (.iconst 0, 1, [], .null) := by decide +kernel
theorem w125_27 : Wp d 125 27 [l0, l1] st h Q = Wp d 125 28 [l0, l1] (.int (0 : Int32) :: st) h Q := W_go f125_27 rfl
theorem f125_28 : fetch 125 28 = some (.bastore, 1, [], .null) := by decide +kernel
theorem w125_28 : Wp d 125 28 [l0, l1] (.int y :: .int x :: .ref a :: st) h Q = asP true (h.2 a) a x y (fun c => Wp d 125 29 [l0, l1] st (hset h a c) Q) := W_ast f125_28 rfl
theorem f125_29 : fetch 125 29 = some (.aload_n 0, 1, [], .null) := by decide +kernel
theorem w125_29 : Wp d 125 29 [some (.ref a), l1] st h Q = Wp d 125 30 [some (.ref a), l1] (.ref a :: st) h Q := W_go f125_29 rfl
theorem f125_30 : fetch 125 30 = some (.getfield 28, 3, [9, 8, 6053, 0], .null) := by decide +kernel
theorem w125_30 : Wp d 125 30 [l0, l1] (.ref a :: st) h Q = gP (h.2 a) 9 8 (fun w => Wp d 125 33 [l0, l1] (w :: st) h Q) := W_get f125_30 rfl
theorem f125_33 : fetch 125 33 = some (.iload_n 1, 1, [], .null) := by decide +kernel
theorem w125_33 : Wp d 125 33 [l0, some (.int x)] st h Q = Wp d 125 34 [l0, some (.int x)] (.int x :: st) h Q := W_go f125_33 rfl
theorem f125_34 : fetch 125 34 = some (.baload, 1, [], .null) := by decide +kernel
theorem w125_34 : Wp d 125 34 [l0, l1] (.int x :: .ref a :: st) h Q = aP true (h.2 a) x (fun w => Wp d 125 35 [l0, l1] (.int w :: st) h Q) := W_ald f125_34 rfl
theorem f125_35 : fetch 125 35 = some (.ireturn, 1, [], .null) := by decide +kernel
theorem w125_35 : Wp d 125 35 [l0, l1] [.int x] h Q = (if narrow .boolean (.int x) = .int x then Q (.inl (some (.int x)), h) else False) := W_zret f125_35 hr125
theorem hm126 : mhs 126 = [] := by decide +kernel
theorem hr126 : mret 126 = (some .int) := by decide +kernel
theorem f126_0 : fetch 126 0 = some (.aload_n 0, 1, [], .null) := by decide +kernel
theorem w126_0 : Wp d 126 0 [some (.ref a), l1, l2] st h Q = Wp d 126 1 [some (.ref a), l1, l2] (.ref a :: st) h Q := W_go f126_0 rfl
theorem f126_1 : fetch 126 1 = some (.getfield 28, 3, [9, 8, 6053, 0], .null) := by decide +kernel
theorem w126_1 : Wp d 126 1 [l0, l1, l2] (.ref a :: st) h Q = gP (h.2 a) 9 8 (fun w => Wp d 126 4 [l0, l1, l2] (w :: st) h Q) := W_get f126_1 rfl
theorem f126_4 : fetch 126 4 = some (.iload_n 1, 1, [], .null) := by decide +kernel
theorem w126_4 : Wp d 126 4 [l0, some (.int x), l2] st h Q = Wp d 126 5 [l0, some (.int x), l2] (.int x :: st) h Q := W_go f126_4 rfl
theorem f126_5 : fetch 126 5 = some (.baload, 1, [], .null) := by decide +kernel
theorem w126_5 : Wp d 126 5 [l0, l1, l2] (.int x :: .ref a :: st) h Q = aP true (h.2 a) x (fun w => Wp d 126 6 [l0, l1, l2] (.int w :: st) h Q) := W_ald f126_5 rfl
theorem f126_6 : fetch 126 6 = some (.ifCond .ne 5, 3, [], .null) := by decide +kernel
theorem w126_6 : Wp d 126 6 [l0, l1, l2] (.int x :: st) h Q = if icond .ne x 0 = true then Wp d 126 11 [l0, l1, l2] st h Q else Wp d 126 9 [l0, l1, l2] st h Q := W_if f126_6 rfl
theorem f126_9 : fetch 126 9 = some (.iconst 0, 1, [], .null) := by decide +kernel
theorem w126_9 : Wp d 126 9 [l0, l1, l2] st h Q = Wp d 126 10 [l0, l1, l2] (.int (0 : Int32) :: st) h Q := W_go f126_9 rfl
theorem f126_10 : fetch 126 10 = some (.ireturn, 1, [], .null) := by decide +kernel
theorem w126_10 : Wp d 126 10 [l0, l1, l2] [.int x] h Q = Q (.inl (some (.int x)), h) := W_iret f126_10 hr126
theorem f126_11 : fetch 126 11 = some (.aload_n 0, 1, [], .null) := by decide +kernel
theorem w126_11 : Wp d 126 11 [some (.ref a), l1, l2] st h Q = Wp d 126 12 [some (.ref a), l1, l2] (.ref a :: st) h Q := W_go f126_11 rfl
theorem f126_12 : fetch 126 12 = some (.getfield 22, 3, [9, 6, 6050, 0], .null) := by decide +kernel
theorem w126_12 : Wp d 126 12 [l0, l1, l2] (.ref a :: st) h Q = gP (h.2 a) 9 6 (fun w => Wp d 126 15 [l0, l1, l2] (w :: st) h Q) := W_get f126_12 rfl
theorem f126_15 : fetch 126 15 = some (.iload_n 1, 1, [], .null) := by decide +kernel
theorem w126_15 : Wp d 126 15 [l0, some (.int x), l2] st h Q = Wp d 126 16 [l0, some (.int x), l2] (.int x :: st) h Q := W_go f126_15 rfl
theorem f126_16 : fetch 126 16 = some (.dup2, 1, [], .null) := by decide +kernel
theorem w126_16 : Wp d 126 16 [l0, l1, l2] (.int x :: .ref a :: st) h Q = Wp d 126 17 [l0, l1, l2] (.int x :: .ref a :: .int x :: .ref a :: st) h Q := W_go f126_16 rfl
theorem f126_17 : fetch 126 17 = some (.iaload, 1, [], .null) := by decide +kernel
theorem w126_17 : Wp d 126 17 [l0, l1, l2] (.int x :: .ref a :: st) h Q = aP false (h.2 a) x (fun w => Wp d 126 18 [l0, l1, l2] (.int w :: st) h Q) := W_ald f126_17 rfl
theorem f126_18 : fetch 126 18 = some (.iconst 1, 1, [], .null) := by decide +kernel
theorem w126_18 : Wp d 126 18 [l0, l1, l2] st h Q = Wp d 126 19 [l0, l1, l2] (.int (1 : Int32) :: st) h Q := W_go f126_18 rfl
theorem f126_19 : fetch 126 19 = some (.iadd, 1, [], .null) := by decide +kernel
theorem w126_19 : Wp d 126 19 [l0, l1, l2] (.int y :: .int x :: st) h Q = Wp d 126 20 [l0, l1, l2] (.int (x + y) :: st) h Q := W_go f126_19 rfl
theorem f126_20 : fetch 126 20 = some (.iastore, 1, [], .null) := by decide +kernel
theorem w126_20 : Wp d 126 20 [l0, l1, l2] (.int y :: .int x :: .ref a :: st) h Q = asP false (h.2 a) a x y (fun c => Wp d 126 21 [l0, l1, l2] st (hset h a c) Q) := W_ast f126_20 rfl
theorem f126_21 : fetch 126 21 = some (.aload_n 0, 1, [], .null) := by decide +kernel
theorem w126_21 : Wp d 126 21 [some (.ref a), l1, l2] st h Q = Wp d 126 22 [some (.ref a), l1, l2] (.ref a :: st) h Q := W_go f126_21 rfl
theorem f126_22 : fetch 126 22 = some (.getfield 22, 3, [9, 6, 6050, 0], .null) := by decide +kernel
theorem w126_22 : Wp d 126 22 [l0, l1, l2] (.ref a :: st) h Q = gP (h.2 a) 9 6 (fun w => Wp d 126 25 [l0, l1, l2] (w :: st) h Q) := W_get f126_22 rfl
theorem f126_25 : fetch 126 25 = some (.iload_n 1, 1, [], .null) := by decide +kernel
theorem w126_25 : Wp d 126 25 [l0, some (.int x), l2] st h Q = Wp d 126 26 [l0, some (.int x), l2] (.int x :: st) h Q := W_go f126_25 rfl
theorem f126_26 : fetch 126 26 = some (.iaload, 1, [], .null) := by decide +kernel
theorem w126_26 : Wp d 126 26 [l0, l1, l2] (.int x :: .ref a :: st) h Q = aP false (h.2 a) x (fun w => Wp d 126 27 [l0, l1, l2] (.int w :: st) h Q) := W_ald f126_26 rfl
theorem f126_27 : fetch 126 27 = some (.iconst 2, 1, [], .null) := by decide +kernel
theorem w126_27 : Wp d 126 27 [l0, l1, l2] st h Q = Wp d 126 28 [l0, l1, l2] (.int (2 : Int32) :: st) h Q := W_go f126_27 rfl
theorem f126_28 : fetch 126 28 = some (.irem, 1, [], .null) := by decide +kernel
theorem w126_28 (hy : y ≠ 0) : Wp d 126 28 [l0, l1, l2] (.int y :: .int x :: st) h Q = Wp d 126 29 [l0, l1, l2] (.int (x - x / y * y) :: st) h Q := W_go f126_28 (by simp only [pstep, pint2, if_neg hy, pgo])
theorem f126_29 : fetch 126 29 = some (.ifCond .ne 7, 3, [], .null) := by decide +kernel
theorem w126_29 : Wp d 126 29 [l0, l1, l2] (.int x :: st) h Q = if icond .ne x 0 = true then Wp d 126 36 [l0, l1, l2] st h Q else Wp d 126 32 [l0, l1, l2] st h Q := W_if f126_29 rfl
theorem f126_32 : fetch 126 32 = some (.iconst 1, 1, [], .null) := by decide +kernel
theorem w126_32 : Wp d 126 32 [l0, l1, l2] st h Q = Wp d 126 33 [l0, l1, l2] (.int (1 : Int32) :: st) h Q := W_go f126_32 rfl
theorem f126_33 : fetch 126 33 = some (.goto 4, 3, [], .null) := by decide +kernel
theorem w126_33 : Wp d 126 33 [l0, l1, l2] st h Q = Wp d 126 37 [l0, l1, l2] st h Q := W_go f126_33 rfl
theorem f126_36 : fetch 126 36 = some (.iconst 0, 1, [], .null) := by decide +kernel
theorem w126_36 : Wp d 126 36 [l0, l1, l2] st h Q = Wp d 126 37 [l0, l1, l2] (.int (0 : Int32) :: st) h Q := W_go f126_36 rfl
theorem f126_37 : fetch 126 37 = some (.istore_n 2, 1, [], .null) := by decide +kernel
theorem w126_37 : Wp d 126 37 [l0, l1, l2] (.int x :: st) h Q = Wp d 126 38 [l0, kl l1, some (.int x)] st h Q := (W_st1 (pc' := 38) (k := 2) f126_37 rfl rfl (by simp only [List.length_cons, List.length_nil]; omega)).trans (by rw [pst1_succ]; rfl)
theorem f126_38 : fetch 126 38 = some (.aload_n 0, 1, [], .null) := by decide +kernel
theorem w126_38 : Wp d 126 38 [some (.ref a), l1, l2] st h Q = Wp d 126 39 [some (.ref a), l1, l2] (.ref a :: st) h Q := W_go f126_38 rfl
theorem f126_39 : fetch 126 39 = some (.getfield 15, 3, [9, 4, 6046, 0], .null) := by decide +kernel
theorem w126_39 : Wp d 126 39 [l0, l1, l2] (.ref a :: st) h Q = gP (h.2 a) 9 4 (fun w => Wp d 126 42 [l0, l1, l2] (w :: st) h Q) := W_get f126_39 rfl
theorem f126_42 : fetch 126 42 = some (.iload_n 1, 1, [], .null) := by decide +kernel
theorem w126_42 : Wp d 126 42 [l0, some (.int x), l2] st h Q = Wp d 126 43 [l0, some (.int x), l2] (.int x :: st) h Q := W_go f126_42 rfl
theorem f126_43 : fetch 126 43 = some (.dup2, 1, [], .null) := by decide +kernel
theorem w126_43 : Wp d 126 43 [l0, l1, l2] (.int x :: .ref a :: st) h Q = Wp d 126 44 [l0, l1, l2] (.int x :: .ref a :: .int x :: .ref a :: st) h Q := W_go f126_43 rfl
theorem f126_44 : fetch 126 44 = some (.iaload, 1, [], .null) := by decide +kernel
theorem w126_44 : Wp d 126 44 [l0, l1, l2] (.int x :: .ref a :: st) h Q = aP false (h.2 a) x (fun w => Wp d 126 45 [l0, l1, l2] (.int w :: st) h Q) := W_ald f126_44 rfl
theorem f126_45 : fetch 126 45 = some (.iload_n 2, 1, [], .null) := by decide +kernel
theorem w126_45 : Wp d 126 45 [l0, l1, some (.int x)] st h Q = Wp d 126 46 [l0, l1, some (.int x)] (.int x :: st) h Q := W_go f126_45 rfl
theorem f126_46 : fetch 126 46 = some (.isub, 1, [], .null) := by decide +kernel
theorem w126_46 : Wp d 126 46 [l0, l1, l2] (.int y :: .int x :: st) h Q = Wp d 126 47 [l0, l1, l2] (.int (x - y) :: st) h Q := W_go f126_46 rfl
theorem f126_47 : fetch 126 47 = some (.iastore, 1, [], .null) := by decide +kernel
theorem w126_47 : Wp d 126 47 [l0, l1, l2] (.int y :: .int x :: .ref a :: st) h Q = asP false (h.2 a) a x y (fun c => Wp d 126 48 [l0, l1, l2] st (hset h a c) Q) := W_ast f126_47 rfl
theorem f126_48 : fetch 126 48 = some (.aload_n 0, 1, [], .null) := by decide +kernel
theorem w126_48 : Wp d 126 48 [some (.ref a), l1, l2] st h Q = Wp d 126 49 [some (.ref a), l1, l2] (.ref a :: st) h Q := W_go f126_48 rfl
theorem f126_49 : fetch 126 49 = some (.getfield 19, 3, [9, 5, 6048, 0], .null) := by decide +kernel
theorem w126_49 : Wp d 126 49 [l0, l1, l2] (.ref a :: st) h Q = gP (h.2 a) 9 5 (fun w => Wp d 126 52 [l0, l1, l2] (w :: st) h Q) := W_get f126_49 rfl
theorem f126_52 : fetch 126 52 = some (.iload_n 1, 1, [], .null) := by decide +kernel
theorem w126_52 : Wp d 126 52 [l0, some (.int x), l2] st h Q = Wp d 126 53 [l0, some (.int x), l2] (.int x :: st) h Q := W_go f126_52 rfl
theorem f126_53 : fetch 126 53 = some (.dup2, 1, [], .null) := by decide +kernel
theorem w126_53 : Wp d 126 53 [l0, l1, l2] (.int x :: .ref a :: st) h Q = Wp d 126 54 [l0, l1, l2] (.int x :: .ref a :: .int x :: .ref a :: st) h Q := W_go f126_53 rfl
theorem f126_54 : fetch 126 54 = some (.iaload, 1, [], .null) := by decide +kernel
theorem w126_54 : Wp d 126 54 [l0, l1, l2] (.int x :: .ref a :: st) h Q = aP false (h.2 a) x (fun w => Wp d 126 55 [l0, l1, l2] (.int w :: st) h Q) := W_ald f126_54 rfl
theorem f126_55 : fetch 126 55 = some (.aload_n 0, 1, [], .null) := by decide +kernel
theorem w126_55 : Wp d 126 55 [some (.ref a), l1, l2] st h Q = Wp d 126 56 [some (.ref a), l1, l2] (.ref a :: st) h Q := W_go f126_55 rfl
theorem f126_56 : fetch 126 56 = some (.getfield 22, 3, [9, 6, 6050, 0], .null) := by decide +kernel
theorem w126_56 : Wp d 126 56 [l0, l1, l2] (.ref a :: st) h Q = gP (h.2 a) 9 6 (fun w => Wp d 126 59 [l0, l1, l2] (w :: st) h Q) := W_get f126_56 rfl
theorem f126_59 : fetch 126 59 = some (.iload_n 1, 1, [], .null) := by decide +kernel
theorem w126_59 : Wp d 126 59 [l0, some (.int x), l2] st h Q = Wp d 126 60 [l0, some (.int x), l2] (.int x :: st) h Q := W_go f126_59 rfl
theorem f126_60 : fetch 126 60 = some (.iaload, 1, [], .null) := by decide +kernel
theorem w126_60 : Wp d 126 60 [l0, l1, l2] (.int x :: .ref a :: st) h Q = aP false (h.2 a) x (fun w => Wp d 126 61 [l0, l1, l2] (.int w :: st) h Q) := W_ald f126_60 rfl
theorem f126_61 : fetch 126 61 = some (.iconst 4, 1, [], .null) := by decide +kernel
theorem w126_61 : Wp d 126 61 [l0, l1, l2] st h Q = Wp d 126 62 [l0, l1, l2] (.int (4 : Int32) :: st) h Q := W_go f126_61 rfl
theorem f126_62 : fetch 126 62 = some (.irem, 1, [], .null) := by decide +kernel
theorem w126_62 (hy : y ≠ 0) : Wp d 126 62 [l0, l1, l2] (.int y :: .int x :: st) h Q = Wp d 126 63 [l0, l1, l2] (.int (x - x / y * y) :: st) h Q := W_go f126_62 (by simp only [pstep, pint2, if_neg hy, pgo])
theorem f126_63 : fetch 126 63 = some (.ifCond .ne 7, 3, [], .null) := by decide +kernel
theorem w126_63 : Wp d 126 63 [l0, l1, l2] (.int x :: st) h Q = if icond .ne x 0 = true then Wp d 126 70 [l0, l1, l2] st h Q else Wp d 126 66 [l0, l1, l2] st h Q := W_if f126_63 rfl
theorem f126_66 : fetch 126 66 = some (.iconst 1, 1, [], .null) := by decide +kernel
theorem w126_66 : Wp d 126 66 [l0, l1, l2] st h Q = Wp d 126 67 [l0, l1, l2] (.int (1 : Int32) :: st) h Q := W_go f126_66 rfl
theorem f126_67 : fetch 126 67 = some (.goto 4, 3, [], .null) := by decide +kernel
theorem w126_67 : Wp d 126 67 [l0, l1, l2] st h Q = Wp d 126 71 [l0, l1, l2] st h Q := W_go f126_67 rfl
theorem f126_70 : fetch 126 70 = some (.iconst 0, 1, [], .null) := by decide +kernel
theorem w126_70 : Wp d 126 70 [l0, l1, l2] st h Q = Wp d 126 71 [l0, l1, l2] (.int (0 : Int32) :: st) h Q := W_go f126_70 rfl
theorem f126_71 : fetch 126 71 = some (.isub, 1, [], .null) := by decide +kernel
theorem w126_71 : Wp d 126 71 [l0, l1, l2] (.int y :: .int x :: st) h Q = Wp d 126 72 [l0, l1, l2] (.int (x - y) :: st) h Q := W_go f126_71 rfl
theorem f126_72 : fetch 126 72 = some (.iastore, 1, [], .null) := by decide +kernel
theorem w126_72 : Wp d 126 72 [l0, l1, l2] (.int y :: .int x :: .ref a :: st) h Q = asP false (h.2 a) a x y (fun c => Wp d 126 73 [l0, l1, l2] st (hset h a c) Q) := W_ast f126_72 rfl
theorem f126_73 : fetch 126 73 = some (.aload_n 0, 1, [], .null) := by decide +kernel
theorem w126_73 : Wp d 126 73 [some (.ref a), l1, l2] st h Q = Wp d 126 74 [some (.ref a), l1, l2] (.ref a :: st) h Q := W_go f126_73 rfl
theorem f126_74 : fetch 126 74 = some (.getfield 28, 3, [9, 8, 6053, 0], .null) := by decide +kernel
theorem w126_74 : Wp d 126 74 [l0, l1, l2] (.ref a :: st) h Q = gP (h.2 a) 9 8 (fun w => Wp d 126 77 [l0, l1, l2] (w :: st) h Q) := W_get f126_74 rfl
theorem f126_77 : fetch 126 77 = some (.iload_n 1, 1, [], .null) := by decide +kernel
theorem w126_77 : Wp d 126 77 [l0, some (.int x), l2] st h Q = Wp d 126 78 [l0, some (.int x), l2] (.int x :: st) h Q := W_go f126_77 rfl
theorem f126_78 : fetch 126 78 = some (.aload_n 0, 1, [], .null) := by decide +kernel
theorem w126_78 : Wp d 126 78 [some (.ref a), l1, l2] st h Q = Wp d 126 79 [some (.ref a), l1, l2] (.ref a :: st) h Q := W_go f126_78 rfl
theorem f126_79 : fetch 126 79 = some (.getfield 15, 3, [9, 4, 6046, 0], .null) := by decide +kernel
theorem w126_79 : Wp d 126 79 [l0, l1, l2] (.ref a :: st) h Q = gP (h.2 a) 9 4 (fun w => Wp d 126 82 [l0, l1, l2] (w :: st) h Q) := W_get f126_79 rfl
theorem f126_82 : fetch 126 82 = some (.iload_n 1, 1, [], .null) := by decide +kernel
theorem w126_82 : Wp d 126 82 [l0, some (.int x), l2] st h Q = Wp d 126 83 [l0, some (.int x), l2] (.int x :: st) h Q := W_go f126_82 rfl
theorem f126_83 : fetch 126 83 = some (.iaload, 1, [], .null) := by decide +kernel
theorem w126_83 : Wp d 126 83 [l0, l1, l2] (.int x :: .ref a :: st) h Q = aP false (h.2 a) x (fun w => Wp d 126 84 [l0, l1, l2] (.int w :: st) h Q) := W_ald f126_83 rfl
theorem f126_84 : fetch 126 84 = some (.ifCond .le 16, 3, [], .null) := by decide +kernel
theorem w126_84 : Wp d 126 84 [l0, l1, l2] (.int x :: st) h Q = if icond .le x 0 = true then Wp d 126 100 [l0, l1, l2] st h Q else Wp d 126 87 [l0, l1, l2] st h Q := W_if f126_84 rfl
theorem f126_87 : fetch 126 87 = some (.aload_n 0, 1, [], .null) := by decide +kernel
theorem w126_87 : Wp d 126 87 [some (.ref a), l1, l2] st h Q = Wp d 126 88 [some (.ref a), l1, l2] (.ref a :: st) h Q := W_go f126_87 rfl
theorem f126_88 : fetch 126 88 = some (.getfield 19, 3, [9, 5, 6048, 0], .null) := by decide +kernel
theorem w126_88 : Wp d 126 88 [l0, l1, l2] (.ref a :: st) h Q = gP (h.2 a) 9 5 (fun w => Wp d 126 91 [l0, l1, l2] (w :: st) h Q) := W_get f126_88 rfl
theorem f126_91 : fetch 126 91 = some (.iload_n 1, 1, [], .null) := by decide +kernel
theorem w126_91 : Wp d 126 91 [l0, some (.int x), l2] st h Q = Wp d 126 92 [l0, some (.int x), l2] (.int x :: st) h Q := W_go f126_91 rfl
theorem f126_92 : fetch 126 92 = some (.iaload, 1, [], .null) := by decide +kernel
theorem w126_92 : Wp d 126 92 [l0, l1, l2] (.int x :: .ref a :: st) h Q = aP false (h.2 a) x (fun w => Wp d 126 93 [l0, l1, l2] (.int w :: st) h Q) := W_ald f126_92 rfl
theorem f126_93 : fetch 126 93 = some (.ifCond .le 7, 3, [], .null) := by decide +kernel
theorem w126_93 : Wp d 126 93 [l0, l1, l2] (.int x :: st) h Q = if icond .le x 0 = true then Wp d 126 100 [l0, l1, l2] st h Q else Wp d 126 96 [l0, l1, l2] st h Q := W_if f126_93 rfl
theorem f126_96 : fetch 126 96 = some (.iconst 1, 1, [], .null) := by decide +kernel
theorem w126_96 : Wp d 126 96 [l0, l1, l2] st h Q = Wp d 126 97 [l0, l1, l2] (.int (1 : Int32) :: st) h Q := W_go f126_96 rfl
theorem f126_97 : fetch 126 97 = some (.goto 4, 3, [], .null) := by decide +kernel
theorem w126_97 : Wp d 126 97 [l0, l1, l2] st h Q = Wp d 126 101 [l0, l1, l2] st h Q := W_go f126_97 rfl
theorem f126_100 : fetch 126 100 = some (.iconst 0, 1, [], .null) := by decide +kernel
theorem w126_100 : Wp d 126 100 [l0, l1, l2] st h Q = Wp d 126 101 [l0, l1, l2] (.int (0 : Int32) :: st) h Q := W_go f126_100 rfl
theorem f126_101 : fetch 126 101 = some (.bastore, 1, [], .null) := by decide +kernel
theorem w126_101 : Wp d 126 101 [l0, l1, l2] (.int y :: .int x :: .ref a :: st) h Q = asP true (h.2 a) a x y (fun c => Wp d 126 102 [l0, l1, l2] st (hset h a c) Q) := W_ast f126_101 rfl
theorem f126_102 : fetch 126 102 = some (.iload_n 2, 1, [], .null) := by decide +kernel
theorem w126_102 : Wp d 126 102 [l0, l1, some (.int x)] st h Q = Wp d 126 103 [l0, l1, some (.int x)] (.int x :: st) h Q := W_go f126_102 rfl
theorem f126_103 : fetch 126 103 = some (.ireturn, 1, [], .null) := by decide +kernel
theorem w126_103 : Wp d 126 103 [l0, l1, l2] [.int x] h Q = Q (.inl (some (.int x)), h) := W_iret f126_103 hr126
theorem hm127 : mhs 127 = [] := by decide +kernel
theorem hr127 : mret 127 = (some .int) := by decide +kernel
theorem f127_0 : fetch 127 0 = some (.aload_n 0, 1, [], .null) := by decide +kernel
theorem w127_0 : Wp d 127 0 [some (.ref a), l1] st h Q = Wp d 127 1 [some (.ref a), l1] (.ref a :: st) h Q := W_go f127_0 rfl
theorem f127_1 : fetch 127 1 = some (.getfield 71, 3, [9, 0, 6038, 0], .null) := by decide +kernel
theorem w127_1 : Wp d 127 1 [l0, l1] (.ref a :: st) h Q = gP (h.2 a) 9 0 (fun w => Wp d 127 4 [l0, l1] (w :: st) h Q) := W_get f127_1 rfl
theorem f127_4 : fetch 127 4 = some (.bipush 30, 2, [], .null) := by decide +kernel
theorem w127_4 : Wp d 127 4 [l0, l1] st h Q = Wp d 127 6 [l0, l1] (.int (30 : Int32) :: st) h Q := W_go f127_4 rfl
theorem f127_6 : fetch 127 6 = some (.irem, 1, [], .null) := by decide +kernel
theorem w127_6 (hy : y ≠ 0) : Wp d 127 6 [l0, l1] (.int y :: .int x :: st) h Q = Wp d 127 7 [l0, l1] (.int (x - x / y * y) :: st) h Q := W_go f127_6 (by simp only [pstep, pint2, if_neg hy, pgo])
theorem f127_7 : fetch 127 7 = some (.istore_n 1, 1, [], .null) := by decide +kernel
theorem w127_7 : Wp d 127 7 [l0, l1] (.int x :: st) h Q = Wp d 127 8 [kl l0, some (.int x)] st h Q := (W_st1 (pc' := 8) (k := 1) f127_7 rfl rfl (by simp only [List.length_cons, List.length_nil]; omega)).trans (by rw [pst1_succ]; rfl)
theorem f127_8 : fetch 127 8 = some (.iload_n 1, 1, [], .null) := by decide +kernel
theorem w127_8 : Wp d 127 8 [l0, some (.int x)] st h Q = Wp d 127 9 [l0, some (.int x)] (.int x :: st) h Q := W_go f127_8 rfl
theorem f127_9 : fetch 127 9 = some (.bipush 15, 2, [], .null) := by decide +kernel
theorem w127_9 : Wp d 127 9 [l0, l1] st h Q = Wp d 127 11 [l0, l1] (.int (15 : Int32) :: st) h Q := W_go f127_9 rfl
theorem f127_11 : fetch 127 11 = some (.if_icmp .ge 7, 3, [], .null) := by decide +kernel
theorem w127_11 : Wp d 127 11 [l0, l1] (.int y :: .int x :: st) h Q = if icond .ge x y = true then Wp d 127 18 [l0, l1] st h Q else Wp d 127 14 [l0, l1] st h Q := W_if f127_11 rfl
theorem f127_14 : fetch 127 14 = some (.iload_n 1, 1, [], .null) := by decide +kernel
theorem w127_14 : Wp d 127 14 [l0, some (.int x)] st h Q = Wp d 127 15 [l0, some (.int x)] (.int x :: st) h Q := W_go f127_14 rfl
theorem f127_15 : fetch 127 15 = some (.goto 7, 3, [], .null) := by decide +kernel
theorem w127_15 : Wp d 127 15 [l0, l1] st h Q = Wp d 127 22 [l0, l1] st h Q := W_go f127_15 rfl
theorem f127_18 : fetch 127 18 = some (.bipush 29, 2, [], .null) := by decide +kernel
theorem w127_18 : Wp d 127 18 [l0, l1] st h Q = Wp d 127 20 [l0, l1] (.int (29 : Int32) :: st) h Q := W_go f127_18 rfl
theorem f127_20 : fetch 127 20 = some (.iload_n 1, 1, [], .null) := by decide +kernel
theorem w127_20 : Wp d 127 20 [l0, some (.int x)] st h Q = Wp d 127 21 [l0, some (.int x)] (.int x :: st) h Q := W_go f127_20 rfl
theorem f127_21 : fetch 127 21 = some (.isub, 1, [], .null) := by decide +kernel
theorem w127_21 : Wp d 127 21 [l0, l1] (.int y :: .int x :: st) h Q = Wp d 127 22 [l0, l1] (.int (x - y) :: st) h Q := W_go f127_21 rfl
theorem f127_22 : fetch 127 22 = some (.ireturn, 1, [], .null) := by decide +kernel
theorem w127_22 : Wp d 127 22 [l0, l1] [.int x] h Q = Q (.inl (some (.int x)), h) := W_iret f127_22 hr127
theorem hm128 : mhs 128 = [] := by decide +kernel
theorem hr128 : mret 128 = (some .boolean) := by decide +kernel
theorem f128_0 : fetch 128 0 = some (.aload_n 0, 1, [], .null) := by decide +kernel
theorem w128_0 : Wp d 128 0 [some (.ref a)] st h Q = Wp d 128 1 [some (.ref a)] (.ref a :: st) h Q := W_go f128_0 rfl
theorem f128_1 : fetch 128 1 = some (.invokevirtual 111, 3, [127, 1, 10, 0, 7162, 1015, 7165, 7163, 7164], .null) := by decide +kernel
theorem w128_1 (hp : psum st ≤ 8) : Wp d 128 1 [l0] ((.ref b) :: st) h Q = rP (h.2 b) 9 (Cp d 127 [(.ref b)] h (fun o => cK o (fun w h2 => Wp d 128 4 [l0] (w.toList ++ st) h2 Q) (fun E h2 => Q (.inr E, h2)))) := (W_invV (st := st) f128_1 rfl rfl (by simp only [List.length_cons]; omega) rfl rfl hp).trans (by simp only [hm128, if_true])
theorem f128_4 : fetch 128 4 = some (.bipush 11, 2, [], .null) := by decide +kernel
theorem w128_4 : Wp d 128 4 [l0] st h Q = Wp d 128 6 [l0] (.int (11 : Int32) :: st) h Q := W_go f128_4 rfl
theorem f128_6 : fetch 128 6 = some (.if_icmp .lt 14, 3, [], .null) := by decide +kernel
theorem w128_6 : Wp d 128 6 [l0] (.int y :: .int x :: st) h Q = if icond .lt x y = true then Wp d 128 20 [l0] st h Q else Wp d 128 9 [l0] st h Q := W_if f128_6 rfl
theorem f128_9 : fetch 128 9 = some (.aload_n 0, 1, [], .null) := by decide +kernel
theorem w128_9 : Wp d 128 9 [some (.ref a)] st h Q = Wp d 128 10 [some (.ref a)] (.ref a :: st) h Q := W_go f128_9 rfl
theorem f128_10 : fetch 128 10 = some (.getfield 78, 3, [9, 2, 6042, 0], .null) := by decide +kernel
theorem w128_10 : Wp d 128 10 [l0] (.ref a :: st) h Q = gP (h.2 a) 9 2 (fun w => Wp d 128 13 [l0] (w :: st) h Q) := W_get f128_10 rfl
theorem f128_13 : fetch 128 13 = some (.ifCond .ne 7, 3, [], .null) := by decide +kernel
theorem w128_13 : Wp d 128 13 [l0] (.int x :: st) h Q = if icond .ne x 0 = true then Wp d 128 20 [l0] st h Q else Wp d 128 16 [l0] st h Q := W_if f128_13 rfl
theorem f128_16 : fetch 128 16 = some (.iconst 1, 1, [], .null) := by decide +kernel
theorem w128_16 : Wp d 128 16 [l0] st h Q = Wp d 128 17 [l0] (.int (1 : Int32) :: st) h Q := W_go f128_16 rfl
theorem f128_17 : fetch 128 17 = some (.goto 4, 3, [], .null) := by decide +kernel
theorem w128_17 : Wp d 128 17 [l0] st h Q = Wp d 128 21 [l0] st h Q := W_go f128_17 rfl
theorem f128_20 : fetch 128 20 = some (.iconst 0, 1, [], .null) := by decide +kernel
theorem w128_20 : Wp d 128 20 [l0] st h Q = Wp d 128 21 [l0] (.int (0 : Int32) :: st) h Q := W_go f128_20 rfl
theorem f128_21 : fetch 128 21 = some (.ireturn, 1, [], .null) := by decide +kernel
theorem w128_21 : Wp d 128 21 [l0] [.int x] h Q = (if narrow .boolean (.int x) = .int x then Q (.inl (some (.int x)), h) else False) := W_zret f128_21 hr128
theorem hm129 : mhs 129 = [] := by decide +kernel
theorem f129_0 : fetch 129 0 = some (.aload_n 0, 1, [], .null) := by decide +kernel
theorem w129_0 : Wp d 129 0 [some (.ref a), l1] st h Q = Wp d 129 1 [some (.ref a), l1] (.ref a :: st) h Q := W_go f129_0 rfl
theorem f129_1 : fetch 129 1 = some (.getfield 53, 3, [9, 16, 6069, 0], .null) := by decide +kernel
theorem w129_1 : Wp d 129 1 [l0, l1] (.ref a :: st) h Q = gP (h.2 a) 9 16 (fun w => Wp d 129 4 [l0, l1] (w :: st) h Q) := W_get f129_1 rfl
theorem f129_4 : fetch 129 4 = some (.iload_n 1, 1, [], .null) := by decide +kernel
theorem w129_4 : Wp d 129 4 [l0, some (.int x)] st h Q = Wp d 129 5 [l0, some (.int x)] (.int x :: st) h Q := W_go f129_4 rfl
theorem f129_5 : fetch 129 5 = some (.iconst 0, 1, [], .null) := by decide +kernel
theorem w129_5 : Wp d 129 5 [l0, l1] st h Q = Wp d 129 6 [l0, l1] (.int (0 : Int32) :: st) h Q := W_go f129_5 rfl
theorem f129_6 : fetch 129 6 = some (.iastore, 1, [], .null) := by decide +kernel
theorem w129_6 : Wp d 129 6 [l0, l1] (.int y :: .int x :: .ref a :: st) h Q = asP false (h.2 a) a x y (fun c => Wp d 129 7 [l0, l1] st (hset h a c) Q) := W_ast f129_6 rfl
theorem f129_7 : fetch 129 7 = some (.aload_n 0, 1, [], .null) := by decide +kernel
theorem w129_7 : Wp d 129 7 [some (.ref a), l1] st h Q = Wp d 129 8 [some (.ref a), l1] (.ref a :: st) h Q := W_go f129_7 rfl
theorem f129_8 : fetch 129 8 = some (.getfield 41, 3, [9, 12, 6061, 0], .null) := by decide +kernel
theorem w129_8 : Wp d 129 8 [l0, l1] (.ref a :: st) h Q = gP (h.2 a) 9 12 (fun w => Wp d 129 11 [l0, l1] (w :: st) h Q) := W_get f129_8 rfl
theorem f129_11 : fetch 129 11 = some (.iload_n 1, 1, [], .null) := by decide +kernel
theorem w129_11 : Wp d 129 11 [l0, some (.int x)] st h Q = Wp d 129 12 [l0, some (.int x)] (.int x :: st) h Q := W_go f129_11 rfl
theorem f129_12 : fetch 129 12 = some (.iconst (-1), 1, [], .null) := by decide +kernel
theorem w129_12 : Wp d 129 12 [l0, l1] st h Q = Wp d 129 13 [l0, l1] (.int (-1 : Int32) :: st) h Q := W_go f129_12 rfl
theorem f129_13 : fetch 129 13 = some (.iastore, 1, [], .null) := by decide +kernel
theorem w129_13 : Wp d 129 13 [l0, l1] (.int y :: .int x :: .ref a :: st) h Q = asP false (h.2 a) a x y (fun c => Wp d 129 14 [l0, l1] st (hset h a c) Q) := W_ast f129_13 rfl
theorem f129_14 : fetch 129 14 = some (.aload_n 0, 1, [], .null) := by decide +kernel
theorem w129_14 : Wp d 129 14 [some (.ref a), l1] st h Q = Wp d 129 15 [some (.ref a), l1] (.ref a :: st) h Q := W_go f129_14 rfl
theorem f129_15 : fetch 129 15 = some (.getfield 44, 3, [9, 13, 6063, 0], .null) := by decide +kernel
theorem w129_15 : Wp d 129 15 [l0, l1] (.ref a :: st) h Q = gP (h.2 a) 9 13 (fun w => Wp d 129 18 [l0, l1] (w :: st) h Q) := W_get f129_15 rfl
theorem f129_18 : fetch 129 18 = some (.iload_n 1, 1, [], .null) := by decide +kernel
theorem w129_18 : Wp d 129 18 [l0, some (.int x)] st h Q = Wp d 129 19 [l0, some (.int x)] (.int x :: st) h Q := W_go f129_18 rfl
theorem f129_19 : fetch 129 19 = some (.iconst 0, 1, [], .null) := by decide +kernel
theorem w129_19 : Wp d 129 19 [l0, l1] st h Q = Wp d 129 20 [l0, l1] (.int (0 : Int32) :: st) h Q := W_go f129_19 rfl
theorem f129_20 : fetch 129 20 = some (.iastore, 1, [], .null) := by decide +kernel
theorem w129_20 : Wp d 129 20 [l0, l1] (.int y :: .int x :: .ref a :: st) h Q = asP false (h.2 a) a x y (fun c => Wp d 129 21 [l0, l1] st (hset h a c) Q) := W_ast f129_20 rfl
theorem f129_21 : fetch 129 21 = some (.return_, 1, [], .null) := by decide +kernel
theorem w129_21 : Wp d 129 21 [l0, l1] [] h Q = Q (.inl none, h) := W_fin f129_21 rfl
theorem hm130 : mhs 130 = [] := by decide +kernel
theorem f130_0 : fetch 130 0 = some (.aload_n 0, 1, [], .null) := by decide +kernel
theorem w130_0 : Wp d 130 0 [some (.ref a), l1, l2, l3, l4] st h Q = Wp d 130 1 [some (.ref a), l1, l2, l3, l4] (.ref a :: st) h Q := W_go f130_0 rfl
theorem f130_1 : fetch 130 1 = some (.getfield 3, 3, [9, 20, 6074, 0], .null) := by decide +kernel
theorem w130_1 : Wp d 130 1 [l0, l1, l2, l3, l4] (.ref a :: st) h Q = gP (h.2 a) 9 20 (fun w => Wp d 130 4 [l0, l1, l2, l3, l4] (w :: st) h Q) := W_get f130_1 rfl
theorem f130_4 : fetch 130 4 = some (.getfield 89, 3, [10, 10, 6142, 1], .null) := by decide +kernel
theorem w130_4 : Wp d 130 4 [l0, l1, l2, l3, l4] (.ref a :: st) h Q = gP (h.2 a) 10 10 (fun w => Wp d 130 7 [l0, l1, l2, l3, l4] (w :: st) h Q) := W_get f130_4 rfl
theorem f130_7 : fetch 130 7 = some (.getfield 115, 3, [8, 5, 5185, 1], .null) := by decide +kernel
theorem w130_7 : Wp d 130 7 [l0, l1, l2, l3, l4] (.ref a :: st) h Q = gP (h.2 a) 8 5 (fun w => Wp d 130 10 [l0, l1, l2, l3, l4] (w :: st) h Q) := W_get f130_7 rfl
theorem f130_10 : fetch 130 10 = some (.iload_n 2, 1, [], .null) := by decide +kernel
theorem w130_10 : Wp d 130 10 [l0, l1, some (.int x), l3, l4] st h Q = Wp d 130 11 [l0, l1, some (.int x), l3, l4] (.int x :: st) h Q := W_go f130_10 rfl
theorem f130_11 : fetch 130 11 = some (.iaload, 1, [], .null) := by decide +kernel
theorem w130_11 : Wp d 130 11 [l0, l1, l2, l3, l4] (.int x :: .ref a :: st) h Q = aP false (h.2 a) x (fun w => Wp d 130 12 [l0, l1, l2, l3, l4] (.int w :: st) h Q) := W_ald f130_11 rfl
theorem f130_12 : fetch 130 12 = some (.iconst (-1), 1, [], .null) := by decide +kernel
theorem w130_12 : Wp d 130 12 [l0, l1, l2, l3, l4] st h Q = Wp d 130 13 [l0, l1, l2, l3, l4] (.int (-1 : Int32) :: st) h Q := W_go f130_12 rfl
theorem f130_13 : fetch 130 13 = some (.if_icmp .ne 4, 3, [], .null) := by decide +kernel
theorem w130_13 : Wp d 130 13 [l0, l1, l2, l3, l4] (.int y :: .int x :: st) h Q = if icond .ne x y = true then Wp d 130 17 [l0, l1, l2, l3, l4] st h Q else Wp d 130 16 [l0, l1, l2, l3, l4] st h Q := W_if f130_13 rfl
theorem f130_16 : fetch 130 16 = some (.return_, 1, [], .null) := by decide +kernel
theorem w130_16 : Wp d 130 16 [l0, l1, l2, l3, l4] [] h Q = Q (.inl none, h) := W_fin f130_16 rfl
theorem f130_17 : fetch 130 17 = some (.bipush 48, 2, [], .null) := by decide +kernel
theorem w130_17 : Wp d 130 17 [l0, l1, l2, l3, l4] st h Q = Wp d 130 19 [l0, l1, l2, l3, l4] (.int (48 : Int32) :: st) h Q := W_go f130_17 rfl
theorem f130_19 : fetch 130 19 = some (.iload_n 1, 1, [], .null) := by decide +kernel
theorem w130_19 : Wp d 130 19 [l0, some (.int x), l2, l3, l4] st h Q = Wp d 130 20 [l0, some (.int x), l2, l3, l4] (.int x :: st) h Q := W_go f130_19 rfl
theorem f130_20 : fetch 130 20 = some (.imul, 1, [], .null) := by decide +kernel
theorem w130_20 : Wp d 130 20 [l0, l1, l2, l3, l4] (.int y :: .int x :: st) h Q = Wp d 130 21 [l0, l1, l2, l3, l4] (.int (x * y) :: st) h Q := W_go f130_20 rfl
theorem f130_21 : fetch 130 21 = some (.aload_n 0, 1, [], .null) := by decide +kernel
theorem w130_21 : Wp d 130 21 [some (.ref a), l1, l2, l3, l4] st h Q = Wp d 130 22 [some (.ref a), l1, l2, l3, l4] (.ref a :: st) h Q := W_go f130_21 rfl
theorem f130_22 : fetch 130 22 = some (.getfield 53, 3, [9, 16, 6069, 0], .null) := by decide +kernel
theorem w130_22 : Wp d 130 22 [l0, l1, l2, l3, l4] (.ref a :: st) h Q = gP (h.2 a) 9 16 (fun w => Wp d 130 25 [l0, l1, l2, l3, l4] (w :: st) h Q) := W_get f130_22 rfl
theorem f130_25 : fetch 130 25 = some (.iload_n 1, 1, [], .null) := by decide +kernel
theorem w130_25 : Wp d 130 25 [l0, some (.int x), l2, l3, l4] st h Q = Wp d 130 26 [l0, some (.int x), l2, l3, l4] (.int x :: st) h Q := W_go f130_25 rfl
theorem f130_26 : fetch 130 26 = some (.iaload, 1, [], .null) := by decide +kernel
theorem w130_26 : Wp d 130 26 [l0, l1, l2, l3, l4] (.int x :: .ref a :: st) h Q = aP false (h.2 a) x (fun w => Wp d 130 27 [l0, l1, l2, l3, l4] (.int w :: st) h Q) := W_ald f130_26 rfl
theorem f130_27 : fetch 130 27 = some (.iadd, 1, [], .null) := by decide +kernel
theorem w130_27 : Wp d 130 27 [l0, l1, l2, l3, l4] (.int y :: .int x :: st) h Q = Wp d 130 28 [l0, l1, l2, l3, l4] (.int (x + y) :: st) h Q := W_go f130_27 rfl
theorem f130_28 : fetch 130 28 = some (.istore 4, 2, [], .null) := by decide +kernel
theorem w130_28 : Wp d 130 28 [l0, l1, l2, l3, l4] (.int x :: st) h Q = Wp d 130 30 [l0, l1, l2, kl l3, some (.int x)] st h Q := (W_st1 (pc' := 30) (k := 4) f130_28 rfl rfl (by simp only [List.length_cons, List.length_nil]; omega)).trans (by rw [pst1_succ]; rfl)
theorem f130_30 : fetch 130 30 = some (.aload_n 0, 1, [], .null) := by decide +kernel
theorem w130_30 : Wp d 130 30 [some (.ref a), l1, l2, l3, l4] st h Q = Wp d 130 31 [some (.ref a), l1, l2, l3, l4] (.ref a :: st) h Q := W_go f130_30 rfl
theorem f130_31 : fetch 130 31 = some (.getfield 56, 3, [9, 17, 6071, 0], .null) := by decide +kernel
theorem w130_31 : Wp d 130 31 [l0, l1, l2, l3, l4] (.ref a :: st) h Q = gP (h.2 a) 9 17 (fun w => Wp d 130 34 [l0, l1, l2, l3, l4] (w :: st) h Q) := W_get f130_31 rfl
theorem f130_34 : fetch 130 34 = some (.iload 4, 2, [], .null) := by decide +kernel
theorem w130_34 : Wp d 130 34 [l0, l1, l2, l3, some (.int x)] st h Q = Wp d 130 36 [l0, l1, l2, l3, some (.int x)] (.int x :: st) h Q := W_go f130_34 rfl
theorem f130_36 : fetch 130 36 = some (.iload_n 2, 1, [], .null) := by decide +kernel
theorem w130_36 : Wp d 130 36 [l0, l1, some (.int x), l3, l4] st h Q = Wp d 130 37 [l0, l1, some (.int x), l3, l4] (.int x :: st) h Q := W_go f130_36 rfl
theorem f130_37 : fetch 130 37 = some (.iastore, 1, [], .null) := by decide +kernel
theorem w130_37 : Wp d 130 37 [l0, l1, l2, l3, l4] (.int y :: .int x :: .ref a :: st) h Q = asP false (h.2 a) a x y (fun c => Wp d 130 38 [l0, l1, l2, l3, l4] st (hset h a c) Q) := W_ast f130_37 rfl
theorem f130_38 : fetch 130 38 = some (.aload_n 0, 1, [], .null) := by decide +kernel
theorem w130_38 : Wp d 130 38 [some (.ref a), l1, l2, l3, l4] st h Q = Wp d 130 39 [some (.ref a), l1, l2, l3, l4] (.ref a :: st) h Q := W_go f130_38 rfl
theorem f130_39 : fetch 130 39 = some (.getfield 59, 3, [9, 18, 6072, 0], .null) := by decide +kernel
theorem w130_39 : Wp d 130 39 [l0, l1, l2, l3, l4] (.ref a :: st) h Q = gP (h.2 a) 9 18 (fun w => Wp d 130 42 [l0, l1, l2, l3, l4] (w :: st) h Q) := W_get f130_39 rfl
theorem f130_42 : fetch 130 42 = some (.iload 4, 2, [], .null) := by decide +kernel
theorem w130_42 : Wp d 130 42 [l0, l1, l2, l3, some (.int x)] st h Q = Wp d 130 44 [l0, l1, l2, l3, some (.int x)] (.int x :: st) h Q := W_go f130_42 rfl
theorem f130_44 : fetch 130 44 = some (.aload_n 0, 1, [], .null) := by decide +kernel
theorem w130_44 : Wp d 130 44 [some (.ref a), l1, l2, l3, l4] st h Q = Wp d 130 45 [some (.ref a), l1, l2, l3, l4] (.ref a :: st) h Q := W_go f130_44 rfl
theorem f130_45 : fetch 130 45 = some (.getfield 3, 3, [9, 20, 6074, 0], .null) := by decide +kernel
theorem w130_45 : Wp d 130 45 [l0, l1, l2, l3, l4] (.ref a :: st) h Q = gP (h.2 a) 9 20 (fun w => Wp d 130 48 [l0, l1, l2, l3, l4] (w :: st) h Q) := W_get f130_45 rfl
theorem f130_48 : fetch 130 48 = some (.getfield 89, 3, [10, 10, 6142, 1], .null) := by decide +kernel
theorem w130_48 : Wp d 130 48 [l0, l1, l2, l3, l4] (.ref a :: st) h Q = gP (h.2 a) 10 10 (fun w => Wp d 130 51 [l0, l1, l2, l3, l4] (w :: st) h Q) := W_get f130_48 rfl
theorem f130_51 : fetch 130 51 = some (.getfield 115, 3, [8, 5, 5185, 1], .null) := by decide +kernel
theorem w130_51 : Wp d 130 51 [l0, l1, l2, l3, l4] (.ref a :: st) h Q = gP (h.2 a) 8 5 (fun w => Wp d 130 54 [l0, l1, l2, l3, l4] (w :: st) h Q) := W_get f130_51 rfl
theorem f130_54 : fetch 130 54 = some (.iload_n 2, 1, [], .null) := by decide +kernel
theorem w130_54 : Wp d 130 54 [l0, l1, some (.int x), l3, l4] st h Q = Wp d 130 55 [l0, l1, some (.int x), l3, l4] (.int x :: st) h Q := W_go f130_54 rfl
theorem f130_55 : fetch 130 55 = some (.iaload, 1, [], .null) := by decide +kernel
theorem w130_55 : Wp d 130 55 [l0, l1, l2, l3, l4] (.int x :: .ref a :: st) h Q = aP false (h.2 a) x (fun w => Wp d 130 56 [l0, l1, l2, l3, l4] (.int w :: st) h Q) := W_ald f130_55 rfl
theorem f130_56 : fetch 130 56 = some (.iastore, 1, [], .null) := by decide +kernel
theorem w130_56 : Wp d 130 56 [l0, l1, l2, l3, l4] (.int y :: .int x :: .ref a :: st) h Q = asP false (h.2 a) a x y (fun c => Wp d 130 57 [l0, l1, l2, l3, l4] st (hset h a c) Q) := W_ast f130_56 rfl
theorem f130_57 : fetch 130 57 = some (.aload_n 0, 1, [], .null) := by decide +kernel
theorem w130_57 : Wp d 130 57 [some (.ref a), l1, l2, l3, l4] st h Q = Wp d 130 58 [some (.ref a), l1, l2, l3, l4] (.ref a :: st) h Q := W_go f130_57 rfl
theorem f130_58 : fetch 130 58 = some (.getfield 62, 3, [9, 19, 6073, 0], .null) := by decide +kernel
theorem w130_58 : Wp d 130 58 [l0, l1, l2, l3, l4] (.ref a :: st) h Q = gP (h.2 a) 9 19 (fun w => Wp d 130 61 [l0, l1, l2, l3, l4] (w :: st) h Q) := W_get f130_58 rfl
theorem f130_61 : fetch 130 61 = some (.iload 4, 2, [], .null) := by decide +kernel
theorem w130_61 : Wp d 130 61 [l0, l1, l2, l3, some (.int x)] st h Q = Wp d 130 63 [l0, l1, l2, l3, some (.int x)] (.int x :: st) h Q := W_go f130_61 rfl
theorem f130_63 : fetch 130 63 = some (.iload_n 3, 1, [], .null) := by decide +kernel
theorem w130_63 : Wp d 130 63 [l0, l1, l2, some (.int x), l4] st h Q = Wp d 130 64 [l0, l1, l2, some (.int x), l4] (.int x :: st) h Q := W_go f130_63 rfl
theorem f130_64 : fetch 130 64 = some (.iastore, 1, [], .null) := by decide +kernel
theorem w130_64 : Wp d 130 64 [l0, l1, l2, l3, l4] (.int y :: .int x :: .ref a :: st) h Q = asP false (h.2 a) a x y (fun c => Wp d 130 65 [l0, l1, l2, l3, l4] st (hset h a c) Q) := W_ast f130_64 rfl
theorem f130_65 : fetch 130 65 = some (.aload_n 0, 1, [], .null) := by decide +kernel
theorem w130_65 : Wp d 130 65 [some (.ref a), l1, l2, l3, l4] st h Q = Wp d 130 66 [some (.ref a), l1, l2, l3, l4] (.ref a :: st) h Q := W_go f130_65 rfl
theorem f130_66 : fetch 130 66 = some (.getfield 53, 3, [9, 16, 6069, 0], .null) := by decide +kernel
theorem w130_66 : Wp d 130 66 [l0, l1, l2, l3, l4] (.ref a :: st) h Q = gP (h.2 a) 9 16 (fun w => Wp d 130 69 [l0, l1, l2, l3, l4] (w :: st) h Q) := W_get f130_66 rfl
theorem f130_69 : fetch 130 69 = some (.iload_n 1, 1, [], .null) := by decide +kernel
theorem w130_69 : Wp d 130 69 [l0, some (.int x), l2, l3, l4] st h Q = Wp d 130 70 [l0, some (.int x), l2, l3, l4] (.int x :: st) h Q := W_go f130_69 rfl
theorem f130_70 : fetch 130 70 = some (.dup2, 1, [], .null) := by decide +kernel
theorem w130_70 : Wp d 130 70 [l0, l1, l2, l3, l4] (.int x :: .ref a :: st) h Q = Wp d 130 71 [l0, l1, l2, l3, l4] (.int x :: .ref a :: .int x :: .ref a :: st) h Q := W_go f130_70 rfl
theorem f130_71 : fetch 130 71 = some (.iaload, 1, [], .null) := by decide +kernel
theorem w130_71 : Wp d 130 71 [l0, l1, l2, l3, l4] (.int x :: .ref a :: st) h Q = aP false (h.2 a) x (fun w => Wp d 130 72 [l0, l1, l2, l3, l4] (.int w :: st) h Q) := W_ald f130_71 rfl
theorem f130_72 : fetch 130 72 = some (.iconst 1, 1, [], .null) := by decide +kernel
theorem w130_72 : Wp d 130 72 [l0, l1, l2, l3, l4] st h Q = Wp d 130 73 [l0, l1, l2, l3, l4] (.int (1 : Int32) :: st) h Q := W_go f130_72 rfl
theorem f130_73 : fetch 130 73 = some (.iadd, 1, [], .null) := by decide +kernel
theorem w130_73 : Wp d 130 73 [l0, l1, l2, l3, l4] (.int y :: .int x :: st) h Q = Wp d 130 74 [l0, l1, l2, l3, l4] (.int (x + y) :: st) h Q := W_go f130_73 rfl
theorem f130_74 : fetch 130 74 = some (.iastore, 1, [], .null) := by decide +kernel
theorem w130_74 : Wp d 130 74 [l0, l1, l2, l3, l4] (.int y :: .int x :: .ref a :: st) h Q = asP false (h.2 a) a x y (fun c => Wp d 130 75 [l0, l1, l2, l3, l4] st (hset h a c) Q) := W_ast f130_74 rfl
theorem f130_75 : fetch 130 75 = some (.return_, 1, [], .null) := by decide +kernel
theorem w130_75 : Wp d 130 75 [l0, l1, l2, l3, l4] [] h Q = Q (.inl none, h) := W_fin f130_75 rfl
theorem hm131 : mhs 131 = [] := by decide +kernel
theorem f131_0 : fetch 131 0 = some (.aload_n 0, 1, [], .null) := by decide +kernel
theorem w131_0 : Wp d 131 0 [some (.ref a), l1] st h Q = Wp d 131 1 [some (.ref a), l1] (.ref a :: st) h Q := W_go f131_0 rfl
theorem f131_1 : fetch 131 1 = some (.iload_n 1, 1, [], .null) := by decide +kernel
theorem w131_1 : Wp d 131 1 [l0, some (.int x)] st h Q = Wp d 131 2 [l0, some (.int x)] (.int x :: st) h Q := W_go f131_1 rfl
theorem f131_2 : fetch 131 2 = some (.invokevirtual 108, 3, [129, 2, 10, 0, 6127, 1015, 6130, 6129, 34], .null) := by decide +kernel
theorem w131_2 (hp : psum st ≤ 8) : Wp d 131 2 [l0, l1] (v1 :: (.ref b) :: st) h Q = rP (h.2 b) 9 (Cp d 129 [(.ref b), v1] h (fun o => cK o (fun w h2 => Wp d 131 5 [l0, l1] (w.toList ++ st) h2 Q) (fun E h2 => Q (.inr E, h2)))) := (W_invV (st := st) f131_2 rfl rfl (by simp only [List.length_cons]; omega) rfl rfl hp).trans (by simp only [hm131, if_true])
theorem f131_5 : fetch 131 5 = some (.aload_n 0, 1, [], .null) := by decide +kernel
theorem w131_5 : Wp d 131 5 [some (.ref a), l1] st h Q = Wp d 131 6 [some (.ref a), l1] (.ref a :: st) h Q := W_go f131_5 rfl
theorem f131_6 : fetch 131 6 = some (.getfield 38, 3, [9, 11, 6059, 0], .null) := by decide +kernel
theorem w131_6 : Wp d 131 6 [l0, l1] (.ref a :: st) h Q = gP (h.2 a) 9 11 (fun w => Wp d 131 9 [l0, l1] (w :: st) h Q) := W_get f131_6 rfl
theorem f131_9 : fetch 131 9 = some (.iload_n 1, 1, [], .null) := by decide +kernel
theorem w131_9 : Wp d 131 9 [l0, some (.int x)] st h Q = Wp d 131 10 [l0, some (.int x)] (.int x :: st) h Q := W_go f131_9 rfl
theorem f131_10 : fetch 131 10 = some (.iaload, 1, [], .null) := by decide +kernel
theorem w131_10 : Wp d 131 10 [l0, l1] (.int x :: .ref a :: st) h Q = aP false (h.2 a) x (fun w => Wp d 131 11 [l0, l1] (.int w :: st) h Q) := W_ald f131_10 rfl
theorem f131_11 : fetch 131 11 = some (.iconst (-1), 1, [], .null) := by decide +kernel
theorem w131_11 : Wp d 131 11 [l0, l1] st h Q = Wp d 131 12 [l0, l1] (.int (-1 : Int32) :: st) h Q := W_go f131_11 rfl
theorem f131_12 : fetch 131 12 = some (.if_icmp .eq 26, 3, [], .null) := by decide +kernel
theorem w131_12 : Wp d 131 12 [l0, l1] (.int y :: .int x :: st) h Q = if icond .eq x y = true then Wp d 131 38 [l0, l1] st h Q else Wp d 131 15 [l0, l1] st h Q := W_if f131_12 rfl
theorem f131_15 : fetch 131 15 = some (.aload_n 0, 1, [], .null) := by decide +kernel
theorem w131_15 : Wp d 131 15 [some (.ref a), l1] st h Q = Wp d 131 16 [some (.ref a), l1] (.ref a :: st) h Q := W_go f131_15 rfl
theorem f131_16 : fetch 131 16 = some (.iload_n 1, 1, [], .null) := by decide +kernel
theorem w131_16 : Wp d 131 16 [l0, some (.int x)] st h Q = Wp d 131 17 [l0, some (.int x)] (.int x :: st) h Q := W_go f131_16 rfl
theorem f131_17 : fetch 131 17 = some (.aload_n 0, 1, [], .null) := by decide +kernel
theorem w131_17 : Wp d 131 17 [some (.ref a), l1] st h Q = Wp d 131 18 [some (.ref a), l1] (.ref a :: st) h Q := W_go f131_17 rfl
theorem f131_18 : fetch 131 18 = some (.getfield 3, 3, [9, 20, 6074, 0], .null) := by decide +kernel
theorem w131_18 : Wp d 131 18 [l0, l1] (.ref a :: st) h Q = gP (h.2 a) 9 20 (fun w => Wp d 131 21 [l0, l1] (w :: st) h Q) := W_get f131_18 rfl
theorem f131_21 : fetch 131 21 = some (.getfield 89, 3, [10, 10, 6142, 1], .null) := by decide +kernel
theorem w131_21 : Wp d 131 21 [l0, l1] (.ref a :: st) h Q = gP (h.2 a) 10 10 (fun w => Wp d 131 24 [l0, l1] (w :: st) h Q) := W_get f131_21 rfl
theorem f131_24 : fetch 131 24 = some (.getfield 118, 3, [8, 7, 5189, 1], .null) := by decide +kernel
theorem w131_24 : Wp d 131 24 [l0, l1] (.ref a :: st) h Q = gP (h.2 a) 8 7 (fun w => Wp d 131 27 [l0, l1] (w :: st) h Q) := W_get f131_24 rfl
theorem f131_27 : fetch 131 27 = some (.aload_n 0, 1, [], .null) := by decide +kernel
theorem w131_27 : Wp d 131 27 [some (.ref a), l1] st h Q = Wp d 131 28 [some (.ref a), l1] (.ref a :: st) h Q := W_go f131_27 rfl
theorem f131_28 : fetch 131 28 = some (.getfield 38, 3, [9, 11, 6059, 0], .null) := by decide +kernel
theorem w131_28 : Wp d 131 28 [l0, l1] (.ref a :: st) h Q = gP (h.2 a) 9 11 (fun w => Wp d 131 31 [l0, l1] (w :: st) h Q) := W_get f131_28 rfl
theorem f131_31 : fetch 131 31 = some (.iload_n 1, 1, [], .null) := by decide +kernel
theorem w131_31 : Wp d 131 31 [l0, some (.int x)] st h Q = Wp d 131 32 [l0, some (.int x)] (.int x :: st) h Q := W_go f131_31 rfl
theorem f131_32 : fetch 131 32 = some (.iaload, 1, [], .null) := by decide +kernel
theorem w131_32 : Wp d 131 32 [l0, l1] (.int x :: .ref a :: st) h Q = aP false (h.2 a) x (fun w => Wp d 131 33 [l0, l1] (.int w :: st) h Q) := W_ald f131_32 rfl
theorem f131_33 : fetch 131 33 = some (.iaload, 1, [], .null) := by decide +kernel
theorem w131_33 : Wp d 131 33 [l0, l1] (.int x :: .ref a :: st) h Q = aP false (h.2 a) x (fun w => Wp d 131 34 [l0, l1] (.int w :: st) h Q) := W_ald f131_33 rfl
theorem f131_34 : fetch 131 34 = some (.iconst 1, 1, [], .null) := by decide +kernel
theorem w131_34 : Wp d 131 34 [l0, l1] st h Q = Wp d 131 35 [l0, l1] (.int (1 : Int32) :: st) h Q := W_go f131_34 rfl
theorem f131_35 : fetch 131 35 = some (.invokevirtual 121, 3, [130, 4, 10, 0, 7109, 1015, 7112, 7111, 65], .null) := by decide +kernel
theorem w131_35 (hp : psum st ≤ 8) : Wp d 131 35 [l0, l1] (v3 :: v2 :: v1 :: (.ref b) :: st) h Q = rP (h.2 b) 9 (Cp d 130 [(.ref b), v1, v2, v3] h (fun o => cK o (fun w h2 => Wp d 131 38 [l0, l1] (w.toList ++ st) h2 Q) (fun E h2 => Q (.inr E, h2)))) := (W_invV (st := st) f131_35 rfl rfl (by simp only [List.length_cons]; omega) rfl rfl hp).trans (by simp only [hm131, if_true])
theorem f131_38 : fetch 131 38 = some (.return_, 1, [], .null) := by decide +kernel
theorem w131_38 : Wp d 131 38 [l0, l1] [] h Q = Q (.inl none, h) := W_fin f131_38 rfl
theorem hm132 : mhs 132 = [] := by decide +kernel
theorem hr132 : mret 132 = (some .int) := by decide +kernel
theorem f132_0 : fetch 132 0 = some (.aload_n 0, 1, [], .null) := by decide +kernel
theorem w132_0 : Wp d 132 0 [some (.ref a), l1, l2, l3] st h Q = Wp d 132 1 [some (.ref a), l1, l2, l3] (.ref a :: st) h Q := W_go f132_0 rfl
theorem f132_1 : fetch 132 1 = some (.getfield 3, 3, [9, 20, 6074, 0], .null) := by decide +kernel
theorem w132_1 : Wp d 132 1 [l0, l1, l2, l3] (.ref a :: st) h Q = gP (h.2 a) 9 20 (fun w => Wp d 132 4 [l0, l1, l2, l3] (w :: st) h Q) := W_get f132_1 rfl
theorem f132_4 : fetch 132 4 = some (.getfield 89, 3, [10, 10, 6142, 1], .null) := by decide +kernel
theorem w132_4 : Wp d 132 4 [l0, l1, l2, l3] (.ref a :: st) h Q = gP (h.2 a) 10 10 (fun w => Wp d 132 7 [l0, l1, l2, l3] (w :: st) h Q) := W_get f132_4 rfl
theorem f132_7 : fetch 132 7 = some (.aload_n 0, 1, [], .null) := by decide +kernel
theorem w132_7 : Wp d 132 7 [some (.ref a), l1, l2, l3] st h Q = Wp d 132 8 [some (.ref a), l1, l2, l3] (.ref a :: st) h Q := W_go f132_7 rfl
theorem f132_8 : fetch 132 8 = some (.getfield 35, 3, [9, 10, 6057, 0], .null) := by decide +kernel
theorem w132_8 : Wp d 132 8 [l0, l1, l2, l3] (.ref a :: st) h Q = gP (h.2 a) 9 10 (fun w => Wp d 132 11 [l0, l1, l2, l3] (w :: st) h Q) := W_get f132_8 rfl
theorem f132_11 : fetch 132 11 = some (.iload_n 1, 1, [], .null) := by decide +kernel
theorem w132_11 : Wp d 132 11 [l0, some (.int x), l2, l3] st h Q = Wp d 132 12 [l0, some (.int x), l2, l3] (.int x :: st) h Q := W_go f132_11 rfl
theorem f132_12 : fetch 132 12 = some (.iaload, 1, [], .null) := by decide +kernel
theorem w132_12 : Wp d 132 12 [l0, l1, l2, l3] (.int x :: .ref a :: st) h Q = aP false (h.2 a) x (fun w => Wp d 132 13 [l0, l1, l2, l3] (.int w :: st) h Q) := W_ald f132_12 rfl
theorem f132_13 : fetch 132 13 = some (.invokevirtual 125, 3, [119, 2, 9, 0, 7190, 1014, 7193, 7191, 7192], .null) := by decide +kernel
theorem w132_13 (hp : psum st ≤ 8) : Wp d 132 13 [l0, l1, l2, l3] (v1 :: (.ref b) :: st) h Q = rP (h.2 b) 8 (Cp d 119 [(.ref b), v1] h (fun o => cK o (fun w h2 => Wp d 132 16 [l0, l1, l2, l3] (w.toList ++ st) h2 Q) (fun E h2 => Q (.inr E, h2)))) := (W_invV (st := st) f132_13 rfl rfl (by simp only [List.length_cons]; omega) rfl rfl hp).trans (by simp only [hm132, if_true])
theorem f132_16 : fetch 132 16 = some (.istore_n 3, 1, [], .null) := by decide +kernel
theorem w132_16 : Wp d 132 16 [l0, l1, l2, l3] (.int x :: st) h Q = Wp d 132 17 [l0, l1, kl l2, some (.int x)] st h Q := (W_st1 (pc' := 17) (k := 3) f132_16 rfl rfl (by simp only [List.length_cons, List.length_nil]; omega)).trans (by rw [pst1_succ]; rfl)
theorem f132_17 : fetch 132 17 = some (.iload_n 3, 1, [], .null) := by decide +kernel
theorem w132_17 : Wp d 132 17 [l0, l1, l2, some (.int x)] st h Q = Wp d 132 18 [l0, l1, l2, some (.int x)] (.int x :: st) h Q := W_go f132_17 rfl
theorem f132_18 : fetch 132 18 = some (.iconst (-1), 1, [], .null) := by decide +kernel
theorem w132_18 : Wp d 132 18 [l0, l1, l2, l3] st h Q = Wp d 132 19 [l0, l1, l2, l3] (.int (-1 : Int32) :: st) h Q := W_go f132_18 rfl
theorem f132_19 : fetch 132 19 = some (.if_icmp .ne 5, 3, [], .null) := by decide +kernel
theorem w132_19 : Wp d 132 19 [l0, l1, l2, l3] (.int y :: .int x :: st) h Q = if icond .ne x y = true then Wp d 132 24 [l0, l1, l2, l3] st h Q else Wp d 132 22 [l0, l1, l2, l3] st h Q := W_if f132_19 rfl
theorem f132_22 : fetch 132 22 = some (.iconst (-1), 1, [], .null) := by decide +kernel
theorem w132_22 : Wp d 132 22 [l0, l1, l2, l3] st h Q = Wp d 132 23 [l0, l1, l2, l3] (.int (-1 : Int32) :: st) h Q := W_go f132_22 rfl
theorem f132_23 : fetch 132 23 = some (.ireturn, 1, [], .null) := by decide +kernel
theorem w132_23 : Wp d 132 23 [l0, l1, l2, l3] [.int x] h Q = Q (.inl (some (.int x)), h) := W_iret f132_23 hr132
theorem f132_24 : fetch 132 24 = some (.iload_n 2, 1, [], .null) := by decide +kernel
theorem w132_24 : Wp d 132 24 [l0, l1, some (.int x), l3] st h Q = Wp d 132 25 [l0, l1, some (.int x), l3] (.int x :: st) h Q := W_go f132_24 rfl
theorem f132_25 : fetch 132 25 = some (.bipush 16, 2, [], .null) := by decide +kernel
theorem w132_25 : Wp d 132 25 [l0, l1, l2, l3] st h Q = Wp d 132 27 [l0, l1, l2, l3] (.int (16 : Int32) :: st) h Q := W_go f132_25 rfl
theorem f132_27 : fetch 132 27 = some (.if_icmp .ne 12, 3, [], .null) := by decide +kernel
theorem w132_27 : Wp d 132 27 [l0, l1, l2, l3] (.int y :: .int x :: st) h Q = if icond .ne x y = true then Wp d 132 39 [l0, l1, l2, l3] st h Q else Wp d 132 30 [l0, l1, l2, l3] st h Q := W_if f132_27 rfl
theorem f132_30 : fetch 132 30 = some (.aload_n 0, 1, [], .null) := by decide +kernel
theorem w132_30 : Wp d 132 30 [some (.ref a), l1, l2, l3] st h Q = Wp d 132 31 [some (.ref a), l1, l2, l3] (.ref a :: st) h Q := W_go f132_30 rfl
theorem f132_31 : fetch 132 31 = some (.getfield 15, 3, [9, 4, 6046, 0], .null) := by decide +kernel
theorem w132_31 : Wp d 132 31 [l0, l1, l2, l3] (.ref a :: st) h Q = gP (h.2 a) 9 4 (fun w => Wp d 132 34 [l0, l1, l2, l3] (w :: st) h Q) := W_get f132_31 rfl
theorem f132_34 : fetch 132 34 = some (.iload_n 3, 1, [], .null) := by decide +kernel
theorem w132_34 : Wp d 132 34 [l0, l1, l2, some (.int x)] st h Q = Wp d 132 35 [l0, l1, l2, some (.int x)] (.int x :: st) h Q := W_go f132_34 rfl
theorem f132_35 : fetch 132 35 = some (.iaload, 1, [], .null) := by decide +kernel
theorem w132_35 : Wp d 132 35 [l0, l1, l2, l3] (.int x :: .ref a :: st) h Q = aP false (h.2 a) x (fun w => Wp d 132 36 [l0, l1, l2, l3] (.int w :: st) h Q) := W_ald f132_35 rfl
theorem f132_36 : fetch 132 36 = some (.goto 32, 3, [], .null) := by decide +kernel
theorem w132_36 : Wp d 132 36 [l0, l1, l2, l3] st h Q = Wp d 132 68 [l0, l1, l2, l3] st h Q := W_go f132_36 rfl
theorem f132_39 : fetch 132 39 = some (.iload_n 2, 1, [], .null) := by decide +kernel
theorem w132_39 : Wp d 132 39 [l0, l1, some (.int x), l3] st h Q = Wp d 132 40 [l0, l1, some (.int x), l3] (.int x :: st) h Q := W_go f132_39 rfl
theorem f132_40 : fetch 132 40 = some (.bipush 17, 2, [], .null) := by decide +kernel
theorem w132_40 : Wp d 132 40 [l0, l1, l2, l3] st h Q = Wp d 132 42 [l0, l1, l2, l3] (.int (17 : Int32) :: st) h Q := W_go f132_40 rfl
theorem f132_42 : fetch 132 42 = some (.if_icmp .ne 12, 3, [], .null) := by decide +kernel
theorem w132_42 : Wp d 132 42 [l0, l1, l2, l3] (.int y :: .int x :: st) h Q = if icond .ne x y = true then Wp d 132 54 [l0, l1, l2, l3] st h Q else Wp d 132 45 [l0, l1, l2, l3] st h Q := W_if f132_42 rfl
theorem f132_45 : fetch 132 45 = some (.aload_n 0, 1, [], .null) := by decide +kernel
theorem w132_45 : Wp d 132 45 [some (.ref a), l1, l2, l3] st h Q = Wp d 132 46 [some (.ref a), l1, l2, l3] (.ref a :: st) h Q := W_go f132_45 rfl
theorem f132_46 : fetch 132 46 = some (.getfield 19, 3, [9, 5, 6048, 0], .null) := by decide +kernel
theorem w132_46 : Wp d 132 46 [l0, l1, l2, l3] (.ref a :: st) h Q = gP (h.2 a) 9 5 (fun w => Wp d 132 49 [l0, l1, l2, l3] (w :: st) h Q) := W_get f132_46 rfl
theorem f132_49 : fetch 132 49 = some (.iload_n 3, 1, [], .null) := by decide +kernel
theorem w132_49 : Wp d 132 49 [l0, l1, l2, some (.int x)] st h Q = Wp d 132 50 [l0, l1, l2, some (.int x)] (.int x :: st) h Q := W_go f132_49 rfl
theorem f132_50 : fetch 132 50 = some (.iaload, 1, [], .null) := by decide +kernel
theorem w132_50 : Wp d 132 50 [l0, l1, l2, l3] (.int x :: .ref a :: st) h Q = aP false (h.2 a) x (fun w => Wp d 132 51 [l0, l1, l2, l3] (.int w :: st) h Q) := W_ald f132_50 rfl
theorem f132_51 : fetch 132 51 = some (.goto 17, 3, [], .null) := by decide +kernel
theorem w132_51 : Wp d 132 51 [l0, l1, l2, l3] st h Q = Wp d 132 68 [l0, l1, l2, l3] st h Q := W_go f132_51 rfl
theorem f132_54 : fetch 132 54 = some (.aload_n 0, 1, [], .null) := by decide +kernel
theorem w132_54 : Wp d 132 54 [some (.ref a), l1, l2, l3] st h Q = Wp d 132 55 [some (.ref a), l1, l2, l3] (.ref a :: st) h Q := W_go f132_54 rfl
theorem f132_55 : fetch 132 55 = some (.getfield 28, 3, [9, 8, 6053, 0], .null) := by decide +kernel
theorem w132_55 : Wp d 132 55 [l0, l1, l2, l3] (.ref a :: st) h Q = gP (h.2 a) 9 8 (fun w => Wp d 132 58 [l0, l1, l2, l3] (w :: st) h Q) := W_get f132_55 rfl
theorem f132_58 : fetch 132 58 = some (.iload_n 3, 1, [], .null) := by decide +kernel
theorem w132_58 : Wp d 132 58 [l0, l1, l2, some (.int x)] st h Q = Wp d 132 59 [l0, l1, l2, some (.int x)] (.int x :: st) h Q := W_go f132_58 rfl
theorem f132_59 : fetch 132 59 = some (.baload, 1, [], .null) := by decide +kernel
theorem w132_59 : Wp d 132 59 [l0, l1, l2, l3] (.int x :: .ref a :: st) h Q = aP true (h.2 a) x (fun w => Wp d 132 60 [l0, l1, l2, l3] (.int w :: st) h Q) := W_ald f132_59 rfl
theorem f132_60 : fetch 132 60 = some (.ifCond .eq 7, 3, [], .null) := by decide +kernel
theorem w132_60 : Wp d 132 60 [l0, l1, l2, l3] (.int x :: st) h Q = if icond .eq x 0 = true then Wp d 132 67 [l0, l1, l2, l3] st h Q else Wp d 132 63 [l0, l1, l2, l3] st h Q := W_if f132_60 rfl
theorem f132_63 : fetch 132 63 = some (.iconst 1, 1, [], .null) := by decide +kernel
theorem w132_63 : Wp d 132 63 [l0, l1, l2, l3] st h Q = Wp d 132 64 [l0, l1, l2, l3] (.int (1 : Int32) :: st) h Q := W_go f132_63 rfl
theorem f132_64 : fetch 132 64 = some (.goto 4, 3, [], .null) := by decide +kernel
theorem w132_64 : Wp d 132 64 [l0, l1, l2, l3] st h Q = Wp d 132 68 [l0, l1, l2, l3] st h Q := W_go f132_64 rfl
theorem f132_67 : fetch 132 67 = some (.iconst 0, 1, [], .null) := by decide +kernel
theorem w132_67 : Wp d 132 67 [l0, l1, l2, l3] st h Q = Wp d 132 68 [l0, l1, l2, l3] (.int (0 : Int32) :: st) h Q := W_go f132_67 rfl
theorem f132_68 : fetch 132 68 = some (.ireturn, 1, [], .null) := by decide +kernel
theorem w132_68 : Wp d 132 68 [l0, l1, l2, l3] [.int x] h Q = Q (.inl (some (.int x)), h) := W_iret f132_68 hr132
theorem hm133 : mhs 133 = [] := by decide +kernel
theorem hr133 : mret 133 = (some .int) := by decide +kernel
theorem f133_0 : fetch 133 0 = some (.iload_n 2, 1, [], .null) := by decide +kernel
theorem w133_0 : Wp d 133 0 [l0, l1, some (.int x)] st h Q = Wp d 133 1 [l0, l1, some (.int x)] (.int x :: st) h Q := W_go f133_0 rfl
theorem f133_1 : fetch 133 1 = some (.sipush 1000, 3, [], .null) := by decide +kernel
theorem w133_1 : Wp d 133 1 [l0, l1, l2] st h Q = Wp d 133 4 [l0, l1, l2] (.int (1000 : Int32) :: st) h Q := W_go f133_1 rfl
theorem f133_4 : fetch 133 4 = some (.if_icmp .ge 5, 3, [], .null) := by decide +kernel
theorem w133_4 : Wp d 133 4 [l0, l1, l2] (.int y :: .int x :: st) h Q = if icond .ge x y = true then Wp d 133 9 [l0, l1, l2] st h Q else Wp d 133 7 [l0, l1, l2] st h Q := W_if f133_4 rfl
theorem f133_7 : fetch 133 7 = some (.iload_n 2, 1, [], .null) := by decide +kernel
theorem w133_7 : Wp d 133 7 [l0, l1, some (.int x)] st h Q = Wp d 133 8 [l0, l1, some (.int x)] (.int x :: st) h Q := W_go f133_7 rfl
theorem f133_8 : fetch 133 8 = some (.ireturn, 1, [], .null) := by decide +kernel
theorem w133_8 : Wp d 133 8 [l0, l1, l2] [.int x] h Q = Q (.inl (some (.int x)), h) := W_iret f133_8 hr133
theorem f133_9 : fetch 133 9 = some (.iload_n 2, 1, [], .null) := by decide +kernel
theorem w133_9 : Wp d 133 9 [l0, l1, some (.int x)] st h Q = Wp d 133 10 [l0, l1, some (.int x)] (.int x :: st) h Q := W_go f133_9 rfl
theorem f133_10 : fetch 133 10 = some (.sipush 1000, 3, [], .null) := by decide +kernel
theorem w133_10 : Wp d 133 10 [l0, l1, l2] st h Q = Wp d 133 13 [l0, l1, l2] (.int (1000 : Int32) :: st) h Q := W_go f133_10 rfl
theorem f133_13 : fetch 133 13 = some (.isub, 1, [], .null) := by decide +kernel
theorem w133_13 : Wp d 133 13 [l0, l1, l2] (.int y :: .int x :: st) h Q = Wp d 133 14 [l0, l1, l2] (.int (x - y) :: st) h Q := W_go f133_13 rfl
theorem f133_14 : fetch 133 14 = some (.tableswitch 54 19 22 #[30, 37, 42, 47], 30, [], .null) := by decide +kernel
theorem w133_14 : Wp d 133 14 [l0, l1, l2] (.int x :: st) h Q = Wp d 133 (ptable 14 54 19 22 #[30, 37, 42, 47] x) [l0, l1, l2] st h Q := W_go f133_14 rfl
theorem f133_44 : fetch 133 44 = some (.aload_n 0, 1, [], .null) := by decide +kernel
theorem w133_44 : Wp d 133 44 [some (.ref a), l1, l2] st h Q = Wp d 133 45 [some (.ref a), l1, l2] (.ref a :: st) h Q := W_go f133_44 rfl
theorem f133_45 : fetch 133 45 = some (.getfield 32, 3, [9, 9, 6055, 0], .null) := by decide +kernel
theorem w133_45 : Wp d 133 45 [l0, l1, l2] (.ref a :: st) h Q = gP (h.2 a) 9 9 (fun w => Wp d 133 48 [l0, l1, l2] (w :: st) h Q) := W_get f133_45 rfl
theorem f133_48 : fetch 133 48 = some (.iload_n 1, 1, [], .null) := by decide +kernel
theorem w133_48 : Wp d 133 48 [l0, some (.int x), l2] st h Q = Wp d 133 49 [l0, some (.int x), l2] (.int x :: st) h Q := W_go f133_48 rfl
theorem f133_49 : fetch 133 49 = some (.iaload, 1, [], .null) := by decide +kernel
theorem w133_49 : Wp d 133 49 [l0, l1, l2] (.int x :: .ref a :: st) h Q = aP false (h.2 a) x (fun w => Wp d 133 50 [l0, l1, l2] (.int w :: st) h Q) := W_ald f133_49 rfl
theorem f133_50 : fetch 133 50 = some (.ireturn, 1, [], .null) := by decide +kernel
theorem w133_50 : Wp d 133 50 [l0, l1, l2] [.int x] h Q = Q (.inl (some (.int x)), h) := W_iret f133_50 hr133
theorem f133_51 : fetch 133 51 = some (.aload_n 0, 1, [], .null) := by decide +kernel
theorem w133_51 : Wp d 133 51 [some (.ref a), l1, l2] st h Q = Wp d 133 52 [some (.ref a), l1, l2] (.ref a :: st) h Q := W_go f133_51 rfl
theorem f133_52 : fetch 133 52 = some (.invokevirtual 111, 3, [127, 1, 10, 0, 7162, 1015, 7165, 7163, 7164], .null) := by decide +kernel
theorem w133_52 (hp : psum st ≤ 8) : Wp d 133 52 [l0, l1, l2] ((.ref b) :: st) h Q = rP (h.2 b) 9 (Cp d 127 [(.ref b)] h (fun o => cK o (fun w h2 => Wp d 133 55 [l0, l1, l2] (w.toList ++ st) h2 Q) (fun E h2 => Q (.inr E, h2)))) := (W_invV (st := st) f133_52 rfl rfl (by simp only [List.length_cons]; omega) rfl rfl hp).trans (by simp only [hm133, if_true])
theorem f133_55 : fetch 133 55 = some (.ireturn, 1, [], .null) := by decide +kernel
theorem w133_55 : Wp d 133 55 [l0, l1, l2] [.int x] h Q = Q (.inl (some (.int x)), h) := W_iret f133_55 hr133
theorem f133_56 : fetch 133 56 = some (.aload_n 0, 1, [], .null) := by decide +kernel
theorem w133_56 : Wp d 133 56 [some (.ref a), l1, l2] st h Q = Wp d 133 57 [some (.ref a), l1, l2] (.ref a :: st) h Q := W_go f133_56 rfl
theorem f133_57 : fetch 133 57 = some (.getfield 75, 3, [9, 1, 6040, 0], .null) := by decide +kernel
theorem w133_57 : Wp d 133 57 [l0, l1, l2] (.ref a :: st) h Q = gP (h.2 a) 9 1 (fun w => Wp d 133 60 [l0, l1, l2] (w :: st) h Q) := W_get f133_57 rfl
theorem f133_60 : fetch 133 60 = some (.ireturn, 1, [], .null) := by decide +kernel
theorem w133_60 : Wp d 133 60 [l0, l1, l2] [.int x] h Q = Q (.inl (some (.int x)), h) := W_iret f133_60 hr133
theorem f133_61 : fetch 133 61 = some (.aload_n 0, 1, [], .null) := by decide +kernel
theorem w133_61 : Wp d 133 61 [some (.ref a), l1, l2] st h Q = Wp d 133 62 [some (.ref a), l1, l2] (.ref a :: st) h Q := W_go f133_61 rfl
theorem f133_62 : fetch 133 62 = some (.getfield 35, 3, [9, 10, 6057, 0], .null) := by decide +kernel
theorem w133_62 : Wp d 133 62 [l0, l1, l2] (.ref a :: st) h Q = gP (h.2 a) 9 10 (fun w => Wp d 133 65 [l0, l1, l2] (w :: st) h Q) := W_get f133_62 rfl
theorem f133_65 : fetch 133 65 = some (.iload_n 1, 1, [], .null) := by decide +kernel
theorem w133_65 : Wp d 133 65 [l0, some (.int x), l2] st h Q = Wp d 133 66 [l0, some (.int x), l2] (.int x :: st) h Q := W_go f133_65 rfl
theorem f133_66 : fetch 133 66 = some (.iaload, 1, [], .null) := by decide +kernel
theorem w133_66 : Wp d 133 66 [l0, l1, l2] (.int x :: .ref a :: st) h Q = aP false (h.2 a) x (fun w => Wp d 133 67 [l0, l1, l2] (.int w :: st) h Q) := W_ald f133_66 rfl
theorem f133_67 : fetch 133 67 = some (.ireturn, 1, [], .null) := by decide +kernel
theorem w133_67 : Wp d 133 67 [l0, l1, l2] [.int x] h Q = Q (.inl (some (.int x)), h) := W_iret f133_67 hr133
theorem f133_68 : fetch 133 68 = some (.aload_n 0, 1, [], .null) := by decide +kernel
theorem w133_68 : Wp d 133 68 [some (.ref a), l1, l2] st h Q = Wp d 133 69 [some (.ref a), l1, l2] (.ref a :: st) h Q := W_go f133_68 rfl
theorem f133_69 : fetch 133 69 = some (.iload_n 1, 1, [], .null) := by decide +kernel
theorem w133_69 : Wp d 133 69 [l0, some (.int x), l2] st h Q = Wp d 133 70 [l0, some (.int x), l2] (.int x :: st) h Q := W_go f133_69 rfl
theorem f133_70 : fetch 133 70 = some (.iload_n 2, 1, [], .null) := by decide +kernel
theorem w133_70 : Wp d 133 70 [l0, l1, some (.int x)] st h Q = Wp d 133 71 [l0, l1, some (.int x)] (.int x :: st) h Q := W_go f133_70 rfl
theorem f133_71 : fetch 133 71 = some (.sipush 1000, 3, [], .null) := by decide +kernel
theorem w133_71 : Wp d 133 71 [l0, l1, l2] st h Q = Wp d 133 74 [l0, l1, l2] (.int (1000 : Int32) :: st) h Q := W_go f133_71 rfl
theorem f133_74 : fetch 133 74 = some (.isub, 1, [], .null) := by decide +kernel
theorem w133_74 : Wp d 133 74 [l0, l1, l2] (.int y :: .int x :: st) h Q = Wp d 133 75 [l0, l1, l2] (.int (x - y) :: st) h Q := W_go f133_74 rfl
theorem f133_75 : fetch 133 75 = some (.invokevirtual 129, 3, [132, 3, 10, 0, 7186, 1015, 7189, 7188, 73], .null) := by decide +kernel
theorem w133_75 (hp : psum st ≤ 8) : Wp d 133 75 [l0, l1, l2] (v2 :: v1 :: (.ref b) :: st) h Q = rP (h.2 b) 9 (Cp d 132 [(.ref b), v1, v2] h (fun o => cK o (fun w h2 => Wp d 133 78 [l0, l1, l2] (w.toList ++ st) h2 Q) (fun E h2 => Q (.inr E, h2)))) := (W_invV (st := st) f133_75 rfl rfl (by simp only [List.length_cons]; omega) rfl rfl hp).trans (by simp only [hm133, if_true])
theorem f133_78 : fetch 133 78 = some (.ireturn, 1, [], .null) := by decide +kernel
theorem w133_78 : Wp d 133 78 [l0, l1, l2] [.int x] h Q = Q (.inl (some (.int x)), h) := W_iret f133_78 hr133
theorem hm134 : mhs 134 = [] := by decide +kernel
theorem hr134 : mret 134 = (some .boolean) := by decide +kernel
theorem f134_0 : fetch 134 0 = some (.aload_n 0, 1, [], .null) := by decide +kernel
theorem w134_0 : Wp d 134 0 [some (.ref a), l1, l2, l3, l4, l5] st h Q = Wp d 134 1 [some (.ref a), l1, l2, l3, l4, l5] (.ref a :: st) h Q := W_go f134_0 rfl
theorem f134_1 : fetch 134 1 = some (.getfield 3, 3, [9, 20, 6074, 0], .null) := by decide +kernel
theorem w134_1 : Wp d 134 1 [l0, l1, l2, l3, l4, l5] (.ref a :: st) h Q = gP (h.2 a) 9 20 (fun w => Wp d 134 4 [l0, l1, l2, l3, l4, l5] (w :: st) h Q) := W_get f134_1 rfl
theorem f134_4 : fetch 134 4 = some (.getfield 89, 3, [10, 10, 6142, 1], .null) := by decide +kernel
theorem w134_4 : Wp d 134 4 [l0, l1, l2, l3, l4, l5] (.ref a :: st) h Q = gP (h.2 a) 10 10 (fun w => Wp d 134 7 [l0, l1, l2, l3, l4, l5] (w :: st) h Q) := W_get f134_4 rfl
theorem f134_7 : fetch 134 7 = some (.getfield 133, 3, [8, 16, 5212, 1], .null) := by decide +kernel
theorem w134_7 : Wp d 134 7 [l0, l1, l2, l3, l4, l5] (.ref a :: st) h Q = gP (h.2 a) 8 16 (fun w => Wp d 134 10 [l0, l1, l2, l3, l4, l5] (w :: st) h Q) := W_get f134_7 rfl
theorem f134_10 : fetch 134 10 = some (.iload_n 2, 1, [], .null) := by decide +kernel
theorem w134_10 : Wp d 134 10 [l0, l1, some (.int x), l3, l4, l5] st h Q = Wp d 134 11 [l0, l1, some (.int x), l3, l4, l5] (.int x :: st) h Q := W_go f134_10 rfl
theorem f134_11 : fetch 134 11 = some (.iaload, 1, [], .null) := by decide +kernel
theorem w134_11 : Wp d 134 11 [l0, l1, l2, l3, l4, l5] (.int x :: .ref a :: st) h Q = aP false (h.2 a) x (fun w => Wp d 134 12 [l0, l1, l2, l3, l4, l5] (.int w :: st) h Q) := W_ald f134_11 rfl
theorem f134_12 : fetch 134 12 = some (.istore_n 3, 1, [], .null) := by decide +kernel
theorem w134_12 : Wp d 134 12 [l0, l1, l2, l3, l4, l5] (.int x :: st) h Q = Wp d 134 13 [l0, l1, kl l2, some (.int x), l4, l5] st h Q := (W_st1 (pc' := 13) (k := 3) f134_12 rfl rfl (by simp only [List.length_cons, List.length_nil]; omega)).trans (by rw [pst1_succ]; rfl)
theorem f134_13 : fetch 134 13 = some (.iload_n 3, 1, [], .null) := by decide +kernel
theorem w134_13 : Wp d 134 13 [l0, l1, l2, some (.int x), l4, l5] st h Q = Wp d 134 14 [l0, l1, l2, some (.int x), l4, l5] (.int x :: st) h Q := W_go f134_13 rfl
theorem f134_14 : fetch 134 14 = some (.aload_n 0, 1, [], .null) := by decide +kernel
theorem w134_14 : Wp d 134 14 [some (.ref a), l1, l2, l3, l4, l5] st h Q = Wp d 134 15 [some (.ref a), l1, l2, l3, l4, l5] (.ref a :: st) h Q := W_go f134_14 rfl
theorem f134_15 : fetch 134 15 = some (.getfield 3, 3, [9, 20, 6074, 0], .null) := by decide +kernel
theorem w134_15 : Wp d 134 15 [l0, l1, l2, l3, l4, l5] (.ref a :: st) h Q = gP (h.2 a) 9 20 (fun w => Wp d 134 18 [l0, l1, l2, l3, l4, l5] (w :: st) h Q) := W_get f134_15 rfl
theorem f134_18 : fetch 134 18 = some (.getfield 89, 3, [10, 10, 6142, 1], .null) := by decide +kernel
theorem w134_18 : Wp d 134 18 [l0, l1, l2, l3, l4, l5] (.ref a :: st) h Q = gP (h.2 a) 10 10 (fun w => Wp d 134 21 [l0, l1, l2, l3, l4, l5] (w :: st) h Q) := W_get f134_18 rfl
theorem f134_21 : fetch 134 21 = some (.getfield 136, 3, [8, 17, 5215, 1], .null) := by decide +kernel
theorem w134_21 : Wp d 134 21 [l0, l1, l2, l3, l4, l5] (.ref a :: st) h Q = gP (h.2 a) 8 17 (fun w => Wp d 134 24 [l0, l1, l2, l3, l4, l5] (w :: st) h Q) := W_get f134_21 rfl
theorem f134_24 : fetch 134 24 = some (.iload_n 2, 1, [], .null) := by decide +kernel
theorem w134_24 : Wp d 134 24 [l0, l1, some (.int x), l3, l4, l5] st h Q = Wp d 134 25 [l0, l1, some (.int x), l3, l4, l5] (.int x :: st) h Q := W_go f134_24 rfl
theorem f134_25 : fetch 134 25 = some (.iaload, 1, [], .null) := by decide +kernel
theorem w134_25 : Wp d 134 25 [l0, l1, l2, l3, l4, l5] (.int x :: .ref a :: st) h Q = aP false (h.2 a) x (fun w => Wp d 134 26 [l0, l1, l2, l3, l4, l5] (.int w :: st) h Q) := W_ald f134_25 rfl
theorem f134_26 : fetch 134 26 = some (.if_icmp .ge 110, 3, [], .null) := by decide +kernel
theorem w134_26 : Wp d 134 26 [l0, l1, l2, l3, l4, l5] (.int y :: .int x :: st) h Q = if icond .ge x y = true then Wp d 134 136 [l0, l1, l2, l3, l4, l5] st h Q else Wp d 134 29 [l0, l1, l2, l3, l4, l5] st h Q := W_if f134_26 rfl
theorem f134_29 : fetch 134 29 = some (.aload_n 0, 1, [], .null) := by decide +kernel
theorem w134_29 : Wp d 134 29 [some (.ref a), l1, l2, l3, l4, l5] st h Q = Wp d 134 30 [some (.ref a), l1, l2, l3, l4, l5] (.ref a :: st) h Q := W_go f134_29 rfl
theorem f134_30 : fetch 134 30 = some (.iload_n 1, 1, [], .null) := by decide +kernel
theorem w134_30 : Wp d 134 30 [l0, some (.int x), l2, l3, l4, l5] st h Q = Wp d 134 31 [l0, some (.int x), l2, l3, l4, l5] (.int x :: st) h Q := W_go f134_30 rfl
theorem f134_31 : fetch 134 31 = some (.aload_n 0, 1, [], .null) := by decide +kernel
theorem w134_31 : Wp d 134 31 [some (.ref a), l1, l2, l3, l4, l5] st h Q = Wp d 134 32 [some (.ref a), l1, l2, l3, l4, l5] (.ref a :: st) h Q := W_go f134_31 rfl
theorem f134_32 : fetch 134 32 = some (.getfield 3, 3, [9, 20, 6074, 0], .null) := by decide +kernel
theorem w134_32 : Wp d 134 32 [l0, l1, l2, l3, l4, l5] (.ref a :: st) h Q = gP (h.2 a) 9 20 (fun w => Wp d 134 35 [l0, l1, l2, l3, l4, l5] (w :: st) h Q) := W_get f134_32 rfl
theorem f134_35 : fetch 134 35 = some (.getfield 89, 3, [10, 10, 6142, 1], .null) := by decide +kernel
theorem w134_35 : Wp d 134 35 [l0, l1, l2, l3, l4, l5] (.ref a :: st) h Q = gP (h.2 a) 10 10 (fun w => Wp d 134 38 [l0, l1, l2, l3, l4, l5] (w :: st) h Q) := W_get f134_35 rfl
theorem f134_38 : fetch 134 38 = some (.getfield 139, 3, [8, 19, 5219, 1], .null) := by decide +kernel
theorem w134_38 : Wp d 134 38 [l0, l1, l2, l3, l4, l5] (.ref a :: st) h Q = gP (h.2 a) 8 19 (fun w => Wp d 134 41 [l0, l1, l2, l3, l4, l5] (w :: st) h Q) := W_get f134_38 rfl
theorem f134_41 : fetch 134 41 = some (.iload_n 3, 1, [], .null) := by decide +kernel
theorem w134_41 : Wp d 134 41 [l0, l1, l2, some (.int x), l4, l5] st h Q = Wp d 134 42 [l0, l1, l2, some (.int x), l4, l5] (.int x :: st) h Q := W_go f134_41 rfl
theorem f134_42 : fetch 134 42 = some (.iaload, 1, [], .null) := by decide +kernel
theorem w134_42 : Wp d 134 42 [l0, l1, l2, l3, l4, l5] (.int x :: .ref a :: st) h Q = aP false (h.2 a) x (fun w => Wp d 134 43 [l0, l1, l2, l3, l4, l5] (.int w :: st) h Q) := W_ald f134_42 rfl
theorem f134_43 : fetch 134 43 = some (.invokevirtual 142, 3, [133, 3, 10, 0, 7182, 1015, 7185, 7184, 72], .null) := by decide +kernel
theorem w134_43 (hp : psum st ≤ 8) : Wp d 134 43 [l0, l1, l2, l3, l4, l5] (v2 :: v1 :: (.ref b) :: st) h Q = rP (h.2 b) 9 (Cp d 133 [(.ref b), v1, v2] h (fun o => cK o (fun w h2 => Wp d 134 46 [l0, l1, l2, l3, l4, l5] (w.toList ++ st) h2 Q) (fun E h2 => Q (.inr E, h2)))) := (W_invV (st := st) f134_43 rfl rfl (by simp only [List.length_cons]; omega) rfl rfl hp).trans (by simp only [hm134, if_true])
theorem f134_46 : fetch 134 46 = some (.istore 4, 2, [], .null) := by decide +kernel
theorem w134_46 : Wp d 134 46 [l0, l1, l2, l3, l4, l5] (.int x :: st) h Q = Wp d 134 48 [l0, l1, l2, kl l3, some (.int x), l5] st h Q := (W_st1 (pc' := 48) (k := 4) f134_46 rfl rfl (by simp only [List.length_cons, List.length_nil]; omega)).trans (by rw [pst1_succ]; rfl)
theorem f134_48 : fetch 134 48 = some (.aload_n 0, 1, [], .null) := by decide +kernel
theorem w134_48 : Wp d 134 48 [some (.ref a), l1, l2, l3, l4, l5] st h Q = Wp d 134 49 [some (.ref a), l1, l2, l3, l4, l5] (.ref a :: st) h Q := W_go f134_48 rfl
theorem f134_49 : fetch 134 49 = some (.iload_n 1, 1, [], .null) := by decide +kernel
theorem w134_49 : Wp d 134 49 [l0, some (.int x), l2, l3, l4, l5] st h Q = Wp d 134 50 [l0, some (.int x), l2, l3, l4, l5] (.int x :: st) h Q := W_go f134_49 rfl
theorem f134_50 : fetch 134 50 = some (.aload_n 0, 1, [], .null) := by decide +kernel
theorem w134_50 : Wp d 134 50 [some (.ref a), l1, l2, l3, l4, l5] st h Q = Wp d 134 51 [some (.ref a), l1, l2, l3, l4, l5] (.ref a :: st) h Q := W_go f134_50 rfl
theorem f134_51 : fetch 134 51 = some (.getfield 3, 3, [9, 20, 6074, 0], .null) := by decide +kernel
theorem w134_51 : Wp d 134 51 [l0, l1, l2, l3, l4, l5] (.ref a :: st) h Q = gP (h.2 a) 9 20 (fun w => Wp d 134 54 [l0, l1, l2, l3, l4, l5] (w :: st) h Q) := W_get f134_51 rfl
theorem f134_54 : fetch 134 54 = some (.getfield 89, 3, [10, 10, 6142, 1], .null) := by decide +kernel
theorem w134_54 : Wp d 134 54 [l0, l1, l2, l3, l4, l5] (.ref a :: st) h Q = gP (h.2 a) 10 10 (fun w => Wp d 134 57 [l0, l1, l2, l3, l4, l5] (w :: st) h Q) := W_get f134_54 rfl
theorem f134_57 : fetch 134 57 = some (.getfield 145, 3, [8, 21, 5225, 1], .null) := by decide +kernel
theorem w134_57 : Wp d 134 57 [l0, l1, l2, l3, l4, l5] (.ref a :: st) h Q = gP (h.2 a) 8 21 (fun w => Wp d 134 60 [l0, l1, l2, l3, l4, l5] (w :: st) h Q) := W_get f134_57 rfl
theorem f134_60 : fetch 134 60 = some (.iload_n 3, 1, [], .null) := by decide +kernel
theorem w134_60 : Wp d 134 60 [l0, l1, l2, some (.int x), l4, l5] st h Q = Wp d 134 61 [l0, l1, l2, some (.int x), l4, l5] (.int x :: st) h Q := W_go f134_60 rfl
theorem f134_61 : fetch 134 61 = some (.iaload, 1, [], .null) := by decide +kernel
theorem w134_61 : Wp d 134 61 [l0, l1, l2, l3, l4, l5] (.int x :: .ref a :: st) h Q = aP false (h.2 a) x (fun w => Wp d 134 62 [l0, l1, l2, l3, l4, l5] (.int w :: st) h Q) := W_ald f134_61 rfl
theorem f134_62 : fetch 134 62 = some (.invokevirtual 142, 3, [133, 3, 10, 0, 7182, 1015, 7185, 7184, 72], .null) := by decide +kernel
theorem w134_62 (hp : psum st ≤ 8) : Wp d 134 62 [l0, l1, l2, l3, l4, l5] (v2 :: v1 :: (.ref b) :: st) h Q = rP (h.2 b) 9 (Cp d 133 [(.ref b), v1, v2] h (fun o => cK o (fun w h2 => Wp d 134 65 [l0, l1, l2, l3, l4, l5] (w.toList ++ st) h2 Q) (fun E h2 => Q (.inr E, h2)))) := (W_invV (st := st) f134_62 rfl rfl (by simp only [List.length_cons]; omega) rfl rfl hp).trans (by simp only [hm134, if_true])
theorem f134_65 : fetch 134 65 = some (.istore 5, 2, [], .null) := by decide +kernel
theorem w134_65 : Wp d 134 65 [l0, l1, l2, l3, l4, l5] (.int x :: st) h Q = Wp d 134 67 [l0, l1, l2, l3, kl l4, some (.int x)] st h Q := (W_st1 (pc' := 67) (k := 5) f134_65 rfl rfl (by simp only [List.length_cons, List.length_nil]; omega)).trans (by rw [pst1_succ]; rfl)
theorem f134_67 : fetch 134 67 = some (.aload_n 0, 1, [], .null) := by decide +kernel
theorem w134_67 : Wp d 134 67 [some (.ref a), l1, l2, l3, l4, l5] st h Q = Wp d 134 68 [some (.ref a), l1, l2, l3, l4, l5] (.ref a :: st) h Q := W_go f134_67 rfl
theorem f134_68 : fetch 134 68 = some (.getfield 3, 3, [9, 20, 6074, 0], .null) := by decide +kernel
theorem w134_68 : Wp d 134 68 [l0, l1, l2, l3, l4, l5] (.ref a :: st) h Q = gP (h.2 a) 9 20 (fun w => Wp d 134 71 [l0, l1, l2, l3, l4, l5] (w :: st) h Q) := W_get f134_68 rfl
theorem f134_71 : fetch 134 71 = some (.getfield 89, 3, [10, 10, 6142, 1], .null) := by decide +kernel
theorem w134_71 : Wp d 134 71 [l0, l1, l2, l3, l4, l5] (.ref a :: st) h Q = gP (h.2 a) 10 10 (fun w => Wp d 134 74 [l0, l1, l2, l3, l4, l5] (w :: st) h Q) := W_get f134_71 rfl
theorem f134_74 : fetch 134 74 = some (.getfield 148, 3, [8, 20, 5222, 1], .null) := by decide +kernel
theorem w134_74 : Wp d 134 74 [l0, l1, l2, l3, l4, l5] (.ref a :: st) h Q = gP (h.2 a) 8 20 (fun w => Wp d 134 77 [l0, l1, l2, l3, l4, l5] (w :: st) h Q) := W_get f134_74 rfl
theorem f134_77 : fetch 134 77 = some (.iload_n 3, 1, [], .null) := by decide +kernel
theorem w134_77 : Wp d 134 77 [l0, l1, l2, some (.int x), l4, l5] st h Q = Wp d 134 78 [l0, l1, l2, some (.int x), l4, l5] (.int x :: st) h Q := W_go f134_77 rfl
theorem f134_78 : fetch 134 78 = some (.iaload, 1, [], .null) := by decide +kernel
theorem w134_78 : Wp d 134 78 [l0, l1, l2, l3, l4, l5] (.int x :: .ref a :: st) h Q = aP false (h.2 a) x (fun w => Wp d 134 79 [l0, l1, l2, l3, l4, l5] (.int w :: st) h Q) := W_ald f134_78 rfl
theorem f134_79 : fetch 134 79 = some (.bipush 60, 2, [], .null) := by decide +kernel
theorem w134_79 : Wp d 134 79 [l0, l1, l2, l3, l4, l5] st h Q = Wp d 134 81 [l0, l1, l2, l3, l4, l5] (.int (60 : Int32) :: st) h Q := W_go f134_79 rfl
theorem f134_81 : fetch 134 81 = some (.if_icmp .ne 13, 3, [], .null) := by decide +kernel
theorem w134_81 : Wp d 134 81 [l0, l1, l2, l3, l4, l5] (.int y :: .int x :: st) h Q = if icond .ne x y = true then Wp d 134 94 [l0, l1, l2, l3, l4, l5] st h Q else Wp d 134 84 [l0, l1, l2, l3, l4, l5] st h Q := W_if f134_81 rfl
theorem f134_84 : fetch 134 84 = some (.iload 4, 2, [], .null) := by decide +kernel
theorem w134_84 : Wp d 134 84 [l0, l1, l2, l3, some (.int x), l5] st h Q = Wp d 134 86 [l0, l1, l2, l3, some (.int x), l5] (.int x :: st) h Q := W_go f134_84 rfl
theorem f134_86 : fetch 134 86 = some (.iload 5, 2, [], .null) := by decide +kernel
theorem w134_86 : Wp d 134 86 [l0, l1, l2, l3, l4, some (.int x)] st h Q = Wp d 134 88 [l0, l1, l2, l3, l4, some (.int x)] (.int x :: st) h Q := W_go f134_86 rfl
theorem f134_88 : fetch 134 88 = some (.if_icmp .lt 42, 3, [], .null) := by decide +kernel
theorem w134_88 : Wp d 134 88 [l0, l1, l2, l3, l4, l5] (.int y :: .int x :: st) h Q = if icond .lt x y = true then Wp d 134 130 [l0, l1, l2, l3, l4, l5] st h Q else Wp d 134 91 [l0, l1, l2, l3, l4, l5] st h Q := W_if f134_88 rfl
theorem f134_91 : fetch 134 91 = some (.goto 37, 3, [], .null) := by decide +kernel
theorem w134_91 : Wp d 134 91 [l0, l1, l2, l3, l4, l5] st h Q = Wp d 134 128 [l0, l1, l2, l3, l4, l5] st h Q := W_go f134_91 rfl
theorem f134_94 : fetch 134 94 = some (.aload_n 0, 1, [], .null) := by decide +kernel
theorem w134_94 : Wp d 134 94 [some (.ref a), l1, l2, l3, l4, l5] st h Q = Wp d 134 95 [some (.ref a), l1, l2, l3, l4, l5] (.ref a :: st) h Q := W_go f134_94 rfl
theorem f134_95 : fetch 134 95 = some (.getfield 3, 3, [9, 20, 6074, 0], .null) := by decide +kernel
theorem w134_95 : Wp d 134 95 [l0, l1, l2, l3, l4, l5] (.ref a :: st) h Q = gP (h.2 a) 9 20 (fun w => Wp d 134 98 [l0, l1, l2, l3, l4, l5] (w :: st) h Q) := W_get f134_95 rfl
theorem f134_98 : fetch 134 98 = some (.getfield 89, 3, [10, 10, 6142, 1], .null) := by decide +kernel
theorem w134_98 : Wp d 134 98 [l0, l1, l2, l3, l4, l5] (.ref a :: st) h Q = gP (h.2 a) 10 10 (fun w => Wp d 134 101 [l0, l1, l2, l3, l4, l5] (w :: st) h Q) := W_get f134_98 rfl
theorem f134_101 : fetch 134 101 = some (.getfield 148, 3, [8, 20, 5222, 1], .null) := by decide +kernel
theorem w134_101 : Wp d 134 101 [l0, l1, l2, l3, l4, l5] (.ref a :: st) h Q = gP (h.2 a) 8 20 (fun w => Wp d 134 104 [l0, l1, l2, l3, l4, l5] (w :: st) h Q) := W_get f134_101 rfl
theorem f134_104 : fetch 134 104 = some (.iload_n 3, 1, [], .null) := by decide +kernel
theorem w134_104 : Wp d 134 104 [l0, l1, l2, some (.int x), l4, l5] st h Q = Wp d 134 105 [l0, l1, l2, some (.int x), l4, l5] (.int x :: st) h Q := W_go f134_104 rfl
theorem f134_105 : fetch 134 105 = some (.iaload, 1, [], .null) := by decide +kernel
theorem w134_105 : Wp d 134 105 [l0, l1, l2, l3, l4, l5] (.int x :: .ref a :: st) h Q = aP false (h.2 a) x (fun w => Wp d 134 106 [l0, l1, l2, l3, l4, l5] (.int w :: st) h Q) := W_ald f134_105 rfl
theorem f134_106 : fetch 134 106 = some (.bipush 62, 2, [], .null) := by decide +kernel
theorem w134_106 : Wp d 134 106 [l0, l1, l2, l3, l4, l5] st h Q = Wp d 134 108 [l0, l1, l2, l3, l4, l5] (.int (62 : Int32) :: st) h Q := W_go f134_106 rfl
theorem f134_108 : fetch 134 108 = some (.if_icmp .ne 13, 3, [], .null) := by decide +kernel
theorem w134_108 : Wp d 134 108 [l0, l1, l2, l3, l4, l5] (.int y :: .int x :: st) h Q = if icond .ne x y = true then Wp d 134 121 [l0, l1, l2, l3, l4, l5] st h Q else Wp d 134 111 [l0, l1, l2, l3, l4, l5] st h Q := W_if f134_108 rfl
theorem f134_111 : fetch 134 111 = some (.iload 4, 2, [], .null) := by decide +kernel
theorem w134_111 : Wp d 134 111 [l0, l1, l2, l3, some (.int x), l5] st h Q = Wp d 134 113 [l0, l1, l2, l3, some (.int x), l5] (.int x :: st) h Q := W_go f134_111 rfl
theorem f134_113 : fetch 134 113 = some (.iload 5, 2, [], .null) := by decide +kernel
theorem w134_113 : Wp d 134 113 [l0, l1, l2, l3, l4, some (.int x)] st h Q = Wp d 134 115 [l0, l1, l2, l3, l4, some (.int x)] (.int x :: st) h Q := W_go f134_113 rfl
theorem f134_115 : fetch 134 115 = some (.if_icmp .gt 15, 3, [], .null) := by decide +kernel
theorem w134_115 : Wp d 134 115 [l0, l1, l2, l3, l4, l5] (.int y :: .int x :: st) h Q = if icond .gt x y = true then Wp d 134 130 [l0, l1, l2, l3, l4, l5] st h Q else Wp d 134 118 [l0, l1, l2, l3, l4, l5] st h Q := W_if f134_115 rfl
theorem f134_118 : fetch 134 118 = some (.goto 10, 3, [], .null) := by decide +kernel
theorem w134_118 : Wp d 134 118 [l0, l1, l2, l3, l4, l5] st h Q = Wp d 134 128 [l0, l1, l2, l3, l4, l5] st h Q := W_go f134_118 rfl
theorem f134_121 : fetch 134 121 = some (.iload 4, 2, [], .null) := by decide +kernel
theorem w134_121 : Wp d 134 121 [l0, l1, l2, l3, some (.int x), l5] st h Q = Wp d 134 123 [l0, l1, l2, l3, some (.int x), l5] (.int x :: st) h Q := W_go f134_121 rfl
theorem f134_123 : fetch 134 123 = some (.iload 5, 2, [], .null) := by decide +kernel
theorem w134_123 : Wp d 134 123 [l0, l1, l2, l3, l4, some (.int x)] st h Q = Wp d 134 125 [l0, l1, l2, l3, l4, some (.int x)] (.int x :: st) h Q := W_go f134_123 rfl
theorem f134_125 : fetch 134 125 = some (.if_icmp .eq 5, 3, [], .null) := by decide +kernel
theorem w134_125 : Wp d 134 125 [l0, l1, l2, l3, l4, l5] (.int y :: .int x :: st) h Q = if icond .eq x y = true then Wp d 134 130 [l0, l1, l2, l3, l4, l5] st h Q else Wp d 134 128 [l0, l1, l2, l3, l4, l5] st h Q := W_if f134_125 rfl
theorem f134_128 : fetch 134 128 = some (.iconst 0, 1, [], .null) := by decide +kernel
theorem w134_128 : Wp d 134 128 [l0, l1, l2, l3, l4, l5] st h Q = Wp d 134 129 [l0, l1, l2, l3, l4, l5] (.int (0 : Int32) :: st) h Q := W_go f134_128 rfl
theorem f134_129 : fetch 134 129 = some (.ireturn, 1, [], .null) := by decide +kernel
theorem w134_129 : Wp d 134 129 [l0, l1, l2, l3, l4, l5] [.int x] h Q = (if narrow .boolean (.int x) = .int x then Q (.inl (some (.int x)), h) else False) := W_zret f134_129 hr134
theorem f134_130 : fetch 134 130 = some (.iinc 3 1, 3, [], .null) := by decide +kernel
theorem w134_130 : Wp d 134 130 [l0, l1, l2, some (.int x), l4, l5] st h Q = Wp d 134 133 [l0, l1, kl l2, some (.int (x + (1 : Int32))), l4, l5] st h Q := (W_iinc (y := (1 : Int32)) f134_130 rfl (by simp only [List.length_cons, List.length_nil]; omega) (by decide)).trans (by rw [pst1_succ]; rfl)
theorem f134_133 : fetch 134 133 = some (.goto (-120), 3, [], .null) := by decide +kernel
theorem w134_133 : Wp d 134 133 [l0, l1, l2, l3, l4, l5] st h Q = Wp d 134 13 [l0, l1, l2, l3, l4, l5] st h Q := W_go f134_133 rfl
theorem f134_136 : fetch 134 136 = some (.iconst 1, 1, [], .null) := by decide +kernel
theorem w134_136 : Wp d 134 136 [l0, l1, l2, l3, l4, l5] st h Q = Wp d 134 137 [l0, l1, l2, l3, l4, l5] (.int (1 : Int32) :: st) h Q := W_go f134_136 rfl
theorem f134_137 : fetch 134 137 = some (.ireturn, 1, [], .null) := by decide +kernel
theorem w134_137 : Wp d 134 137 [l0, l1, l2, l3, l4, l5] [.int x] h Q = (if narrow .boolean (.int x) = .int x then Q (.inl (some (.int x)), h) else False) := W_zret f134_137 hr134
theorem hm135 : mhs 135 = [] := by decide +kernel
theorem hr135 : mret 135 = (some .int) := by decide +kernel
theorem f135_0 : fetch 135 0 = some (.aload_n 0, 1, [], .null) := by decide +kernel
theorem w135_0 : Wp d 135 0 [some (.ref a), l1, l2] st h Q = Wp d 135 1 [some (.ref a), l1, l2] (.ref a :: st) h Q := W_go f135_0 rfl
theorem f135_1 : fetch 135 1 = some (.getfield 3, 3, [9, 20, 6074, 0], .null) := by decide +kernel
theorem w135_1 : Wp d 135 1 [l0, l1, l2] (.ref a :: st) h Q = gP (h.2 a) 9 20 (fun w => Wp d 135 4 [l0, l1, l2] (w :: st) h Q) := W_get f135_1 rfl
theorem f135_4 : fetch 135 4 = some (.getfield 89, 3, [10, 10, 6142, 1], .null) := by decide +kernel
theorem w135_4 : Wp d 135 4 [l0, l1, l2] (.ref a :: st) h Q = gP (h.2 a) 10 10 (fun w => Wp d 135 7 [l0, l1, l2] (w :: st) h Q) := W_get f135_4 rfl
theorem f135_7 : fetch 135 7 = some (.getfield 151, 3, [8, 10, 5194, 1], .null) := by decide +kernel
theorem w135_7 : Wp d 135 7 [l0, l1, l2] (.ref a :: st) h Q = gP (h.2 a) 8 10 (fun w => Wp d 135 10 [l0, l1, l2] (w :: st) h Q) := W_get f135_7 rfl
theorem f135_10 : fetch 135 10 = some (.iload_n 2, 1, [], .null) := by decide +kernel
theorem w135_10 : Wp d 135 10 [l0, l1, some (.int x)] st h Q = Wp d 135 11 [l0, l1, some (.int x)] (.int x :: st) h Q := W_go f135_10 rfl
theorem f135_11 : fetch 135 11 = some (.iaload, 1, [], .null) := by decide +kernel
theorem w135_11 : Wp d 135 11 [l0, l1, l2] (.int x :: .ref a :: st) h Q = aP false (h.2 a) x (fun w => Wp d 135 12 [l0, l1, l2] (.int w :: st) h Q) := W_ald f135_11 rfl
theorem f135_12 : fetch 135 12 = some (.tableswitch 104 4 10 #[44, 44, 46, 44, 48, 104, 70], 44, [], .null) := by decide +kernel
theorem w135_12 : Wp d 135 12 [l0, l1, l2] (.int x :: st) h Q = Wp d 135 (ptable 12 104 4 10 #[44, 44, 46, 44, 48, 104, 70] x) [l0, l1, l2] st h Q := W_go f135_12 rfl
theorem f135_56 : fetch 135 56 = some (.iconst 1, 1, [], .null) := by decide +kernel
theorem w135_56 : Wp d 135 56 [l0, l1, l2] st h Q = Wp d 135 57 [l0, l1, l2] (.int (1 : Int32) :: st) h Q := W_go f135_56 rfl
theorem f135_57 : fetch 135 57 = some (.ireturn, 1, [], .null) := by decide +kernel
theorem w135_57 : Wp d 135 57 [l0, l1, l2] [.int x] h Q = Q (.inl (some (.int x)), h) := W_iret f135_57 hr135
theorem f135_58 : fetch 135 58 = some (.iconst 2, 1, [], .null) := by decide +kernel
theorem w135_58 : Wp d 135 58 [l0, l1, l2] st h Q = Wp d 135 59 [l0, l1, l2] (.int (2 : Int32) :: st) h Q := W_go f135_58 rfl
theorem f135_59 : fetch 135 59 = some (.ireturn, 1, [], .null) := by decide +kernel
theorem w135_59 : Wp d 135 59 [l0, l1, l2] [.int x] h Q = Q (.inl (some (.int x)), h) := W_iret f135_59 hr135
theorem f135_60 : fetch 135 60 = some (.iconst 0, 1, [], .null) := by decide +kernel
theorem w135_60 : Wp d 135 60 [l0, l1, l2] st h Q = Wp d 135 61 [l0, l1, l2] (.int (0 : Int32) :: st) h Q := W_go f135_60 rfl
theorem f135_61 : fetch 135 61 = some (.aload_n 0, 1, [], .null) := by decide +kernel
theorem w135_61 : Wp d 135 61 [some (.ref a), l1, l2] st h Q = Wp d 135 62 [some (.ref a), l1, l2] (.ref a :: st) h Q := W_go f135_61 rfl
theorem f135_62 : fetch 135 62 = some (.iload_n 1, 1, [], .null) := by decide +kernel
theorem w135_62 : Wp d 135 62 [l0, some (.int x), l2] st h Q = Wp d 135 63 [l0, some (.int x), l2] (.int x :: st) h Q := W_go f135_62 rfl
theorem f135_63 : fetch 135 63 = some (.aload_n 0, 1, [], .null) := by decide +kernel
theorem w135_63 : Wp d 135 63 [some (.ref a), l1, l2] st h Q = Wp d 135 64 [some (.ref a), l1, l2] (.ref a :: st) h Q := W_go f135_63 rfl
theorem f135_64 : fetch 135 64 = some (.getfield 3, 3, [9, 20, 6074, 0], .null) := by decide +kernel
theorem w135_64 : Wp d 135 64 [l0, l1, l2] (.ref a :: st) h Q = gP (h.2 a) 9 20 (fun w => Wp d 135 67 [l0, l1, l2] (w :: st) h Q) := W_get f135_64 rfl
theorem f135_67 : fetch 135 67 = some (.getfield 89, 3, [10, 10, 6142, 1], .null) := by decide +kernel
theorem w135_67 : Wp d 135 67 [l0, l1, l2] (.ref a :: st) h Q = gP (h.2 a) 10 10 (fun w => Wp d 135 70 [l0, l1, l2] (w :: st) h Q) := W_get f135_67 rfl
theorem f135_70 : fetch 135 70 = some (.getfield 154, 3, [8, 12, 5200, 1], .null) := by decide +kernel
theorem w135_70 : Wp d 135 70 [l0, l1, l2] (.ref a :: st) h Q = gP (h.2 a) 8 12 (fun w => Wp d 135 73 [l0, l1, l2] (w :: st) h Q) := W_get f135_70 rfl
theorem f135_73 : fetch 135 73 = some (.iload_n 2, 1, [], .null) := by decide +kernel
theorem w135_73 : Wp d 135 73 [l0, l1, some (.int x)] st h Q = Wp d 135 74 [l0, l1, some (.int x)] (.int x :: st) h Q := W_go f135_73 rfl
theorem f135_74 : fetch 135 74 = some (.iaload, 1, [], .null) := by decide +kernel
theorem w135_74 : Wp d 135 74 [l0, l1, l2] (.int x :: .ref a :: st) h Q = aP false (h.2 a) x (fun w => Wp d 135 75 [l0, l1, l2] (.int w :: st) h Q) := W_ald f135_74 rfl
theorem f135_75 : fetch 135 75 = some (.invokevirtual 142, 3, [133, 3, 10, 0, 7182, 1015, 7185, 7184, 72], .null) := by decide +kernel
theorem w135_75 (hp : psum st ≤ 8) : Wp d 135 75 [l0, l1, l2] (v2 :: v1 :: (.ref b) :: st) h Q = rP (h.2 b) 9 (Cp d 133 [(.ref b), v1, v2] h (fun o => cK o (fun w h2 => Wp d 135 78 [l0, l1, l2] (w.toList ++ st) h2 Q) (fun E h2 => Q (.inr E, h2)))) := (W_invV (st := st) f135_75 rfl rfl (by simp only [List.length_cons]; omega) rfl rfl hp).trans (by simp only [hm135, if_true])
theorem f135_78 : fetch 135 78 = some (.invokestatic 156, 3, [9997, 1, 7194, 3001, 1021, 3002], .null) := by decide +kernel
theorem w135_78 (hp : psum st ≤ 8) : Wp d 135 78 [l0, l1, l2] (.int y :: .int x :: st) h Q = Wp d 135 81 [l0, l1, l2] (.int (if x < y then y else x) :: st) h Q := W_go f135_78 (by simp only [pstep, pmath, if_pos hp]; rfl)
theorem f135_81 : fetch 135 81 = some (.ireturn, 1, [], .null) := by decide +kernel
theorem w135_81 : Wp d 135 81 [l0, l1, l2] [.int x] h Q = Q (.inl (some (.int x)), h) := W_iret f135_81 hr135
theorem f135_82 : fetch 135 82 = some (.aload_n 0, 1, [], .null) := by decide +kernel
theorem w135_82 : Wp d 135 82 [some (.ref a), l1, l2] st h Q = Wp d 135 83 [some (.ref a), l1, l2] (.ref a :: st) h Q := W_go f135_82 rfl
theorem f135_83 : fetch 135 83 = some (.getfield 3, 3, [9, 20, 6074, 0], .null) := by decide +kernel
theorem w135_83 : Wp d 135 83 [l0, l1, l2] (.ref a :: st) h Q = gP (h.2 a) 9 20 (fun w => Wp d 135 86 [l0, l1, l2] (w :: st) h Q) := W_get f135_83 rfl
theorem f135_86 : fetch 135 86 = some (.getfield 89, 3, [10, 10, 6142, 1], .null) := by decide +kernel
theorem w135_86 : Wp d 135 86 [l0, l1, l2] (.ref a :: st) h Q = gP (h.2 a) 10 10 (fun w => Wp d 135 89 [l0, l1, l2] (w :: st) h Q) := W_get f135_86 rfl
theorem f135_89 : fetch 135 89 = some (.getfield 161, 3, [8, 3, 5179, 1], .null) := by decide +kernel
theorem w135_89 : Wp d 135 89 [l0, l1, l2] (.ref a :: st) h Q = gP (h.2 a) 8 3 (fun w => Wp d 135 92 [l0, l1, l2] (w :: st) h Q) := W_get f135_89 rfl
theorem f135_92 : fetch 135 92 = some (.aload_n 0, 1, [], .null) := by decide +kernel
theorem w135_92 : Wp d 135 92 [some (.ref a), l1, l2] st h Q = Wp d 135 93 [some (.ref a), l1, l2] (.ref a :: st) h Q := W_go f135_92 rfl
theorem f135_93 : fetch 135 93 = some (.getfield 3, 3, [9, 20, 6074, 0], .null) := by decide +kernel
theorem w135_93 : Wp d 135 93 [l0, l1, l2] (.ref a :: st) h Q = gP (h.2 a) 9 20 (fun w => Wp d 135 96 [l0, l1, l2] (w :: st) h Q) := W_get f135_93 rfl
theorem f135_96 : fetch 135 96 = some (.getfield 89, 3, [10, 10, 6142, 1], .null) := by decide +kernel
theorem w135_96 : Wp d 135 96 [l0, l1, l2] (.ref a :: st) h Q = gP (h.2 a) 10 10 (fun w => Wp d 135 99 [l0, l1, l2] (w :: st) h Q) := W_get f135_96 rfl
theorem f135_99 : fetch 135 99 = some (.getfield 164, 3, [8, 13, 5203, 1], .null) := by decide +kernel
theorem w135_99 : Wp d 135 99 [l0, l1, l2] (.ref a :: st) h Q = gP (h.2 a) 8 13 (fun w => Wp d 135 102 [l0, l1, l2] (w :: st) h Q) := W_get f135_99 rfl
theorem f135_102 : fetch 135 102 = some (.iload_n 2, 1, [], .null) := by decide +kernel
theorem w135_102 : Wp d 135 102 [l0, l1, some (.int x)] st h Q = Wp d 135 103 [l0, l1, some (.int x)] (.int x :: st) h Q := W_go f135_102 rfl
theorem f135_103 : fetch 135 103 = some (.iaload, 1, [], .null) := by decide +kernel
theorem w135_103 : Wp d 135 103 [l0, l1, l2] (.int x :: .ref a :: st) h Q = aP false (h.2 a) x (fun w => Wp d 135 104 [l0, l1, l2] (.int w :: st) h Q) := W_ald f135_103 rfl
theorem f135_104 : fetch 135 104 = some (.iaload, 1, [], .null) := by decide +kernel
theorem w135_104 : Wp d 135 104 [l0, l1, l2] (.int x :: .ref a :: st) h Q = aP false (h.2 a) x (fun w => Wp d 135 105 [l0, l1, l2] (.int w :: st) h Q) := W_ald f135_104 rfl
theorem f135_105 : fetch 135 105 = some (.aload_n 0, 1, [], .null) := by decide +kernel
theorem w135_105 : Wp d 135 105 [some (.ref a), l1, l2] st h Q = Wp d 135 106 [some (.ref a), l1, l2] (.ref a :: st) h Q := W_go f135_105 rfl
theorem f135_106 : fetch 135 106 = some (.getfield 35, 3, [9, 10, 6057, 0], .null) := by decide +kernel
theorem w135_106 : Wp d 135 106 [l0, l1, l2] (.ref a :: st) h Q = gP (h.2 a) 9 10 (fun w => Wp d 135 109 [l0, l1, l2] (w :: st) h Q) := W_get f135_106 rfl
theorem f135_109 : fetch 135 109 = some (.iload_n 1, 1, [], .null) := by decide +kernel
theorem w135_109 : Wp d 135 109 [l0, some (.int x), l2] st h Q = Wp d 135 110 [l0, some (.int x), l2] (.int x :: st) h Q := W_go f135_109 rfl
theorem f135_110 : fetch 135 110 = some (.iaload, 1, [], .null) := by decide +kernel
theorem w135_110 : Wp d 135 110 [l0, l1, l2] (.int x :: .ref a :: st) h Q = aP false (h.2 a) x (fun w => Wp d 135 111 [l0, l1, l2] (.int w :: st) h Q) := W_ald f135_110 rfl
theorem f135_111 : fetch 135 111 = some (.isub, 1, [], .null) := by decide +kernel
theorem w135_111 : Wp d 135 111 [l0, l1, l2] (.int y :: .int x :: st) h Q = Wp d 135 112 [l0, l1, l2] (.int (x - y) :: st) h Q := W_go f135_111 rfl
theorem f135_112 : fetch 135 112 = some (.invokestatic 167, 3, [9997, 0, 7195, 4212, 1021, 4213], .null) := by decide +kernel
theorem w135_112 (hp : psum st ≤ 8) : Wp d 135 112 [l0, l1, l2] (.int x :: st) h Q = Wp d 135 115 [l0, l1, l2] (.int (if 0 ≤ x then x else 0 - x) :: st) h Q := W_go f135_112 (by simp only [pstep, pmath, if_pos hp]; rfl)
theorem f135_115 : fetch 135 115 = some (.ireturn, 1, [], .null) := by decide +kernel
theorem w135_115 : Wp d 135 115 [l0, l1, l2] [.int x] h Q = Q (.inl (some (.int x)), h) := W_iret f135_115 hr135
theorem f135_116 : fetch 135 116 = some (.aload_n 0, 1, [], .null) := by decide +kernel
theorem w135_116 : Wp d 135 116 [some (.ref a), l1, l2] st h Q = Wp d 135 117 [some (.ref a), l1, l2] (.ref a :: st) h Q := W_go f135_116 rfl
theorem f135_117 : fetch 135 117 = some (.iload_n 1, 1, [], .null) := by decide +kernel
theorem w135_117 : Wp d 135 117 [l0, some (.int x), l2] st h Q = Wp d 135 118 [l0, some (.int x), l2] (.int x :: st) h Q := W_go f135_117 rfl
theorem f135_118 : fetch 135 118 = some (.iload_n 2, 1, [], .null) := by decide +kernel
theorem w135_118 : Wp d 135 118 [l0, l1, some (.int x)] st h Q = Wp d 135 119 [l0, l1, some (.int x)] (.int x :: st) h Q := W_go f135_118 rfl
theorem f135_119 : fetch 135 119 = some (.invokevirtual 170, 3, [136, 3, 10, 0, 7196, 1015, 7199, 7198, 74], .null) := by decide +kernel
theorem w135_119 (hp : psum st ≤ 8) : Wp d 135 119 [l0, l1, l2] (v2 :: v1 :: (.ref b) :: st) h Q = rP (h.2 b) 9 (Cp d 136 [(.ref b), v1, v2] h (fun o => cK o (fun w h2 => Wp d 135 122 [l0, l1, l2] (w.toList ++ st) h2 Q) (fun E h2 => Q (.inr E, h2)))) := (W_invV (st := st) f135_119 rfl rfl (by simp only [List.length_cons]; omega) rfl rfl hp).trans (by simp only [hm135, if_true])
theorem f135_122 : fetch 135 122 = some (.iconst 0, 1, [], .null) := by decide +kernel
theorem w135_122 : Wp d 135 122 [l0, l1, l2] st h Q = Wp d 135 123 [l0, l1, l2] (.int (0 : Int32) :: st) h Q := W_go f135_122 rfl
theorem f135_123 : fetch 135 123 = some (.ireturn, 1, [], .null) := by decide +kernel
theorem w135_123 : Wp d 135 123 [l0, l1, l2] [.int x] h Q = Q (.inl (some (.int x)), h) := W_iret f135_123 hr135
theorem hm136 : mhs 136 = [] := by decide +kernel
theorem f136_0 : fetch 136 0 = some (.aload_n 0, 1, [], .null) := by decide +kernel
theorem w136_0 : Wp d 136 0 [some (.ref a), l1, l2, l3] st h Q = Wp d 136 1 [some (.ref a), l1, l2, l3] (.ref a :: st) h Q := W_go f136_0 rfl
theorem f136_1 : fetch 136 1 = some (.getfield 3, 3, [9, 20, 6074, 0], .null) := by decide +kernel
theorem w136_1 : Wp d 136 1 [l0, l1, l2, l3] (.ref a :: st) h Q = gP (h.2 a) 9 20 (fun w => Wp d 136 4 [l0, l1, l2, l3] (w :: st) h Q) := W_get f136_1 rfl
theorem f136_4 : fetch 136 4 = some (.getfield 89, 3, [10, 10, 6142, 1], .null) := by decide +kernel
theorem w136_4 : Wp d 136 4 [l0, l1, l2, l3] (.ref a :: st) h Q = gP (h.2 a) 10 10 (fun w => Wp d 136 7 [l0, l1, l2, l3] (w :: st) h Q) := W_get f136_4 rfl
theorem f136_7 : fetch 136 7 = some (.getfield 151, 3, [8, 10, 5194, 1], .null) := by decide +kernel
theorem w136_7 : Wp d 136 7 [l0, l1, l2, l3] (.ref a :: st) h Q = gP (h.2 a) 8 10 (fun w => Wp d 136 10 [l0, l1, l2, l3] (w :: st) h Q) := W_get f136_7 rfl
theorem f136_10 : fetch 136 10 = some (.iload_n 2, 1, [], .null) := by decide +kernel
theorem w136_10 : Wp d 136 10 [l0, l1, some (.int x), l3] st h Q = Wp d 136 11 [l0, l1, some (.int x), l3] (.int x :: st) h Q := W_go f136_10 rfl
theorem f136_11 : fetch 136 11 = some (.iaload, 1, [], .null) := by decide +kernel
theorem w136_11 : Wp d 136 11 [l0, l1, l2, l3] (.int x :: .ref a :: st) h Q = aP false (h.2 a) x (fun w => Wp d 136 12 [l0, l1, l2, l3] (.int w :: st) h Q) := W_ald f136_11 rfl
theorem f136_12 : fetch 136 12 = some (.bipush 9, 2, [], .null) := by decide +kernel
theorem w136_12 : Wp d 136 12 [l0, l1, l2, l3] st h Q = Wp d 136 14 [l0, l1, l2, l3] (.int (9 : Int32) :: st) h Q := W_go f136_12 rfl
theorem f136_14 : fetch 136 14 = some (.if_icmp .ne 52, 3, [], .null) := by decide +kernel
theorem w136_14 : Wp d 136 14 [l0, l1, l2, l3] (.int y :: .int x :: st) h Q = if icond .ne x y = true then Wp d 136 66 [l0, l1, l2, l3] st h Q else Wp d 136 17 [l0, l1, l2, l3] st h Q := W_if f136_14 rfl
theorem f136_17 : fetch 136 17 = some (.aload_n 0, 1, [], .null) := by decide +kernel
theorem w136_17 : Wp d 136 17 [some (.ref a), l1, l2, l3] st h Q = Wp d 136 18 [some (.ref a), l1, l2, l3] (.ref a :: st) h Q := W_go f136_17 rfl
theorem f136_18 : fetch 136 18 = some (.getfield 50, 3, [9, 15, 6067, 0], .null) := by decide +kernel
theorem w136_18 : Wp d 136 18 [l0, l1, l2, l3] (.ref a :: st) h Q = gP (h.2 a) 9 15 (fun w => Wp d 136 21 [l0, l1, l2, l3] (w :: st) h Q) := W_get f136_18 rfl
theorem f136_21 : fetch 136 21 = some (.bipush 20, 2, [], .null) := by decide +kernel
theorem w136_21 : Wp d 136 21 [l0, l1, l2, l3] st h Q = Wp d 136 23 [l0, l1, l2, l3] (.int (20 : Int32) :: st) h Q := W_go f136_21 rfl
theorem f136_23 : fetch 136 23 = some (.iload_n 1, 1, [], .null) := by decide +kernel
theorem w136_23 : Wp d 136 23 [l0, some (.int x), l2, l3] st h Q = Wp d 136 24 [l0, some (.int x), l2, l3] (.int x :: st) h Q := W_go f136_23 rfl
theorem f136_24 : fetch 136 24 = some (.imul, 1, [], .null) := by decide +kernel
theorem w136_24 : Wp d 136 24 [l0, l1, l2, l3] (.int y :: .int x :: st) h Q = Wp d 136 25 [l0, l1, l2, l3] (.int (x * y) :: st) h Q := W_go f136_24 rfl
theorem f136_25 : fetch 136 25 = some (.aload_n 0, 1, [], .null) := by decide +kernel
theorem w136_25 : Wp d 136 25 [some (.ref a), l1, l2, l3] st h Q = Wp d 136 26 [some (.ref a), l1, l2, l3] (.ref a :: st) h Q := W_go f136_25 rfl
theorem f136_26 : fetch 136 26 = some (.getfield 47, 3, [9, 14, 6065, 0], .null) := by decide +kernel
theorem w136_26 : Wp d 136 26 [l0, l1, l2, l3] (.ref a :: st) h Q = gP (h.2 a) 9 14 (fun w => Wp d 136 29 [l0, l1, l2, l3] (w :: st) h Q) := W_get f136_26 rfl
theorem f136_29 : fetch 136 29 = some (.iload_n 1, 1, [], .null) := by decide +kernel
theorem w136_29 : Wp d 136 29 [l0, some (.int x), l2, l3] st h Q = Wp d 136 30 [l0, some (.int x), l2, l3] (.int x :: st) h Q := W_go f136_29 rfl
theorem f136_30 : fetch 136 30 = some (.iaload, 1, [], .null) := by decide +kernel
theorem w136_30 : Wp d 136 30 [l0, l1, l2, l3] (.int x :: .ref a :: st) h Q = aP false (h.2 a) x (fun w => Wp d 136 31 [l0, l1, l2, l3] (.int w :: st) h Q) := W_ald f136_30 rfl
theorem f136_31 : fetch 136 31 = some (.bipush 20, 2, [], .null) := by decide +kernel
theorem w136_31 : Wp d 136 31 [l0, l1, l2, l3] st h Q = Wp d 136 33 [l0, l1, l2, l3] (.int (20 : Int32) :: st) h Q := W_go f136_31 rfl
theorem f136_33 : fetch 136 33 = some (.irem, 1, [], .null) := by decide +kernel
theorem w136_33 (hy : y ≠ 0) : Wp d 136 33 [l0, l1, l2, l3] (.int y :: .int x :: st) h Q = Wp d 136 34 [l0, l1, l2, l3] (.int (x - x / y * y) :: st) h Q := W_go f136_33 (by simp only [pstep, pint2, if_neg hy, pgo])
theorem f136_34 : fetch 136 34 = some (.iadd, 1, [], .null) := by decide +kernel
theorem w136_34 : Wp d 136 34 [l0, l1, l2, l3] (.int y :: .int x :: st) h Q = Wp d 136 35 [l0, l1, l2, l3] (.int (x + y) :: st) h Q := W_go f136_34 rfl
theorem f136_35 : fetch 136 35 = some (.aload_n 0, 1, [], .null) := by decide +kernel
theorem w136_35 : Wp d 136 35 [some (.ref a), l1, l2, l3] st h Q = Wp d 136 36 [some (.ref a), l1, l2, l3] (.ref a :: st) h Q := W_go f136_35 rfl
theorem f136_36 : fetch 136 36 = some (.iload_n 1, 1, [], .null) := by decide +kernel
theorem w136_36 : Wp d 136 36 [l0, some (.int x), l2, l3] st h Q = Wp d 136 37 [l0, some (.int x), l2, l3] (.int x :: st) h Q := W_go f136_36 rfl
theorem f136_37 : fetch 136 37 = some (.aload_n 0, 1, [], .null) := by decide +kernel
theorem w136_37 : Wp d 136 37 [some (.ref a), l1, l2, l3] st h Q = Wp d 136 38 [some (.ref a), l1, l2, l3] (.ref a :: st) h Q := W_go f136_37 rfl
theorem f136_38 : fetch 136 38 = some (.getfield 3, 3, [9, 20, 6074, 0], .null) := by decide +kernel
theorem w136_38 : Wp d 136 38 [l0, l1, l2, l3] (.ref a :: st) h Q = gP (h.2 a) 9 20 (fun w => Wp d 136 41 [l0, l1, l2, l3] (w :: st) h Q) := W_get f136_38 rfl
theorem f136_41 : fetch 136 41 = some (.getfield 89, 3, [10, 10, 6142, 1], .null) := by decide +kernel
theorem w136_41 : Wp d 136 41 [l0, l1, l2, l3] (.ref a :: st) h Q = gP (h.2 a) 10 10 (fun w => Wp d 136 44 [l0, l1, l2, l3] (w :: st) h Q) := W_get f136_41 rfl
theorem f136_44 : fetch 136 44 = some (.getfield 154, 3, [8, 12, 5200, 1], .null) := by decide +kernel
theorem w136_44 : Wp d 136 44 [l0, l1, l2, l3] (.ref a :: st) h Q = gP (h.2 a) 8 12 (fun w => Wp d 136 47 [l0, l1, l2, l3] (w :: st) h Q) := W_get f136_44 rfl
theorem f136_47 : fetch 136 47 = some (.iload_n 2, 1, [], .null) := by decide +kernel
theorem w136_47 : Wp d 136 47 [l0, l1, some (.int x), l3] st h Q = Wp d 136 48 [l0, l1, some (.int x), l3] (.int x :: st) h Q := W_go f136_47 rfl
theorem f136_48 : fetch 136 48 = some (.iaload, 1, [], .null) := by decide +kernel
theorem w136_48 : Wp d 136 48 [l0, l1, l2, l3] (.int x :: .ref a :: st) h Q = aP false (h.2 a) x (fun w => Wp d 136 49 [l0, l1, l2, l3] (.int w :: st) h Q) := W_ald f136_48 rfl
theorem f136_49 : fetch 136 49 = some (.invokevirtual 142, 3, [133, 3, 10, 0, 7182, 1015, 7185, 7184, 72], .null) := by decide +kernel
theorem w136_49 (hp : psum st ≤ 8) : Wp d 136 49 [l0, l1, l2, l3] (v2 :: v1 :: (.ref b) :: st) h Q = rP (h.2 b) 9 (Cp d 133 [(.ref b), v1, v2] h (fun o => cK o (fun w h2 => Wp d 136 52 [l0, l1, l2, l3] (w.toList ++ st) h2 Q) (fun E h2 => Q (.inr E, h2)))) := (W_invV (st := st) f136_49 rfl rfl (by simp only [List.length_cons]; omega) rfl rfl hp).trans (by simp only [hm136, if_true])
theorem f136_52 : fetch 136 52 = some (.iastore, 1, [], .null) := by decide +kernel
theorem w136_52 : Wp d 136 52 [l0, l1, l2, l3] (.int y :: .int x :: .ref a :: st) h Q = asP false (h.2 a) a x y (fun c => Wp d 136 53 [l0, l1, l2, l3] st (hset h a c) Q) := W_ast f136_52 rfl
theorem f136_53 : fetch 136 53 = some (.aload_n 0, 1, [], .null) := by decide +kernel
theorem w136_53 : Wp d 136 53 [some (.ref a), l1, l2, l3] st h Q = Wp d 136 54 [some (.ref a), l1, l2, l3] (.ref a :: st) h Q := W_go f136_53 rfl
theorem f136_54 : fetch 136 54 = some (.getfield 47, 3, [9, 14, 6065, 0], .null) := by decide +kernel
theorem w136_54 : Wp d 136 54 [l0, l1, l2, l3] (.ref a :: st) h Q = gP (h.2 a) 9 14 (fun w => Wp d 136 57 [l0, l1, l2, l3] (w :: st) h Q) := W_get f136_54 rfl
theorem f136_57 : fetch 136 57 = some (.iload_n 1, 1, [], .null) := by decide +kernel
theorem w136_57 : Wp d 136 57 [l0, some (.int x), l2, l3] st h Q = Wp d 136 58 [l0, some (.int x), l2, l3] (.int x :: st) h Q := W_go f136_57 rfl
theorem f136_58 : fetch 136 58 = some (.dup2, 1, [], .null) := by decide +kernel
theorem w136_58 : Wp d 136 58 [l0, l1, l2, l3] (.int x :: .ref a :: st) h Q = Wp d 136 59 [l0, l1, l2, l3] (.int x :: .ref a :: .int x :: .ref a :: st) h Q := W_go f136_58 rfl
theorem f136_59 : fetch 136 59 = some (.iaload, 1, [], .null) := by decide +kernel
theorem w136_59 : Wp d 136 59 [l0, l1, l2, l3] (.int x :: .ref a :: st) h Q = aP false (h.2 a) x (fun w => Wp d 136 60 [l0, l1, l2, l3] (.int w :: st) h Q) := W_ald f136_59 rfl
theorem f136_60 : fetch 136 60 = some (.iconst 1, 1, [], .null) := by decide +kernel
theorem w136_60 : Wp d 136 60 [l0, l1, l2, l3] st h Q = Wp d 136 61 [l0, l1, l2, l3] (.int (1 : Int32) :: st) h Q := W_go f136_60 rfl
theorem f136_61 : fetch 136 61 = some (.iadd, 1, [], .null) := by decide +kernel
theorem w136_61 : Wp d 136 61 [l0, l1, l2, l3] (.int y :: .int x :: st) h Q = Wp d 136 62 [l0, l1, l2, l3] (.int (x + y) :: st) h Q := W_go f136_61 rfl
theorem f136_62 : fetch 136 62 = some (.iastore, 1, [], .null) := by decide +kernel
theorem w136_62 : Wp d 136 62 [l0, l1, l2, l3] (.int y :: .int x :: .ref a :: st) h Q = asP false (h.2 a) a x y (fun c => Wp d 136 63 [l0, l1, l2, l3] st (hset h a c) Q) := W_ast f136_62 rfl
theorem f136_63 : fetch 136 63 = some (.goto 161, 3, [], .null) := by decide +kernel
theorem w136_63 : Wp d 136 63 [l0, l1, l2, l3] st h Q = Wp d 136 224 [l0, l1, l2, l3] st h Q := W_go f136_63 rfl
theorem f136_66 : fetch 136 66 = some (.aload_n 0, 1, [], .null) := by decide +kernel
theorem w136_66 : Wp d 136 66 [some (.ref a), l1, l2, l3] st h Q = Wp d 136 67 [some (.ref a), l1, l2, l3] (.ref a :: st) h Q := W_go f136_66 rfl
theorem f136_67 : fetch 136 67 = some (.getfield 3, 3, [9, 20, 6074, 0], .null) := by decide +kernel
theorem w136_67 : Wp d 136 67 [l0, l1, l2, l3] (.ref a :: st) h Q = gP (h.2 a) 9 20 (fun w => Wp d 136 70 [l0, l1, l2, l3] (w :: st) h Q) := W_get f136_67 rfl
theorem f136_70 : fetch 136 70 = some (.getfield 89, 3, [10, 10, 6142, 1], .null) := by decide +kernel
theorem w136_70 : Wp d 136 70 [l0, l1, l2, l3] (.ref a :: st) h Q = gP (h.2 a) 10 10 (fun w => Wp d 136 73 [l0, l1, l2, l3] (w :: st) h Q) := W_get f136_70 rfl
theorem f136_73 : fetch 136 73 = some (.getfield 151, 3, [8, 10, 5194, 1], .null) := by decide +kernel
theorem w136_73 : Wp d 136 73 [l0, l1, l2, l3] (.ref a :: st) h Q = gP (h.2 a) 8 10 (fun w => Wp d 136 76 [l0, l1, l2, l3] (w :: st) h Q) := W_get f136_73 rfl
theorem f136_76 : fetch 136 76 = some (.iload_n 2, 1, [], .null) := by decide +kernel
theorem w136_76 : Wp d 136 76 [l0, l1, some (.int x), l3] st h Q = Wp d 136 77 [l0, l1, some (.int x), l3] (.int x :: st) h Q := W_go f136_76 rfl
theorem f136_77 : fetch 136 77 = some (.iaload, 1, [], .null) := by decide +kernel
theorem w136_77 : Wp d 136 77 [l0, l1, l2, l3] (.int x :: .ref a :: st) h Q = aP false (h.2 a) x (fun w => Wp d 136 78 [l0, l1, l2, l3] (.int w :: st) h Q) := W_ald f136_77 rfl
theorem f136_78 : fetch 136 78 = some (.bipush 11, 2, [], .null) := by decide +kernel
theorem w136_78 : Wp d 136 78 [l0, l1, l2, l3] st h Q = Wp d 136 80 [l0, l1, l2, l3] (.int (11 : Int32) :: st) h Q := W_go f136_78 rfl
theorem f136_80 : fetch 136 80 = some (.if_icmp .ne 35, 3, [], .null) := by decide +kernel
theorem w136_80 : Wp d 136 80 [l0, l1, l2, l3] (.int y :: .int x :: st) h Q = if icond .ne x y = true then Wp d 136 115 [l0, l1, l2, l3] st h Q else Wp d 136 83 [l0, l1, l2, l3] st h Q := W_if f136_80 rfl
theorem f136_83 : fetch 136 83 = some (.aload_n 0, 1, [], .null) := by decide +kernel
theorem w136_83 : Wp d 136 83 [some (.ref a), l1, l2, l3] st h Q = Wp d 136 84 [some (.ref a), l1, l2, l3] (.ref a :: st) h Q := W_go f136_83 rfl
theorem f136_84 : fetch 136 84 = some (.iload_n 1, 1, [], .null) := by decide +kernel
theorem w136_84 : Wp d 136 84 [l0, some (.int x), l2, l3] st h Q = Wp d 136 85 [l0, some (.int x), l2, l3] (.int x :: st) h Q := W_go f136_84 rfl
theorem f136_85 : fetch 136 85 = some (.aload_n 0, 1, [], .null) := by decide +kernel
theorem w136_85 : Wp d 136 85 [some (.ref a), l1, l2, l3] st h Q = Wp d 136 86 [some (.ref a), l1, l2, l3] (.ref a :: st) h Q := W_go f136_85 rfl
theorem f136_86 : fetch 136 86 = some (.getfield 3, 3, [9, 20, 6074, 0], .null) := by decide +kernel
theorem w136_86 : Wp d 136 86 [l0, l1, l2, l3] (.ref a :: st) h Q = gP (h.2 a) 9 20 (fun w => Wp d 136 89 [l0, l1, l2, l3] (w :: st) h Q) := W_get f136_86 rfl
theorem f136_89 : fetch 136 89 = some (.getfield 89, 3, [10, 10, 6142, 1], .null) := by decide +kernel
theorem w136_89 : Wp d 136 89 [l0, l1, l2, l3] (.ref a :: st) h Q = gP (h.2 a) 10 10 (fun w => Wp d 136 92 [l0, l1, l2, l3] (w :: st) h Q) := W_get f136_89 rfl
theorem f136_92 : fetch 136 92 = some (.getfield 118, 3, [8, 7, 5189, 1], .null) := by decide +kernel
theorem w136_92 : Wp d 136 92 [l0, l1, l2, l3] (.ref a :: st) h Q = gP (h.2 a) 8 7 (fun w => Wp d 136 95 [l0, l1, l2, l3] (w :: st) h Q) := W_get f136_92 rfl
theorem f136_95 : fetch 136 95 = some (.aload_n 0, 1, [], .null) := by decide +kernel
theorem w136_95 : Wp d 136 95 [some (.ref a), l1, l2, l3] st h Q = Wp d 136 96 [some (.ref a), l1, l2, l3] (.ref a :: st) h Q := W_go f136_95 rfl
theorem f136_96 : fetch 136 96 = some (.getfield 3, 3, [9, 20, 6074, 0], .null) := by decide +kernel
theorem w136_96 : Wp d 136 96 [l0, l1, l2, l3] (.ref a :: st) h Q = gP (h.2 a) 9 20 (fun w => Wp d 136 99 [l0, l1, l2, l3] (w :: st) h Q) := W_get f136_96 rfl
theorem f136_99 : fetch 136 99 = some (.getfield 89, 3, [10, 10, 6142, 1], .null) := by decide +kernel
theorem w136_99 : Wp d 136 99 [l0, l1, l2, l3] (.ref a :: st) h Q = gP (h.2 a) 10 10 (fun w => Wp d 136 102 [l0, l1, l2, l3] (w :: st) h Q) := W_get f136_99 rfl
theorem f136_102 : fetch 136 102 = some (.getfield 164, 3, [8, 13, 5203, 1], .null) := by decide +kernel
theorem w136_102 : Wp d 136 102 [l0, l1, l2, l3] (.ref a :: st) h Q = gP (h.2 a) 8 13 (fun w => Wp d 136 105 [l0, l1, l2, l3] (w :: st) h Q) := W_get f136_102 rfl
theorem f136_105 : fetch 136 105 = some (.iload_n 2, 1, [], .null) := by decide +kernel
theorem w136_105 : Wp d 136 105 [l0, l1, some (.int x), l3] st h Q = Wp d 136 106 [l0, l1, some (.int x), l3] (.int x :: st) h Q := W_go f136_105 rfl
theorem f136_106 : fetch 136 106 = some (.iaload, 1, [], .null) := by decide +kernel
theorem w136_106 : Wp d 136 106 [l0, l1, l2, l3] (.int x :: .ref a :: st) h Q = aP false (h.2 a) x (fun w => Wp d 136 107 [l0, l1, l2, l3] (.int w :: st) h Q) := W_ald f136_106 rfl
theorem f136_107 : fetch 136 107 = some (.iaload, 1, [], .null) := by decide +kernel
theorem w136_107 : Wp d 136 107 [l0, l1, l2, l3] (.int x :: .ref a :: st) h Q = aP false (h.2 a) x (fun w => Wp d 136 108 [l0, l1, l2, l3] (.int w :: st) h Q) := W_ald f136_107 rfl
theorem f136_108 : fetch 136 108 = some (.iconst 1, 1, [], .null) := by decide +kernel
theorem w136_108 : Wp d 136 108 [l0, l1, l2, l3] st h Q = Wp d 136 109 [l0, l1, l2, l3] (.int (1 : Int32) :: st) h Q := W_go f136_108 rfl
theorem f136_109 : fetch 136 109 = some (.invokevirtual 121, 3, [130, 4, 10, 0, 7109, 1015, 7112, 7111, 65], .null) := by decide +kernel
theorem w136_109 (hp : psum st ≤ 8) : Wp d 136 109 [l0, l1, l2, l3] (v3 :: v2 :: v1 :: (.ref b) :: st) h Q = rP (h.2 b) 9 (Cp d 130 [(.ref b), v1, v2, v3] h (fun o => cK o (fun w h2 => Wp d 136 112 [l0, l1, l2, l3] (w.toList ++ st) h2 Q) (fun E h2 => Q (.inr E, h2)))) := (W_invV (st := st) f136_109 rfl rfl (by simp only [List.length_cons]; omega) rfl rfl hp).trans (by simp only [hm136, if_true])
theorem f136_112 : fetch 136 112 = some (.goto 112, 3, [], .null) := by decide +kernel
theorem w136_112 : Wp d 136 112 [l0, l1, l2, l3] st h Q = Wp d 136 224 [l0, l1, l2, l3] st h Q := W_go f136_112 rfl
theorem f136_115 : fetch 136 115 = some (.aload_n 0, 1, [], .null) := by decide +kernel
theorem w136_115 : Wp d 136 115 [some (.ref a), l1, l2, l3] st h Q = Wp d 136 116 [some (.ref a), l1, l2, l3] (.ref a :: st) h Q := W_go f136_115 rfl
theorem f136_116 : fetch 136 116 = some (.getfield 3, 3, [9, 20, 6074, 0], .null) := by decide +kernel
theorem w136_116 : Wp d 136 116 [l0, l1, l2, l3] (.ref a :: st) h Q = gP (h.2 a) 9 20 (fun w => Wp d 136 119 [l0, l1, l2, l3] (w :: st) h Q) := W_get f136_116 rfl
theorem f136_119 : fetch 136 119 = some (.getfield 89, 3, [10, 10, 6142, 1], .null) := by decide +kernel
theorem w136_119 : Wp d 136 119 [l0, l1, l2, l3] (.ref a :: st) h Q = gP (h.2 a) 10 10 (fun w => Wp d 136 122 [l0, l1, l2, l3] (w :: st) h Q) := W_get f136_119 rfl
theorem f136_122 : fetch 136 122 = some (.getfield 151, 3, [8, 10, 5194, 1], .null) := by decide +kernel
theorem w136_122 : Wp d 136 122 [l0, l1, l2, l3] (.ref a :: st) h Q = gP (h.2 a) 8 10 (fun w => Wp d 136 125 [l0, l1, l2, l3] (w :: st) h Q) := W_get f136_122 rfl
theorem f136_125 : fetch 136 125 = some (.iload_n 2, 1, [], .null) := by decide +kernel
theorem w136_125 : Wp d 136 125 [l0, l1, some (.int x), l3] st h Q = Wp d 136 126 [l0, l1, some (.int x), l3] (.int x :: st) h Q := W_go f136_125 rfl
theorem f136_126 : fetch 136 126 = some (.iaload, 1, [], .null) := by decide +kernel
theorem w136_126 : Wp d 136 126 [l0, l1, l2, l3] (.int x :: .ref a :: st) h Q = aP false (h.2 a) x (fun w => Wp d 136 127 [l0, l1, l2, l3] (.int w :: st) h Q) := W_ald f136_126 rfl
theorem f136_127 : fetch 136 127 = some (.bipush 12, 2, [], .null) := by decide +kernel
theorem w136_127 : Wp d 136 127 [l0, l1, l2, l3] st h Q = Wp d 136 129 [l0, l1, l2, l3] (.int (12 : Int32) :: st) h Q := W_go f136_127 rfl
theorem f136_129 : fetch 136 129 = some (.if_icmp .ne 46, 3, [], .null) := by decide +kernel
theorem w136_129 : Wp d 136 129 [l0, l1, l2, l3] (.int y :: .int x :: st) h Q = if icond .ne x y = true then Wp d 136 175 [l0, l1, l2, l3] st h Q else Wp d 136 132 [l0, l1, l2, l3] st h Q := W_if f136_129 rfl
theorem f136_132 : fetch 136 132 = some (.aload_n 0, 1, [], .null) := by decide +kernel
theorem w136_132 : Wp d 136 132 [some (.ref a), l1, l2, l3] st h Q = Wp d 136 133 [some (.ref a), l1, l2, l3] (.ref a :: st) h Q := W_go f136_132 rfl
theorem f136_133 : fetch 136 133 = some (.iload_n 1, 1, [], .null) := by decide +kernel
theorem w136_133 : Wp d 136 133 [l0, some (.int x), l2, l3] st h Q = Wp d 136 134 [l0, some (.int x), l2, l3] (.int x :: st) h Q := W_go f136_133 rfl
theorem f136_134 : fetch 136 134 = some (.aload_n 0, 1, [], .null) := by decide +kernel
theorem w136_134 : Wp d 136 134 [some (.ref a), l1, l2, l3] st h Q = Wp d 136 135 [some (.ref a), l1, l2, l3] (.ref a :: st) h Q := W_go f136_134 rfl
theorem f136_135 : fetch 136 135 = some (.getfield 3, 3, [9, 20, 6074, 0], .null) := by decide +kernel
theorem w136_135 : Wp d 136 135 [l0, l1, l2, l3] (.ref a :: st) h Q = gP (h.2 a) 9 20 (fun w => Wp d 136 138 [l0, l1, l2, l3] (w :: st) h Q) := W_get f136_135 rfl
theorem f136_138 : fetch 136 138 = some (.getfield 89, 3, [10, 10, 6142, 1], .null) := by decide +kernel
theorem w136_138 : Wp d 136 138 [l0, l1, l2, l3] (.ref a :: st) h Q = gP (h.2 a) 10 10 (fun w => Wp d 136 141 [l0, l1, l2, l3] (w :: st) h Q) := W_get f136_138 rfl
theorem f136_141 : fetch 136 141 = some (.getfield 154, 3, [8, 12, 5200, 1], .null) := by decide +kernel
theorem w136_141 : Wp d 136 141 [l0, l1, l2, l3] (.ref a :: st) h Q = gP (h.2 a) 8 12 (fun w => Wp d 136 144 [l0, l1, l2, l3] (w :: st) h Q) := W_get f136_141 rfl
theorem f136_144 : fetch 136 144 = some (.iload_n 2, 1, [], .null) := by decide +kernel
theorem w136_144 : Wp d 136 144 [l0, l1, some (.int x), l3] st h Q = Wp d 136 145 [l0, l1, some (.int x), l3] (.int x :: st) h Q := W_go f136_144 rfl
theorem f136_145 : fetch 136 145 = some (.iaload, 1, [], .null) := by decide +kernel
theorem w136_145 : Wp d 136 145 [l0, l1, l2, l3] (.int x :: .ref a :: st) h Q = aP false (h.2 a) x (fun w => Wp d 136 146 [l0, l1, l2, l3] (.int w :: st) h Q) := W_ald f136_145 rfl
theorem f136_146 : fetch 136 146 = some (.invokevirtual 142, 3, [133, 3, 10, 0, 7182, 1015, 7185, 7184, 72], .null) := by decide +kernel
theorem w136_146 (hp : psum st ≤ 8) : Wp d 136 146 [l0, l1, l2, l3] (v2 :: v1 :: (.ref b) :: st) h Q = rP (h.2 b) 9 (Cp d 133 [(.ref b), v1, v2] h (fun o => cK o (fun w h2 => Wp d 136 149 [l0, l1, l2, l3] (w.toList ++ st) h2 Q) (fun E h2 => Q (.inr E, h2)))) := (W_invV (st := st) f136_146 rfl rfl (by simp only [List.length_cons]; omega) rfl rfl hp).trans (by simp only [hm136, if_true])
theorem f136_149 : fetch 136 149 = some (.istore_n 3, 1, [], .null) := by decide +kernel
theorem w136_149 : Wp d 136 149 [l0, l1, l2, l3] (.int x :: st) h Q = Wp d 136 150 [l0, l1, kl l2, some (.int x)] st h Q := (W_st1 (pc' := 150) (k := 3) f136_149 rfl rfl (by simp only [List.length_cons, List.length_nil]; omega)).trans (by rw [pst1_succ]; rfl)
theorem f136_150 : fetch 136 150 = some (.iload_n 3, 1, [], .null) := by decide +kernel
theorem w136_150 : Wp d 136 150 [l0, l1, l2, some (.int x)] st h Q = Wp d 136 151 [l0, l1, l2, some (.int x)] (.int x :: st) h Q := W_go f136_150 rfl
theorem f136_151 : fetch 136 151 = some (.ifCond .le 21, 3, [], .null) := by decide +kernel
theorem w136_151 : Wp d 136 151 [l0, l1, l2, l3] (.int x :: st) h Q = if icond .le x 0 = true then Wp d 136 172 [l0, l1, l2, l3] st h Q else Wp d 136 154 [l0, l1, l2, l3] st h Q := W_if f136_151 rfl
theorem f136_154 : fetch 136 154 = some (.aload_n 0, 1, [], .null) := by decide +kernel
theorem w136_154 : Wp d 136 154 [some (.ref a), l1, l2, l3] st h Q = Wp d 136 155 [some (.ref a), l1, l2, l3] (.ref a :: st) h Q := W_go f136_154 rfl
theorem f136_155 : fetch 136 155 = some (.iload_n 1, 1, [], .null) := by decide +kernel
theorem w136_155 : Wp d 136 155 [l0, some (.int x), l2, l3] st h Q = Wp d 136 156 [l0, some (.int x), l2, l3] (.int x :: st) h Q := W_go f136_155 rfl
theorem f136_156 : fetch 136 156 = some (.aload_n 0, 1, [], .null) := by decide +kernel
theorem w136_156 : Wp d 136 156 [some (.ref a), l1, l2, l3] st h Q = Wp d 136 157 [some (.ref a), l1, l2, l3] (.ref a :: st) h Q := W_go f136_156 rfl
theorem f136_157 : fetch 136 157 = some (.getfield 3, 3, [9, 20, 6074, 0], .null) := by decide +kernel
theorem w136_157 : Wp d 136 157 [l0, l1, l2, l3] (.ref a :: st) h Q = gP (h.2 a) 9 20 (fun w => Wp d 136 160 [l0, l1, l2, l3] (w :: st) h Q) := W_get f136_157 rfl
theorem f136_160 : fetch 136 160 = some (.getfield 89, 3, [10, 10, 6142, 1], .null) := by decide +kernel
theorem w136_160 : Wp d 136 160 [l0, l1, l2, l3] (.ref a :: st) h Q = gP (h.2 a) 10 10 (fun w => Wp d 136 163 [l0, l1, l2, l3] (w :: st) h Q) := W_get f136_160 rfl
theorem f136_163 : fetch 136 163 = some (.getfield 174, 3, [8, 14, 5206, 1], .null) := by decide +kernel
theorem w136_163 : Wp d 136 163 [l0, l1, l2, l3] (.ref a :: st) h Q = gP (h.2 a) 8 14 (fun w => Wp d 136 166 [l0, l1, l2, l3] (w :: st) h Q) := W_get f136_163 rfl
theorem f136_166 : fetch 136 166 = some (.iload_n 2, 1, [], .null) := by decide +kernel
theorem w136_166 : Wp d 136 166 [l0, l1, some (.int x), l3] st h Q = Wp d 136 167 [l0, l1, some (.int x), l3] (.int x :: st) h Q := W_go f136_166 rfl
theorem f136_167 : fetch 136 167 = some (.iaload, 1, [], .null) := by decide +kernel
theorem w136_167 : Wp d 136 167 [l0, l1, l2, l3] (.int x :: .ref a :: st) h Q = aP false (h.2 a) x (fun w => Wp d 136 168 [l0, l1, l2, l3] (.int w :: st) h Q) := W_ald f136_167 rfl
theorem f136_168 : fetch 136 168 = some (.iload_n 3, 1, [], .null) := by decide +kernel
theorem w136_168 : Wp d 136 168 [l0, l1, l2, some (.int x)] st h Q = Wp d 136 169 [l0, l1, l2, some (.int x)] (.int x :: st) h Q := W_go f136_168 rfl
theorem f136_169 : fetch 136 169 = some (.invokevirtual 121, 3, [130, 4, 10, 0, 7109, 1015, 7112, 7111, 65], .null) := by decide +kernel
theorem w136_169 (hp : psum st ≤ 8) : Wp d 136 169 [l0, l1, l2, l3] (v3 :: v2 :: v1 :: (.ref b) :: st) h Q = rP (h.2 b) 9 (Cp d 130 [(.ref b), v1, v2, v3] h (fun o => cK o (fun w h2 => Wp d 136 172 [l0, l1, l2, l3] (w.toList ++ st) h2 Q) (fun E h2 => Q (.inr E, h2)))) := (W_invV (st := st) f136_169 rfl rfl (by simp only [List.length_cons]; omega) rfl rfl hp).trans (by simp only [hm136, if_true])
theorem f136_172 : fetch 136 172 = some (.goto 52, 3, [], .null) := by decide +kernel
theorem w136_172 : Wp d 136 172 [l0, l1, l2, l3] st h Q = Wp d 136 224 [l0, l1, l2, l3] st h Q := W_go f136_172 rfl
theorem f136_175 : fetch 136 175 = some (.aload_n 0, 1, [], .null) := by decide +kernel
theorem w136_175 : Wp d 136 175 [some (.ref a), l1, l2, l3] st h Q = Wp d 136 176 [some (.ref a), l1, l2, l3] (.ref a :: st) h Q := W_go f136_175 rfl
theorem f136_176 : fetch 136 176 = some (.iload_n 1, 1, [], .null) := by decide +kernel
theorem w136_176 : Wp d 136 176 [l0, some (.int x), l2, l3] st h Q = Wp d 136 177 [l0, some (.int x), l2, l3] (.int x :: st) h Q := W_go f136_176 rfl
theorem f136_177 : fetch 136 177 = some (.iload_n 2, 1, [], .null) := by decide +kernel
theorem w136_177 : Wp d 136 177 [l0, l1, some (.int x), l3] st h Q = Wp d 136 178 [l0, l1, some (.int x), l3] (.int x :: st) h Q := W_go f136_177 rfl
theorem f136_178 : fetch 136 178 = some (.invokevirtual 177, 3, [134, 3, 10, 0, 7200, 1015, 7203, 7202, 75], .null) := by decide +kernel
theorem w136_178 (hp : psum st ≤ 8) : Wp d 136 178 [l0, l1, l2, l3] (v2 :: v1 :: (.ref b) :: st) h Q = rP (h.2 b) 9 (Cp d 134 [(.ref b), v1, v2] h (fun o => cK o (fun w h2 => Wp d 136 181 [l0, l1, l2, l3] (w.toList ++ st) h2 Q) (fun E h2 => Q (.inr E, h2)))) := (W_invV (st := st) f136_178 rfl rfl (by simp only [List.length_cons]; omega) rfl rfl hp).trans (by simp only [hm136, if_true])
theorem f136_181 : fetch 136 181 = some (.ifCond .eq 18, 3, [], .null) := by decide +kernel
theorem w136_181 : Wp d 136 181 [l0, l1, l2, l3] (.int x :: st) h Q = if icond .eq x 0 = true then Wp d 136 199 [l0, l1, l2, l3] st h Q else Wp d 136 184 [l0, l1, l2, l3] st h Q := W_if f136_181 rfl
theorem f136_184 : fetch 136 184 = some (.aload_n 0, 1, [], .null) := by decide +kernel
theorem w136_184 : Wp d 136 184 [some (.ref a), l1, l2, l3] st h Q = Wp d 136 185 [some (.ref a), l1, l2, l3] (.ref a :: st) h Q := W_go f136_184 rfl
theorem f136_185 : fetch 136 185 = some (.getfield 3, 3, [9, 20, 6074, 0], .null) := by decide +kernel
theorem w136_185 : Wp d 136 185 [l0, l1, l2, l3] (.ref a :: st) h Q = gP (h.2 a) 9 20 (fun w => Wp d 136 188 [l0, l1, l2, l3] (w :: st) h Q) := W_get f136_185 rfl
theorem f136_188 : fetch 136 188 = some (.getfield 89, 3, [10, 10, 6142, 1], .null) := by decide +kernel
theorem w136_188 : Wp d 136 188 [l0, l1, l2, l3] (.ref a :: st) h Q = gP (h.2 a) 10 10 (fun w => Wp d 136 191 [l0, l1, l2, l3] (w :: st) h Q) := W_get f136_188 rfl
theorem f136_191 : fetch 136 191 = some (.getfield 174, 3, [8, 14, 5206, 1], .null) := by decide +kernel
theorem w136_191 : Wp d 136 191 [l0, l1, l2, l3] (.ref a :: st) h Q = gP (h.2 a) 8 14 (fun w => Wp d 136 194 [l0, l1, l2, l3] (w :: st) h Q) := W_get f136_191 rfl
theorem f136_194 : fetch 136 194 = some (.iload_n 2, 1, [], .null) := by decide +kernel
theorem w136_194 : Wp d 136 194 [l0, l1, some (.int x), l3] st h Q = Wp d 136 195 [l0, l1, some (.int x), l3] (.int x :: st) h Q := W_go f136_194 rfl
theorem f136_195 : fetch 136 195 = some (.iaload, 1, [], .null) := by decide +kernel
theorem w136_195 : Wp d 136 195 [l0, l1, l2, l3] (.int x :: .ref a :: st) h Q = aP false (h.2 a) x (fun w => Wp d 136 196 [l0, l1, l2, l3] (.int w :: st) h Q) := W_ald f136_195 rfl
theorem f136_196 : fetch 136 196 = some (.goto 15, 3, [], .null) := by decide +kernel
theorem w136_196 : Wp d 136 196 [l0, l1, l2, l3] st h Q = Wp d 136 211 [l0, l1, l2, l3] st h Q := W_go f136_196 rfl
theorem f136_199 : fetch 136 199 = some (.aload_n 0, 1, [], .null) := by decide +kernel
theorem w136_199 : Wp d 136 199 [some (.ref a), l1, l2, l3] st h Q = Wp d 136 200 [some (.ref a), l1, l2, l3] (.ref a :: st) h Q := W_go f136_199 rfl
theorem f136_200 : fetch 136 200 = some (.getfield 3, 3, [9, 20, 6074, 0], .null) := by decide +kernel
theorem w136_200 : Wp d 136 200 [l0, l1, l2, l3] (.ref a :: st) h Q = gP (h.2 a) 9 20 (fun w => Wp d 136 203 [l0, l1, l2, l3] (w :: st) h Q) := W_get f136_200 rfl
theorem f136_203 : fetch 136 203 = some (.getfield 89, 3, [10, 10, 6142, 1], .null) := by decide +kernel
theorem w136_203 : Wp d 136 203 [l0, l1, l2, l3] (.ref a :: st) h Q = gP (h.2 a) 10 10 (fun w => Wp d 136 206 [l0, l1, l2, l3] (w :: st) h Q) := W_get f136_203 rfl
theorem f136_206 : fetch 136 206 = some (.getfield 181, 3, [8, 15, 5209, 1], .null) := by decide +kernel
theorem w136_206 : Wp d 136 206 [l0, l1, l2, l3] (.ref a :: st) h Q = gP (h.2 a) 8 15 (fun w => Wp d 136 209 [l0, l1, l2, l3] (w :: st) h Q) := W_get f136_206 rfl
theorem f136_209 : fetch 136 209 = some (.iload_n 2, 1, [], .null) := by decide +kernel
theorem w136_209 : Wp d 136 209 [l0, l1, some (.int x), l3] st h Q = Wp d 136 210 [l0, l1, some (.int x), l3] (.int x :: st) h Q := W_go f136_209 rfl
theorem f136_210 : fetch 136 210 = some (.iaload, 1, [], .null) := by decide +kernel
theorem w136_210 : Wp d 136 210 [l0, l1, l2, l3] (.int x :: .ref a :: st) h Q = aP false (h.2 a) x (fun w => Wp d 136 211 [l0, l1, l2, l3] (.int w :: st) h Q) := W_ald f136_210 rfl
theorem f136_211 : fetch 136 211 = some (.istore_n 3, 1, [], .null) := by decide +kernel
theorem w136_211 : Wp d 136 211 [l0, l1, l2, l3] (.int x :: st) h Q = Wp d 136 212 [l0, l1, kl l2, some (.int x)] st h Q := (W_st1 (pc' := 212) (k := 3) f136_211 rfl rfl (by simp only [List.length_cons, List.length_nil]; omega)).trans (by rw [pst1_succ]; rfl)
theorem f136_212 : fetch 136 212 = some (.iload_n 3, 1, [], .null) := by decide +kernel
theorem w136_212 : Wp d 136 212 [l0, l1, l2, some (.int x)] st h Q = Wp d 136 213 [l0, l1, l2, some (.int x)] (.int x :: st) h Q := W_go f136_212 rfl
theorem f136_213 : fetch 136 213 = some (.iconst (-1), 1, [], .null) := by decide +kernel
theorem w136_213 : Wp d 136 213 [l0, l1, l2, l3] st h Q = Wp d 136 214 [l0, l1, l2, l3] (.int (-1 : Int32) :: st) h Q := W_go f136_213 rfl
theorem f136_214 : fetch 136 214 = some (.if_icmp .eq 10, 3, [], .null) := by decide +kernel
theorem w136_214 : Wp d 136 214 [l0, l1, l2, l3] (.int y :: .int x :: st) h Q = if icond .eq x y = true then Wp d 136 224 [l0, l1, l2, l3] st h Q else Wp d 136 217 [l0, l1, l2, l3] st h Q := W_if f136_214 rfl
theorem f136_217 : fetch 136 217 = some (.aload_n 0, 1, [], .null) := by decide +kernel
theorem w136_217 : Wp d 136 217 [some (.ref a), l1, l2, l3] st h Q = Wp d 136 218 [some (.ref a), l1, l2, l3] (.ref a :: st) h Q := W_go f136_217 rfl
theorem f136_218 : fetch 136 218 = some (.iload_n 1, 1, [], .null) := by decide +kernel
theorem w136_218 : Wp d 136 218 [l0, some (.int x), l2, l3] st h Q = Wp d 136 219 [l0, some (.int x), l2, l3] (.int x :: st) h Q := W_go f136_218 rfl
theorem f136_219 : fetch 136 219 = some (.iload_n 3, 1, [], .null) := by decide +kernel
theorem w136_219 : Wp d 136 219 [l0, l1, l2, some (.int x)] st h Q = Wp d 136 220 [l0, l1, l2, some (.int x)] (.int x :: st) h Q := W_go f136_219 rfl
theorem f136_220 : fetch 136 220 = some (.iconst 1, 1, [], .null) := by decide +kernel
theorem w136_220 : Wp d 136 220 [l0, l1, l2, l3] st h Q = Wp d 136 221 [l0, l1, l2, l3] (.int (1 : Int32) :: st) h Q := W_go f136_220 rfl
theorem f136_221 : fetch 136 221 = some (.invokevirtual 121, 3, [130, 4, 10, 0, 7109, 1015, 7112, 7111, 65], .null) := by decide +kernel
theorem w136_221 (hp : psum st ≤ 8) : Wp d 136 221 [l0, l1, l2, l3] (v3 :: v2 :: v1 :: (.ref b) :: st) h Q = rP (h.2 b) 9 (Cp d 130 [(.ref b), v1, v2, v3] h (fun o => cK o (fun w h2 => Wp d 136 224 [l0, l1, l2, l3] (w.toList ++ st) h2 Q) (fun E h2 => Q (.inr E, h2)))) := (W_invV (st := st) f136_221 rfl rfl (by simp only [List.length_cons]; omega) rfl rfl hp).trans (by simp only [hm136, if_true])
theorem f136_224 : fetch 136 224 = some (.return_, 1, [], .null) := by decide +kernel
theorem w136_224 : Wp d 136 224 [l0, l1, l2, l3] [] h Q = Q (.inl none, h) := W_fin f136_224 rfl
theorem hm137 : mhs 137 = [] := by decide +kernel
theorem hr137 : mret 137 = (some .int) := by decide +kernel
theorem f137_0 : fetch 137 0 = some (.bipush 48, 2, [], .null) := by decide +kernel
theorem w137_0 : Wp d 137 0 [l0, l1, l2, l3] st h Q = Wp d 137 2 [l0, l1, l2, l3] (.int (48 : Int32) :: st) h Q := W_go f137_0 rfl
theorem f137_2 : fetch 137 2 = some (.iload_n 1, 1, [], .null) := by decide +kernel
theorem w137_2 : Wp d 137 2 [l0, some (.int x), l2, l3] st h Q = Wp d 137 3 [l0, some (.int x), l2, l3] (.int x :: st) h Q := W_go f137_2 rfl
theorem f137_3 : fetch 137 3 = some (.imul, 1, [], .null) := by decide +kernel
theorem w137_3 : Wp d 137 3 [l0, l1, l2, l3] (.int y :: .int x :: st) h Q = Wp d 137 4 [l0, l1, l2, l3] (.int (x * y) :: st) h Q := W_go f137_3 rfl
theorem f137_4 : fetch 137 4 = some (.aload_n 0, 1, [], .null) := by decide +kernel
theorem w137_4 : Wp d 137 4 [some (.ref a), l1, l2, l3] st h Q = Wp d 137 5 [some (.ref a), l1, l2, l3] (.ref a :: st) h Q := W_go f137_4 rfl
theorem f137_5 : fetch 137 5 = some (.getfield 53, 3, [9, 16, 6069, 0], .null) := by decide +kernel
theorem w137_5 : Wp d 137 5 [l0, l1, l2, l3] (.ref a :: st) h Q = gP (h.2 a) 9 16 (fun w => Wp d 137 8 [l0, l1, l2, l3] (w :: st) h Q) := W_get f137_5 rfl
theorem f137_8 : fetch 137 8 = some (.iload_n 1, 1, [], .null) := by decide +kernel
theorem w137_8 : Wp d 137 8 [l0, some (.int x), l2, l3] st h Q = Wp d 137 9 [l0, some (.int x), l2, l3] (.int x :: st) h Q := W_go f137_8 rfl
theorem f137_9 : fetch 137 9 = some (.iaload, 1, [], .null) := by decide +kernel
theorem w137_9 : Wp d 137 9 [l0, l1, l2, l3] (.int x :: .ref a :: st) h Q = aP false (h.2 a) x (fun w => Wp d 137 10 [l0, l1, l2, l3] (.int w :: st) h Q) := W_ald f137_9 rfl
theorem f137_10 : fetch 137 10 = some (.iadd, 1, [], .null) := by decide +kernel
theorem w137_10 : Wp d 137 10 [l0, l1, l2, l3] (.int y :: .int x :: st) h Q = Wp d 137 11 [l0, l1, l2, l3] (.int (x + y) :: st) h Q := W_go f137_10 rfl
theorem f137_11 : fetch 137 11 = some (.iconst 1, 1, [], .null) := by decide +kernel
theorem w137_11 : Wp d 137 11 [l0, l1, l2, l3] st h Q = Wp d 137 12 [l0, l1, l2, l3] (.int (1 : Int32) :: st) h Q := W_go f137_11 rfl
theorem f137_12 : fetch 137 12 = some (.isub, 1, [], .null) := by decide +kernel
theorem w137_12 : Wp d 137 12 [l0, l1, l2, l3] (.int y :: .int x :: st) h Q = Wp d 137 13 [l0, l1, l2, l3] (.int (x - y) :: st) h Q := W_go f137_12 rfl
theorem f137_13 : fetch 137 13 = some (.istore_n 2, 1, [], .null) := by decide +kernel
theorem w137_13 : Wp d 137 13 [l0, l1, l2, l3] (.int x :: st) h Q = Wp d 137 14 [l0, kl l1, some (.int x), l3] st h Q := (W_st1 (pc' := 14) (k := 2) f137_13 rfl rfl (by simp only [List.length_cons, List.length_nil]; omega)).trans (by rw [pst1_succ]; rfl)
theorem f137_14 : fetch 137 14 = some (.aload_n 0, 1, [], .null) := by decide +kernel
theorem w137_14 : Wp d 137 14 [some (.ref a), l1, l2, l3] st h Q = Wp d 137 15 [some (.ref a), l1, l2, l3] (.ref a :: st) h Q := W_go f137_14 rfl
theorem f137_15 : fetch 137 15 = some (.getfield 59, 3, [9, 18, 6072, 0], .null) := by decide +kernel
theorem w137_15 : Wp d 137 15 [l0, l1, l2, l3] (.ref a :: st) h Q = gP (h.2 a) 9 18 (fun w => Wp d 137 18 [l0, l1, l2, l3] (w :: st) h Q) := W_get f137_15 rfl
theorem f137_18 : fetch 137 18 = some (.iload_n 2, 1, [], .null) := by decide +kernel
theorem w137_18 : Wp d 137 18 [l0, l1, some (.int x), l3] st h Q = Wp d 137 19 [l0, l1, some (.int x), l3] (.int x :: st) h Q := W_go f137_18 rfl
theorem f137_19 : fetch 137 19 = some (.iaload, 1, [], .null) := by decide +kernel
theorem w137_19 : Wp d 137 19 [l0, l1, l2, l3] (.int x :: .ref a :: st) h Q = aP false (h.2 a) x (fun w => Wp d 137 20 [l0, l1, l2, l3] (.int w :: st) h Q) := W_ald f137_19 rfl
theorem f137_20 : fetch 137 20 = some (.istore_n 3, 1, [], .null) := by decide +kernel
theorem w137_20 : Wp d 137 20 [l0, l1, l2, l3] (.int x :: st) h Q = Wp d 137 21 [l0, l1, kl l2, some (.int x)] st h Q := (W_st1 (pc' := 21) (k := 3) f137_20 rfl rfl (by simp only [List.length_cons, List.length_nil]; omega)).trans (by rw [pst1_succ]; rfl)
theorem f137_21 : fetch 137 21 = some (.iload_n 3, 1, [], .null) := by decide +kernel
theorem w137_21 : Wp d 137 21 [l0, l1, l2, some (.int x)] st h Q = Wp d 137 22 [l0, l1, l2, some (.int x)] (.int x :: st) h Q := W_go f137_21 rfl
theorem f137_22 : fetch 137 22 = some (.iconst (-1), 1, [], .null) := by decide +kernel
theorem w137_22 : Wp d 137 22 [l0, l1, l2, l3] st h Q = Wp d 137 23 [l0, l1, l2, l3] (.int (-1 : Int32) :: st) h Q := W_go f137_22 rfl
theorem f137_23 : fetch 137 23 = some (.if_icmp .eq 24, 3, [], .null) := by decide +kernel
theorem w137_23 : Wp d 137 23 [l0, l1, l2, l3] (.int y :: .int x :: st) h Q = if icond .eq x y = true then Wp d 137 47 [l0, l1, l2, l3] st h Q else Wp d 137 26 [l0, l1, l2, l3] st h Q := W_if f137_23 rfl
theorem f137_26 : fetch 137 26 = some (.aload_n 0, 1, [], .null) := by decide +kernel
theorem w137_26 : Wp d 137 26 [some (.ref a), l1, l2, l3] st h Q = Wp d 137 27 [some (.ref a), l1, l2, l3] (.ref a :: st) h Q := W_go f137_26 rfl
theorem f137_27 : fetch 137 27 = some (.getfield 59, 3, [9, 18, 6072, 0], .null) := by decide +kernel
theorem w137_27 : Wp d 137 27 [l0, l1, l2, l3] (.ref a :: st) h Q = gP (h.2 a) 9 18 (fun w => Wp d 137 30 [l0, l1, l2, l3] (w :: st) h Q) := W_get f137_27 rfl
theorem f137_30 : fetch 137 30 = some (.iload_n 2, 1, [], .null) := by decide +kernel
theorem w137_30 : Wp d 137 30 [l0, l1, some (.int x), l3] st h Q = Wp d 137 31 [l0, l1, some (.int x), l3] (.int x :: st) h Q := W_go f137_30 rfl
theorem f137_31 : fetch 137 31 = some (.aload_n 0, 1, [], .null) := by decide +kernel
theorem w137_31 : Wp d 137 31 [some (.ref a), l1, l2, l3] st h Q = Wp d 137 32 [some (.ref a), l1, l2, l3] (.ref a :: st) h Q := W_go f137_31 rfl
theorem f137_32 : fetch 137 32 = some (.getfield 3, 3, [9, 20, 6074, 0], .null) := by decide +kernel
theorem w137_32 : Wp d 137 32 [l0, l1, l2, l3] (.ref a :: st) h Q = gP (h.2 a) 9 20 (fun w => Wp d 137 35 [l0, l1, l2, l3] (w :: st) h Q) := W_get f137_32 rfl
theorem f137_35 : fetch 137 35 = some (.getfield 89, 3, [10, 10, 6142, 1], .null) := by decide +kernel
theorem w137_35 : Wp d 137 35 [l0, l1, l2, l3] (.ref a :: st) h Q = gP (h.2 a) 10 10 (fun w => Wp d 137 38 [l0, l1, l2, l3] (w :: st) h Q) := W_get f137_35 rfl
theorem f137_38 : fetch 137 38 = some (.getfield 184, 3, [8, 11, 5197, 1], .null) := by decide +kernel
theorem w137_38 : Wp d 137 38 [l0, l1, l2, l3] (.ref a :: st) h Q = gP (h.2 a) 8 11 (fun w => Wp d 137 41 [l0, l1, l2, l3] (w :: st) h Q) := W_get f137_38 rfl
theorem f137_41 : fetch 137 41 = some (.iload_n 3, 1, [], .null) := by decide +kernel
theorem w137_41 : Wp d 137 41 [l0, l1, l2, some (.int x)] st h Q = Wp d 137 42 [l0, l1, l2, some (.int x)] (.int x :: st) h Q := W_go f137_41 rfl
theorem f137_42 : fetch 137 42 = some (.iaload, 1, [], .null) := by decide +kernel
theorem w137_42 : Wp d 137 42 [l0, l1, l2, l3] (.int x :: .ref a :: st) h Q = aP false (h.2 a) x (fun w => Wp d 137 43 [l0, l1, l2, l3] (.int w :: st) h Q) := W_ald f137_42 rfl
theorem f137_43 : fetch 137 43 = some (.iastore, 1, [], .null) := by decide +kernel
theorem w137_43 : Wp d 137 43 [l0, l1, l2, l3] (.int y :: .int x :: .ref a :: st) h Q = asP false (h.2 a) a x y (fun c => Wp d 137 44 [l0, l1, l2, l3] st (hset h a c) Q) := W_ast f137_43 rfl
theorem f137_44 : fetch 137 44 = some (.goto 59, 3, [], .null) := by decide +kernel
theorem w137_44 : Wp d 137 44 [l0, l1, l2, l3] st h Q = Wp d 137 103 [l0, l1, l2, l3] st h Q := W_go f137_44 rfl
theorem f137_47 : fetch 137 47 = some (.aload_n 0, 1, [], .null) := by decide +kernel
theorem w137_47 : Wp d 137 47 [some (.ref a), l1, l2, l3] st h Q = Wp d 137 48 [some (.ref a), l1, l2, l3] (.ref a :: st) h Q := W_go f137_47 rfl
theorem f137_48 : fetch 137 48 = some (.getfield 62, 3, [9, 19, 6073, 0], .null) := by decide +kernel
theorem w137_48 : Wp d 137 48 [l0, l1, l2, l3] (.ref a :: st) h Q = gP (h.2 a) 9 19 (fun w => Wp d 137 51 [l0, l1, l2, l3] (w :: st) h Q) := W_get f137_48 rfl
theorem f137_51 : fetch 137 51 = some (.iload_n 2, 1, [], .null) := by decide +kernel
theorem w137_51 : Wp d 137 51 [l0, l1, some (.int x), l3] st h Q = Wp d 137 52 [l0, l1, some (.int x), l3] (.int x :: st) h Q := W_go f137_51 rfl
theorem f137_52 : fetch 137 52 = some (.iaload, 1, [], .null) := by decide +kernel
theorem w137_52 : Wp d 137 52 [l0, l1, l2, l3] (.int x :: .ref a :: st) h Q = aP false (h.2 a) x (fun w => Wp d 137 53 [l0, l1, l2, l3] (.int w :: st) h Q) := W_ald f137_52 rfl
theorem f137_53 : fetch 137 53 = some (.iconst 1, 1, [], .null) := by decide +kernel
theorem w137_53 : Wp d 137 53 [l0, l1, l2, l3] st h Q = Wp d 137 54 [l0, l1, l2, l3] (.int (1 : Int32) :: st) h Q := W_go f137_53 rfl
theorem f137_54 : fetch 137 54 = some (.if_icmp .le 39, 3, [], .null) := by decide +kernel
theorem w137_54 : Wp d 137 54 [l0, l1, l2, l3] (.int y :: .int x :: st) h Q = if icond .le x y = true then Wp d 137 93 [l0, l1, l2, l3] st h Q else Wp d 137 57 [l0, l1, l2, l3] st h Q := W_if f137_54 rfl
theorem f137_57 : fetch 137 57 = some (.aload_n 0, 1, [], .null) := by decide +kernel
theorem w137_57 : Wp d 137 57 [some (.ref a), l1, l2, l3] st h Q = Wp d 137 58 [some (.ref a), l1, l2, l3] (.ref a :: st) h Q := W_go f137_57 rfl
theorem f137_58 : fetch 137 58 = some (.getfield 62, 3, [9, 19, 6073, 0], .null) := by decide +kernel
theorem w137_58 : Wp d 137 58 [l0, l1, l2, l3] (.ref a :: st) h Q = gP (h.2 a) 9 19 (fun w => Wp d 137 61 [l0, l1, l2, l3] (w :: st) h Q) := W_get f137_58 rfl
theorem f137_61 : fetch 137 61 = some (.iload_n 2, 1, [], .null) := by decide +kernel
theorem w137_61 : Wp d 137 61 [l0, l1, some (.int x), l3] st h Q = Wp d 137 62 [l0, l1, some (.int x), l3] (.int x :: st) h Q := W_go f137_61 rfl
theorem f137_62 : fetch 137 62 = some (.dup2, 1, [], .null) := by decide +kernel
theorem w137_62 : Wp d 137 62 [l0, l1, l2, l3] (.int x :: .ref a :: st) h Q = Wp d 137 63 [l0, l1, l2, l3] (.int x :: .ref a :: .int x :: .ref a :: st) h Q := W_go f137_62 rfl
theorem f137_63 : fetch 137 63 = some (.iaload, 1, [], .null) := by decide +kernel
theorem w137_63 : Wp d 137 63 [l0, l1, l2, l3] (.int x :: .ref a :: st) h Q = aP false (h.2 a) x (fun w => Wp d 137 64 [l0, l1, l2, l3] (.int w :: st) h Q) := W_ald f137_63 rfl
theorem f137_64 : fetch 137 64 = some (.iconst 1, 1, [], .null) := by decide +kernel
theorem w137_64 : Wp d 137 64 [l0, l1, l2, l3] st h Q = Wp d 137 65 [l0, l1, l2, l3] (.int (1 : Int32) :: st) h Q := W_go f137_64 rfl
theorem f137_65 : fetch 137 65 = some (.isub, 1, [], .null) := by decide +kernel
theorem w137_65 : Wp d 137 65 [l0, l1, l2, l3] (.int y :: .int x :: st) h Q = Wp d 137 66 [l0, l1, l2, l3] (.int (x - y) :: st) h Q := W_go f137_65 rfl
theorem f137_66 : fetch 137 66 = some (.iastore, 1, [], .null) := by decide +kernel
theorem w137_66 : Wp d 137 66 [l0, l1, l2, l3] (.int y :: .int x :: .ref a :: st) h Q = asP false (h.2 a) a x y (fun c => Wp d 137 67 [l0, l1, l2, l3] st (hset h a c) Q) := W_ast f137_66 rfl
theorem f137_67 : fetch 137 67 = some (.aload_n 0, 1, [], .null) := by decide +kernel
theorem w137_67 : Wp d 137 67 [some (.ref a), l1, l2, l3] st h Q = Wp d 137 68 [some (.ref a), l1, l2, l3] (.ref a :: st) h Q := W_go f137_67 rfl
theorem f137_68 : fetch 137 68 = some (.getfield 59, 3, [9, 18, 6072, 0], .null) := by decide +kernel
theorem w137_68 : Wp d 137 68 [l0, l1, l2, l3] (.ref a :: st) h Q = gP (h.2 a) 9 18 (fun w => Wp d 137 71 [l0, l1, l2, l3] (w :: st) h Q) := W_get f137_68 rfl
theorem f137_71 : fetch 137 71 = some (.iload_n 2, 1, [], .null) := by decide +kernel
theorem w137_71 : Wp d 137 71 [l0, l1, some (.int x), l3] st h Q = Wp d 137 72 [l0, l1, some (.int x), l3] (.int x :: st) h Q := W_go f137_71 rfl
theorem f137_72 : fetch 137 72 = some (.aload_n 0, 1, [], .null) := by decide +kernel
theorem w137_72 : Wp d 137 72 [some (.ref a), l1, l2, l3] st h Q = Wp d 137 73 [some (.ref a), l1, l2, l3] (.ref a :: st) h Q := W_go f137_72 rfl
theorem f137_73 : fetch 137 73 = some (.getfield 3, 3, [9, 20, 6074, 0], .null) := by decide +kernel
theorem w137_73 : Wp d 137 73 [l0, l1, l2, l3] (.ref a :: st) h Q = gP (h.2 a) 9 20 (fun w => Wp d 137 76 [l0, l1, l2, l3] (w :: st) h Q) := W_get f137_73 rfl
theorem f137_76 : fetch 137 76 = some (.getfield 89, 3, [10, 10, 6142, 1], .null) := by decide +kernel
theorem w137_76 : Wp d 137 76 [l0, l1, l2, l3] (.ref a :: st) h Q = gP (h.2 a) 10 10 (fun w => Wp d 137 79 [l0, l1, l2, l3] (w :: st) h Q) := W_get f137_76 rfl
theorem f137_79 : fetch 137 79 = some (.getfield 115, 3, [8, 5, 5185, 1], .null) := by decide +kernel
theorem w137_79 : Wp d 137 79 [l0, l1, l2, l3] (.ref a :: st) h Q = gP (h.2 a) 8 5 (fun w => Wp d 137 82 [l0, l1, l2, l3] (w :: st) h Q) := W_get f137_79 rfl
theorem f137_82 : fetch 137 82 = some (.aload_n 0, 1, [], .null) := by decide +kernel
theorem w137_82 : Wp d 137 82 [some (.ref a), l1, l2, l3] st h Q = Wp d 137 83 [some (.ref a), l1, l2, l3] (.ref a :: st) h Q := W_go f137_82 rfl
theorem f137_83 : fetch 137 83 = some (.getfield 56, 3, [9, 17, 6071, 0], .null) := by decide +kernel
theorem w137_83 : Wp d 137 83 [l0, l1, l2, l3] (.ref a :: st) h Q = gP (h.2 a) 9 17 (fun w => Wp d 137 86 [l0, l1, l2, l3] (w :: st) h Q) := W_get f137_83 rfl
theorem f137_86 : fetch 137 86 = some (.iload_n 2, 1, [], .null) := by decide +kernel
theorem w137_86 : Wp d 137 86 [l0, l1, some (.int x), l3] st h Q = Wp d 137 87 [l0, l1, some (.int x), l3] (.int x :: st) h Q := W_go f137_86 rfl
theorem f137_87 : fetch 137 87 = some (.iaload, 1, [], .null) := by decide +kernel
theorem w137_87 : Wp d 137 87 [l0, l1, l2, l3] (.int x :: .ref a :: st) h Q = aP false (h.2 a) x (fun w => Wp d 137 88 [l0, l1, l2, l3] (.int w :: st) h Q) := W_ald f137_87 rfl
theorem f137_88 : fetch 137 88 = some (.iaload, 1, [], .null) := by decide +kernel
theorem w137_88 : Wp d 137 88 [l0, l1, l2, l3] (.int x :: .ref a :: st) h Q = aP false (h.2 a) x (fun w => Wp d 137 89 [l0, l1, l2, l3] (.int w :: st) h Q) := W_ald f137_88 rfl
theorem f137_89 : fetch 137 89 = some (.iastore, 1, [], .null) := by decide +kernel
theorem w137_89 : Wp d 137 89 [l0, l1, l2, l3] (.int y :: .int x :: .ref a :: st) h Q = asP false (h.2 a) a x y (fun c => Wp d 137 90 [l0, l1, l2, l3] st (hset h a c) Q) := W_ast f137_89 rfl
theorem f137_90 : fetch 137 90 = some (.goto 13, 3, [], .null) := by decide +kernel
theorem w137_90 : Wp d 137 90 [l0, l1, l2, l3] st h Q = Wp d 137 103 [l0, l1, l2, l3] st h Q := W_go f137_90 rfl
theorem f137_93 : fetch 137 93 = some (.aload_n 0, 1, [], .null) := by decide +kernel
theorem w137_93 : Wp d 137 93 [some (.ref a), l1, l2, l3] st h Q = Wp d 137 94 [some (.ref a), l1, l2, l3] (.ref a :: st) h Q := W_go f137_93 rfl
theorem f137_94 : fetch 137 94 = some (.getfield 53, 3, [9, 16, 6069, 0], .null) := by decide +kernel
theorem w137_94 : Wp d 137 94 [l0, l1, l2, l3] (.ref a :: st) h Q = gP (h.2 a) 9 16 (fun w => Wp d 137 97 [l0, l1, l2, l3] (w :: st) h Q) := W_get f137_94 rfl
theorem f137_97 : fetch 137 97 = some (.iload_n 1, 1, [], .null) := by decide +kernel
theorem w137_97 : Wp d 137 97 [l0, some (.int x), l2, l3] st h Q = Wp d 137 98 [l0, some (.int x), l2, l3] (.int x :: st) h Q := W_go f137_97 rfl
theorem f137_98 : fetch 137 98 = some (.dup2, 1, [], .null) := by decide +kernel
theorem w137_98 : Wp d 137 98 [l0, l1, l2, l3] (.int x :: .ref a :: st) h Q = Wp d 137 99 [l0, l1, l2, l3] (.int x :: .ref a :: .int x :: .ref a :: st) h Q := W_go f137_98 rfl
theorem f137_99 : fetch 137 99 = some (.iaload, 1, [], .null) := by decide +kernel
theorem w137_99 : Wp d 137 99 [l0, l1, l2, l3] (.int x :: .ref a :: st) h Q = aP false (h.2 a) x (fun w => Wp d 137 100 [l0, l1, l2, l3] (.int w :: st) h Q) := W_ald f137_99 rfl
theorem f137_100 : fetch 137 100 = some (.iconst 1, 1, [], .null) := by decide +kernel
theorem w137_100 : Wp d 137 100 [l0, l1, l2, l3] st h Q = Wp d 137 101 [l0, l1, l2, l3] (.int (1 : Int32) :: st) h Q := W_go f137_100 rfl
theorem f137_101 : fetch 137 101 = some (.isub, 1, [], .null) := by decide +kernel
theorem w137_101 : Wp d 137 101 [l0, l1, l2, l3] (.int y :: .int x :: st) h Q = Wp d 137 102 [l0, l1, l2, l3] (.int (x - y) :: st) h Q := W_go f137_101 rfl
theorem f137_102 : fetch 137 102 = some (.iastore, 1, [], .null) := by decide +kernel
theorem w137_102 : Wp d 137 102 [l0, l1, l2, l3] (.int y :: .int x :: .ref a :: st) h Q = asP false (h.2 a) a x y (fun c => Wp d 137 103 [l0, l1, l2, l3] st (hset h a c) Q) := W_ast f137_102 rfl
theorem f137_103 : fetch 137 103 = some (.iload_n 3, 1, [], .null) := by decide +kernel
theorem w137_103 : Wp d 137 103 [l0, l1, l2, some (.int x)] st h Q = Wp d 137 104 [l0, l1, l2, some (.int x)] (.int x :: st) h Q := W_go f137_103 rfl
theorem f137_104 : fetch 137 104 = some (.ireturn, 1, [], .null) := by decide +kernel
theorem w137_104 : Wp d 137 104 [l0, l1, l2, l3] [.int x] h Q = Q (.inl (some (.int x)), h) := W_iret f137_104 hr137
theorem hm138 : mhs 138 = [] := by decide +kernel
theorem f138_0 : fetch 138 0 = some (.iconst 0, 1, [], .null) := by decide +kernel
theorem w138_0 : Wp d 138 0 [l0, l1, l2, l3, l4] st h Q = Wp d 138 1 [l0, l1, l2, l3, l4] (.int (0 : Int32) :: st) h Q := W_go f138_0 rfl
theorem f138_1 : fetch 138 1 = some (.istore_n 2, 1, [], .null) := by decide +kernel
theorem w138_1 : Wp d 138 1 [l0, l1, l2, l3, l4] (.int x :: st) h Q = Wp d 138 2 [l0, kl l1, some (.int x), l3, l4] st h Q := (W_st1 (pc' := 2) (k := 2) f138_1 rfl rfl (by simp only [List.length_cons, List.length_nil]; omega)).trans (by rw [pst1_succ]; rfl)
theorem f138_2 : fetch 138 2 = some (.aload_n 0, 1, [], .null) := by decide +kernel
theorem w138_2 : Wp d 138 2 [some (.ref a), l1, l2, l3, l4] st h Q = Wp d 138 3 [some (.ref a), l1, l2, l3, l4] (.ref a :: st) h Q := W_go f138_2 rfl
theorem f138_3 : fetch 138 3 = some (.getfield 41, 3, [9, 12, 6061, 0], .null) := by decide +kernel
theorem w138_3 : Wp d 138 3 [l0, l1, l2, l3, l4] (.ref a :: st) h Q = gP (h.2 a) 9 12 (fun w => Wp d 138 6 [l0, l1, l2, l3, l4] (w :: st) h Q) := W_get f138_3 rfl
theorem f138_6 : fetch 138 6 = some (.iload_n 1, 1, [], .null) := by decide +kernel
theorem w138_6 : Wp d 138 6 [l0, some (.int x), l2, l3, l4] st h Q = Wp d 138 7 [l0, some (.int x), l2, l3, l4] (.int x :: st) h Q := W_go f138_6 rfl
theorem f138_7 : fetch 138 7 = some (.iaload, 1, [], .null) := by decide +kernel
theorem w138_7 : Wp d 138 7 [l0, l1, l2, l3, l4] (.int x :: .ref a :: st) h Q = aP false (h.2 a) x (fun w => Wp d 138 8 [l0, l1, l2, l3, l4] (.int w :: st) h Q) := W_ald f138_7 rfl
theorem f138_8 : fetch 138 8 = some (.iconst (-1), 1, [], .null) := by decide +kernel
theorem w138_8 : Wp d 138 8 [l0, l1, l2, l3, l4] st h Q = Wp d 138 9 [l0, l1, l2, l3, l4] (.int (-1 : Int32) :: st) h Q := W_go f138_8 rfl
theorem f138_9 : fetch 138 9 = some (.if_icmp .ne 72, 3, [], .null) := by decide +kernel
theorem w138_9 : Wp d 138 9 [l0, l1, l2, l3, l4] (.int y :: .int x :: st) h Q = if icond .ne x y = true then Wp d 138 81 [l0, l1, l2, l3, l4] st h Q else Wp d 138 12 [l0, l1, l2, l3, l4] st h Q := W_if f138_9 rfl
theorem f138_12 : fetch 138 12 = some (.aload_n 0, 1, [], .null) := by decide +kernel
theorem w138_12 : Wp d 138 12 [some (.ref a), l1, l2, l3, l4] st h Q = Wp d 138 13 [some (.ref a), l1, l2, l3, l4] (.ref a :: st) h Q := W_go f138_12 rfl
theorem f138_13 : fetch 138 13 = some (.getfield 53, 3, [9, 16, 6069, 0], .null) := by decide +kernel
theorem w138_13 : Wp d 138 13 [l0, l1, l2, l3, l4] (.ref a :: st) h Q = gP (h.2 a) 9 16 (fun w => Wp d 138 16 [l0, l1, l2, l3, l4] (w :: st) h Q) := W_get f138_13 rfl
theorem f138_16 : fetch 138 16 = some (.iload_n 1, 1, [], .null) := by decide +kernel
theorem w138_16 : Wp d 138 16 [l0, some (.int x), l2, l3, l4] st h Q = Wp d 138 17 [l0, some (.int x), l2, l3, l4] (.int x :: st) h Q := W_go f138_16 rfl
theorem f138_17 : fetch 138 17 = some (.iaload, 1, [], .null) := by decide +kernel
theorem w138_17 : Wp d 138 17 [l0, l1, l2, l3, l4] (.int x :: .ref a :: st) h Q = aP false (h.2 a) x (fun w => Wp d 138 18 [l0, l1, l2, l3, l4] (.int w :: st) h Q) := W_ald f138_17 rfl
theorem f138_18 : fetch 138 18 = some (.ifCond .le 63, 3, [], .null) := by decide +kernel
theorem w138_18 : Wp d 138 18 [l0, l1, l2, l3, l4] (.int x :: st) h Q = if icond .le x 0 = true then Wp d 138 81 [l0, l1, l2, l3, l4] st h Q else Wp d 138 21 [l0, l1, l2, l3, l4] st h Q := W_if f138_18 rfl
theorem f138_21 : fetch 138 21 = some (.aload_n 0, 1, [], .null) := by decide +kernel
theorem w138_21 : Wp d 138 21 [some (.ref a), l1, l2, l3, l4] st h Q = Wp d 138 22 [some (.ref a), l1, l2, l3, l4] (.ref a :: st) h Q := W_go f138_21 rfl
theorem f138_22 : fetch 138 22 = some (.iload_n 1, 1, [], .null) := by decide +kernel
theorem w138_22 : Wp d 138 22 [l0, some (.int x), l2, l3, l4] st h Q = Wp d 138 23 [l0, some (.int x), l2, l3, l4] (.int x :: st) h Q := W_go f138_22 rfl
theorem f138_23 : fetch 138 23 = some (.invokevirtual 187, 3, [137, 2, 10, 0, 7174, 1015, 7177, 7176, 70], .null) := by decide +kernel
theorem w138_23 (hp : psum st ≤ 8) : Wp d 138 23 [l0, l1, l2, l3, l4] (v1 :: (.ref b) :: st) h Q = rP (h.2 b) 9 (Cp d 137 [(.ref b), v1] h (fun o => cK o (fun w h2 => Wp d 138 26 [l0, l1, l2, l3, l4] (w.toList ++ st) h2 Q) (fun E h2 => Q (.inr E, h2)))) := (W_invV (st := st) f138_23 rfl rfl (by simp only [List.length_cons]; omega) rfl rfl hp).trans (by simp only [hm138, if_true])
theorem f138_26 : fetch 138 26 = some (.istore_n 3, 1, [], .null) := by decide +kernel
theorem w138_26 : Wp d 138 26 [l0, l1, l2, l3, l4] (.int x :: st) h Q = Wp d 138 27 [l0, l1, kl l2, some (.int x), l4] st h Q := (W_st1 (pc' := 27) (k := 3) f138_26 rfl rfl (by simp only [List.length_cons, List.length_nil]; omega)).trans (by rw [pst1_succ]; rfl)
theorem f138_27 : fetch 138 27 = some (.iload_n 3, 1, [], .null) := by decide +kernel
theorem w138_27 : Wp d 138 27 [l0, l1, l2, some (.int x), l4] st h Q = Wp d 138 28 [l0, l1, l2, some (.int x), l4] (.int x :: st) h Q := W_go f138_27 rfl
theorem f138_28 : fetch 138 28 = some (.iconst (-1), 1, [], .null) := by decide +kernel
theorem w138_28 : Wp d 138 28 [l0, l1, l2, l3, l4] st h Q = Wp d 138 29 [l0, l1, l2, l3, l4] (.int (-1 : Int32) :: st) h Q := W_go f138_28 rfl
theorem f138_29 : fetch 138 29 = some (.if_icmp .ne 6, 3, [], .null) := by decide +kernel
theorem w138_29 : Wp d 138 29 [l0, l1, l2, l3, l4] (.int y :: .int x :: st) h Q = if icond .ne x y = true then Wp d 138 35 [l0, l1, l2, l3, l4] st h Q else Wp d 138 32 [l0, l1, l2, l3, l4] st h Q := W_if f138_29 rfl
theorem f138_32 : fetch 138 32 = some (.goto (-30), 3, [], .null) := by decide +kernel
theorem w138_32 : Wp d 138 32 [l0, l1, l2, l3, l4] st h Q = Wp d 138 2 [l0, l1, l2, l3, l4] st h Q := W_go f138_32 rfl
theorem f138_35 : fetch 138 35 = some (.aload_n 0, 1, [], .null) := by decide +kernel
theorem w138_35 : Wp d 138 35 [some (.ref a), l1, l2, l3, l4] st h Q = Wp d 138 36 [some (.ref a), l1, l2, l3, l4] (.ref a :: st) h Q := W_go f138_35 rfl
theorem f138_36 : fetch 138 36 = some (.iload_n 1, 1, [], .null) := by decide +kernel
theorem w138_36 : Wp d 138 36 [l0, some (.int x), l2, l3, l4] st h Q = Wp d 138 37 [l0, some (.int x), l2, l3, l4] (.int x :: st) h Q := W_go f138_36 rfl
theorem f138_37 : fetch 138 37 = some (.iload_n 3, 1, [], .null) := by decide +kernel
theorem w138_37 : Wp d 138 37 [l0, l1, l2, some (.int x), l4] st h Q = Wp d 138 38 [l0, l1, l2, some (.int x), l4] (.int x :: st) h Q := W_go f138_37 rfl
theorem f138_38 : fetch 138 38 = some (.invokevirtual 190, 3, [135, 3, 10, 0, 7178, 1015, 7181, 7180, 71], .null) := by decide +kernel
theorem w138_38 (hp : psum st ≤ 8) : Wp d 138 38 [l0, l1, l2, l3, l4] (v2 :: v1 :: (.ref b) :: st) h Q = rP (h.2 b) 9 (Cp d 135 [(.ref b), v1, v2] h (fun o => cK o (fun w h2 => Wp d 138 41 [l0, l1, l2, l3, l4] (w.toList ++ st) h2 Q) (fun E h2 => Q (.inr E, h2)))) := (W_invV (st := st) f138_38 rfl rfl (by simp only [List.length_cons]; omega) rfl rfl hp).trans (by simp only [hm138, if_true])
theorem f138_41 : fetch 138 41 = some (.istore 4, 2, [], .null) := by decide +kernel
theorem w138_41 : Wp d 138 41 [l0, l1, l2, l3, l4] (.int x :: st) h Q = Wp d 138 43 [l0, l1, l2, kl l3, some (.int x)] st h Q := (W_st1 (pc' := 43) (k := 4) f138_41 rfl rfl (by simp only [List.length_cons, List.length_nil]; omega)).trans (by rw [pst1_succ]; rfl)
theorem f138_43 : fetch 138 43 = some (.iload 4, 2, [], .null) := by decide +kernel
theorem w138_43 : Wp d 138 43 [l0, l1, l2, l3, some (.int x)] st h Q = Wp d 138 45 [l0, l1, l2, l3, some (.int x)] (.int x :: st) h Q := W_go f138_43 rfl
theorem f138_45 : fetch 138 45 = some (.ifCond .le 19, 3, [], .null) := by decide +kernel
theorem w138_45 : Wp d 138 45 [l0, l1, l2, l3, l4] (.int x :: st) h Q = if icond .le x 0 = true then Wp d 138 64 [l0, l1, l2, l3, l4] st h Q else Wp d 138 48 [l0, l1, l2, l3, l4] st h Q := W_if f138_45 rfl
theorem f138_48 : fetch 138 48 = some (.aload_n 0, 1, [], .null) := by decide +kernel
theorem w138_48 : Wp d 138 48 [some (.ref a), l1, l2, l3, l4] st h Q = Wp d 138 49 [some (.ref a), l1, l2, l3, l4] (.ref a :: st) h Q := W_go f138_48 rfl
theorem f138_49 : fetch 138 49 = some (.getfield 41, 3, [9, 12, 6061, 0], .null) := by decide +kernel
theorem w138_49 : Wp d 138 49 [l0, l1, l2, l3, l4] (.ref a :: st) h Q = gP (h.2 a) 9 12 (fun w => Wp d 138 52 [l0, l1, l2, l3, l4] (w :: st) h Q) := W_get f138_49 rfl
theorem f138_52 : fetch 138 52 = some (.iload_n 1, 1, [], .null) := by decide +kernel
theorem w138_52 : Wp d 138 52 [l0, some (.int x), l2, l3, l4] st h Q = Wp d 138 53 [l0, some (.int x), l2, l3, l4] (.int x :: st) h Q := W_go f138_52 rfl
theorem f138_53 : fetch 138 53 = some (.iload_n 3, 1, [], .null) := by decide +kernel
theorem w138_53 : Wp d 138 53 [l0, l1, l2, some (.int x), l4] st h Q = Wp d 138 54 [l0, l1, l2, some (.int x), l4] (.int x :: st) h Q := W_go f138_53 rfl
theorem f138_54 : fetch 138 54 = some (.iastore, 1, [], .null) := by decide +kernel
theorem w138_54 : Wp d 138 54 [l0, l1, l2, l3, l4] (.int y :: .int x :: .ref a :: st) h Q = asP false (h.2 a) a x y (fun c => Wp d 138 55 [l0, l1, l2, l3, l4] st (hset h a c) Q) := W_ast f138_54 rfl
theorem f138_55 : fetch 138 55 = some (.aload_n 0, 1, [], .null) := by decide +kernel
theorem w138_55 : Wp d 138 55 [some (.ref a), l1, l2, l3, l4] st h Q = Wp d 138 56 [some (.ref a), l1, l2, l3, l4] (.ref a :: st) h Q := W_go f138_55 rfl
theorem f138_56 : fetch 138 56 = some (.getfield 44, 3, [9, 13, 6063, 0], .null) := by decide +kernel
theorem w138_56 : Wp d 138 56 [l0, l1, l2, l3, l4] (.ref a :: st) h Q = gP (h.2 a) 9 13 (fun w => Wp d 138 59 [l0, l1, l2, l3, l4] (w :: st) h Q) := W_get f138_56 rfl
theorem f138_59 : fetch 138 59 = some (.iload_n 1, 1, [], .null) := by decide +kernel
theorem w138_59 : Wp d 138 59 [l0, some (.int x), l2, l3, l4] st h Q = Wp d 138 60 [l0, some (.int x), l2, l3, l4] (.int x :: st) h Q := W_go f138_59 rfl
theorem f138_60 : fetch 138 60 = some (.iload 4, 2, [], .null) := by decide +kernel
theorem w138_60 : Wp d 138 60 [l0, l1, l2, l3, some (.int x)] st h Q = Wp d 138 62 [l0, l1, l2, l3, some (.int x)] (.int x :: st) h Q := W_go f138_60 rfl
theorem f138_62 : fetch 138 62 = some (.iastore, 1, [], .null) := by decide +kernel
theorem w138_62 : Wp d 138 62 [l0, l1, l2, l3, l4] (.int y :: .int x :: .ref a :: st) h Q = asP false (h.2 a) a x y (fun c => Wp d 138 63 [l0, l1, l2, l3, l4] st (hset h a c) Q) := W_ast f138_62 rfl
theorem f138_63 : fetch 138 63 = some (.return_, 1, [], .null) := by decide +kernel
theorem w138_63 : Wp d 138 63 [l0, l1, l2, l3, l4] [] h Q = Q (.inl none, h) := W_fin f138_63 rfl
theorem f138_64 : fetch 138 64 = some (.iinc 2 1, 3, [], .null) := by decide +kernel
theorem w138_64 : Wp d 138 64 [l0, l1, some (.int x), l3, l4] st h Q = Wp d 138 67 [l0, kl l1, some (.int (x + (1 : Int32))), l3, l4] st h Q := (W_iinc (y := (1 : Int32)) f138_64 rfl (by simp only [List.length_cons, List.length_nil]; omega) (by decide)).trans (by rw [pst1_succ]; rfl)
theorem f138_67 : fetch 138 67 = some (.iload_n 2, 1, [], .null) := by decide +kernel
theorem w138_67 : Wp d 138 67 [l0, l1, some (.int x), l3, l4] st h Q = Wp d 138 68 [l0, l1, some (.int x), l3, l4] (.int x :: st) h Q := W_go f138_67 rfl
theorem f138_68 : fetch 138 68 = some (.bipush 30, 2, [], .null) := by decide +kernel
theorem w138_68 : Wp d 138 68 [l0, l1, l2, l3, l4] st h Q = Wp d 138 70 [l0, l1, l2, l3, l4] (.int (30 : Int32) :: st) h Q := W_go f138_68 rfl
theorem f138_70 : fetch 138 70 = some (.if_icmp .ne 8, 3, [], .null) := by decide +kernel
theorem w138_70 : Wp d 138 70 [l0, l1, l2, l3, l4] (.int y :: .int x :: st) h Q = if icond .ne x y = true then Wp d 138 78 [l0, l1, l2, l3, l4] st h Q else Wp d 138 73 [l0, l1, l2, l3, l4] st h Q := W_if f138_70 rfl
theorem f138_73 : fetch 138 73 = some (.aload_n 0, 1, [], .null) := by decide +kernel
theorem w138_73 : Wp d 138 73 [some (.ref a), l1, l2, l3, l4] st h Q = Wp d 138 74 [some (.ref a), l1, l2, l3, l4] (.ref a :: st) h Q := W_go f138_73 rfl
theorem f138_74 : fetch 138 74 = some (.iload_n 1, 1, [], .null) := by decide +kernel
theorem w138_74 : Wp d 138 74 [l0, some (.int x), l2, l3, l4] st h Q = Wp d 138 75 [l0, some (.int x), l2, l3, l4] (.int x :: st) h Q := W_go f138_74 rfl
theorem f138_75 : fetch 138 75 = some (.invokevirtual 108, 3, [129, 2, 10, 0, 6127, 1015, 6130, 6129, 34], .null) := by decide +kernel
theorem w138_75 (hp : psum st ≤ 8) : Wp d 138 75 [l0, l1, l2, l3, l4] (v1 :: (.ref b) :: st) h Q = rP (h.2 b) 9 (Cp d 129 [(.ref b), v1] h (fun o => cK o (fun w h2 => Wp d 138 78 [l0, l1, l2, l3, l4] (w.toList ++ st) h2 Q) (fun E h2 => Q (.inr E, h2)))) := (W_invV (st := st) f138_75 rfl rfl (by simp only [List.length_cons]; omega) rfl rfl hp).trans (by simp only [hm138, if_true])
theorem f138_78 : fetch 138 78 = some (.goto (-76), 3, [], .null) := by decide +kernel
theorem w138_78 : Wp d 138 78 [l0, l1, l2, l3, l4] st h Q = Wp d 138 2 [l0, l1, l2, l3, l4] st h Q := W_go f138_78 rfl
theorem f138_81 : fetch 138 81 = some (.return_, 1, [], .null) := by decide +kernel
theorem w138_81 : Wp d 138 81 [l0, l1, l2, l3, l4] [] h Q = Q (.inl none, h) := W_fin f138_81 rfl
theorem hm139 : mhs 139 = [] := by decide +kernel
theorem f139_0 : fetch 139 0 = some (.aload_n 0, 1, [], .null) := by decide +kernel
theorem w139_0 : Wp d 139 0 [some (.ref a), l1, l2, l3, l4] st h Q = Wp d 139 1 [some (.ref a), l1, l2, l3, l4] (.ref a :: st) h Q := W_go f139_0 rfl
theorem f139_1 : fetch 139 1 = some (.getfield 3, 3, [9, 20, 6074, 0], .null) := by decide +kernel
theorem w139_1 : Wp d 139 1 [l0, l1, l2, l3, l4] (.ref a :: st) h Q = gP (h.2 a) 9 20 (fun w => Wp d 139 4 [l0, l1, l2, l3, l4] (w :: st) h Q) := W_get f139_1 rfl
theorem f139_4 : fetch 139 4 = some (.getfield 89, 3, [10, 10, 6142, 1], .null) := by decide +kernel
theorem w139_4 : Wp d 139 4 [l0, l1, l2, l3, l4] (.ref a :: st) h Q = gP (h.2 a) 10 10 (fun w => Wp d 139 7 [l0, l1, l2, l3, l4] (w :: st) h Q) := W_get f139_4 rfl
theorem f139_7 : fetch 139 7 = some (.aload_n 0, 1, [], .null) := by decide +kernel
theorem w139_7 : Wp d 139 7 [some (.ref a), l1, l2, l3, l4] st h Q = Wp d 139 8 [some (.ref a), l1, l2, l3, l4] (.ref a :: st) h Q := W_go f139_7 rfl
theorem f139_8 : fetch 139 8 = some (.getfield 35, 3, [9, 10, 6057, 0], .null) := by decide +kernel
theorem w139_8 : Wp d 139 8 [l0, l1, l2, l3, l4] (.ref a :: st) h Q = gP (h.2 a) 9 10 (fun w => Wp d 139 11 [l0, l1, l2, l3, l4] (w :: st) h Q) := W_get f139_8 rfl
theorem f139_11 : fetch 139 11 = some (.iload_n 1, 1, [], .null) := by decide +kernel
theorem w139_11 : Wp d 139 11 [l0, some (.int x), l2, l3, l4] st h Q = Wp d 139 12 [l0, some (.int x), l2, l3, l4] (.int x :: st) h Q := W_go f139_11 rfl
theorem f139_12 : fetch 139 12 = some (.iaload, 1, [], .null) := by decide +kernel
theorem w139_12 : Wp d 139 12 [l0, l1, l2, l3, l4] (.int x :: .ref a :: st) h Q = aP false (h.2 a) x (fun w => Wp d 139 13 [l0, l1, l2, l3, l4] (.int w :: st) h Q) := W_ald f139_12 rfl
theorem f139_13 : fetch 139 13 = some (.invokevirtual 125, 3, [119, 2, 9, 0, 7190, 1014, 7193, 7191, 7192], .null) := by decide +kernel
theorem w139_13 (hp : psum st ≤ 8) : Wp d 139 13 [l0, l1, l2, l3, l4] (v1 :: (.ref b) :: st) h Q = rP (h.2 b) 8 (Cp d 119 [(.ref b), v1] h (fun o => cK o (fun w h2 => Wp d 139 16 [l0, l1, l2, l3, l4] (w.toList ++ st) h2 Q) (fun E h2 => Q (.inr E, h2)))) := (W_invV (st := st) f139_13 rfl rfl (by simp only [List.length_cons]; omega) rfl rfl hp).trans (by simp only [hm139, if_true])
theorem f139_16 : fetch 139 16 = some (.istore_n 3, 1, [], .null) := by decide +kernel
theorem w139_16 : Wp d 139 16 [l0, l1, l2, l3, l4] (.int x :: st) h Q = Wp d 139 17 [l0, l1, kl l2, some (.int x), l4] st h Q := (W_st1 (pc' := 17) (k := 3) f139_16 rfl rfl (by simp only [List.length_cons, List.length_nil]; omega)).trans (by rw [pst1_succ]; rfl)
theorem f139_17 : fetch 139 17 = some (.aload_n 0, 1, [], .null) := by decide +kernel
theorem w139_17 : Wp d 139 17 [some (.ref a), l1, l2, l3, l4] st h Q = Wp d 139 18 [some (.ref a), l1, l2, l3, l4] (.ref a :: st) h Q := W_go f139_17 rfl
theorem f139_18 : fetch 139 18 = some (.getfield 3, 3, [9, 20, 6074, 0], .null) := by decide +kernel
theorem w139_18 : Wp d 139 18 [l0, l1, l2, l3, l4] (.ref a :: st) h Q = gP (h.2 a) 9 20 (fun w => Wp d 139 21 [l0, l1, l2, l3, l4] (w :: st) h Q) := W_get f139_18 rfl
theorem f139_21 : fetch 139 21 = some (.getfield 89, 3, [10, 10, 6142, 1], .null) := by decide +kernel
theorem w139_21 : Wp d 139 21 [l0, l1, l2, l3, l4] (.ref a :: st) h Q = gP (h.2 a) 10 10 (fun w => Wp d 139 24 [l0, l1, l2, l3, l4] (w :: st) h Q) := W_get f139_21 rfl
theorem f139_24 : fetch 139 24 = some (.getfield 151, 3, [8, 10, 5194, 1], .null) := by decide +kernel
theorem w139_24 : Wp d 139 24 [l0, l1, l2, l3, l4] (.ref a :: st) h Q = gP (h.2 a) 8 10 (fun w => Wp d 139 27 [l0, l1, l2, l3, l4] (w :: st) h Q) := W_get f139_24 rfl
theorem f139_27 : fetch 139 27 = some (.iload_n 2, 1, [], .null) := by decide +kernel
theorem w139_27 : Wp d 139 27 [l0, l1, some (.int x), l3, l4] st h Q = Wp d 139 28 [l0, l1, some (.int x), l3, l4] (.int x :: st) h Q := W_go f139_27 rfl
theorem f139_28 : fetch 139 28 = some (.iaload, 1, [], .null) := by decide +kernel
theorem w139_28 : Wp d 139 28 [l0, l1, l2, l3, l4] (.int x :: .ref a :: st) h Q = aP false (h.2 a) x (fun w => Wp d 139 29 [l0, l1, l2, l3, l4] (.int w :: st) h Q) := W_ald f139_28 rfl
theorem f139_29 : fetch 139 29 = some (.bipush 10, 2, [], .null) := by decide +kernel
theorem w139_29 : Wp d 139 29 [l0, l1, l2, l3, l4] st h Q = Wp d 139 31 [l0, l1, l2, l3, l4] (.int (10 : Int32) :: st) h Q := W_go f139_29 rfl
theorem f139_31 : fetch 139 31 = some (.if_icmp .ne 32, 3, [], .null) := by decide +kernel
theorem w139_31 : Wp d 139 31 [l0, l1, l2, l3, l4] (.int y :: .int x :: st) h Q = if icond .ne x y = true then Wp d 139 63 [l0, l1, l2, l3, l4] st h Q else Wp d 139 34 [l0, l1, l2, l3, l4] st h Q := W_if f139_31 rfl
theorem f139_34 : fetch 139 34 = some (.aload_n 0, 1, [], .null) := by decide +kernel
theorem w139_34 : Wp d 139 34 [some (.ref a), l1, l2, l3, l4] st h Q = Wp d 139 35 [some (.ref a), l1, l2, l3, l4] (.ref a :: st) h Q := W_go f139_34 rfl
theorem f139_35 : fetch 139 35 = some (.getfield 35, 3, [9, 10, 6057, 0], .null) := by decide +kernel
theorem w139_35 : Wp d 139 35 [l0, l1, l2, l3, l4] (.ref a :: st) h Q = gP (h.2 a) 9 10 (fun w => Wp d 139 38 [l0, l1, l2, l3, l4] (w :: st) h Q) := W_get f139_35 rfl
theorem f139_38 : fetch 139 38 = some (.iload_n 1, 1, [], .null) := by decide +kernel
theorem w139_38 : Wp d 139 38 [l0, some (.int x), l2, l3, l4] st h Q = Wp d 139 39 [l0, some (.int x), l2, l3, l4] (.int x :: st) h Q := W_go f139_38 rfl
theorem f139_39 : fetch 139 39 = some (.aload_n 0, 1, [], .null) := by decide +kernel
theorem w139_39 : Wp d 139 39 [some (.ref a), l1, l2, l3, l4] st h Q = Wp d 139 40 [some (.ref a), l1, l2, l3, l4] (.ref a :: st) h Q := W_go f139_39 rfl
theorem f139_40 : fetch 139 40 = some (.getfield 3, 3, [9, 20, 6074, 0], .null) := by decide +kernel
theorem w139_40 : Wp d 139 40 [l0, l1, l2, l3, l4] (.ref a :: st) h Q = gP (h.2 a) 9 20 (fun w => Wp d 139 43 [l0, l1, l2, l3, l4] (w :: st) h Q) := W_get f139_40 rfl
theorem f139_43 : fetch 139 43 = some (.getfield 89, 3, [10, 10, 6142, 1], .null) := by decide +kernel
theorem w139_43 : Wp d 139 43 [l0, l1, l2, l3, l4] (.ref a :: st) h Q = gP (h.2 a) 10 10 (fun w => Wp d 139 46 [l0, l1, l2, l3, l4] (w :: st) h Q) := W_get f139_43 rfl
theorem f139_46 : fetch 139 46 = some (.getfield 161, 3, [8, 3, 5179, 1], .null) := by decide +kernel
theorem w139_46 : Wp d 139 46 [l0, l1, l2, l3, l4] (.ref a :: st) h Q = gP (h.2 a) 8 3 (fun w => Wp d 139 49 [l0, l1, l2, l3, l4] (w :: st) h Q) := W_get f139_46 rfl
theorem f139_49 : fetch 139 49 = some (.aload_n 0, 1, [], .null) := by decide +kernel
theorem w139_49 : Wp d 139 49 [some (.ref a), l1, l2, l3, l4] st h Q = Wp d 139 50 [some (.ref a), l1, l2, l3, l4] (.ref a :: st) h Q := W_go f139_49 rfl
theorem f139_50 : fetch 139 50 = some (.getfield 3, 3, [9, 20, 6074, 0], .null) := by decide +kernel
theorem w139_50 : Wp d 139 50 [l0, l1, l2, l3, l4] (.ref a :: st) h Q = gP (h.2 a) 9 20 (fun w => Wp d 139 53 [l0, l1, l2, l3, l4] (w :: st) h Q) := W_get f139_50 rfl
theorem f139_53 : fetch 139 53 = some (.getfield 89, 3, [10, 10, 6142, 1], .null) := by decide +kernel
theorem w139_53 : Wp d 139 53 [l0, l1, l2, l3, l4] (.ref a :: st) h Q = gP (h.2 a) 10 10 (fun w => Wp d 139 56 [l0, l1, l2, l3, l4] (w :: st) h Q) := W_get f139_53 rfl
theorem f139_56 : fetch 139 56 = some (.getfield 164, 3, [8, 13, 5203, 1], .null) := by decide +kernel
theorem w139_56 : Wp d 139 56 [l0, l1, l2, l3, l4] (.ref a :: st) h Q = gP (h.2 a) 8 13 (fun w => Wp d 139 59 [l0, l1, l2, l3, l4] (w :: st) h Q) := W_get f139_56 rfl
theorem f139_59 : fetch 139 59 = some (.iload_n 2, 1, [], .null) := by decide +kernel
theorem w139_59 : Wp d 139 59 [l0, l1, some (.int x), l3, l4] st h Q = Wp d 139 60 [l0, l1, some (.int x), l3, l4] (.int x :: st) h Q := W_go f139_59 rfl
theorem f139_60 : fetch 139 60 = some (.iaload, 1, [], .null) := by decide +kernel
theorem w139_60 : Wp d 139 60 [l0, l1, l2, l3, l4] (.int x :: .ref a :: st) h Q = aP false (h.2 a) x (fun w => Wp d 139 61 [l0, l1, l2, l3, l4] (.int w :: st) h Q) := W_ald f139_60 rfl
theorem f139_61 : fetch 139 61 = some (.iaload, 1, [], .null) := by decide +kernel
theorem w139_61 : Wp d 139 61 [l0, l1, l2, l3, l4] (.int x :: .ref a :: st) h Q = aP false (h.2 a) x (fun w => Wp d 139 62 [l0, l1, l2, l3, l4] (.int w :: st) h Q) := W_ald f139_61 rfl
theorem f139_62 : fetch 139 62 = some (.iastore, 1, [], .null) := by decide +kernel
theorem w139_62 : Wp d 139 62 [l0, l1, l2, l3, l4] (.int y :: .int x :: .ref a :: st) h Q = asP false (h.2 a) a x y (fun c => Wp d 139 63 [l0, l1, l2, l3, l4] st (hset h a c) Q) := W_ast f139_62 rfl
theorem f139_63 : fetch 139 63 = some (.aload_n 0, 1, [], .null) := by decide +kernel
theorem w139_63 : Wp d 139 63 [some (.ref a), l1, l2, l3, l4] st h Q = Wp d 139 64 [some (.ref a), l1, l2, l3, l4] (.ref a :: st) h Q := W_go f139_63 rfl
theorem f139_64 : fetch 139 64 = some (.getfield 3, 3, [9, 20, 6074, 0], .null) := by decide +kernel
theorem w139_64 : Wp d 139 64 [l0, l1, l2, l3, l4] (.ref a :: st) h Q = gP (h.2 a) 9 20 (fun w => Wp d 139 67 [l0, l1, l2, l3, l4] (w :: st) h Q) := W_get f139_64 rfl
theorem f139_67 : fetch 139 67 = some (.getfield 89, 3, [10, 10, 6142, 1], .null) := by decide +kernel
theorem w139_67 : Wp d 139 67 [l0, l1, l2, l3, l4] (.ref a :: st) h Q = gP (h.2 a) 10 10 (fun w => Wp d 139 70 [l0, l1, l2, l3, l4] (w :: st) h Q) := W_get f139_67 rfl
theorem f139_70 : fetch 139 70 = some (.getfield 151, 3, [8, 10, 5194, 1], .null) := by decide +kernel
theorem w139_70 : Wp d 139 70 [l0, l1, l2, l3, l4] (.ref a :: st) h Q = gP (h.2 a) 8 10 (fun w => Wp d 139 73 [l0, l1, l2, l3, l4] (w :: st) h Q) := W_get f139_70 rfl
theorem f139_73 : fetch 139 73 = some (.iload_n 2, 1, [], .null) := by decide +kernel
theorem w139_73 : Wp d 139 73 [l0, l1, some (.int x), l3, l4] st h Q = Wp d 139 74 [l0, l1, some (.int x), l3, l4] (.int x :: st) h Q := W_go f139_73 rfl
theorem f139_74 : fetch 139 74 = some (.iaload, 1, [], .null) := by decide +kernel
theorem w139_74 : Wp d 139 74 [l0, l1, l2, l3, l4] (.int x :: .ref a :: st) h Q = aP false (h.2 a) x (fun w => Wp d 139 75 [l0, l1, l2, l3, l4] (.int w :: st) h Q) := W_ald f139_74 rfl
theorem f139_75 : fetch 139 75 = some (.bipush 10, 2, [], .null) := by decide +kernel
theorem w139_75 : Wp d 139 75 [l0, l1, l2, l3, l4] st h Q = Wp d 139 77 [l0, l1, l2, l3, l4] (.int (10 : Int32) :: st) h Q := W_go f139_75 rfl
theorem f139_77 : fetch 139 77 = some (.if_icmp .eq 25, 3, [], .null) := by decide +kernel
theorem w139_77 : Wp d 139 77 [l0, l1, l2, l3, l4] (.int y :: .int x :: st) h Q = if icond .eq x y = true then Wp d 139 102 [l0, l1, l2, l3, l4] st h Q else Wp d 139 80 [l0, l1, l2, l3, l4] st h Q := W_if f139_77 rfl
theorem f139_80 : fetch 139 80 = some (.aload_n 0, 1, [], .null) := by decide +kernel
theorem w139_80 : Wp d 139 80 [some (.ref a), l1, l2, l3, l4] st h Q = Wp d 139 81 [some (.ref a), l1, l2, l3, l4] (.ref a :: st) h Q := W_go f139_80 rfl
theorem f139_81 : fetch 139 81 = some (.getfield 3, 3, [9, 20, 6074, 0], .null) := by decide +kernel
theorem w139_81 : Wp d 139 81 [l0, l1, l2, l3, l4] (.ref a :: st) h Q = gP (h.2 a) 9 20 (fun w => Wp d 139 84 [l0, l1, l2, l3, l4] (w :: st) h Q) := W_get f139_81 rfl
theorem f139_84 : fetch 139 84 = some (.getfield 89, 3, [10, 10, 6142, 1], .null) := by decide +kernel
theorem w139_84 : Wp d 139 84 [l0, l1, l2, l3, l4] (.ref a :: st) h Q = gP (h.2 a) 10 10 (fun w => Wp d 139 87 [l0, l1, l2, l3, l4] (w :: st) h Q) := W_get f139_84 rfl
theorem f139_87 : fetch 139 87 = some (.getfield 151, 3, [8, 10, 5194, 1], .null) := by decide +kernel
theorem w139_87 : Wp d 139 87 [l0, l1, l2, l3, l4] (.ref a :: st) h Q = gP (h.2 a) 8 10 (fun w => Wp d 139 90 [l0, l1, l2, l3, l4] (w :: st) h Q) := W_get f139_87 rfl
theorem f139_90 : fetch 139 90 = some (.iload_n 2, 1, [], .null) := by decide +kernel
theorem w139_90 : Wp d 139 90 [l0, l1, some (.int x), l3, l4] st h Q = Wp d 139 91 [l0, l1, some (.int x), l3, l4] (.int x :: st) h Q := W_go f139_90 rfl
theorem f139_91 : fetch 139 91 = some (.iaload, 1, [], .null) := by decide +kernel
theorem w139_91 : Wp d 139 91 [l0, l1, l2, l3, l4] (.int x :: .ref a :: st) h Q = aP false (h.2 a) x (fun w => Wp d 139 92 [l0, l1, l2, l3, l4] (.int w :: st) h Q) := W_ald f139_91 rfl
theorem f139_92 : fetch 139 92 = some (.bipush 8, 2, [], .null) := by decide +kernel
theorem w139_92 : Wp d 139 92 [l0, l1, l2, l3, l4] st h Q = Wp d 139 94 [l0, l1, l2, l3, l4] (.int (8 : Int32) :: st) h Q := W_go f139_92 rfl
theorem f139_94 : fetch 139 94 = some (.if_icmp .eq 8, 3, [], .null) := by decide +kernel
theorem w139_94 : Wp d 139 94 [l0, l1, l2, l3, l4] (.int y :: .int x :: st) h Q = if icond .eq x y = true then Wp d 139 102 [l0, l1, l2, l3, l4] st h Q else Wp d 139 97 [l0, l1, l2, l3, l4] st h Q := W_if f139_94 rfl
theorem f139_97 : fetch 139 97 = some (.iload_n 3, 1, [], .null) := by decide +kernel
theorem w139_97 : Wp d 139 97 [l0, l1, l2, some (.int x), l4] st h Q = Wp d 139 98 [l0, l1, l2, some (.int x), l4] (.int x :: st) h Q := W_go f139_97 rfl
theorem f139_98 : fetch 139 98 = some (.iconst (-1), 1, [], .null) := by decide +kernel
theorem w139_98 : Wp d 139 98 [l0, l1, l2, l3, l4] st h Q = Wp d 139 99 [l0, l1, l2, l3, l4] (.int (-1 : Int32) :: st) h Q := W_go f139_98 rfl
theorem f139_99 : fetch 139 99 = some (.if_icmp .ne 4, 3, [], .null) := by decide +kernel
theorem w139_99 : Wp d 139 99 [l0, l1, l2, l3, l4] (.int y :: .int x :: st) h Q = if icond .ne x y = true then Wp d 139 103 [l0, l1, l2, l3, l4] st h Q else Wp d 139 102 [l0, l1, l2, l3, l4] st h Q := W_if f139_99 rfl
theorem f139_102 : fetch 139 102 = some (.return_, 1, [], .null) := by decide +kernel
theorem w139_102 : Wp d 139 102 [l0, l1, l2, l3, l4] [] h Q = Q (.inl none, h) := W_fin f139_102 rfl
theorem f139_103 : fetch 139 103 = some (.aload_n 0, 1, [], .null) := by decide +kernel
theorem w139_103 : Wp d 139 103 [some (.ref a), l1, l2, l3, l4] st h Q = Wp d 139 104 [some (.ref a), l1, l2, l3, l4] (.ref a :: st) h Q := W_go f139_103 rfl
theorem f139_104 : fetch 139 104 = some (.getfield 3, 3, [9, 20, 6074, 0], .null) := by decide +kernel
theorem w139_104 : Wp d 139 104 [l0, l1, l2, l3, l4] (.ref a :: st) h Q = gP (h.2 a) 9 20 (fun w => Wp d 139 107 [l0, l1, l2, l3, l4] (w :: st) h Q) := W_get f139_104 rfl
theorem f139_107 : fetch 139 107 = some (.getfield 89, 3, [10, 10, 6142, 1], .null) := by decide +kernel
theorem w139_107 : Wp d 139 107 [l0, l1, l2, l3, l4] (.ref a :: st) h Q = gP (h.2 a) 10 10 (fun w => Wp d 139 110 [l0, l1, l2, l3, l4] (w :: st) h Q) := W_get f139_107 rfl
theorem f139_110 : fetch 139 110 = some (.getfield 151, 3, [8, 10, 5194, 1], .null) := by decide +kernel
theorem w139_110 : Wp d 139 110 [l0, l1, l2, l3, l4] (.ref a :: st) h Q = gP (h.2 a) 8 10 (fun w => Wp d 139 113 [l0, l1, l2, l3, l4] (w :: st) h Q) := W_get f139_110 rfl
theorem f139_113 : fetch 139 113 = some (.iload_n 2, 1, [], .null) := by decide +kernel
theorem w139_113 : Wp d 139 113 [l0, l1, some (.int x), l3, l4] st h Q = Wp d 139 114 [l0, l1, some (.int x), l3, l4] (.int x :: st) h Q := W_go f139_113 rfl
theorem f139_114 : fetch 139 114 = some (.iaload, 1, [], .null) := by decide +kernel
theorem w139_114 : Wp d 139 114 [l0, l1, l2, l3, l4] (.int x :: .ref a :: st) h Q = aP false (h.2 a) x (fun w => Wp d 139 115 [l0, l1, l2, l3, l4] (.int w :: st) h Q) := W_ald f139_114 rfl
theorem f139_115 : fetch 139 115 = some (.iconst 4, 1, [], .null) := by decide +kernel
theorem w139_115 : Wp d 139 115 [l0, l1, l2, l3, l4] st h Q = Wp d 139 116 [l0, l1, l2, l3, l4] (.int (4 : Int32) :: st) h Q := W_go f139_115 rfl
theorem f139_116 : fetch 139 116 = some (.if_icmp .ne 9, 3, [], .null) := by decide +kernel
theorem w139_116 : Wp d 139 116 [l0, l1, l2, l3, l4] (.int y :: .int x :: st) h Q = if icond .ne x y = true then Wp d 139 125 [l0, l1, l2, l3, l4] st h Q else Wp d 139 119 [l0, l1, l2, l3, l4] st h Q := W_if f139_116 rfl
theorem f139_119 : fetch 139 119 = some (.aload_n 0, 1, [], .null) := by decide +kernel
theorem w139_119 : Wp d 139 119 [some (.ref a), l1, l2, l3, l4] st h Q = Wp d 139 120 [some (.ref a), l1, l2, l3, l4] (.ref a :: st) h Q := W_go f139_119 rfl
theorem f139_120 : fetch 139 120 = some (.iload_n 3, 1, [], .null) := by decide +kernel
theorem w139_120 : Wp d 139 120 [l0, l1, l2, some (.int x), l4] st h Q = Wp d 139 121 [l0, l1, l2, some (.int x), l4] (.int x :: st) h Q := W_go f139_120 rfl
theorem f139_121 : fetch 139 121 = some (.invokevirtual 193, 3, [125, 2, 10, 0, 7208, 1015, 7128, 7126, 7127], .null) := by decide +kernel
theorem w139_121 (hp : psum st ≤ 8) : Wp d 139 121 [l0, l1, l2, l3, l4] (v1 :: (.ref b) :: st) h Q = rP (h.2 b) 9 (Cp d 125 [(.ref b), v1] h (fun o => cK o (fun w h2 => Wp d 139 124 [l0, l1, l2, l3, l4] (w.toList ++ st) h2 Q) (fun E h2 => Q (.inr E, h2)))) := (W_invV (st := st) f139_121 rfl rfl (by simp only [List.length_cons]; omega) rfl rfl hp).trans (by simp only [hm139, if_true])
theorem f139_124 : fetch 139 124 = some (.pop, 1, [], .null) := by decide +kernel
theorem w139_124i : Wp d 139 124 [l0, l1, l2, l3, l4] (.int x :: st) h Q = Wp d 139 125 [l0, l1, l2, l3, l4] st h Q := W_go f139_124 rfl
theorem w139_124 : Wp d 139 124 [l0, l1, l2, l3, l4] (.ref a :: st) h Q = Wp d 139 125 [l0, l1, l2, l3, l4] st h Q := W_go f139_124 rfl
theorem f139_125 : fetch 139 125 = some (.aload_n 0, 1, [], .null) := by decide +kernel
theorem w139_125 : Wp d 139 125 [some (.ref a), l1, l2, l3, l4] st h Q = Wp d 139 126 [some (.ref a), l1, l2, l3, l4] (.ref a :: st) h Q := W_go f139_125 rfl
theorem f139_126 : fetch 139 126 = some (.getfield 3, 3, [9, 20, 6074, 0], .null) := by decide +kernel
theorem w139_126 : Wp d 139 126 [l0, l1, l2, l3, l4] (.ref a :: st) h Q = gP (h.2 a) 9 20 (fun w => Wp d 139 129 [l0, l1, l2, l3, l4] (w :: st) h Q) := W_get f139_126 rfl
theorem f139_129 : fetch 139 129 = some (.getfield 89, 3, [10, 10, 6142, 1], .null) := by decide +kernel
theorem w139_129 : Wp d 139 129 [l0, l1, l2, l3, l4] (.ref a :: st) h Q = gP (h.2 a) 10 10 (fun w => Wp d 139 132 [l0, l1, l2, l3, l4] (w :: st) h Q) := W_get f139_129 rfl
theorem f139_132 : fetch 139 132 = some (.getfield 151, 3, [8, 10, 5194, 1], .null) := by decide +kernel
theorem w139_132 : Wp d 139 132 [l0, l1, l2, l3, l4] (.ref a :: st) h Q = gP (h.2 a) 8 10 (fun w => Wp d 139 135 [l0, l1, l2, l3, l4] (w :: st) h Q) := W_get f139_132 rfl
theorem f139_135 : fetch 139 135 = some (.iload_n 2, 1, [], .null) := by decide +kernel
theorem w139_135 : Wp d 139 135 [l0, l1, some (.int x), l3, l4] st h Q = Wp d 139 136 [l0, l1, some (.int x), l3, l4] (.int x :: st) h Q := W_go f139_135 rfl
theorem f139_136 : fetch 139 136 = some (.iaload, 1, [], .null) := by decide +kernel
theorem w139_136 : Wp d 139 136 [l0, l1, l2, l3, l4] (.int x :: .ref a :: st) h Q = aP false (h.2 a) x (fun w => Wp d 139 137 [l0, l1, l2, l3, l4] (.int w :: st) h Q) := W_ald f139_136 rfl
theorem f139_137 : fetch 139 137 = some (.iconst 5, 1, [], .null) := by decide +kernel
theorem w139_137 : Wp d 139 137 [l0, l1, l2, l3, l4] st h Q = Wp d 139 138 [l0, l1, l2, l3, l4] (.int (5 : Int32) :: st) h Q := W_go f139_137 rfl
theorem f139_138 : fetch 139 138 = some (.if_icmp .ne 10, 3, [], .null) := by decide +kernel
theorem w139_138 : Wp d 139 138 [l0, l1, l2, l3, l4] (.int y :: .int x :: st) h Q = if icond .ne x y = true then Wp d 139 148 [l0, l1, l2, l3, l4] st h Q else Wp d 139 141 [l0, l1, l2, l3, l4] st h Q := W_if f139_138 rfl
theorem f139_141 : fetch 139 141 = some (.aload_n 0, 1, [], .null) := by decide +kernel
theorem w139_141 : Wp d 139 141 [some (.ref a), l1, l2, l3, l4] st h Q = Wp d 139 142 [some (.ref a), l1, l2, l3, l4] (.ref a :: st) h Q := W_go f139_141 rfl
theorem f139_142 : fetch 139 142 = some (.getfield 28, 3, [9, 8, 6053, 0], .null) := by decide +kernel
theorem w139_142 : Wp d 139 142 [l0, l1, l2, l3, l4] (.ref a :: st) h Q = gP (h.2 a) 9 8 (fun w => Wp d 139 145 [l0, l1, l2, l3, l4] (w :: st) h Q) := W_get f139_142 rfl
theorem f139_145 : fetch 139 145 = some (.iload_n 3, 1, [], .null) := by decide +kernel
theorem w139_145 : Wp d 139 145 [l0, l1, l2, some (.int x), l4] st h Q = Wp d 139 146 [l0, l1, l2, some (.int x), l4] (.int x :: st) h Q := W_go f139_145 rfl
theorem f139_146 : fetch 139 146 = some (.iconst 0, 1, [], .null) := by decide +kernel
theorem w139_146 : Wp d 139 146 [l0, l1, l2, l3, l4] st h Q = Wp d 139 147 [l0, l1, l2, l3, l4] (.int (0 : Int32) :: st) h Q := W_go f139_146 rfl
theorem f139_147 : fetch 139 147 = some (.bastore, 1, [], .null) := by decide +kernel
theorem w139_147 : Wp d 139 147 [l0, l1, l2, l3, l4] (.int y :: .int x :: .ref a :: st) h Q = asP true (h.2 a) a x y (fun c => Wp d 139 148 [l0, l1, l2, l3, l4] st (hset h a c) Q) := W_ast f139_147 rfl
theorem f139_148 : fetch 139 148 = some (.aload_n 0, 1, [], .null) := by decide +kernel
theorem w139_148 : Wp d 139 148 [some (.ref a), l1, l2, l3, l4] st h Q = Wp d 139 149 [some (.ref a), l1, l2, l3, l4] (.ref a :: st) h Q := W_go f139_148 rfl
theorem f139_149 : fetch 139 149 = some (.getfield 3, 3, [9, 20, 6074, 0], .null) := by decide +kernel
theorem w139_149 : Wp d 139 149 [l0, l1, l2, l3, l4] (.ref a :: st) h Q = gP (h.2 a) 9 20 (fun w => Wp d 139 152 [l0, l1, l2, l3, l4] (w :: st) h Q) := W_get f139_149 rfl
theorem f139_152 : fetch 139 152 = some (.getfield 89, 3, [10, 10, 6142, 1], .null) := by decide +kernel
theorem w139_152 : Wp d 139 152 [l0, l1, l2, l3, l4] (.ref a :: st) h Q = gP (h.2 a) 10 10 (fun w => Wp d 139 155 [l0, l1, l2, l3, l4] (w :: st) h Q) := W_get f139_152 rfl
theorem f139_155 : fetch 139 155 = some (.getfield 151, 3, [8, 10, 5194, 1], .null) := by decide +kernel
theorem w139_155 : Wp d 139 155 [l0, l1, l2, l3, l4] (.ref a :: st) h Q = gP (h.2 a) 8 10 (fun w => Wp d 139 158 [l0, l1, l2, l3, l4] (w :: st) h Q) := W_get f139_155 rfl
theorem f139_158 : fetch 139 158 = some (.iload_n 2, 1, [], .null) := by decide +kernel
theorem w139_158 : Wp d 139 158 [l0, l1, some (.int x), l3, l4] st h Q = Wp d 139 159 [l0, l1, some (.int x), l3, l4] (.int x :: st) h Q := W_go f139_158 rfl
theorem f139_159 : fetch 139 159 = some (.iaload, 1, [], .null) := by decide +kernel
theorem w139_159 : Wp d 139 159 [l0, l1, l2, l3, l4] (.int x :: .ref a :: st) h Q = aP false (h.2 a) x (fun w => Wp d 139 160 [l0, l1, l2, l3, l4] (.int w :: st) h Q) := W_ald f139_159 rfl
theorem f139_160 : fetch 139 160 = some (.bipush 6, 2, [], .null) := by decide +kernel
theorem w139_160 : Wp d 139 160 [l0, l1, l2, l3, l4] st h Q = Wp d 139 162 [l0, l1, l2, l3, l4] (.int (6 : Int32) :: st) h Q := W_go f139_160 rfl
theorem f139_162 : fetch 139 162 = some (.if_icmp .ne 11, 3, [], .null) := by decide +kernel
theorem w139_162 : Wp d 139 162 [l0, l1, l2, l3, l4] (.int y :: .int x :: st) h Q = if icond .ne x y = true then Wp d 139 173 [l0, l1, l2, l3, l4] st h Q else Wp d 139 165 [l0, l1, l2, l3, l4] st h Q := W_if f139_162 rfl
theorem f139_165 : fetch 139 165 = some (.aload_n 0, 1, [], .null) := by decide +kernel
theorem w139_165 : Wp d 139 165 [some (.ref a), l1, l2, l3, l4] st h Q = Wp d 139 166 [some (.ref a), l1, l2, l3, l4] (.ref a :: st) h Q := W_go f139_165 rfl
theorem f139_166 : fetch 139 166 = some (.getfield 19, 3, [9, 5, 6048, 0], .null) := by decide +kernel
theorem w139_166 : Wp d 139 166 [l0, l1, l2, l3, l4] (.ref a :: st) h Q = gP (h.2 a) 9 5 (fun w => Wp d 139 169 [l0, l1, l2, l3, l4] (w :: st) h Q) := W_get f139_166 rfl
theorem f139_169 : fetch 139 169 = some (.iload_n 3, 1, [], .null) := by decide +kernel
theorem w139_169 : Wp d 139 169 [l0, l1, l2, some (.int x), l4] st h Q = Wp d 139 170 [l0, l1, l2, some (.int x), l4] (.int x :: st) h Q := W_go f139_169 rfl
theorem f139_170 : fetch 139 170 = some (.bipush 10, 2, [], .null) := by decide +kernel
theorem w139_170 : Wp d 139 170 [l0, l1, l2, l3, l4] st h Q = Wp d 139 172 [l0, l1, l2, l3, l4] (.int (10 : Int32) :: st) h Q := W_go f139_170 rfl
theorem f139_172 : fetch 139 172 = some (.iastore, 1, [], .null) := by decide +kernel
theorem w139_172 : Wp d 139 172 [l0, l1, l2, l3, l4] (.int y :: .int x :: .ref a :: st) h Q = asP false (h.2 a) a x y (fun c => Wp d 139 173 [l0, l1, l2, l3, l4] st (hset h a c) Q) := W_ast f139_172 rfl
theorem f139_173 : fetch 139 173 = some (.aload_n 0, 1, [], .null) := by decide +kernel
theorem w139_173 : Wp d 139 173 [some (.ref a), l1, l2, l3, l4] st h Q = Wp d 139 174 [some (.ref a), l1, l2, l3, l4] (.ref a :: st) h Q := W_go f139_173 rfl
theorem f139_174 : fetch 139 174 = some (.getfield 3, 3, [9, 20, 6074, 0], .null) := by decide +kernel
theorem w139_174 : Wp d 139 174 [l0, l1, l2, l3, l4] (.ref a :: st) h Q = gP (h.2 a) 9 20 (fun w => Wp d 139 177 [l0, l1, l2, l3, l4] (w :: st) h Q) := W_get f139_174 rfl
theorem f139_177 : fetch 139 177 = some (.getfield 89, 3, [10, 10, 6142, 1], .null) := by decide +kernel
theorem w139_177 : Wp d 139 177 [l0, l1, l2, l3, l4] (.ref a :: st) h Q = gP (h.2 a) 10 10 (fun w => Wp d 139 180 [l0, l1, l2, l3, l4] (w :: st) h Q) := W_get f139_177 rfl
theorem f139_180 : fetch 139 180 = some (.getfield 151, 3, [8, 10, 5194, 1], .null) := by decide +kernel
theorem w139_180 : Wp d 139 180 [l0, l1, l2, l3, l4] (.ref a :: st) h Q = gP (h.2 a) 8 10 (fun w => Wp d 139 183 [l0, l1, l2, l3, l4] (w :: st) h Q) := W_get f139_180 rfl
theorem f139_183 : fetch 139 183 = some (.iload_n 2, 1, [], .null) := by decide +kernel
theorem w139_183 : Wp d 139 183 [l0, l1, some (.int x), l3, l4] st h Q = Wp d 139 184 [l0, l1, some (.int x), l3, l4] (.int x :: st) h Q := W_go f139_183 rfl
theorem f139_184 : fetch 139 184 = some (.iaload, 1, [], .null) := by decide +kernel
theorem w139_184 : Wp d 139 184 [l0, l1, l2, l3, l4] (.int x :: .ref a :: st) h Q = aP false (h.2 a) x (fun w => Wp d 139 185 [l0, l1, l2, l3, l4] (.int w :: st) h Q) := W_ald f139_184 rfl
theorem f139_185 : fetch 139 185 = some (.bipush 7, 2, [], .null) := by decide +kernel
theorem w139_185 : Wp d 139 185 [l0, l1, l2, l3, l4] st h Q = Wp d 139 187 [l0, l1, l2, l3, l4] (.int (7 : Int32) :: st) h Q := W_go f139_185 rfl
theorem f139_187 : fetch 139 187 = some (.if_icmp .eq 4, 3, [], .null) := by decide +kernel
theorem w139_187 : Wp d 139 187 [l0, l1, l2, l3, l4] (.int y :: .int x :: st) h Q = if icond .eq x y = true then Wp d 139 191 [l0, l1, l2, l3, l4] st h Q else Wp d 139 190 [l0, l1, l2, l3, l4] st h Q := W_if f139_187 rfl
theorem f139_190 : fetch 139 190 = some (.return_, 1, [], .null) := by decide +kernel
theorem w139_190 : Wp d 139 190 [l0, l1, l2, l3, l4] [] h Q = Q (.inl none, h) := W_fin f139_190 rfl
theorem f139_191 : fetch 139 191 = some (.iconst 0, 1, [], .null) := by decide +kernel
theorem w139_191 : Wp d 139 191 [l0, l1, l2, l3, l4] st h Q = Wp d 139 192 [l0, l1, l2, l3, l4] (.int (0 : Int32) :: st) h Q := W_go f139_191 rfl
theorem f139_192 : fetch 139 192 = some (.aload_n 0, 1, [], .null) := by decide +kernel
theorem w139_192 : Wp d 139 192 [some (.ref a), l1, l2, l3, l4] st h Q = Wp d 139 193 [some (.ref a), l1, l2, l3, l4] (.ref a :: st) h Q := W_go f139_192 rfl
theorem f139_193 : fetch 139 193 = some (.iload_n 1, 1, [], .null) := by decide +kernel
theorem w139_193 : Wp d 139 193 [l0, some (.int x), l2, l3, l4] st h Q = Wp d 139 194 [l0, some (.int x), l2, l3, l4] (.int x :: st) h Q := W_go f139_193 rfl
theorem f139_194 : fetch 139 194 = some (.aload_n 0, 1, [], .null) := by decide +kernel
theorem w139_194 : Wp d 139 194 [some (.ref a), l1, l2, l3, l4] st h Q = Wp d 139 195 [some (.ref a), l1, l2, l3, l4] (.ref a :: st) h Q := W_go f139_194 rfl
theorem f139_195 : fetch 139 195 = some (.getfield 3, 3, [9, 20, 6074, 0], .null) := by decide +kernel
theorem w139_195 : Wp d 139 195 [l0, l1, l2, l3, l4] (.ref a :: st) h Q = gP (h.2 a) 9 20 (fun w => Wp d 139 198 [l0, l1, l2, l3, l4] (w :: st) h Q) := W_get f139_195 rfl
theorem f139_198 : fetch 139 198 = some (.getfield 89, 3, [10, 10, 6142, 1], .null) := by decide +kernel
theorem w139_198 : Wp d 139 198 [l0, l1, l2, l3, l4] (.ref a :: st) h Q = gP (h.2 a) 10 10 (fun w => Wp d 139 201 [l0, l1, l2, l3, l4] (w :: st) h Q) := W_get f139_198 rfl
theorem f139_201 : fetch 139 201 = some (.getfield 154, 3, [8, 12, 5200, 1], .null) := by decide +kernel
theorem w139_201 : Wp d 139 201 [l0, l1, l2, l3, l4] (.ref a :: st) h Q = gP (h.2 a) 8 12 (fun w => Wp d 139 204 [l0, l1, l2, l3, l4] (w :: st) h Q) := W_get f139_201 rfl
theorem f139_204 : fetch 139 204 = some (.iload_n 2, 1, [], .null) := by decide +kernel
theorem w139_204 : Wp d 139 204 [l0, l1, some (.int x), l3, l4] st h Q = Wp d 139 205 [l0, l1, some (.int x), l3, l4] (.int x :: st) h Q := W_go f139_204 rfl
theorem f139_205 : fetch 139 205 = some (.iaload, 1, [], .null) := by decide +kernel
theorem w139_205 : Wp d 139 205 [l0, l1, l2, l3, l4] (.int x :: .ref a :: st) h Q = aP false (h.2 a) x (fun w => Wp d 139 206 [l0, l1, l2, l3, l4] (.int w :: st) h Q) := W_ald f139_205 rfl
theorem f139_206 : fetch 139 206 = some (.invokevirtual 142, 3, [133, 3, 10, 0, 7182, 1015, 7185, 7184, 72], .null) := by decide +kernel
theorem w139_206 (hp : psum st ≤ 8) : Wp d 139 206 [l0, l1, l2, l3, l4] (v2 :: v1 :: (.ref b) :: st) h Q = rP (h.2 b) 9 (Cp d 133 [(.ref b), v1, v2] h (fun o => cK o (fun w h2 => Wp d 139 209 [l0, l1, l2, l3, l4] (w.toList ++ st) h2 Q) (fun E h2 => Q (.inr E, h2)))) := (W_invV (st := st) f139_206 rfl rfl (by simp only [List.length_cons]; omega) rfl rfl hp).trans (by simp only [hm139, if_true])
theorem f139_209 : fetch 139 209 = some (.aload_n 0, 1, [], .null) := by decide +kernel
theorem w139_209 : Wp d 139 209 [some (.ref a), l1, l2, l3, l4] st h Q = Wp d 139 210 [some (.ref a), l1, l2, l3, l4] (.ref a :: st) h Q := W_go f139_209 rfl
theorem f139_210 : fetch 139 210 = some (.getfield 32, 3, [9, 9, 6055, 0], .null) := by decide +kernel
theorem w139_210 : Wp d 139 210 [l0, l1, l2, l3, l4] (.ref a :: st) h Q = gP (h.2 a) 9 9 (fun w => Wp d 139 213 [l0, l1, l2, l3, l4] (w :: st) h Q) := W_get f139_210 rfl
theorem f139_213 : fetch 139 213 = some (.iload_n 1, 1, [], .null) := by decide +kernel
theorem w139_213 : Wp d 139 213 [l0, some (.int x), l2, l3, l4] st h Q = Wp d 139 214 [l0, some (.int x), l2, l3, l4] (.int x :: st) h Q := W_go f139_213 rfl
theorem f139_214 : fetch 139 214 = some (.iaload, 1, [], .null) := by decide +kernel
theorem w139_214 : Wp d 139 214 [l0, l1, l2, l3, l4] (.int x :: .ref a :: st) h Q = aP false (h.2 a) x (fun w => Wp d 139 215 [l0, l1, l2, l3, l4] (.int w :: st) h Q) := W_ald f139_214 rfl
theorem f139_215 : fetch 139 215 = some (.aload_n 0, 1, [], .null) := by decide +kernel
theorem w139_215 : Wp d 139 215 [some (.ref a), l1, l2, l3, l4] st h Q = Wp d 139 216 [some (.ref a), l1, l2, l3, l4] (.ref a :: st) h Q := W_go f139_215 rfl
theorem f139_216 : fetch 139 216 = some (.getfield 3, 3, [9, 20, 6074, 0], .null) := by decide +kernel
theorem w139_216 : Wp d 139 216 [l0, l1, l2, l3, l4] (.ref a :: st) h Q = gP (h.2 a) 9 20 (fun w => Wp d 139 219 [l0, l1, l2, l3, l4] (w :: st) h Q) := W_get f139_216 rfl
theorem f139_219 : fetch 139 219 = some (.getfield 89, 3, [10, 10, 6142, 1], .null) := by decide +kernel
theorem w139_219 : Wp d 139 219 [l0, l1, l2, l3, l4] (.ref a :: st) h Q = gP (h.2 a) 10 10 (fun w => Wp d 139 222 [l0, l1, l2, l3, l4] (w :: st) h Q) := W_get f139_219 rfl
theorem f139_222 : fetch 139 222 = some (.getfield 93, 3, [8, 4, 5182, 1], .null) := by decide +kernel
theorem w139_222 : Wp d 139 222 [l0, l1, l2, l3, l4] (.ref a :: st) h Q = gP (h.2 a) 8 4 (fun w => Wp d 139 225 [l0, l1, l2, l3, l4] (w :: st) h Q) := W_get f139_222 rfl
theorem f139_225 : fetch 139 225 = some (.iload_n 3, 1, [], .null) := by decide +kernel
theorem w139_225 : Wp d 139 225 [l0, l1, l2, some (.int x), l4] st h Q = Wp d 139 226 [l0, l1, l2, some (.int x), l4] (.int x :: st) h Q := W_go f139_225 rfl
theorem f139_226 : fetch 139 226 = some (.iaload, 1, [], .null) := by decide +kernel
theorem w139_226 : Wp d 139 226 [l0, l1, l2, l3, l4] (.int x :: .ref a :: st) h Q = aP false (h.2 a) x (fun w => Wp d 139 227 [l0, l1, l2, l3, l4] (.int w :: st) h Q) := W_ald f139_226 rfl
theorem f139_227 : fetch 139 227 = some (.aload_n 0, 1, [], .null) := by decide +kernel
theorem w139_227 : Wp d 139 227 [some (.ref a), l1, l2, l3, l4] st h Q = Wp d 139 228 [some (.ref a), l1, l2, l3, l4] (.ref a :: st) h Q := W_go f139_227 rfl
theorem f139_228 : fetch 139 228 = some (.getfield 15, 3, [9, 4, 6046, 0], .null) := by decide +kernel
theorem w139_228 : Wp d 139 228 [l0, l1, l2, l3, l4] (.ref a :: st) h Q = gP (h.2 a) 9 4 (fun w => Wp d 139 231 [l0, l1, l2, l3, l4] (w :: st) h Q) := W_get f139_228 rfl
theorem f139_231 : fetch 139 231 = some (.iload_n 3, 1, [], .null) := by decide +kernel
theorem w139_231 : Wp d 139 231 [l0, l1, l2, some (.int x), l4] st h Q = Wp d 139 232 [l0, l1, l2, some (.int x), l4] (.int x :: st) h Q := W_go f139_231 rfl
theorem f139_232 : fetch 139 232 = some (.iaload, 1, [], .null) := by decide +kernel
theorem w139_232 : Wp d 139 232 [l0, l1, l2, l3, l4] (.int x :: .ref a :: st) h Q = aP false (h.2 a) x (fun w => Wp d 139 233 [l0, l1, l2, l3, l4] (.int w :: st) h Q) := W_ald f139_232 rfl
theorem f139_233 : fetch 139 233 = some (.isub, 1, [], .null) := by decide +kernel
theorem w139_233 : Wp d 139 233 [l0, l1, l2, l3, l4] (.int y :: .int x :: st) h Q = Wp d 139 234 [l0, l1, l2, l3, l4] (.int (x - y) :: st) h Q := W_go f139_233 rfl
theorem f139_234 : fetch 139 234 = some (.invokestatic 197, 3, [9997, 2, 7209, 3004, 1021, 3005], .null) := by decide +kernel
theorem w139_234 (hp : psum st ≤ 8) : Wp d 139 234 [l0, l1, l2, l3, l4] (.int y :: .int x :: st) h Q = Wp d 139 237 [l0, l1, l2, l3, l4] (.int (if y < x then y else x) :: st) h Q := W_go f139_234 (by simp only [pstep, pmath, if_pos hp]; rfl)
theorem f139_237 : fetch 139 237 = some (.invokestatic 197, 3, [9997, 2, 7209, 3004, 1021, 3005], .null) := by decide +kernel
theorem w139_237 (hp : psum st ≤ 8) : Wp d 139 237 [l0, l1, l2, l3, l4] (.int y :: .int x :: st) h Q = Wp d 139 240 [l0, l1, l2, l3, l4] (.int (if y < x then y else x) :: st) h Q := W_go f139_237 (by simp only [pstep, pmath, if_pos hp]; rfl)
theorem f139_240 : fetch 139 240 = some (.invokestatic 156, 3, [9997, 1, 7194, 3001, 1021, 3002], .null) := by decide +kernel
theorem w139_240 (hp : psum st ≤ 8) : Wp d 139 240 [l0, l1, l2, l3, l4] (.int y :: .int x :: st) h Q = Wp d 139 243 [l0, l1, l2, l3, l4] (.int (if x < y then y else x) :: st) h Q := W_go f139_240 (by simp only [pstep, pmath, if_pos hp]; rfl)
theorem f139_243 : fetch 139 243 = some (.istore 4, 2, [], .null) := by decide +kernel
theorem w139_243 : Wp d 139 243 [l0, l1, l2, l3, l4] (.int x :: st) h Q = Wp d 139 245 [l0, l1, l2, kl l3, some (.int x)] st h Q := (W_st1 (pc' := 245) (k := 4) f139_243 rfl rfl (by simp only [List.length_cons, List.length_nil]; omega)).trans (by rw [pst1_succ]; rfl)
theorem f139_245 : fetch 139 245 = some (.aload_n 0, 1, [], .null) := by decide +kernel
theorem w139_245 : Wp d 139 245 [some (.ref a), l1, l2, l3, l4] st h Q = Wp d 139 246 [some (.ref a), l1, l2, l3, l4] (.ref a :: st) h Q := W_go f139_245 rfl
theorem f139_246 : fetch 139 246 = some (.getfield 32, 3, [9, 9, 6055, 0], .null) := by decide +kernel
theorem w139_246 : Wp d 139 246 [l0, l1, l2, l3, l4] (.ref a :: st) h Q = gP (h.2 a) 9 9 (fun w => Wp d 139 249 [l0, l1, l2, l3, l4] (w :: st) h Q) := W_get f139_246 rfl
theorem f139_249 : fetch 139 249 = some (.iload_n 1, 1, [], .null) := by decide +kernel
theorem w139_249 : Wp d 139 249 [l0, some (.int x), l2, l3, l4] st h Q = Wp d 139 250 [l0, some (.int x), l2, l3, l4] (.int x :: st) h Q := W_go f139_249 rfl
theorem f139_250 : fetch 139 250 = some (.dup2, 1, [], .null) := by decide +kernel
theorem w139_250 : Wp d 139 250 [l0, l1, l2, l3, l4] (.int x :: .ref a :: st) h Q = Wp d 139 251 [l0, l1, l2, l3, l4] (.int x :: .ref a :: .int x :: .ref a :: st) h Q := W_go f139_250 rfl
theorem f139_251 : fetch 139 251 = some (.iaload, 1, [], .null) := by decide +kernel
theorem w139_251 : Wp d 139 251 [l0, l1, l2, l3, l4] (.int x :: .ref a :: st) h Q = aP false (h.2 a) x (fun w => Wp d 139 252 [l0, l1, l2, l3, l4] (.int w :: st) h Q) := W_ald f139_251 rfl
theorem f139_252 : fetch 139 252 = some (.iload 4, 2, [], .null) := by decide +kernel
theorem w139_252 : Wp d 139 252 [l0, l1, l2, l3, some (.int x)] st h Q = Wp d 139 254 [l0, l1, l2, l3, some (.int x)] (.int x :: st) h Q := W_go f139_252 rfl
theorem f139_254 : fetch 139 254 = some (.isub, 1, [], .null) := by decide +kernel
theorem w139_254 : Wp d 139 254 [l0, l1, l2, l3, l4] (.int y :: .int x :: st) h Q = Wp d 139 255 [l0, l1, l2, l3, l4] (.int (x - y) :: st) h Q := W_go f139_254 rfl
theorem f139_255 : fetch 139 255 = some (.iastore, 1, [], .null) := by decide +kernel
theorem w139_255 : Wp d 139 255 [l0, l1, l2, l3, l4] (.int y :: .int x :: .ref a :: st) h Q = asP false (h.2 a) a x y (fun c => Wp d 139 256 [l0, l1, l2, l3, l4] st (hset h a c) Q) := W_ast f139_255 rfl
theorem f139_256 : fetch 139 256 = some (.aload_n 0, 1, [], .null) := by decide +kernel
theorem w139_256 : Wp d 139 256 [some (.ref a), l1, l2, l3, l4] st h Q = Wp d 139 257 [some (.ref a), l1, l2, l3, l4] (.ref a :: st) h Q := W_go f139_256 rfl
theorem f139_257 : fetch 139 257 = some (.getfield 15, 3, [9, 4, 6046, 0], .null) := by decide +kernel
theorem w139_257 : Wp d 139 257 [l0, l1, l2, l3, l4] (.ref a :: st) h Q = gP (h.2 a) 9 4 (fun w => Wp d 139 260 [l0, l1, l2, l3, l4] (w :: st) h Q) := W_get f139_257 rfl
theorem f139_260 : fetch 139 260 = some (.iload_n 3, 1, [], .null) := by decide +kernel
theorem w139_260 : Wp d 139 260 [l0, l1, l2, some (.int x), l4] st h Q = Wp d 139 261 [l0, l1, l2, some (.int x), l4] (.int x :: st) h Q := W_go f139_260 rfl
theorem f139_261 : fetch 139 261 = some (.dup2, 1, [], .null) := by decide +kernel
theorem w139_261 : Wp d 139 261 [l0, l1, l2, l3, l4] (.int x :: .ref a :: st) h Q = Wp d 139 262 [l0, l1, l2, l3, l4] (.int x :: .ref a :: .int x :: .ref a :: st) h Q := W_go f139_261 rfl
theorem f139_262 : fetch 139 262 = some (.iaload, 1, [], .null) := by decide +kernel
theorem w139_262 : Wp d 139 262 [l0, l1, l2, l3, l4] (.int x :: .ref a :: st) h Q = aP false (h.2 a) x (fun w => Wp d 139 263 [l0, l1, l2, l3, l4] (.int w :: st) h Q) := W_ald f139_262 rfl
theorem f139_263 : fetch 139 263 = some (.iload 4, 2, [], .null) := by decide +kernel
theorem w139_263 : Wp d 139 263 [l0, l1, l2, l3, some (.int x)] st h Q = Wp d 139 265 [l0, l1, l2, l3, some (.int x)] (.int x :: st) h Q := W_go f139_263 rfl
theorem f139_265 : fetch 139 265 = some (.iadd, 1, [], .null) := by decide +kernel
theorem w139_265 : Wp d 139 265 [l0, l1, l2, l3, l4] (.int y :: .int x :: st) h Q = Wp d 139 266 [l0, l1, l2, l3, l4] (.int (x + y) :: st) h Q := W_go f139_265 rfl
theorem f139_266 : fetch 139 266 = some (.iastore, 1, [], .null) := by decide +kernel
theorem w139_266 : Wp d 139 266 [l0, l1, l2, l3, l4] (.int y :: .int x :: .ref a :: st) h Q = asP false (h.2 a) a x y (fun c => Wp d 139 267 [l0, l1, l2, l3, l4] st (hset h a c) Q) := W_ast f139_266 rfl
theorem f139_267 : fetch 139 267 = some (.return_, 1, [], .null) := by decide +kernel
theorem w139_267 : Wp d 139 267 [l0, l1, l2, l3, l4] [] h Q = Q (.inl none, h) := W_fin f139_267 rfl
theorem hm140 : mhs 140 = [] := by decide +kernel
theorem f140_0 : fetch 140 0 = some (.aload_n 0, 1, [], .null) := by decide +kernel
theorem w140_0 : Wp d 140 0 [some (.ref a), l1, l2] st h Q = Wp d 140 1 [some (.ref a), l1, l2] (.ref a :: st) h Q := W_go f140_0 rfl
theorem f140_1 : fetch 140 1 = some (.iload_n 1, 1, [], .null) := by decide +kernel
theorem w140_1 : Wp d 140 1 [l0, some (.int x), l2] st h Q = Wp d 140 2 [l0, some (.int x), l2] (.int x :: st) h Q := W_go f140_1 rfl
theorem f140_2 : fetch 140 2 = some (.invokevirtual 200, 3, [138, 2, 10, 0, 7170, 1015, 7173, 7172, 69], .null) := by decide +kernel
theorem w140_2 (hp : psum st ≤ 8) : Wp d 140 2 [l0, l1, l2] (v1 :: (.ref b) :: st) h Q = rP (h.2 b) 9 (Cp d 138 [(.ref b), v1] h (fun o => cK o (fun w h2 => Wp d 140 5 [l0, l1, l2] (w.toList ++ st) h2 Q) (fun E h2 => Q (.inr E, h2)))) := (W_invV (st := st) f140_2 rfl rfl (by simp only [List.length_cons]; omega) rfl rfl hp).trans (by simp only [hm140, if_true])
theorem f140_5 : fetch 140 5 = some (.aload_n 0, 1, [], .null) := by decide +kernel
theorem w140_5 : Wp d 140 5 [some (.ref a), l1, l2] st h Q = Wp d 140 6 [some (.ref a), l1, l2] (.ref a :: st) h Q := W_go f140_5 rfl
theorem f140_6 : fetch 140 6 = some (.getfield 41, 3, [9, 12, 6061, 0], .null) := by decide +kernel
theorem w140_6 : Wp d 140 6 [l0, l1, l2] (.ref a :: st) h Q = gP (h.2 a) 9 12 (fun w => Wp d 140 9 [l0, l1, l2] (w :: st) h Q) := W_get f140_6 rfl
theorem f140_9 : fetch 140 9 = some (.iload_n 1, 1, [], .null) := by decide +kernel
theorem w140_9 : Wp d 140 9 [l0, some (.int x), l2] st h Q = Wp d 140 10 [l0, some (.int x), l2] (.int x :: st) h Q := W_go f140_9 rfl
theorem f140_10 : fetch 140 10 = some (.iaload, 1, [], .null) := by decide +kernel
theorem w140_10 : Wp d 140 10 [l0, l1, l2] (.int x :: .ref a :: st) h Q = aP false (h.2 a) x (fun w => Wp d 140 11 [l0, l1, l2] (.int w :: st) h Q) := W_ald f140_10 rfl
theorem f140_11 : fetch 140 11 = some (.iconst (-1), 1, [], .null) := by decide +kernel
theorem w140_11 : Wp d 140 11 [l0, l1, l2] st h Q = Wp d 140 12 [l0, l1, l2] (.int (-1 : Int32) :: st) h Q := W_go f140_11 rfl
theorem f140_12 : fetch 140 12 = some (.if_icmp .ne 4, 3, [], .null) := by decide +kernel
theorem w140_12 : Wp d 140 12 [l0, l1, l2] (.int y :: .int x :: st) h Q = if icond .ne x y = true then Wp d 140 16 [l0, l1, l2] st h Q else Wp d 140 15 [l0, l1, l2] st h Q := W_if f140_12 rfl
theorem f140_15 : fetch 140 15 = some (.return_, 1, [], .null) := by decide +kernel
theorem w140_15 : Wp d 140 15 [l0, l1, l2] [] h Q = Q (.inl none, h) := W_fin f140_15 rfl
theorem f140_16 : fetch 140 16 = some (.aload_n 0, 1, [], .null) := by decide +kernel
theorem w140_16 : Wp d 140 16 [some (.ref a), l1, l2] st h Q = Wp d 140 17 [some (.ref a), l1, l2] (.ref a :: st) h Q := W_go f140_16 rfl
theorem f140_17 : fetch 140 17 = some (.getfield 44, 3, [9, 13, 6063, 0], .null) := by decide +kernel
theorem w140_17 : Wp d 140 17 [l0, l1, l2] (.ref a :: st) h Q = gP (h.2 a) 9 13 (fun w => Wp d 140 20 [l0, l1, l2] (w :: st) h Q) := W_get f140_17 rfl
theorem f140_20 : fetch 140 20 = some (.iload_n 1, 1, [], .null) := by decide +kernel
theorem w140_20 : Wp d 140 20 [l0, some (.int x), l2] st h Q = Wp d 140 21 [l0, some (.int x), l2] (.int x :: st) h Q := W_go f140_20 rfl
theorem f140_21 : fetch 140 21 = some (.dup2, 1, [], .null) := by decide +kernel
theorem w140_21 : Wp d 140 21 [l0, l1, l2] (.int x :: .ref a :: st) h Q = Wp d 140 22 [l0, l1, l2] (.int x :: .ref a :: .int x :: .ref a :: st) h Q := W_go f140_21 rfl
theorem f140_22 : fetch 140 22 = some (.iaload, 1, [], .null) := by decide +kernel
theorem w140_22 : Wp d 140 22 [l0, l1, l2] (.int x :: .ref a :: st) h Q = aP false (h.2 a) x (fun w => Wp d 140 23 [l0, l1, l2] (.int w :: st) h Q) := W_ald f140_22 rfl
theorem f140_23 : fetch 140 23 = some (.iconst 1, 1, [], .null) := by decide +kernel
theorem w140_23 : Wp d 140 23 [l0, l1, l2] st h Q = Wp d 140 24 [l0, l1, l2] (.int (1 : Int32) :: st) h Q := W_go f140_23 rfl
theorem f140_24 : fetch 140 24 = some (.isub, 1, [], .null) := by decide +kernel
theorem w140_24 : Wp d 140 24 [l0, l1, l2] (.int y :: .int x :: st) h Q = Wp d 140 25 [l0, l1, l2] (.int (x - y) :: st) h Q := W_go f140_24 rfl
theorem f140_25 : fetch 140 25 = some (.iastore, 1, [], .null) := by decide +kernel
theorem w140_25 : Wp d 140 25 [l0, l1, l2] (.int y :: .int x :: .ref a :: st) h Q = asP false (h.2 a) a x y (fun c => Wp d 140 26 [l0, l1, l2] st (hset h a c) Q) := W_ast f140_25 rfl
theorem f140_26 : fetch 140 26 = some (.aload_n 0, 1, [], .null) := by decide +kernel
theorem w140_26 : Wp d 140 26 [some (.ref a), l1, l2] st h Q = Wp d 140 27 [some (.ref a), l1, l2] (.ref a :: st) h Q := W_go f140_26 rfl
theorem f140_27 : fetch 140 27 = some (.getfield 44, 3, [9, 13, 6063, 0], .null) := by decide +kernel
theorem w140_27 : Wp d 140 27 [l0, l1, l2] (.ref a :: st) h Q = gP (h.2 a) 9 13 (fun w => Wp d 140 30 [l0, l1, l2] (w :: st) h Q) := W_get f140_27 rfl
theorem f140_30 : fetch 140 30 = some (.iload_n 1, 1, [], .null) := by decide +kernel
theorem w140_30 : Wp d 140 30 [l0, some (.int x), l2] st h Q = Wp d 140 31 [l0, some (.int x), l2] (.int x :: st) h Q := W_go f140_30 rfl
theorem f140_31 : fetch 140 31 = some (.iaload, 1, [], .null) := by decide +kernel
theorem w140_31 : Wp d 140 31 [l0, l1, l2] (.int x :: .ref a :: st) h Q = aP false (h.2 a) x (fun w => Wp d 140 32 [l0, l1, l2] (.int w :: st) h Q) := W_ald f140_31 rfl
theorem f140_32 : fetch 140 32 = some (.ifCond .le 4, 3, [], .null) := by decide +kernel
theorem w140_32 : Wp d 140 32 [l0, l1, l2] (.int x :: st) h Q = if icond .le x 0 = true then Wp d 140 36 [l0, l1, l2] st h Q else Wp d 140 35 [l0, l1, l2] st h Q := W_if f140_32 rfl
theorem f140_35 : fetch 140 35 = some (.return_, 1, [], .null) := by decide +kernel
theorem w140_35 : Wp d 140 35 [l0, l1, l2] [] h Q = Q (.inl none, h) := W_fin f140_35 rfl
theorem f140_36 : fetch 140 36 = some (.aload_n 0, 1, [], .null) := by decide +kernel
theorem w140_36 : Wp d 140 36 [some (.ref a), l1, l2] st h Q = Wp d 140 37 [some (.ref a), l1, l2] (.ref a :: st) h Q := W_go f140_36 rfl
theorem f140_37 : fetch 140 37 = some (.getfield 41, 3, [9, 12, 6061, 0], .null) := by decide +kernel
theorem w140_37 : Wp d 140 37 [l0, l1, l2] (.ref a :: st) h Q = gP (h.2 a) 9 12 (fun w => Wp d 140 40 [l0, l1, l2] (w :: st) h Q) := W_get f140_37 rfl
theorem f140_40 : fetch 140 40 = some (.iload_n 1, 1, [], .null) := by decide +kernel
theorem w140_40 : Wp d 140 40 [l0, some (.int x), l2] st h Q = Wp d 140 41 [l0, some (.int x), l2] (.int x :: st) h Q := W_go f140_40 rfl
theorem f140_41 : fetch 140 41 = some (.iaload, 1, [], .null) := by decide +kernel
theorem w140_41 : Wp d 140 41 [l0, l1, l2] (.int x :: .ref a :: st) h Q = aP false (h.2 a) x (fun w => Wp d 140 42 [l0, l1, l2] (.int w :: st) h Q) := W_ald f140_41 rfl
theorem f140_42 : fetch 140 42 = some (.istore_n 2, 1, [], .null) := by decide +kernel
theorem w140_42 : Wp d 140 42 [l0, l1, l2] (.int x :: st) h Q = Wp d 140 43 [l0, kl l1, some (.int x)] st h Q := (W_st1 (pc' := 43) (k := 2) f140_42 rfl rfl (by simp only [List.length_cons, List.length_nil]; omega)).trans (by rw [pst1_succ]; rfl)
theorem f140_43 : fetch 140 43 = some (.aload_n 0, 1, [], .null) := by decide +kernel
theorem w140_43 : Wp d 140 43 [some (.ref a), l1, l2] st h Q = Wp d 140 44 [some (.ref a), l1, l2] (.ref a :: st) h Q := W_go f140_43 rfl
theorem f140_44 : fetch 140 44 = some (.getfield 41, 3, [9, 12, 6061, 0], .null) := by decide +kernel
theorem w140_44 : Wp d 140 44 [l0, l1, l2] (.ref a :: st) h Q = gP (h.2 a) 9 12 (fun w => Wp d 140 47 [l0, l1, l2] (w :: st) h Q) := W_get f140_44 rfl
theorem f140_47 : fetch 140 47 = some (.iload_n 1, 1, [], .null) := by decide +kernel
theorem w140_47 : Wp d 140 47 [l0, some (.int x), l2] st h Q = Wp d 140 48 [l0, some (.int x), l2] (.int x :: st) h Q := W_go f140_47 rfl
theorem f140_48 : fetch 140 48 = some (.iconst (-1), 1, [], .null) := by decide +kernel
theorem w140_48 : Wp d 140 48 [l0, l1, l2] st h Q = Wp d 140 49 [l0, l1, l2] (.int (-1 : Int32) :: st) h Q := W_go f140_48 rfl
theorem f140_49 : fetch 140 49 = some (.iastore, 1, [], .null) := by decide +kernel
theorem w140_49 : Wp d 140 49 [l0, l1, l2] (.int y :: .int x :: .ref a :: st) h Q = asP false (h.2 a) a x y (fun c => Wp d 140 50 [l0, l1, l2] st (hset h a c) Q) := W_ast f140_49 rfl
theorem f140_50 : fetch 140 50 = some (.aload_n 0, 1, [], .null) := by decide +kernel
theorem w140_50 : Wp d 140 50 [some (.ref a), l1, l2] st h Q = Wp d 140 51 [some (.ref a), l1, l2] (.ref a :: st) h Q := W_go f140_50 rfl
theorem f140_51 : fetch 140 51 = some (.iload_n 1, 1, [], .null) := by decide +kernel
theorem w140_51 : Wp d 140 51 [l0, some (.int x), l2] st h Q = Wp d 140 52 [l0, some (.int x), l2] (.int x :: st) h Q := W_go f140_51 rfl
theorem f140_52 : fetch 140 52 = some (.iload_n 2, 1, [], .null) := by decide +kernel
theorem w140_52 : Wp d 140 52 [l0, l1, some (.int x)] st h Q = Wp d 140 53 [l0, l1, some (.int x)] (.int x :: st) h Q := W_go f140_52 rfl
theorem f140_53 : fetch 140 53 = some (.invokevirtual 203, 3, [139, 3, 10, 0, 7204, 1015, 7207, 7206, 76], .null) := by decide +kernel
theorem w140_53 (hp : psum st ≤ 8) : Wp d 140 53 [l0, l1, l2] (v2 :: v1 :: (.ref b) :: st) h Q = rP (h.2 b) 9 (Cp d 139 [(.ref b), v1, v2] h (fun o => cK o (fun w h2 => Wp d 140 56 [l0, l1, l2] (w.toList ++ st) h2 Q) (fun E h2 => Q (.inr E, h2)))) := (W_invV (st := st) f140_53 rfl rfl (by simp only [List.length_cons]; omega) rfl rfl hp).trans (by simp only [hm140, if_true])
theorem f140_56 : fetch 140 56 = some (.return_, 1, [], .null) := by decide +kernel
theorem w140_56 : Wp d 140 56 [l0, l1, l2] [] h Q = Q (.inl none, h) := W_fin f140_56 rfl
theorem hm141 : mhs 141 = [] := by decide +kernel
theorem f141_0 : fetch 141 0 = some (.aload_n 0, 1, [], .null) := by decide +kernel
theorem w141_0 : Wp d 141 0 [some (.ref a), l1] st h Q = Wp d 141 1 [some (.ref a), l1] (.ref a :: st) h Q := W_go f141_0 rfl
theorem f141_1 : fetch 141 1 = some (.dup, 1, [], .null) := by decide +kernel
theorem w141_1i : Wp d 141 1 [l0, l1] (.int x :: st) h Q = Wp d 141 2 [l0, l1] (.int x :: .int x :: st) h Q := W_go f141_1 rfl
theorem w141_1 : Wp d 141 1 [l0, l1] (.ref a :: st) h Q = Wp d 141 2 [l0, l1] (.ref a :: .ref a :: st) h Q := W_go f141_1 rfl
theorem f141_2 : fetch 141 2 = some (.getfield 71, 3, [9, 0, 6038, 0], .null) := by decide +kernel
theorem w141_2 : Wp d 141 2 [l0, l1] (.ref a :: st) h Q = gP (h.2 a) 9 0 (fun w => Wp d 141 5 [l0, l1] (w :: st) h Q) := W_get f141_2 rfl
theorem f141_5 : fetch 141 5 = some (.iconst 1, 1, [], .null) := by decide +kernel
theorem w141_5 : Wp d 141 5 [l0, l1] st h Q = Wp d 141 6 [l0, l1] (.int (1 : Int32) :: st) h Q := W_go f141_5 rfl
theorem f141_6 : fetch 141 6 = some (.iadd, 1, [], .null) := by decide +kernel
theorem w141_6 : Wp d 141 6 [l0, l1] (.int y :: .int x :: st) h Q = Wp d 141 7 [l0, l1] (.int (x + y) :: st) h Q := W_go f141_6 rfl
theorem f141_7 : fetch 141 7 = some (.putfield 71, 3, [9, 0, 6038, 0], .null) := by decide +kernel
theorem w141_7 : Wp d 141 7 [l0, l1] (v :: .ref a :: st) h Q = pP (h.2 a) 9 0 (ftOf 9 0) v a (fun c => Wp d 141 10 [l0, l1] st (hset h a c) Q) := W_put f141_7 (by rfl)
theorem f141_10 : fetch 141 10 = some (.aload_n 0, 1, [], .null) := by decide +kernel
theorem w141_10 : Wp d 141 10 [some (.ref a), l1] st h Q = Wp d 141 11 [some (.ref a), l1] (.ref a :: st) h Q := W_go f141_10 rfl
theorem f141_11 : fetch 141 11 = some (.iconst 0, 1, [], .null) := by decide +kernel
theorem w141_11 : Wp d 141 11 [l0, l1] st h Q = Wp d 141 12 [l0, l1] (.int (0 : Int32) :: st) h Q := W_go f141_11 rfl
theorem f141_12 : fetch 141 12 = some (.putfield 75, 3, [9, 1, 6040, 0], .null) := by decide +kernel
theorem w141_12 : Wp d 141 12 [l0, l1] (v :: .ref a :: st) h Q = pP (h.2 a) 9 1 (ftOf 9 1) v a (fun c => Wp d 141 15 [l0, l1] st (hset h a c) Q) := W_put f141_12 (by rfl)
theorem f141_15 : fetch 141 15 = some (.iconst 0, 1, [], .null) := by decide +kernel
theorem w141_15 : Wp d 141 15 [l0, l1] st h Q = Wp d 141 16 [l0, l1] (.int (0 : Int32) :: st) h Q := W_go f141_15 rfl
theorem f141_16 : fetch 141 16 = some (.istore_n 1, 1, [], .null) := by decide +kernel
theorem w141_16 : Wp d 141 16 [l0, l1] (.int x :: st) h Q = Wp d 141 17 [kl l0, some (.int x)] st h Q := (W_st1 (pc' := 17) (k := 1) f141_16 rfl rfl (by simp only [List.length_cons, List.length_nil]; omega)).trans (by rw [pst1_succ]; rfl)
theorem f141_17 : fetch 141 17 = some (.iload_n 1, 1, [], .null) := by decide +kernel
theorem w141_17 : Wp d 141 17 [l0, some (.int x)] st h Q = Wp d 141 18 [l0, some (.int x)] (.int x :: st) h Q := W_go f141_17 rfl
theorem f141_18 : fetch 141 18 = some (.aload_n 0, 1, [], .null) := by decide +kernel
theorem w141_18 : Wp d 141 18 [some (.ref a), l1] st h Q = Wp d 141 19 [some (.ref a), l1] (.ref a :: st) h Q := W_go f141_18 rfl
theorem f141_19 : fetch 141 19 = some (.getfield 3, 3, [9, 20, 6074, 0], .null) := by decide +kernel
theorem w141_19 : Wp d 141 19 [l0, l1] (.ref a :: st) h Q = gP (h.2 a) 9 20 (fun w => Wp d 141 22 [l0, l1] (w :: st) h Q) := W_get f141_19 rfl
theorem f141_22 : fetch 141 22 = some (.getfield 89, 3, [10, 10, 6142, 1], .null) := by decide +kernel
theorem w141_22 : Wp d 141 22 [l0, l1] (.ref a :: st) h Q = gP (h.2 a) 10 10 (fun w => Wp d 141 25 [l0, l1] (w :: st) h Q) := W_get f141_22 rfl
theorem f141_25 : fetch 141 25 = some (.getfield 206, 3, [8, 0, 5175, 1], .null) := by decide +kernel
theorem w141_25 : Wp d 141 25 [l0, l1] (.ref a :: st) h Q = gP (h.2 a) 8 0 (fun w => Wp d 141 28 [l0, l1] (w :: st) h Q) := W_get f141_25 rfl
theorem f141_28 : fetch 141 28 = some (.if_icmp .ge 16, 3, [], .null) := by decide +kernel
theorem w141_28 : Wp d 141 28 [l0, l1] (.int y :: .int x :: st) h Q = if icond .ge x y = true then Wp d 141 44 [l0, l1] st h Q else Wp d 141 31 [l0, l1] st h Q := W_if f141_28 rfl
theorem f141_31 : fetch 141 31 = some (.aload_n 0, 1, [], .null) := by decide +kernel
theorem w141_31 : Wp d 141 31 [some (.ref a), l1] st h Q = Wp d 141 32 [some (.ref a), l1] (.ref a :: st) h Q := W_go f141_31 rfl
theorem f141_32 : fetch 141 32 = some (.getfield 28, 3, [9, 8, 6053, 0], .null) := by decide +kernel
theorem w141_32 : Wp d 141 32 [l0, l1] (.ref a :: st) h Q = gP (h.2 a) 9 8 (fun w => Wp d 141 35 [l0, l1] (w :: st) h Q) := W_get f141_32 rfl
theorem f141_35 : fetch 141 35 = some (.iload_n 1, 1, [], .null) := by decide +kernel
theorem w141_35 : Wp d 141 35 [l0, some (.int x)] st h Q = Wp d 141 36 [l0, some (.int x)] (.int x :: st) h Q := W_go f141_35 rfl
theorem f141_36 : fetch 141 36 = some (.iconst 0, 1, [], .null) := by decide +kernel
theorem w141_36 : Wp d 141 36 [l0, l1] st h Q = Wp d 141 37 [l0, l1] (.int (0 : Int32) :: st) h Q := W_go f141_36 rfl
theorem f141_37 : fetch 141 37 = some (.bastore, 1, [], .null) := by decide +kernel
theorem w141_37 : Wp d 141 37 [l0, l1] (.int y :: .int x :: .ref a :: st) h Q = asP true (h.2 a) a x y (fun c => Wp d 141 38 [l0, l1] st (hset h a c) Q) := W_ast f141_37 rfl
theorem f141_38 : fetch 141 38 = some (.iinc 1 1, 3, [], .null) := by decide +kernel
theorem w141_38 : Wp d 141 38 [l0, some (.int x)] st h Q = Wp d 141 41 [kl l0, some (.int (x + (1 : Int32)))] st h Q := (W_iinc (y := (1 : Int32)) f141_38 rfl (by simp only [List.length_cons, List.length_nil]; omega) (by decide)).trans (by rw [pst1_succ]; rfl)
theorem f141_41 : fetch 141 41 = some (.goto (-24), 3, [], .null) := by decide +kernel
theorem w141_41 : Wp d 141 41 [l0, l1] st h Q = Wp d 141 17 [l0, l1] st h Q := W_go f141_41 rfl
theorem f141_44 : fetch 141 44 = some (.iconst 0, 1, [], .null) := by decide +kernel
theorem w141_44 : Wp d 141 44 [l0, l1] st h Q = Wp d 141 45 [l0, l1] (.int (0 : Int32) :: st) h Q := W_go f141_44 rfl
theorem f141_45 : fetch 141 45 = some (.istore_n 1, 1, [], .null) := by decide +kernel
theorem w141_45 : Wp d 141 45 [l0, l1] (.int x :: st) h Q = Wp d 141 46 [kl l0, some (.int x)] st h Q := (W_st1 (pc' := 46) (k := 1) f141_45 rfl rfl (by simp only [List.length_cons, List.length_nil]; omega)).trans (by rw [pst1_succ]; rfl)
theorem f141_46 : fetch 141 46 = some (.iload_n 1, 1, [], .null) := by decide +kernel
theorem w141_46 : Wp d 141 46 [l0, some (.int x)] st h Q = Wp d 141 47 [l0, some (.int x)] (.int x :: st) h Q := W_go f141_46 rfl
theorem f141_47 : fetch 141 47 = some (.aload_n 0, 1, [], .null) := by decide +kernel
theorem w141_47 : Wp d 141 47 [some (.ref a), l1] st h Q = Wp d 141 48 [some (.ref a), l1] (.ref a :: st) h Q := W_go f141_47 rfl
theorem f141_48 : fetch 141 48 = some (.getfield 3, 3, [9, 20, 6074, 0], .null) := by decide +kernel
theorem w141_48 : Wp d 141 48 [l0, l1] (.ref a :: st) h Q = gP (h.2 a) 9 20 (fun w => Wp d 141 51 [l0, l1] (w :: st) h Q) := W_get f141_48 rfl
theorem f141_51 : fetch 141 51 = some (.getfield 98, 3, [10, 12, 6144, 1], .null) := by decide +kernel
theorem w141_51 : Wp d 141 51 [l0, l1] (.ref a :: st) h Q = gP (h.2 a) 10 12 (fun w => Wp d 141 54 [l0, l1] (w :: st) h Q) := W_get f141_51 rfl
theorem f141_54 : fetch 141 54 = some (.if_icmp .ge 36, 3, [], .null) := by decide +kernel
theorem w141_54 : Wp d 141 54 [l0, l1] (.int y :: .int x :: st) h Q = if icond .ge x y = true then Wp d 141 90 [l0, l1] st h Q else Wp d 141 57 [l0, l1] st h Q := W_if f141_54 rfl
theorem f141_57 : fetch 141 57 = some (.aload_n 0, 1, [], .null) := by decide +kernel
theorem w141_57 : Wp d 141 57 [some (.ref a), l1] st h Q = Wp d 141 58 [some (.ref a), l1] (.ref a :: st) h Q := W_go f141_57 rfl
theorem f141_58 : fetch 141 58 = some (.getfield 35, 3, [9, 10, 6057, 0], .null) := by decide +kernel
theorem w141_58 : Wp d 141 58 [l0, l1] (.ref a :: st) h Q = gP (h.2 a) 9 10 (fun w => Wp d 141 61 [l0, l1] (w :: st) h Q) := W_get f141_58 rfl
theorem f141_61 : fetch 141 61 = some (.iload_n 1, 1, [], .null) := by decide +kernel
theorem w141_61 : Wp d 141 61 [l0, some (.int x)] st h Q = Wp d 141 62 [l0, some (.int x)] (.int x :: st) h Q := W_go f141_61 rfl
theorem f141_62 : fetch 141 62 = some (.iconst 0, 1, [], .null) := by decide +kernel
theorem w141_62 : Wp d 141 62 [l0, l1] st h Q = Wp d 141 63 [l0, l1] (.int (0 : Int32) :: st) h Q := W_go f141_62 rfl
theorem f141_63 : fetch 141 63 = some (.iastore, 1, [], .null) := by decide +kernel
theorem w141_63 : Wp d 141 63 [l0, l1] (.int y :: .int x :: .ref a :: st) h Q = asP false (h.2 a) a x y (fun c => Wp d 141 64 [l0, l1] st (hset h a c) Q) := W_ast f141_63 rfl
theorem f141_64 : fetch 141 64 = some (.aload_n 0, 1, [], .null) := by decide +kernel
theorem w141_64 : Wp d 141 64 [some (.ref a), l1] st h Q = Wp d 141 65 [some (.ref a), l1] (.ref a :: st) h Q := W_go f141_64 rfl
theorem f141_65 : fetch 141 65 = some (.getfield 32, 3, [9, 9, 6055, 0], .null) := by decide +kernel
theorem w141_65 : Wp d 141 65 [l0, l1] (.ref a :: st) h Q = gP (h.2 a) 9 9 (fun w => Wp d 141 68 [l0, l1] (w :: st) h Q) := W_get f141_65 rfl
theorem f141_68 : fetch 141 68 = some (.iload_n 1, 1, [], .null) := by decide +kernel
theorem w141_68 : Wp d 141 68 [l0, some (.int x)] st h Q = Wp d 141 69 [l0, some (.int x)] (.int x :: st) h Q := W_go f141_68 rfl
theorem f141_69 : fetch 141 69 = some (.aload_n 0, 1, [], .null) := by decide +kernel
theorem w141_69 : Wp d 141 69 [some (.ref a), l1] st h Q = Wp d 141 70 [some (.ref a), l1] (.ref a :: st) h Q := W_go f141_69 rfl
theorem f141_70 : fetch 141 70 = some (.getfield 3, 3, [9, 20, 6074, 0], .null) := by decide +kernel
theorem w141_70 : Wp d 141 70 [l0, l1] (.ref a :: st) h Q = gP (h.2 a) 9 20 (fun w => Wp d 141 73 [l0, l1] (w :: st) h Q) := W_get f141_70 rfl
theorem f141_73 : fetch 141 73 = some (.getfield 105, 3, [10, 13, 6147, 1], .null) := by decide +kernel
theorem w141_73 : Wp d 141 73 [l0, l1] (.ref a :: st) h Q = gP (h.2 a) 10 13 (fun w => Wp d 141 76 [l0, l1] (w :: st) h Q) := W_get f141_73 rfl
theorem f141_76 : fetch 141 76 = some (.iload_n 1, 1, [], .null) := by decide +kernel
theorem w141_76 : Wp d 141 76 [l0, some (.int x)] st h Q = Wp d 141 77 [l0, some (.int x)] (.int x :: st) h Q := W_go f141_76 rfl
theorem f141_77 : fetch 141 77 = some (.iaload, 1, [], .null) := by decide +kernel
theorem w141_77 : Wp d 141 77 [l0, l1] (.int x :: .ref a :: st) h Q = aP false (h.2 a) x (fun w => Wp d 141 78 [l0, l1] (.int w :: st) h Q) := W_ald f141_77 rfl
theorem f141_78 : fetch 141 78 = some (.iastore, 1, [], .null) := by decide +kernel
theorem w141_78 : Wp d 141 78 [l0, l1] (.int y :: .int x :: .ref a :: st) h Q = asP false (h.2 a) a x y (fun c => Wp d 141 79 [l0, l1] st (hset h a c) Q) := W_ast f141_78 rfl
theorem f141_79 : fetch 141 79 = some (.aload_n 0, 1, [], .null) := by decide +kernel
theorem w141_79 : Wp d 141 79 [some (.ref a), l1] st h Q = Wp d 141 80 [some (.ref a), l1] (.ref a :: st) h Q := W_go f141_79 rfl
theorem f141_80 : fetch 141 80 = some (.iload_n 1, 1, [], .null) := by decide +kernel
theorem w141_80 : Wp d 141 80 [l0, some (.int x)] st h Q = Wp d 141 81 [l0, some (.int x)] (.int x :: st) h Q := W_go f141_80 rfl
theorem f141_81 : fetch 141 81 = some (.invokevirtual 209, 3, [131, 2, 10, 0, 7218, 1015, 7108, 7106, 7107], .null) := by decide +kernel
theorem w141_81 (hp : psum st ≤ 8) : Wp d 141 81 [l0, l1] (v1 :: (.ref b) :: st) h Q = rP (h.2 b) 9 (Cp d 131 [(.ref b), v1] h (fun o => cK o (fun w h2 => Wp d 141 84 [l0, l1] (w.toList ++ st) h2 Q) (fun E h2 => Q (.inr E, h2)))) := (W_invV (st := st) f141_81 rfl rfl (by simp only [List.length_cons]; omega) rfl rfl hp).trans (by simp only [hm141, if_true])
theorem f141_84 : fetch 141 84 = some (.iinc 1 1, 3, [], .null) := by decide +kernel
theorem w141_84 : Wp d 141 84 [l0, some (.int x)] st h Q = Wp d 141 87 [kl l0, some (.int (x + (1 : Int32)))] st h Q := (W_iinc (y := (1 : Int32)) f141_84 rfl (by simp only [List.length_cons, List.length_nil]; omega) (by decide)).trans (by rw [pst1_succ]; rfl)
theorem f141_87 : fetch 141 87 = some (.goto (-41), 3, [], .null) := by decide +kernel
theorem w141_87 : Wp d 141 87 [l0, l1] st h Q = Wp d 141 46 [l0, l1] st h Q := W_go f141_87 rfl
theorem f141_90 : fetch 141 90 = some (.return_, 1, [], .null) := by decide +kernel
theorem w141_90 : Wp d 141 90 [l0, l1] [] h Q = Q (.inl none, h) := W_fin f141_90 rfl
theorem hm142 : mhs 142 = [] := by decide +kernel
theorem hr142 : mret 142 = (some .int) := by decide +kernel
theorem f142_0 : fetch 142 0 = some (.aload_n 0, 1, [], .null) := by decide +kernel
theorem w142_0 : Wp d 142 0 [some (.ref a), l1, l2, l3, l4] st h Q = Wp d 142 1 [some (.ref a), l1, l2, l3, l4] (.ref a :: st) h Q := W_go f142_0 rfl
theorem f142_1 : fetch 142 1 = some (.invokevirtual 212, 3, [128, 1, 10, 0, 7158, 1015, 7161, 7159, 7160], .null) := by decide +kernel
theorem w142_1 (hp : psum st ≤ 8) : Wp d 142 1 [l0, l1, l2, l3, l4] ((.ref b) :: st) h Q = rP (h.2 b) 9 (Cp d 128 [(.ref b)] h (fun o => cK o (fun w h2 => Wp d 142 4 [l0, l1, l2, l3, l4] (w.toList ++ st) h2 Q) (fun E h2 => Q (.inr E, h2)))) := (W_invV (st := st) f142_1 rfl rfl (by simp only [List.length_cons]; omega) rfl rfl hp).trans (by simp only [hm142, if_true])
theorem f142_4 : fetch 142 4 = some (.istore_n 1, 1, [], .null) := by decide +kernel
theorem w142_4 : Wp d 142 4 [l0, l1, l2, l3, l4] (.int x :: st) h Q = Wp d 142 5 [kl l0, some (.int x), l2, l3, l4] st h Q := (W_st1 (pc' := 5) (k := 1) f142_4 rfl rfl (by simp only [List.length_cons, List.length_nil]; omega)).trans (by rw [pst1_succ]; rfl)
theorem f142_5 : fetch 142 5 = some (.iconst 0, 1, [], .null) := by decide +kernel
theorem w142_5 : Wp d 142 5 [l0, l1, l2, l3, l4] st h Q = Wp d 142 6 [l0, l1, l2, l3, l4] (.int (0 : Int32) :: st) h Q := W_go f142_5 rfl
theorem f142_6 : fetch 142 6 = some (.istore_n 2, 1, [], .null) := by decide +kernel
theorem w142_6 : Wp d 142 6 [l0, l1, l2, l3, l4] (.int x :: st) h Q = Wp d 142 7 [l0, kl l1, some (.int x), l3, l4] st h Q := (W_st1 (pc' := 7) (k := 2) f142_6 rfl rfl (by simp only [List.length_cons, List.length_nil]; omega)).trans (by rw [pst1_succ]; rfl)
theorem f142_7 : fetch 142 7 = some (.iconst 0, 1, [], .null) := by decide +kernel
theorem w142_7 : Wp d 142 7 [l0, l1, l2, l3, l4] st h Q = Wp d 142 8 [l0, l1, l2, l3, l4] (.int (0 : Int32) :: st) h Q := W_go f142_7 rfl
theorem f142_8 : fetch 142 8 = some (.istore_n 3, 1, [], .null) := by decide +kernel
theorem w142_8 : Wp d 142 8 [l0, l1, l2, l3, l4] (.int x :: st) h Q = Wp d 142 9 [l0, l1, kl l2, some (.int x), l4] st h Q := (W_st1 (pc' := 9) (k := 3) f142_8 rfl rfl (by simp only [List.length_cons, List.length_nil]; omega)).trans (by rw [pst1_succ]; rfl)
theorem f142_9 : fetch 142 9 = some (.iload_n 3, 1, [], .null) := by decide +kernel
theorem w142_9 : Wp d 142 9 [l0, l1, l2, some (.int x), l4] st h Q = Wp d 142 10 [l0, l1, l2, some (.int x), l4] (.int x :: st) h Q := W_go f142_9 rfl
theorem f142_10 : fetch 142 10 = some (.aload_n 0, 1, [], .null) := by decide +kernel
theorem w142_10 : Wp d 142 10 [some (.ref a), l1, l2, l3, l4] st h Q = Wp d 142 11 [some (.ref a), l1, l2, l3, l4] (.ref a :: st) h Q := W_go f142_10 rfl
theorem f142_11 : fetch 142 11 = some (.getfield 3, 3, [9, 20, 6074, 0], .null) := by decide +kernel
theorem w142_11 : Wp d 142 11 [l0, l1, l2, l3, l4] (.ref a :: st) h Q = gP (h.2 a) 9 20 (fun w => Wp d 142 14 [l0, l1, l2, l3, l4] (w :: st) h Q) := W_get f142_11 rfl
theorem f142_14 : fetch 142 14 = some (.getfield 98, 3, [10, 12, 6144, 1], .null) := by decide +kernel
theorem w142_14 : Wp d 142 14 [l0, l1, l2, l3, l4] (.ref a :: st) h Q = gP (h.2 a) 10 12 (fun w => Wp d 142 17 [l0, l1, l2, l3, l4] (w :: st) h Q) := W_get f142_14 rfl
theorem f142_17 : fetch 142 17 = some (.if_icmp .ge 18, 3, [], .null) := by decide +kernel
theorem w142_17 : Wp d 142 17 [l0, l1, l2, l3, l4] (.int y :: .int x :: st) h Q = if icond .ge x y = true then Wp d 142 35 [l0, l1, l2, l3, l4] st h Q else Wp d 142 20 [l0, l1, l2, l3, l4] st h Q := W_if f142_17 rfl
theorem f142_20 : fetch 142 20 = some (.iload_n 1, 1, [], .null) := by decide +kernel
theorem w142_20 : Wp d 142 20 [l0, some (.int x), l2, l3, l4] st h Q = Wp d 142 21 [l0, some (.int x), l2, l3, l4] (.int x :: st) h Q := W_go f142_20 rfl
theorem f142_21 : fetch 142 21 = some (.ifCond .ne 14, 3, [], .null) := by decide +kernel
theorem w142_21 : Wp d 142 21 [l0, l1, l2, l3, l4] (.int x :: st) h Q = if icond .ne x 0 = true then Wp d 142 35 [l0, l1, l2, l3, l4] st h Q else Wp d 142 24 [l0, l1, l2, l3, l4] st h Q := W_if f142_21 rfl
theorem f142_24 : fetch 142 24 = some (.aload_n 0, 1, [], .null) := by decide +kernel
theorem w142_24 : Wp d 142 24 [some (.ref a), l1, l2, l3, l4] st h Q = Wp d 142 25 [some (.ref a), l1, l2, l3, l4] (.ref a :: st) h Q := W_go f142_24 rfl
theorem f142_25 : fetch 142 25 = some (.iload_n 3, 1, [], .null) := by decide +kernel
theorem w142_25 : Wp d 142 25 [l0, l1, l2, some (.int x), l4] st h Q = Wp d 142 26 [l0, l1, l2, some (.int x), l4] (.int x :: st) h Q := W_go f142_25 rfl
theorem f142_26 : fetch 142 26 = some (.invokevirtual 216, 3, [140, 2, 10, 0, 7166, 1015, 7169, 7168, 68], .null) := by decide +kernel
theorem w142_26 (hp : psum st ≤ 8) : Wp d 142 26 [l0, l1, l2, l3, l4] (v1 :: (.ref b) :: st) h Q = rP (h.2 b) 9 (Cp d 140 [(.ref b), v1] h (fun o => cK o (fun w h2 => Wp d 142 29 [l0, l1, l2, l3, l4] (w.toList ++ st) h2 Q) (fun E h2 => Q (.inr E, h2)))) := (W_invV (st := st) f142_26 rfl rfl (by simp only [List.length_cons]; omega) rfl rfl hp).trans (by simp only [hm142, if_true])
theorem f142_29 : fetch 142 29 = some (.iinc 3 1, 3, [], .null) := by decide +kernel
theorem w142_29 : Wp d 142 29 [l0, l1, l2, some (.int x), l4] st h Q = Wp d 142 32 [l0, l1, kl l2, some (.int (x + (1 : Int32))), l4] st h Q := (W_iinc (y := (1 : Int32)) f142_29 rfl (by simp only [List.length_cons, List.length_nil]; omega) (by decide)).trans (by rw [pst1_succ]; rfl)
theorem f142_32 : fetch 142 32 = some (.goto (-23), 3, [], .null) := by decide +kernel
theorem w142_32 : Wp d 142 32 [l0, l1, l2, l3, l4] st h Q = Wp d 142 9 [l0, l1, l2, l3, l4] st h Q := W_go f142_32 rfl
theorem f142_35 : fetch 142 35 = some (.iconst 0, 1, [], .null) := by decide +kernel
theorem w142_35 : Wp d 142 35 [l0, l1, l2, l3, l4] st h Q = Wp d 142 36 [l0, l1, l2, l3, l4] (.int (0 : Int32) :: st) h Q := W_go f142_35 rfl
theorem f142_36 : fetch 142 36 = some (.istore_n 3, 1, [], .null) := by decide +kernel
theorem w142_36 : Wp d 142 36 [l0, l1, l2, l3, l4] (.int x :: st) h Q = Wp d 142 37 [l0, l1, kl l2, some (.int x), l4] st h Q := (W_st1 (pc' := 37) (k := 3) f142_36 rfl rfl (by simp only [List.length_cons, List.length_nil]; omega)).trans (by rw [pst1_succ]; rfl)
theorem f142_37 : fetch 142 37 = some (.iload_n 3, 1, [], .null) := by decide +kernel
theorem w142_37 : Wp d 142 37 [l0, l1, l2, some (.int x), l4] st h Q = Wp d 142 38 [l0, l1, l2, some (.int x), l4] (.int x :: st) h Q := W_go f142_37 rfl
theorem f142_38 : fetch 142 38 = some (.aload_n 0, 1, [], .null) := by decide +kernel
theorem w142_38 : Wp d 142 38 [some (.ref a), l1, l2, l3, l4] st h Q = Wp d 142 39 [some (.ref a), l1, l2, l3, l4] (.ref a :: st) h Q := W_go f142_38 rfl
theorem f142_39 : fetch 142 39 = some (.getfield 3, 3, [9, 20, 6074, 0], .null) := by decide +kernel
theorem w142_39 : Wp d 142 39 [l0, l1, l2, l3, l4] (.ref a :: st) h Q = gP (h.2 a) 9 20 (fun w => Wp d 142 42 [l0, l1, l2, l3, l4] (w :: st) h Q) := W_get f142_39 rfl
theorem f142_42 : fetch 142 42 = some (.getfield 89, 3, [10, 10, 6142, 1], .null) := by decide +kernel
theorem w142_42 : Wp d 142 42 [l0, l1, l2, l3, l4] (.ref a :: st) h Q = gP (h.2 a) 10 10 (fun w => Wp d 142 45 [l0, l1, l2, l3, l4] (w :: st) h Q) := W_get f142_42 rfl
theorem f142_45 : fetch 142 45 = some (.getfield 206, 3, [8, 0, 5175, 1], .null) := by decide +kernel
theorem w142_45 : Wp d 142 45 [l0, l1, l2, l3, l4] (.ref a :: st) h Q = gP (h.2 a) 8 0 (fun w => Wp d 142 48 [l0, l1, l2, l3, l4] (w :: st) h Q) := W_get f142_45 rfl
theorem f142_48 : fetch 142 48 = some (.if_icmp .ge 59, 3, [], .null) := by decide +kernel
theorem w142_48 : Wp d 142 48 [l0, l1, l2, l3, l4] (.int y :: .int x :: st) h Q = if icond .ge x y = true then Wp d 142 107 [l0, l1, l2, l3, l4] st h Q else Wp d 142 51 [l0, l1, l2, l3, l4] st h Q := W_if f142_48 rfl
theorem f142_51 : fetch 142 51 = some (.aload_n 0, 1, [], .null) := by decide +kernel
theorem w142_51 : Wp d 142 51 [some (.ref a), l1, l2, l3, l4] st h Q = Wp d 142 52 [some (.ref a), l1, l2, l3, l4] (.ref a :: st) h Q := W_go f142_51 rfl
theorem f142_52 : fetch 142 52 = some (.getfield 28, 3, [9, 8, 6053, 0], .null) := by decide +kernel
theorem w142_52 : Wp d 142 52 [l0, l1, l2, l3, l4] (.ref a :: st) h Q = gP (h.2 a) 9 8 (fun w => Wp d 142 55 [l0, l1, l2, l3, l4] (w :: st) h Q) := W_get f142_52 rfl
theorem f142_55 : fetch 142 55 = some (.iload_n 3, 1, [], .null) := by decide +kernel
theorem w142_55 : Wp d 142 55 [l0, l1, l2, some (.int x), l4] st h Q = Wp d 142 56 [l0, l1, l2, some (.int x), l4] (.int x :: st) h Q := W_go f142_55 rfl
theorem f142_56 : fetch 142 56 = some (.baload, 1, [], .null) := by decide +kernel
theorem w142_56 : Wp d 142 56 [l0, l1, l2, l3, l4] (.int x :: .ref a :: st) h Q = aP true (h.2 a) x (fun w => Wp d 142 57 [l0, l1, l2, l3, l4] (.int w :: st) h Q) := W_ald f142_56 rfl
theorem f142_57 : fetch 142 57 = some (.ifCond .ne 7, 3, [], .null) := by decide +kernel
theorem w142_57 : Wp d 142 57 [l0, l1, l2, l3, l4] (.int x :: st) h Q = if icond .ne x 0 = true then Wp d 142 64 [l0, l1, l2, l3, l4] st h Q else Wp d 142 60 [l0, l1, l2, l3, l4] st h Q := W_if f142_57 rfl
theorem f142_60 : fetch 142 60 = some (.iload_n 1, 1, [], .null) := by decide +kernel
theorem w142_60 : Wp d 142 60 [l0, some (.int x), l2, l3, l4] st h Q = Wp d 142 61 [l0, some (.int x), l2, l3, l4] (.int x :: st) h Q := W_go f142_60 rfl
theorem f142_61 : fetch 142 61 = some (.ifCond .eq 7, 3, [], .null) := by decide +kernel
theorem w142_61 : Wp d 142 61 [l0, l1, l2, l3, l4] (.int x :: st) h Q = if icond .eq x 0 = true then Wp d 142 68 [l0, l1, l2, l3, l4] st h Q else Wp d 142 64 [l0, l1, l2, l3, l4] st h Q := W_if f142_61 rfl
theorem f142_64 : fetch 142 64 = some (.iconst 0, 1, [], .null) := by decide +kernel
theorem w142_64 : Wp d 142 64 [l0, l1, l2, l3, l4] st h Q = Wp d 142 65 [l0, l1, l2, l3, l4] (.int (0 : Int32) :: st) h Q := W_go f142_64 rfl
theorem f142_65 : fetch 142 65 = some (.goto 4, 3, [], .null) := by decide +kernel
theorem w142_65 : Wp d 142 65 [l0, l1, l2, l3, l4] st h Q = Wp d 142 69 [l0, l1, l2, l3, l4] st h Q := W_go f142_65 rfl
theorem f142_68 : fetch 142 68 = some (.iconst 1, 1, [], .null) := by decide +kernel
theorem w142_68 : Wp d 142 68 [l0, l1, l2, l3, l4] st h Q = Wp d 142 69 [l0, l1, l2, l3, l4] (.int (1 : Int32) :: st) h Q := W_go f142_68 rfl
theorem f142_69 : fetch 142 69 = some (.istore 4, 2, [], .null) := by decide +kernel
theorem w142_69 : Wp d 142 69 [l0, l1, l2, l3, l4] (.int x :: st) h Q = Wp d 142 71 [l0, l1, l2, kl l3, some (.int x)] st h Q := (W_st1 (pc' := 71) (k := 4) f142_69 rfl rfl (by simp only [List.length_cons, List.length_nil]; omega)).trans (by rw [pst1_succ]; rfl)
theorem f142_71 : fetch 142 71 = some (.aload_n 0, 1, [], .null) := by decide +kernel
theorem w142_71 : Wp d 142 71 [some (.ref a), l1, l2, l3, l4] st h Q = Wp d 142 72 [some (.ref a), l1, l2, l3, l4] (.ref a :: st) h Q := W_go f142_71 rfl
theorem f142_72 : fetch 142 72 = some (.getfield 25, 3, [9, 7, 6051, 0], .null) := by decide +kernel
theorem w142_72 : Wp d 142 72 [l0, l1, l2, l3, l4] (.ref a :: st) h Q = gP (h.2 a) 9 7 (fun w => Wp d 142 75 [l0, l1, l2, l3, l4] (w :: st) h Q) := W_get f142_72 rfl
theorem f142_75 : fetch 142 75 = some (.iload_n 3, 1, [], .null) := by decide +kernel
theorem w142_75 : Wp d 142 75 [l0, l1, l2, some (.int x), l4] st h Q = Wp d 142 76 [l0, l1, l2, some (.int x), l4] (.int x :: st) h Q := W_go f142_75 rfl
theorem f142_76 : fetch 142 76 = some (.dup2, 1, [], .null) := by decide +kernel
theorem w142_76 : Wp d 142 76 [l0, l1, l2, l3, l4] (.int x :: .ref a :: st) h Q = Wp d 142 77 [l0, l1, l2, l3, l4] (.int x :: .ref a :: .int x :: .ref a :: st) h Q := W_go f142_76 rfl
theorem f142_77 : fetch 142 77 = some (.iaload, 1, [], .null) := by decide +kernel
theorem w142_77 : Wp d 142 77 [l0, l1, l2, l3, l4] (.int x :: .ref a :: st) h Q = aP false (h.2 a) x (fun w => Wp d 142 78 [l0, l1, l2, l3, l4] (.int w :: st) h Q) := W_ald f142_77 rfl
theorem f142_78 : fetch 142 78 = some (.iload 4, 2, [], .null) := by decide +kernel
theorem w142_78 : Wp d 142 78 [l0, l1, l2, l3, some (.int x)] st h Q = Wp d 142 80 [l0, l1, l2, l3, some (.int x)] (.int x :: st) h Q := W_go f142_78 rfl
theorem f142_80 : fetch 142 80 = some (.iadd, 1, [], .null) := by decide +kernel
theorem w142_80 : Wp d 142 80 [l0, l1, l2, l3, l4] (.int y :: .int x :: st) h Q = Wp d 142 81 [l0, l1, l2, l3, l4] (.int (x + y) :: st) h Q := W_go f142_80 rfl
theorem f142_81 : fetch 142 81 = some (.iastore, 1, [], .null) := by decide +kernel
theorem w142_81 : Wp d 142 81 [l0, l1, l2, l3, l4] (.int y :: .int x :: .ref a :: st) h Q = asP false (h.2 a) a x y (fun c => Wp d 142 82 [l0, l1, l2, l3, l4] st (hset h a c) Q) := W_ast f142_81 rfl
theorem f142_82 : fetch 142 82 = some (.iload_n 2, 1, [], .null) := by decide +kernel
theorem w142_82 : Wp d 142 82 [l0, l1, some (.int x), l3, l4] st h Q = Wp d 142 83 [l0, l1, some (.int x), l3, l4] (.int x :: st) h Q := W_go f142_82 rfl
theorem f142_83 : fetch 142 83 = some (.iload 4, 2, [], .null) := by decide +kernel
theorem w142_83 : Wp d 142 83 [l0, l1, l2, l3, some (.int x)] st h Q = Wp d 142 85 [l0, l1, l2, l3, some (.int x)] (.int x :: st) h Q := W_go f142_83 rfl
theorem f142_85 : fetch 142 85 = some (.iadd, 1, [], .null) := by decide +kernel
theorem w142_85 : Wp d 142 85 [l0, l1, l2, l3, l4] (.int y :: .int x :: st) h Q = Wp d 142 86 [l0, l1, l2, l3, l4] (.int (x + y) :: st) h Q := W_go f142_85 rfl
theorem f142_86 : fetch 142 86 = some (.istore_n 2, 1, [], .null) := by decide +kernel
theorem w142_86 : Wp d 142 86 [l0, l1, l2, l3, l4] (.int x :: st) h Q = Wp d 142 87 [l0, kl l1, some (.int x), l3, l4] st h Q := (W_st1 (pc' := 87) (k := 2) f142_86 rfl rfl (by simp only [List.length_cons, List.length_nil]; omega)).trans (by rw [pst1_succ]; rfl)
theorem f142_87 : fetch 142 87 = some (.aload_n 0, 1, [], .null) := by decide +kernel
theorem w142_87 : Wp d 142 87 [some (.ref a), l1, l2, l3, l4] st h Q = Wp d 142 88 [some (.ref a), l1, l2, l3, l4] (.ref a :: st) h Q := W_go f142_87 rfl
theorem f142_88 : fetch 142 88 = some (.dup, 1, [], .null) := by decide +kernel
theorem w142_88i : Wp d 142 88 [l0, l1, l2, l3, l4] (.int x :: st) h Q = Wp d 142 89 [l0, l1, l2, l3, l4] (.int x :: .int x :: st) h Q := W_go f142_88 rfl
theorem w142_88 : Wp d 142 88 [l0, l1, l2, l3, l4] (.ref a :: st) h Q = Wp d 142 89 [l0, l1, l2, l3, l4] (.ref a :: .ref a :: st) h Q := W_go f142_88 rfl
theorem f142_89 : fetch 142 89 = some (.getfield 82, 3, [9, 3, 6044, 0], .null) := by decide +kernel
theorem w142_89 : Wp d 142 89 [l0, l1, l2, l3, l4] (.ref a :: st) h Q = gP (h.2 a) 9 3 (fun w => Wp d 142 92 [l0, l1, l2, l3, l4] (w :: st) h Q) := W_get f142_89 rfl
theorem f142_92 : fetch 142 92 = some (.aload_n 0, 1, [], .null) := by decide +kernel
theorem w142_92 : Wp d 142 92 [some (.ref a), l1, l2, l3, l4] st h Q = Wp d 142 93 [some (.ref a), l1, l2, l3, l4] (.ref a :: st) h Q := W_go f142_92 rfl
theorem f142_93 : fetch 142 93 = some (.iload_n 3, 1, [], .null) := by decide +kernel
theorem w142_93 : Wp d 142 93 [l0, l1, l2, some (.int x), l4] st h Q = Wp d 142 94 [l0, l1, l2, some (.int x), l4] (.int x :: st) h Q := W_go f142_93 rfl
theorem f142_94 : fetch 142 94 = some (.invokevirtual 219, 3, [126, 2, 10, 0, 7210, 1015, 7213, 7212, 77], .null) := by decide +kernel
theorem w142_94 (hp : psum st ≤ 8) : Wp d 142 94 [l0, l1, l2, l3, l4] (v1 :: (.ref b) :: st) h Q = rP (h.2 b) 9 (Cp d 126 [(.ref b), v1] h (fun o => cK o (fun w h2 => Wp d 142 97 [l0, l1, l2, l3, l4] (w.toList ++ st) h2 Q) (fun E h2 => Q (.inr E, h2)))) := (W_invV (st := st) f142_94 rfl rfl (by simp only [List.length_cons]; omega) rfl rfl hp).trans (by simp only [hm142, if_true])
theorem f142_97 : fetch 142 97 = some (.iadd, 1, [], .null) := by decide +kernel
theorem w142_97 : Wp d 142 97 [l0, l1, l2, l3, l4] (.int y :: .int x :: st) h Q = Wp d 142 98 [l0, l1, l2, l3, l4] (.int (x + y) :: st) h Q := W_go f142_97 rfl
theorem f142_98 : fetch 142 98 = some (.putfield 82, 3, [9, 3, 6044, 0], .null) := by decide +kernel
theorem w142_98 : Wp d 142 98 [l0, l1, l2, l3, l4] (v :: .ref a :: st) h Q = pP (h.2 a) 9 3 (ftOf 9 3) v a (fun c => Wp d 142 101 [l0, l1, l2, l3, l4] st (hset h a c) Q) := W_put f142_98 (by rfl)
theorem f142_101 : fetch 142 101 = some (.iinc 3 1, 3, [], .null) := by decide +kernel
theorem w142_101 : Wp d 142 101 [l0, l1, l2, some (.int x), l4] st h Q = Wp d 142 104 [l0, l1, kl l2, some (.int (x + (1 : Int32))), l4] st h Q := (W_iinc (y := (1 : Int32)) f142_101 rfl (by simp only [List.length_cons, List.length_nil]; omega) (by decide)).trans (by rw [pst1_succ]; rfl)
theorem f142_104 : fetch 142 104 = some (.goto (-67), 3, [], .null) := by decide +kernel
theorem w142_104 : Wp d 142 104 [l0, l1, l2, l3, l4] st h Q = Wp d 142 37 [l0, l1, l2, l3, l4] st h Q := W_go f142_104 rfl
theorem f142_107 : fetch 142 107 = some (.aload_n 0, 1, [], .null) := by decide +kernel
theorem w142_107 : Wp d 142 107 [some (.ref a), l1, l2, l3, l4] st h Q = Wp d 142 108 [some (.ref a), l1, l2, l3, l4] (.ref a :: st) h Q := W_go f142_107 rfl
theorem f142_108 : fetch 142 108 = some (.dup, 1, [], .null) := by decide +kernel
theorem w142_108i : Wp d 142 108 [l0, l1, l2, l3, l4] (.int x :: st) h Q = Wp d 142 109 [l0, l1, l2, l3, l4] (.int x :: .int x :: st) h Q := W_go f142_108 rfl
theorem w142_108 : Wp d 142 108 [l0, l1, l2, l3, l4] (.ref a :: st) h Q = Wp d 142 109 [l0, l1, l2, l3, l4] (.ref a :: .ref a :: st) h Q := W_go f142_108 rfl
theorem f142_109 : fetch 142 109 = some (.getfield 75, 3, [9, 1, 6040, 0], .null) := by decide +kernel
theorem w142_109 : Wp d 142 109 [l0, l1, l2, l3, l4] (.ref a :: st) h Q = gP (h.2 a) 9 1 (fun w => Wp d 142 112 [l0, l1, l2, l3, l4] (w :: st) h Q) := W_get f142_109 rfl
theorem f142_112 : fetch 142 112 = some (.iconst 1, 1, [], .null) := by decide +kernel
theorem w142_112 : Wp d 142 112 [l0, l1, l2, l3, l4] st h Q = Wp d 142 113 [l0, l1, l2, l3, l4] (.int (1 : Int32) :: st) h Q := W_go f142_112 rfl
theorem f142_113 : fetch 142 113 = some (.iadd, 1, [], .null) := by decide +kernel
theorem w142_113 : Wp d 142 113 [l0, l1, l2, l3, l4] (.int y :: .int x :: st) h Q = Wp d 142 114 [l0, l1, l2, l3, l4] (.int (x + y) :: st) h Q := W_go f142_113 rfl
theorem f142_114 : fetch 142 114 = some (.putfield 75, 3, [9, 1, 6040, 0], .null) := by decide +kernel
theorem w142_114 : Wp d 142 114 [l0, l1, l2, l3, l4] (v :: .ref a :: st) h Q = pP (h.2 a) 9 1 (ftOf 9 1) v a (fun c => Wp d 142 117 [l0, l1, l2, l3, l4] st (hset h a c) Q) := W_put f142_114 (by rfl)
theorem f142_117 : fetch 142 117 = some (.aload_n 0, 1, [], .null) := by decide +kernel
theorem w142_117 : Wp d 142 117 [some (.ref a), l1, l2, l3, l4] st h Q = Wp d 142 118 [some (.ref a), l1, l2, l3, l4] (.ref a :: st) h Q := W_go f142_117 rfl
theorem f142_118 : fetch 142 118 = some (.getfield 75, 3, [9, 1, 6040, 0], .null) := by decide +kernel
theorem w142_118 : Wp d 142 118 [l0, l1, l2, l3, l4] (.ref a :: st) h Q = gP (h.2 a) 9 1 (fun w => Wp d 142 121 [l0, l1, l2, l3, l4] (w :: st) h Q) := W_get f142_118 rfl
theorem f142_121 : fetch 142 121 = some (.bipush 40, 2, [], .null) := by decide +kernel
theorem w142_121 : Wp d 142 121 [l0, l1, l2, l3, l4] st h Q = Wp d 142 123 [l0, l1, l2, l3, l4] (.int (40 : Int32) :: st) h Q := W_go f142_121 rfl
theorem f142_123 : fetch 142 123 = some (.if_icmp .ne 7, 3, [], .null) := by decide +kernel
theorem w142_123 : Wp d 142 123 [l0, l1, l2, l3, l4] (.int y :: .int x :: st) h Q = if icond .ne x y = true then Wp d 142 130 [l0, l1, l2, l3, l4] st h Q else Wp d 142 126 [l0, l1, l2, l3, l4] st h Q := W_if f142_123 rfl
theorem f142_126 : fetch 142 126 = some (.aload_n 0, 1, [], .null) := by decide +kernel
theorem w142_126 : Wp d 142 126 [some (.ref a), l1, l2, l3, l4] st h Q = Wp d 142 127 [some (.ref a), l1, l2, l3, l4] (.ref a :: st) h Q := W_go f142_126 rfl
theorem f142_127 : fetch 142 127 = some (.invokevirtual 222, 3, [141, 1, 10, 0, 7214, 1015, 7217, 7216, 78], .null) := by decide +kernel
theorem w142_127 (hp : psum st ≤ 8) : Wp d 142 127 [l0, l1, l2, l3, l4] ((.ref b) :: st) h Q = rP (h.2 b) 9 (Cp d 141 [(.ref b)] h (fun o => cK o (fun w h2 => Wp d 142 130 [l0, l1, l2, l3, l4] (w.toList ++ st) h2 Q) (fun E h2 => Q (.inr E, h2)))) := (W_invV (st := st) f142_127 rfl rfl (by simp only [List.length_cons]; omega) rfl rfl hp).trans (by simp only [hm142, if_true])
theorem f142_130 : fetch 142 130 = some (.iload_n 2, 1, [], .null) := by decide +kernel
theorem w142_130 : Wp d 142 130 [l0, l1, some (.int x), l3, l4] st h Q = Wp d 142 131 [l0, l1, some (.int x), l3, l4] (.int x :: st) h Q := W_go f142_130 rfl
theorem f142_131 : fetch 142 131 = some (.ireturn, 1, [], .null) := by decide +kernel
theorem w142_131 : Wp d 142 131 [l0, l1, l2, l3, l4] [.int x] h Q = Q (.inl (some (.int x)), h) := W_iret f142_131 hr142
theorem hm143 : mhs 143 = [] := by decide +kernel
theorem hr143 : mret 143 = (some .int) := by decide +kernel
theorem f143_0 : fetch 143 0 = some (.iconst 0, 1, [], .null) := by decide +kernel
theorem w143_0 : Wp d 143 0 [l0, l1, l2, l3] st h Q = Wp d 143 1 [l0, l1, l2, l3] (.int (0 : Int32) :: st) h Q := W_go f143_0 rfl
theorem f143_1 : fetch 143 1 = some (.istore_n 2, 1, [], .null) := by decide +kernel
theorem w143_1 : Wp d 143 1 [l0, l1, l2, l3] (.int x :: st) h Q = Wp d 143 2 [l0, kl l1, some (.int x), l3] st h Q := (W_st1 (pc' := 2) (k := 2) f143_1 rfl rfl (by simp only [List.length_cons, List.length_nil]; omega)).trans (by rw [pst1_succ]; rfl)
theorem f143_2 : fetch 143 2 = some (.iconst 0, 1, [], .null) := by decide +kernel
theorem w143_2 : Wp d 143 2 [l0, l1, l2, l3] st h Q = Wp d 143 3 [l0, l1, l2, l3] (.int (0 : Int32) :: st) h Q := W_go f143_2 rfl
theorem f143_3 : fetch 143 3 = some (.istore_n 3, 1, [], .null) := by decide +kernel
theorem w143_3 : Wp d 143 3 [l0, l1, l2, l3] (.int x :: st) h Q = Wp d 143 4 [l0, l1, kl l2, some (.int x)] st h Q := (W_st1 (pc' := 4) (k := 3) f143_3 rfl rfl (by simp only [List.length_cons, List.length_nil]; omega)).trans (by rw [pst1_succ]; rfl)
theorem f143_4 : fetch 143 4 = some (.iload_n 3, 1, [], .null) := by decide +kernel
theorem w143_4 : Wp d 143 4 [l0, l1, l2, some (.int x)] st h Q = Wp d 143 5 [l0, l1, l2, some (.int x)] (.int x :: st) h Q := W_go f143_4 rfl
theorem f143_5 : fetch 143 5 = some (.iload_n 1, 1, [], .null) := by decide +kernel
theorem w143_5 : Wp d 143 5 [l0, some (.int x), l2, l3] st h Q = Wp d 143 6 [l0, some (.int x), l2, l3] (.int x :: st) h Q := W_go f143_5 rfl
theorem f143_6 : fetch 143 6 = some (.if_icmp .ge 16, 3, [], .null) := by decide +kernel
theorem w143_6 : Wp d 143 6 [l0, l1, l2, l3] (.int y :: .int x :: st) h Q = if icond .ge x y = true then Wp d 143 22 [l0, l1, l2, l3] st h Q else Wp d 143 9 [l0, l1, l2, l3] st h Q := W_if f143_6 rfl
theorem f143_9 : fetch 143 9 = some (.iload_n 2, 1, [], .null) := by decide +kernel
theorem w143_9 : Wp d 143 9 [l0, l1, some (.int x), l3] st h Q = Wp d 143 10 [l0, l1, some (.int x), l3] (.int x :: st) h Q := W_go f143_9 rfl
theorem f143_10 : fetch 143 10 = some (.aload_n 0, 1, [], .null) := by decide +kernel
theorem w143_10 : Wp d 143 10 [some (.ref a), l1, l2, l3] st h Q = Wp d 143 11 [some (.ref a), l1, l2, l3] (.ref a :: st) h Q := W_go f143_10 rfl
theorem f143_11 : fetch 143 11 = some (.invokevirtual 225, 3, [142, 1, 10, 0, 7154, 1015, 7157, 7155, 7156], .null) := by decide +kernel
theorem w143_11 (hp : psum st ≤ 8) : Wp d 143 11 [l0, l1, l2, l3] ((.ref b) :: st) h Q = rP (h.2 b) 9 (Cp d 142 [(.ref b)] h (fun o => cK o (fun w h2 => Wp d 143 14 [l0, l1, l2, l3] (w.toList ++ st) h2 Q) (fun E h2 => Q (.inr E, h2)))) := (W_invV (st := st) f143_11 rfl rfl (by simp only [List.length_cons]; omega) rfl rfl hp).trans (by simp only [hm143, if_true])
theorem f143_14 : fetch 143 14 = some (.iadd, 1, [], .null) := by decide +kernel
theorem w143_14 : Wp d 143 14 [l0, l1, l2, l3] (.int y :: .int x :: st) h Q = Wp d 143 15 [l0, l1, l2, l3] (.int (x + y) :: st) h Q := W_go f143_14 rfl
theorem f143_15 : fetch 143 15 = some (.istore_n 2, 1, [], .null) := by decide +kernel
theorem w143_15 : Wp d 143 15 [l0, l1, l2, l3] (.int x :: st) h Q = Wp d 143 16 [l0, kl l1, some (.int x), l3] st h Q := (W_st1 (pc' := 16) (k := 2) f143_15 rfl rfl (by simp only [List.length_cons, List.length_nil]; omega)).trans (by rw [pst1_succ]; rfl)
theorem f143_16 : fetch 143 16 = some (.iinc 3 1, 3, [], .null) := by decide +kernel
theorem w143_16 : Wp d 143 16 [l0, l1, l2, some (.int x)] st h Q = Wp d 143 19 [l0, l1, kl l2, some (.int (x + (1 : Int32)))] st h Q := (W_iinc (y := (1 : Int32)) f143_16 rfl (by simp only [List.length_cons, List.length_nil]; omega) (by decide)).trans (by rw [pst1_succ]; rfl)
theorem f143_19 : fetch 143 19 = some (.goto (-15), 3, [], .null) := by decide +kernel
theorem w143_19 : Wp d 143 19 [l0, l1, l2, l3] st h Q = Wp d 143 4 [l0, l1, l2, l3] st h Q := W_go f143_19 rfl
theorem f143_22 : fetch 143 22 = some (.iload_n 2, 1, [], .null) := by decide +kernel
theorem w143_22 : Wp d 143 22 [l0, l1, some (.int x), l3] st h Q = Wp d 143 23 [l0, l1, some (.int x), l3] (.int x :: st) h Q := W_go f143_22 rfl
theorem f143_23 : fetch 143 23 = some (.ireturn, 1, [], .null) := by decide +kernel
theorem w143_23 : Wp d 143 23 [l0, l1, l2, l3] [.int x] h Q = Q (.inl (some (.int x)), h) := W_iret f143_23 hr143
theorem hm144 : mhs 144 = [] := by decide +kernel
theorem f144_0 : fetch 144 0 = some (.aload_n 0, 1, [], .null) := by decide +kernel
theorem w144_0 : Wp d 144 0 [some (.ref a)] st h Q = Wp d 144 1 [some (.ref a)] (.ref a :: st) h Q := W_go f144_0 rfl
theorem f144_1 : fetch 144 1 = some (.invokespecial 1, 3, [9999, 5166, 1031, 1032], .null) := by decide +kernel
theorem w144_1 (hp : psum st ≤ 8 ∧ a ≠ 201) : Wp d 144 1 [l0] (.ref a :: st) h Q = Wp d 144 4 [l0] st h Q := W_go f144_1 (by simp only [pstep, if_pos hp]; rfl)
theorem f144_4 : fetch 144 4 = some (.aload_n 0, 1, [], .null) := by decide +kernel
theorem w144_4 : Wp d 144 4 [some (.ref a)] st h Q = Wp d 144 5 [some (.ref a)] (.ref a :: st) h Q := W_go f144_4 rfl
theorem f144_5 : fetch 144 5 = some (.sipush 1600, 3, [], .null) := by decide +kernel
theorem w144_5 : Wp d 144 5 [l0] st h Q = Wp d 144 8 [l0] (.int (1600 : Int32) :: st) h Q := W_go f144_5 rfl
theorem f144_8 : fetch 144 8 = some (.newarray .int, 2, [0, 1141], .null) := by decide +kernel
theorem w144_8 (hx : ¬ x < 0 ∧ x.toNatClampNeg ≤ 60000) : Wp d 144 8 [l0] (.int x :: st) h Q = Wp d 144 10 [l0] (.ref h.1.1 :: st) (hnew h x.toNatClampNeg (.inl (0, arr0 0 x.toNatClampNeg))) Q := W_go f144_8 (by simp only [pstep, pnewa, if_pos hx]; rfl)
theorem f144_10 : fetch 144 10 = some (.putfield 9, 3, [10, 1, 6132, 0], .null) := by decide +kernel
theorem w144_10 : Wp d 144 10 [l0] (v :: .ref a :: st) h Q = pP (h.2 a) 10 1 (ftOf 10 1) v a (fun c => Wp d 144 13 [l0] st (hset h a c) Q) := W_put f144_10 (by rfl)
theorem f144_13 : fetch 144 13 = some (.aload_n 0, 1, [], .null) := by decide +kernel
theorem w144_13 : Wp d 144 13 [some (.ref a)] st h Q = Wp d 144 14 [some (.ref a)] (.ref a :: st) h Q := W_go f144_13 rfl
theorem f144_14 : fetch 144 14 = some (.iconst (-1), 1, [], .null) := by decide +kernel
theorem w144_14 : Wp d 144 14 [l0] st h Q = Wp d 144 15 [l0] (.int (-1 : Int32) :: st) h Q := W_go f144_14 rfl
theorem f144_15 : fetch 144 15 = some (.putfield 13, 3, [10, 3, 6134, 0], .null) := by decide +kernel
theorem w144_15 : Wp d 144 15 [l0] (v :: .ref a :: st) h Q = pP (h.2 a) 10 3 (ftOf 10 3) v a (fun c => Wp d 144 18 [l0] st (hset h a c) Q) := W_put f144_15 (by rfl)
theorem f144_18 : fetch 144 18 = some (.aload_n 0, 1, [], .null) := by decide +kernel
theorem w144_18 : Wp d 144 18 [some (.ref a)] st h Q = Wp d 144 19 [some (.ref a)] (.ref a :: st) h Q := W_go f144_18 rfl
theorem f144_19 : fetch 144 19 = some (.sipush 401, 3, [], .null) := by decide +kernel
theorem w144_19 : Wp d 144 19 [l0] st h Q = Wp d 144 22 [l0] (.int (401 : Int32) :: st) h Q := W_go f144_19 rfl
theorem f144_22 : fetch 144 22 = some (.newarray .int, 2, [0, 1141], .null) := by decide +kernel
theorem w144_22 (hx : ¬ x < 0 ∧ x.toNatClampNeg ≤ 60000) : Wp d 144 22 [l0] (.int x :: st) h Q = Wp d 144 24 [l0] (.ref h.1.1 :: st) (hnew h x.toNatClampNeg (.inl (0, arr0 0 x.toNatClampNeg))) Q := W_go f144_22 (by simp only [pstep, pnewa, if_pos hx]; rfl)
theorem f144_24 : fetch 144 24 = some (.putfield 17, 3, [10, 4, 6135, 0], .null) := by decide +kernel
theorem w144_24 : Wp d 144 24 [l0] (v :: .ref a :: st) h Q = pP (h.2 a) 10 4 (ftOf 10 4) v a (fun c => Wp d 144 27 [l0] st (hset h a c) Q) := W_put f144_24 (by rfl)
theorem f144_27 : fetch 144 27 = some (.aload_n 0, 1, [], .null) := by decide +kernel
theorem w144_27 : Wp d 144 27 [some (.ref a)] st h Q = Wp d 144 28 [some (.ref a)] (.ref a :: st) h Q := W_go f144_27 rfl
theorem f144_28 : fetch 144 28 = some (.sipush 401, 3, [], .null) := by decide +kernel
theorem w144_28 : Wp d 144 28 [l0] st h Q = Wp d 144 31 [l0] (.int (401 : Int32) :: st) h Q := W_go f144_28 rfl
theorem f144_31 : fetch 144 31 = some (.newarray .int, 2, [0, 1141], .null) := by decide +kernel
theorem w144_31 (hx : ¬ x < 0 ∧ x.toNatClampNeg ≤ 60000) : Wp d 144 31 [l0] (.int x :: st) h Q = Wp d 144 33 [l0] (.ref h.1.1 :: st) (hnew h x.toNatClampNeg (.inl (0, arr0 0 x.toNatClampNeg))) Q := W_go f144_31 (by simp only [pstep, pnewa, if_pos hx]; rfl)
theorem f144_33 : fetch 144 33 = some (.putfield 20, 3, [10, 5, 6136, 0], .null) := by decide +kernel
theorem w144_33 : Wp d 144 33 [l0] (v :: .ref a :: st) h Q = pP (h.2 a) 10 5 (ftOf 10 5) v a (fun c => Wp d 144 36 [l0] st (hset h a c) Q) := W_put f144_33 (by rfl)
theorem f144_36 : fetch 144 36 = some (.aload_n 0, 1, [], .null) := by decide +kernel
theorem w144_36 : Wp d 144 36 [some (.ref a)] st h Q = Wp d 144 37 [some (.ref a)] (.ref a :: st) h Q := W_go f144_36 rfl
theorem f144_37 : fetch 144 37 = some (.sipush 401, 3, [], .null) := by decide +kernel
theorem w144_37 : Wp d 144 37 [l0] st h Q = Wp d 144 40 [l0] (.int (401 : Int32) :: st) h Q := W_go f144_37 rfl
theorem f144_40 : fetch 144 40 = some (.newarray .int, 2, [0, 1141], .null) := by decide +kernel
theorem w144_40 (hx : ¬ x < 0 ∧ x.toNatClampNeg ≤ 60000) : Wp d 144 40 [l0] (.int x :: st) h Q = Wp d 144 42 [l0] (.ref h.1.1 :: st) (hnew h x.toNatClampNeg (.inl (0, arr0 0 x.toNatClampNeg))) Q := W_go f144_40 (by simp only [pstep, pnewa, if_pos hx]; rfl)
theorem f144_42 : fetch 144 42 = some (.putfield 23, 3, [10, 6, 6137, 0], .null) := by decide +kernel
theorem w144_42 : Wp d 144 42 [l0] (v :: .ref a :: st) h Q = pP (h.2 a) 10 6 (ftOf 10 6) v a (fun c => Wp d 144 45 [l0] st (hset h a c) Q) := W_put f144_42 (by rfl)
theorem f144_45 : fetch 144 45 = some (.aload_n 0, 1, [], .null) := by decide +kernel
theorem w144_45 : Wp d 144 45 [some (.ref a)] st h Q = Wp d 144 46 [some (.ref a)] (.ref a :: st) h Q := W_go f144_45 rfl
theorem f144_46 : fetch 144 46 = some (.sipush 401, 3, [], .null) := by decide +kernel
theorem w144_46 : Wp d 144 46 [l0] st h Q = Wp d 144 49 [l0] (.int (401 : Int32) :: st) h Q := W_go f144_46 rfl
theorem f144_49 : fetch 144 49 = some (.newarray .int, 2, [0, 1141], .null) := by decide +kernel
theorem w144_49 (hx : ¬ x < 0 ∧ x.toNatClampNeg ≤ 60000) : Wp d 144 49 [l0] (.int x :: st) h Q = Wp d 144 51 [l0] (.ref h.1.1 :: st) (hnew h x.toNatClampNeg (.inl (0, arr0 0 x.toNatClampNeg))) Q := W_go f144_49 (by simp only [pstep, pnewa, if_pos hx]; rfl)
theorem f144_51 : fetch 144 51 = some (.putfield 26, 3, [10, 7, 6138, 0], .null) := by decide +kernel
theorem w144_51 : Wp d 144 51 [l0] (v :: .ref a :: st) h Q = pP (h.2 a) 10 7 (ftOf 10 7) v a (fun c => Wp d 144 54 [l0] st (hset h a c) Q) := W_put f144_51 (by rfl)
theorem f144_54 : fetch 144 54 = some (.aload_n 0, 1, [], .null) := by decide +kernel
theorem w144_54 : Wp d 144 54 [some (.ref a)] st h Q = Wp d 144 55 [some (.ref a)] (.ref a :: st) h Q := W_go f144_54 rfl
theorem f144_55 : fetch 144 55 = some (.new 29, 3, [8, 5167, 5168, 1014], .null) := by decide +kernel
theorem w144_55 : Wp d 144 55 [l0] st h Q = Wp d 144 58 [l0] (.ref h.1.1 :: st) (hnew h (pdef 8).length (.inr (8, pdef 8))) Q := W_go f144_55 rfl
theorem f144_58 : fetch 144 58 = some (.dup, 1, [], .null) := by decide +kernel
theorem w144_58i : Wp d 144 58 [l0] (.int x :: st) h Q = Wp d 144 59 [l0] (.int x :: .int x :: st) h Q := W_go f144_58 rfl
theorem w144_58 : Wp d 144 58 [l0] (.ref a :: st) h Q = Wp d 144 59 [l0] (.ref a :: .ref a :: st) h Q := W_go f144_58 rfl
theorem f144_59 : fetch 144 59 = some (.invokespecial 31, 3, [118, 1, 0, 1, 5169, 1014, 5171, 5170], .null) := by decide +kernel
theorem w144_59 (hp : psum st ≤ 8) (hb : b ≠ 201) : Wp d 144 59 [l0] ((.ref b) :: st) h Q = Cp d 118 [(.ref b)] h (fun o => cK o (fun w h2 => Wp d 144 62 [l0] (w.toList ++ st) h2 Q) (fun _ _ => False)) := (W_invI (st := st) f144_59 rfl rfl (by simp only [List.length_cons]; omega) rfl rfl hp hb)
theorem f144_62 : fetch 144 62 = some (.putfield 32, 3, [10, 10, 6141, 0], .null) := by decide +kernel
theorem w144_62 : Wp d 144 62 [l0] (v :: .ref a :: st) h Q = pP (h.2 a) 10 10 (ftOf 10 10) v a (fun c => Wp d 144 65 [l0] st (hset h a c) Q) := W_put f144_62 (by rfl)
theorem f144_65 : fetch 144 65 = some (.aload_n 0, 1, [], .null) := by decide +kernel
theorem w144_65 : Wp d 144 65 [some (.ref a)] st h Q = Wp d 144 66 [some (.ref a)] (.ref a :: st) h Q := W_go f144_65 rfl
theorem f144_66 : fetch 144 66 = some (.aload_n 0, 1, [], .null) := by decide +kernel
theorem w144_66 : Wp d 144 66 [some (.ref a)] st h Q = Wp d 144 67 [some (.ref a)] (.ref a :: st) h Q := W_go f144_66 rfl
theorem f144_67 : fetch 144 67 = some (.getfield 32, 3, [10, 10, 6141, 0], .null) := by decide +kernel
theorem w144_67 : Wp d 144 67 [l0] (.ref a :: st) h Q = gP (h.2 a) 10 10 (fun w => Wp d 144 70 [l0] (w :: st) h Q) := W_get f144_67 rfl
theorem f144_70 : fetch 144 70 = some (.putfield 36, 3, [10, 11, 6143, 0], .null) := by decide +kernel
theorem w144_70 : Wp d 144 70 [l0] (v :: .ref a :: st) h Q = pP (h.2 a) 10 11 (ftOf 10 11) v a (fun c => Wp d 144 73 [l0] st (hset h a c) Q) := W_put f144_70 (by rfl)
theorem f144_73 : fetch 144 73 = some (.aload_n 0, 1, [], .null) := by decide +kernel
theorem w144_73 : Wp d 144 73 [some (.ref a)] st h Q = Wp d 144 74 [some (.ref a)] (.ref a :: st) h Q := W_go f144_73 rfl
theorem f144_74 : fetch 144 74 = some (.iconst 3, 1, [], .null) := by decide +kernel
theorem w144_74 : Wp d 144 74 [l0] st h Q = Wp d 144 75 [l0] (.int (3 : Int32) :: st) h Q := W_go f144_74 rfl
theorem f144_75 : fetch 144 75 = some (.newarray .int, 2, [0, 1141], .null) := by decide +kernel
theorem w144_75 (hx : ¬ x < 0 ∧ x.toNatClampNeg ≤ 60000) : Wp d 144 75 [l0] (.int x :: st) h Q = Wp d 144 77 [l0] (.ref h.1.1 :: st) (hnew h x.toNatClampNeg (.inl (0, arr0 0 x.toNatClampNeg))) Q := W_go f144_75 (by simp only [pstep, pnewa, if_pos hx]; rfl)
theorem f144_77 : fetch 144 77 = some (.putfield 39, 3, [10, 13, 6146, 0], .null) := by decide +kernel
theorem w144_77 : Wp d 144 77 [l0] (v :: .ref a :: st) h Q = pP (h.2 a) 10 13 (ftOf 10 13) v a (fun c => Wp d 144 80 [l0] st (hset h a c) Q) := W_put f144_77 (by rfl)
theorem f144_80 : fetch 144 80 = some (.aload_n 0, 1, [], .null) := by decide +kernel
theorem w144_80 : Wp d 144 80 [some (.ref a)] st h Q = Wp d 144 81 [some (.ref a)] (.ref a :: st) h Q := W_go f144_80 rfl
theorem f144_81 : fetch 144 81 = some (.new 42, 3, [9, 6032, 6033, 1015], .null) := by decide +kernel
theorem w144_81 : Wp d 144 81 [l0] st h Q = Wp d 144 84 [l0] (.ref h.1.1 :: st) (hnew h (pdef 9).length (.inr (9, pdef 9))) Q := W_go f144_81 rfl
theorem f144_84 : fetch 144 84 = some (.dup, 1, [], .null) := by decide +kernel
theorem w144_84i : Wp d 144 84 [l0] (.int x :: st) h Q = Wp d 144 85 [l0] (.int x :: .int x :: st) h Q := W_go f144_84 rfl
theorem w144_84 : Wp d 144 84 [l0] (.ref a :: st) h Q = Wp d 144 85 [l0] (.ref a :: .ref a :: st) h Q := W_go f144_84 rfl
theorem f144_85 : fetch 144 85 = some (.aload_n 0, 1, [], .null) := by decide +kernel
theorem w144_85 : Wp d 144 85 [some (.ref a)] st h Q = Wp d 144 86 [some (.ref a)] (.ref a :: st) h Q := W_go f144_85 rfl
theorem f144_86 : fetch 144 86 = some (.invokespecial 44, 3, [120, 2, 0, 1, 6034, 1015, 6036, 6035], .null) := by decide +kernel
theorem w144_86 (hp : psum st ≤ 8) (hb : b ≠ 201) : Wp d 144 86 [l0] (v1 :: (.ref b) :: st) h Q = Cp d 120 [(.ref b), v1] h (fun o => cK o (fun w h2 => Wp d 144 89 [l0] (w.toList ++ st) h2 Q) (fun _ _ => False)) := (W_invI (st := st) f144_86 rfl rfl (by simp only [List.length_cons]; omega) rfl rfl hp hb)
theorem f144_89 : fetch 144 89 = some (.putfield 47, 3, [10, 14, 6148, 0], .null) := by decide +kernel
theorem w144_89 : Wp d 144 89 [l0] (v :: .ref a :: st) h Q = pP (h.2 a) 10 14 (ftOf 10 14) v a (fun c => Wp d 144 92 [l0] st (hset h a c) Q) := W_put f144_89 (by rfl)
theorem f144_92 : fetch 144 92 = some (.aload_n 0, 1, [], .null) := by decide +kernel
theorem w144_92 : Wp d 144 92 [some (.ref a)] st h Q = Wp d 144 93 [some (.ref a)] (.ref a :: st) h Q := W_go f144_92 rfl
theorem f144_93 : fetch 144 93 = some (.new 42, 3, [9, 6032, 6033, 1015], .null) := by decide +kernel
theorem w144_93 : Wp d 144 93 [l0] st h Q = Wp d 144 96 [l0] (.ref h.1.1 :: st) (hnew h (pdef 9).length (.inr (9, pdef 9))) Q := W_go f144_93 rfl
theorem f144_96 : fetch 144 96 = some (.dup, 1, [], .null) := by decide +kernel
theorem w144_96i : Wp d 144 96 [l0] (.int x :: st) h Q = Wp d 144 97 [l0] (.int x :: .int x :: st) h Q := W_go f144_96 rfl
theorem w144_96 : Wp d 144 96 [l0] (.ref a :: st) h Q = Wp d 144 97 [l0] (.ref a :: .ref a :: st) h Q := W_go f144_96 rfl
theorem f144_97 : fetch 144 97 = some (.aload_n 0, 1, [], .null) := by decide +kernel
theorem w144_97 : Wp d 144 97 [some (.ref a)] st h Q = Wp d 144 98 [some (.ref a)] (.ref a :: st) h Q := W_go f144_97 rfl
theorem f144_98 : fetch 144 98 = some (.invokespecial 44, 3, [120, 2, 0, 1, 6034, 1015, 6036, 6035], .null) := by decide +kernel
theorem w144_98 (hp : psum st ≤ 8) (hb : b ≠ 201) : Wp d 144 98 [l0] (v1 :: (.ref b) :: st) h Q = Cp d 120 [(.ref b), v1] h (fun o => cK o (fun w h2 => Wp d 144 101 [l0] (w.toList ++ st) h2 Q) (fun _ _ => False)) := (W_invI (st := st) f144_98 rfl rfl (by simp only [List.length_cons]; omega) rfl rfl hp hb)
theorem f144_101 : fetch 144 101 = some (.putfield 51, 3, [10, 15, 6149, 0], .null) := by decide +kernel
theorem w144_101 : Wp d 144 101 [l0] (v :: .ref a :: st) h Q = pP (h.2 a) 10 15 (ftOf 10 15) v a (fun c => Wp d 144 104 [l0] st (hset h a c) Q) := W_put f144_101 (by rfl)
theorem f144_104 : fetch 144 104 = some (.aload_n 0, 1, [], .null) := by decide +kernel
theorem w144_104 : Wp d 144 104 [some (.ref a)] st h Q = Wp d 144 105 [some (.ref a)] (.ref a :: st) h Q := W_go f144_104 rfl
theorem f144_105 : fetch 144 105 = some (.getfield 47, 3, [10, 14, 6148, 0], .null) := by decide +kernel
theorem w144_105 : Wp d 144 105 [l0] (.ref a :: st) h Q = gP (h.2 a) 10 14 (fun w => Wp d 144 108 [l0] (w :: st) h Q) := W_get f144_105 rfl
theorem f144_108 : fetch 144 108 = some (.invokevirtual 54, 3, [123, 1, 10, 0, 6119, 1015, 6122, 6120, 6121], .null) := by decide +kernel
theorem w144_108 (hp : psum st ≤ 8) : Wp d 144 108 [l0] ((.ref b) :: st) h Q = rP (h.2 b) 9 (Cp d 123 [(.ref b)] h (fun o => cK o (fun w h2 => Wp d 144 111 [l0] (w.toList ++ st) h2 Q) (fun E h2 => Q (.inr E, h2)))) := (W_invV (st := st) f144_108 rfl rfl (by simp only [List.length_cons]; omega) rfl rfl hp).trans (by simp only [hm144, if_true])
theorem f144_111 : fetch 144 111 = some (.return_, 1, [], .null) := by decide +kernel
theorem w144_111 : Wp d 144 111 [l0] [] h Q = Q (.inl none, h) := W_fin f144_111 rfl
theorem hm145 : mhs 145 = [] := by decide +kernel
theorem hr145 : mret 145 = (some .int) := by decide +kernel
theorem f145_0 : fetch 145 0 = some (.aload_n 0, 1, [], .null) := by decide +kernel
theorem w145_0 : Wp d 145 0 [some (.ref a)] st h Q = Wp d 145 1 [some (.ref a)] (.ref a :: st) h Q := W_go f145_0 rfl
theorem f145_1 : fetch 145 1 = some (.getfield 57, 3, [10, 0, 6131, 0], .null) := by decide +kernel
theorem w145_1 : Wp d 145 1 [l0] (.ref a :: st) h Q = gP (h.2 a) 10 0 (fun w => Wp d 145 4 [l0] (w :: st) h Q) := W_get f145_1 rfl
theorem f145_4 : fetch 145 4 = some (.ireturn, 1, [], .null) := by decide +kernel
theorem w145_4 : Wp d 145 4 [l0] [.int x] h Q = Q (.inl (some (.int x)), h) := W_iret f145_4 hr145
theorem hm146 : mhs 146 = [] := by decide +kernel
theorem hr146 : mret 146 = (some .int) := by decide +kernel
theorem f146_0 : fetch 146 0 = some (.aload_n 0, 1, [], .null) := by decide +kernel
theorem w146_0 : Wp d 146 0 [some (.ref a), l1] st h Q = Wp d 146 1 [some (.ref a), l1] (.ref a :: st) h Q := W_go f146_0 rfl
theorem f146_1 : fetch 146 1 = some (.iload_n 1, 1, [], .null) := by decide +kernel
theorem w146_1 : Wp d 146 1 [l0, some (.int x)] st h Q = Wp d 146 2 [l0, some (.int x)] (.int x :: st) h Q := W_go f146_1 rfl
theorem f146_2 : fetch 146 2 = some (.putfield 57, 3, [10, 0, 6131, 0], .null) := by decide +kernel
theorem w146_2 : Wp d 146 2 [l0, l1] (v :: .ref a :: st) h Q = pP (h.2 a) 10 0 (ftOf 10 0) v a (fun c => Wp d 146 5 [l0, l1] st (hset h a c) Q) := W_put f146_2 (by rfl)
theorem f146_5 : fetch 146 5 = some (.iconst 0, 1, [], .null) := by decide +kernel
theorem w146_5 : Wp d 146 5 [l0, l1] st h Q = Wp d 146 6 [l0, l1] (.int (0 : Int32) :: st) h Q := W_go f146_5 rfl
theorem f146_6 : fetch 146 6 = some (.ireturn, 1, [], .null) := by decide +kernel
theorem w146_6 : Wp d 146 6 [l0, l1] [.int x] h Q = Q (.inl (some (.int x)), h) := W_iret f146_6 hr146
theorem hm147 : mhs 147 = [] := by decide +kernel
theorem hr147 : mret 147 = (some .boolean) := by decide +kernel
theorem f147_0 : fetch 147 0 = some (.aload_n 0, 1, [], .null) := by decide +kernel
theorem w147_0 : Wp d 147 0 [some (.ref a), l1] st h Q = Wp d 147 1 [some (.ref a), l1] (.ref a :: st) h Q := W_go f147_0 rfl
theorem f147_1 : fetch 147 1 = some (.iload_n 1, 1, [], .null) := by decide +kernel
theorem w147_1 : Wp d 147 1 [l0, some (.int x)] st h Q = Wp d 147 2 [l0, some (.int x)] (.int x :: st) h Q := W_go f147_1 rfl
theorem f147_2 : fetch 147 2 = some (.putfield 57, 3, [10, 0, 6131, 0], .null) := by decide +kernel
theorem w147_2 : Wp d 147 2 [l0, l1] (v :: .ref a :: st) h Q = pP (h.2 a) 10 0 (ftOf 10 0) v a (fun c => Wp d 147 5 [l0, l1] st (hset h a c) Q) := W_put f147_2 (by rfl)
theorem f147_5 : fetch 147 5 = some (.iconst 0, 1, [], .null) := by decide +kernel
theorem w147_5 : Wp d 147 5 [l0, l1] st h Q = Wp d 147 6 [l0, l1] (.int (0 : Int32) :: st) h Q := W_go f147_5 rfl
theorem f147_6 : fetch 147 6 = some (.ireturn, 1, [], .null) := by decide +kernel
theorem w147_6 : Wp d 147 6 [l0, l1] [.int x] h Q = (if narrow .boolean (.int x) = .int x then Q (.inl (some (.int x)), h) else False) := W_zret f147_6 hr147
theorem hm148 : mhs 148 = [] := by decide +kernel
theorem hr148 : mret 148 = (some .boolean) := by decide +kernel
theorem f148_0 : fetch 148 0 = some (.iload_n 0, 1, [], .null) := by decide +kernel
theorem w148_0 : Wp d 148 0 [some (.int x), l1, l2] st h Q = Wp d 148 1 [some (.int x), l1, l2] (.int x :: st) h Q := W_go f148_0 rfl
theorem f148_1 : fetch 148 1 = some (.iload_n 1, 1, [], .null) := by decide +kernel
theorem w148_1 : Wp d 148 1 [l0, some (.int x), l2] st h Q = Wp d 148 2 [l0, some (.int x), l2] (.int x :: st) h Q := W_go f148_1 rfl
theorem f148_2 : fetch 148 2 = some (.if_icmp .lt 12, 3, [], .null) := by decide +kernel
theorem w148_2 : Wp d 148 2 [l0, l1, l2] (.int y :: .int x :: st) h Q = if icond .lt x y = true then Wp d 148 14 [l0, l1, l2] st h Q else Wp d 148 5 [l0, l1, l2] st h Q := W_if f148_2 rfl
theorem f148_5 : fetch 148 5 = some (.iload_n 0, 1, [], .null) := by decide +kernel
theorem w148_5 : Wp d 148 5 [some (.int x), l1, l2] st h Q = Wp d 148 6 [some (.int x), l1, l2] (.int x :: st) h Q := W_go f148_5 rfl
theorem f148_6 : fetch 148 6 = some (.iload_n 2, 1, [], .null) := by decide +kernel
theorem w148_6 : Wp d 148 6 [l0, l1, some (.int x)] st h Q = Wp d 148 7 [l0, l1, some (.int x)] (.int x :: st) h Q := W_go f148_6 rfl
theorem f148_7 : fetch 148 7 = some (.if_icmp .gt 7, 3, [], .null) := by decide +kernel
theorem w148_7 : Wp d 148 7 [l0, l1, l2] (.int y :: .int x :: st) h Q = if icond .gt x y = true then Wp d 148 14 [l0, l1, l2] st h Q else Wp d 148 10 [l0, l1, l2] st h Q := W_if f148_7 rfl
theorem f148_10 : fetch 148 10 = some (.iconst 1, 1, [], .null) := by decide +kernel
theorem w148_10 : Wp d 148 10 [l0, l1, l2] st h Q = Wp d 148 11 [l0, l1, l2] (.int (1 : Int32) :: st) h Q := W_go f148_10 rfl
theorem f148_11 : fetch 148 11 = some (.goto 4, 3, [], .null) := by decide +kernel
theorem w148_11 : Wp d 148 11 [l0, l1, l2] st h Q = Wp d 148 15 [l0, l1, l2] st h Q := W_go f148_11 rfl
theorem f148_14 : fetch 148 14 = some (.iconst 0, 1, [], .null) := by decide +kernel
theorem w148_14 : Wp d 148 14 [l0, l1, l2] st h Q = Wp d 148 15 [l0, l1, l2] (.int (0 : Int32) :: st) h Q := W_go f148_14 rfl
theorem f148_15 : fetch 148 15 = some (.ireturn, 1, [], .null) := by decide +kernel
theorem w148_15 : Wp d 148 15 [l0, l1, l2] [.int x] h Q = (if narrow .boolean (.int x) = .int x then Q (.inl (some (.int x)), h) else False) := W_zret f148_15 hr148
theorem hm149 : mhs 149 = [] := by decide +kernel
theorem hr149 : mret 149 = (some .boolean) := by decide +kernel
theorem f149_0 : fetch 149 0 = some (.iload_n 1, 1, [], .null) := by decide +kernel
theorem w149_0 : Wp d 149 0 [l0, some (.int x)] st h Q = Wp d 149 1 [l0, some (.int x)] (.int x :: st) h Q := W_go f149_0 rfl
theorem f149_1 : fetch 149 1 = some (.iconst 0, 1, [], .null) := by decide +kernel
theorem w149_1 : Wp d 149 1 [l0, l1] st h Q = Wp d 149 2 [l0, l1] (.int (0 : Int32) :: st) h Q := W_go f149_1 rfl
theorem f149_2 : fetch 149 2 = some (.aload_n 0, 1, [], .null) := by decide +kernel
theorem w149_2 : Wp d 149 2 [some (.ref a), l1] st h Q = Wp d 149 3 [some (.ref a), l1] (.ref a :: st) h Q := W_go f149_2 rfl
theorem f149_3 : fetch 149 3 = some (.getfield 32, 3, [10, 10, 6141, 0], .null) := by decide +kernel
theorem w149_3 : Wp d 149 3 [l0, l1] (.ref a :: st) h Q = gP (h.2 a) 10 10 (fun w => Wp d 149 6 [l0, l1] (w :: st) h Q) := W_get f149_3 rfl
theorem f149_6 : fetch 149 6 = some (.getfield 60, 3, [8, 0, 5174, 1], .null) := by decide +kernel
theorem w149_6 : Wp d 149 6 [l0, l1] (.ref a :: st) h Q = gP (h.2 a) 8 0 (fun w => Wp d 149 9 [l0, l1] (w :: st) h Q) := W_get f149_6 rfl
theorem f149_9 : fetch 149 9 = some (.iconst 1, 1, [], .null) := by decide +kernel
theorem w149_9 : Wp d 149 9 [l0, l1] st h Q = Wp d 149 10 [l0, l1] (.int (1 : Int32) :: st) h Q := W_go f149_9 rfl
theorem f149_10 : fetch 149 10 = some (.isub, 1, [], .null) := by decide +kernel
theorem w149_10 : Wp d 149 10 [l0, l1] (.int y :: .int x :: st) h Q = Wp d 149 11 [l0, l1] (.int (x - y) :: st) h Q := W_go f149_10 rfl
theorem f149_11 : fetch 149 11 = some (.invokestatic 63, 3, [148, 3, 0, 0, 6199, 1013, 6201, 6200], .null) := by decide +kernel
theorem w149_11 (hp : psum st ≤ 8) : Wp d 149 11 [l0, l1] (v2 :: v1 :: v0 :: st) h Q = Cp d 148 [v0, v1, v2] h (fun o => cK o (fun w h2 => Wp d 149 14 [l0, l1] (w.toList ++ st) h2 Q) (fun _ _ => False)) := (W_invS (st := st) f149_11 rfl rfl (by simp only [List.length_cons]; omega) rfl rfl hp)
theorem f149_14 : fetch 149 14 = some (.ireturn, 1, [], .null) := by decide +kernel
theorem w149_14 : Wp d 149 14 [l0, l1] [.int x] h Q = (if narrow .boolean (.int x) = .int x then Q (.inl (some (.int x)), h) else False) := W_zret f149_14 hr149
theorem hm150 : mhs 150 = [] := by decide +kernel
theorem hr150 : mret 150 = (some .boolean) := by decide +kernel
theorem f150_0 : fetch 150 0 = some (.iload_n 1, 1, [], .null) := by decide +kernel
theorem w150_0 : Wp d 150 0 [l0, some (.int x)] st h Q = Wp d 150 1 [l0, some (.int x)] (.int x :: st) h Q := W_go f150_0 rfl
theorem f150_1 : fetch 150 1 = some (.iconst 0, 1, [], .null) := by decide +kernel
theorem w150_1 : Wp d 150 1 [l0, l1] st h Q = Wp d 150 2 [l0, l1] (.int (0 : Int32) :: st) h Q := W_go f150_1 rfl
theorem f150_2 : fetch 150 2 = some (.aload_n 0, 1, [], .null) := by decide +kernel
theorem w150_2 : Wp d 150 2 [some (.ref a), l1] st h Q = Wp d 150 3 [some (.ref a), l1] (.ref a :: st) h Q := W_go f150_2 rfl
theorem f150_3 : fetch 150 3 = some (.getfield 67, 3, [10, 12, 6145, 0], .null) := by decide +kernel
theorem w150_3 : Wp d 150 3 [l0, l1] (.ref a :: st) h Q = gP (h.2 a) 10 12 (fun w => Wp d 150 6 [l0, l1] (w :: st) h Q) := W_get f150_3 rfl
theorem f150_6 : fetch 150 6 = some (.iconst 1, 1, [], .null) := by decide +kernel
theorem w150_6 : Wp d 150 6 [l0, l1] st h Q = Wp d 150 7 [l0, l1] (.int (1 : Int32) :: st) h Q := W_go f150_6 rfl
theorem f150_7 : fetch 150 7 = some (.isub, 1, [], .null) := by decide +kernel
theorem w150_7 : Wp d 150 7 [l0, l1] (.int y :: .int x :: st) h Q = Wp d 150 8 [l0, l1] (.int (x - y) :: st) h Q := W_go f150_7 rfl
theorem f150_8 : fetch 150 8 = some (.invokestatic 63, 3, [148, 3, 0, 0, 6199, 1013, 6201, 6200], .null) := by decide +kernel
theorem w150_8 (hp : psum st ≤ 8) : Wp d 150 8 [l0, l1] (v2 :: v1 :: v0 :: st) h Q = Cp d 148 [v0, v1, v2] h (fun o => cK o (fun w h2 => Wp d 150 11 [l0, l1] (w.toList ++ st) h2 Q) (fun _ _ => False)) := (W_invS (st := st) f150_8 rfl rfl (by simp only [List.length_cons]; omega) rfl rfl hp)
theorem f150_11 : fetch 150 11 = some (.ireturn, 1, [], .null) := by decide +kernel
theorem w150_11 : Wp d 150 11 [l0, l1] [.int x] h Q = (if narrow .boolean (.int x) = .int x then Q (.inl (some (.int x)), h) else False) := W_zret f150_11 hr150
theorem hm151 : mhs 151 = [] := by decide +kernel
theorem hr151 : mret 151 = (some .boolean) := by decide +kernel
theorem f151_0 : fetch 151 0 = some (.iload_n 0, 1, [], .null) := by decide +kernel
theorem w151_0 : Wp d 151 0 [some (.int x)] st h Q = Wp d 151 1 [some (.int x)] (.int x :: st) h Q := W_go f151_0 rfl
theorem f151_1 : fetch 151 1 = some (.bipush 97, 2, [], .null) := by decide +kernel
theorem w151_1 : Wp d 151 1 [l0] st h Q = Wp d 151 3 [l0] (.int (97 : Int32) :: st) h Q := W_go f151_1 rfl
theorem f151_3 : fetch 151 3 = some (.if_icmp .lt 13, 3, [], .null) := by decide +kernel
theorem w151_3 : Wp d 151 3 [l0] (.int y :: .int x :: st) h Q = if icond .lt x y = true then Wp d 151 16 [l0] st h Q else Wp d 151 6 [l0] st h Q := W_if f151_3 rfl
theorem f151_6 : fetch 151 6 = some (.iload_n 0, 1, [], .null) := by decide +kernel
theorem w151_6 : Wp d 151 6 [some (.int x)] st h Q = Wp d 151 7 [some (.int x)] (.int x :: st) h Q := W_go f151_6 rfl
theorem f151_7 : fetch 151 7 = some (.bipush 122, 2, [], .null) := by decide +kernel
theorem w151_7 : Wp d 151 7 [l0] st h Q = Wp d 151 9 [l0] (.int (122 : Int32) :: st) h Q := W_go f151_7 rfl
theorem f151_9 : fetch 151 9 = some (.if_icmp .gt 7, 3, [], .null) := by decide +kernel
theorem w151_9 : Wp d 151 9 [l0] (.int y :: .int x :: st) h Q = if icond .gt x y = true then Wp d 151 16 [l0] st h Q else Wp d 151 12 [l0] st h Q := W_if f151_9 rfl
theorem f151_12 : fetch 151 12 = some (.iconst 1, 1, [], .null) := by decide +kernel
theorem w151_12 : Wp d 151 12 [l0] st h Q = Wp d 151 13 [l0] (.int (1 : Int32) :: st) h Q := W_go f151_12 rfl
theorem f151_13 : fetch 151 13 = some (.goto 4, 3, [], .null) := by decide +kernel
theorem w151_13 : Wp d 151 13 [l0] st h Q = Wp d 151 17 [l0] st h Q := W_go f151_13 rfl
theorem f151_16 : fetch 151 16 = some (.iconst 0, 1, [], .null) := by decide +kernel
theorem w151_16 : Wp d 151 16 [l0] st h Q = Wp d 151 17 [l0] (.int (0 : Int32) :: st) h Q := W_go f151_16 rfl
theorem f151_17 : fetch 151 17 = some (.ireturn, 1, [], .null) := by decide +kernel
theorem w151_17 : Wp d 151 17 [l0] [.int x] h Q = (if narrow .boolean (.int x) = .int x then Q (.inl (some (.int x)), h) else False) := W_zret f151_17 hr151
theorem hm152 : mhs 152 = [] := by decide +kernel
theorem hr152 : mret 152 = (some .boolean) := by decide +kernel
theorem f152_0 : fetch 152 0 = some (.iload_n 0, 1, [], .null) := by decide +kernel
theorem w152_0 : Wp d 152 0 [some (.int x)] st h Q = Wp d 152 1 [some (.int x)] (.int x :: st) h Q := W_go f152_0 rfl
theorem f152_1 : fetch 152 1 = some (.bipush 48, 2, [], .null) := by decide +kernel
theorem w152_1 : Wp d 152 1 [l0] st h Q = Wp d 152 3 [l0] (.int (48 : Int32) :: st) h Q := W_go f152_1 rfl
theorem f152_3 : fetch 152 3 = some (.if_icmp .lt 13, 3, [], .null) := by decide +kernel
theorem w152_3 : Wp d 152 3 [l0] (.int y :: .int x :: st) h Q = if icond .lt x y = true then Wp d 152 16 [l0] st h Q else Wp d 152 6 [l0] st h Q := W_if f152_3 rfl
theorem f152_6 : fetch 152 6 = some (.iload_n 0, 1, [], .null) := by decide +kernel
theorem w152_6 : Wp d 152 6 [some (.int x)] st h Q = Wp d 152 7 [some (.int x)] (.int x :: st) h Q := W_go f152_6 rfl
theorem f152_7 : fetch 152 7 = some (.bipush 57, 2, [], .null) := by decide +kernel
theorem w152_7 : Wp d 152 7 [l0] st h Q = Wp d 152 9 [l0] (.int (57 : Int32) :: st) h Q := W_go f152_7 rfl
theorem f152_9 : fetch 152 9 = some (.if_icmp .gt 7, 3, [], .null) := by decide +kernel
theorem w152_9 : Wp d 152 9 [l0] (.int y :: .int x :: st) h Q = if icond .gt x y = true then Wp d 152 16 [l0] st h Q else Wp d 152 12 [l0] st h Q := W_if f152_9 rfl
theorem f152_12 : fetch 152 12 = some (.iconst 1, 1, [], .null) := by decide +kernel
theorem w152_12 : Wp d 152 12 [l0] st h Q = Wp d 152 13 [l0] (.int (1 : Int32) :: st) h Q := W_go f152_12 rfl
theorem f152_13 : fetch 152 13 = some (.goto 4, 3, [], .null) := by decide +kernel
theorem w152_13 : Wp d 152 13 [l0] st h Q = Wp d 152 17 [l0] st h Q := W_go f152_13 rfl
theorem f152_16 : fetch 152 16 = some (.iconst 0, 1, [], .null) := by decide +kernel
theorem w152_16 : Wp d 152 16 [l0] st h Q = Wp d 152 17 [l0] (.int (0 : Int32) :: st) h Q := W_go f152_16 rfl
theorem f152_17 : fetch 152 17 = some (.ireturn, 1, [], .null) := by decide +kernel
theorem w152_17 : Wp d 152 17 [l0] [.int x] h Q = (if narrow .boolean (.int x) = .int x then Q (.inl (some (.int x)), h) else False) := W_zret f152_17 hr152
theorem hm153 : mhs 153 = [] := by decide +kernel
theorem hr153 : mret 153 = (some .int) := by decide +kernel
theorem f153_0 : fetch 153 0 = some (.iload_n 1, 1, [], .null) := by decide +kernel
theorem w153_0 : Wp d 153 0 [l0, some (.int x)] st h Q = Wp d 153 1 [l0, some (.int x)] (.int x :: st) h Q := W_go f153_0 rfl
theorem f153_1 : fetch 153 1 = some (.aload_n 0, 1, [], .null) := by decide +kernel
theorem w153_1 : Wp d 153 1 [some (.ref a), l1] st h Q = Wp d 153 2 [some (.ref a), l1] (.ref a :: st) h Q := W_go f153_1 rfl
theorem f153_2 : fetch 153 2 = some (.getfield 70, 3, [10, 2, 6133, 0], .null) := by decide +kernel
theorem w153_2 : Wp d 153 2 [l0, l1] (.ref a :: st) h Q = gP (h.2 a) 10 2 (fun w => Wp d 153 5 [l0, l1] (w :: st) h Q) := W_get f153_2 rfl
theorem f153_5 : fetch 153 5 = some (.if_icmp .ge 12, 3, [], .null) := by decide +kernel
theorem w153_5 : Wp d 153 5 [l0, l1] (.int y :: .int x :: st) h Q = if icond .ge x y = true then Wp d 153 17 [l0, l1] st h Q else Wp d 153 8 [l0, l1] st h Q := W_if f153_5 rfl
theorem f153_8 : fetch 153 8 = some (.aload_n 0, 1, [], .null) := by decide +kernel
theorem w153_8 : Wp d 153 8 [some (.ref a), l1] st h Q = Wp d 153 9 [some (.ref a), l1] (.ref a :: st) h Q := W_go f153_8 rfl
theorem f153_9 : fetch 153 9 = some (.getfield 9, 3, [10, 1, 6132, 0], .null) := by decide +kernel
theorem w153_9 : Wp d 153 9 [l0, l1] (.ref a :: st) h Q = gP (h.2 a) 10 1 (fun w => Wp d 153 12 [l0, l1] (w :: st) h Q) := W_get f153_9 rfl
theorem f153_12 : fetch 153 12 = some (.iload_n 1, 1, [], .null) := by decide +kernel
theorem w153_12 : Wp d 153 12 [l0, some (.int x)] st h Q = Wp d 153 13 [l0, some (.int x)] (.int x :: st) h Q := W_go f153_12 rfl
theorem f153_13 : fetch 153 13 = some (.iaload, 1, [], .null) := by decide +kernel
theorem w153_13 : Wp d 153 13 [l0, l1] (.int x :: .ref a :: st) h Q = aP false (h.2 a) x (fun w => Wp d 153 14 [l0, l1] (.int w :: st) h Q) := W_ald f153_13 rfl
theorem f153_14 : fetch 153 14 = some (.goto 4, 3, [], .null) := by decide +kernel
theorem w153_14 : Wp d 153 14 [l0, l1] st h Q = Wp d 153 18 [l0, l1] st h Q := W_go f153_14 rfl
theorem f153_17 : fetch 153 17 = some (.iconst (-1), 1, [], .null) := by decide +kernel
theorem w153_17 : Wp d 153 17 [l0, l1] st h Q = Wp d 153 18 [l0, l1] (.int (-1 : Int32) :: st) h Q := W_go f153_17 rfl
theorem f153_18 : fetch 153 18 = some (.ireturn, 1, [], .null) := by decide +kernel
theorem w153_18 : Wp d 153 18 [l0, l1] [.int x] h Q = Q (.inl (some (.int x)), h) := W_iret f153_18 hr153
theorem hm154 : mhs 154 = [] := by decide +kernel
theorem hr154 : mret 154 = (some .int) := by decide +kernel
theorem f154_0 : fetch 154 0 = some (.aload_n 0, 1, [], .null) := by decide +kernel
theorem w154_0 : Wp d 154 0 [some (.ref a), l1, l2, l3, l4] st h Q = Wp d 154 1 [some (.ref a), l1, l2, l3, l4] (.ref a :: st) h Q := W_go f154_0 rfl
theorem f154_1 : fetch 154 1 = some (.iload_n 1, 1, [], .null) := by decide +kernel
theorem w154_1 : Wp d 154 1 [l0, some (.int x), l2, l3, l4] st h Q = Wp d 154 2 [l0, some (.int x), l2, l3, l4] (.int x :: st) h Q := W_go f154_1 rfl
theorem f154_2 : fetch 154 2 = some (.invokevirtual 73, 3, [153, 2, 11, 0, 6214, 1013, 6217, 6216, 38], .null) := by decide +kernel
theorem w154_2 (hp : psum st ≤ 8) : Wp d 154 2 [l0, l1, l2, l3, l4] (v1 :: (.ref b) :: st) h Q = rP (h.2 b) 10 (Cp d 153 [(.ref b), v1] h (fun o => cK o (fun w h2 => Wp d 154 5 [l0, l1, l2, l3, l4] (w.toList ++ st) h2 Q) (fun E h2 => Q (.inr E, h2)))) := (W_invV (st := st) f154_2 rfl rfl (by simp only [List.length_cons]; omega) rfl rfl hp).trans (by simp only [hm154, if_true])
theorem f154_5 : fetch 154 5 = some (.istore_n 3, 1, [], .null) := by decide +kernel
theorem w154_5 : Wp d 154 5 [l0, l1, l2, l3, l4] (.int x :: st) h Q = Wp d 154 6 [l0, l1, kl l2, some (.int x), l4] st h Q := (W_st1 (pc' := 6) (k := 3) f154_5 rfl rfl (by simp only [List.length_cons, List.length_nil]; omega)).trans (by rw [pst1_succ]; rfl)
theorem f154_6 : fetch 154 6 = some (.iload_n 1, 1, [], .null) := by decide +kernel
theorem w154_6 : Wp d 154 6 [l0, some (.int x), l2, l3, l4] st h Q = Wp d 154 7 [l0, some (.int x), l2, l3, l4] (.int x :: st) h Q := W_go f154_6 rfl
theorem f154_7 : fetch 154 7 = some (.iconst 1, 1, [], .null) := by decide +kernel
theorem w154_7 : Wp d 154 7 [l0, l1, l2, l3, l4] st h Q = Wp d 154 8 [l0, l1, l2, l3, l4] (.int (1 : Int32) :: st) h Q := W_go f154_7 rfl
theorem f154_8 : fetch 154 8 = some (.iadd, 1, [], .null) := by decide +kernel
theorem w154_8 : Wp d 154 8 [l0, l1, l2, l3, l4] (.int y :: .int x :: st) h Q = Wp d 154 9 [l0, l1, l2, l3, l4] (.int (x + y) :: st) h Q := W_go f154_8 rfl
theorem f154_9 : fetch 154 9 = some (.istore 4, 2, [], .null) := by decide +kernel
theorem w154_9 : Wp d 154 9 [l0, l1, l2, l3, l4] (.int x :: st) h Q = Wp d 154 11 [l0, l1, l2, kl l3, some (.int x)] st h Q := (W_st1 (pc' := 11) (k := 4) f154_9 rfl rfl (by simp only [List.length_cons, List.length_nil]; omega)).trans (by rw [pst1_succ]; rfl)
theorem f154_11 : fetch 154 11 = some (.aload_n 0, 1, [], .null) := by decide +kernel
theorem w154_11 : Wp d 154 11 [some (.ref a), l1, l2, l3, l4] st h Q = Wp d 154 12 [some (.ref a), l1, l2, l3, l4] (.ref a :: st) h Q := W_go f154_11 rfl
theorem f154_12 : fetch 154 12 = some (.getfield 23, 3, [10, 6, 6137, 0], .null) := by decide +kernel
theorem w154_12 : Wp d 154 12 [l0, l1, l2, l3, l4] (.ref a :: st) h Q = gP (h.2 a) 10 6 (fun w => Wp d 154 15 [l0, l1, l2, l3, l4] (w :: st) h Q) := W_get f154_12 rfl
theorem f154_15 : fetch 154 15 = some (.iload_n 2, 1, [], .null) := by decide +kernel
theorem w154_15 : Wp d 154 15 [l0, l1, some (.int x), l3, l4] st h Q = Wp d 154 16 [l0, l1, some (.int x), l3, l4] (.int x :: st) h Q := W_go f154_15 rfl
theorem f154_16 : fetch 154 16 = some (.iconst 1, 1, [], .null) := by decide +kernel
theorem w154_16 : Wp d 154 16 [l0, l1, l2, l3, l4] st h Q = Wp d 154 17 [l0, l1, l2, l3, l4] (.int (1 : Int32) :: st) h Q := W_go f154_16 rfl
theorem f154_17 : fetch 154 17 = some (.iastore, 1, [], .null) := by decide +kernel
theorem w154_17 : Wp d 154 17 [l0, l1, l2, l3, l4] (.int y :: .int x :: .ref a :: st) h Q = asP false (h.2 a) a x y (fun c => Wp d 154 18 [l0, l1, l2, l3, l4] st (hset h a c) Q) := W_ast f154_17 rfl
theorem f154_18 : fetch 154 18 = some (.iload_n 3, 1, [], .null) := by decide +kernel
theorem w154_18 : Wp d 154 18 [l0, l1, l2, some (.int x), l4] st h Q = Wp d 154 19 [l0, l1, l2, some (.int x), l4] (.int x :: st) h Q := W_go f154_18 rfl
theorem f154_19 : fetch 154 19 = some (.iconst (-1), 1, [], .null) := by decide +kernel
theorem w154_19 : Wp d 154 19 [l0, l1, l2, l3, l4] st h Q = Wp d 154 20 [l0, l1, l2, l3, l4] (.int (-1 : Int32) :: st) h Q := W_go f154_19 rfl
theorem f154_20 : fetch 154 20 = some (.if_icmp .ne 7, 3, [], .null) := by decide +kernel
theorem w154_20 : Wp d 154 20 [l0, l1, l2, l3, l4] (.int y :: .int x :: st) h Q = if icond .ne x y = true then Wp d 154 27 [l0, l1, l2, l3, l4] st h Q else Wp d 154 23 [l0, l1, l2, l3, l4] st h Q := W_if f154_20 rfl
theorem f154_23 : fetch 154 23 = some (.sipush 900, 3, [], .null) := by decide +kernel
theorem w154_23 : Wp d 154 23 [l0, l1, l2, l3, l4] st h Q = Wp d 154 26 [l0, l1, l2, l3, l4] (.int (900 : Int32) :: st) h Q := W_go f154_23 rfl
theorem f154_26 : fetch 154 26 = some (.ireturn, 1, [], .null) := by decide +kernel
theorem w154_26 : Wp d 154 26 [l0, l1, l2, l3, l4] [.int x] h Q = Q (.inl (some (.int x)), h) := W_iret f154_26 hr154
theorem f154_27 : fetch 154 27 = some (.iload_n 3, 1, [], .null) := by decide +kernel
theorem w154_27 : Wp d 154 27 [l0, l1, l2, some (.int x), l4] st h Q = Wp d 154 28 [l0, l1, l2, some (.int x), l4] (.int x :: st) h Q := W_go f154_27 rfl
theorem f154_28 : fetch 154 28 = some (.invokestatic 77, 3, [151, 1, 0, 0, 6222, 1013, 6224, 6223], .null) := by decide +kernel
theorem w154_28 (hp : psum st ≤ 8) : Wp d 154 28 [l0, l1, l2, l3, l4] (v0 :: st) h Q = Cp d 151 [v0] h (fun o => cK o (fun w h2 => Wp d 154 31 [l0, l1, l2, l3, l4] (w.toList ++ st) h2 Q) (fun _ _ => False)) := (W_invS (st := st) f154_28 rfl rfl (by simp only [List.length_cons]; omega) rfl rfl hp)
theorem f154_31 : fetch 154 31 = some (.ifCond .ne 57, 3, [], .null) := by decide +kernel
theorem w154_31 : Wp d 154 31 [l0, l1, l2, l3, l4] (.int x :: st) h Q = if icond .ne x 0 = true then Wp d 154 88 [l0, l1, l2, l3, l4] st h Q else Wp d 154 34 [l0, l1, l2, l3, l4] st h Q := W_if f154_31 rfl
theorem f154_34 : fetch 154 34 = some (.iload_n 3, 1, [], .null) := by decide +kernel
theorem w154_34 : Wp d 154 34 [l0, l1, l2, some (.int x), l4] st h Q = Wp d 154 35 [l0, l1, l2, some (.int x), l4] (.int x :: st) h Q := W_go f154_34 rfl
theorem f154_35 : fetch 154 35 = some (.invokestatic 81, 3, [152, 1, 0, 0, 6225, 1013, 6227, 6226], .null) := by decide +kernel
theorem w154_35 (hp : psum st ≤ 8) : Wp d 154 35 [l0, l1, l2, l3, l4] (v0 :: st) h Q = Cp d 152 [v0] h (fun o => cK o (fun w h2 => Wp d 154 38 [l0, l1, l2, l3, l4] (w.toList ++ st) h2 Q) (fun _ _ => False)) := (W_invS (st := st) f154_35 rfl rfl (by simp only [List.length_cons]; omega) rfl rfl hp)
theorem f154_38 : fetch 154 38 = some (.ifCond .ne 50, 3, [], .null) := by decide +kernel
theorem w154_38 : Wp d 154 38 [l0, l1, l2, l3, l4] (.int x :: st) h Q = if icond .ne x 0 = true then Wp d 154 88 [l0, l1, l2, l3, l4] st h Q else Wp d 154 41 [l0, l1, l2, l3, l4] st h Q := W_if f154_38 rfl
theorem f154_41 : fetch 154 41 = some (.iload_n 3, 1, [], .null) := by decide +kernel
theorem w154_41 : Wp d 154 41 [l0, l1, l2, some (.int x), l4] st h Q = Wp d 154 42 [l0, l1, l2, some (.int x), l4] (.int x :: st) h Q := W_go f154_41 rfl
theorem f154_42 : fetch 154 42 = some (.bipush 40, 2, [], .null) := by decide +kernel
theorem w154_42 : Wp d 154 42 [l0, l1, l2, l3, l4] st h Q = Wp d 154 44 [l0, l1, l2, l3, l4] (.int (40 : Int32) :: st) h Q := W_go f154_42 rfl
theorem f154_44 : fetch 154 44 = some (.if_icmp .eq 33, 3, [], .null) := by decide +kernel
theorem w154_44 : Wp d 154 44 [l0, l1, l2, l3, l4] (.int y :: .int x :: st) h Q = if icond .eq x y = true then Wp d 154 77 [l0, l1, l2, l3, l4] st h Q else Wp d 154 47 [l0, l1, l2, l3, l4] st h Q := W_if f154_44 rfl
theorem f154_47 : fetch 154 47 = some (.iload_n 3, 1, [], .null) := by decide +kernel
theorem w154_47 : Wp d 154 47 [l0, l1, l2, some (.int x), l4] st h Q = Wp d 154 48 [l0, l1, l2, some (.int x), l4] (.int x :: st) h Q := W_go f154_47 rfl
theorem f154_48 : fetch 154 48 = some (.bipush 41, 2, [], .null) := by decide +kernel
theorem w154_48 : Wp d 154 48 [l0, l1, l2, l3, l4] st h Q = Wp d 154 50 [l0, l1, l2, l3, l4] (.int (41 : Int32) :: st) h Q := W_go f154_48 rfl
theorem f154_50 : fetch 154 50 = some (.if_icmp .eq 27, 3, [], .null) := by decide +kernel
theorem w154_50 : Wp d 154 50 [l0, l1, l2, l3, l4] (.int y :: .int x :: st) h Q = if icond .eq x y = true then Wp d 154 77 [l0, l1, l2, l3, l4] st h Q else Wp d 154 53 [l0, l1, l2, l3, l4] st h Q := W_if f154_50 rfl
theorem f154_53 : fetch 154 53 = some (.iload_n 3, 1, [], .null) := by decide +kernel
theorem w154_53 : Wp d 154 53 [l0, l1, l2, some (.int x), l4] st h Q = Wp d 154 54 [l0, l1, l2, some (.int x), l4] (.int x :: st) h Q := W_go f154_53 rfl
theorem f154_54 : fetch 154 54 = some (.bipush 59, 2, [], .null) := by decide +kernel
theorem w154_54 : Wp d 154 54 [l0, l1, l2, l3, l4] st h Q = Wp d 154 56 [l0, l1, l2, l3, l4] (.int (59 : Int32) :: st) h Q := W_go f154_54 rfl
theorem f154_56 : fetch 154 56 = some (.if_icmp .eq 21, 3, [], .null) := by decide +kernel
theorem w154_56 : Wp d 154 56 [l0, l1, l2, l3, l4] (.int y :: .int x :: st) h Q = if icond .eq x y = true then Wp d 154 77 [l0, l1, l2, l3, l4] st h Q else Wp d 154 59 [l0, l1, l2, l3, l4] st h Q := W_if f154_56 rfl
theorem f154_59 : fetch 154 59 = some (.iload_n 3, 1, [], .null) := by decide +kernel
theorem w154_59 : Wp d 154 59 [l0, l1, l2, some (.int x), l4] st h Q = Wp d 154 60 [l0, l1, l2, some (.int x), l4] (.int x :: st) h Q := W_go f154_59 rfl
theorem f154_60 : fetch 154 60 = some (.bipush 60, 2, [], .null) := by decide +kernel
theorem w154_60 : Wp d 154 60 [l0, l1, l2, l3, l4] st h Q = Wp d 154 62 [l0, l1, l2, l3, l4] (.int (60 : Int32) :: st) h Q := W_go f154_60 rfl
theorem f154_62 : fetch 154 62 = some (.if_icmp .eq 15, 3, [], .null) := by decide +kernel
theorem w154_62 : Wp d 154 62 [l0, l1, l2, l3, l4] (.int y :: .int x :: st) h Q = if icond .eq x y = true then Wp d 154 77 [l0, l1, l2, l3, l4] st h Q else Wp d 154 65 [l0, l1, l2, l3, l4] st h Q := W_if f154_62 rfl
theorem f154_65 : fetch 154 65 = some (.iload_n 3, 1, [], .null) := by decide +kernel
theorem w154_65 : Wp d 154 65 [l0, l1, l2, some (.int x), l4] st h Q = Wp d 154 66 [l0, l1, l2, some (.int x), l4] (.int x :: st) h Q := W_go f154_65 rfl
theorem f154_66 : fetch 154 66 = some (.bipush 62, 2, [], .null) := by decide +kernel
theorem w154_66 : Wp d 154 66 [l0, l1, l2, l3, l4] st h Q = Wp d 154 68 [l0, l1, l2, l3, l4] (.int (62 : Int32) :: st) h Q := W_go f154_66 rfl
theorem f154_68 : fetch 154 68 = some (.if_icmp .eq 9, 3, [], .null) := by decide +kernel
theorem w154_68 : Wp d 154 68 [l0, l1, l2, l3, l4] (.int y :: .int x :: st) h Q = if icond .eq x y = true then Wp d 154 77 [l0, l1, l2, l3, l4] st h Q else Wp d 154 71 [l0, l1, l2, l3, l4] st h Q := W_if f154_68 rfl
theorem f154_71 : fetch 154 71 = some (.iload_n 3, 1, [], .null) := by decide +kernel
theorem w154_71 : Wp d 154 71 [l0, l1, l2, some (.int x), l4] st h Q = Wp d 154 72 [l0, l1, l2, some (.int x), l4] (.int x :: st) h Q := W_go f154_71 rfl
theorem f154_72 : fetch 154 72 = some (.bipush 61, 2, [], .null) := by decide +kernel
theorem w154_72 : Wp d 154 72 [l0, l1, l2, l3, l4] st h Q = Wp d 154 74 [l0, l1, l2, l3, l4] (.int (61 : Int32) :: st) h Q := W_go f154_72 rfl
theorem f154_74 : fetch 154 74 = some (.if_icmp .ne 10, 3, [], .null) := by decide +kernel
theorem w154_74 : Wp d 154 74 [l0, l1, l2, l3, l4] (.int y :: .int x :: st) h Q = if icond .ne x y = true then Wp d 154 84 [l0, l1, l2, l3, l4] st h Q else Wp d 154 77 [l0, l1, l2, l3, l4] st h Q := W_if f154_74 rfl
theorem f154_77 : fetch 154 77 = some (.bipush 50, 2, [], .null) := by decide +kernel
theorem w154_77 : Wp d 154 77 [l0, l1, l2, l3, l4] st h Q = Wp d 154 79 [l0, l1, l2, l3, l4] (.int (50 : Int32) :: st) h Q := W_go f154_77 rfl
theorem f154_79 : fetch 154 79 = some (.iload_n 3, 1, [], .null) := by decide +kernel
theorem w154_79 : Wp d 154 79 [l0, l1, l2, some (.int x), l4] st h Q = Wp d 154 80 [l0, l1, l2, some (.int x), l4] (.int x :: st) h Q := W_go f154_79 rfl
theorem f154_80 : fetch 154 80 = some (.iadd, 1, [], .null) := by decide +kernel
theorem w154_80 : Wp d 154 80 [l0, l1, l2, l3, l4] (.int y :: .int x :: st) h Q = Wp d 154 81 [l0, l1, l2, l3, l4] (.int (x + y) :: st) h Q := W_go f154_80 rfl
theorem f154_81 : fetch 154 81 = some (.goto 6, 3, [], .null) := by decide +kernel
theorem w154_81 : Wp d 154 81 [l0, l1, l2, l3, l4] st h Q = Wp d 154 87 [l0, l1, l2, l3, l4] st h Q := W_go f154_81 rfl
theorem f154_84 : fetch 154 84 = some (.sipush 901, 3, [], .null) := by decide +kernel
theorem w154_84 : Wp d 154 84 [l0, l1, l2, l3, l4] st h Q = Wp d 154 87 [l0, l1, l2, l3, l4] (.int (901 : Int32) :: st) h Q := W_go f154_84 rfl
theorem f154_87 : fetch 154 87 = some (.ireturn, 1, [], .null) := by decide +kernel
theorem w154_87 : Wp d 154 87 [l0, l1, l2, l3, l4] [.int x] h Q = Q (.inl (some (.int x)), h) := W_iret f154_87 hr154
theorem f154_88 : fetch 154 88 = some (.iload_n 3, 1, [], .null) := by decide +kernel
theorem w154_88 : Wp d 154 88 [l0, l1, l2, some (.int x), l4] st h Q = Wp d 154 89 [l0, l1, l2, some (.int x), l4] (.int x :: st) h Q := W_go f154_88 rfl
theorem f154_89 : fetch 154 89 = some (.invokestatic 77, 3, [151, 1, 0, 0, 6222, 1013, 6224, 6223], .null) := by decide +kernel
theorem w154_89 (hp : psum st ≤ 8) : Wp d 154 89 [l0, l1, l2, l3, l4] (v0 :: st) h Q = Cp d 151 [v0] h (fun o => cK o (fun w h2 => Wp d 154 92 [l0, l1, l2, l3, l4] (w.toList ++ st) h2 Q) (fun _ _ => False)) := (W_invS (st := st) f154_89 rfl rfl (by simp only [List.length_cons]; omega) rfl rfl hp)
theorem f154_92 : fetch 154 92 = some (.ifCond .eq 18, 3, [], .null) := by decide +kernel
theorem w154_92 : Wp d 154 92 [l0, l1, l2, l3, l4] (.int x :: st) h Q = if icond .eq x 0 = true then Wp d 154 110 [l0, l1, l2, l3, l4] st h Q else Wp d 154 95 [l0, l1, l2, l3, l4] st h Q := W_if f154_92 rfl
theorem f154_95 : fetch 154 95 = some (.aload_n 0, 1, [], .null) := by decide +kernel
theorem w154_95 : Wp d 154 95 [some (.ref a), l1, l2, l3, l4] st h Q = Wp d 154 96 [some (.ref a), l1, l2, l3, l4] (.ref a :: st) h Q := W_go f154_95 rfl
theorem f154_96 : fetch 154 96 = some (.iload 4, 2, [], .null) := by decide +kernel
theorem w154_96 : Wp d 154 96 [l0, l1, l2, l3, some (.int x)] st h Q = Wp d 154 98 [l0, l1, l2, l3, some (.int x)] (.int x :: st) h Q := W_go f154_96 rfl
theorem f154_98 : fetch 154 98 = some (.invokevirtual 73, 3, [153, 2, 11, 0, 6214, 1013, 6217, 6216, 38], .null) := by decide +kernel
theorem w154_98 (hp : psum st ≤ 8) : Wp d 154 98 [l0, l1, l2, l3, l4] (v1 :: (.ref b) :: st) h Q = rP (h.2 b) 10 (Cp d 153 [(.ref b), v1] h (fun o => cK o (fun w h2 => Wp d 154 101 [l0, l1, l2, l3, l4] (w.toList ++ st) h2 Q) (fun E h2 => Q (.inr E, h2)))) := (W_invV (st := st) f154_98 rfl rfl (by simp only [List.length_cons]; omega) rfl rfl hp).trans (by simp only [hm154, if_true])
theorem f154_101 : fetch 154 101 = some (.invokestatic 77, 3, [151, 1, 0, 0, 6222, 1013, 6224, 6223], .null) := by decide +kernel
theorem w154_101 (hp : psum st ≤ 8) : Wp d 154 101 [l0, l1, l2, l3, l4] (v0 :: st) h Q = Cp d 151 [v0] h (fun o => cK o (fun w h2 => Wp d 154 104 [l0, l1, l2, l3, l4] (w.toList ++ st) h2 Q) (fun _ _ => False)) := (W_invS (st := st) f154_101 rfl rfl (by simp only [List.length_cons]; omega) rfl rfl hp)
theorem f154_104 : fetch 154 104 = some (.ifCond .eq 24, 3, [], .null) := by decide +kernel
theorem w154_104 : Wp d 154 104 [l0, l1, l2, l3, l4] (.int x :: st) h Q = if icond .eq x 0 = true then Wp d 154 128 [l0, l1, l2, l3, l4] st h Q else Wp d 154 107 [l0, l1, l2, l3, l4] st h Q := W_if f154_104 rfl
theorem f154_107 : fetch 154 107 = some (.goto 15, 3, [], .null) := by decide +kernel
theorem w154_107 : Wp d 154 107 [l0, l1, l2, l3, l4] st h Q = Wp d 154 122 [l0, l1, l2, l3, l4] st h Q := W_go f154_107 rfl
theorem f154_110 : fetch 154 110 = some (.aload_n 0, 1, [], .null) := by decide +kernel
theorem w154_110 : Wp d 154 110 [some (.ref a), l1, l2, l3, l4] st h Q = Wp d 154 111 [some (.ref a), l1, l2, l3, l4] (.ref a :: st) h Q := W_go f154_110 rfl
theorem f154_111 : fetch 154 111 = some (.iload 4, 2, [], .null) := by decide +kernel
theorem w154_111 : Wp d 154 111 [l0, l1, l2, l3, some (.int x)] st h Q = Wp d 154 113 [l0, l1, l2, l3, some (.int x)] (.int x :: st) h Q := W_go f154_111 rfl
theorem f154_113 : fetch 154 113 = some (.invokevirtual 73, 3, [153, 2, 11, 0, 6214, 1013, 6217, 6216, 38], .null) := by decide +kernel
theorem w154_113 (hp : psum st ≤ 8) : Wp d 154 113 [l0, l1, l2, l3, l4] (v1 :: (.ref b) :: st) h Q = rP (h.2 b) 10 (Cp d 153 [(.ref b), v1] h (fun o => cK o (fun w h2 => Wp d 154 116 [l0, l1, l2, l3, l4] (w.toList ++ st) h2 Q) (fun E h2 => Q (.inr E, h2)))) := (W_invV (st := st) f154_113 rfl rfl (by simp only [List.length_cons]; omega) rfl rfl hp).trans (by simp only [hm154, if_true])
theorem f154_116 : fetch 154 116 = some (.invokestatic 81, 3, [152, 1, 0, 0, 6225, 1013, 6227, 6226], .null) := by decide +kernel
theorem w154_116 (hp : psum st ≤ 8) : Wp d 154 116 [l0, l1, l2, l3, l4] (v0 :: st) h Q = Cp d 152 [v0] h (fun o => cK o (fun w h2 => Wp d 154 119 [l0, l1, l2, l3, l4] (w.toList ++ st) h2 Q) (fun _ _ => False)) := (W_invS (st := st) f154_116 rfl rfl (by simp only [List.length_cons]; omega) rfl rfl hp)
theorem f154_119 : fetch 154 119 = some (.ifCond .eq 9, 3, [], .null) := by decide +kernel
theorem w154_119 : Wp d 154 119 [l0, l1, l2, l3, l4] (.int x :: st) h Q = if icond .eq x 0 = true then Wp d 154 128 [l0, l1, l2, l3, l4] st h Q else Wp d 154 122 [l0, l1, l2, l3, l4] st h Q := W_if f154_119 rfl
theorem f154_122 : fetch 154 122 = some (.iinc 4 1, 3, [], .null) := by decide +kernel
theorem w154_122 : Wp d 154 122 [l0, l1, l2, l3, some (.int x)] st h Q = Wp d 154 125 [l0, l1, l2, kl l3, some (.int (x + (1 : Int32)))] st h Q := (W_iinc (y := (1 : Int32)) f154_122 rfl (by simp only [List.length_cons, List.length_nil]; omega) (by decide)).trans (by rw [pst1_succ]; rfl)
theorem f154_125 : fetch 154 125 = some (.goto (-37), 3, [], .null) := by decide +kernel
theorem w154_125 : Wp d 154 125 [l0, l1, l2, l3, l4] st h Q = Wp d 154 88 [l0, l1, l2, l3, l4] st h Q := W_go f154_125 rfl
theorem f154_128 : fetch 154 128 = some (.aload_n 0, 1, [], .null) := by decide +kernel
theorem w154_128 : Wp d 154 128 [some (.ref a), l1, l2, l3, l4] st h Q = Wp d 154 129 [some (.ref a), l1, l2, l3, l4] (.ref a :: st) h Q := W_go f154_128 rfl
theorem f154_129 : fetch 154 129 = some (.getfield 23, 3, [10, 6, 6137, 0], .null) := by decide +kernel
theorem w154_129 : Wp d 154 129 [l0, l1, l2, l3, l4] (.ref a :: st) h Q = gP (h.2 a) 10 6 (fun w => Wp d 154 132 [l0, l1, l2, l3, l4] (w :: st) h Q) := W_get f154_129 rfl
theorem f154_132 : fetch 154 132 = some (.iload_n 2, 1, [], .null) := by decide +kernel
theorem w154_132 : Wp d 154 132 [l0, l1, some (.int x), l3, l4] st h Q = Wp d 154 133 [l0, l1, some (.int x), l3, l4] (.int x :: st) h Q := W_go f154_132 rfl
theorem f154_133 : fetch 154 133 = some (.iload 4, 2, [], .null) := by decide +kernel
theorem w154_133 : Wp d 154 133 [l0, l1, l2, l3, some (.int x)] st h Q = Wp d 154 135 [l0, l1, l2, l3, some (.int x)] (.int x :: st) h Q := W_go f154_133 rfl
theorem f154_135 : fetch 154 135 = some (.iload_n 1, 1, [], .null) := by decide +kernel
theorem w154_135 : Wp d 154 135 [l0, some (.int x), l2, l3, l4] st h Q = Wp d 154 136 [l0, some (.int x), l2, l3, l4] (.int x :: st) h Q := W_go f154_135 rfl
theorem f154_136 : fetch 154 136 = some (.isub, 1, [], .null) := by decide +kernel
theorem w154_136 : Wp d 154 136 [l0, l1, l2, l3, l4] (.int y :: .int x :: st) h Q = Wp d 154 137 [l0, l1, l2, l3, l4] (.int (x - y) :: st) h Q := W_go f154_136 rfl
theorem f154_137 : fetch 154 137 = some (.iastore, 1, [], .null) := by decide +kernel
theorem w154_137 : Wp d 154 137 [l0, l1, l2, l3, l4] (.int y :: .int x :: .ref a :: st) h Q = asP false (h.2 a) a x y (fun c => Wp d 154 138 [l0, l1, l2, l3, l4] st (hset h a c) Q) := W_ast f154_137 rfl
theorem f154_138 : fetch 154 138 = some (.iload 4, 2, [], .null) := by decide +kernel
theorem w154_138 : Wp d 154 138 [l0, l1, l2, l3, some (.int x)] st h Q = Wp d 154 140 [l0, l1, l2, l3, some (.int x)] (.int x :: st) h Q := W_go f154_138 rfl
theorem f154_140 : fetch 154 140 = some (.iload_n 1, 1, [], .null) := by decide +kernel
theorem w154_140 : Wp d 154 140 [l0, some (.int x), l2, l3, l4] st h Q = Wp d 154 141 [l0, some (.int x), l2, l3, l4] (.int x :: st) h Q := W_go f154_140 rfl
theorem f154_141 : fetch 154 141 = some (.isub, 1, [], .null) := by decide +kernel
theorem w154_141 : Wp d 154 141 [l0, l1, l2, l3, l4] (.int y :: .int x :: st) h Q = Wp d 154 142 [l0, l1, l2, l3, l4] (.int (x - y) :: st) h Q := W_go f154_141 rfl
theorem f154_142 : fetch 154 142 = some (.iload_n 3, 1, [], .null) := by decide +kernel
theorem w154_142 : Wp d 154 142 [l0, l1, l2, some (.int x), l4] st h Q = Wp d 154 143 [l0, l1, l2, some (.int x), l4] (.int x :: st) h Q := W_go f154_142 rfl
theorem f154_143 : fetch 154 143 = some (.invokestatic 77, 3, [151, 1, 0, 0, 6222, 1013, 6224, 6223], .null) := by decide +kernel
theorem w154_143 (hp : psum st ≤ 8) : Wp d 154 143 [l0, l1, l2, l3, l4] (v0 :: st) h Q = Cp d 151 [v0] h (fun o => cK o (fun w h2 => Wp d 154 146 [l0, l1, l2, l3, l4] (w.toList ++ st) h2 Q) (fun _ _ => False)) := (W_invS (st := st) f154_143 rfl rfl (by simp only [List.length_cons]; omega) rfl rfl hp)
theorem f154_146 : fetch 154 146 = some (.ifCond .eq 8, 3, [], .null) := by decide +kernel
theorem w154_146 : Wp d 154 146 [l0, l1, l2, l3, l4] (.int x :: st) h Q = if icond .eq x 0 = true then Wp d 154 154 [l0, l1, l2, l3, l4] st h Q else Wp d 154 149 [l0, l1, l2, l3, l4] st h Q := W_if f154_146 rfl
theorem f154_149 : fetch 154 149 = some (.bipush 8, 2, [], .null) := by decide +kernel
theorem w154_149 : Wp d 154 149 [l0, l1, l2, l3, l4] st h Q = Wp d 154 151 [l0, l1, l2, l3, l4] (.int (8 : Int32) :: st) h Q := W_go f154_149 rfl
theorem f154_151 : fetch 154 151 = some (.goto 4, 3, [], .null) := by decide +kernel
theorem w154_151 : Wp d 154 151 [l0, l1, l2, l3, l4] st h Q = Wp d 154 155 [l0, l1, l2, l3, l4] st h Q := W_go f154_151 rfl
theorem f154_154 : fetch 154 154 = some (.iconst 3, 1, [], .null) := by decide +kernel
theorem w154_154 : Wp d 154 154 [l0, l1, l2, l3, l4] st h Q = Wp d 154 155 [l0, l1, l2, l3, l4] (.int (3 : Int32) :: st) h Q := W_go f154_154 rfl
theorem f154_155 : fetch 154 155 = some (.if_icmp .le 7, 3, [], .null) := by decide +kernel
theorem w154_155 : Wp d 154 155 [l0, l1, l2, l3, l4] (.int y :: .int x :: st) h Q = if icond .le x y = true then Wp d 154 162 [l0, l1, l2, l3, l4] st h Q else Wp d 154 158 [l0, l1, l2, l3, l4] st h Q := W_if f154_155 rfl
theorem f154_158 : fetch 154 158 = some (.sipush 901, 3, [], .null) := by decide +kernel
theorem w154_158 : Wp d 154 158 [l0, l1, l2, l3, l4] st h Q = Wp d 154 161 [l0, l1, l2, l3, l4] (.int (901 : Int32) :: st) h Q := W_go f154_158 rfl
theorem f154_161 : fetch 154 161 = some (.ireturn, 1, [], .null) := by decide +kernel
theorem w154_161 : Wp d 154 161 [l0, l1, l2, l3, l4] [.int x] h Q = Q (.inl (some (.int x)), h) := W_iret f154_161 hr154
theorem f154_162 : fetch 154 162 = some (.iload_n 3, 1, [], .null) := by decide +kernel
theorem w154_162 : Wp d 154 162 [l0, l1, l2, some (.int x), l4] st h Q = Wp d 154 163 [l0, l1, l2, some (.int x), l4] (.int x :: st) h Q := W_go f154_162 rfl
theorem f154_163 : fetch 154 163 = some (.invokestatic 77, 3, [151, 1, 0, 0, 6222, 1013, 6224, 6223], .null) := by decide +kernel
theorem w154_163 (hp : psum st ≤ 8) : Wp d 154 163 [l0, l1, l2, l3, l4] (v0 :: st) h Q = Cp d 151 [v0] h (fun o => cK o (fun w h2 => Wp d 154 166 [l0, l1, l2, l3, l4] (w.toList ++ st) h2 Q) (fun _ _ => False)) := (W_invS (st := st) f154_163 rfl rfl (by simp only [List.length_cons]; omega) rfl rfl hp)
theorem f154_166 : fetch 154 166 = some (.ifCond .eq 15, 3, [], .null) := by decide +kernel
theorem w154_166 : Wp d 154 166 [l0, l1, l2, l3, l4] (.int x :: st) h Q = if icond .eq x 0 = true then Wp d 154 181 [l0, l1, l2, l3, l4] st h Q else Wp d 154 169 [l0, l1, l2, l3, l4] st h Q := W_if f154_166 rfl
theorem f154_169 : fetch 154 169 = some (.aload_n 0, 1, [], .null) := by decide +kernel
theorem w154_169 : Wp d 154 169 [some (.ref a), l1, l2, l3, l4] st h Q = Wp d 154 170 [some (.ref a), l1, l2, l3, l4] (.ref a :: st) h Q := W_go f154_169 rfl
theorem f154_170 : fetch 154 170 = some (.iload_n 1, 1, [], .null) := by decide +kernel
theorem w154_170 : Wp d 154 170 [l0, some (.int x), l2, l3, l4] st h Q = Wp d 154 171 [l0, some (.int x), l2, l3, l4] (.int x :: st) h Q := W_go f154_170 rfl
theorem f154_171 : fetch 154 171 = some (.iload 4, 2, [], .null) := by decide +kernel
theorem w154_171 : Wp d 154 171 [l0, l1, l2, l3, some (.int x)] st h Q = Wp d 154 173 [l0, l1, l2, l3, some (.int x)] (.int x :: st) h Q := W_go f154_171 rfl
theorem f154_173 : fetch 154 173 = some (.iload_n 1, 1, [], .null) := by decide +kernel
theorem w154_173 : Wp d 154 173 [l0, some (.int x), l2, l3, l4] st h Q = Wp d 154 174 [l0, some (.int x), l2, l3, l4] (.int x :: st) h Q := W_go f154_173 rfl
theorem f154_174 : fetch 154 174 = some (.isub, 1, [], .null) := by decide +kernel
theorem w154_174 : Wp d 154 174 [l0, l1, l2, l3, l4] (.int y :: .int x :: st) h Q = Wp d 154 175 [l0, l1, l2, l3, l4] (.int (x - y) :: st) h Q := W_go f154_174 rfl
theorem f154_175 : fetch 154 175 = some (.invokevirtual 84, 3, [155, 3, 11, 0, 6228, 1013, 6231, 6230, 40], .null) := by decide +kernel
theorem w154_175 (hp : psum st ≤ 8) : Wp d 154 175 [l0, l1, l2, l3, l4] (v2 :: v1 :: (.ref b) :: st) h Q = rP (h.2 b) 10 (Cp d 155 [(.ref b), v1, v2] h (fun o => cK o (fun w h2 => Wp d 154 178 [l0, l1, l2, l3, l4] (w.toList ++ st) h2 Q) (fun E h2 => Q (.inr E, h2)))) := (W_invV (st := st) f154_175 rfl rfl (by simp only [List.length_cons]; omega) rfl rfl hp).trans (by simp only [hm154, if_true])
theorem f154_178 : fetch 154 178 = some (.goto 5, 3, [], .null) := by decide +kernel
theorem w154_178 : Wp d 154 178 [l0, l1, l2, l3, l4] st h Q = Wp d 154 183 [l0, l1, l2, l3, l4] st h Q := W_go f154_178 rfl
theorem f154_181 : fetch 154 181 = some (.bipush 41, 2, [], .null) := by decide +kernel
theorem w154_181 : Wp d 154 181 [l0, l1, l2, l3, l4] st h Q = Wp d 154 183 [l0, l1, l2, l3, l4] (.int (41 : Int32) :: st) h Q := W_go f154_181 rfl
theorem f154_183 : fetch 154 183 = some (.ireturn, 1, [], .null) := by decide +kernel
theorem w154_183 : Wp d 154 183 [l0, l1, l2, l3, l4] [.int x] h Q = Q (.inl (some (.int x)), h) := W_iret f154_183 hr154
theorem hm155 : mhs 155 = [] := by decide +kernel
theorem hr155 : mret 155 = (some .int) := by decide +kernel
theorem f155_0 : fetch 155 0 = some (.iconst 0, 1, [], .null) := by decide +kernel
theorem w155_0 : Wp d 155 0 [l0, l1, l2, l3, l4, l5] st h Q = Wp d 155 1 [l0, l1, l2, l3, l4, l5] (.int (0 : Int32) :: st) h Q := W_go f155_0 rfl
theorem f155_1 : fetch 155 1 = some (.istore_n 3, 1, [], .null) := by decide +kernel
theorem w155_1 : Wp d 155 1 [l0, l1, l2, l3, l4, l5] (.int x :: st) h Q = Wp d 155 2 [l0, l1, kl l2, some (.int x), l4, l5] st h Q := (W_st1 (pc' := 2) (k := 3) f155_1 rfl rfl (by simp only [List.length_cons, List.length_nil]; omega)).trans (by rw [pst1_succ]; rfl)
theorem f155_2 : fetch 155 2 = some (.iload_n 3, 1, [], .null) := by decide +kernel
theorem w155_2 : Wp d 155 2 [l0, l1, l2, some (.int x), l4, l5] st h Q = Wp d 155 3 [l0, l1, l2, some (.int x), l4, l5] (.int x :: st) h Q := W_go f155_2 rfl
theorem f155_3 : fetch 155 3 = some (.getstatic 88, 3, [6232, 0], .ref 200) := by decide +kernel
theorem w155_3 : Wp d 155 3 [l0, l1, l2, l3, l4, l5] st h Q = Wp d 155 6 [l0, l1, l2, l3, l4, l5] ((.ref 200) :: st) h Q := W_go f155_3 rfl
theorem f155_6 : fetch 155 6 = some (.arraylength, 1, [], .null) := by decide +kernel
theorem w155_6 : Wp d 155 6 [l0, l1, l2, l3, l4, l5] (.ref a :: st) h Q = nP (h.2 a) (fun w => Wp d 155 7 [l0, l1, l2, l3, l4, l5] (.int w :: st) h Q) := W_len f155_6 rfl
theorem f155_7 : fetch 155 7 = some (.if_icmp .ge 84, 3, [], .null) := by decide +kernel
theorem w155_7 : Wp d 155 7 [l0, l1, l2, l3, l4, l5] (.int y :: .int x :: st) h Q = if icond .ge x y = true then Wp d 155 91 [l0, l1, l2, l3, l4, l5] st h Q else Wp d 155 10 [l0, l1, l2, l3, l4, l5] st h Q := W_if f155_7 rfl
theorem f155_10 : fetch 155 10 = some (.getstatic 88, 3, [6232, 0], .ref 200) := by decide +kernel
theorem w155_10 : Wp d 155 10 [l0, l1, l2, l3, l4, l5] st h Q = Wp d 155 13 [l0, l1, l2, l3, l4, l5] ((.ref 200) :: st) h Q := W_go f155_10 rfl
theorem f155_13 : fetch 155 13 = some (.iload_n 3, 1, [], .null) := by decide +kernel
theorem w155_13 : Wp d 155 13 [l0, l1, l2, some (.int x), l4, l5] st h Q = Wp d 155 14 [l0, l1, l2, some (.int x), l4, l5] (.int x :: st) h Q := W_go f155_13 rfl
theorem f155_14 : fetch 155 14 = some (.aaload, 1, [], .null) := by decide +kernel
theorem w155_14 : Wp d 155 14 [l0, l1, l2, l3, l4, l5] (.int x :: .ref a :: st) h Q = qP (h.2 a) x (fun w => Wp d 155 15 [l0, l1, l2, l3, l4, l5] (w :: st) h Q) := W_qld f155_14 rfl
theorem f155_15 : fetch 155 15 = some (.invokevirtual 92, 3, [229, 1, 12, 0, 6234, 1006, 1158, 1156, 1157], .null) := by decide +kernel
theorem w155_15 (hp : psum st ≤ 8) : Wp d 155 15 [l0, l1, l2, l3, l4, l5] ((.ref b) :: st) h Q = rP (h.2 b) 11 (Cp d 229 [(.ref b)] h (fun o => cK o (fun w h2 => Wp d 155 18 [l0, l1, l2, l3, l4, l5] (w.toList ++ st) h2 Q) (fun E h2 => Q (.inr E, h2)))) := (W_invV (st := st) f155_15 rfl rfl (by simp only [List.length_cons]; omega) rfl rfl hp).trans (by simp only [hm155, if_true])
theorem f155_18 : fetch 155 18 = some (.iload_n 2, 1, [], .null) := by decide +kernel
theorem w155_18 : Wp d 155 18 [l0, l1, some (.int x), l3, l4, l5] st h Q = Wp d 155 19 [l0, l1, some (.int x), l3, l4, l5] (.int x :: st) h Q := W_go f155_18 rfl
theorem f155_19 : fetch 155 19 = some (.if_icmp .ne 7, 3, [], .null) := by decide +kernel
theorem w155_19 : Wp d 155 19 [l0, l1, l2, l3, l4, l5] (.int y :: .int x :: st) h Q = if icond .ne x y = true then Wp d 155 26 [l0, l1, l2, l3, l4, l5] st h Q else Wp d 155 22 [l0, l1, l2, l3, l4, l5] st h Q := W_if f155_19 rfl
theorem f155_22 : fetch 155 22 = some (.iconst 1, 1, [], .null) := by decide +kernel
theorem w155_22 : Wp d 155 22 [l0, l1, l2, l3, l4, l5] st h Q = Wp d 155 23 [l0, l1, l2, l3, l4, l5] (.int (1 : Int32) :: st) h Q := W_go f155_22 rfl
theorem f155_23 : fetch 155 23 = some (.goto 4, 3, [], .null) := by decide +kernel
theorem w155_23 : Wp d 155 23 [l0, l1, l2, l3, l4, l5] st h Q = Wp d 155 27 [l0, l1, l2, l3, l4, l5] st h Q := W_go f155_23 rfl
theorem f155_26 : fetch 155 26 = some (.iconst 0, 1, [], .null) := by decide +kernel
theorem w155_26 : Wp d 155 26 [l0, l1, l2, l3, l4, l5] st h Q = Wp d 155 27 [l0, l1, l2, l3, l4, l5] (.int (0 : Int32) :: st) h Q := W_go f155_26 rfl
theorem f155_27 : fetch 155 27 = some (.istore 4, 2, [], .null) := by decide +kernel
theorem w155_27 : Wp d 155 27 [l0, l1, l2, l3, l4, l5] (.int x :: st) h Q = Wp d 155 29 [l0, l1, l2, kl l3, some (.int x), l5] st h Q := (W_st1 (pc' := 29) (k := 4) f155_27 rfl rfl (by simp only [List.length_cons, List.length_nil]; omega)).trans (by rw [pst1_succ]; rfl)
theorem f155_29 : fetch 155 29 = some (.iconst 0, 1, [], .null) := by decide +kernel
theorem w155_29 : Wp d 155 29 [l0, l1, l2, l3, l4, l5] st h Q = Wp d 155 30 [l0, l1, l2, l3, l4, l5] (.int (0 : Int32) :: st) h Q := W_go f155_29 rfl
theorem f155_30 : fetch 155 30 = some (.istore 5, 2, [], .null) := by decide +kernel
theorem w155_30 : Wp d 155 30 [l0, l1, l2, l3, l4, l5] (.int x :: st) h Q = Wp d 155 32 [l0, l1, l2, l3, kl l4, some (.int x)] st h Q := (W_st1 (pc' := 32) (k := 5) f155_30 rfl rfl (by simp only [List.length_cons, List.length_nil]; omega)).trans (by rw [pst1_succ]; rfl)
theorem f155_32 : fetch 155 32 = some (.iload 4, 2, [], .null) := by decide +kernel
theorem w155_32 : Wp d 155 32 [l0, l1, l2, l3, some (.int x), l5] st h Q = Wp d 155 34 [l0, l1, l2, l3, some (.int x), l5] (.int x :: st) h Q := W_go f155_32 rfl
theorem f155_34 : fetch 155 34 = some (.ifCond .eq 44, 3, [], .null) := by decide +kernel
theorem w155_34 : Wp d 155 34 [l0, l1, l2, l3, l4, l5] (.int x :: st) h Q = if icond .eq x 0 = true then Wp d 155 78 [l0, l1, l2, l3, l4, l5] st h Q else Wp d 155 37 [l0, l1, l2, l3, l4, l5] st h Q := W_if f155_34 rfl
theorem f155_37 : fetch 155 37 = some (.iload 5, 2, [], .null) := by decide +kernel
theorem w155_37 : Wp d 155 37 [l0, l1, l2, l3, l4, some (.int x)] st h Q = Wp d 155 39 [l0, l1, l2, l3, l4, some (.int x)] (.int x :: st) h Q := W_go f155_37 rfl
theorem f155_39 : fetch 155 39 = some (.iload_n 2, 1, [], .null) := by decide +kernel
theorem w155_39 : Wp d 155 39 [l0, l1, some (.int x), l3, l4, l5] st h Q = Wp d 155 40 [l0, l1, some (.int x), l3, l4, l5] (.int x :: st) h Q := W_go f155_39 rfl
theorem f155_40 : fetch 155 40 = some (.if_icmp .ge 38, 3, [], .null) := by decide +kernel
theorem w155_40 : Wp d 155 40 [l0, l1, l2, l3, l4, l5] (.int y :: .int x :: st) h Q = if icond .ge x y = true then Wp d 155 78 [l0, l1, l2, l3, l4, l5] st h Q else Wp d 155 43 [l0, l1, l2, l3, l4, l5] st h Q := W_if f155_40 rfl
theorem f155_43 : fetch 155 43 = some (.getstatic 88, 3, [6232, 0], .ref 200) := by decide +kernel
theorem w155_43 : Wp d 155 43 [l0, l1, l2, l3, l4, l5] st h Q = Wp d 155 46 [l0, l1, l2, l3, l4, l5] ((.ref 200) :: st) h Q := W_go f155_43 rfl
theorem f155_46 : fetch 155 46 = some (.iload_n 3, 1, [], .null) := by decide +kernel
theorem w155_46 : Wp d 155 46 [l0, l1, l2, some (.int x), l4, l5] st h Q = Wp d 155 47 [l0, l1, l2, some (.int x), l4, l5] (.int x :: st) h Q := W_go f155_46 rfl
theorem f155_47 : fetch 155 47 = some (.aaload, 1, [], .null) := by decide +kernel
theorem w155_47 : Wp d 155 47 [l0, l1, l2, l3, l4, l5] (.int x :: .ref a :: st) h Q = qP (h.2 a) x (fun w => Wp d 155 48 [l0, l1, l2, l3, l4, l5] (w :: st) h Q) := W_qld f155_47 rfl
theorem f155_48 : fetch 155 48 = some (.iload 5, 2, [], .null) := by decide +kernel
theorem w155_48 : Wp d 155 48 [l0, l1, l2, l3, l4, some (.int x)] st h Q = Wp d 155 50 [l0, l1, l2, l3, l4, some (.int x)] (.int x :: st) h Q := W_go f155_48 rfl
theorem f155_50 : fetch 155 50 = some (.invokevirtual 98, 3, [230, 2, 12, 0, 6235, 1006, 1168, 1166, 1167], .null) := by decide +kernel
theorem w155_50 (hp : psum st ≤ 8) : Wp d 155 50 [l0, l1, l2, l3, l4, l5] (v1 :: (.ref b) :: st) h Q = rP (h.2 b) 11 (Cp d 230 [(.ref b), v1] h (fun o => cK o (fun w h2 => Wp d 155 53 [l0, l1, l2, l3, l4, l5] (w.toList ++ st) h2 Q) (fun E h2 => Q (.inr E, h2)))) := (W_invV (st := st) f155_50 rfl rfl (by simp only [List.length_cons]; omega) rfl rfl hp).trans (by simp only [hm155, if_true])
theorem f155_53 : fetch 155 53 = some (.aload_n 0, 1, [], .null) := by decide +kernel
theorem w155_53 : Wp d 155 53 [some (.ref a), l1, l2, l3, l4, l5] st h Q = Wp d 155 54 [some (.ref a), l1, l2, l3, l4, l5] (.ref a :: st) h Q := W_go f155_53 rfl
theorem f155_54 : fetch 155 54 = some (.getfield 9, 3, [10, 1, 6132, 0], .null) := by decide +kernel
theorem w155_54 : Wp d 155 54 [l0, l1, l2, l3, l4, l5] (.ref a :: st) h Q = gP (h.2 a) 10 1 (fun w => Wp d 155 57 [l0, l1, l2, l3, l4, l5] (w :: st) h Q) := W_get f155_54 rfl
theorem f155_57 : fetch 155 57 = some (.iload_n 1, 1, [], .null) := by decide +kernel
theorem w155_57 : Wp d 155 57 [l0, some (.int x), l2, l3, l4, l5] st h Q = Wp d 155 58 [l0, some (.int x), l2, l3, l4, l5] (.int x :: st) h Q := W_go f155_57 rfl
theorem f155_58 : fetch 155 58 = some (.iload 5, 2, [], .null) := by decide +kernel
theorem w155_58 : Wp d 155 58 [l0, l1, l2, l3, l4, some (.int x)] st h Q = Wp d 155 60 [l0, l1, l2, l3, l4, some (.int x)] (.int x :: st) h Q := W_go f155_58 rfl
theorem f155_60 : fetch 155 60 = some (.iadd, 1, [], .null) := by decide +kernel
theorem w155_60 : Wp d 155 60 [l0, l1, l2, l3, l4, l5] (.int y :: .int x :: st) h Q = Wp d 155 61 [l0, l1, l2, l3, l4, l5] (.int (x + y) :: st) h Q := W_go f155_60 rfl
theorem f155_61 : fetch 155 61 = some (.iaload, 1, [], .null) := by decide +kernel
theorem w155_61 : Wp d 155 61 [l0, l1, l2, l3, l4, l5] (.int x :: .ref a :: st) h Q = aP false (h.2 a) x (fun w => Wp d 155 62 [l0, l1, l2, l3, l4, l5] (.int w :: st) h Q) := W_ald f155_61 rfl
theorem f155_62 : fetch 155 62 = some (.if_icmp .ne 7, 3, [], .null) := by decide +kernel
theorem w155_62 : Wp d 155 62 [l0, l1, l2, l3, l4, l5] (.int y :: .int x :: st) h Q = if icond .ne x y = true then Wp d 155 69 [l0, l1, l2, l3, l4, l5] st h Q else Wp d 155 65 [l0, l1, l2, l3, l4, l5] st h Q := W_if f155_62 rfl
theorem f155_65 : fetch 155 65 = some (.iconst 1, 1, [], .null) := by decide +kernel
theorem w155_65 : Wp d 155 65 [l0, l1, l2, l3, l4, l5] st h Q = Wp d 155 66 [l0, l1, l2, l3, l4, l5] (.int (1 : Int32) :: st) h Q := W_go f155_65 rfl
theorem f155_66 : fetch 155 66 = some (.goto 4, 3, [], .null) := by decide +kernel
theorem w155_66 : Wp d 155 66 [l0, l1, l2, l3, l4, l5] st h Q = Wp d 155 70 [l0, l1, l2, l3, l4, l5] st h Q := W_go f155_66 rfl
theorem f155_69 : fetch 155 69 = some (.iconst 0, 1, [], .null) := by decide +kernel
theorem w155_69 : Wp d 155 69 [l0, l1, l2, l3, l4, l5] st h Q = Wp d 155 70 [l0, l1, l2, l3, l4, l5] (.int (0 : Int32) :: st) h Q := W_go f155_69 rfl
theorem f155_70 : fetch 155 70 = some (.istore 4, 2, [], .null) := by decide +kernel
theorem w155_70 : Wp d 155 70 [l0, l1, l2, l3, l4, l5] (.int x :: st) h Q = Wp d 155 72 [l0, l1, l2, kl l3, some (.int x), l5] st h Q := (W_st1 (pc' := 72) (k := 4) f155_70 rfl rfl (by simp only [List.length_cons, List.length_nil]; omega)).trans (by rw [pst1_succ]; rfl)
theorem f155_72 : fetch 155 72 = some (.iinc 5 1, 3, [], .null) := by decide +kernel
theorem w155_72 : Wp d 155 72 [l0, l1, l2, l3, l4, some (.int x)] st h Q = Wp d 155 75 [l0, l1, l2, l3, kl l4, some (.int (x + (1 : Int32)))] st h Q := (W_iinc (y := (1 : Int32)) f155_72 rfl (by simp only [List.length_cons, List.length_nil]; omega) (by decide)).trans (by rw [pst1_succ]; rfl)
theorem f155_75 : fetch 155 75 = some (.goto (-43), 3, [], .null) := by decide +kernel
theorem w155_75 : Wp d 155 75 [l0, l1, l2, l3, l4, l5] st h Q = Wp d 155 32 [l0, l1, l2, l3, l4, l5] st h Q := W_go f155_75 rfl
theorem f155_78 : fetch 155 78 = some (.iload 4, 2, [], .null) := by decide +kernel
theorem w155_78 : Wp d 155 78 [l0, l1, l2, l3, some (.int x), l5] st h Q = Wp d 155 80 [l0, l1, l2, l3, some (.int x), l5] (.int x :: st) h Q := W_go f155_78 rfl
theorem f155_80 : fetch 155 80 = some (.ifCond .eq 5, 3, [], .null) := by decide +kernel
theorem w155_80 : Wp d 155 80 [l0, l1, l2, l3, l4, l5] (.int x :: st) h Q = if icond .eq x 0 = true then Wp d 155 85 [l0, l1, l2, l3, l4, l5] st h Q else Wp d 155 83 [l0, l1, l2, l3, l4, l5] st h Q := W_if f155_80 rfl
theorem f155_83 : fetch 155 83 = some (.iload_n 3, 1, [], .null) := by decide +kernel
theorem w155_83 : Wp d 155 83 [l0, l1, l2, some (.int x), l4, l5] st h Q = Wp d 155 84 [l0, l1, l2, some (.int x), l4, l5] (.int x :: st) h Q := W_go f155_83 rfl
theorem f155_84 : fetch 155 84 = some (.ireturn, 1, [], .null) := by decide +kernel
theorem w155_84 : Wp d 155 84 [l0, l1, l2, l3, l4, l5] [.int x] h Q = Q (.inl (some (.int x)), h) := W_iret f155_84 hr155
theorem f155_85 : fetch 155 85 = some (.iinc 3 1, 3, [], .null) := by decide +kernel
theorem w155_85 : Wp d 155 85 [l0, l1, l2, some (.int x), l4, l5] st h Q = Wp d 155 88 [l0, l1, kl l2, some (.int (x + (1 : Int32))), l4, l5] st h Q := (W_iinc (y := (1 : Int32)) f155_85 rfl (by simp only [List.length_cons, List.length_nil]; omega) (by decide)).trans (by rw [pst1_succ]; rfl)
theorem f155_88 : fetch 155 88 = some (.goto (-86), 3, [], .null) := by decide +kernel
theorem w155_88 : Wp d 155 88 [l0, l1, l2, l3, l4, l5] st h Q = Wp d 155 2 [l0, l1, l2, l3, l4, l5] st h Q := W_go f155_88 rfl
theorem f155_91 : fetch 155 91 = some (.bipush 40, 2, [], .null) := by decide +kernel
theorem w155_91 : Wp d 155 91 [l0, l1, l2, l3, l4, l5] st h Q = Wp d 155 93 [l0, l1, l2, l3, l4, l5] (.int (40 : Int32) :: st) h Q := W_go f155_91 rfl
theorem f155_93 : fetch 155 93 = some (.ireturn, 1, [], .null) := by decide +kernel
theorem w155_93 : Wp d 155 93 [l0, l1, l2, l3, l4, l5] [.int x] h Q = Q (.inl (some (.int x)), h) := W_iret f155_93 hr155
theorem hm156 : mhs 156 = [] := by decide +kernel
theorem f156_0 : fetch 156 0 = some (.iconst 0, 1, [], .null) := by decide +kernel
theorem w156_0 : Wp d 156 0 [l0, l1, l2] st h Q = Wp d 156 1 [l0, l1, l2] (.int (0 : Int32) :: st) h Q := W_go f156_0 rfl
theorem f156_1 : fetch 156 1 = some (.istore_n 1, 1, [], .null) := by decide +kernel
theorem w156_1 : Wp d 156 1 [l0, l1, l2] (.int x :: st) h Q = Wp d 156 2 [kl l0, some (.int x), l2] st h Q := (W_st1 (pc' := 2) (k := 1) f156_1 rfl rfl (by simp only [List.length_cons, List.length_nil]; omega)).trans (by rw [pst1_succ]; rfl)
theorem f156_2 : fetch 156 2 = some (.iconst 0, 1, [], .null) := by decide +kernel
theorem w156_2 : Wp d 156 2 [l0, l1, l2] st h Q = Wp d 156 3 [l0, l1, l2] (.int (0 : Int32) :: st) h Q := W_go f156_2 rfl
theorem f156_3 : fetch 156 3 = some (.istore_n 2, 1, [], .null) := by decide +kernel
theorem w156_3 : Wp d 156 3 [l0, l1, l2] (.int x :: st) h Q = Wp d 156 4 [l0, kl l1, some (.int x)] st h Q := (W_st1 (pc' := 4) (k := 2) f156_3 rfl rfl (by simp only [List.length_cons, List.length_nil]; omega)).trans (by rw [pst1_succ]; rfl)
theorem f156_4 : fetch 156 4 = some (.iload_n 2, 1, [], .null) := by decide +kernel
theorem w156_4 : Wp d 156 4 [l0, l1, some (.int x)] st h Q = Wp d 156 5 [l0, l1, some (.int x)] (.int x :: st) h Q := W_go f156_4 rfl
theorem f156_5 : fetch 156 5 = some (.sipush 400, 3, [], .null) := by decide +kernel
theorem w156_5 : Wp d 156 5 [l0, l1, l2] st h Q = Wp d 156 8 [l0, l1, l2] (.int (400 : Int32) :: st) h Q := W_go f156_5 rfl
theorem f156_8 : fetch 156 8 = some (.if_icmp .gt 111, 3, [], .null) := by decide +kernel
theorem w156_8 : Wp d 156 8 [l0, l1, l2] (.int y :: .int x :: st) h Q = if icond .gt x y = true then Wp d 156 119 [l0, l1, l2] st h Q else Wp d 156 11 [l0, l1, l2] st h Q := W_if f156_8 rfl
theorem f156_11 : fetch 156 11 = some (.aload_n 0, 1, [], .null) := by decide +kernel
theorem w156_11 : Wp d 156 11 [some (.ref a), l1, l2] st h Q = Wp d 156 12 [some (.ref a), l1, l2] (.ref a :: st) h Q := W_go f156_11 rfl
theorem f156_12 : fetch 156 12 = some (.iload_n 1, 1, [], .null) := by decide +kernel
theorem w156_12 : Wp d 156 12 [l0, some (.int x), l2] st h Q = Wp d 156 13 [l0, some (.int x), l2] (.int x :: st) h Q := W_go f156_12 rfl
theorem f156_13 : fetch 156 13 = some (.invokevirtual 73, 3, [153, 2, 11, 0, 6214, 1013, 6217, 6216, 38], .null) := by decide +kernel
theorem w156_13 (hp : psum st ≤ 8) : Wp d 156 13 [l0, l1, l2] (v1 :: (.ref b) :: st) h Q = rP (h.2 b) 10 (Cp d 153 [(.ref b), v1] h (fun o => cK o (fun w h2 => Wp d 156 16 [l0, l1, l2] (w.toList ++ st) h2 Q) (fun E h2 => Q (.inr E, h2)))) := (W_invV (st := st) f156_13 rfl rfl (by simp only [List.length_cons]; omega) rfl rfl hp).trans (by simp only [hm156, if_true])
theorem f156_16 : fetch 156 16 = some (.bipush 32, 2, [], .null) := by decide +kernel
theorem w156_16 : Wp d 156 16 [l0, l1, l2] st h Q = Wp d 156 18 [l0, l1, l2] (.int (32 : Int32) :: st) h Q := W_go f156_16 rfl
theorem f156_18 : fetch 156 18 = some (.if_icmp .eq 13, 3, [], .null) := by decide +kernel
theorem w156_18 : Wp d 156 18 [l0, l1, l2] (.int y :: .int x :: st) h Q = if icond .eq x y = true then Wp d 156 31 [l0, l1, l2] st h Q else Wp d 156 21 [l0, l1, l2] st h Q := W_if f156_18 rfl
theorem f156_21 : fetch 156 21 = some (.aload_n 0, 1, [], .null) := by decide +kernel
theorem w156_21 : Wp d 156 21 [some (.ref a), l1, l2] st h Q = Wp d 156 22 [some (.ref a), l1, l2] (.ref a :: st) h Q := W_go f156_21 rfl
theorem f156_22 : fetch 156 22 = some (.iload_n 1, 1, [], .null) := by decide +kernel
theorem w156_22 : Wp d 156 22 [l0, some (.int x), l2] st h Q = Wp d 156 23 [l0, some (.int x), l2] (.int x :: st) h Q := W_go f156_22 rfl
theorem f156_23 : fetch 156 23 = some (.invokevirtual 73, 3, [153, 2, 11, 0, 6214, 1013, 6217, 6216, 38], .null) := by decide +kernel
theorem w156_23 (hp : psum st ≤ 8) : Wp d 156 23 [l0, l1, l2] (v1 :: (.ref b) :: st) h Q = rP (h.2 b) 10 (Cp d 153 [(.ref b), v1] h (fun o => cK o (fun w h2 => Wp d 156 26 [l0, l1, l2] (w.toList ++ st) h2 Q) (fun E h2 => Q (.inr E, h2)))) := (W_invV (st := st) f156_23 rfl rfl (by simp only [List.length_cons]; omega) rfl rfl hp).trans (by simp only [hm156, if_true])
theorem f156_26 : fetch 156 26 = some (.bipush 10, 2, [], .null) := by decide +kernel
theorem w156_26 : Wp d 156 26 [l0, l1, l2] st h Q = Wp d 156 28 [l0, l1, l2] (.int (10 : Int32) :: st) h Q := W_go f156_26 rfl
theorem f156_28 : fetch 156 28 = some (.if_icmp .ne 9, 3, [], .null) := by decide +kernel
theorem w156_28 : Wp d 156 28 [l0, l1, l2] (.int y :: .int x :: st) h Q = if icond .ne x y = true then Wp d 156 37 [l0, l1, l2] st h Q else Wp d 156 31 [l0, l1, l2] st h Q := W_if f156_28 rfl
theorem f156_31 : fetch 156 31 = some (.iinc 1 1, 3, [], .null) := by decide +kernel
theorem w156_31 : Wp d 156 31 [l0, some (.int x), l2] st h Q = Wp d 156 34 [kl l0, some (.int (x + (1 : Int32))), l2] st h Q := (W_iinc (y := (1 : Int32)) f156_31 rfl (by simp only [List.length_cons, List.length_nil]; omega) (by decide)).trans (by rw [pst1_succ]; rfl)
theorem f156_34 : fetch 156 34 = some (.goto (-23), 3, [], .null) := by decide +kernel
theorem w156_34 : Wp d 156 34 [l0, l1, l2] st h Q = Wp d 156 11 [l0, l1, l2] st h Q := W_go f156_34 rfl
theorem f156_37 : fetch 156 37 = some (.aload_n 0, 1, [], .null) := by decide +kernel
theorem w156_37 : Wp d 156 37 [some (.ref a), l1, l2] st h Q = Wp d 156 38 [some (.ref a), l1, l2] (.ref a :: st) h Q := W_go f156_37 rfl
theorem f156_38 : fetch 156 38 = some (.getfield 20, 3, [10, 5, 6136, 0], .null) := by decide +kernel
theorem w156_38 : Wp d 156 38 [l0, l1, l2] (.ref a :: st) h Q = gP (h.2 a) 10 5 (fun w => Wp d 156 41 [l0, l1, l2] (w :: st) h Q) := W_get f156_38 rfl
theorem f156_41 : fetch 156 41 = some (.iload_n 2, 1, [], .null) := by decide +kernel
theorem w156_41 : Wp d 156 41 [l0, l1, some (.int x)] st h Q = Wp d 156 42 [l0, l1, some (.int x)] (.int x :: st) h Q := W_go f156_41 rfl
theorem f156_42 : fetch 156 42 = some (.iload_n 1, 1, [], .null) := by decide +kernel
theorem w156_42 : Wp d 156 42 [l0, some (.int x), l2] st h Q = Wp d 156 43 [l0, some (.int x), l2] (.int x :: st) h Q := W_go f156_42 rfl
theorem f156_43 : fetch 156 43 = some (.iastore, 1, [], .null) := by decide +kernel
theorem w156_43 : Wp d 156 43 [l0, l1, l2] (.int y :: .int x :: .ref a :: st) h Q = asP false (h.2 a) a x y (fun c => Wp d 156 44 [l0, l1, l2] st (hset h a c) Q) := W_ast f156_43 rfl
theorem f156_44 : fetch 156 44 = some (.aload_n 0, 1, [], .null) := by decide +kernel
theorem w156_44 : Wp d 156 44 [some (.ref a), l1, l2] st h Q = Wp d 156 45 [some (.ref a), l1, l2] (.ref a :: st) h Q := W_go f156_44 rfl
theorem f156_45 : fetch 156 45 = some (.getfield 26, 3, [10, 7, 6138, 0], .null) := by decide +kernel
theorem w156_45 : Wp d 156 45 [l0, l1, l2] (.ref a :: st) h Q = gP (h.2 a) 10 7 (fun w => Wp d 156 48 [l0, l1, l2] (w :: st) h Q) := W_get f156_45 rfl
theorem f156_48 : fetch 156 48 = some (.iload_n 2, 1, [], .null) := by decide +kernel
theorem w156_48 : Wp d 156 48 [l0, l1, some (.int x)] st h Q = Wp d 156 49 [l0, l1, some (.int x)] (.int x :: st) h Q := W_go f156_48 rfl
theorem f156_49 : fetch 156 49 = some (.iconst 0, 1, [], .null) := by decide +kernel
theorem w156_49 : Wp d 156 49 [l0, l1, l2] st h Q = Wp d 156 50 [l0, l1, l2] (.int (0 : Int32) :: st) h Q := W_go f156_49 rfl
theorem f156_50 : fetch 156 50 = some (.iastore, 1, [], .null) := by decide +kernel
theorem w156_50 : Wp d 156 50 [l0, l1, l2] (.int y :: .int x :: .ref a :: st) h Q = asP false (h.2 a) a x y (fun c => Wp d 156 51 [l0, l1, l2] st (hset h a c) Q) := W_ast f156_50 rfl
theorem f156_51 : fetch 156 51 = some (.aload_n 0, 1, [], .null) := by decide +kernel
theorem w156_51 : Wp d 156 51 [some (.ref a), l1, l2] st h Q = Wp d 156 52 [some (.ref a), l1, l2] (.ref a :: st) h Q := W_go f156_51 rfl
theorem f156_52 : fetch 156 52 = some (.getfield 17, 3, [10, 4, 6135, 0], .null) := by decide +kernel
theorem w156_52 : Wp d 156 52 [l0, l1, l2] (.ref a :: st) h Q = gP (h.2 a) 10 4 (fun w => Wp d 156 55 [l0, l1, l2] (w :: st) h Q) := W_get f156_52 rfl
theorem f156_55 : fetch 156 55 = some (.iload_n 2, 1, [], .null) := by decide +kernel
theorem w156_55 : Wp d 156 55 [l0, l1, some (.int x)] st h Q = Wp d 156 56 [l0, l1, some (.int x)] (.int x :: st) h Q := W_go f156_55 rfl
theorem f156_56 : fetch 156 56 = some (.aload_n 0, 1, [], .null) := by decide +kernel
theorem w156_56 : Wp d 156 56 [some (.ref a), l1, l2] st h Q = Wp d 156 57 [some (.ref a), l1, l2] (.ref a :: st) h Q := W_go f156_56 rfl
theorem f156_57 : fetch 156 57 = some (.iload_n 1, 1, [], .null) := by decide +kernel
theorem w156_57 : Wp d 156 57 [l0, some (.int x), l2] st h Q = Wp d 156 58 [l0, some (.int x), l2] (.int x :: st) h Q := W_go f156_57 rfl
theorem f156_58 : fetch 156 58 = some (.iload_n 2, 1, [], .null) := by decide +kernel
theorem w156_58 : Wp d 156 58 [l0, l1, some (.int x)] st h Q = Wp d 156 59 [l0, l1, some (.int x)] (.int x :: st) h Q := W_go f156_58 rfl
theorem f156_59 : fetch 156 59 = some (.invokevirtual 102, 3, [154, 3, 11, 0, 6218, 1013, 6221, 6220, 39], .null) := by decide +kernel
theorem w156_59 (hp : psum st ≤ 8) : Wp d 156 59 [l0, l1, l2] (v2 :: v1 :: (.ref b) :: st) h Q = rP (h.2 b) 10 (Cp d 154 [(.ref b), v1, v2] h (fun o => cK o (fun w h2 => Wp d 156 62 [l0, l1, l2] (w.toList ++ st) h2 Q) (fun E h2 => Q (.inr E, h2)))) := (W_invV (st := st) f156_59 rfl rfl (by simp only [List.length_cons]; omega) rfl rfl hp).trans (by simp only [hm156, if_true])
theorem f156_62 : fetch 156 62 = some (.iastore, 1, [], .null) := by decide +kernel
theorem w156_62 : Wp d 156 62 [l0, l1, l2] (.int y :: .int x :: .ref a :: st) h Q = asP false (h.2 a) a x y (fun c => Wp d 156 63 [l0, l1, l2] st (hset h a c) Q) := W_ast f156_62 rfl
theorem f156_63 : fetch 156 63 = some (.iload_n 2, 1, [], .null) := by decide +kernel
theorem w156_63 : Wp d 156 63 [l0, l1, some (.int x)] st h Q = Wp d 156 64 [l0, l1, some (.int x)] (.int x :: st) h Q := W_go f156_63 rfl
theorem f156_64 : fetch 156 64 = some (.sipush 400, 3, [], .null) := by decide +kernel
theorem w156_64 : Wp d 156 64 [l0, l1, l2] st h Q = Wp d 156 67 [l0, l1, l2] (.int (400 : Int32) :: st) h Q := W_go f156_64 rfl
theorem f156_67 : fetch 156 67 = some (.if_icmp .ne 24, 3, [], .null) := by decide +kernel
theorem w156_67 : Wp d 156 67 [l0, l1, l2] (.int y :: .int x :: st) h Q = if icond .ne x y = true then Wp d 156 91 [l0, l1, l2] st h Q else Wp d 156 70 [l0, l1, l2] st h Q := W_if f156_67 rfl
theorem f156_70 : fetch 156 70 = some (.aload_n 0, 1, [], .null) := by decide +kernel
theorem w156_70 : Wp d 156 70 [some (.ref a), l1, l2] st h Q = Wp d 156 71 [some (.ref a), l1, l2] (.ref a :: st) h Q := W_go f156_70 rfl
theorem f156_71 : fetch 156 71 = some (.getfield 17, 3, [10, 4, 6135, 0], .null) := by decide +kernel
theorem w156_71 : Wp d 156 71 [l0, l1, l2] (.ref a :: st) h Q = gP (h.2 a) 10 4 (fun w => Wp d 156 74 [l0, l1, l2] (w :: st) h Q) := W_get f156_71 rfl
theorem f156_74 : fetch 156 74 = some (.iload_n 2, 1, [], .null) := by decide +kernel
theorem w156_74 : Wp d 156 74 [l0, l1, some (.int x)] st h Q = Wp d 156 75 [l0, l1, some (.int x)] (.int x :: st) h Q := W_go f156_74 rfl
theorem f156_75 : fetch 156 75 = some (.iaload, 1, [], .null) := by decide +kernel
theorem w156_75 : Wp d 156 75 [l0, l1, l2] (.int x :: .ref a :: st) h Q = aP false (h.2 a) x (fun w => Wp d 156 76 [l0, l1, l2] (.int w :: st) h Q) := W_ald f156_75 rfl
theorem f156_76 : fetch 156 76 = some (.sipush 900, 3, [], .null) := by decide +kernel
theorem w156_76 : Wp d 156 76 [l0, l1, l2] st h Q = Wp d 156 79 [l0, l1, l2] (.int (900 : Int32) :: st) h Q := W_go f156_76 rfl
theorem f156_79 : fetch 156 79 = some (.if_icmp .eq 12, 3, [], .null) := by decide +kernel
theorem w156_79 : Wp d 156 79 [l0, l1, l2] (.int y :: .int x :: st) h Q = if icond .eq x y = true then Wp d 156 91 [l0, l1, l2] st h Q else Wp d 156 82 [l0, l1, l2] st h Q := W_if f156_79 rfl
theorem f156_82 : fetch 156 82 = some (.aload_n 0, 1, [], .null) := by decide +kernel
theorem w156_82 : Wp d 156 82 [some (.ref a), l1, l2] st h Q = Wp d 156 83 [some (.ref a), l1, l2] (.ref a :: st) h Q := W_go f156_82 rfl
theorem f156_83 : fetch 156 83 = some (.getfield 17, 3, [10, 4, 6135, 0], .null) := by decide +kernel
theorem w156_83 : Wp d 156 83 [l0, l1, l2] (.ref a :: st) h Q = gP (h.2 a) 10 4 (fun w => Wp d 156 86 [l0, l1, l2] (w :: st) h Q) := W_get f156_83 rfl
theorem f156_86 : fetch 156 86 = some (.iload_n 2, 1, [], .null) := by decide +kernel
theorem w156_86 : Wp d 156 86 [l0, l1, some (.int x)] st h Q = Wp d 156 87 [l0, l1, some (.int x)] (.int x :: st) h Q := W_go f156_86 rfl
theorem f156_87 : fetch 156 87 = some (.sipush 901, 3, [], .null) := by decide +kernel
theorem w156_87 : Wp d 156 87 [l0, l1, l2] st h Q = Wp d 156 90 [l0, l1, l2] (.int (901 : Int32) :: st) h Q := W_go f156_87 rfl
theorem f156_90 : fetch 156 90 = some (.iastore, 1, [], .null) := by decide +kernel
theorem w156_90 : Wp d 156 90 [l0, l1, l2] (.int y :: .int x :: .ref a :: st) h Q = asP false (h.2 a) a x y (fun c => Wp d 156 91 [l0, l1, l2] st (hset h a c) Q) := W_ast f156_90 rfl
theorem f156_91 : fetch 156 91 = some (.aload_n 0, 1, [], .null) := by decide +kernel
theorem w156_91 : Wp d 156 91 [some (.ref a), l1, l2] st h Q = Wp d 156 92 [some (.ref a), l1, l2] (.ref a :: st) h Q := W_go f156_91 rfl
theorem f156_92 : fetch 156 92 = some (.getfield 17, 3, [10, 4, 6135, 0], .null) := by decide +kernel
theorem w156_92 : Wp d 156 92 [l0, l1, l2] (.ref a :: st) h Q = gP (h.2 a) 10 4 (fun w => Wp d 156 95 [l0, l1, l2] (w :: st) h Q) := W_get f156_92 rfl
theorem f156_95 : fetch 156 95 = some (.iload_n 2, 1, [], .null) := by decide +kernel
theorem w156_95 : Wp d 156 95 [l0, l1, some (.int x)] st h Q = Wp d 156 96 [l0, l1, some (.int x)] (.int x :: st) h Q := W_go f156_95 rfl
theorem f156_96 : fetch 156 96 = some (.iaload, 1, [], .null) := by decide +kernel
theorem w156_96 : Wp d 156 96 [l0, l1, l2] (.int x :: .ref a :: st) h Q = aP false (h.2 a) x (fun w => Wp d 156 97 [l0, l1, l2] (.int w :: st) h Q) := W_ald f156_96 rfl
theorem f156_97 : fetch 156 97 = some (.sipush 900, 3, [], .null) := by decide +kernel
theorem w156_97 : Wp d 156 97 [l0, l1, l2] st h Q = Wp d 156 100 [l0, l1, l2] (.int (900 : Int32) :: st) h Q := W_go f156_97 rfl
theorem f156_100 : fetch 156 100 = some (.if_icmp .lt 4, 3, [], .null) := by decide +kernel
theorem w156_100 : Wp d 156 100 [l0, l1, l2] (.int y :: .int x :: st) h Q = if icond .lt x y = true then Wp d 156 104 [l0, l1, l2] st h Q else Wp d 156 103 [l0, l1, l2] st h Q := W_if f156_100 rfl
theorem f156_103 : fetch 156 103 = some (.return_, 1, [], .null) := by decide +kernel
theorem w156_103 : Wp d 156 103 [l0, l1, l2] [] h Q = Q (.inl none, h) := W_fin f156_103 rfl
theorem f156_104 : fetch 156 104 = some (.iload_n 1, 1, [], .null) := by decide +kernel
theorem w156_104 : Wp d 156 104 [l0, some (.int x), l2] st h Q = Wp d 156 105 [l0, some (.int x), l2] (.int x :: st) h Q := W_go f156_104 rfl
theorem f156_105 : fetch 156 105 = some (.aload_n 0, 1, [], .null) := by decide +kernel
theorem w156_105 : Wp d 156 105 [some (.ref a), l1, l2] st h Q = Wp d 156 106 [some (.ref a), l1, l2] (.ref a :: st) h Q := W_go f156_105 rfl
theorem f156_106 : fetch 156 106 = some (.getfield 23, 3, [10, 6, 6137, 0], .null) := by decide +kernel
theorem w156_106 : Wp d 156 106 [l0, l1, l2] (.ref a :: st) h Q = gP (h.2 a) 10 6 (fun w => Wp d 156 109 [l0, l1, l2] (w :: st) h Q) := W_get f156_106 rfl
theorem f156_109 : fetch 156 109 = some (.iload_n 2, 1, [], .null) := by decide +kernel
theorem w156_109 : Wp d 156 109 [l0, l1, some (.int x)] st h Q = Wp d 156 110 [l0, l1, some (.int x)] (.int x :: st) h Q := W_go f156_109 rfl
theorem f156_110 : fetch 156 110 = some (.iaload, 1, [], .null) := by decide +kernel
theorem w156_110 : Wp d 156 110 [l0, l1, l2] (.int x :: .ref a :: st) h Q = aP false (h.2 a) x (fun w => Wp d 156 111 [l0, l1, l2] (.int w :: st) h Q) := W_ald f156_110 rfl
theorem f156_111 : fetch 156 111 = some (.iadd, 1, [], .null) := by decide +kernel
theorem w156_111 : Wp d 156 111 [l0, l1, l2] (.int y :: .int x :: st) h Q = Wp d 156 112 [l0, l1, l2] (.int (x + y) :: st) h Q := W_go f156_111 rfl
theorem f156_112 : fetch 156 112 = some (.istore_n 1, 1, [], .null) := by decide +kernel
theorem w156_112 : Wp d 156 112 [l0, l1, l2] (.int x :: st) h Q = Wp d 156 113 [kl l0, some (.int x), l2] st h Q := (W_st1 (pc' := 113) (k := 1) f156_112 rfl rfl (by simp only [List.length_cons, List.length_nil]; omega)).trans (by rw [pst1_succ]; rfl)
theorem f156_113 : fetch 156 113 = some (.iinc 2 1, 3, [], .null) := by decide +kernel
theorem w156_113 : Wp d 156 113 [l0, l1, some (.int x)] st h Q = Wp d 156 116 [l0, kl l1, some (.int (x + (1 : Int32)))] st h Q := (W_iinc (y := (1 : Int32)) f156_113 rfl (by simp only [List.length_cons, List.length_nil]; omega) (by decide)).trans (by rw [pst1_succ]; rfl)
theorem f156_116 : fetch 156 116 = some (.goto (-112), 3, [], .null) := by decide +kernel
theorem w156_116 : Wp d 156 116 [l0, l1, l2] st h Q = Wp d 156 4 [l0, l1, l2] st h Q := W_go f156_116 rfl
theorem f156_119 : fetch 156 119 = some (.return_, 1, [], .null) := by decide +kernel
theorem w156_119 : Wp d 156 119 [l0, l1, l2] [] h Q = Q (.inl none, h) := W_fin f156_119 rfl
theorem hm157 : mhs 157 = [] := by decide +kernel
theorem hr157 : mret 157 = (some .boolean) := by decide +kernel
theorem f157_0 : fetch 157 0 = some (.aload_n 0, 1, [], .null) := by decide +kernel
theorem w157_0 : Wp d 157 0 [some (.ref a), l1] st h Q = Wp d 157 1 [some (.ref a), l1] (.ref a :: st) h Q := W_go f157_0 rfl
theorem f157_1 : fetch 157 1 = some (.getfield 17, 3, [10, 4, 6135, 0], .null) := by decide +kernel
theorem w157_1 : Wp d 157 1 [l0, l1] (.ref a :: st) h Q = gP (h.2 a) 10 4 (fun w => Wp d 157 4 [l0, l1] (w :: st) h Q) := W_get f157_1 rfl
theorem f157_4 : fetch 157 4 = some (.aload_n 0, 1, [], .null) := by decide +kernel
theorem w157_4 : Wp d 157 4 [some (.ref a), l1] st h Q = Wp d 157 5 [some (.ref a), l1] (.ref a :: st) h Q := W_go f157_4 rfl
theorem f157_5 : fetch 157 5 = some (.getfield 105, 3, [10, 8, 6139, 0], .null) := by decide +kernel
theorem w157_5 : Wp d 157 5 [l0, l1] (.ref a :: st) h Q = gP (h.2 a) 10 8 (fun w => Wp d 157 8 [l0, l1] (w :: st) h Q) := W_get f157_5 rfl
theorem f157_8 : fetch 157 8 = some (.iaload, 1, [], .null) := by decide +kernel
theorem w157_8 : Wp d 157 8 [l0, l1] (.int x :: .ref a :: st) h Q = aP false (h.2 a) x (fun w => Wp d 157 9 [l0, l1] (.int w :: st) h Q) := W_ald f157_8 rfl
theorem f157_9 : fetch 157 9 = some (.iload_n 1, 1, [], .null) := by decide +kernel
theorem w157_9 : Wp d 157 9 [l0, some (.int x)] st h Q = Wp d 157 10 [l0, some (.int x)] (.int x :: st) h Q := W_go f157_9 rfl
theorem f157_10 : fetch 157 10 = some (.if_icmp .ne 7, 3, [], .null) := by decide +kernel
theorem w157_10 : Wp d 157 10 [l0, l1] (.int y :: .int x :: st) h Q = if icond .ne x y = true then Wp d 157 17 [l0, l1] st h Q else Wp d 157 13 [l0, l1] st h Q := W_if f157_10 rfl
theorem f157_13 : fetch 157 13 = some (.iconst 1, 1, [], .null) := by decide +kernel
theorem w157_13 : Wp d 157 13 [l0, l1] st h Q = Wp d 157 14 [l0, l1] (.int (1 : Int32) :: st) h Q := W_go f157_13 rfl
theorem f157_14 : fetch 157 14 = some (.goto 4, 3, [], .null) := by decide +kernel
theorem w157_14 : Wp d 157 14 [l0, l1] st h Q = Wp d 157 18 [l0, l1] st h Q := W_go f157_14 rfl
theorem f157_17 : fetch 157 17 = some (.iconst 0, 1, [], .null) := by decide +kernel
theorem w157_17 : Wp d 157 17 [l0, l1] st h Q = Wp d 157 18 [l0, l1] (.int (0 : Int32) :: st) h Q := W_go f157_17 rfl
theorem f157_18 : fetch 157 18 = some (.ireturn, 1, [], .null) := by decide +kernel
theorem w157_18 : Wp d 157 18 [l0, l1] [.int x] h Q = (if narrow .boolean (.int x) = .int x then Q (.inl (some (.int x)), h) else False) := W_zret f157_18 hr157
theorem hm158 : mhs 158 = [] := by decide +kernel
theorem hr158 : mret 158 = (some .boolean) := by decide +kernel
theorem f158_0 : fetch 158 0 = some (.aload_n 0, 1, [], .null) := by decide +kernel
theorem w158_0 : Wp d 158 0 [some (.ref a), l1] st h Q = Wp d 158 1 [some (.ref a), l1] (.ref a :: st) h Q := W_go f158_0 rfl
theorem f158_1 : fetch 158 1 = some (.getfield 17, 3, [10, 4, 6135, 0], .null) := by decide +kernel
theorem w158_1 : Wp d 158 1 [l0, l1] (.ref a :: st) h Q = gP (h.2 a) 10 4 (fun w => Wp d 158 4 [l0, l1] (w :: st) h Q) := W_get f158_1 rfl
theorem f158_4 : fetch 158 4 = some (.aload_n 0, 1, [], .null) := by decide +kernel
theorem w158_4 : Wp d 158 4 [some (.ref a), l1] st h Q = Wp d 158 5 [some (.ref a), l1] (.ref a :: st) h Q := W_go f158_4 rfl
theorem f158_5 : fetch 158 5 = some (.getfield 105, 3, [10, 8, 6139, 0], .null) := by decide +kernel
theorem w158_5 : Wp d 158 5 [l0, l1] (.ref a :: st) h Q = gP (h.2 a) 10 8 (fun w => Wp d 158 8 [l0, l1] (w :: st) h Q) := W_get f158_5 rfl
theorem f158_8 : fetch 158 8 = some (.iaload, 1, [], .null) := by decide +kernel
theorem w158_8 : Wp d 158 8 [l0, l1] (.int x :: .ref a :: st) h Q = aP false (h.2 a) x (fun w => Wp d 158 9 [l0, l1] (.int w :: st) h Q) := W_ald f158_8 rfl
theorem f158_9 : fetch 158 9 = some (.bipush 50, 2, [], .null) := by decide +kernel
theorem w158_9 : Wp d 158 9 [l0, l1] st h Q = Wp d 158 11 [l0, l1] (.int (50 : Int32) :: st) h Q := W_go f158_9 rfl
theorem f158_11 : fetch 158 11 = some (.iload_n 1, 1, [], .null) := by decide +kernel
theorem w158_11 : Wp d 158 11 [l0, some (.int x)] st h Q = Wp d 158 12 [l0, some (.int x)] (.int x :: st) h Q := W_go f158_11 rfl
theorem f158_12 : fetch 158 12 = some (.iadd, 1, [], .null) := by decide +kernel
theorem w158_12 : Wp d 158 12 [l0, l1] (.int y :: .int x :: st) h Q = Wp d 158 13 [l0, l1] (.int (x + y) :: st) h Q := W_go f158_12 rfl
theorem f158_13 : fetch 158 13 = some (.if_icmp .ne 7, 3, [], .null) := by decide +kernel
theorem w158_13 : Wp d 158 13 [l0, l1] (.int y :: .int x :: st) h Q = if icond .ne x y = true then Wp d 158 20 [l0, l1] st h Q else Wp d 158 16 [l0, l1] st h Q := W_if f158_13 rfl
theorem f158_16 : fetch 158 16 = some (.iconst 1, 1, [], .null) := by decide +kernel
theorem w158_16 : Wp d 158 16 [l0, l1] st h Q = Wp d 158 17 [l0, l1] (.int (1 : Int32) :: st) h Q := W_go f158_16 rfl
theorem f158_17 : fetch 158 17 = some (.goto 4, 3, [], .null) := by decide +kernel
theorem w158_17 : Wp d 158 17 [l0, l1] st h Q = Wp d 158 21 [l0, l1] st h Q := W_go f158_17 rfl
theorem f158_20 : fetch 158 20 = some (.iconst 0, 1, [], .null) := by decide +kernel
theorem w158_20 : Wp d 158 20 [l0, l1] st h Q = Wp d 158 21 [l0, l1] (.int (0 : Int32) :: st) h Q := W_go f158_20 rfl
theorem f158_21 : fetch 158 21 = some (.ireturn, 1, [], .null) := by decide +kernel
theorem w158_21 : Wp d 158 21 [l0, l1] [.int x] h Q = (if narrow .boolean (.int x) = .int x then Q (.inl (some (.int x)), h) else False) := W_zret f158_21 hr158
theorem hm159 : mhs 159 = [] := by decide +kernel
theorem hr159 : mret 159 = (some .boolean) := by decide +kernel
theorem f159_0 : fetch 159 0 = some (.aload_n 0, 1, [], .null) := by decide +kernel
theorem w159_0 : Wp d 159 0 [some (.ref a), l1] st h Q = Wp d 159 1 [some (.ref a), l1] (.ref a :: st) h Q := W_go f159_0 rfl
theorem f159_1 : fetch 159 1 = some (.iload_n 1, 1, [], .null) := by decide +kernel
theorem w159_1 : Wp d 159 1 [l0, some (.int x)] st h Q = Wp d 159 2 [l0, some (.int x)] (.int x :: st) h Q := W_go f159_1 rfl
theorem f159_2 : fetch 159 2 = some (.invokevirtual 108, 3, [157, 2, 11, 0, 7000, 1013, 7003, 7002, 42], .null) := by decide +kernel
theorem w159_2 (hp : psum st ≤ 8) : Wp d 159 2 [l0, l1] (v1 :: (.ref b) :: st) h Q = rP (h.2 b) 10 (Cp d 157 [(.ref b), v1] h (fun o => cK o (fun w h2 => Wp d 159 5 [l0, l1] (w.toList ++ st) h2 Q) (fun E h2 => Q (.inr E, h2)))) := (W_invV (st := st) f159_2 rfl rfl (by simp only [List.length_cons]; omega) rfl rfl hp).trans (by simp only [hm159, if_true])
theorem f159_5 : fetch 159 5 = some (.ifCond .ne 5, 3, [], .null) := by decide +kernel
theorem w159_5 : Wp d 159 5 [l0, l1] (.int x :: st) h Q = if icond .ne x 0 = true then Wp d 159 10 [l0, l1] st h Q else Wp d 159 8 [l0, l1] st h Q := W_if f159_5 rfl
theorem f159_8 : fetch 159 8 = some (.iconst 0, 1, [], .null) := by decide +kernel
theorem w159_8 : Wp d 159 8 [l0, l1] st h Q = Wp d 159 9 [l0, l1] (.int (0 : Int32) :: st) h Q := W_go f159_8 rfl
theorem f159_9 : fetch 159 9 = some (.ireturn, 1, [], .null) := by decide +kernel
theorem w159_9 : Wp d 159 9 [l0, l1] [.int x] h Q = (if narrow .boolean (.int x) = .int x then Q (.inl (some (.int x)), h) else False) := W_zret f159_9 hr159
theorem f159_10 : fetch 159 10 = some (.aload_n 0, 1, [], .null) := by decide +kernel
theorem w159_10 : Wp d 159 10 [some (.ref a), l1] st h Q = Wp d 159 11 [some (.ref a), l1] (.ref a :: st) h Q := W_go f159_10 rfl
theorem f159_11 : fetch 159 11 = some (.dup, 1, [], .null) := by decide +kernel
theorem w159_11i : Wp d 159 11 [l0, l1] (.int x :: st) h Q = Wp d 159 12 [l0, l1] (.int x :: .int x :: st) h Q := W_go f159_11 rfl
theorem w159_11 : Wp d 159 11 [l0, l1] (.ref a :: st) h Q = Wp d 159 12 [l0, l1] (.ref a :: .ref a :: st) h Q := W_go f159_11 rfl
theorem f159_12 : fetch 159 12 = some (.getfield 105, 3, [10, 8, 6139, 0], .null) := by decide +kernel
theorem w159_12 : Wp d 159 12 [l0, l1] (.ref a :: st) h Q = gP (h.2 a) 10 8 (fun w => Wp d 159 15 [l0, l1] (w :: st) h Q) := W_get f159_12 rfl
theorem f159_15 : fetch 159 15 = some (.iconst 1, 1, [], .null) := by decide +kernel
theorem w159_15 : Wp d 159 15 [l0, l1] st h Q = Wp d 159 16 [l0, l1] (.int (1 : Int32) :: st) h Q := W_go f159_15 rfl
theorem f159_16 : fetch 159 16 = some (.iadd, 1, [], .null) := by decide +kernel
theorem w159_16 : Wp d 159 16 [l0, l1] (.int y :: .int x :: st) h Q = Wp d 159 17 [l0, l1] (.int (x + y) :: st) h Q := W_go f159_16 rfl
theorem f159_17 : fetch 159 17 = some (.putfield 105, 3, [10, 8, 6139, 0], .null) := by decide +kernel
theorem w159_17 : Wp d 159 17 [l0, l1] (v :: .ref a :: st) h Q = pP (h.2 a) 10 8 (ftOf 10 8) v a (fun c => Wp d 159 20 [l0, l1] st (hset h a c) Q) := W_put f159_17 (by rfl)
theorem f159_20 : fetch 159 20 = some (.iconst 1, 1, [], .null) := by decide +kernel
theorem w159_20 : Wp d 159 20 [l0, l1] st h Q = Wp d 159 21 [l0, l1] (.int (1 : Int32) :: st) h Q := W_go f159_20 rfl
theorem f159_21 : fetch 159 21 = some (.ireturn, 1, [], .null) := by decide +kernel
theorem w159_21 : Wp d 159 21 [l0, l1] [.int x] h Q = (if narrow .boolean (.int x) = .int x then Q (.inl (some (.int x)), h) else False) := W_zret f159_21 hr159
end ROWS120
