section ROWS160
variable {d : Nat} {h : PH} {Q : PO → Prop} {st : List Value} {x y n sp dp : Int32} {x8 y8 : Int64} {xd yd : UInt64} {a b : Nat} {v v0 v1 v2 v3 v4 v5 v6 v7 v8 v9 : Value} {l0 l1 l2 l3 l4 l5 l6 l7 l8 l9 l10 l11 l12 l13 l14 l15 l16 l17 l18 l19 l20 l21 l22 l23 : Option Value}
theorem hm160 : mhs 160 = [] := by decide +kernel
theorem hr160 : mret 160 = (some .boolean) := by decide +kernel
theorem f160_0 : fetch 160 0 = some (.aload_n 0, 1, [], .null) := by decide +kernel
theorem w160_0 : Wp d 160 0 [some (.ref a), l1] st h Q = Wp d 160 1 [some (.ref a), l1] (.ref a :: st) h Q := W_go f160_0 rfl
theorem f160_1 : fetch 160 1 = some (.bipush 50, 2, [], .null) := by decide +kernel
theorem w160_1 : Wp d 160 1 [l0, l1] st h Q = Wp d 160 3 [l0, l1] (.int (50 : Int32) :: st) h Q := W_go f160_1 rfl
theorem f160_3 : fetch 160 3 = some (.iload_n 1, 1, [], .null) := by decide +kernel
theorem w160_3 : Wp d 160 3 [l0, some (.int x)] st h Q = Wp d 160 4 [l0, some (.int x)] (.int x :: st) h Q := W_go f160_3 rfl
theorem f160_4 : fetch 160 4 = some (.iadd, 1, [], .null) := by decide +kernel
theorem w160_4 : Wp d 160 4 [l0, l1] (.int y :: .int x :: st) h Q = Wp d 160 5 [l0, l1] (.int (x + y) :: st) h Q := W_go f160_4 rfl
theorem f160_5 : fetch 160 5 = some (.invokevirtual 111, 3, [159, 2, 11, 0, 7008, 1013, 7011, 7010, 44], .null) := by decide +kernel
theorem w160_5 (hp : psum st ≤ 8) : Wp d 160 5 [l0, l1] (v1 :: (.ref b) :: st) h Q = rP (h.2 b) 10 (Cp d 159 [(.ref b), v1] h (fun o => cK o (fun w h2 => Wp d 160 8 [l0, l1] (w.toList ++ st) h2 Q) (fun E h2 => Q (.inr E, h2)))) := (W_invV (st := st) f160_5 rfl rfl (by simp only [List.length_cons]; omega) rfl rfl hp).trans (by simp only [hm160, if_true])
theorem f160_8 : fetch 160 8 = some (.ireturn, 1, [], .null) := by decide +kernel
theorem w160_8 : Wp d 160 8 [l0, l1] [.int x] h Q = (if narrow .boolean (.int x) = .int x then Q (.inl (some (.int x)), h) else False) := W_zret f160_8 hr160
theorem hm161 : mhs 161 = [] := by decide +kernel
theorem hr161 : mret 161 = (some .boolean) := by decide +kernel
theorem f161_0 : fetch 161 0 = some (.aload_n 0, 1, [], .null) := by decide +kernel
theorem w161_0 : Wp d 161 0 [some (.ref a), l1, l2] st h Q = Wp d 161 1 [some (.ref a), l1, l2] (.ref a :: st) h Q := W_go f161_0 rfl
theorem f161_1 : fetch 161 1 = some (.getfield 26, 3, [10, 7, 6138, 0], .null) := by decide +kernel
theorem w161_1 : Wp d 161 1 [l0, l1, l2] (.ref a :: st) h Q = gP (h.2 a) 10 7 (fun w => Wp d 161 4 [l0, l1, l2] (w :: st) h Q) := W_get f161_1 rfl
theorem f161_4 : fetch 161 4 = some (.aload_n 0, 1, [], .null) := by decide +kernel
theorem w161_4 : Wp d 161 4 [some (.ref a), l1, l2] st h Q = Wp d 161 5 [some (.ref a), l1, l2] (.ref a :: st) h Q := W_go f161_4 rfl
theorem f161_5 : fetch 161 5 = some (.getfield 105, 3, [10, 8, 6139, 0], .null) := by decide +kernel
theorem w161_5 : Wp d 161 5 [l0, l1, l2] (.ref a :: st) h Q = gP (h.2 a) 10 8 (fun w => Wp d 161 8 [l0, l1, l2] (w :: st) h Q) := W_get f161_5 rfl
theorem f161_8 : fetch 161 8 = some (.iload_n 2, 1, [], .null) := by decide +kernel
theorem w161_8 : Wp d 161 8 [l0, l1, some (.int x)] st h Q = Wp d 161 9 [l0, l1, some (.int x)] (.int x :: st) h Q := W_go f161_8 rfl
theorem f161_9 : fetch 161 9 = some (.iastore, 1, [], .null) := by decide +kernel
theorem w161_9 : Wp d 161 9 [l0, l1, l2] (.int y :: .int x :: .ref a :: st) h Q = asP false (h.2 a) a x y (fun c => Wp d 161 10 [l0, l1, l2] st (hset h a c) Q) := W_ast f161_9 rfl
theorem f161_10 : fetch 161 10 = some (.aload_n 0, 1, [], .null) := by decide +kernel
theorem w161_10 : Wp d 161 10 [some (.ref a), l1, l2] st h Q = Wp d 161 11 [some (.ref a), l1, l2] (.ref a :: st) h Q := W_go f161_10 rfl
theorem f161_11 : fetch 161 11 = some (.iload_n 1, 1, [], .null) := by decide +kernel
theorem w161_11 : Wp d 161 11 [l0, some (.int x), l2] st h Q = Wp d 161 12 [l0, some (.int x), l2] (.int x :: st) h Q := W_go f161_11 rfl
theorem f161_12 : fetch 161 12 = some (.invokevirtual 111, 3, [159, 2, 11, 0, 7008, 1013, 7011, 7010, 44], .null) := by decide +kernel
theorem w161_12 (hp : psum st ≤ 8) : Wp d 161 12 [l0, l1, l2] (v1 :: (.ref b) :: st) h Q = rP (h.2 b) 10 (Cp d 159 [(.ref b), v1] h (fun o => cK o (fun w h2 => Wp d 161 15 [l0, l1, l2] (w.toList ++ st) h2 Q) (fun E h2 => Q (.inr E, h2)))) := (W_invV (st := st) f161_12 rfl rfl (by simp only [List.length_cons]; omega) rfl rfl hp).trans (by simp only [hm161, if_true])
theorem f161_15 : fetch 161 15 = some (.ireturn, 1, [], .null) := by decide +kernel
theorem w161_15 : Wp d 161 15 [l0, l1, l2] [.int x] h Q = (if narrow .boolean (.int x) = .int x then Q (.inl (some (.int x)), h) else False) := W_zret f161_15 hr161
theorem hm162 : mhs 162 = [] := by decide +kernel
theorem hr162 : mret 162 = (some .boolean) := by decide +kernel
theorem f162_0 : fetch 162 0 = some (.aload_n 0, 1, [], .null) := by decide +kernel
theorem w162_0 : Wp d 162 0 [some (.ref a), l1] st h Q = Wp d 162 1 [some (.ref a), l1] (.ref a :: st) h Q := W_go f162_0 rfl
theorem f162_1 : fetch 162 1 = some (.iconst 0, 1, [], .null) := by decide +kernel
theorem w162_1 : Wp d 162 1 [l0, l1] st h Q = Wp d 162 2 [l0, l1] (.int (0 : Int32) :: st) h Q := W_go f162_1 rfl
theorem f162_2 : fetch 162 2 = some (.invokevirtual 108, 3, [157, 2, 11, 0, 7000, 1013, 7003, 7002, 42], .null) := by decide +kernel
theorem w162_2 (hp : psum st ≤ 8) : Wp d 162 2 [l0, l1] (v1 :: (.ref b) :: st) h Q = rP (h.2 b) 10 (Cp d 157 [(.ref b), v1] h (fun o => cK o (fun w h2 => Wp d 162 5 [l0, l1] (w.toList ++ st) h2 Q) (fun E h2 => Q (.inr E, h2)))) := (W_invV (st := st) f162_2 rfl rfl (by simp only [List.length_cons]; omega) rfl rfl hp).trans (by simp only [hm162, if_true])
theorem f162_5 : fetch 162 5 = some (.ifCond .eq 70, 3, [], .null) := by decide +kernel
theorem w162_5 : Wp d 162 5 [l0, l1] (.int x :: st) h Q = if icond .eq x 0 = true then Wp d 162 75 [l0, l1] st h Q else Wp d 162 8 [l0, l1] st h Q := W_if f162_5 rfl
theorem f162_8 : fetch 162 8 = some (.aload_n 0, 1, [], .null) := by decide +kernel
theorem w162_8 : Wp d 162 8 [some (.ref a), l1] st h Q = Wp d 162 9 [some (.ref a), l1] (.ref a :: st) h Q := W_go f162_8 rfl
theorem f162_9 : fetch 162 9 = some (.dup, 1, [], .null) := by decide +kernel
theorem w162_9i : Wp d 162 9 [l0, l1] (.int x :: st) h Q = Wp d 162 10 [l0, l1] (.int x :: .int x :: st) h Q := W_go f162_9 rfl
theorem w162_9 : Wp d 162 9 [l0, l1] (.ref a :: st) h Q = Wp d 162 10 [l0, l1] (.ref a :: .ref a :: st) h Q := W_go f162_9 rfl
theorem f162_10 : fetch 162 10 = some (.getfield 105, 3, [10, 8, 6139, 0], .null) := by decide +kernel
theorem w162_10 : Wp d 162 10 [l0, l1] (.ref a :: st) h Q = gP (h.2 a) 10 8 (fun w => Wp d 162 13 [l0, l1] (w :: st) h Q) := W_get f162_10 rfl
theorem f162_13 : fetch 162 13 = some (.iconst 1, 1, [], .null) := by decide +kernel
theorem w162_13 : Wp d 162 13 [l0, l1] st h Q = Wp d 162 14 [l0, l1] (.int (1 : Int32) :: st) h Q := W_go f162_13 rfl
theorem f162_14 : fetch 162 14 = some (.iadd, 1, [], .null) := by decide +kernel
theorem w162_14 : Wp d 162 14 [l0, l1] (.int y :: .int x :: st) h Q = Wp d 162 15 [l0, l1] (.int (x + y) :: st) h Q := W_go f162_14 rfl
theorem f162_15 : fetch 162 15 = some (.putfield 105, 3, [10, 8, 6139, 0], .null) := by decide +kernel
theorem w162_15 : Wp d 162 15 [l0, l1] (v :: .ref a :: st) h Q = pP (h.2 a) 10 8 (ftOf 10 8) v a (fun c => Wp d 162 18 [l0, l1] st (hset h a c) Q) := W_put f162_15 (by rfl)
theorem f162_18 : fetch 162 18 = some (.aload_n 0, 1, [], .null) := by decide +kernel
theorem w162_18 : Wp d 162 18 [some (.ref a), l1] st h Q = Wp d 162 19 [some (.ref a), l1] (.ref a :: st) h Q := W_go f162_18 rfl
theorem f162_19 : fetch 162 19 = some (.bipush 40, 2, [], .null) := by decide +kernel
theorem w162_19 : Wp d 162 19 [l0, l1] st h Q = Wp d 162 21 [l0, l1] (.int (40 : Int32) :: st) h Q := W_go f162_19 rfl
theorem f162_21 : fetch 162 21 = some (.iconst 1, 1, [], .null) := by decide +kernel
theorem w162_21 : Wp d 162 21 [l0, l1] st h Q = Wp d 162 22 [l0, l1] (.int (1 : Int32) :: st) h Q := W_go f162_21 rfl
theorem f162_22 : fetch 162 22 = some (.invokevirtual 114, 3, [161, 3, 11, 0, 7004, 1013, 7007, 7006, 43], .null) := by decide +kernel
theorem w162_22 (hp : psum st ≤ 8) : Wp d 162 22 [l0, l1] (v2 :: v1 :: (.ref b) :: st) h Q = rP (h.2 b) 10 (Cp d 161 [(.ref b), v1, v2] h (fun o => cK o (fun w h2 => Wp d 162 25 [l0, l1] (w.toList ++ st) h2 Q) (fun E h2 => Q (.inr E, h2)))) := (W_invV (st := st) f162_22 rfl rfl (by simp only [List.length_cons]; omega) rfl rfl hp).trans (by simp only [hm162, if_true])
theorem f162_25 : fetch 162 25 = some (.ifCond .eq 48, 3, [], .null) := by decide +kernel
theorem w162_25 : Wp d 162 25 [l0, l1] (.int x :: st) h Q = if icond .eq x 0 = true then Wp d 162 73 [l0, l1] st h Q else Wp d 162 28 [l0, l1] st h Q := W_if f162_25 rfl
theorem f162_28 : fetch 162 28 = some (.aload_n 0, 1, [], .null) := by decide +kernel
theorem w162_28 : Wp d 162 28 [some (.ref a), l1] st h Q = Wp d 162 29 [some (.ref a), l1] (.ref a :: st) h Q := W_go f162_28 rfl
theorem f162_29 : fetch 162 29 = some (.iconst 1, 1, [], .null) := by decide +kernel
theorem w162_29 : Wp d 162 29 [l0, l1] st h Q = Wp d 162 30 [l0, l1] (.int (1 : Int32) :: st) h Q := W_go f162_29 rfl
theorem f162_30 : fetch 162 30 = some (.invokevirtual 111, 3, [159, 2, 11, 0, 7008, 1013, 7011, 7010, 44], .null) := by decide +kernel
theorem w162_30 (hp : psum st ≤ 8) : Wp d 162 30 [l0, l1] (v1 :: (.ref b) :: st) h Q = rP (h.2 b) 10 (Cp d 159 [(.ref b), v1] h (fun o => cK o (fun w h2 => Wp d 162 33 [l0, l1] (w.toList ++ st) h2 Q) (fun E h2 => Q (.inr E, h2)))) := (W_invV (st := st) f162_30 rfl rfl (by simp only [List.length_cons]; omega) rfl rfl hp).trans (by simp only [hm162, if_true])
theorem f162_33 : fetch 162 33 = some (.ifCond .eq 40, 3, [], .null) := by decide +kernel
theorem w162_33 : Wp d 162 33 [l0, l1] (.int x :: st) h Q = if icond .eq x 0 = true then Wp d 162 73 [l0, l1] st h Q else Wp d 162 36 [l0, l1] st h Q := W_if f162_33 rfl
theorem f162_36 : fetch 162 36 = some (.aload_n 0, 1, [], .null) := by decide +kernel
theorem w162_36 : Wp d 162 36 [some (.ref a), l1] st h Q = Wp d 162 37 [some (.ref a), l1] (.ref a :: st) h Q := W_go f162_36 rfl
theorem f162_37 : fetch 162 37 = some (.bipush 41, 2, [], .null) := by decide +kernel
theorem w162_37 : Wp d 162 37 [l0, l1] st h Q = Wp d 162 39 [l0, l1] (.int (41 : Int32) :: st) h Q := W_go f162_37 rfl
theorem f162_39 : fetch 162 39 = some (.iconst 3, 1, [], .null) := by decide +kernel
theorem w162_39 : Wp d 162 39 [l0, l1] st h Q = Wp d 162 40 [l0, l1] (.int (3 : Int32) :: st) h Q := W_go f162_39 rfl
theorem f162_40 : fetch 162 40 = some (.invokevirtual 114, 3, [161, 3, 11, 0, 7004, 1013, 7007, 7006, 43], .null) := by decide +kernel
theorem w162_40 (hp : psum st ≤ 8) : Wp d 162 40 [l0, l1] (v2 :: v1 :: (.ref b) :: st) h Q = rP (h.2 b) 10 (Cp d 161 [(.ref b), v1, v2] h (fun o => cK o (fun w h2 => Wp d 162 43 [l0, l1] (w.toList ++ st) h2 Q) (fun E h2 => Q (.inr E, h2)))) := (W_invV (st := st) f162_40 rfl rfl (by simp only [List.length_cons]; omega) rfl rfl hp).trans (by simp only [hm162, if_true])
theorem f162_43 : fetch 162 43 = some (.ifCond .eq 30, 3, [], .null) := by decide +kernel
theorem w162_43 : Wp d 162 43 [l0, l1] (.int x :: st) h Q = if icond .eq x 0 = true then Wp d 162 73 [l0, l1] st h Q else Wp d 162 46 [l0, l1] st h Q := W_if f162_43 rfl
theorem f162_46 : fetch 162 46 = some (.aload_n 0, 1, [], .null) := by decide +kernel
theorem w162_46 : Wp d 162 46 [some (.ref a), l1] st h Q = Wp d 162 47 [some (.ref a), l1] (.ref a :: st) h Q := W_go f162_46 rfl
theorem f162_47 : fetch 162 47 = some (.iconst 2, 1, [], .null) := by decide +kernel
theorem w162_47 : Wp d 162 47 [l0, l1] st h Q = Wp d 162 48 [l0, l1] (.int (2 : Int32) :: st) h Q := W_go f162_47 rfl
theorem f162_48 : fetch 162 48 = some (.invokevirtual 111, 3, [159, 2, 11, 0, 7008, 1013, 7011, 7010, 44], .null) := by decide +kernel
theorem w162_48 (hp : psum st ≤ 8) : Wp d 162 48 [l0, l1] (v1 :: (.ref b) :: st) h Q = rP (h.2 b) 10 (Cp d 159 [(.ref b), v1] h (fun o => cK o (fun w h2 => Wp d 162 51 [l0, l1] (w.toList ++ st) h2 Q) (fun E h2 => Q (.inr E, h2)))) := (W_invV (st := st) f162_48 rfl rfl (by simp only [List.length_cons]; omega) rfl rfl hp).trans (by simp only [hm162, if_true])
theorem f162_51 : fetch 162 51 = some (.ifCond .eq 22, 3, [], .null) := by decide +kernel
theorem w162_51 : Wp d 162 51 [l0, l1] (.int x :: st) h Q = if icond .eq x 0 = true then Wp d 162 73 [l0, l1] st h Q else Wp d 162 54 [l0, l1] st h Q := W_if f162_51 rfl
theorem f162_54 : fetch 162 54 = some (.aload_n 0, 1, [], .null) := by decide +kernel
theorem w162_54 : Wp d 162 54 [some (.ref a), l1] st h Q = Wp d 162 55 [some (.ref a), l1] (.ref a :: st) h Q := W_go f162_54 rfl
theorem f162_55 : fetch 162 55 = some (.bipush 41, 2, [], .null) := by decide +kernel
theorem w162_55 : Wp d 162 55 [l0, l1] st h Q = Wp d 162 57 [l0, l1] (.int (41 : Int32) :: st) h Q := W_go f162_55 rfl
theorem f162_57 : fetch 162 57 = some (.iconst 4, 1, [], .null) := by decide +kernel
theorem w162_57 : Wp d 162 57 [l0, l1] st h Q = Wp d 162 58 [l0, l1] (.int (4 : Int32) :: st) h Q := W_go f162_57 rfl
theorem f162_58 : fetch 162 58 = some (.invokevirtual 114, 3, [161, 3, 11, 0, 7004, 1013, 7007, 7006, 43], .null) := by decide +kernel
theorem w162_58 (hp : psum st ≤ 8) : Wp d 162 58 [l0, l1] (v2 :: v1 :: (.ref b) :: st) h Q = rP (h.2 b) 10 (Cp d 161 [(.ref b), v1, v2] h (fun o => cK o (fun w h2 => Wp d 162 61 [l0, l1] (w.toList ++ st) h2 Q) (fun E h2 => Q (.inr E, h2)))) := (W_invV (st := st) f162_58 rfl rfl (by simp only [List.length_cons]; omega) rfl rfl hp).trans (by simp only [hm162, if_true])
theorem f162_61 : fetch 162 61 = some (.ifCond .eq 12, 3, [], .null) := by decide +kernel
theorem w162_61 : Wp d 162 61 [l0, l1] (.int x :: st) h Q = if icond .eq x 0 = true then Wp d 162 73 [l0, l1] st h Q else Wp d 162 64 [l0, l1] st h Q := W_if f162_61 rfl
theorem f162_64 : fetch 162 64 = some (.aload_n 0, 1, [], .null) := by decide +kernel
theorem w162_64 : Wp d 162 64 [some (.ref a), l1] st h Q = Wp d 162 65 [some (.ref a), l1] (.ref a :: st) h Q := W_go f162_64 rfl
theorem f162_65 : fetch 162 65 = some (.bipush 59, 2, [], .null) := by decide +kernel
theorem w162_65 : Wp d 162 65 [l0, l1] st h Q = Wp d 162 67 [l0, l1] (.int (59 : Int32) :: st) h Q := W_go f162_65 rfl
theorem f162_67 : fetch 162 67 = some (.invokevirtual 118, 3, [160, 2, 11, 0, 7012, 1013, 7015, 7014, 45], .null) := by decide +kernel
theorem w162_67 (hp : psum st ≤ 8) : Wp d 162 67 [l0, l1] (v1 :: (.ref b) :: st) h Q = rP (h.2 b) 10 (Cp d 160 [(.ref b), v1] h (fun o => cK o (fun w h2 => Wp d 162 70 [l0, l1] (w.toList ++ st) h2 Q) (fun E h2 => Q (.inr E, h2)))) := (W_invV (st := st) f162_67 rfl rfl (by simp only [List.length_cons]; omega) rfl rfl hp).trans (by simp only [hm162, if_true])
theorem f162_70 : fetch 162 70 = some (.ifCond .ne (-70), 3, [], .null) := by decide +kernel
theorem w162_70 : Wp d 162 70 [l0, l1] (.int x :: st) h Q = if icond .ne x 0 = true then Wp d 162 0 [l0, l1] st h Q else Wp d 162 73 [l0, l1] st h Q := W_if f162_70 rfl
theorem f162_73 : fetch 162 73 = some (.iconst 0, 1, [], .null) := by decide +kernel
theorem w162_73 : Wp d 162 73 [l0, l1] st h Q = Wp d 162 74 [l0, l1] (.int (0 : Int32) :: st) h Q := W_go f162_73 rfl
theorem f162_74 : fetch 162 74 = some (.ireturn, 1, [], .null) := by decide +kernel
theorem w162_74 : Wp d 162 74 [l0, l1] [.int x] h Q = (if narrow .boolean (.int x) = .int x then Q (.inl (some (.int x)), h) else False) := W_zret f162_74 hr162
theorem f162_75 : fetch 162 75 = some (.aload_n 0, 1, [], .null) := by decide +kernel
theorem w162_75 : Wp d 162 75 [some (.ref a), l1] st h Q = Wp d 162 76 [some (.ref a), l1] (.ref a :: st) h Q := W_go f162_75 rfl
theorem f162_76 : fetch 162 76 = some (.iconst 3, 1, [], .null) := by decide +kernel
theorem w162_76 : Wp d 162 76 [l0, l1] st h Q = Wp d 162 77 [l0, l1] (.int (3 : Int32) :: st) h Q := W_go f162_76 rfl
theorem f162_77 : fetch 162 77 = some (.invokevirtual 108, 3, [157, 2, 11, 0, 7000, 1013, 7003, 7002, 42], .null) := by decide +kernel
theorem w162_77 (hp : psum st ≤ 8) : Wp d 162 77 [l0, l1] (v1 :: (.ref b) :: st) h Q = rP (h.2 b) 10 (Cp d 157 [(.ref b), v1] h (fun o => cK o (fun w h2 => Wp d 162 80 [l0, l1] (w.toList ++ st) h2 Q) (fun E h2 => Q (.inr E, h2)))) := (W_invV (st := st) f162_77 rfl rfl (by simp only [List.length_cons]; omega) rfl rfl hp).trans (by simp only [hm162, if_true])
theorem f162_80 : fetch 162 80 = some (.ifCond .eq 74, 3, [], .null) := by decide +kernel
theorem w162_80 : Wp d 162 80 [l0, l1] (.int x :: st) h Q = if icond .eq x 0 = true then Wp d 162 154 [l0, l1] st h Q else Wp d 162 83 [l0, l1] st h Q := W_if f162_80 rfl
theorem f162_83 : fetch 162 83 = some (.aload_n 0, 1, [], .null) := by decide +kernel
theorem w162_83 : Wp d 162 83 [some (.ref a), l1] st h Q = Wp d 162 84 [some (.ref a), l1] (.ref a :: st) h Q := W_go f162_83 rfl
theorem f162_84 : fetch 162 84 = some (.dup, 1, [], .null) := by decide +kernel
theorem w162_84i : Wp d 162 84 [l0, l1] (.int x :: st) h Q = Wp d 162 85 [l0, l1] (.int x :: .int x :: st) h Q := W_go f162_84 rfl
theorem w162_84 : Wp d 162 84 [l0, l1] (.ref a :: st) h Q = Wp d 162 85 [l0, l1] (.ref a :: .ref a :: st) h Q := W_go f162_84 rfl
theorem f162_85 : fetch 162 85 = some (.getfield 105, 3, [10, 8, 6139, 0], .null) := by decide +kernel
theorem w162_85 : Wp d 162 85 [l0, l1] (.ref a :: st) h Q = gP (h.2 a) 10 8 (fun w => Wp d 162 88 [l0, l1] (w :: st) h Q) := W_get f162_85 rfl
theorem f162_88 : fetch 162 88 = some (.iconst 1, 1, [], .null) := by decide +kernel
theorem w162_88 : Wp d 162 88 [l0, l1] st h Q = Wp d 162 89 [l0, l1] (.int (1 : Int32) :: st) h Q := W_go f162_88 rfl
theorem f162_89 : fetch 162 89 = some (.iadd, 1, [], .null) := by decide +kernel
theorem w162_89 : Wp d 162 89 [l0, l1] (.int y :: .int x :: st) h Q = Wp d 162 90 [l0, l1] (.int (x + y) :: st) h Q := W_go f162_89 rfl
theorem f162_90 : fetch 162 90 = some (.putfield 105, 3, [10, 8, 6139, 0], .null) := by decide +kernel
theorem w162_90 : Wp d 162 90 [l0, l1] (v :: .ref a :: st) h Q = pP (h.2 a) 10 8 (ftOf 10 8) v a (fun c => Wp d 162 93 [l0, l1] st (hset h a c) Q) := W_put f162_90 (by rfl)
theorem f162_93 : fetch 162 93 = some (.aload_n 0, 1, [], .null) := by decide +kernel
theorem w162_93 : Wp d 162 93 [some (.ref a), l1] st h Q = Wp d 162 94 [some (.ref a), l1] (.ref a :: st) h Q := W_go f162_93 rfl
theorem f162_94 : fetch 162 94 = some (.getfield 36, 3, [10, 11, 6143, 0], .null) := by decide +kernel
theorem w162_94 : Wp d 162 94 [l0, l1] (.ref a :: st) h Q = gP (h.2 a) 10 11 (fun w => Wp d 162 97 [l0, l1] (w :: st) h Q) := W_get f162_94 rfl
theorem f162_97 : fetch 162 97 = some (.getfield 122, 3, [8, 8, 5191, 1], .null) := by decide +kernel
theorem w162_97 : Wp d 162 97 [l0, l1] (.ref a :: st) h Q = gP (h.2 a) 8 8 (fun w => Wp d 162 100 [l0, l1] (w :: st) h Q) := W_get f162_97 rfl
theorem f162_100 : fetch 162 100 = some (.istore_n 1, 1, [], .null) := by decide +kernel
theorem w162_100 : Wp d 162 100 [l0, l1] (.int x :: st) h Q = Wp d 162 101 [kl l0, some (.int x)] st h Q := (W_st1 (pc' := 101) (k := 1) f162_100 rfl rfl (by simp only [List.length_cons, List.length_nil]; omega)).trans (by rw [pst1_succ]; rfl)
theorem f162_101 : fetch 162 101 = some (.aload_n 0, 1, [], .null) := by decide +kernel
theorem w162_101 : Wp d 162 101 [some (.ref a), l1] st h Q = Wp d 162 102 [some (.ref a), l1] (.ref a :: st) h Q := W_go f162_101 rfl
theorem f162_102 : fetch 162 102 = some (.getfield 36, 3, [10, 11, 6143, 0], .null) := by decide +kernel
theorem w162_102 : Wp d 162 102 [l0, l1] (.ref a :: st) h Q = gP (h.2 a) 10 11 (fun w => Wp d 162 105 [l0, l1] (w :: st) h Q) := W_get f162_102 rfl
theorem f162_105 : fetch 162 105 = some (.dup, 1, [], .null) := by decide +kernel
theorem w162_105i : Wp d 162 105 [l0, l1] (.int x :: st) h Q = Wp d 162 106 [l0, l1] (.int x :: .int x :: st) h Q := W_go f162_105 rfl
theorem w162_105 : Wp d 162 105 [l0, l1] (.ref a :: st) h Q = Wp d 162 106 [l0, l1] (.ref a :: .ref a :: st) h Q := W_go f162_105 rfl
theorem f162_106 : fetch 162 106 = some (.getfield 122, 3, [8, 8, 5191, 1], .null) := by decide +kernel
theorem w162_106 : Wp d 162 106 [l0, l1] (.ref a :: st) h Q = gP (h.2 a) 8 8 (fun w => Wp d 162 109 [l0, l1] (w :: st) h Q) := W_get f162_106 rfl
theorem f162_109 : fetch 162 109 = some (.iconst 1, 1, [], .null) := by decide +kernel
theorem w162_109 : Wp d 162 109 [l0, l1] st h Q = Wp d 162 110 [l0, l1] (.int (1 : Int32) :: st) h Q := W_go f162_109 rfl
theorem f162_110 : fetch 162 110 = some (.iadd, 1, [], .null) := by decide +kernel
theorem w162_110 : Wp d 162 110 [l0, l1] (.int y :: .int x :: st) h Q = Wp d 162 111 [l0, l1] (.int (x + y) :: st) h Q := W_go f162_110 rfl
theorem f162_111 : fetch 162 111 = some (.putfield 122, 3, [8, 8, 5191, 1], .null) := by decide +kernel
theorem w162_111 : Wp d 162 111 [l0, l1] (v :: .ref a :: st) h Q = pP (h.2 a) 8 8 (ftOf 8 8) v a (fun c => Wp d 162 114 [l0, l1] st (hset h a c) Q) := W_put f162_111 (by rfl)
theorem f162_114 : fetch 162 114 = some (.aload_n 0, 1, [], .null) := by decide +kernel
theorem w162_114 : Wp d 162 114 [some (.ref a), l1] st h Q = Wp d 162 115 [some (.ref a), l1] (.ref a :: st) h Q := W_go f162_114 rfl
theorem f162_115 : fetch 162 115 = some (.bipush 40, 2, [], .null) := by decide +kernel
theorem w162_115 : Wp d 162 115 [l0, l1] st h Q = Wp d 162 117 [l0, l1] (.int (40 : Int32) :: st) h Q := W_go f162_115 rfl
theorem f162_117 : fetch 162 117 = some (.iconst 2, 1, [], .null) := by decide +kernel
theorem w162_117 : Wp d 162 117 [l0, l1] st h Q = Wp d 162 118 [l0, l1] (.int (2 : Int32) :: st) h Q := W_go f162_117 rfl
theorem f162_118 : fetch 162 118 = some (.invokevirtual 114, 3, [161, 3, 11, 0, 7004, 1013, 7007, 7006, 43], .null) := by decide +kernel
theorem w162_118 (hp : psum st ≤ 8) : Wp d 162 118 [l0, l1] (v2 :: v1 :: (.ref b) :: st) h Q = rP (h.2 b) 10 (Cp d 161 [(.ref b), v1, v2] h (fun o => cK o (fun w h2 => Wp d 162 121 [l0, l1] (w.toList ++ st) h2 Q) (fun E h2 => Q (.inr E, h2)))) := (W_invV (st := st) f162_118 rfl rfl (by simp only [List.length_cons]; omega) rfl rfl hp).trans (by simp only [hm162, if_true])
theorem f162_121 : fetch 162 121 = some (.ifCond .ne 5, 3, [], .null) := by decide +kernel
theorem w162_121 : Wp d 162 121 [l0, l1] (.int x :: st) h Q = if icond .ne x 0 = true then Wp d 162 126 [l0, l1] st h Q else Wp d 162 124 [l0, l1] st h Q := W_if f162_121 rfl
theorem f162_124 : fetch 162 124 = some (.iconst 0, 1, [], .null) := by decide +kernel
theorem w162_124 : Wp d 162 124 [l0, l1] st h Q = Wp d 162 125 [l0, l1] (.int (0 : Int32) :: st) h Q := W_go f162_124 rfl
theorem f162_125 : fetch 162 125 = some (.ireturn, 1, [], .null) := by decide +kernel
theorem w162_125 : Wp d 162 125 [l0, l1] [.int x] h Q = (if narrow .boolean (.int x) = .int x then Q (.inl (some (.int x)), h) else False) := W_zret f162_125 hr162
theorem f162_126 : fetch 162 126 = some (.aload_n 0, 1, [], .null) := by decide +kernel
theorem w162_126 : Wp d 162 126 [some (.ref a), l1] st h Q = Wp d 162 127 [some (.ref a), l1] (.ref a :: st) h Q := W_go f162_126 rfl
theorem f162_127 : fetch 162 127 = some (.getfield 36, 3, [10, 11, 6143, 0], .null) := by decide +kernel
theorem w162_127 : Wp d 162 127 [l0, l1] (.ref a :: st) h Q = gP (h.2 a) 10 11 (fun w => Wp d 162 130 [l0, l1] (w :: st) h Q) := W_get f162_127 rfl
theorem f162_130 : fetch 162 130 = some (.getfield 125, 3, [8, 7, 5190, 1], .null) := by decide +kernel
theorem w162_130 : Wp d 162 130 [l0, l1] (.ref a :: st) h Q = gP (h.2 a) 8 7 (fun w => Wp d 162 133 [l0, l1] (w :: st) h Q) := W_get f162_130 rfl
theorem f162_133 : fetch 162 133 = some (.iload_n 1, 1, [], .null) := by decide +kernel
theorem w162_133 : Wp d 162 133 [l0, some (.int x)] st h Q = Wp d 162 134 [l0, some (.int x)] (.int x :: st) h Q := W_go f162_133 rfl
theorem f162_134 : fetch 162 134 = some (.aload_n 0, 1, [], .null) := by decide +kernel
theorem w162_134 : Wp d 162 134 [some (.ref a), l1] st h Q = Wp d 162 135 [some (.ref a), l1] (.ref a :: st) h Q := W_go f162_134 rfl
theorem f162_135 : fetch 162 135 = some (.getfield 36, 3, [10, 11, 6143, 0], .null) := by decide +kernel
theorem w162_135 : Wp d 162 135 [l0, l1] (.ref a :: st) h Q = gP (h.2 a) 10 11 (fun w => Wp d 162 138 [l0, l1] (w :: st) h Q) := W_get f162_135 rfl
theorem f162_138 : fetch 162 138 = some (.getfield 128, 3, [8, 6, 5187, 1], .null) := by decide +kernel
theorem w162_138 : Wp d 162 138 [l0, l1] (.ref a :: st) h Q = gP (h.2 a) 8 6 (fun w => Wp d 162 141 [l0, l1] (w :: st) h Q) := W_get f162_138 rfl
theorem f162_141 : fetch 162 141 = some (.iastore, 1, [], .null) := by decide +kernel
theorem w162_141 : Wp d 162 141 [l0, l1] (.int y :: .int x :: .ref a :: st) h Q = asP false (h.2 a) a x y (fun c => Wp d 162 142 [l0, l1] st (hset h a c) Q) := W_ast f162_141 rfl
theorem f162_142 : fetch 162 142 = some (.aload_n 0, 1, [], .null) := by decide +kernel
theorem w162_142 : Wp d 162 142 [some (.ref a), l1] st h Q = Wp d 162 143 [some (.ref a), l1] (.ref a :: st) h Q := W_go f162_142 rfl
theorem f162_143 : fetch 162 143 = some (.invokevirtual 131, 3, [163, 1, 11, 0, 7016, 1013, 7019, 7018, 46], .null) := by decide +kernel
theorem w162_143 (hp : psum st ≤ 8) : Wp d 162 143 [l0, l1] ((.ref b) :: st) h Q = rP (h.2 b) 10 (Cp d 163 [(.ref b)] h (fun o => cK o (fun w h2 => Wp d 162 146 [l0, l1] (w.toList ++ st) h2 Q) (fun E h2 => Q (.inr E, h2)))) := (W_invV (st := st) f162_143 rfl rfl (by simp only [List.length_cons]; omega) rfl rfl hp).trans (by simp only [hm162, if_true])
theorem f162_146 : fetch 162 146 = some (.ifCond .ne 5, 3, [], .null) := by decide +kernel
theorem w162_146 : Wp d 162 146 [l0, l1] (.int x :: st) h Q = if icond .ne x 0 = true then Wp d 162 151 [l0, l1] st h Q else Wp d 162 149 [l0, l1] st h Q := W_if f162_146 rfl
theorem f162_149 : fetch 162 149 = some (.iconst 0, 1, [], .null) := by decide +kernel
theorem w162_149 : Wp d 162 149 [l0, l1] st h Q = Wp d 162 150 [l0, l1] (.int (0 : Int32) :: st) h Q := W_go f162_149 rfl
theorem f162_150 : fetch 162 150 = some (.ireturn, 1, [], .null) := by decide +kernel
theorem w162_150 : Wp d 162 150 [l0, l1] [.int x] h Q = (if narrow .boolean (.int x) = .int x then Q (.inl (some (.int x)), h) else False) := W_zret f162_150 hr162
theorem f162_151 : fetch 162 151 = some (.goto (-76), 3, [], .null) := by decide +kernel
theorem w162_151 : Wp d 162 151 [l0, l1] st h Q = Wp d 162 75 [l0, l1] st h Q := W_go f162_151 rfl
theorem f162_154 : fetch 162 154 = some (.aload_n 0, 1, [], .null) := by decide +kernel
theorem w162_154 : Wp d 162 154 [some (.ref a), l1] st h Q = Wp d 162 155 [some (.ref a), l1] (.ref a :: st) h Q := W_go f162_154 rfl
theorem f162_155 : fetch 162 155 = some (.sipush 900, 3, [], .null) := by decide +kernel
theorem w162_155 : Wp d 162 155 [l0, l1] st h Q = Wp d 162 158 [l0, l1] (.int (900 : Int32) :: st) h Q := W_go f162_155 rfl
theorem f162_158 : fetch 162 158 = some (.invokevirtual 108, 3, [157, 2, 11, 0, 7000, 1013, 7003, 7002, 42], .null) := by decide +kernel
theorem w162_158 (hp : psum st ≤ 8) : Wp d 162 158 [l0, l1] (v1 :: (.ref b) :: st) h Q = rP (h.2 b) 10 (Cp d 157 [(.ref b), v1] h (fun o => cK o (fun w h2 => Wp d 162 161 [l0, l1] (w.toList ++ st) h2 Q) (fun E h2 => Q (.inr E, h2)))) := (W_invV (st := st) f162_158 rfl rfl (by simp only [List.length_cons]; omega) rfl rfl hp).trans (by simp only [hm162, if_true])
theorem f162_161 : fetch 162 161 = some (.ireturn, 1, [], .null) := by decide +kernel
theorem w162_161 : Wp d 162 161 [l0, l1] [.int x] h Q = (if narrow .boolean (.int x) = .int x then Q (.inl (some (.int x)), h) else False) := W_zret f162_161 hr162
theorem hm163 : mhs 163 = [] := by decide +kernel
theorem hr163 : mret 163 = (some .boolean) := by decide +kernel
theorem f163_0 : fetch 163 0 = some (.aload_n 0, 1, [], .null) := by decide +kernel
theorem w163_0 : Wp d 163 0 [some (.ref a), l1, l2, l3] st h Q = Wp d 163 1 [some (.ref a), l1, l2, l3] (.ref a :: st) h Q := W_go f163_0 rfl
theorem f163_1 : fetch 163 1 = some (.bipush 40, 2, [], .null) := by decide +kernel
theorem w163_1 : Wp d 163 1 [l0, l1, l2, l3] st h Q = Wp d 163 3 [l0, l1, l2, l3] (.int (40 : Int32) :: st) h Q := W_go f163_1 rfl
theorem f163_3 : fetch 163 3 = some (.invokevirtual 135, 3, [158, 2, 11, 0, 7020, 1013, 7023, 7022, 47], .null) := by decide +kernel
theorem w163_3 (hp : psum st ≤ 8) : Wp d 163 3 [l0, l1, l2, l3] (v1 :: (.ref b) :: st) h Q = rP (h.2 b) 10 (Cp d 158 [(.ref b), v1] h (fun o => cK o (fun w h2 => Wp d 163 6 [l0, l1, l2, l3] (w.toList ++ st) h2 Q) (fun E h2 => Q (.inr E, h2)))) := (W_invV (st := st) f163_3 rfl rfl (by simp only [List.length_cons]; omega) rfl rfl hp).trans (by simp only [hm163, if_true])
theorem f163_6 : fetch 163 6 = some (.ifCond .eq 12, 3, [], .null) := by decide +kernel
theorem w163_6 : Wp d 163 6 [l0, l1, l2, l3] (.int x :: st) h Q = if icond .eq x 0 = true then Wp d 163 18 [l0, l1, l2, l3] st h Q else Wp d 163 9 [l0, l1, l2, l3] st h Q := W_if f163_6 rfl
theorem f163_9 : fetch 163 9 = some (.aload_n 0, 1, [], .null) := by decide +kernel
theorem w163_9 : Wp d 163 9 [some (.ref a), l1, l2, l3] st h Q = Wp d 163 10 [some (.ref a), l1, l2, l3] (.ref a :: st) h Q := W_go f163_9 rfl
theorem f163_10 : fetch 163 10 = some (.getfield 138, 3, [10, 9, 6140, 0], .null) := by decide +kernel
theorem w163_10 : Wp d 163 10 [l0, l1, l2, l3] (.ref a :: st) h Q = gP (h.2 a) 10 9 (fun w => Wp d 163 13 [l0, l1, l2, l3] (w :: st) h Q) := W_get f163_10 rfl
theorem f163_13 : fetch 163 13 = some (.bipush 6, 2, [], .null) := by decide +kernel
theorem w163_13 : Wp d 163 13 [l0, l1, l2, l3] st h Q = Wp d 163 15 [l0, l1, l2, l3] (.int (6 : Int32) :: st) h Q := W_go f163_13 rfl
theorem f163_15 : fetch 163 15 = some (.if_icmp .ne 5, 3, [], .null) := by decide +kernel
theorem w163_15 : Wp d 163 15 [l0, l1, l2, l3] (.int y :: .int x :: st) h Q = if icond .ne x y = true then Wp d 163 20 [l0, l1, l2, l3] st h Q else Wp d 163 18 [l0, l1, l2, l3] st h Q := W_if f163_15 rfl
theorem f163_18 : fetch 163 18 = some (.iconst 0, 1, [], .null) := by decide +kernel
theorem w163_18 : Wp d 163 18 [l0, l1, l2, l3] st h Q = Wp d 163 19 [l0, l1, l2, l3] (.int (0 : Int32) :: st) h Q := W_go f163_18 rfl
theorem f163_19 : fetch 163 19 = some (.ireturn, 1, [], .null) := by decide +kernel
theorem w163_19 : Wp d 163 19 [l0, l1, l2, l3] [.int x] h Q = (if narrow .boolean (.int x) = .int x then Q (.inl (some (.int x)), h) else False) := W_zret f163_19 hr163
theorem f163_20 : fetch 163 20 = some (.aload_n 0, 1, [], .null) := by decide +kernel
theorem w163_20 : Wp d 163 20 [some (.ref a), l1, l2, l3] st h Q = Wp d 163 21 [some (.ref a), l1, l2, l3] (.ref a :: st) h Q := W_go f163_20 rfl
theorem f163_21 : fetch 163 21 = some (.getfield 36, 3, [10, 11, 6143, 0], .null) := by decide +kernel
theorem w163_21 : Wp d 163 21 [l0, l1, l2, l3] (.ref a :: st) h Q = gP (h.2 a) 10 11 (fun w => Wp d 163 24 [l0, l1, l2, l3] (w :: st) h Q) := W_get f163_21 rfl
theorem f163_24 : fetch 163 24 = some (.getfield 128, 3, [8, 6, 5187, 1], .null) := by decide +kernel
theorem w163_24 : Wp d 163 24 [l0, l1, l2, l3] (.ref a :: st) h Q = gP (h.2 a) 8 6 (fun w => Wp d 163 27 [l0, l1, l2, l3] (w :: st) h Q) := W_get f163_24 rfl
theorem f163_27 : fetch 163 27 = some (.istore_n 1, 1, [], .null) := by decide +kernel
theorem w163_27 : Wp d 163 27 [l0, l1, l2, l3] (.int x :: st) h Q = Wp d 163 28 [kl l0, some (.int x), l2, l3] st h Q := (W_st1 (pc' := 28) (k := 1) f163_27 rfl rfl (by simp only [List.length_cons, List.length_nil]; omega)).trans (by rw [pst1_succ]; rfl)
theorem f163_28 : fetch 163 28 = some (.aload_n 0, 1, [], .null) := by decide +kernel
theorem w163_28 : Wp d 163 28 [some (.ref a), l1, l2, l3] st h Q = Wp d 163 29 [some (.ref a), l1, l2, l3] (.ref a :: st) h Q := W_go f163_28 rfl
theorem f163_29 : fetch 163 29 = some (.getfield 36, 3, [10, 11, 6143, 0], .null) := by decide +kernel
theorem w163_29 : Wp d 163 29 [l0, l1, l2, l3] (.ref a :: st) h Q = gP (h.2 a) 10 11 (fun w => Wp d 163 32 [l0, l1, l2, l3] (w :: st) h Q) := W_get f163_29 rfl
theorem f163_32 : fetch 163 32 = some (.dup, 1, [], .null) := by decide +kernel
theorem w163_32i : Wp d 163 32 [l0, l1, l2, l3] (.int x :: st) h Q = Wp d 163 33 [l0, l1, l2, l3] (.int x :: .int x :: st) h Q := W_go f163_32 rfl
theorem w163_32 : Wp d 163 32 [l0, l1, l2, l3] (.ref a :: st) h Q = Wp d 163 33 [l0, l1, l2, l3] (.ref a :: .ref a :: st) h Q := W_go f163_32 rfl
theorem f163_33 : fetch 163 33 = some (.getfield 128, 3, [8, 6, 5187, 1], .null) := by decide +kernel
theorem w163_33 : Wp d 163 33 [l0, l1, l2, l3] (.ref a :: st) h Q = gP (h.2 a) 8 6 (fun w => Wp d 163 36 [l0, l1, l2, l3] (w :: st) h Q) := W_get f163_33 rfl
theorem f163_36 : fetch 163 36 = some (.iconst 1, 1, [], .null) := by decide +kernel
theorem w163_36 : Wp d 163 36 [l0, l1, l2, l3] st h Q = Wp d 163 37 [l0, l1, l2, l3] (.int (1 : Int32) :: st) h Q := W_go f163_36 rfl
theorem f163_37 : fetch 163 37 = some (.iadd, 1, [], .null) := by decide +kernel
theorem w163_37 : Wp d 163 37 [l0, l1, l2, l3] (.int y :: .int x :: st) h Q = Wp d 163 38 [l0, l1, l2, l3] (.int (x + y) :: st) h Q := W_go f163_37 rfl
theorem f163_38 : fetch 163 38 = some (.putfield 128, 3, [8, 6, 5187, 1], .null) := by decide +kernel
theorem w163_38 : Wp d 163 38 [l0, l1, l2, l3] (v :: .ref a :: st) h Q = pP (h.2 a) 8 6 (ftOf 8 6) v a (fun c => Wp d 163 41 [l0, l1, l2, l3] st (hset h a c) Q) := W_put f163_38 (by rfl)
theorem f163_41 : fetch 163 41 = some (.aload_n 0, 1, [], .null) := by decide +kernel
theorem w163_41 : Wp d 163 41 [some (.ref a), l1, l2, l3] st h Q = Wp d 163 42 [some (.ref a), l1, l2, l3] (.ref a :: st) h Q := W_go f163_41 rfl
theorem f163_42 : fetch 163 42 = some (.getfield 36, 3, [10, 11, 6143, 0], .null) := by decide +kernel
theorem w163_42 : Wp d 163 42 [l0, l1, l2, l3] (.ref a :: st) h Q = gP (h.2 a) 10 11 (fun w => Wp d 163 45 [l0, l1, l2, l3] (w :: st) h Q) := W_get f163_42 rfl
theorem f163_45 : fetch 163 45 = some (.getfield 141, 3, [8, 5, 5186, 1], .null) := by decide +kernel
theorem w163_45 : Wp d 163 45 [l0, l1, l2, l3] (.ref a :: st) h Q = gP (h.2 a) 8 5 (fun w => Wp d 163 48 [l0, l1, l2, l3] (w :: st) h Q) := W_get f163_45 rfl
theorem f163_48 : fetch 163 48 = some (.iload_n 1, 1, [], .null) := by decide +kernel
theorem w163_48 : Wp d 163 48 [l0, some (.int x), l2, l3] st h Q = Wp d 163 49 [l0, some (.int x), l2, l3] (.int x :: st) h Q := W_go f163_48 rfl
theorem f163_49 : fetch 163 49 = some (.iconst (-1), 1, [], .null) := by decide +kernel
theorem w163_49 : Wp d 163 49 [l0, l1, l2, l3] st h Q = Wp d 163 50 [l0, l1, l2, l3] (.int (-1 : Int32) :: st) h Q := W_go f163_49 rfl
theorem f163_50 : fetch 163 50 = some (.iastore, 1, [], .null) := by decide +kernel
theorem w163_50 : Wp d 163 50 [l0, l1, l2, l3] (.int y :: .int x :: .ref a :: st) h Q = asP false (h.2 a) a x y (fun c => Wp d 163 51 [l0, l1, l2, l3] st (hset h a c) Q) := W_ast f163_50 rfl
theorem f163_51 : fetch 163 51 = some (.aload_n 0, 1, [], .null) := by decide +kernel
theorem w163_51 : Wp d 163 51 [some (.ref a), l1, l2, l3] st h Q = Wp d 163 52 [some (.ref a), l1, l2, l3] (.ref a :: st) h Q := W_go f163_51 rfl
theorem f163_52 : fetch 163 52 = some (.dup, 1, [], .null) := by decide +kernel
theorem w163_52i : Wp d 163 52 [l0, l1, l2, l3] (.int x :: st) h Q = Wp d 163 53 [l0, l1, l2, l3] (.int x :: .int x :: st) h Q := W_go f163_52 rfl
theorem w163_52 : Wp d 163 52 [l0, l1, l2, l3] (.ref a :: st) h Q = Wp d 163 53 [l0, l1, l2, l3] (.ref a :: .ref a :: st) h Q := W_go f163_52 rfl
theorem f163_53 : fetch 163 53 = some (.getfield 138, 3, [10, 9, 6140, 0], .null) := by decide +kernel
theorem w163_53 : Wp d 163 53 [l0, l1, l2, l3] (.ref a :: st) h Q = gP (h.2 a) 10 9 (fun w => Wp d 163 56 [l0, l1, l2, l3] (w :: st) h Q) := W_get f163_53 rfl
theorem f163_56 : fetch 163 56 = some (.iconst 1, 1, [], .null) := by decide +kernel
theorem w163_56 : Wp d 163 56 [l0, l1, l2, l3] st h Q = Wp d 163 57 [l0, l1, l2, l3] (.int (1 : Int32) :: st) h Q := W_go f163_56 rfl
theorem f163_57 : fetch 163 57 = some (.iadd, 1, [], .null) := by decide +kernel
theorem w163_57 : Wp d 163 57 [l0, l1, l2, l3] (.int y :: .int x :: st) h Q = Wp d 163 58 [l0, l1, l2, l3] (.int (x + y) :: st) h Q := W_go f163_57 rfl
theorem f163_58 : fetch 163 58 = some (.putfield 138, 3, [10, 9, 6140, 0], .null) := by decide +kernel
theorem w163_58 : Wp d 163 58 [l0, l1, l2, l3] (v :: .ref a :: st) h Q = pP (h.2 a) 10 9 (ftOf 10 9) v a (fun c => Wp d 163 61 [l0, l1, l2, l3] st (hset h a c) Q) := W_put f163_58 (by rfl)
theorem f163_61 : fetch 163 61 = some (.aload_n 0, 1, [], .null) := by decide +kernel
theorem w163_61 : Wp d 163 61 [some (.ref a), l1, l2, l3] st h Q = Wp d 163 62 [some (.ref a), l1, l2, l3] (.ref a :: st) h Q := W_go f163_61 rfl
theorem f163_62 : fetch 163 62 = some (.dup, 1, [], .null) := by decide +kernel
theorem w163_62i : Wp d 163 62 [l0, l1, l2, l3] (.int x :: st) h Q = Wp d 163 63 [l0, l1, l2, l3] (.int x :: .int x :: st) h Q := W_go f163_62 rfl
theorem w163_62 : Wp d 163 62 [l0, l1, l2, l3] (.ref a :: st) h Q = Wp d 163 63 [l0, l1, l2, l3] (.ref a :: .ref a :: st) h Q := W_go f163_62 rfl
theorem f163_63 : fetch 163 63 = some (.getfield 105, 3, [10, 8, 6139, 0], .null) := by decide +kernel
theorem w163_63 : Wp d 163 63 [l0, l1, l2, l3] (.ref a :: st) h Q = gP (h.2 a) 10 8 (fun w => Wp d 163 66 [l0, l1, l2, l3] (w :: st) h Q) := W_get f163_63 rfl
theorem f163_66 : fetch 163 66 = some (.iconst 1, 1, [], .null) := by decide +kernel
theorem w163_66 : Wp d 163 66 [l0, l1, l2, l3] st h Q = Wp d 163 67 [l0, l1, l2, l3] (.int (1 : Int32) :: st) h Q := W_go f163_66 rfl
theorem f163_67 : fetch 163 67 = some (.iadd, 1, [], .null) := by decide +kernel
theorem w163_67 : Wp d 163 67 [l0, l1, l2, l3] (.int y :: .int x :: st) h Q = Wp d 163 68 [l0, l1, l2, l3] (.int (x + y) :: st) h Q := W_go f163_67 rfl
theorem f163_68 : fetch 163 68 = some (.putfield 105, 3, [10, 8, 6139, 0], .null) := by decide +kernel
theorem w163_68 : Wp d 163 68 [l0, l1, l2, l3] (v :: .ref a :: st) h Q = pP (h.2 a) 10 8 (ftOf 10 8) v a (fun c => Wp d 163 71 [l0, l1, l2, l3] st (hset h a c) Q) := W_put f163_68 (by rfl)
theorem f163_71 : fetch 163 71 = some (.iconst (-1), 1, [], .null) := by decide +kernel
theorem w163_71 : Wp d 163 71 [l0, l1, l2, l3] st h Q = Wp d 163 72 [l0, l1, l2, l3] (.int (-1 : Int32) :: st) h Q := W_go f163_71 rfl
theorem f163_72 : fetch 163 72 = some (.istore_n 2, 1, [], .null) := by decide +kernel
theorem w163_72 : Wp d 163 72 [l0, l1, l2, l3] (.int x :: st) h Q = Wp d 163 73 [l0, kl l1, some (.int x), l3] st h Q := (W_st1 (pc' := 73) (k := 2) f163_72 rfl rfl (by simp only [List.length_cons, List.length_nil]; omega)).trans (by rw [pst1_succ]; rfl)
theorem f163_73 : fetch 163 73 = some (.aload_n 0, 1, [], .null) := by decide +kernel
theorem w163_73 : Wp d 163 73 [some (.ref a), l1, l2, l3] st h Q = Wp d 163 74 [some (.ref a), l1, l2, l3] (.ref a :: st) h Q := W_go f163_73 rfl
theorem f163_74 : fetch 163 74 = some (.bipush 41, 2, [], .null) := by decide +kernel
theorem w163_74 : Wp d 163 74 [l0, l1, l2, l3] st h Q = Wp d 163 76 [l0, l1, l2, l3] (.int (41 : Int32) :: st) h Q := W_go f163_74 rfl
theorem f163_76 : fetch 163 76 = some (.invokevirtual 135, 3, [158, 2, 11, 0, 7020, 1013, 7023, 7022, 47], .null) := by decide +kernel
theorem w163_76 (hp : psum st ≤ 8) : Wp d 163 76 [l0, l1, l2, l3] (v1 :: (.ref b) :: st) h Q = rP (h.2 b) 10 (Cp d 158 [(.ref b), v1] h (fun o => cK o (fun w h2 => Wp d 163 79 [l0, l1, l2, l3] (w.toList ++ st) h2 Q) (fun E h2 => Q (.inr E, h2)))) := (W_invV (st := st) f163_76 rfl rfl (by simp only [List.length_cons]; omega) rfl rfl hp).trans (by simp only [hm163, if_true])
theorem f163_79 : fetch 163 79 = some (.ifCond .ne 54, 3, [], .null) := by decide +kernel
theorem w163_79 : Wp d 163 79 [l0, l1, l2, l3] (.int x :: st) h Q = if icond .ne x 0 = true then Wp d 163 133 [l0, l1, l2, l3] st h Q else Wp d 163 82 [l0, l1, l2, l3] st h Q := W_if f163_79 rfl
theorem f163_82 : fetch 163 82 = some (.aload_n 0, 1, [], .null) := by decide +kernel
theorem w163_82 : Wp d 163 82 [some (.ref a), l1, l2, l3] st h Q = Wp d 163 83 [some (.ref a), l1, l2, l3] (.ref a :: st) h Q := W_go f163_82 rfl
theorem f163_83 : fetch 163 83 = some (.getfield 36, 3, [10, 11, 6143, 0], .null) := by decide +kernel
theorem w163_83 : Wp d 163 83 [l0, l1, l2, l3] (.ref a :: st) h Q = gP (h.2 a) 10 11 (fun w => Wp d 163 86 [l0, l1, l2, l3] (w :: st) h Q) := W_get f163_83 rfl
theorem f163_86 : fetch 163 86 = some (.getfield 144, 3, [8, 9, 5192, 1], .null) := by decide +kernel
theorem w163_86 : Wp d 163 86 [l0, l1, l2, l3] (.ref a :: st) h Q = gP (h.2 a) 8 9 (fun w => Wp d 163 89 [l0, l1, l2, l3] (w :: st) h Q) := W_get f163_86 rfl
theorem f163_89 : fetch 163 89 = some (.istore_n 3, 1, [], .null) := by decide +kernel
theorem w163_89 : Wp d 163 89 [l0, l1, l2, l3] (.int x :: st) h Q = Wp d 163 90 [l0, l1, kl l2, some (.int x)] st h Q := (W_st1 (pc' := 90) (k := 3) f163_89 rfl rfl (by simp only [List.length_cons, List.length_nil]; omega)).trans (by rw [pst1_succ]; rfl)
theorem f163_90 : fetch 163 90 = some (.aload_n 0, 1, [], .null) := by decide +kernel
theorem w163_90 : Wp d 163 90 [some (.ref a), l1, l2, l3] st h Q = Wp d 163 91 [some (.ref a), l1, l2, l3] (.ref a :: st) h Q := W_go f163_90 rfl
theorem f163_91 : fetch 163 91 = some (.iload_n 3, 1, [], .null) := by decide +kernel
theorem w163_91 : Wp d 163 91 [l0, l1, l2, some (.int x)] st h Q = Wp d 163 92 [l0, l1, l2, some (.int x)] (.int x :: st) h Q := W_go f163_91 rfl
theorem f163_92 : fetch 163 92 = some (.invokevirtual 147, 3, [164, 2, 11, 0, 7024, 1013, 7027, 7026, 48], .null) := by decide +kernel
theorem w163_92 (hp : psum st ≤ 8) : Wp d 163 92 [l0, l1, l2, l3] (v1 :: (.ref b) :: st) h Q = rP (h.2 b) 10 (Cp d 164 [(.ref b), v1] h (fun o => cK o (fun w h2 => Wp d 163 95 [l0, l1, l2, l3] (w.toList ++ st) h2 Q) (fun E h2 => Q (.inr E, h2)))) := (W_invV (st := st) f163_92 rfl rfl (by simp only [List.length_cons]; omega) rfl rfl hp).trans (by simp only [hm163, if_true])
theorem f163_95 : fetch 163 95 = some (.ifCond .ne 5, 3, [], .null) := by decide +kernel
theorem w163_95 : Wp d 163 95 [l0, l1, l2, l3] (.int x :: st) h Q = if icond .ne x 0 = true then Wp d 163 100 [l0, l1, l2, l3] st h Q else Wp d 163 98 [l0, l1, l2, l3] st h Q := W_if f163_95 rfl
theorem f163_98 : fetch 163 98 = some (.iconst 0, 1, [], .null) := by decide +kernel
theorem w163_98 : Wp d 163 98 [l0, l1, l2, l3] st h Q = Wp d 163 99 [l0, l1, l2, l3] (.int (0 : Int32) :: st) h Q := W_go f163_98 rfl
theorem f163_99 : fetch 163 99 = some (.ireturn, 1, [], .null) := by decide +kernel
theorem w163_99 : Wp d 163 99 [l0, l1, l2, l3] [.int x] h Q = (if narrow .boolean (.int x) = .int x then Q (.inl (some (.int x)), h) else False) := W_zret f163_99 hr163
theorem f163_100 : fetch 163 100 = some (.iload_n 2, 1, [], .null) := by decide +kernel
theorem w163_100 : Wp d 163 100 [l0, l1, some (.int x), l3] st h Q = Wp d 163 101 [l0, l1, some (.int x), l3] (.int x :: st) h Q := W_go f163_100 rfl
theorem f163_101 : fetch 163 101 = some (.iconst (-1), 1, [], .null) := by decide +kernel
theorem w163_101 : Wp d 163 101 [l0, l1, l2, l3] st h Q = Wp d 163 102 [l0, l1, l2, l3] (.int (-1 : Int32) :: st) h Q := W_go f163_101 rfl
theorem f163_102 : fetch 163 102 = some (.if_icmp .ne 16, 3, [], .null) := by decide +kernel
theorem w163_102 : Wp d 163 102 [l0, l1, l2, l3] (.int y :: .int x :: st) h Q = if icond .ne x y = true then Wp d 163 118 [l0, l1, l2, l3] st h Q else Wp d 163 105 [l0, l1, l2, l3] st h Q := W_if f163_102 rfl
theorem f163_105 : fetch 163 105 = some (.aload_n 0, 1, [], .null) := by decide +kernel
theorem w163_105 : Wp d 163 105 [some (.ref a), l1, l2, l3] st h Q = Wp d 163 106 [some (.ref a), l1, l2, l3] (.ref a :: st) h Q := W_go f163_105 rfl
theorem f163_106 : fetch 163 106 = some (.getfield 36, 3, [10, 11, 6143, 0], .null) := by decide +kernel
theorem w163_106 : Wp d 163 106 [l0, l1, l2, l3] (.ref a :: st) h Q = gP (h.2 a) 10 11 (fun w => Wp d 163 109 [l0, l1, l2, l3] (w :: st) h Q) := W_get f163_106 rfl
theorem f163_109 : fetch 163 109 = some (.getfield 141, 3, [8, 5, 5186, 1], .null) := by decide +kernel
theorem w163_109 : Wp d 163 109 [l0, l1, l2, l3] (.ref a :: st) h Q = gP (h.2 a) 8 5 (fun w => Wp d 163 112 [l0, l1, l2, l3] (w :: st) h Q) := W_get f163_109 rfl
theorem f163_112 : fetch 163 112 = some (.iload_n 1, 1, [], .null) := by decide +kernel
theorem w163_112 : Wp d 163 112 [l0, some (.int x), l2, l3] st h Q = Wp d 163 113 [l0, some (.int x), l2, l3] (.int x :: st) h Q := W_go f163_112 rfl
theorem f163_113 : fetch 163 113 = some (.iload_n 3, 1, [], .null) := by decide +kernel
theorem w163_113 : Wp d 163 113 [l0, l1, l2, some (.int x)] st h Q = Wp d 163 114 [l0, l1, l2, some (.int x)] (.int x :: st) h Q := W_go f163_113 rfl
theorem f163_114 : fetch 163 114 = some (.iastore, 1, [], .null) := by decide +kernel
theorem w163_114 : Wp d 163 114 [l0, l1, l2, l3] (.int y :: .int x :: .ref a :: st) h Q = asP false (h.2 a) a x y (fun c => Wp d 163 115 [l0, l1, l2, l3] st (hset h a c) Q) := W_ast f163_114 rfl
theorem f163_115 : fetch 163 115 = some (.goto 13, 3, [], .null) := by decide +kernel
theorem w163_115 : Wp d 163 115 [l0, l1, l2, l3] st h Q = Wp d 163 128 [l0, l1, l2, l3] st h Q := W_go f163_115 rfl
theorem f163_118 : fetch 163 118 = some (.aload_n 0, 1, [], .null) := by decide +kernel
theorem w163_118 : Wp d 163 118 [some (.ref a), l1, l2, l3] st h Q = Wp d 163 119 [some (.ref a), l1, l2, l3] (.ref a :: st) h Q := W_go f163_118 rfl
theorem f163_119 : fetch 163 119 = some (.getfield 36, 3, [10, 11, 6143, 0], .null) := by decide +kernel
theorem w163_119 : Wp d 163 119 [l0, l1, l2, l3] (.ref a :: st) h Q = gP (h.2 a) 10 11 (fun w => Wp d 163 122 [l0, l1, l2, l3] (w :: st) h Q) := W_get f163_119 rfl
theorem f163_122 : fetch 163 122 = some (.getfield 150, 3, [8, 11, 5198, 1], .null) := by decide +kernel
theorem w163_122 : Wp d 163 122 [l0, l1, l2, l3] (.ref a :: st) h Q = gP (h.2 a) 8 11 (fun w => Wp d 163 125 [l0, l1, l2, l3] (w :: st) h Q) := W_get f163_122 rfl
theorem f163_125 : fetch 163 125 = some (.iload_n 2, 1, [], .null) := by decide +kernel
theorem w163_125 : Wp d 163 125 [l0, l1, some (.int x), l3] st h Q = Wp d 163 126 [l0, l1, some (.int x), l3] (.int x :: st) h Q := W_go f163_125 rfl
theorem f163_126 : fetch 163 126 = some (.iload_n 3, 1, [], .null) := by decide +kernel
theorem w163_126 : Wp d 163 126 [l0, l1, l2, some (.int x)] st h Q = Wp d 163 127 [l0, l1, l2, some (.int x)] (.int x :: st) h Q := W_go f163_126 rfl
theorem f163_127 : fetch 163 127 = some (.iastore, 1, [], .null) := by decide +kernel
theorem w163_127 : Wp d 163 127 [l0, l1, l2, l3] (.int y :: .int x :: .ref a :: st) h Q = asP false (h.2 a) a x y (fun c => Wp d 163 128 [l0, l1, l2, l3] st (hset h a c) Q) := W_ast f163_127 rfl
theorem f163_128 : fetch 163 128 = some (.iload_n 3, 1, [], .null) := by decide +kernel
theorem w163_128 : Wp d 163 128 [l0, l1, l2, some (.int x)] st h Q = Wp d 163 129 [l0, l1, l2, some (.int x)] (.int x :: st) h Q := W_go f163_128 rfl
theorem f163_129 : fetch 163 129 = some (.istore_n 2, 1, [], .null) := by decide +kernel
theorem w163_129 : Wp d 163 129 [l0, l1, l2, l3] (.int x :: st) h Q = Wp d 163 130 [l0, kl l1, some (.int x), l3] st h Q := (W_st1 (pc' := 130) (k := 2) f163_129 rfl rfl (by simp only [List.length_cons, List.length_nil]; omega)).trans (by rw [pst1_succ]; rfl)
theorem f163_130 : fetch 163 130 = some (.goto (-57), 3, [], .null) := by decide +kernel
theorem w163_130 : Wp d 163 130 [l0, l1, l2, l3] st h Q = Wp d 163 73 [l0, l1, l2, l3] st h Q := W_go f163_130 rfl
theorem f163_133 : fetch 163 133 = some (.aload_n 0, 1, [], .null) := by decide +kernel
theorem w163_133 : Wp d 163 133 [some (.ref a), l1, l2, l3] st h Q = Wp d 163 134 [some (.ref a), l1, l2, l3] (.ref a :: st) h Q := W_go f163_133 rfl
theorem f163_134 : fetch 163 134 = some (.dup, 1, [], .null) := by decide +kernel
theorem w163_134i : Wp d 163 134 [l0, l1, l2, l3] (.int x :: st) h Q = Wp d 163 135 [l0, l1, l2, l3] (.int x :: .int x :: st) h Q := W_go f163_134 rfl
theorem w163_134 : Wp d 163 134 [l0, l1, l2, l3] (.ref a :: st) h Q = Wp d 163 135 [l0, l1, l2, l3] (.ref a :: .ref a :: st) h Q := W_go f163_134 rfl
theorem f163_135 : fetch 163 135 = some (.getfield 138, 3, [10, 9, 6140, 0], .null) := by decide +kernel
theorem w163_135 : Wp d 163 135 [l0, l1, l2, l3] (.ref a :: st) h Q = gP (h.2 a) 10 9 (fun w => Wp d 163 138 [l0, l1, l2, l3] (w :: st) h Q) := W_get f163_135 rfl
theorem f163_138 : fetch 163 138 = some (.iconst 1, 1, [], .null) := by decide +kernel
theorem w163_138 : Wp d 163 138 [l0, l1, l2, l3] st h Q = Wp d 163 139 [l0, l1, l2, l3] (.int (1 : Int32) :: st) h Q := W_go f163_138 rfl
theorem f163_139 : fetch 163 139 = some (.isub, 1, [], .null) := by decide +kernel
theorem w163_139 : Wp d 163 139 [l0, l1, l2, l3] (.int y :: .int x :: st) h Q = Wp d 163 140 [l0, l1, l2, l3] (.int (x - y) :: st) h Q := W_go f163_139 rfl
theorem f163_140 : fetch 163 140 = some (.putfield 138, 3, [10, 9, 6140, 0], .null) := by decide +kernel
theorem w163_140 : Wp d 163 140 [l0, l1, l2, l3] (v :: .ref a :: st) h Q = pP (h.2 a) 10 9 (ftOf 10 9) v a (fun c => Wp d 163 143 [l0, l1, l2, l3] st (hset h a c) Q) := W_put f163_140 (by rfl)
theorem f163_143 : fetch 163 143 = some (.aload_n 0, 1, [], .null) := by decide +kernel
theorem w163_143 : Wp d 163 143 [some (.ref a), l1, l2, l3] st h Q = Wp d 163 144 [some (.ref a), l1, l2, l3] (.ref a :: st) h Q := W_go f163_143 rfl
theorem f163_144 : fetch 163 144 = some (.dup, 1, [], .null) := by decide +kernel
theorem w163_144i : Wp d 163 144 [l0, l1, l2, l3] (.int x :: st) h Q = Wp d 163 145 [l0, l1, l2, l3] (.int x :: .int x :: st) h Q := W_go f163_144 rfl
theorem w163_144 : Wp d 163 144 [l0, l1, l2, l3] (.ref a :: st) h Q = Wp d 163 145 [l0, l1, l2, l3] (.ref a :: .ref a :: st) h Q := W_go f163_144 rfl
theorem f163_145 : fetch 163 145 = some (.getfield 105, 3, [10, 8, 6139, 0], .null) := by decide +kernel
theorem w163_145 : Wp d 163 145 [l0, l1, l2, l3] (.ref a :: st) h Q = gP (h.2 a) 10 8 (fun w => Wp d 163 148 [l0, l1, l2, l3] (w :: st) h Q) := W_get f163_145 rfl
theorem f163_148 : fetch 163 148 = some (.iconst 1, 1, [], .null) := by decide +kernel
theorem w163_148 : Wp d 163 148 [l0, l1, l2, l3] st h Q = Wp d 163 149 [l0, l1, l2, l3] (.int (1 : Int32) :: st) h Q := W_go f163_148 rfl
theorem f163_149 : fetch 163 149 = some (.iadd, 1, [], .null) := by decide +kernel
theorem w163_149 : Wp d 163 149 [l0, l1, l2, l3] (.int y :: .int x :: st) h Q = Wp d 163 150 [l0, l1, l2, l3] (.int (x + y) :: st) h Q := W_go f163_149 rfl
theorem f163_150 : fetch 163 150 = some (.putfield 105, 3, [10, 8, 6139, 0], .null) := by decide +kernel
theorem w163_150 : Wp d 163 150 [l0, l1, l2, l3] (v :: .ref a :: st) h Q = pP (h.2 a) 10 8 (ftOf 10 8) v a (fun c => Wp d 163 153 [l0, l1, l2, l3] st (hset h a c) Q) := W_put f163_150 (by rfl)
theorem f163_153 : fetch 163 153 = some (.iconst 1, 1, [], .null) := by decide +kernel
theorem w163_153 : Wp d 163 153 [l0, l1, l2, l3] st h Q = Wp d 163 154 [l0, l1, l2, l3] (.int (1 : Int32) :: st) h Q := W_go f163_153 rfl
theorem f163_154 : fetch 163 154 = some (.ireturn, 1, [], .null) := by decide +kernel
theorem w163_154 : Wp d 163 154 [l0, l1, l2, l3] [.int x] h Q = (if narrow .boolean (.int x) = .int x then Q (.inl (some (.int x)), h) else False) := W_zret f163_154 hr163
theorem hm164 : mhs 164 = [] := by decide +kernel
theorem hr164 : mret 164 = (some .boolean) := by decide +kernel
theorem f164_0 : fetch 164 0 = some (.aload_n 0, 1, [], .null) := by decide +kernel
theorem w164_0 : Wp d 164 0 [some (.ref a), l1, l2, l3] st h Q = Wp d 164 1 [some (.ref a), l1, l2, l3] (.ref a :: st) h Q := W_go f164_0 rfl
theorem f164_1 : fetch 164 1 = some (.getfield 17, 3, [10, 4, 6135, 0], .null) := by decide +kernel
theorem w164_1 : Wp d 164 1 [l0, l1, l2, l3] (.ref a :: st) h Q = gP (h.2 a) 10 4 (fun w => Wp d 164 4 [l0, l1, l2, l3] (w :: st) h Q) := W_get f164_1 rfl
theorem f164_4 : fetch 164 4 = some (.aload_n 0, 1, [], .null) := by decide +kernel
theorem w164_4 : Wp d 164 4 [some (.ref a), l1, l2, l3] st h Q = Wp d 164 5 [some (.ref a), l1, l2, l3] (.ref a :: st) h Q := W_go f164_4 rfl
theorem f164_5 : fetch 164 5 = some (.getfield 105, 3, [10, 8, 6139, 0], .null) := by decide +kernel
theorem w164_5 : Wp d 164 5 [l0, l1, l2, l3] (.ref a :: st) h Q = gP (h.2 a) 10 8 (fun w => Wp d 164 8 [l0, l1, l2, l3] (w :: st) h Q) := W_get f164_5 rfl
theorem f164_8 : fetch 164 8 = some (.iaload, 1, [], .null) := by decide +kernel
theorem w164_8 : Wp d 164 8 [l0, l1, l2, l3] (.int x :: .ref a :: st) h Q = aP false (h.2 a) x (fun w => Wp d 164 9 [l0, l1, l2, l3] (.int w :: st) h Q) := W_ald f164_8 rfl
theorem f164_9 : fetch 164 9 = some (.istore_n 2, 1, [], .null) := by decide +kernel
theorem w164_9 : Wp d 164 9 [l0, l1, l2, l3] (.int x :: st) h Q = Wp d 164 10 [l0, kl l1, some (.int x), l3] st h Q := (W_st1 (pc' := 10) (k := 2) f164_9 rfl rfl (by simp only [List.length_cons, List.length_nil]; omega)).trans (by rw [pst1_succ]; rfl)
theorem f164_10 : fetch 164 10 = some (.iload_n 2, 1, [], .null) := by decide +kernel
theorem w164_10 : Wp d 164 10 [l0, l1, some (.int x), l3] st h Q = Wp d 164 11 [l0, l1, some (.int x), l3] (.int x :: st) h Q := W_go f164_10 rfl
theorem f164_11 : fetch 164 11 = some (.iconst 4, 1, [], .null) := by decide +kernel
theorem w164_11 : Wp d 164 11 [l0, l1, l2, l3] st h Q = Wp d 164 12 [l0, l1, l2, l3] (.int (4 : Int32) :: st) h Q := W_go f164_11 rfl
theorem f164_12 : fetch 164 12 = some (.if_icmp .lt 9, 3, [], .null) := by decide +kernel
theorem w164_12 : Wp d 164 12 [l0, l1, l2, l3] (.int y :: .int x :: st) h Q = if icond .lt x y = true then Wp d 164 21 [l0, l1, l2, l3] st h Q else Wp d 164 15 [l0, l1, l2, l3] st h Q := W_if f164_12 rfl
theorem f164_15 : fetch 164 15 = some (.iload_n 2, 1, [], .null) := by decide +kernel
theorem w164_15 : Wp d 164 15 [l0, l1, some (.int x), l3] st h Q = Wp d 164 16 [l0, l1, some (.int x), l3] (.int x :: st) h Q := W_go f164_15 rfl
theorem f164_16 : fetch 164 16 = some (.bipush 13, 2, [], .null) := by decide +kernel
theorem w164_16 : Wp d 164 16 [l0, l1, l2, l3] st h Q = Wp d 164 18 [l0, l1, l2, l3] (.int (13 : Int32) :: st) h Q := W_go f164_16 rfl
theorem f164_18 : fetch 164 18 = some (.if_icmp .le 5, 3, [], .null) := by decide +kernel
theorem w164_18 : Wp d 164 18 [l0, l1, l2, l3] (.int y :: .int x :: st) h Q = if icond .le x y = true then Wp d 164 23 [l0, l1, l2, l3] st h Q else Wp d 164 21 [l0, l1, l2, l3] st h Q := W_if f164_18 rfl
theorem f164_21 : fetch 164 21 = some (.iconst 0, 1, [], .null) := by decide +kernel
theorem w164_21 : Wp d 164 21 [l0, l1, l2, l3] st h Q = Wp d 164 22 [l0, l1, l2, l3] (.int (0 : Int32) :: st) h Q := W_go f164_21 rfl
theorem f164_22 : fetch 164 22 = some (.ireturn, 1, [], .null) := by decide +kernel
theorem w164_22 : Wp d 164 22 [l0, l1, l2, l3] [.int x] h Q = (if narrow .boolean (.int x) = .int x then Q (.inl (some (.int x)), h) else False) := W_zret f164_22 hr164
theorem f164_23 : fetch 164 23 = some (.aload_n 0, 1, [], .null) := by decide +kernel
theorem w164_23 : Wp d 164 23 [some (.ref a), l1, l2, l3] st h Q = Wp d 164 24 [some (.ref a), l1, l2, l3] (.ref a :: st) h Q := W_go f164_23 rfl
theorem f164_24 : fetch 164 24 = some (.getfield 26, 3, [10, 7, 6138, 0], .null) := by decide +kernel
theorem w164_24 : Wp d 164 24 [l0, l1, l2, l3] (.ref a :: st) h Q = gP (h.2 a) 10 7 (fun w => Wp d 164 27 [l0, l1, l2, l3] (w :: st) h Q) := W_get f164_24 rfl
theorem f164_27 : fetch 164 27 = some (.aload_n 0, 1, [], .null) := by decide +kernel
theorem w164_27 : Wp d 164 27 [some (.ref a), l1, l2, l3] st h Q = Wp d 164 28 [some (.ref a), l1, l2, l3] (.ref a :: st) h Q := W_go f164_27 rfl
theorem f164_28 : fetch 164 28 = some (.getfield 105, 3, [10, 8, 6139, 0], .null) := by decide +kernel
theorem w164_28 : Wp d 164 28 [l0, l1, l2, l3] (.ref a :: st) h Q = gP (h.2 a) 10 8 (fun w => Wp d 164 31 [l0, l1, l2, l3] (w :: st) h Q) := W_get f164_28 rfl
theorem f164_31 : fetch 164 31 = some (.iconst 5, 1, [], .null) := by decide +kernel
theorem w164_31 : Wp d 164 31 [l0, l1, l2, l3] st h Q = Wp d 164 32 [l0, l1, l2, l3] (.int (5 : Int32) :: st) h Q := W_go f164_31 rfl
theorem f164_32 : fetch 164 32 = some (.iastore, 1, [], .null) := by decide +kernel
theorem w164_32 : Wp d 164 32 [l0, l1, l2, l3] (.int y :: .int x :: .ref a :: st) h Q = asP false (h.2 a) a x y (fun c => Wp d 164 33 [l0, l1, l2, l3] st (hset h a c) Q) := W_ast f164_32 rfl
theorem f164_33 : fetch 164 33 = some (.aload_n 0, 1, [], .null) := by decide +kernel
theorem w164_33 : Wp d 164 33 [some (.ref a), l1, l2, l3] st h Q = Wp d 164 34 [some (.ref a), l1, l2, l3] (.ref a :: st) h Q := W_go f164_33 rfl
theorem f164_34 : fetch 164 34 = some (.dup, 1, [], .null) := by decide +kernel
theorem w164_34i : Wp d 164 34 [l0, l1, l2, l3] (.int x :: st) h Q = Wp d 164 35 [l0, l1, l2, l3] (.int x :: .int x :: st) h Q := W_go f164_34 rfl
theorem w164_34 : Wp d 164 34 [l0, l1, l2, l3] (.ref a :: st) h Q = Wp d 164 35 [l0, l1, l2, l3] (.ref a :: .ref a :: st) h Q := W_go f164_34 rfl
theorem f164_35 : fetch 164 35 = some (.getfield 105, 3, [10, 8, 6139, 0], .null) := by decide +kernel
theorem w164_35 : Wp d 164 35 [l0, l1, l2, l3] (.ref a :: st) h Q = gP (h.2 a) 10 8 (fun w => Wp d 164 38 [l0, l1, l2, l3] (w :: st) h Q) := W_get f164_35 rfl
theorem f164_38 : fetch 164 38 = some (.iconst 1, 1, [], .null) := by decide +kernel
theorem w164_38 : Wp d 164 38 [l0, l1, l2, l3] st h Q = Wp d 164 39 [l0, l1, l2, l3] (.int (1 : Int32) :: st) h Q := W_go f164_38 rfl
theorem f164_39 : fetch 164 39 = some (.iadd, 1, [], .null) := by decide +kernel
theorem w164_39 : Wp d 164 39 [l0, l1, l2, l3] (.int y :: .int x :: st) h Q = Wp d 164 40 [l0, l1, l2, l3] (.int (x + y) :: st) h Q := W_go f164_39 rfl
theorem f164_40 : fetch 164 40 = some (.putfield 105, 3, [10, 8, 6139, 0], .null) := by decide +kernel
theorem w164_40 : Wp d 164 40 [l0, l1, l2, l3] (v :: .ref a :: st) h Q = pP (h.2 a) 10 8 (ftOf 10 8) v a (fun c => Wp d 164 43 [l0, l1, l2, l3] st (hset h a c) Q) := W_put f164_40 (by rfl)
theorem f164_43 : fetch 164 43 = some (.aload_n 0, 1, [], .null) := by decide +kernel
theorem w164_43 : Wp d 164 43 [some (.ref a), l1, l2, l3] st h Q = Wp d 164 44 [some (.ref a), l1, l2, l3] (.ref a :: st) h Q := W_go f164_43 rfl
theorem f164_44 : fetch 164 44 = some (.getfield 36, 3, [10, 11, 6143, 0], .null) := by decide +kernel
theorem w164_44 : Wp d 164 44 [l0, l1, l2, l3] (.ref a :: st) h Q = gP (h.2 a) 10 11 (fun w => Wp d 164 47 [l0, l1, l2, l3] (w :: st) h Q) := W_get f164_44 rfl
theorem f164_47 : fetch 164 47 = some (.dup, 1, [], .null) := by decide +kernel
theorem w164_47i : Wp d 164 47 [l0, l1, l2, l3] (.int x :: st) h Q = Wp d 164 48 [l0, l1, l2, l3] (.int x :: .int x :: st) h Q := W_go f164_47 rfl
theorem w164_47 : Wp d 164 47 [l0, l1, l2, l3] (.ref a :: st) h Q = Wp d 164 48 [l0, l1, l2, l3] (.ref a :: .ref a :: st) h Q := W_go f164_47 rfl
theorem f164_48 : fetch 164 48 = some (.getfield 144, 3, [8, 9, 5192, 1], .null) := by decide +kernel
theorem w164_48 : Wp d 164 48 [l0, l1, l2, l3] (.ref a :: st) h Q = gP (h.2 a) 8 9 (fun w => Wp d 164 51 [l0, l1, l2, l3] (w :: st) h Q) := W_get f164_48 rfl
theorem f164_51 : fetch 164 51 = some (.iconst 1, 1, [], .null) := by decide +kernel
theorem w164_51 : Wp d 164 51 [l0, l1, l2, l3] st h Q = Wp d 164 52 [l0, l1, l2, l3] (.int (1 : Int32) :: st) h Q := W_go f164_51 rfl
theorem f164_52 : fetch 164 52 = some (.iadd, 1, [], .null) := by decide +kernel
theorem w164_52 : Wp d 164 52 [l0, l1, l2, l3] (.int y :: .int x :: st) h Q = Wp d 164 53 [l0, l1, l2, l3] (.int (x + y) :: st) h Q := W_go f164_52 rfl
theorem f164_53 : fetch 164 53 = some (.putfield 144, 3, [8, 9, 5192, 1], .null) := by decide +kernel
theorem w164_53 : Wp d 164 53 [l0, l1, l2, l3] (v :: .ref a :: st) h Q = pP (h.2 a) 8 9 (ftOf 8 9) v a (fun c => Wp d 164 56 [l0, l1, l2, l3] st (hset h a c) Q) := W_put f164_53 (by rfl)
theorem f164_56 : fetch 164 56 = some (.aload_n 0, 1, [], .null) := by decide +kernel
theorem w164_56 : Wp d 164 56 [some (.ref a), l1, l2, l3] st h Q = Wp d 164 57 [some (.ref a), l1, l2, l3] (.ref a :: st) h Q := W_go f164_56 rfl
theorem f164_57 : fetch 164 57 = some (.getfield 36, 3, [10, 11, 6143, 0], .null) := by decide +kernel
theorem w164_57 : Wp d 164 57 [l0, l1, l2, l3] (.ref a :: st) h Q = gP (h.2 a) 10 11 (fun w => Wp d 164 60 [l0, l1, l2, l3] (w :: st) h Q) := W_get f164_57 rfl
theorem f164_60 : fetch 164 60 = some (.getfield 153, 3, [8, 10, 5195, 1], .null) := by decide +kernel
theorem w164_60 : Wp d 164 60 [l0, l1, l2, l3] (.ref a :: st) h Q = gP (h.2 a) 8 10 (fun w => Wp d 164 63 [l0, l1, l2, l3] (w :: st) h Q) := W_get f164_60 rfl
theorem f164_63 : fetch 164 63 = some (.iload_n 1, 1, [], .null) := by decide +kernel
theorem w164_63 : Wp d 164 63 [l0, some (.int x), l2, l3] st h Q = Wp d 164 64 [l0, some (.int x), l2, l3] (.int x :: st) h Q := W_go f164_63 rfl
theorem f164_64 : fetch 164 64 = some (.iload_n 2, 1, [], .null) := by decide +kernel
theorem w164_64 : Wp d 164 64 [l0, l1, some (.int x), l3] st h Q = Wp d 164 65 [l0, l1, some (.int x), l3] (.int x :: st) h Q := W_go f164_64 rfl
theorem f164_65 : fetch 164 65 = some (.iastore, 1, [], .null) := by decide +kernel
theorem w164_65 : Wp d 164 65 [l0, l1, l2, l3] (.int y :: .int x :: .ref a :: st) h Q = asP false (h.2 a) a x y (fun c => Wp d 164 66 [l0, l1, l2, l3] st (hset h a c) Q) := W_ast f164_65 rfl
theorem f164_66 : fetch 164 66 = some (.aload_n 0, 1, [], .null) := by decide +kernel
theorem w164_66 : Wp d 164 66 [some (.ref a), l1, l2, l3] st h Q = Wp d 164 67 [some (.ref a), l1, l2, l3] (.ref a :: st) h Q := W_go f164_66 rfl
theorem f164_67 : fetch 164 67 = some (.getfield 36, 3, [10, 11, 6143, 0], .null) := by decide +kernel
theorem w164_67 : Wp d 164 67 [l0, l1, l2, l3] (.ref a :: st) h Q = gP (h.2 a) 10 11 (fun w => Wp d 164 70 [l0, l1, l2, l3] (w :: st) h Q) := W_get f164_67 rfl
theorem f164_70 : fetch 164 70 = some (.getfield 150, 3, [8, 11, 5198, 1], .null) := by decide +kernel
theorem w164_70 : Wp d 164 70 [l0, l1, l2, l3] (.ref a :: st) h Q = gP (h.2 a) 8 11 (fun w => Wp d 164 73 [l0, l1, l2, l3] (w :: st) h Q) := W_get f164_70 rfl
theorem f164_73 : fetch 164 73 = some (.iload_n 1, 1, [], .null) := by decide +kernel
theorem w164_73 : Wp d 164 73 [l0, some (.int x), l2, l3] st h Q = Wp d 164 74 [l0, some (.int x), l2, l3] (.int x :: st) h Q := W_go f164_73 rfl
theorem f164_74 : fetch 164 74 = some (.iconst (-1), 1, [], .null) := by decide +kernel
theorem w164_74 : Wp d 164 74 [l0, l1, l2, l3] st h Q = Wp d 164 75 [l0, l1, l2, l3] (.int (-1 : Int32) :: st) h Q := W_go f164_74 rfl
theorem f164_75 : fetch 164 75 = some (.iastore, 1, [], .null) := by decide +kernel
theorem w164_75 : Wp d 164 75 [l0, l1, l2, l3] (.int y :: .int x :: .ref a :: st) h Q = asP false (h.2 a) a x y (fun c => Wp d 164 76 [l0, l1, l2, l3] st (hset h a c) Q) := W_ast f164_75 rfl
theorem f164_76 : fetch 164 76 = some (.aload_n 0, 1, [], .null) := by decide +kernel
theorem w164_76 : Wp d 164 76 [some (.ref a), l1, l2, l3] st h Q = Wp d 164 77 [some (.ref a), l1, l2, l3] (.ref a :: st) h Q := W_go f164_76 rfl
theorem f164_77 : fetch 164 77 = some (.getfield 36, 3, [10, 11, 6143, 0], .null) := by decide +kernel
theorem w164_77 : Wp d 164 77 [l0, l1, l2, l3] (.ref a :: st) h Q = gP (h.2 a) 10 11 (fun w => Wp d 164 80 [l0, l1, l2, l3] (w :: st) h Q) := W_get f164_77 rfl
theorem f164_80 : fetch 164 80 = some (.getfield 156, 3, [8, 14, 5207, 1], .null) := by decide +kernel
theorem w164_80 : Wp d 164 80 [l0, l1, l2, l3] (.ref a :: st) h Q = gP (h.2 a) 8 14 (fun w => Wp d 164 83 [l0, l1, l2, l3] (w :: st) h Q) := W_get f164_80 rfl
theorem f164_83 : fetch 164 83 = some (.iload_n 1, 1, [], .null) := by decide +kernel
theorem w164_83 : Wp d 164 83 [l0, some (.int x), l2, l3] st h Q = Wp d 164 84 [l0, some (.int x), l2, l3] (.int x :: st) h Q := W_go f164_83 rfl
theorem f164_84 : fetch 164 84 = some (.iconst (-1), 1, [], .null) := by decide +kernel
theorem w164_84 : Wp d 164 84 [l0, l1, l2, l3] st h Q = Wp d 164 85 [l0, l1, l2, l3] (.int (-1 : Int32) :: st) h Q := W_go f164_84 rfl
theorem f164_85 : fetch 164 85 = some (.iastore, 1, [], .null) := by decide +kernel
theorem w164_85 : Wp d 164 85 [l0, l1, l2, l3] (.int y :: .int x :: .ref a :: st) h Q = asP false (h.2 a) a x y (fun c => Wp d 164 86 [l0, l1, l2, l3] st (hset h a c) Q) := W_ast f164_85 rfl
theorem f164_86 : fetch 164 86 = some (.aload_n 0, 1, [], .null) := by decide +kernel
theorem w164_86 : Wp d 164 86 [some (.ref a), l1, l2, l3] st h Q = Wp d 164 87 [some (.ref a), l1, l2, l3] (.ref a :: st) h Q := W_go f164_86 rfl
theorem f164_87 : fetch 164 87 = some (.getfield 36, 3, [10, 11, 6143, 0], .null) := by decide +kernel
theorem w164_87 : Wp d 164 87 [l0, l1, l2, l3] (.ref a :: st) h Q = gP (h.2 a) 10 11 (fun w => Wp d 164 90 [l0, l1, l2, l3] (w :: st) h Q) := W_get f164_87 rfl
theorem f164_90 : fetch 164 90 = some (.getfield 159, 3, [8, 15, 5210, 1], .null) := by decide +kernel
theorem w164_90 : Wp d 164 90 [l0, l1, l2, l3] (.ref a :: st) h Q = gP (h.2 a) 8 15 (fun w => Wp d 164 93 [l0, l1, l2, l3] (w :: st) h Q) := W_get f164_90 rfl
theorem f164_93 : fetch 164 93 = some (.iload_n 1, 1, [], .null) := by decide +kernel
theorem w164_93 : Wp d 164 93 [l0, some (.int x), l2, l3] st h Q = Wp d 164 94 [l0, some (.int x), l2, l3] (.int x :: st) h Q := W_go f164_93 rfl
theorem f164_94 : fetch 164 94 = some (.iconst (-1), 1, [], .null) := by decide +kernel
theorem w164_94 : Wp d 164 94 [l0, l1, l2, l3] st h Q = Wp d 164 95 [l0, l1, l2, l3] (.int (-1 : Int32) :: st) h Q := W_go f164_94 rfl
theorem f164_95 : fetch 164 95 = some (.iastore, 1, [], .null) := by decide +kernel
theorem w164_95 : Wp d 164 95 [l0, l1, l2, l3] (.int y :: .int x :: .ref a :: st) h Q = asP false (h.2 a) a x y (fun c => Wp d 164 96 [l0, l1, l2, l3] st (hset h a c) Q) := W_ast f164_95 rfl
theorem f164_96 : fetch 164 96 = some (.iload_n 2, 1, [], .null) := by decide +kernel
theorem w164_96 : Wp d 164 96 [l0, l1, some (.int x), l3] st h Q = Wp d 164 97 [l0, l1, some (.int x), l3] (.int x :: st) h Q := W_go f164_96 rfl
theorem f164_97 : fetch 164 97 = some (.bipush 13, 2, [], .null) := by decide +kernel
theorem w164_97 : Wp d 164 97 [l0, l1, l2, l3] st h Q = Wp d 164 99 [l0, l1, l2, l3] (.int (13 : Int32) :: st) h Q := W_go f164_97 rfl
theorem f164_99 : fetch 164 99 = some (.if_icmp .ne 9, 3, [], .null) := by decide +kernel
theorem w164_99 : Wp d 164 99 [l0, l1, l2, l3] (.int y :: .int x :: st) h Q = if icond .ne x y = true then Wp d 164 108 [l0, l1, l2, l3] st h Q else Wp d 164 102 [l0, l1, l2, l3] st h Q := W_if f164_99 rfl
theorem f164_102 : fetch 164 102 = some (.aload_n 0, 1, [], .null) := by decide +kernel
theorem w164_102 : Wp d 164 102 [some (.ref a), l1, l2, l3] st h Q = Wp d 164 103 [some (.ref a), l1, l2, l3] (.ref a :: st) h Q := W_go f164_102 rfl
theorem f164_103 : fetch 164 103 = some (.iload_n 1, 1, [], .null) := by decide +kernel
theorem w164_103 : Wp d 164 103 [l0, some (.int x), l2, l3] st h Q = Wp d 164 104 [l0, some (.int x), l2, l3] (.int x :: st) h Q := W_go f164_103 rfl
theorem f164_104 : fetch 164 104 = some (.invokevirtual 162, 3, [166, 2, 11, 0, 7028, 1013, 7031, 7030, 49], .null) := by decide +kernel
theorem w164_104 (hp : psum st ≤ 8) : Wp d 164 104 [l0, l1, l2, l3] (v1 :: (.ref b) :: st) h Q = rP (h.2 b) 10 (Cp d 166 [(.ref b), v1] h (fun o => cK o (fun w h2 => Wp d 164 107 [l0, l1, l2, l3] (w.toList ++ st) h2 Q) (fun E h2 => Q (.inr E, h2)))) := (W_invV (st := st) f164_104 rfl rfl (by simp only [List.length_cons]; omega) rfl rfl hp).trans (by simp only [hm164, if_true])
theorem f164_107 : fetch 164 107 = some (.ireturn, 1, [], .null) := by decide +kernel
theorem w164_107 : Wp d 164 107 [l0, l1, l2, l3] [.int x] h Q = (if narrow .boolean (.int x) = .int x then Q (.inl (some (.int x)), h) else False) := W_zret f164_107 hr164
theorem f164_108 : fetch 164 108 = some (.iload_n 2, 1, [], .null) := by decide +kernel
theorem w164_108 : Wp d 164 108 [l0, l1, some (.int x), l3] st h Q = Wp d 164 109 [l0, l1, some (.int x), l3] (.int x :: st) h Q := W_go f164_108 rfl
theorem f164_109 : fetch 164 109 = some (.bipush 10, 2, [], .null) := by decide +kernel
theorem w164_109 : Wp d 164 109 [l0, l1, l2, l3] st h Q = Wp d 164 111 [l0, l1, l2, l3] (.int (10 : Int32) :: st) h Q := W_go f164_109 rfl
theorem f164_111 : fetch 164 111 = some (.if_icmp .eq 9, 3, [], .null) := by decide +kernel
theorem w164_111 : Wp d 164 111 [l0, l1, l2, l3] (.int y :: .int x :: st) h Q = if icond .eq x y = true then Wp d 164 120 [l0, l1, l2, l3] st h Q else Wp d 164 114 [l0, l1, l2, l3] st h Q := W_if f164_111 rfl
theorem f164_114 : fetch 164 114 = some (.iload_n 2, 1, [], .null) := by decide +kernel
theorem w164_114 : Wp d 164 114 [l0, l1, some (.int x), l3] st h Q = Wp d 164 115 [l0, l1, some (.int x), l3] (.int x :: st) h Q := W_go f164_114 rfl
theorem f164_115 : fetch 164 115 = some (.bipush 11, 2, [], .null) := by decide +kernel
theorem w164_115 : Wp d 164 115 [l0, l1, l2, l3] st h Q = Wp d 164 117 [l0, l1, l2, l3] (.int (11 : Int32) :: st) h Q := W_go f164_115 rfl
theorem f164_117 : fetch 164 117 = some (.if_icmp .ne 26, 3, [], .null) := by decide +kernel
theorem w164_117 : Wp d 164 117 [l0, l1, l2, l3] (.int y :: .int x :: st) h Q = if icond .ne x y = true then Wp d 164 143 [l0, l1, l2, l3] st h Q else Wp d 164 120 [l0, l1, l2, l3] st h Q := W_if f164_117 rfl
theorem f164_120 : fetch 164 120 = some (.aload_n 0, 1, [], .null) := by decide +kernel
theorem w164_120 : Wp d 164 120 [some (.ref a), l1, l2, l3] st h Q = Wp d 164 121 [some (.ref a), l1, l2, l3] (.ref a :: st) h Q := W_go f164_120 rfl
theorem f164_121 : fetch 164 121 = some (.iload_n 1, 1, [], .null) := by decide +kernel
theorem w164_121 : Wp d 164 121 [l0, some (.int x), l2, l3] st h Q = Wp d 164 122 [l0, some (.int x), l2, l3] (.int x :: st) h Q := W_go f164_121 rfl
theorem f164_122 : fetch 164 122 = some (.invokevirtual 165, 3, [165, 2, 11, 0, 7048, 1013, 7051, 7050, 54], .null) := by decide +kernel
theorem w164_122 (hp : psum st ≤ 8) : Wp d 164 122 [l0, l1, l2, l3] (v1 :: (.ref b) :: st) h Q = rP (h.2 b) 10 (Cp d 165 [(.ref b), v1] h (fun o => cK o (fun w h2 => Wp d 164 125 [l0, l1, l2, l3] (w.toList ++ st) h2 Q) (fun E h2 => Q (.inr E, h2)))) := (W_invV (st := st) f164_122 rfl rfl (by simp only [List.length_cons]; omega) rfl rfl hp).trans (by simp only [hm164, if_true])
theorem f164_125 : fetch 164 125 = some (.ifCond .eq 16, 3, [], .null) := by decide +kernel
theorem w164_125 : Wp d 164 125 [l0, l1, l2, l3] (.int x :: st) h Q = if icond .eq x 0 = true then Wp d 164 141 [l0, l1, l2, l3] st h Q else Wp d 164 128 [l0, l1, l2, l3] st h Q := W_if f164_125 rfl
theorem f164_128 : fetch 164 128 = some (.aload_n 0, 1, [], .null) := by decide +kernel
theorem w164_128 : Wp d 164 128 [some (.ref a), l1, l2, l3] st h Q = Wp d 164 129 [some (.ref a), l1, l2, l3] (.ref a :: st) h Q := W_go f164_128 rfl
theorem f164_129 : fetch 164 129 = some (.bipush 59, 2, [], .null) := by decide +kernel
theorem w164_129 : Wp d 164 129 [l0, l1, l2, l3] st h Q = Wp d 164 131 [l0, l1, l2, l3] (.int (59 : Int32) :: st) h Q := W_go f164_129 rfl
theorem f164_131 : fetch 164 131 = some (.invokevirtual 118, 3, [160, 2, 11, 0, 7012, 1013, 7015, 7014, 45], .null) := by decide +kernel
theorem w164_131 (hp : psum st ≤ 8) : Wp d 164 131 [l0, l1, l2, l3] (v1 :: (.ref b) :: st) h Q = rP (h.2 b) 10 (Cp d 160 [(.ref b), v1] h (fun o => cK o (fun w h2 => Wp d 164 134 [l0, l1, l2, l3] (w.toList ++ st) h2 Q) (fun E h2 => Q (.inr E, h2)))) := (W_invV (st := st) f164_131 rfl rfl (by simp only [List.length_cons]; omega) rfl rfl hp).trans (by simp only [hm164, if_true])
theorem f164_134 : fetch 164 134 = some (.ifCond .eq 7, 3, [], .null) := by decide +kernel
theorem w164_134 : Wp d 164 134 [l0, l1, l2, l3] (.int x :: st) h Q = if icond .eq x 0 = true then Wp d 164 141 [l0, l1, l2, l3] st h Q else Wp d 164 137 [l0, l1, l2, l3] st h Q := W_if f164_134 rfl
theorem f164_137 : fetch 164 137 = some (.iconst 1, 1, [], .null) := by decide +kernel
theorem w164_137 : Wp d 164 137 [l0, l1, l2, l3] st h Q = Wp d 164 138 [l0, l1, l2, l3] (.int (1 : Int32) :: st) h Q := W_go f164_137 rfl
theorem f164_138 : fetch 164 138 = some (.goto 4, 3, [], .null) := by decide +kernel
theorem w164_138 : Wp d 164 138 [l0, l1, l2, l3] st h Q = Wp d 164 142 [l0, l1, l2, l3] st h Q := W_go f164_138 rfl
theorem f164_141 : fetch 164 141 = some (.iconst 0, 1, [], .null) := by decide +kernel
theorem w164_141 : Wp d 164 141 [l0, l1, l2, l3] st h Q = Wp d 164 142 [l0, l1, l2, l3] (.int (0 : Int32) :: st) h Q := W_go f164_141 rfl
theorem f164_142 : fetch 164 142 = some (.ireturn, 1, [], .null) := by decide +kernel
theorem w164_142 : Wp d 164 142 [l0, l1, l2, l3] [.int x] h Q = (if narrow .boolean (.int x) = .int x then Q (.inl (some (.int x)), h) else False) := W_zret f164_142 hr164
theorem f164_143 : fetch 164 143 = some (.iload_n 2, 1, [], .null) := by decide +kernel
theorem w164_143 : Wp d 164 143 [l0, l1, some (.int x), l3] st h Q = Wp d 164 144 [l0, l1, some (.int x), l3] (.int x :: st) h Q := W_go f164_143 rfl
theorem f164_144 : fetch 164 144 = some (.bipush 6, 2, [], .null) := by decide +kernel
theorem w164_144 : Wp d 164 144 [l0, l1, l2, l3] st h Q = Wp d 164 146 [l0, l1, l2, l3] (.int (6 : Int32) :: st) h Q := W_go f164_144 rfl
theorem f164_146 : fetch 164 146 = some (.if_icmp .gt 10, 3, [], .null) := by decide +kernel
theorem w164_146 : Wp d 164 146 [l0, l1, l2, l3] (.int y :: .int x :: st) h Q = if icond .gt x y = true then Wp d 164 156 [l0, l1, l2, l3] st h Q else Wp d 164 149 [l0, l1, l2, l3] st h Q := W_if f164_146 rfl
theorem f164_149 : fetch 164 149 = some (.aload_n 0, 1, [], .null) := by decide +kernel
theorem w164_149 : Wp d 164 149 [some (.ref a), l1, l2, l3] st h Q = Wp d 164 150 [some (.ref a), l1, l2, l3] (.ref a :: st) h Q := W_go f164_149 rfl
theorem f164_150 : fetch 164 150 = some (.bipush 59, 2, [], .null) := by decide +kernel
theorem w164_150 : Wp d 164 150 [l0, l1, l2, l3] st h Q = Wp d 164 152 [l0, l1, l2, l3] (.int (59 : Int32) :: st) h Q := W_go f164_150 rfl
theorem f164_152 : fetch 164 152 = some (.invokevirtual 118, 3, [160, 2, 11, 0, 7012, 1013, 7015, 7014, 45], .null) := by decide +kernel
theorem w164_152 (hp : psum st ≤ 8) : Wp d 164 152 [l0, l1, l2, l3] (v1 :: (.ref b) :: st) h Q = rP (h.2 b) 10 (Cp d 160 [(.ref b), v1] h (fun o => cK o (fun w h2 => Wp d 164 155 [l0, l1, l2, l3] (w.toList ++ st) h2 Q) (fun E h2 => Q (.inr E, h2)))) := (W_invV (st := st) f164_152 rfl rfl (by simp only [List.length_cons]; omega) rfl rfl hp).trans (by simp only [hm164, if_true])
theorem f164_155 : fetch 164 155 = some (.ireturn, 1, [], .null) := by decide +kernel
theorem w164_155 : Wp d 164 155 [l0, l1, l2, l3] [.int x] h Q = (if narrow .boolean (.int x) = .int x then Q (.inl (some (.int x)), h) else False) := W_zret f164_155 hr164
theorem f164_156 : fetch 164 156 = some (.aload_n 0, 1, [], .null) := by decide +kernel
theorem w164_156 : Wp d 164 156 [some (.ref a), l1, l2, l3] st h Q = Wp d 164 157 [some (.ref a), l1, l2, l3] (.ref a :: st) h Q := W_go f164_156 rfl
theorem f164_157 : fetch 164 157 = some (.getfield 105, 3, [10, 8, 6139, 0], .null) := by decide +kernel
theorem w164_157 : Wp d 164 157 [l0, l1, l2, l3] (.ref a :: st) h Q = gP (h.2 a) 10 8 (fun w => Wp d 164 160 [l0, l1, l2, l3] (w :: st) h Q) := W_get f164_157 rfl
theorem f164_160 : fetch 164 160 = some (.istore_n 3, 1, [], .null) := by decide +kernel
theorem w164_160 : Wp d 164 160 [l0, l1, l2, l3] (.int x :: st) h Q = Wp d 164 161 [l0, l1, kl l2, some (.int x)] st h Q := (W_st1 (pc' := 161) (k := 3) f164_160 rfl rfl (by simp only [List.length_cons, List.length_nil]; omega)).trans (by rw [pst1_succ]; rfl)
theorem f164_161 : fetch 164 161 = some (.aload_n 0, 1, [], .null) := by decide +kernel
theorem w164_161 : Wp d 164 161 [some (.ref a), l1, l2, l3] st h Q = Wp d 164 162 [some (.ref a), l1, l2, l3] (.ref a :: st) h Q := W_go f164_161 rfl
theorem f164_162 : fetch 164 162 = some (.invokevirtual 168, 3, [168, 1, 11, 0, 7036, 1013, 7039, 7038, 51], .null) := by decide +kernel
theorem w164_162 (hp : psum st ≤ 8) : Wp d 164 162 [l0, l1, l2, l3] ((.ref b) :: st) h Q = rP (h.2 b) 10 (Cp d 168 [(.ref b)] h (fun o => cK o (fun w h2 => Wp d 164 165 [l0, l1, l2, l3] (w.toList ++ st) h2 Q) (fun E h2 => Q (.inr E, h2)))) := (W_invV (st := st) f164_162 rfl rfl (by simp only [List.length_cons]; omega) rfl rfl hp).trans (by simp only [hm164, if_true])
theorem f164_165 : fetch 164 165 = some (.ifCond .ne 5, 3, [], .null) := by decide +kernel
theorem w164_165 : Wp d 164 165 [l0, l1, l2, l3] (.int x :: st) h Q = if icond .ne x 0 = true then Wp d 164 170 [l0, l1, l2, l3] st h Q else Wp d 164 168 [l0, l1, l2, l3] st h Q := W_if f164_165 rfl
theorem f164_168 : fetch 164 168 = some (.iconst 0, 1, [], .null) := by decide +kernel
theorem w164_168 : Wp d 164 168 [l0, l1, l2, l3] st h Q = Wp d 164 169 [l0, l1, l2, l3] (.int (0 : Int32) :: st) h Q := W_go f164_168 rfl
theorem f164_169 : fetch 164 169 = some (.ireturn, 1, [], .null) := by decide +kernel
theorem w164_169 : Wp d 164 169 [l0, l1, l2, l3] [.int x] h Q = (if narrow .boolean (.int x) = .int x then Q (.inl (some (.int x)), h) else False) := W_zret f164_169 hr164
theorem f164_170 : fetch 164 170 = some (.aload_n 0, 1, [], .null) := by decide +kernel
theorem w164_170 : Wp d 164 170 [some (.ref a), l1, l2, l3] st h Q = Wp d 164 171 [some (.ref a), l1, l2, l3] (.ref a :: st) h Q := W_go f164_170 rfl
theorem f164_171 : fetch 164 171 = some (.getfield 36, 3, [10, 11, 6143, 0], .null) := by decide +kernel
theorem w164_171 : Wp d 164 171 [l0, l1, l2, l3] (.ref a :: st) h Q = gP (h.2 a) 10 11 (fun w => Wp d 164 174 [l0, l1, l2, l3] (w :: st) h Q) := W_get f164_171 rfl
theorem f164_174 : fetch 164 174 = some (.getfield 171, 3, [8, 12, 5201, 1], .null) := by decide +kernel
theorem w164_174 : Wp d 164 174 [l0, l1, l2, l3] (.ref a :: st) h Q = gP (h.2 a) 8 12 (fun w => Wp d 164 177 [l0, l1, l2, l3] (w :: st) h Q) := W_get f164_174 rfl
theorem f164_177 : fetch 164 177 = some (.iload_n 1, 1, [], .null) := by decide +kernel
theorem w164_177 : Wp d 164 177 [l0, some (.int x), l2, l3] st h Q = Wp d 164 178 [l0, some (.int x), l2, l3] (.int x :: st) h Q := W_go f164_177 rfl
theorem f164_178 : fetch 164 178 = some (.aload_n 0, 1, [], .null) := by decide +kernel
theorem w164_178 : Wp d 164 178 [some (.ref a), l1, l2, l3] st h Q = Wp d 164 179 [some (.ref a), l1, l2, l3] (.ref a :: st) h Q := W_go f164_178 rfl
theorem f164_179 : fetch 164 179 = some (.iload_n 3, 1, [], .null) := by decide +kernel
theorem w164_179 : Wp d 164 179 [l0, l1, l2, some (.int x)] st h Q = Wp d 164 180 [l0, l1, l2, some (.int x)] (.int x :: st) h Q := W_go f164_179 rfl
theorem f164_180 : fetch 164 180 = some (.invokevirtual 174, 3, [169, 2, 11, 0, 7040, 1013, 7043, 7042, 52], .null) := by decide +kernel
theorem w164_180 (hp : psum st ≤ 8) : Wp d 164 180 [l0, l1, l2, l3] (v1 :: (.ref b) :: st) h Q = rP (h.2 b) 10 (Cp d 169 [(.ref b), v1] h (fun o => cK o (fun w h2 => Wp d 164 183 [l0, l1, l2, l3] (w.toList ++ st) h2 Q) (fun E h2 => Q (.inr E, h2)))) := (W_invV (st := st) f164_180 rfl rfl (by simp only [List.length_cons]; omega) rfl rfl hp).trans (by simp only [hm164, if_true])
theorem f164_183 : fetch 164 183 = some (.iastore, 1, [], .null) := by decide +kernel
theorem w164_183 : Wp d 164 183 [l0, l1, l2, l3] (.int y :: .int x :: .ref a :: st) h Q = asP false (h.2 a) a x y (fun c => Wp d 164 184 [l0, l1, l2, l3] st (hset h a c) Q) := W_ast f164_183 rfl
theorem f164_184 : fetch 164 184 = some (.aload_n 0, 1, [], .null) := by decide +kernel
theorem w164_184 : Wp d 164 184 [some (.ref a), l1, l2, l3] st h Q = Wp d 164 185 [some (.ref a), l1, l2, l3] (.ref a :: st) h Q := W_go f164_184 rfl
theorem f164_185 : fetch 164 185 = some (.getfield 36, 3, [10, 11, 6143, 0], .null) := by decide +kernel
theorem w164_185 : Wp d 164 185 [l0, l1, l2, l3] (.ref a :: st) h Q = gP (h.2 a) 10 11 (fun w => Wp d 164 188 [l0, l1, l2, l3] (w :: st) h Q) := W_get f164_185 rfl
theorem f164_188 : fetch 164 188 = some (.getfield 156, 3, [8, 14, 5207, 1], .null) := by decide +kernel
theorem w164_188 : Wp d 164 188 [l0, l1, l2, l3] (.ref a :: st) h Q = gP (h.2 a) 8 14 (fun w => Wp d 164 191 [l0, l1, l2, l3] (w :: st) h Q) := W_get f164_188 rfl
theorem f164_191 : fetch 164 191 = some (.iload_n 1, 1, [], .null) := by decide +kernel
theorem w164_191 : Wp d 164 191 [l0, some (.int x), l2, l3] st h Q = Wp d 164 192 [l0, some (.int x), l2, l3] (.int x :: st) h Q := W_go f164_191 rfl
theorem f164_192 : fetch 164 192 = some (.aload_n 0, 1, [], .null) := by decide +kernel
theorem w164_192 : Wp d 164 192 [some (.ref a), l1, l2, l3] st h Q = Wp d 164 193 [some (.ref a), l1, l2, l3] (.ref a :: st) h Q := W_go f164_192 rfl
theorem f164_193 : fetch 164 193 = some (.getfield 36, 3, [10, 11, 6143, 0], .null) := by decide +kernel
theorem w164_193 : Wp d 164 193 [l0, l1, l2, l3] (.ref a :: st) h Q = gP (h.2 a) 10 11 (fun w => Wp d 164 196 [l0, l1, l2, l3] (w :: st) h Q) := W_get f164_193 rfl
theorem f164_196 : fetch 164 196 = some (.getfield 128, 3, [8, 6, 5187, 1], .null) := by decide +kernel
theorem w164_196 : Wp d 164 196 [l0, l1, l2, l3] (.ref a :: st) h Q = gP (h.2 a) 8 6 (fun w => Wp d 164 199 [l0, l1, l2, l3] (w :: st) h Q) := W_get f164_196 rfl
theorem f164_199 : fetch 164 199 = some (.iastore, 1, [], .null) := by decide +kernel
theorem w164_199 : Wp d 164 199 [l0, l1, l2, l3] (.int y :: .int x :: .ref a :: st) h Q = asP false (h.2 a) a x y (fun c => Wp d 164 200 [l0, l1, l2, l3] st (hset h a c) Q) := W_ast f164_199 rfl
theorem f164_200 : fetch 164 200 = some (.iload_n 2, 1, [], .null) := by decide +kernel
theorem w164_200 : Wp d 164 200 [l0, l1, some (.int x), l3] st h Q = Wp d 164 201 [l0, l1, some (.int x), l3] (.int x :: st) h Q := W_go f164_200 rfl
theorem f164_201 : fetch 164 201 = some (.bipush 12, 2, [], .null) := by decide +kernel
theorem w164_201 : Wp d 164 201 [l0, l1, l2, l3] st h Q = Wp d 164 203 [l0, l1, l2, l3] (.int (12 : Int32) :: st) h Q := W_go f164_201 rfl
theorem f164_203 : fetch 164 203 = some (.if_icmp .ne 10, 3, [], .null) := by decide +kernel
theorem w164_203 : Wp d 164 203 [l0, l1, l2, l3] (.int y :: .int x :: st) h Q = if icond .ne x y = true then Wp d 164 213 [l0, l1, l2, l3] st h Q else Wp d 164 206 [l0, l1, l2, l3] st h Q := W_if f164_203 rfl
theorem f164_206 : fetch 164 206 = some (.aload_n 0, 1, [], .null) := by decide +kernel
theorem w164_206 : Wp d 164 206 [some (.ref a), l1, l2, l3] st h Q = Wp d 164 207 [some (.ref a), l1, l2, l3] (.ref a :: st) h Q := W_go f164_206 rfl
theorem f164_207 : fetch 164 207 = some (.invokevirtual 131, 3, [163, 1, 11, 0, 7016, 1013, 7019, 7018, 46], .null) := by decide +kernel
theorem w164_207 (hp : psum st ≤ 8) : Wp d 164 207 [l0, l1, l2, l3] ((.ref b) :: st) h Q = rP (h.2 b) 10 (Cp d 163 [(.ref b)] h (fun o => cK o (fun w h2 => Wp d 164 210 [l0, l1, l2, l3] (w.toList ++ st) h2 Q) (fun E h2 => Q (.inr E, h2)))) := (W_invV (st := st) f164_207 rfl rfl (by simp only [List.length_cons]; omega) rfl rfl hp).trans (by simp only [hm164, if_true])
theorem f164_210 : fetch 164 210 = some (.goto 9, 3, [], .null) := by decide +kernel
theorem w164_210 : Wp d 164 210 [l0, l1, l2, l3] st h Q = Wp d 164 219 [l0, l1, l2, l3] st h Q := W_go f164_210 rfl
theorem f164_213 : fetch 164 213 = some (.aload_n 0, 1, [], .null) := by decide +kernel
theorem w164_213 : Wp d 164 213 [some (.ref a), l1, l2, l3] st h Q = Wp d 164 214 [some (.ref a), l1, l2, l3] (.ref a :: st) h Q := W_go f164_213 rfl
theorem f164_214 : fetch 164 214 = some (.bipush 59, 2, [], .null) := by decide +kernel
theorem w164_214 : Wp d 164 214 [l0, l1, l2, l3] st h Q = Wp d 164 216 [l0, l1, l2, l3] (.int (59 : Int32) :: st) h Q := W_go f164_214 rfl
theorem f164_216 : fetch 164 216 = some (.invokevirtual 118, 3, [160, 2, 11, 0, 7012, 1013, 7015, 7014, 45], .null) := by decide +kernel
theorem w164_216 (hp : psum st ≤ 8) : Wp d 164 216 [l0, l1, l2, l3] (v1 :: (.ref b) :: st) h Q = rP (h.2 b) 10 (Cp d 160 [(.ref b), v1] h (fun o => cK o (fun w h2 => Wp d 164 219 [l0, l1, l2, l3] (w.toList ++ st) h2 Q) (fun E h2 => Q (.inr E, h2)))) := (W_invV (st := st) f164_216 rfl rfl (by simp only [List.length_cons]; omega) rfl rfl hp).trans (by simp only [hm164, if_true])
theorem f164_219 : fetch 164 219 = some (.ireturn, 1, [], .null) := by decide +kernel
theorem w164_219 : Wp d 164 219 [l0, l1, l2, l3] [.int x] h Q = (if narrow .boolean (.int x) = .int x then Q (.inl (some (.int x)), h) else False) := W_zret f164_219 hr164
theorem hm165 : mhs 165 = [] := by decide +kernel
theorem hr165 : mret 165 = (some .boolean) := by decide +kernel
theorem f165_0 : fetch 165 0 = some (.aload_n 0, 1, [], .null) := by decide +kernel
theorem w165_0 : Wp d 165 0 [some (.ref a), l1] st h Q = Wp d 165 1 [some (.ref a), l1] (.ref a :: st) h Q := W_go f165_0 rfl
theorem f165_1 : fetch 165 1 = some (.getfield 36, 3, [10, 11, 6143, 0], .null) := by decide +kernel
theorem w165_1 : Wp d 165 1 [l0, l1] (.ref a :: st) h Q = gP (h.2 a) 10 11 (fun w => Wp d 165 4 [l0, l1] (w :: st) h Q) := W_get f165_1 rfl
theorem f165_4 : fetch 165 4 = some (.getfield 177, 3, [8, 13, 5204, 1], .null) := by decide +kernel
theorem w165_4 : Wp d 165 4 [l0, l1] (.ref a :: st) h Q = gP (h.2 a) 8 13 (fun w => Wp d 165 7 [l0, l1] (w :: st) h Q) := W_get f165_4 rfl
theorem f165_7 : fetch 165 7 = some (.iload_n 1, 1, [], .null) := by decide +kernel
theorem w165_7 : Wp d 165 7 [l0, some (.int x)] st h Q = Wp d 165 8 [l0, some (.int x)] (.int x :: st) h Q := W_go f165_7 rfl
theorem f165_8 : fetch 165 8 = some (.aload_n 0, 1, [], .null) := by decide +kernel
theorem w165_8 : Wp d 165 8 [some (.ref a), l1] st h Q = Wp d 165 9 [some (.ref a), l1] (.ref a :: st) h Q := W_go f165_8 rfl
theorem f165_9 : fetch 165 9 = some (.getfield 105, 3, [10, 8, 6139, 0], .null) := by decide +kernel
theorem w165_9 : Wp d 165 9 [l0, l1] (.ref a :: st) h Q = gP (h.2 a) 10 8 (fun w => Wp d 165 12 [l0, l1] (w :: st) h Q) := W_get f165_9 rfl
theorem f165_12 : fetch 165 12 = some (.iastore, 1, [], .null) := by decide +kernel
theorem w165_12 : Wp d 165 12 [l0, l1] (.int y :: .int x :: .ref a :: st) h Q = asP false (h.2 a) a x y (fun c => Wp d 165 13 [l0, l1] st (hset h a c) Q) := W_ast f165_12 rfl
theorem f165_13 : fetch 165 13 = some (.aload_n 0, 1, [], .null) := by decide +kernel
theorem w165_13 : Wp d 165 13 [some (.ref a), l1] st h Q = Wp d 165 14 [some (.ref a), l1] (.ref a :: st) h Q := W_go f165_13 rfl
theorem f165_14 : fetch 165 14 = some (.bipush 40, 2, [], .null) := by decide +kernel
theorem w165_14 : Wp d 165 14 [l0, l1] st h Q = Wp d 165 16 [l0, l1] (.int (40 : Int32) :: st) h Q := W_go f165_14 rfl
theorem f165_16 : fetch 165 16 = some (.aload_n 0, 1, [], .null) := by decide +kernel
theorem w165_16 : Wp d 165 16 [some (.ref a), l1] st h Q = Wp d 165 17 [some (.ref a), l1] (.ref a :: st) h Q := W_go f165_16 rfl
theorem f165_17 : fetch 165 17 = some (.getfield 36, 3, [10, 11, 6143, 0], .null) := by decide +kernel
theorem w165_17 : Wp d 165 17 [l0, l1] (.ref a :: st) h Q = gP (h.2 a) 10 11 (fun w => Wp d 165 20 [l0, l1] (w :: st) h Q) := W_get f165_17 rfl
theorem f165_20 : fetch 165 20 = some (.getfield 153, 3, [8, 10, 5195, 1], .null) := by decide +kernel
theorem w165_20 : Wp d 165 20 [l0, l1] (.ref a :: st) h Q = gP (h.2 a) 8 10 (fun w => Wp d 165 23 [l0, l1] (w :: st) h Q) := W_get f165_20 rfl
theorem f165_23 : fetch 165 23 = some (.iload_n 1, 1, [], .null) := by decide +kernel
theorem w165_23 : Wp d 165 23 [l0, some (.int x)] st h Q = Wp d 165 24 [l0, some (.int x)] (.int x :: st) h Q := W_go f165_23 rfl
theorem f165_24 : fetch 165 24 = some (.iaload, 1, [], .null) := by decide +kernel
theorem w165_24 : Wp d 165 24 [l0, l1] (.int x :: .ref a :: st) h Q = aP false (h.2 a) x (fun w => Wp d 165 25 [l0, l1] (.int w :: st) h Q) := W_ald f165_24 rfl
theorem f165_25 : fetch 165 25 = some (.bipush 10, 2, [], .null) := by decide +kernel
theorem w165_25 : Wp d 165 25 [l0, l1] st h Q = Wp d 165 27 [l0, l1] (.int (10 : Int32) :: st) h Q := W_go f165_25 rfl
theorem f165_27 : fetch 165 27 = some (.if_icmp .ne 8, 3, [], .null) := by decide +kernel
theorem w165_27 : Wp d 165 27 [l0, l1] (.int y :: .int x :: st) h Q = if icond .ne x y = true then Wp d 165 35 [l0, l1] st h Q else Wp d 165 30 [l0, l1] st h Q := W_if f165_27 rfl
theorem f165_30 : fetch 165 30 = some (.bipush 6, 2, [], .null) := by decide +kernel
theorem w165_30 : Wp d 165 30 [l0, l1] st h Q = Wp d 165 32 [l0, l1] (.int (6 : Int32) :: st) h Q := W_go f165_30 rfl
theorem f165_32 : fetch 165 32 = some (.goto 5, 3, [], .null) := by decide +kernel
theorem w165_32 : Wp d 165 32 [l0, l1] st h Q = Wp d 165 37 [l0, l1] st h Q := W_go f165_32 rfl
theorem f165_35 : fetch 165 35 = some (.bipush 7, 2, [], .null) := by decide +kernel
theorem w165_35 : Wp d 165 35 [l0, l1] st h Q = Wp d 165 37 [l0, l1] (.int (7 : Int32) :: st) h Q := W_go f165_35 rfl
theorem f165_37 : fetch 165 37 = some (.invokevirtual 114, 3, [161, 3, 11, 0, 7004, 1013, 7007, 7006, 43], .null) := by decide +kernel
theorem w165_37 (hp : psum st ≤ 8) : Wp d 165 37 [l0, l1] (v2 :: v1 :: (.ref b) :: st) h Q = rP (h.2 b) 10 (Cp d 161 [(.ref b), v1, v2] h (fun o => cK o (fun w h2 => Wp d 165 40 [l0, l1] (w.toList ++ st) h2 Q) (fun E h2 => Q (.inr E, h2)))) := (W_invV (st := st) f165_37 rfl rfl (by simp only [List.length_cons]; omega) rfl rfl hp).trans (by simp only [hm165, if_true])
theorem f165_40 : fetch 165 40 = some (.ireturn, 1, [], .null) := by decide +kernel
theorem w165_40 : Wp d 165 40 [l0, l1] [.int x] h Q = (if narrow .boolean (.int x) = .int x then Q (.inl (some (.int x)), h) else False) := W_zret f165_40 hr165
theorem hm166 : mhs 166 = [] := by decide +kernel
theorem hr166 : mret 166 = (some .boolean) := by decide +kernel
theorem f166_0 : fetch 166 0 = some (.aload_n 0, 1, [], .null) := by decide +kernel
theorem w166_0 : Wp d 166 0 [some (.ref a), l1] st h Q = Wp d 166 1 [some (.ref a), l1] (.ref a :: st) h Q := W_go f166_0 rfl
theorem f166_1 : fetch 166 1 = some (.getfield 36, 3, [10, 11, 6143, 0], .null) := by decide +kernel
theorem w166_1 : Wp d 166 1 [l0, l1] (.ref a :: st) h Q = gP (h.2 a) 10 11 (fun w => Wp d 166 4 [l0, l1] (w :: st) h Q) := W_get f166_1 rfl
theorem f166_4 : fetch 166 4 = some (.getfield 180, 3, [8, 16, 5213, 1], .null) := by decide +kernel
theorem w166_4 : Wp d 166 4 [l0, l1] (.ref a :: st) h Q = gP (h.2 a) 8 16 (fun w => Wp d 166 7 [l0, l1] (w :: st) h Q) := W_get f166_4 rfl
theorem f166_7 : fetch 166 7 = some (.iload_n 1, 1, [], .null) := by decide +kernel
theorem w166_7 : Wp d 166 7 [l0, some (.int x)] st h Q = Wp d 166 8 [l0, some (.int x)] (.int x :: st) h Q := W_go f166_7 rfl
theorem f166_8 : fetch 166 8 = some (.aload_n 0, 1, [], .null) := by decide +kernel
theorem w166_8 : Wp d 166 8 [some (.ref a), l1] st h Q = Wp d 166 9 [some (.ref a), l1] (.ref a :: st) h Q := W_go f166_8 rfl
theorem f166_9 : fetch 166 9 = some (.getfield 36, 3, [10, 11, 6143, 0], .null) := by decide +kernel
theorem w166_9 : Wp d 166 9 [l0, l1] (.ref a :: st) h Q = gP (h.2 a) 10 11 (fun w => Wp d 166 12 [l0, l1] (w :: st) h Q) := W_get f166_9 rfl
theorem f166_12 : fetch 166 12 = some (.getfield 183, 3, [8, 18, 5217, 1], .null) := by decide +kernel
theorem w166_12 : Wp d 166 12 [l0, l1] (.ref a :: st) h Q = gP (h.2 a) 8 18 (fun w => Wp d 166 15 [l0, l1] (w :: st) h Q) := W_get f166_12 rfl
theorem f166_15 : fetch 166 15 = some (.iastore, 1, [], .null) := by decide +kernel
theorem w166_15 : Wp d 166 15 [l0, l1] (.int y :: .int x :: .ref a :: st) h Q = asP false (h.2 a) a x y (fun c => Wp d 166 16 [l0, l1] st (hset h a c) Q) := W_ast f166_15 rfl
theorem f166_16 : fetch 166 16 = some (.aload_n 0, 1, [], .null) := by decide +kernel
theorem w166_16 : Wp d 166 16 [some (.ref a), l1] st h Q = Wp d 166 17 [some (.ref a), l1] (.ref a :: st) h Q := W_go f166_16 rfl
theorem f166_17 : fetch 166 17 = some (.invokevirtual 186, 3, [167, 1, 11, 0, 7032, 1013, 7035, 7034, 50], .null) := by decide +kernel
theorem w166_17 (hp : psum st ≤ 8) : Wp d 166 17 [l0, l1] ((.ref b) :: st) h Q = rP (h.2 b) 10 (Cp d 167 [(.ref b)] h (fun o => cK o (fun w h2 => Wp d 166 20 [l0, l1] (w.toList ++ st) h2 Q) (fun E h2 => Q (.inr E, h2)))) := (W_invV (st := st) f166_17 rfl rfl (by simp only [List.length_cons]; omega) rfl rfl hp).trans (by simp only [hm166, if_true])
theorem f166_20 : fetch 166 20 = some (.ifCond .ne 5, 3, [], .null) := by decide +kernel
theorem w166_20 : Wp d 166 20 [l0, l1] (.int x :: st) h Q = if icond .ne x 0 = true then Wp d 166 25 [l0, l1] st h Q else Wp d 166 23 [l0, l1] st h Q := W_if f166_20 rfl
theorem f166_23 : fetch 166 23 = some (.iconst 0, 1, [], .null) := by decide +kernel
theorem w166_23 : Wp d 166 23 [l0, l1] st h Q = Wp d 166 24 [l0, l1] (.int (0 : Int32) :: st) h Q := W_go f166_23 rfl
theorem f166_24 : fetch 166 24 = some (.ireturn, 1, [], .null) := by decide +kernel
theorem w166_24 : Wp d 166 24 [l0, l1] [.int x] h Q = (if narrow .boolean (.int x) = .int x then Q (.inl (some (.int x)), h) else False) := W_zret f166_24 hr166
theorem f166_25 : fetch 166 25 = some (.aload_n 0, 1, [], .null) := by decide +kernel
theorem w166_25 : Wp d 166 25 [some (.ref a), l1] st h Q = Wp d 166 26 [some (.ref a), l1] (.ref a :: st) h Q := W_go f166_25 rfl
theorem f166_26 : fetch 166 26 = some (.bipush 14, 2, [], .null) := by decide +kernel
theorem w166_26 : Wp d 166 26 [l0, l1] st h Q = Wp d 166 28 [l0, l1] (.int (14 : Int32) :: st) h Q := W_go f166_26 rfl
theorem f166_28 : fetch 166 28 = some (.invokevirtual 111, 3, [159, 2, 11, 0, 7008, 1013, 7011, 7010, 44], .null) := by decide +kernel
theorem w166_28 (hp : psum st ≤ 8) : Wp d 166 28 [l0, l1] (v1 :: (.ref b) :: st) h Q = rP (h.2 b) 10 (Cp d 159 [(.ref b), v1] h (fun o => cK o (fun w h2 => Wp d 166 31 [l0, l1] (w.toList ++ st) h2 Q) (fun E h2 => Q (.inr E, h2)))) := (W_invV (st := st) f166_28 rfl rfl (by simp only [List.length_cons]; omega) rfl rfl hp).trans (by simp only [hm166, if_true])
theorem f166_31 : fetch 166 31 = some (.ifCond .eq 12, 3, [], .null) := by decide +kernel
theorem w166_31 : Wp d 166 31 [l0, l1] (.int x :: st) h Q = if icond .eq x 0 = true then Wp d 166 43 [l0, l1] st h Q else Wp d 166 34 [l0, l1] st h Q := W_if f166_31 rfl
theorem f166_34 : fetch 166 34 = some (.aload_n 0, 1, [], .null) := by decide +kernel
theorem w166_34 : Wp d 166 34 [some (.ref a), l1] st h Q = Wp d 166 35 [some (.ref a), l1] (.ref a :: st) h Q := W_go f166_34 rfl
theorem f166_35 : fetch 166 35 = some (.invokevirtual 186, 3, [167, 1, 11, 0, 7032, 1013, 7035, 7034, 50], .null) := by decide +kernel
theorem w166_35 (hp : psum st ≤ 8) : Wp d 166 35 [l0, l1] ((.ref b) :: st) h Q = rP (h.2 b) 10 (Cp d 167 [(.ref b)] h (fun o => cK o (fun w h2 => Wp d 166 38 [l0, l1] (w.toList ++ st) h2 Q) (fun E h2 => Q (.inr E, h2)))) := (W_invV (st := st) f166_35 rfl rfl (by simp only [List.length_cons]; omega) rfl rfl hp).trans (by simp only [hm166, if_true])
theorem f166_38 : fetch 166 38 = some (.ifCond .ne (-13), 3, [], .null) := by decide +kernel
theorem w166_38 : Wp d 166 38 [l0, l1] (.int x :: st) h Q = if icond .ne x 0 = true then Wp d 166 25 [l0, l1] st h Q else Wp d 166 41 [l0, l1] st h Q := W_if f166_38 rfl
theorem f166_41 : fetch 166 41 = some (.iconst 0, 1, [], .null) := by decide +kernel
theorem w166_41 : Wp d 166 41 [l0, l1] st h Q = Wp d 166 42 [l0, l1] (.int (0 : Int32) :: st) h Q := W_go f166_41 rfl
theorem f166_42 : fetch 166 42 = some (.ireturn, 1, [], .null) := by decide +kernel
theorem w166_42 : Wp d 166 42 [l0, l1] [.int x] h Q = (if narrow .boolean (.int x) = .int x then Q (.inl (some (.int x)), h) else False) := W_zret f166_42 hr166
theorem f166_43 : fetch 166 43 = some (.aload_n 0, 1, [], .null) := by decide +kernel
theorem w166_43 : Wp d 166 43 [some (.ref a), l1] st h Q = Wp d 166 44 [some (.ref a), l1] (.ref a :: st) h Q := W_go f166_43 rfl
theorem f166_44 : fetch 166 44 = some (.getfield 36, 3, [10, 11, 6143, 0], .null) := by decide +kernel
theorem w166_44 : Wp d 166 44 [l0, l1] (.ref a :: st) h Q = gP (h.2 a) 10 11 (fun w => Wp d 166 47 [l0, l1] (w :: st) h Q) := W_get f166_44 rfl
theorem f166_47 : fetch 166 47 = some (.getfield 189, 3, [8, 17, 5216, 1], .null) := by decide +kernel
theorem w166_47 : Wp d 166 47 [l0, l1] (.ref a :: st) h Q = gP (h.2 a) 8 17 (fun w => Wp d 166 50 [l0, l1] (w :: st) h Q) := W_get f166_47 rfl
theorem f166_50 : fetch 166 50 = some (.iload_n 1, 1, [], .null) := by decide +kernel
theorem w166_50 : Wp d 166 50 [l0, some (.int x)] st h Q = Wp d 166 51 [l0, some (.int x)] (.int x :: st) h Q := W_go f166_50 rfl
theorem f166_51 : fetch 166 51 = some (.aload_n 0, 1, [], .null) := by decide +kernel
theorem w166_51 : Wp d 166 51 [some (.ref a), l1] st h Q = Wp d 166 52 [some (.ref a), l1] (.ref a :: st) h Q := W_go f166_51 rfl
theorem f166_52 : fetch 166 52 = some (.getfield 36, 3, [10, 11, 6143, 0], .null) := by decide +kernel
theorem w166_52 : Wp d 166 52 [l0, l1] (.ref a :: st) h Q = gP (h.2 a) 10 11 (fun w => Wp d 166 55 [l0, l1] (w :: st) h Q) := W_get f166_52 rfl
theorem f166_55 : fetch 166 55 = some (.getfield 183, 3, [8, 18, 5217, 1], .null) := by decide +kernel
theorem w166_55 : Wp d 166 55 [l0, l1] (.ref a :: st) h Q = gP (h.2 a) 8 18 (fun w => Wp d 166 58 [l0, l1] (w :: st) h Q) := W_get f166_55 rfl
theorem f166_58 : fetch 166 58 = some (.iastore, 1, [], .null) := by decide +kernel
theorem w166_58 : Wp d 166 58 [l0, l1] (.int y :: .int x :: .ref a :: st) h Q = asP false (h.2 a) a x y (fun c => Wp d 166 59 [l0, l1] st (hset h a c) Q) := W_ast f166_58 rfl
theorem f166_59 : fetch 166 59 = some (.aload_n 0, 1, [], .null) := by decide +kernel
theorem w166_59 : Wp d 166 59 [some (.ref a), l1] st h Q = Wp d 166 60 [some (.ref a), l1] (.ref a :: st) h Q := W_go f166_59 rfl
theorem f166_60 : fetch 166 60 = some (.getfield 36, 3, [10, 11, 6143, 0], .null) := by decide +kernel
theorem w166_60 : Wp d 166 60 [l0, l1] (.ref a :: st) h Q = gP (h.2 a) 10 11 (fun w => Wp d 166 63 [l0, l1] (w :: st) h Q) := W_get f166_60 rfl
theorem f166_63 : fetch 166 63 = some (.getfield 156, 3, [8, 14, 5207, 1], .null) := by decide +kernel
theorem w166_63 : Wp d 166 63 [l0, l1] (.ref a :: st) h Q = gP (h.2 a) 8 14 (fun w => Wp d 166 66 [l0, l1] (w :: st) h Q) := W_get f166_63 rfl
theorem f166_66 : fetch 166 66 = some (.iload_n 1, 1, [], .null) := by decide +kernel
theorem w166_66 : Wp d 166 66 [l0, some (.int x)] st h Q = Wp d 166 67 [l0, some (.int x)] (.int x :: st) h Q := W_go f166_66 rfl
theorem f166_67 : fetch 166 67 = some (.aload_n 0, 1, [], .null) := by decide +kernel
theorem w166_67 : Wp d 166 67 [some (.ref a), l1] st h Q = Wp d 166 68 [some (.ref a), l1] (.ref a :: st) h Q := W_go f166_67 rfl
theorem f166_68 : fetch 166 68 = some (.getfield 36, 3, [10, 11, 6143, 0], .null) := by decide +kernel
theorem w166_68 : Wp d 166 68 [l0, l1] (.ref a :: st) h Q = gP (h.2 a) 10 11 (fun w => Wp d 166 71 [l0, l1] (w :: st) h Q) := W_get f166_68 rfl
theorem f166_71 : fetch 166 71 = some (.getfield 128, 3, [8, 6, 5187, 1], .null) := by decide +kernel
theorem w166_71 : Wp d 166 71 [l0, l1] (.ref a :: st) h Q = gP (h.2 a) 8 6 (fun w => Wp d 166 74 [l0, l1] (w :: st) h Q) := W_get f166_71 rfl
theorem f166_74 : fetch 166 74 = some (.iastore, 1, [], .null) := by decide +kernel
theorem w166_74 : Wp d 166 74 [l0, l1] (.int y :: .int x :: .ref a :: st) h Q = asP false (h.2 a) a x y (fun c => Wp d 166 75 [l0, l1] st (hset h a c) Q) := W_ast f166_74 rfl
theorem f166_75 : fetch 166 75 = some (.aload_n 0, 1, [], .null) := by decide +kernel
theorem w166_75 : Wp d 166 75 [some (.ref a), l1] st h Q = Wp d 166 76 [some (.ref a), l1] (.ref a :: st) h Q := W_go f166_75 rfl
theorem f166_76 : fetch 166 76 = some (.invokevirtual 131, 3, [163, 1, 11, 0, 7016, 1013, 7019, 7018, 46], .null) := by decide +kernel
theorem w166_76 (hp : psum st ≤ 8) : Wp d 166 76 [l0, l1] ((.ref b) :: st) h Q = rP (h.2 b) 10 (Cp d 163 [(.ref b)] h (fun o => cK o (fun w h2 => Wp d 166 79 [l0, l1] (w.toList ++ st) h2 Q) (fun E h2 => Q (.inr E, h2)))) := (W_invV (st := st) f166_76 rfl rfl (by simp only [List.length_cons]; omega) rfl rfl hp).trans (by simp only [hm166, if_true])
theorem f166_79 : fetch 166 79 = some (.ifCond .ne 5, 3, [], .null) := by decide +kernel
theorem w166_79 : Wp d 166 79 [l0, l1] (.int x :: st) h Q = if icond .ne x 0 = true then Wp d 166 84 [l0, l1] st h Q else Wp d 166 82 [l0, l1] st h Q := W_if f166_79 rfl
theorem f166_82 : fetch 166 82 = some (.iconst 0, 1, [], .null) := by decide +kernel
theorem w166_82 : Wp d 166 82 [l0, l1] st h Q = Wp d 166 83 [l0, l1] (.int (0 : Int32) :: st) h Q := W_go f166_82 rfl
theorem f166_83 : fetch 166 83 = some (.ireturn, 1, [], .null) := by decide +kernel
theorem w166_83 : Wp d 166 83 [l0, l1] [.int x] h Q = (if narrow .boolean (.int x) = .int x then Q (.inl (some (.int x)), h) else False) := W_zret f166_83 hr166
theorem f166_84 : fetch 166 84 = some (.aload_n 0, 1, [], .null) := by decide +kernel
theorem w166_84 : Wp d 166 84 [some (.ref a), l1] st h Q = Wp d 166 85 [some (.ref a), l1] (.ref a :: st) h Q := W_go f166_84 rfl
theorem f166_85 : fetch 166 85 = some (.bipush 15, 2, [], .null) := by decide +kernel
theorem w166_85 : Wp d 166 85 [l0, l1] st h Q = Wp d 166 87 [l0, l1] (.int (15 : Int32) :: st) h Q := W_go f166_85 rfl
theorem f166_87 : fetch 166 87 = some (.invokevirtual 111, 3, [159, 2, 11, 0, 7008, 1013, 7011, 7010, 44], .null) := by decide +kernel
theorem w166_87 (hp : psum st ≤ 8) : Wp d 166 87 [l0, l1] (v1 :: (.ref b) :: st) h Q = rP (h.2 b) 10 (Cp d 159 [(.ref b), v1] h (fun o => cK o (fun w h2 => Wp d 166 90 [l0, l1] (w.toList ++ st) h2 Q) (fun E h2 => Q (.inr E, h2)))) := (W_invV (st := st) f166_87 rfl rfl (by simp only [List.length_cons]; omega) rfl rfl hp).trans (by simp only [hm166, if_true])
theorem f166_90 : fetch 166 90 = some (.ifCond .ne 5, 3, [], .null) := by decide +kernel
theorem w166_90 : Wp d 166 90 [l0, l1] (.int x :: st) h Q = if icond .ne x 0 = true then Wp d 166 95 [l0, l1] st h Q else Wp d 166 93 [l0, l1] st h Q := W_if f166_90 rfl
theorem f166_93 : fetch 166 93 = some (.iconst 1, 1, [], .null) := by decide +kernel
theorem w166_93 : Wp d 166 93 [l0, l1] st h Q = Wp d 166 94 [l0, l1] (.int (1 : Int32) :: st) h Q := W_go f166_93 rfl
theorem f166_94 : fetch 166 94 = some (.ireturn, 1, [], .null) := by decide +kernel
theorem w166_94 : Wp d 166 94 [l0, l1] [.int x] h Q = (if narrow .boolean (.int x) = .int x then Q (.inl (some (.int x)), h) else False) := W_zret f166_94 hr166
theorem f166_95 : fetch 166 95 = some (.aload_n 0, 1, [], .null) := by decide +kernel
theorem w166_95 : Wp d 166 95 [some (.ref a), l1] st h Q = Wp d 166 96 [some (.ref a), l1] (.ref a :: st) h Q := W_go f166_95 rfl
theorem f166_96 : fetch 166 96 = some (.getfield 36, 3, [10, 11, 6143, 0], .null) := by decide +kernel
theorem w166_96 : Wp d 166 96 [l0, l1] (.ref a :: st) h Q = gP (h.2 a) 10 11 (fun w => Wp d 166 99 [l0, l1] (w :: st) h Q) := W_get f166_96 rfl
theorem f166_99 : fetch 166 99 = some (.getfield 159, 3, [8, 15, 5210, 1], .null) := by decide +kernel
theorem w166_99 : Wp d 166 99 [l0, l1] (.ref a :: st) h Q = gP (h.2 a) 8 15 (fun w => Wp d 166 102 [l0, l1] (w :: st) h Q) := W_get f166_99 rfl
theorem f166_102 : fetch 166 102 = some (.iload_n 1, 1, [], .null) := by decide +kernel
theorem w166_102 : Wp d 166 102 [l0, some (.int x)] st h Q = Wp d 166 103 [l0, some (.int x)] (.int x :: st) h Q := W_go f166_102 rfl
theorem f166_103 : fetch 166 103 = some (.aload_n 0, 1, [], .null) := by decide +kernel
theorem w166_103 : Wp d 166 103 [some (.ref a), l1] st h Q = Wp d 166 104 [some (.ref a), l1] (.ref a :: st) h Q := W_go f166_103 rfl
theorem f166_104 : fetch 166 104 = some (.getfield 36, 3, [10, 11, 6143, 0], .null) := by decide +kernel
theorem w166_104 : Wp d 166 104 [l0, l1] (.ref a :: st) h Q = gP (h.2 a) 10 11 (fun w => Wp d 166 107 [l0, l1] (w :: st) h Q) := W_get f166_104 rfl
theorem f166_107 : fetch 166 107 = some (.getfield 128, 3, [8, 6, 5187, 1], .null) := by decide +kernel
theorem w166_107 : Wp d 166 107 [l0, l1] (.ref a :: st) h Q = gP (h.2 a) 8 6 (fun w => Wp d 166 110 [l0, l1] (w :: st) h Q) := W_get f166_107 rfl
theorem f166_110 : fetch 166 110 = some (.iastore, 1, [], .null) := by decide +kernel
theorem w166_110 : Wp d 166 110 [l0, l1] (.int y :: .int x :: .ref a :: st) h Q = asP false (h.2 a) a x y (fun c => Wp d 166 111 [l0, l1] st (hset h a c) Q) := W_ast f166_110 rfl
theorem f166_111 : fetch 166 111 = some (.aload_n 0, 1, [], .null) := by decide +kernel
theorem w166_111 : Wp d 166 111 [some (.ref a), l1] st h Q = Wp d 166 112 [some (.ref a), l1] (.ref a :: st) h Q := W_go f166_111 rfl
theorem f166_112 : fetch 166 112 = some (.invokevirtual 131, 3, [163, 1, 11, 0, 7016, 1013, 7019, 7018, 46], .null) := by decide +kernel
theorem w166_112 (hp : psum st ≤ 8) : Wp d 166 112 [l0, l1] ((.ref b) :: st) h Q = rP (h.2 b) 10 (Cp d 163 [(.ref b)] h (fun o => cK o (fun w h2 => Wp d 166 115 [l0, l1] (w.toList ++ st) h2 Q) (fun E h2 => Q (.inr E, h2)))) := (W_invV (st := st) f166_112 rfl rfl (by simp only [List.length_cons]; omega) rfl rfl hp).trans (by simp only [hm166, if_true])
theorem f166_115 : fetch 166 115 = some (.ireturn, 1, [], .null) := by decide +kernel
theorem w166_115 : Wp d 166 115 [l0, l1] [.int x] h Q = (if narrow .boolean (.int x) = .int x then Q (.inl (some (.int x)), h) else False) := W_zret f166_115 hr166
theorem hm167 : mhs 167 = [] := by decide +kernel
theorem hr167 : mret 167 = (some .boolean) := by decide +kernel
theorem f167_0 : fetch 167 0 = some (.aload_n 0, 1, [], .null) := by decide +kernel
theorem w167_0 : Wp d 167 0 [some (.ref a), l1, l2, l3] st h Q = Wp d 167 1 [some (.ref a), l1, l2, l3] (.ref a :: st) h Q := W_go f167_0 rfl
theorem f167_1 : fetch 167 1 = some (.getfield 36, 3, [10, 11, 6143, 0], .null) := by decide +kernel
theorem w167_1 : Wp d 167 1 [l0, l1, l2, l3] (.ref a :: st) h Q = gP (h.2 a) 10 11 (fun w => Wp d 167 4 [l0, l1, l2, l3] (w :: st) h Q) := W_get f167_1 rfl
theorem f167_4 : fetch 167 4 = some (.getfield 183, 3, [8, 18, 5217, 1], .null) := by decide +kernel
theorem w167_4 : Wp d 167 4 [l0, l1, l2, l3] (.ref a :: st) h Q = gP (h.2 a) 8 18 (fun w => Wp d 167 7 [l0, l1, l2, l3] (w :: st) h Q) := W_get f167_4 rfl
theorem f167_7 : fetch 167 7 = some (.istore_n 1, 1, [], .null) := by decide +kernel
theorem w167_7 : Wp d 167 7 [l0, l1, l2, l3] (.int x :: st) h Q = Wp d 167 8 [kl l0, some (.int x), l2, l3] st h Q := (W_st1 (pc' := 8) (k := 1) f167_7 rfl rfl (by simp only [List.length_cons, List.length_nil]; omega)).trans (by rw [pst1_succ]; rfl)
theorem f167_8 : fetch 167 8 = some (.aload_n 0, 1, [], .null) := by decide +kernel
theorem w167_8 : Wp d 167 8 [some (.ref a), l1, l2, l3] st h Q = Wp d 167 9 [some (.ref a), l1, l2, l3] (.ref a :: st) h Q := W_go f167_8 rfl
theorem f167_9 : fetch 167 9 = some (.getfield 36, 3, [10, 11, 6143, 0], .null) := by decide +kernel
theorem w167_9 : Wp d 167 9 [l0, l1, l2, l3] (.ref a :: st) h Q = gP (h.2 a) 10 11 (fun w => Wp d 167 12 [l0, l1, l2, l3] (w :: st) h Q) := W_get f167_9 rfl
theorem f167_12 : fetch 167 12 = some (.dup, 1, [], .null) := by decide +kernel
theorem w167_12i : Wp d 167 12 [l0, l1, l2, l3] (.int x :: st) h Q = Wp d 167 13 [l0, l1, l2, l3] (.int x :: .int x :: st) h Q := W_go f167_12 rfl
theorem w167_12 : Wp d 167 12 [l0, l1, l2, l3] (.ref a :: st) h Q = Wp d 167 13 [l0, l1, l2, l3] (.ref a :: .ref a :: st) h Q := W_go f167_12 rfl
theorem f167_13 : fetch 167 13 = some (.getfield 183, 3, [8, 18, 5217, 1], .null) := by decide +kernel
theorem w167_13 : Wp d 167 13 [l0, l1, l2, l3] (.ref a :: st) h Q = gP (h.2 a) 8 18 (fun w => Wp d 167 16 [l0, l1, l2, l3] (w :: st) h Q) := W_get f167_13 rfl
theorem f167_16 : fetch 167 16 = some (.iconst 1, 1, [], .null) := by decide +kernel
theorem w167_16 : Wp d 167 16 [l0, l1, l2, l3] st h Q = Wp d 167 17 [l0, l1, l2, l3] (.int (1 : Int32) :: st) h Q := W_go f167_16 rfl
theorem f167_17 : fetch 167 17 = some (.iadd, 1, [], .null) := by decide +kernel
theorem w167_17 : Wp d 167 17 [l0, l1, l2, l3] (.int y :: .int x :: st) h Q = Wp d 167 18 [l0, l1, l2, l3] (.int (x + y) :: st) h Q := W_go f167_17 rfl
theorem f167_18 : fetch 167 18 = some (.putfield 183, 3, [8, 18, 5217, 1], .null) := by decide +kernel
theorem w167_18 : Wp d 167 18 [l0, l1, l2, l3] (v :: .ref a :: st) h Q = pP (h.2 a) 8 18 (ftOf 8 18) v a (fun c => Wp d 167 21 [l0, l1, l2, l3] st (hset h a c) Q) := W_put f167_18 (by rfl)
theorem f167_21 : fetch 167 21 = some (.aload_n 0, 1, [], .null) := by decide +kernel
theorem w167_21 : Wp d 167 21 [some (.ref a), l1, l2, l3] st h Q = Wp d 167 22 [some (.ref a), l1, l2, l3] (.ref a :: st) h Q := W_go f167_21 rfl
theorem f167_22 : fetch 167 22 = some (.getfield 105, 3, [10, 8, 6139, 0], .null) := by decide +kernel
theorem w167_22 : Wp d 167 22 [l0, l1, l2, l3] (.ref a :: st) h Q = gP (h.2 a) 10 8 (fun w => Wp d 167 25 [l0, l1, l2, l3] (w :: st) h Q) := W_get f167_22 rfl
theorem f167_25 : fetch 167 25 = some (.istore_n 2, 1, [], .null) := by decide +kernel
theorem w167_25 : Wp d 167 25 [l0, l1, l2, l3] (.int x :: st) h Q = Wp d 167 26 [l0, kl l1, some (.int x), l3] st h Q := (W_st1 (pc' := 26) (k := 2) f167_25 rfl rfl (by simp only [List.length_cons, List.length_nil]; omega)).trans (by rw [pst1_succ]; rfl)
theorem f167_26 : fetch 167 26 = some (.aload_n 0, 1, [], .null) := by decide +kernel
theorem w167_26 : Wp d 167 26 [some (.ref a), l1, l2, l3] st h Q = Wp d 167 27 [some (.ref a), l1, l2, l3] (.ref a :: st) h Q := W_go f167_26 rfl
theorem f167_27 : fetch 167 27 = some (.invokevirtual 168, 3, [168, 1, 11, 0, 7036, 1013, 7039, 7038, 51], .null) := by decide +kernel
theorem w167_27 (hp : psum st ≤ 8) : Wp d 167 27 [l0, l1, l2, l3] ((.ref b) :: st) h Q = rP (h.2 b) 10 (Cp d 168 [(.ref b)] h (fun o => cK o (fun w h2 => Wp d 167 30 [l0, l1, l2, l3] (w.toList ++ st) h2 Q) (fun E h2 => Q (.inr E, h2)))) := (W_invV (st := st) f167_27 rfl rfl (by simp only [List.length_cons]; omega) rfl rfl hp).trans (by simp only [hm167, if_true])
theorem f167_30 : fetch 167 30 = some (.ifCond .ne 5, 3, [], .null) := by decide +kernel
theorem w167_30 : Wp d 167 30 [l0, l1, l2, l3] (.int x :: st) h Q = if icond .ne x 0 = true then Wp d 167 35 [l0, l1, l2, l3] st h Q else Wp d 167 33 [l0, l1, l2, l3] st h Q := W_if f167_30 rfl
theorem f167_33 : fetch 167 33 = some (.iconst 0, 1, [], .null) := by decide +kernel
theorem w167_33 : Wp d 167 33 [l0, l1, l2, l3] st h Q = Wp d 167 34 [l0, l1, l2, l3] (.int (0 : Int32) :: st) h Q := W_go f167_33 rfl
theorem f167_34 : fetch 167 34 = some (.ireturn, 1, [], .null) := by decide +kernel
theorem w167_34 : Wp d 167 34 [l0, l1, l2, l3] [.int x] h Q = (if narrow .boolean (.int x) = .int x then Q (.inl (some (.int x)), h) else False) := W_zret f167_34 hr167
theorem f167_35 : fetch 167 35 = some (.aload_n 0, 1, [], .null) := by decide +kernel
theorem w167_35 : Wp d 167 35 [some (.ref a), l1, l2, l3] st h Q = Wp d 167 36 [some (.ref a), l1, l2, l3] (.ref a :: st) h Q := W_go f167_35 rfl
theorem f167_36 : fetch 167 36 = some (.bipush 60, 2, [], .null) := by decide +kernel
theorem w167_36 : Wp d 167 36 [l0, l1, l2, l3] st h Q = Wp d 167 38 [l0, l1, l2, l3] (.int (60 : Int32) :: st) h Q := W_go f167_36 rfl
theorem f167_38 : fetch 167 38 = some (.invokevirtual 135, 3, [158, 2, 11, 0, 7020, 1013, 7023, 7022, 47], .null) := by decide +kernel
theorem w167_38 (hp : psum st ≤ 8) : Wp d 167 38 [l0, l1, l2, l3] (v1 :: (.ref b) :: st) h Q = rP (h.2 b) 10 (Cp d 158 [(.ref b), v1] h (fun o => cK o (fun w h2 => Wp d 167 41 [l0, l1, l2, l3] (w.toList ++ st) h2 Q) (fun E h2 => Q (.inr E, h2)))) := (W_invV (st := st) f167_38 rfl rfl (by simp only [List.length_cons]; omega) rfl rfl hp).trans (by simp only [hm167, if_true])
theorem f167_41 : fetch 167 41 = some (.ifCond .ne 23, 3, [], .null) := by decide +kernel
theorem w167_41 : Wp d 167 41 [l0, l1, l2, l3] (.int x :: st) h Q = if icond .ne x 0 = true then Wp d 167 64 [l0, l1, l2, l3] st h Q else Wp d 167 44 [l0, l1, l2, l3] st h Q := W_if f167_41 rfl
theorem f167_44 : fetch 167 44 = some (.aload_n 0, 1, [], .null) := by decide +kernel
theorem w167_44 : Wp d 167 44 [some (.ref a), l1, l2, l3] st h Q = Wp d 167 45 [some (.ref a), l1, l2, l3] (.ref a :: st) h Q := W_go f167_44 rfl
theorem f167_45 : fetch 167 45 = some (.bipush 62, 2, [], .null) := by decide +kernel
theorem w167_45 : Wp d 167 45 [l0, l1, l2, l3] st h Q = Wp d 167 47 [l0, l1, l2, l3] (.int (62 : Int32) :: st) h Q := W_go f167_45 rfl
theorem f167_47 : fetch 167 47 = some (.invokevirtual 135, 3, [158, 2, 11, 0, 7020, 1013, 7023, 7022, 47], .null) := by decide +kernel
theorem w167_47 (hp : psum st ≤ 8) : Wp d 167 47 [l0, l1, l2, l3] (v1 :: (.ref b) :: st) h Q = rP (h.2 b) 10 (Cp d 158 [(.ref b), v1] h (fun o => cK o (fun w h2 => Wp d 167 50 [l0, l1, l2, l3] (w.toList ++ st) h2 Q) (fun E h2 => Q (.inr E, h2)))) := (W_invV (st := st) f167_47 rfl rfl (by simp only [List.length_cons]; omega) rfl rfl hp).trans (by simp only [hm167, if_true])
theorem f167_50 : fetch 167 50 = some (.ifCond .ne 14, 3, [], .null) := by decide +kernel
theorem w167_50 : Wp d 167 50 [l0, l1, l2, l3] (.int x :: st) h Q = if icond .ne x 0 = true then Wp d 167 64 [l0, l1, l2, l3] st h Q else Wp d 167 53 [l0, l1, l2, l3] st h Q := W_if f167_50 rfl
theorem f167_53 : fetch 167 53 = some (.aload_n 0, 1, [], .null) := by decide +kernel
theorem w167_53 : Wp d 167 53 [some (.ref a), l1, l2, l3] st h Q = Wp d 167 54 [some (.ref a), l1, l2, l3] (.ref a :: st) h Q := W_go f167_53 rfl
theorem f167_54 : fetch 167 54 = some (.bipush 61, 2, [], .null) := by decide +kernel
theorem w167_54 : Wp d 167 54 [l0, l1, l2, l3] st h Q = Wp d 167 56 [l0, l1, l2, l3] (.int (61 : Int32) :: st) h Q := W_go f167_54 rfl
theorem f167_56 : fetch 167 56 = some (.invokevirtual 135, 3, [158, 2, 11, 0, 7020, 1013, 7023, 7022, 47], .null) := by decide +kernel
theorem w167_56 (hp : psum st ≤ 8) : Wp d 167 56 [l0, l1, l2, l3] (v1 :: (.ref b) :: st) h Q = rP (h.2 b) 10 (Cp d 158 [(.ref b), v1] h (fun o => cK o (fun w h2 => Wp d 167 59 [l0, l1, l2, l3] (w.toList ++ st) h2 Q) (fun E h2 => Q (.inr E, h2)))) := (W_invV (st := st) f167_56 rfl rfl (by simp only [List.length_cons]; omega) rfl rfl hp).trans (by simp only [hm167, if_true])
theorem f167_59 : fetch 167 59 = some (.ifCond .ne 5, 3, [], .null) := by decide +kernel
theorem w167_59 : Wp d 167 59 [l0, l1, l2, l3] (.int x :: st) h Q = if icond .ne x 0 = true then Wp d 167 64 [l0, l1, l2, l3] st h Q else Wp d 167 62 [l0, l1, l2, l3] st h Q := W_if f167_59 rfl
theorem f167_62 : fetch 167 62 = some (.iconst 0, 1, [], .null) := by decide +kernel
theorem w167_62 : Wp d 167 62 [l0, l1, l2, l3] st h Q = Wp d 167 63 [l0, l1, l2, l3] (.int (0 : Int32) :: st) h Q := W_go f167_62 rfl
theorem f167_63 : fetch 167 63 = some (.ireturn, 1, [], .null) := by decide +kernel
theorem w167_63 : Wp d 167 63 [l0, l1, l2, l3] [.int x] h Q = (if narrow .boolean (.int x) = .int x then Q (.inl (some (.int x)), h) else False) := W_zret f167_63 hr167
theorem f167_64 : fetch 167 64 = some (.aload_n 0, 1, [], .null) := by decide +kernel
theorem w167_64 : Wp d 167 64 [some (.ref a), l1, l2, l3] st h Q = Wp d 167 65 [some (.ref a), l1, l2, l3] (.ref a :: st) h Q := W_go f167_64 rfl
theorem f167_65 : fetch 167 65 = some (.getfield 36, 3, [10, 11, 6143, 0], .null) := by decide +kernel
theorem w167_65 : Wp d 167 65 [l0, l1, l2, l3] (.ref a :: st) h Q = gP (h.2 a) 10 11 (fun w => Wp d 167 68 [l0, l1, l2, l3] (w :: st) h Q) := W_get f167_65 rfl
theorem f167_68 : fetch 167 68 = some (.getfield 192, 3, [8, 20, 5223, 1], .null) := by decide +kernel
theorem w167_68 : Wp d 167 68 [l0, l1, l2, l3] (.ref a :: st) h Q = gP (h.2 a) 8 20 (fun w => Wp d 167 71 [l0, l1, l2, l3] (w :: st) h Q) := W_get f167_68 rfl
theorem f167_71 : fetch 167 71 = some (.iload_n 1, 1, [], .null) := by decide +kernel
theorem w167_71 : Wp d 167 71 [l0, some (.int x), l2, l3] st h Q = Wp d 167 72 [l0, some (.int x), l2, l3] (.int x :: st) h Q := W_go f167_71 rfl
theorem f167_72 : fetch 167 72 = some (.aload_n 0, 1, [], .null) := by decide +kernel
theorem w167_72 : Wp d 167 72 [some (.ref a), l1, l2, l3] st h Q = Wp d 167 73 [some (.ref a), l1, l2, l3] (.ref a :: st) h Q := W_go f167_72 rfl
theorem f167_73 : fetch 167 73 = some (.getfield 17, 3, [10, 4, 6135, 0], .null) := by decide +kernel
theorem w167_73 : Wp d 167 73 [l0, l1, l2, l3] (.ref a :: st) h Q = gP (h.2 a) 10 4 (fun w => Wp d 167 76 [l0, l1, l2, l3] (w :: st) h Q) := W_get f167_73 rfl
theorem f167_76 : fetch 167 76 = some (.aload_n 0, 1, [], .null) := by decide +kernel
theorem w167_76 : Wp d 167 76 [some (.ref a), l1, l2, l3] st h Q = Wp d 167 77 [some (.ref a), l1, l2, l3] (.ref a :: st) h Q := W_go f167_76 rfl
theorem f167_77 : fetch 167 77 = some (.getfield 105, 3, [10, 8, 6139, 0], .null) := by decide +kernel
theorem w167_77 : Wp d 167 77 [l0, l1, l2, l3] (.ref a :: st) h Q = gP (h.2 a) 10 8 (fun w => Wp d 167 80 [l0, l1, l2, l3] (w :: st) h Q) := W_get f167_77 rfl
theorem f167_80 : fetch 167 80 = some (.iaload, 1, [], .null) := by decide +kernel
theorem w167_80 : Wp d 167 80 [l0, l1, l2, l3] (.int x :: .ref a :: st) h Q = aP false (h.2 a) x (fun w => Wp d 167 81 [l0, l1, l2, l3] (.int w :: st) h Q) := W_ald f167_80 rfl
theorem f167_81 : fetch 167 81 = some (.bipush 50, 2, [], .null) := by decide +kernel
theorem w167_81 : Wp d 167 81 [l0, l1, l2, l3] st h Q = Wp d 167 83 [l0, l1, l2, l3] (.int (50 : Int32) :: st) h Q := W_go f167_81 rfl
theorem f167_83 : fetch 167 83 = some (.isub, 1, [], .null) := by decide +kernel
theorem w167_83 : Wp d 167 83 [l0, l1, l2, l3] (.int y :: .int x :: st) h Q = Wp d 167 84 [l0, l1, l2, l3] (.int (x - y) :: st) h Q := W_go f167_83 rfl
theorem f167_84 : fetch 167 84 = some (.iastore, 1, [], .null) := by decide +kernel
theorem w167_84 : Wp d 167 84 [l0, l1, l2, l3] (.int y :: .int x :: .ref a :: st) h Q = asP false (h.2 a) a x y (fun c => Wp d 167 85 [l0, l1, l2, l3] st (hset h a c) Q) := W_ast f167_84 rfl
theorem f167_85 : fetch 167 85 = some (.aload_n 0, 1, [], .null) := by decide +kernel
theorem w167_85 : Wp d 167 85 [some (.ref a), l1, l2, l3] st h Q = Wp d 167 86 [some (.ref a), l1, l2, l3] (.ref a :: st) h Q := W_go f167_85 rfl
theorem f167_86 : fetch 167 86 = some (.dup, 1, [], .null) := by decide +kernel
theorem w167_86i : Wp d 167 86 [l0, l1, l2, l3] (.int x :: st) h Q = Wp d 167 87 [l0, l1, l2, l3] (.int x :: .int x :: st) h Q := W_go f167_86 rfl
theorem w167_86 : Wp d 167 86 [l0, l1, l2, l3] (.ref a :: st) h Q = Wp d 167 87 [l0, l1, l2, l3] (.ref a :: .ref a :: st) h Q := W_go f167_86 rfl
theorem f167_87 : fetch 167 87 = some (.getfield 105, 3, [10, 8, 6139, 0], .null) := by decide +kernel
theorem w167_87 : Wp d 167 87 [l0, l1, l2, l3] (.ref a :: st) h Q = gP (h.2 a) 10 8 (fun w => Wp d 167 90 [l0, l1, l2, l3] (w :: st) h Q) := W_get f167_87 rfl
theorem f167_90 : fetch 167 90 = some (.iconst 1, 1, [], .null) := by decide +kernel
theorem w167_90 : Wp d 167 90 [l0, l1, l2, l3] st h Q = Wp d 167 91 [l0, l1, l2, l3] (.int (1 : Int32) :: st) h Q := W_go f167_90 rfl
theorem f167_91 : fetch 167 91 = some (.iadd, 1, [], .null) := by decide +kernel
theorem w167_91 : Wp d 167 91 [l0, l1, l2, l3] (.int y :: .int x :: st) h Q = Wp d 167 92 [l0, l1, l2, l3] (.int (x + y) :: st) h Q := W_go f167_91 rfl
theorem f167_92 : fetch 167 92 = some (.putfield 105, 3, [10, 8, 6139, 0], .null) := by decide +kernel
theorem w167_92 : Wp d 167 92 [l0, l1, l2, l3] (v :: .ref a :: st) h Q = pP (h.2 a) 10 8 (ftOf 10 8) v a (fun c => Wp d 167 95 [l0, l1, l2, l3] st (hset h a c) Q) := W_put f167_92 (by rfl)
theorem f167_95 : fetch 167 95 = some (.aload_n 0, 1, [], .null) := by decide +kernel
theorem w167_95 : Wp d 167 95 [some (.ref a), l1, l2, l3] st h Q = Wp d 167 96 [some (.ref a), l1, l2, l3] (.ref a :: st) h Q := W_go f167_95 rfl
theorem f167_96 : fetch 167 96 = some (.getfield 105, 3, [10, 8, 6139, 0], .null) := by decide +kernel
theorem w167_96 : Wp d 167 96 [l0, l1, l2, l3] (.ref a :: st) h Q = gP (h.2 a) 10 8 (fun w => Wp d 167 99 [l0, l1, l2, l3] (w :: st) h Q) := W_get f167_96 rfl
theorem f167_99 : fetch 167 99 = some (.istore_n 3, 1, [], .null) := by decide +kernel
theorem w167_99 : Wp d 167 99 [l0, l1, l2, l3] (.int x :: st) h Q = Wp d 167 100 [l0, l1, kl l2, some (.int x)] st h Q := (W_st1 (pc' := 100) (k := 3) f167_99 rfl rfl (by simp only [List.length_cons, List.length_nil]; omega)).trans (by rw [pst1_succ]; rfl)
theorem f167_100 : fetch 167 100 = some (.aload_n 0, 1, [], .null) := by decide +kernel
theorem w167_100 : Wp d 167 100 [some (.ref a), l1, l2, l3] st h Q = Wp d 167 101 [some (.ref a), l1, l2, l3] (.ref a :: st) h Q := W_go f167_100 rfl
theorem f167_101 : fetch 167 101 = some (.invokevirtual 168, 3, [168, 1, 11, 0, 7036, 1013, 7039, 7038, 51], .null) := by decide +kernel
theorem w167_101 (hp : psum st ≤ 8) : Wp d 167 101 [l0, l1, l2, l3] ((.ref b) :: st) h Q = rP (h.2 b) 10 (Cp d 168 [(.ref b)] h (fun o => cK o (fun w h2 => Wp d 167 104 [l0, l1, l2, l3] (w.toList ++ st) h2 Q) (fun E h2 => Q (.inr E, h2)))) := (W_invV (st := st) f167_101 rfl rfl (by simp only [List.length_cons]; omega) rfl rfl hp).trans (by simp only [hm167, if_true])
theorem f167_104 : fetch 167 104 = some (.ifCond .ne 5, 3, [], .null) := by decide +kernel
theorem w167_104 : Wp d 167 104 [l0, l1, l2, l3] (.int x :: st) h Q = if icond .ne x 0 = true then Wp d 167 109 [l0, l1, l2, l3] st h Q else Wp d 167 107 [l0, l1, l2, l3] st h Q := W_if f167_104 rfl
theorem f167_107 : fetch 167 107 = some (.iconst 0, 1, [], .null) := by decide +kernel
theorem w167_107 : Wp d 167 107 [l0, l1, l2, l3] st h Q = Wp d 167 108 [l0, l1, l2, l3] (.int (0 : Int32) :: st) h Q := W_go f167_107 rfl
theorem f167_108 : fetch 167 108 = some (.ireturn, 1, [], .null) := by decide +kernel
theorem w167_108 : Wp d 167 108 [l0, l1, l2, l3] [.int x] h Q = (if narrow .boolean (.int x) = .int x then Q (.inl (some (.int x)), h) else False) := W_zret f167_108 hr167
theorem f167_109 : fetch 167 109 = some (.aload_n 0, 1, [], .null) := by decide +kernel
theorem w167_109 : Wp d 167 109 [some (.ref a), l1, l2, l3] st h Q = Wp d 167 110 [some (.ref a), l1, l2, l3] (.ref a :: st) h Q := W_go f167_109 rfl
theorem f167_110 : fetch 167 110 = some (.getfield 36, 3, [10, 11, 6143, 0], .null) := by decide +kernel
theorem w167_110 : Wp d 167 110 [l0, l1, l2, l3] (.ref a :: st) h Q = gP (h.2 a) 10 11 (fun w => Wp d 167 113 [l0, l1, l2, l3] (w :: st) h Q) := W_get f167_110 rfl
theorem f167_113 : fetch 167 113 = some (.getfield 195, 3, [8, 19, 5220, 1], .null) := by decide +kernel
theorem w167_113 : Wp d 167 113 [l0, l1, l2, l3] (.ref a :: st) h Q = gP (h.2 a) 8 19 (fun w => Wp d 167 116 [l0, l1, l2, l3] (w :: st) h Q) := W_get f167_113 rfl
theorem f167_116 : fetch 167 116 = some (.iload_n 1, 1, [], .null) := by decide +kernel
theorem w167_116 : Wp d 167 116 [l0, some (.int x), l2, l3] st h Q = Wp d 167 117 [l0, some (.int x), l2, l3] (.int x :: st) h Q := W_go f167_116 rfl
theorem f167_117 : fetch 167 117 = some (.aload_n 0, 1, [], .null) := by decide +kernel
theorem w167_117 : Wp d 167 117 [some (.ref a), l1, l2, l3] st h Q = Wp d 167 118 [some (.ref a), l1, l2, l3] (.ref a :: st) h Q := W_go f167_117 rfl
theorem f167_118 : fetch 167 118 = some (.iload_n 2, 1, [], .null) := by decide +kernel
theorem w167_118 : Wp d 167 118 [l0, l1, some (.int x), l3] st h Q = Wp d 167 119 [l0, l1, some (.int x), l3] (.int x :: st) h Q := W_go f167_118 rfl
theorem f167_119 : fetch 167 119 = some (.invokevirtual 174, 3, [169, 2, 11, 0, 7040, 1013, 7043, 7042, 52], .null) := by decide +kernel
theorem w167_119 (hp : psum st ≤ 8) : Wp d 167 119 [l0, l1, l2, l3] (v1 :: (.ref b) :: st) h Q = rP (h.2 b) 10 (Cp d 169 [(.ref b), v1] h (fun o => cK o (fun w h2 => Wp d 167 122 [l0, l1, l2, l3] (w.toList ++ st) h2 Q) (fun E h2 => Q (.inr E, h2)))) := (W_invV (st := st) f167_119 rfl rfl (by simp only [List.length_cons]; omega) rfl rfl hp).trans (by simp only [hm167, if_true])
theorem f167_122 : fetch 167 122 = some (.iastore, 1, [], .null) := by decide +kernel
theorem w167_122 : Wp d 167 122 [l0, l1, l2, l3] (.int y :: .int x :: .ref a :: st) h Q = asP false (h.2 a) a x y (fun c => Wp d 167 123 [l0, l1, l2, l3] st (hset h a c) Q) := W_ast f167_122 rfl
theorem f167_123 : fetch 167 123 = some (.aload_n 0, 1, [], .null) := by decide +kernel
theorem w167_123 : Wp d 167 123 [some (.ref a), l1, l2, l3] st h Q = Wp d 167 124 [some (.ref a), l1, l2, l3] (.ref a :: st) h Q := W_go f167_123 rfl
theorem f167_124 : fetch 167 124 = some (.getfield 36, 3, [10, 11, 6143, 0], .null) := by decide +kernel
theorem w167_124 : Wp d 167 124 [l0, l1, l2, l3] (.ref a :: st) h Q = gP (h.2 a) 10 11 (fun w => Wp d 167 127 [l0, l1, l2, l3] (w :: st) h Q) := W_get f167_124 rfl
theorem f167_127 : fetch 167 127 = some (.getfield 198, 3, [8, 21, 5226, 1], .null) := by decide +kernel
theorem w167_127 : Wp d 167 127 [l0, l1, l2, l3] (.ref a :: st) h Q = gP (h.2 a) 8 21 (fun w => Wp d 167 130 [l0, l1, l2, l3] (w :: st) h Q) := W_get f167_127 rfl
theorem f167_130 : fetch 167 130 = some (.iload_n 1, 1, [], .null) := by decide +kernel
theorem w167_130 : Wp d 167 130 [l0, some (.int x), l2, l3] st h Q = Wp d 167 131 [l0, some (.int x), l2, l3] (.int x :: st) h Q := W_go f167_130 rfl
theorem f167_131 : fetch 167 131 = some (.aload_n 0, 1, [], .null) := by decide +kernel
theorem w167_131 : Wp d 167 131 [some (.ref a), l1, l2, l3] st h Q = Wp d 167 132 [some (.ref a), l1, l2, l3] (.ref a :: st) h Q := W_go f167_131 rfl
theorem f167_132 : fetch 167 132 = some (.iload_n 3, 1, [], .null) := by decide +kernel
theorem w167_132 : Wp d 167 132 [l0, l1, l2, some (.int x)] st h Q = Wp d 167 133 [l0, l1, l2, some (.int x)] (.int x :: st) h Q := W_go f167_132 rfl
theorem f167_133 : fetch 167 133 = some (.invokevirtual 174, 3, [169, 2, 11, 0, 7040, 1013, 7043, 7042, 52], .null) := by decide +kernel
theorem w167_133 (hp : psum st ≤ 8) : Wp d 167 133 [l0, l1, l2, l3] (v1 :: (.ref b) :: st) h Q = rP (h.2 b) 10 (Cp d 169 [(.ref b), v1] h (fun o => cK o (fun w h2 => Wp d 167 136 [l0, l1, l2, l3] (w.toList ++ st) h2 Q) (fun E h2 => Q (.inr E, h2)))) := (W_invV (st := st) f167_133 rfl rfl (by simp only [List.length_cons]; omega) rfl rfl hp).trans (by simp only [hm167, if_true])
theorem f167_136 : fetch 167 136 = some (.iastore, 1, [], .null) := by decide +kernel
theorem w167_136 : Wp d 167 136 [l0, l1, l2, l3] (.int y :: .int x :: .ref a :: st) h Q = asP false (h.2 a) a x y (fun c => Wp d 167 137 [l0, l1, l2, l3] st (hset h a c) Q) := W_ast f167_136 rfl
theorem f167_137 : fetch 167 137 = some (.iconst 1, 1, [], .null) := by decide +kernel
theorem w167_137 : Wp d 167 137 [l0, l1, l2, l3] st h Q = Wp d 167 138 [l0, l1, l2, l3] (.int (1 : Int32) :: st) h Q := W_go f167_137 rfl
theorem f167_138 : fetch 167 138 = some (.ireturn, 1, [], .null) := by decide +kernel
theorem w167_138 : Wp d 167 138 [l0, l1, l2, l3] [.int x] h Q = (if narrow .boolean (.int x) = .int x then Q (.inl (some (.int x)), h) else False) := W_zret f167_138 hr167
theorem hm168 : mhs 168 = [] := by decide +kernel
theorem hr168 : mret 168 = (some .boolean) := by decide +kernel
theorem f168_0 : fetch 168 0 = some (.aload_n 0, 1, [], .null) := by decide +kernel
theorem w168_0 : Wp d 168 0 [some (.ref a)] st h Q = Wp d 168 1 [some (.ref a)] (.ref a :: st) h Q := W_go f168_0 rfl
theorem f168_1 : fetch 168 1 = some (.bipush 41, 2, [], .null) := by decide +kernel
theorem w168_1 : Wp d 168 1 [l0] st h Q = Wp d 168 3 [l0] (.int (41 : Int32) :: st) h Q := W_go f168_1 rfl
theorem f168_3 : fetch 168 3 = some (.invokevirtual 108, 3, [157, 2, 11, 0, 7000, 1013, 7003, 7002, 42], .null) := by decide +kernel
theorem w168_3 (hp : psum st ≤ 8) : Wp d 168 3 [l0] (v1 :: (.ref b) :: st) h Q = rP (h.2 b) 10 (Cp d 157 [(.ref b), v1] h (fun o => cK o (fun w h2 => Wp d 168 6 [l0] (w.toList ++ st) h2 Q) (fun E h2 => Q (.inr E, h2)))) := (W_invV (st := st) f168_3 rfl rfl (by simp only [List.length_cons]; omega) rfl rfl hp).trans (by simp only [hm168, if_true])
theorem f168_6 : fetch 168 6 = some (.ifCond .eq 12, 3, [], .null) := by decide +kernel
theorem w168_6 : Wp d 168 6 [l0] (.int x :: st) h Q = if icond .eq x 0 = true then Wp d 168 18 [l0] st h Q else Wp d 168 9 [l0] st h Q := W_if f168_6 rfl
theorem f168_9 : fetch 168 9 = some (.aload_n 0, 1, [], .null) := by decide +kernel
theorem w168_9 : Wp d 168 9 [some (.ref a)] st h Q = Wp d 168 10 [some (.ref a)] (.ref a :: st) h Q := W_go f168_9 rfl
theorem f168_10 : fetch 168 10 = some (.bipush 41, 2, [], .null) := by decide +kernel
theorem w168_10 : Wp d 168 10 [l0] st h Q = Wp d 168 12 [l0] (.int (41 : Int32) :: st) h Q := W_go f168_10 rfl
theorem f168_12 : fetch 168 12 = some (.bipush 8, 2, [], .null) := by decide +kernel
theorem w168_12 : Wp d 168 12 [l0] st h Q = Wp d 168 14 [l0] (.int (8 : Int32) :: st) h Q := W_go f168_12 rfl
theorem f168_14 : fetch 168 14 = some (.invokevirtual 114, 3, [161, 3, 11, 0, 7004, 1013, 7007, 7006, 43], .null) := by decide +kernel
theorem w168_14 (hp : psum st ≤ 8) : Wp d 168 14 [l0] (v2 :: v1 :: (.ref b) :: st) h Q = rP (h.2 b) 10 (Cp d 161 [(.ref b), v1, v2] h (fun o => cK o (fun w h2 => Wp d 168 17 [l0] (w.toList ++ st) h2 Q) (fun E h2 => Q (.inr E, h2)))) := (W_invV (st := st) f168_14 rfl rfl (by simp only [List.length_cons]; omega) rfl rfl hp).trans (by simp only [hm168, if_true])
theorem f168_17 : fetch 168 17 = some (.ireturn, 1, [], .null) := by decide +kernel
theorem w168_17 : Wp d 168 17 [l0] [.int x] h Q = (if narrow .boolean (.int x) = .int x then Q (.inl (some (.int x)), h) else False) := W_zret f168_17 hr168
theorem f168_18 : fetch 168 18 = some (.aload_n 0, 1, [], .null) := by decide +kernel
theorem w168_18 : Wp d 168 18 [some (.ref a)] st h Q = Wp d 168 19 [some (.ref a)] (.ref a :: st) h Q := W_go f168_18 rfl
theorem f168_19 : fetch 168 19 = some (.getfield 17, 3, [10, 4, 6135, 0], .null) := by decide +kernel
theorem w168_19 : Wp d 168 19 [l0] (.ref a :: st) h Q = gP (h.2 a) 10 4 (fun w => Wp d 168 22 [l0] (w :: st) h Q) := W_get f168_19 rfl
theorem f168_22 : fetch 168 22 = some (.aload_n 0, 1, [], .null) := by decide +kernel
theorem w168_22 : Wp d 168 22 [some (.ref a)] st h Q = Wp d 168 23 [some (.ref a)] (.ref a :: st) h Q := W_go f168_22 rfl
theorem f168_23 : fetch 168 23 = some (.getfield 105, 3, [10, 8, 6139, 0], .null) := by decide +kernel
theorem w168_23 : Wp d 168 23 [l0] (.ref a :: st) h Q = gP (h.2 a) 10 8 (fun w => Wp d 168 26 [l0] (w :: st) h Q) := W_get f168_23 rfl
theorem f168_26 : fetch 168 26 = some (.iaload, 1, [], .null) := by decide +kernel
theorem w168_26 : Wp d 168 26 [l0] (.int x :: .ref a :: st) h Q = aP false (h.2 a) x (fun w => Wp d 168 27 [l0] (.int w :: st) h Q) := W_ald f168_26 rfl
theorem f168_27 : fetch 168 27 = some (.bipush 16, 2, [], .null) := by decide +kernel
theorem w168_27 : Wp d 168 27 [l0] st h Q = Wp d 168 29 [l0] (.int (16 : Int32) :: st) h Q := W_go f168_27 rfl
theorem f168_29 : fetch 168 29 = some (.if_icmp .lt 37, 3, [], .null) := by decide +kernel
theorem w168_29 : Wp d 168 29 [l0] (.int y :: .int x :: st) h Q = if icond .lt x y = true then Wp d 168 66 [l0] st h Q else Wp d 168 32 [l0] st h Q := W_if f168_29 rfl
theorem f168_32 : fetch 168 32 = some (.aload_n 0, 1, [], .null) := by decide +kernel
theorem w168_32 : Wp d 168 32 [some (.ref a)] st h Q = Wp d 168 33 [some (.ref a)] (.ref a :: st) h Q := W_go f168_32 rfl
theorem f168_33 : fetch 168 33 = some (.getfield 17, 3, [10, 4, 6135, 0], .null) := by decide +kernel
theorem w168_33 : Wp d 168 33 [l0] (.ref a :: st) h Q = gP (h.2 a) 10 4 (fun w => Wp d 168 36 [l0] (w :: st) h Q) := W_get f168_33 rfl
theorem f168_36 : fetch 168 36 = some (.aload_n 0, 1, [], .null) := by decide +kernel
theorem w168_36 : Wp d 168 36 [some (.ref a)] st h Q = Wp d 168 37 [some (.ref a)] (.ref a :: st) h Q := W_go f168_36 rfl
theorem f168_37 : fetch 168 37 = some (.getfield 105, 3, [10, 8, 6139, 0], .null) := by decide +kernel
theorem w168_37 : Wp d 168 37 [l0] (.ref a :: st) h Q = gP (h.2 a) 10 8 (fun w => Wp d 168 40 [l0] (w :: st) h Q) := W_get f168_37 rfl
theorem f168_40 : fetch 168 40 = some (.iaload, 1, [], .null) := by decide +kernel
theorem w168_40 : Wp d 168 40 [l0] (.int x :: .ref a :: st) h Q = aP false (h.2 a) x (fun w => Wp d 168 41 [l0] (.int w :: st) h Q) := W_ald f168_40 rfl
theorem f168_41 : fetch 168 41 = some (.bipush 22, 2, [], .null) := by decide +kernel
theorem w168_41 : Wp d 168 41 [l0] st h Q = Wp d 168 43 [l0] (.int (22 : Int32) :: st) h Q := W_go f168_41 rfl
theorem f168_43 : fetch 168 43 = some (.if_icmp .gt 23, 3, [], .null) := by decide +kernel
theorem w168_43 : Wp d 168 43 [l0] (.int y :: .int x :: st) h Q = if icond .gt x y = true then Wp d 168 66 [l0] st h Q else Wp d 168 46 [l0] st h Q := W_if f168_43 rfl
theorem f168_46 : fetch 168 46 = some (.aload_n 0, 1, [], .null) := by decide +kernel
theorem w168_46 : Wp d 168 46 [some (.ref a)] st h Q = Wp d 168 47 [some (.ref a)] (.ref a :: st) h Q := W_go f168_46 rfl
theorem f168_47 : fetch 168 47 = some (.aload_n 0, 1, [], .null) := by decide +kernel
theorem w168_47 : Wp d 168 47 [some (.ref a)] st h Q = Wp d 168 48 [some (.ref a)] (.ref a :: st) h Q := W_go f168_47 rfl
theorem f168_48 : fetch 168 48 = some (.getfield 17, 3, [10, 4, 6135, 0], .null) := by decide +kernel
theorem w168_48 : Wp d 168 48 [l0] (.ref a :: st) h Q = gP (h.2 a) 10 4 (fun w => Wp d 168 51 [l0] (w :: st) h Q) := W_get f168_48 rfl
theorem f168_51 : fetch 168 51 = some (.aload_n 0, 1, [], .null) := by decide +kernel
theorem w168_51 : Wp d 168 51 [some (.ref a)] st h Q = Wp d 168 52 [some (.ref a)] (.ref a :: st) h Q := W_go f168_51 rfl
theorem f168_52 : fetch 168 52 = some (.getfield 105, 3, [10, 8, 6139, 0], .null) := by decide +kernel
theorem w168_52 : Wp d 168 52 [l0] (.ref a :: st) h Q = gP (h.2 a) 10 8 (fun w => Wp d 168 55 [l0] (w :: st) h Q) := W_get f168_52 rfl
theorem f168_55 : fetch 168 55 = some (.iaload, 1, [], .null) := by decide +kernel
theorem w168_55 : Wp d 168 55 [l0] (.int x :: .ref a :: st) h Q = aP false (h.2 a) x (fun w => Wp d 168 56 [l0] (.int w :: st) h Q) := W_ald f168_55 rfl
theorem f168_56 : fetch 168 56 = some (.invokevirtual 111, 3, [159, 2, 11, 0, 7008, 1013, 7011, 7010, 44], .null) := by decide +kernel
theorem w168_56 (hp : psum st ≤ 8) : Wp d 168 56 [l0] (v1 :: (.ref b) :: st) h Q = rP (h.2 b) 10 (Cp d 159 [(.ref b), v1] h (fun o => cK o (fun w h2 => Wp d 168 59 [l0] (w.toList ++ st) h2 Q) (fun E h2 => Q (.inr E, h2)))) := (W_invV (st := st) f168_56 rfl rfl (by simp only [List.length_cons]; omega) rfl rfl hp).trans (by simp only [hm168, if_true])
theorem f168_59 : fetch 168 59 = some (.ifCond .eq 7, 3, [], .null) := by decide +kernel
theorem w168_59 : Wp d 168 59 [l0] (.int x :: st) h Q = if icond .eq x 0 = true then Wp d 168 66 [l0] st h Q else Wp d 168 62 [l0] st h Q := W_if f168_59 rfl
theorem f168_62 : fetch 168 62 = some (.iconst 1, 1, [], .null) := by decide +kernel
theorem w168_62 : Wp d 168 62 [l0] st h Q = Wp d 168 63 [l0] (.int (1 : Int32) :: st) h Q := W_go f168_62 rfl
theorem f168_63 : fetch 168 63 = some (.goto 4, 3, [], .null) := by decide +kernel
theorem w168_63 : Wp d 168 63 [l0] st h Q = Wp d 168 67 [l0] st h Q := W_go f168_63 rfl
theorem f168_66 : fetch 168 66 = some (.iconst 0, 1, [], .null) := by decide +kernel
theorem w168_66 : Wp d 168 66 [l0] st h Q = Wp d 168 67 [l0] (.int (0 : Int32) :: st) h Q := W_go f168_66 rfl
theorem f168_67 : fetch 168 67 = some (.ireturn, 1, [], .null) := by decide +kernel
theorem w168_67 : Wp d 168 67 [l0] [.int x] h Q = (if narrow .boolean (.int x) = .int x then Q (.inl (some (.int x)), h) else False) := W_zret f168_67 hr168
theorem hm169 : mhs 169 = [] := by decide +kernel
theorem hr169 : mret 169 = (some .int) := by decide +kernel
theorem f169_0 : fetch 169 0 = some (.aload_n 0, 1, [], .null) := by decide +kernel
theorem w169_0 : Wp d 169 0 [some (.ref a), l1] st h Q = Wp d 169 1 [some (.ref a), l1] (.ref a :: st) h Q := W_go f169_0 rfl
theorem f169_1 : fetch 169 1 = some (.getfield 17, 3, [10, 4, 6135, 0], .null) := by decide +kernel
theorem w169_1 : Wp d 169 1 [l0, l1] (.ref a :: st) h Q = gP (h.2 a) 10 4 (fun w => Wp d 169 4 [l0, l1] (w :: st) h Q) := W_get f169_1 rfl
theorem f169_4 : fetch 169 4 = some (.iload_n 1, 1, [], .null) := by decide +kernel
theorem w169_4 : Wp d 169 4 [l0, some (.int x)] st h Q = Wp d 169 5 [l0, some (.int x)] (.int x :: st) h Q := W_go f169_4 rfl
theorem f169_5 : fetch 169 5 = some (.iaload, 1, [], .null) := by decide +kernel
theorem w169_5 : Wp d 169 5 [l0, l1] (.int x :: .ref a :: st) h Q = aP false (h.2 a) x (fun w => Wp d 169 6 [l0, l1] (.int w :: st) h Q) := W_ald f169_5 rfl
theorem f169_6 : fetch 169 6 = some (.bipush 41, 2, [], .null) := by decide +kernel
theorem w169_6 : Wp d 169 6 [l0, l1] st h Q = Wp d 169 8 [l0, l1] (.int (41 : Int32) :: st) h Q := W_go f169_6 rfl
theorem f169_8 : fetch 169 8 = some (.if_icmp .ne 11, 3, [], .null) := by decide +kernel
theorem w169_8 : Wp d 169 8 [l0, l1] (.int y :: .int x :: st) h Q = if icond .ne x y = true then Wp d 169 19 [l0, l1] st h Q else Wp d 169 11 [l0, l1] st h Q := W_if f169_8 rfl
theorem f169_11 : fetch 169 11 = some (.aload_n 0, 1, [], .null) := by decide +kernel
theorem w169_11 : Wp d 169 11 [some (.ref a), l1] st h Q = Wp d 169 12 [some (.ref a), l1] (.ref a :: st) h Q := W_go f169_11 rfl
theorem f169_12 : fetch 169 12 = some (.iload_n 1, 1, [], .null) := by decide +kernel
theorem w169_12 : Wp d 169 12 [l0, some (.int x)] st h Q = Wp d 169 13 [l0, some (.int x)] (.int x :: st) h Q := W_go f169_12 rfl
theorem f169_13 : fetch 169 13 = some (.invokevirtual 201, 3, [170, 2, 11, 0, 7044, 1013, 7047, 7046, 53], .null) := by decide +kernel
theorem w169_13 (hp : psum st ≤ 8) : Wp d 169 13 [l0, l1] (v1 :: (.ref b) :: st) h Q = rP (h.2 b) 10 (Cp d 170 [(.ref b), v1] h (fun o => cK o (fun w h2 => Wp d 169 16 [l0, l1] (w.toList ++ st) h2 Q) (fun E h2 => Q (.inr E, h2)))) := (W_invV (st := st) f169_13 rfl rfl (by simp only [List.length_cons]; omega) rfl rfl hp).trans (by simp only [hm169, if_true])
theorem f169_16 : fetch 169 16 = some (.goto 13, 3, [], .null) := by decide +kernel
theorem w169_16 : Wp d 169 16 [l0, l1] st h Q = Wp d 169 29 [l0, l1] st h Q := W_go f169_16 rfl
theorem f169_19 : fetch 169 19 = some (.sipush 1000, 3, [], .null) := by decide +kernel
theorem w169_19 : Wp d 169 19 [l0, l1] st h Q = Wp d 169 22 [l0, l1] (.int (1000 : Int32) :: st) h Q := W_go f169_19 rfl
theorem f169_22 : fetch 169 22 = some (.aload_n 0, 1, [], .null) := by decide +kernel
theorem w169_22 : Wp d 169 22 [some (.ref a), l1] st h Q = Wp d 169 23 [some (.ref a), l1] (.ref a :: st) h Q := W_go f169_22 rfl
theorem f169_23 : fetch 169 23 = some (.getfield 17, 3, [10, 4, 6135, 0], .null) := by decide +kernel
theorem w169_23 : Wp d 169 23 [l0, l1] (.ref a :: st) h Q = gP (h.2 a) 10 4 (fun w => Wp d 169 26 [l0, l1] (w :: st) h Q) := W_get f169_23 rfl
theorem f169_26 : fetch 169 26 = some (.iload_n 1, 1, [], .null) := by decide +kernel
theorem w169_26 : Wp d 169 26 [l0, some (.int x)] st h Q = Wp d 169 27 [l0, some (.int x)] (.int x :: st) h Q := W_go f169_26 rfl
theorem f169_27 : fetch 169 27 = some (.iaload, 1, [], .null) := by decide +kernel
theorem w169_27 : Wp d 169 27 [l0, l1] (.int x :: .ref a :: st) h Q = aP false (h.2 a) x (fun w => Wp d 169 28 [l0, l1] (.int w :: st) h Q) := W_ald f169_27 rfl
theorem f169_28 : fetch 169 28 = some (.iadd, 1, [], .null) := by decide +kernel
theorem w169_28 : Wp d 169 28 [l0, l1] (.int y :: .int x :: st) h Q = Wp d 169 29 [l0, l1] (.int (x + y) :: st) h Q := W_go f169_28 rfl
theorem f169_29 : fetch 169 29 = some (.ireturn, 1, [], .null) := by decide +kernel
theorem w169_29 : Wp d 169 29 [l0, l1] [.int x] h Q = Q (.inl (some (.int x)), h) := W_iret f169_29 hr169
theorem hm170 : mhs 170 = [] := by decide +kernel
theorem hr170 : mret 170 = (some .int) := by decide +kernel
theorem f170_0 : fetch 170 0 = some (.iconst 0, 1, [], .null) := by decide +kernel
theorem w170_0 : Wp d 170 0 [l0, l1, l2, l3] st h Q = Wp d 170 1 [l0, l1, l2, l3] (.int (0 : Int32) :: st) h Q := W_go f170_0 rfl
theorem f170_1 : fetch 170 1 = some (.istore_n 2, 1, [], .null) := by decide +kernel
theorem w170_1 : Wp d 170 1 [l0, l1, l2, l3] (.int x :: st) h Q = Wp d 170 2 [l0, kl l1, some (.int x), l3] st h Q := (W_st1 (pc' := 2) (k := 2) f170_1 rfl rfl (by simp only [List.length_cons, List.length_nil]; omega)).trans (by rw [pst1_succ]; rfl)
theorem f170_2 : fetch 170 2 = some (.iconst 0, 1, [], .null) := by decide +kernel
theorem w170_2 : Wp d 170 2 [l0, l1, l2, l3] st h Q = Wp d 170 3 [l0, l1, l2, l3] (.int (0 : Int32) :: st) h Q := W_go f170_2 rfl
theorem f170_3 : fetch 170 3 = some (.istore_n 3, 1, [], .null) := by decide +kernel
theorem w170_3 : Wp d 170 3 [l0, l1, l2, l3] (.int x :: st) h Q = Wp d 170 4 [l0, l1, kl l2, some (.int x)] st h Q := (W_st1 (pc' := 4) (k := 3) f170_3 rfl rfl (by simp only [List.length_cons, List.length_nil]; omega)).trans (by rw [pst1_succ]; rfl)
theorem f170_4 : fetch 170 4 = some (.iload_n 3, 1, [], .null) := by decide +kernel
theorem w170_4 : Wp d 170 4 [l0, l1, l2, some (.int x)] st h Q = Wp d 170 5 [l0, l1, l2, some (.int x)] (.int x :: st) h Q := W_go f170_4 rfl
theorem f170_5 : fetch 170 5 = some (.aload_n 0, 1, [], .null) := by decide +kernel
theorem w170_5 : Wp d 170 5 [some (.ref a), l1, l2, l3] st h Q = Wp d 170 6 [some (.ref a), l1, l2, l3] (.ref a :: st) h Q := W_go f170_5 rfl
theorem f170_6 : fetch 170 6 = some (.getfield 23, 3, [10, 6, 6137, 0], .null) := by decide +kernel
theorem w170_6 : Wp d 170 6 [l0, l1, l2, l3] (.ref a :: st) h Q = gP (h.2 a) 10 6 (fun w => Wp d 170 9 [l0, l1, l2, l3] (w :: st) h Q) := W_get f170_6 rfl
theorem f170_9 : fetch 170 9 = some (.iload_n 1, 1, [], .null) := by decide +kernel
theorem w170_9 : Wp d 170 9 [l0, some (.int x), l2, l3] st h Q = Wp d 170 10 [l0, some (.int x), l2, l3] (.int x :: st) h Q := W_go f170_9 rfl
theorem f170_10 : fetch 170 10 = some (.iaload, 1, [], .null) := by decide +kernel
theorem w170_10 : Wp d 170 10 [l0, l1, l2, l3] (.int x :: .ref a :: st) h Q = aP false (h.2 a) x (fun w => Wp d 170 11 [l0, l1, l2, l3] (.int w :: st) h Q) := W_ald f170_10 rfl
theorem f170_11 : fetch 170 11 = some (.if_icmp .ge 31, 3, [], .null) := by decide +kernel
theorem w170_11 : Wp d 170 11 [l0, l1, l2, l3] (.int y :: .int x :: st) h Q = if icond .ge x y = true then Wp d 170 42 [l0, l1, l2, l3] st h Q else Wp d 170 14 [l0, l1, l2, l3] st h Q := W_if f170_11 rfl
theorem f170_14 : fetch 170 14 = some (.bipush 10, 2, [], .null) := by decide +kernel
theorem w170_14 : Wp d 170 14 [l0, l1, l2, l3] st h Q = Wp d 170 16 [l0, l1, l2, l3] (.int (10 : Int32) :: st) h Q := W_go f170_14 rfl
theorem f170_16 : fetch 170 16 = some (.iload_n 2, 1, [], .null) := by decide +kernel
theorem w170_16 : Wp d 170 16 [l0, l1, some (.int x), l3] st h Q = Wp d 170 17 [l0, l1, some (.int x), l3] (.int x :: st) h Q := W_go f170_16 rfl
theorem f170_17 : fetch 170 17 = some (.imul, 1, [], .null) := by decide +kernel
theorem w170_17 : Wp d 170 17 [l0, l1, l2, l3] (.int y :: .int x :: st) h Q = Wp d 170 18 [l0, l1, l2, l3] (.int (x * y) :: st) h Q := W_go f170_17 rfl
theorem f170_18 : fetch 170 18 = some (.aload_n 0, 1, [], .null) := by decide +kernel
theorem w170_18 : Wp d 170 18 [some (.ref a), l1, l2, l3] st h Q = Wp d 170 19 [some (.ref a), l1, l2, l3] (.ref a :: st) h Q := W_go f170_18 rfl
theorem f170_19 : fetch 170 19 = some (.getfield 9, 3, [10, 1, 6132, 0], .null) := by decide +kernel
theorem w170_19 : Wp d 170 19 [l0, l1, l2, l3] (.ref a :: st) h Q = gP (h.2 a) 10 1 (fun w => Wp d 170 22 [l0, l1, l2, l3] (w :: st) h Q) := W_get f170_19 rfl
theorem f170_22 : fetch 170 22 = some (.aload_n 0, 1, [], .null) := by decide +kernel
theorem w170_22 : Wp d 170 22 [some (.ref a), l1, l2, l3] st h Q = Wp d 170 23 [some (.ref a), l1, l2, l3] (.ref a :: st) h Q := W_go f170_22 rfl
theorem f170_23 : fetch 170 23 = some (.getfield 20, 3, [10, 5, 6136, 0], .null) := by decide +kernel
theorem w170_23 : Wp d 170 23 [l0, l1, l2, l3] (.ref a :: st) h Q = gP (h.2 a) 10 5 (fun w => Wp d 170 26 [l0, l1, l2, l3] (w :: st) h Q) := W_get f170_23 rfl
theorem f170_26 : fetch 170 26 = some (.iload_n 1, 1, [], .null) := by decide +kernel
theorem w170_26 : Wp d 170 26 [l0, some (.int x), l2, l3] st h Q = Wp d 170 27 [l0, some (.int x), l2, l3] (.int x :: st) h Q := W_go f170_26 rfl
theorem f170_27 : fetch 170 27 = some (.iaload, 1, [], .null) := by decide +kernel
theorem w170_27 : Wp d 170 27 [l0, l1, l2, l3] (.int x :: .ref a :: st) h Q = aP false (h.2 a) x (fun w => Wp d 170 28 [l0, l1, l2, l3] (.int w :: st) h Q) := W_ald f170_27 rfl
theorem f170_28 : fetch 170 28 = some (.iload_n 3, 1, [], .null) := by decide +kernel
theorem w170_28 : Wp d 170 28 [l0, l1, l2, some (.int x)] st h Q = Wp d 170 29 [l0, l1, l2, some (.int x)] (.int x :: st) h Q := W_go f170_28 rfl
theorem f170_29 : fetch 170 29 = some (.iadd, 1, [], .null) := by decide +kernel
theorem w170_29 : Wp d 170 29 [l0, l1, l2, l3] (.int y :: .int x :: st) h Q = Wp d 170 30 [l0, l1, l2, l3] (.int (x + y) :: st) h Q := W_go f170_29 rfl
theorem f170_30 : fetch 170 30 = some (.iaload, 1, [], .null) := by decide +kernel
theorem w170_30 : Wp d 170 30 [l0, l1, l2, l3] (.int x :: .ref a :: st) h Q = aP false (h.2 a) x (fun w => Wp d 170 31 [l0, l1, l2, l3] (.int w :: st) h Q) := W_ald f170_30 rfl
theorem f170_31 : fetch 170 31 = some (.iadd, 1, [], .null) := by decide +kernel
theorem w170_31 : Wp d 170 31 [l0, l1, l2, l3] (.int y :: .int x :: st) h Q = Wp d 170 32 [l0, l1, l2, l3] (.int (x + y) :: st) h Q := W_go f170_31 rfl
theorem f170_32 : fetch 170 32 = some (.bipush 48, 2, [], .null) := by decide +kernel
theorem w170_32 : Wp d 170 32 [l0, l1, l2, l3] st h Q = Wp d 170 34 [l0, l1, l2, l3] (.int (48 : Int32) :: st) h Q := W_go f170_32 rfl
theorem f170_34 : fetch 170 34 = some (.isub, 1, [], .null) := by decide +kernel
theorem w170_34 : Wp d 170 34 [l0, l1, l2, l3] (.int y :: .int x :: st) h Q = Wp d 170 35 [l0, l1, l2, l3] (.int (x - y) :: st) h Q := W_go f170_34 rfl
theorem f170_35 : fetch 170 35 = some (.istore_n 2, 1, [], .null) := by decide +kernel
theorem w170_35 : Wp d 170 35 [l0, l1, l2, l3] (.int x :: st) h Q = Wp d 170 36 [l0, kl l1, some (.int x), l3] st h Q := (W_st1 (pc' := 36) (k := 2) f170_35 rfl rfl (by simp only [List.length_cons, List.length_nil]; omega)).trans (by rw [pst1_succ]; rfl)
theorem f170_36 : fetch 170 36 = some (.iinc 3 1, 3, [], .null) := by decide +kernel
theorem w170_36 : Wp d 170 36 [l0, l1, l2, some (.int x)] st h Q = Wp d 170 39 [l0, l1, kl l2, some (.int (x + (1 : Int32)))] st h Q := (W_iinc (y := (1 : Int32)) f170_36 rfl (by simp only [List.length_cons, List.length_nil]; omega) (by decide)).trans (by rw [pst1_succ]; rfl)
theorem f170_39 : fetch 170 39 = some (.goto (-35), 3, [], .null) := by decide +kernel
theorem w170_39 : Wp d 170 39 [l0, l1, l2, l3] st h Q = Wp d 170 4 [l0, l1, l2, l3] st h Q := W_go f170_39 rfl
theorem f170_42 : fetch 170 42 = some (.iload_n 2, 1, [], .null) := by decide +kernel
theorem w170_42 : Wp d 170 42 [l0, l1, some (.int x), l3] st h Q = Wp d 170 43 [l0, l1, some (.int x), l3] (.int x :: st) h Q := W_go f170_42 rfl
theorem f170_43 : fetch 170 43 = some (.ireturn, 1, [], .null) := by decide +kernel
theorem w170_43 : Wp d 170 43 [l0, l1, l2, l3] [.int x] h Q = Q (.inl (some (.int x)), h) := W_iret f170_43 hr170
theorem hm171 : mhs 171 = [] := by decide +kernel
theorem hr171 : mret 171 = (some .boolean) := by decide +kernel
theorem f171_0 : fetch 171 0 = some (.aload_n 0, 1, [], .null) := by decide +kernel
theorem w171_0 : Wp d 171 0 [some (.ref a), l1, l2, l3] st h Q = Wp d 171 1 [some (.ref a), l1, l2, l3] (.ref a :: st) h Q := W_go f171_0 rfl
theorem f171_1 : fetch 171 1 = some (.getfield 23, 3, [10, 6, 6137, 0], .null) := by decide +kernel
theorem w171_1 : Wp d 171 1 [l0, l1, l2, l3] (.ref a :: st) h Q = gP (h.2 a) 10 6 (fun w => Wp d 171 4 [l0, l1, l2, l3] (w :: st) h Q) := W_get f171_1 rfl
theorem f171_4 : fetch 171 4 = some (.iload_n 1, 1, [], .null) := by decide +kernel
theorem w171_4 : Wp d 171 4 [l0, some (.int x), l2, l3] st h Q = Wp d 171 5 [l0, some (.int x), l2, l3] (.int x :: st) h Q := W_go f171_4 rfl
theorem f171_5 : fetch 171 5 = some (.iaload, 1, [], .null) := by decide +kernel
theorem w171_5 : Wp d 171 5 [l0, l1, l2, l3] (.int x :: .ref a :: st) h Q = aP false (h.2 a) x (fun w => Wp d 171 6 [l0, l1, l2, l3] (.int w :: st) h Q) := W_ald f171_5 rfl
theorem f171_6 : fetch 171 6 = some (.aload_n 0, 1, [], .null) := by decide +kernel
theorem w171_6 : Wp d 171 6 [some (.ref a), l1, l2, l3] st h Q = Wp d 171 7 [some (.ref a), l1, l2, l3] (.ref a :: st) h Q := W_go f171_6 rfl
theorem f171_7 : fetch 171 7 = some (.getfield 23, 3, [10, 6, 6137, 0], .null) := by decide +kernel
theorem w171_7 : Wp d 171 7 [l0, l1, l2, l3] (.ref a :: st) h Q = gP (h.2 a) 10 6 (fun w => Wp d 171 10 [l0, l1, l2, l3] (w :: st) h Q) := W_get f171_7 rfl
theorem f171_10 : fetch 171 10 = some (.iload_n 2, 1, [], .null) := by decide +kernel
theorem w171_10 : Wp d 171 10 [l0, l1, some (.int x), l3] st h Q = Wp d 171 11 [l0, l1, some (.int x), l3] (.int x :: st) h Q := W_go f171_10 rfl
theorem f171_11 : fetch 171 11 = some (.iaload, 1, [], .null) := by decide +kernel
theorem w171_11 : Wp d 171 11 [l0, l1, l2, l3] (.int x :: .ref a :: st) h Q = aP false (h.2 a) x (fun w => Wp d 171 12 [l0, l1, l2, l3] (.int w :: st) h Q) := W_ald f171_11 rfl
theorem f171_12 : fetch 171 12 = some (.if_icmp .eq 5, 3, [], .null) := by decide +kernel
theorem w171_12 : Wp d 171 12 [l0, l1, l2, l3] (.int y :: .int x :: st) h Q = if icond .eq x y = true then Wp d 171 17 [l0, l1, l2, l3] st h Q else Wp d 171 15 [l0, l1, l2, l3] st h Q := W_if f171_12 rfl
theorem f171_15 : fetch 171 15 = some (.iconst 0, 1, [], .null) := by decide +kernel
theorem w171_15 : Wp d 171 15 [l0, l1, l2, l3] st h Q = Wp d 171 16 [l0, l1, l2, l3] (.int (0 : Int32) :: st) h Q := W_go f171_15 rfl
theorem f171_16 : fetch 171 16 = some (.ireturn, 1, [], .null) := by decide +kernel
theorem w171_16 : Wp d 171 16 [l0, l1, l2, l3] [.int x] h Q = (if narrow .boolean (.int x) = .int x then Q (.inl (some (.int x)), h) else False) := W_zret f171_16 hr171
theorem f171_17 : fetch 171 17 = some (.iconst 0, 1, [], .null) := by decide +kernel
theorem w171_17 : Wp d 171 17 [l0, l1, l2, l3] st h Q = Wp d 171 18 [l0, l1, l2, l3] (.int (0 : Int32) :: st) h Q := W_go f171_17 rfl
theorem f171_18 : fetch 171 18 = some (.istore_n 3, 1, [], .null) := by decide +kernel
theorem w171_18 : Wp d 171 18 [l0, l1, l2, l3] (.int x :: st) h Q = Wp d 171 19 [l0, l1, kl l2, some (.int x)] st h Q := (W_st1 (pc' := 19) (k := 3) f171_18 rfl rfl (by simp only [List.length_cons, List.length_nil]; omega)).trans (by rw [pst1_succ]; rfl)
theorem f171_19 : fetch 171 19 = some (.iload_n 3, 1, [], .null) := by decide +kernel
theorem w171_19 : Wp d 171 19 [l0, l1, l2, some (.int x)] st h Q = Wp d 171 20 [l0, l1, l2, some (.int x)] (.int x :: st) h Q := W_go f171_19 rfl
theorem f171_20 : fetch 171 20 = some (.aload_n 0, 1, [], .null) := by decide +kernel
theorem w171_20 : Wp d 171 20 [some (.ref a), l1, l2, l3] st h Q = Wp d 171 21 [some (.ref a), l1, l2, l3] (.ref a :: st) h Q := W_go f171_20 rfl
theorem f171_21 : fetch 171 21 = some (.getfield 23, 3, [10, 6, 6137, 0], .null) := by decide +kernel
theorem w171_21 : Wp d 171 21 [l0, l1, l2, l3] (.ref a :: st) h Q = gP (h.2 a) 10 6 (fun w => Wp d 171 24 [l0, l1, l2, l3] (w :: st) h Q) := W_get f171_21 rfl
theorem f171_24 : fetch 171 24 = some (.iload_n 1, 1, [], .null) := by decide +kernel
theorem w171_24 : Wp d 171 24 [l0, some (.int x), l2, l3] st h Q = Wp d 171 25 [l0, some (.int x), l2, l3] (.int x :: st) h Q := W_go f171_24 rfl
theorem f171_25 : fetch 171 25 = some (.iaload, 1, [], .null) := by decide +kernel
theorem w171_25 : Wp d 171 25 [l0, l1, l2, l3] (.int x :: .ref a :: st) h Q = aP false (h.2 a) x (fun w => Wp d 171 26 [l0, l1, l2, l3] (.int w :: st) h Q) := W_ald f171_25 rfl
theorem f171_26 : fetch 171 26 = some (.if_icmp .ge 40, 3, [], .null) := by decide +kernel
theorem w171_26 : Wp d 171 26 [l0, l1, l2, l3] (.int y :: .int x :: st) h Q = if icond .ge x y = true then Wp d 171 66 [l0, l1, l2, l3] st h Q else Wp d 171 29 [l0, l1, l2, l3] st h Q := W_if f171_26 rfl
theorem f171_29 : fetch 171 29 = some (.aload_n 0, 1, [], .null) := by decide +kernel
theorem w171_29 : Wp d 171 29 [some (.ref a), l1, l2, l3] st h Q = Wp d 171 30 [some (.ref a), l1, l2, l3] (.ref a :: st) h Q := W_go f171_29 rfl
theorem f171_30 : fetch 171 30 = some (.getfield 9, 3, [10, 1, 6132, 0], .null) := by decide +kernel
theorem w171_30 : Wp d 171 30 [l0, l1, l2, l3] (.ref a :: st) h Q = gP (h.2 a) 10 1 (fun w => Wp d 171 33 [l0, l1, l2, l3] (w :: st) h Q) := W_get f171_30 rfl
theorem f171_33 : fetch 171 33 = some (.aload_n 0, 1, [], .null) := by decide +kernel
theorem w171_33 : Wp d 171 33 [some (.ref a), l1, l2, l3] st h Q = Wp d 171 34 [some (.ref a), l1, l2, l3] (.ref a :: st) h Q := W_go f171_33 rfl
theorem f171_34 : fetch 171 34 = some (.getfield 20, 3, [10, 5, 6136, 0], .null) := by decide +kernel
theorem w171_34 : Wp d 171 34 [l0, l1, l2, l3] (.ref a :: st) h Q = gP (h.2 a) 10 5 (fun w => Wp d 171 37 [l0, l1, l2, l3] (w :: st) h Q) := W_get f171_34 rfl
theorem f171_37 : fetch 171 37 = some (.iload_n 1, 1, [], .null) := by decide +kernel
theorem w171_37 : Wp d 171 37 [l0, some (.int x), l2, l3] st h Q = Wp d 171 38 [l0, some (.int x), l2, l3] (.int x :: st) h Q := W_go f171_37 rfl
theorem f171_38 : fetch 171 38 = some (.iaload, 1, [], .null) := by decide +kernel
theorem w171_38 : Wp d 171 38 [l0, l1, l2, l3] (.int x :: .ref a :: st) h Q = aP false (h.2 a) x (fun w => Wp d 171 39 [l0, l1, l2, l3] (.int w :: st) h Q) := W_ald f171_38 rfl
theorem f171_39 : fetch 171 39 = some (.iload_n 3, 1, [], .null) := by decide +kernel
theorem w171_39 : Wp d 171 39 [l0, l1, l2, some (.int x)] st h Q = Wp d 171 40 [l0, l1, l2, some (.int x)] (.int x :: st) h Q := W_go f171_39 rfl
theorem f171_40 : fetch 171 40 = some (.iadd, 1, [], .null) := by decide +kernel
theorem w171_40 : Wp d 171 40 [l0, l1, l2, l3] (.int y :: .int x :: st) h Q = Wp d 171 41 [l0, l1, l2, l3] (.int (x + y) :: st) h Q := W_go f171_40 rfl
theorem f171_41 : fetch 171 41 = some (.iaload, 1, [], .null) := by decide +kernel
theorem w171_41 : Wp d 171 41 [l0, l1, l2, l3] (.int x :: .ref a :: st) h Q = aP false (h.2 a) x (fun w => Wp d 171 42 [l0, l1, l2, l3] (.int w :: st) h Q) := W_ald f171_41 rfl
theorem f171_42 : fetch 171 42 = some (.aload_n 0, 1, [], .null) := by decide +kernel
theorem w171_42 : Wp d 171 42 [some (.ref a), l1, l2, l3] st h Q = Wp d 171 43 [some (.ref a), l1, l2, l3] (.ref a :: st) h Q := W_go f171_42 rfl
theorem f171_43 : fetch 171 43 = some (.getfield 9, 3, [10, 1, 6132, 0], .null) := by decide +kernel
theorem w171_43 : Wp d 171 43 [l0, l1, l2, l3] (.ref a :: st) h Q = gP (h.2 a) 10 1 (fun w => Wp d 171 46 [l0, l1, l2, l3] (w :: st) h Q) := W_get f171_43 rfl
theorem f171_46 : fetch 171 46 = some (.aload_n 0, 1, [], .null) := by decide +kernel
theorem w171_46 : Wp d 171 46 [some (.ref a), l1, l2, l3] st h Q = Wp d 171 47 [some (.ref a), l1, l2, l3] (.ref a :: st) h Q := W_go f171_46 rfl
theorem f171_47 : fetch 171 47 = some (.getfield 20, 3, [10, 5, 6136, 0], .null) := by decide +kernel
theorem w171_47 : Wp d 171 47 [l0, l1, l2, l3] (.ref a :: st) h Q = gP (h.2 a) 10 5 (fun w => Wp d 171 50 [l0, l1, l2, l3] (w :: st) h Q) := W_get f171_47 rfl
theorem f171_50 : fetch 171 50 = some (.iload_n 2, 1, [], .null) := by decide +kernel
theorem w171_50 : Wp d 171 50 [l0, l1, some (.int x), l3] st h Q = Wp d 171 51 [l0, l1, some (.int x), l3] (.int x :: st) h Q := W_go f171_50 rfl
theorem f171_51 : fetch 171 51 = some (.iaload, 1, [], .null) := by decide +kernel
theorem w171_51 : Wp d 171 51 [l0, l1, l2, l3] (.int x :: .ref a :: st) h Q = aP false (h.2 a) x (fun w => Wp d 171 52 [l0, l1, l2, l3] (.int w :: st) h Q) := W_ald f171_51 rfl
theorem f171_52 : fetch 171 52 = some (.iload_n 3, 1, [], .null) := by decide +kernel
theorem w171_52 : Wp d 171 52 [l0, l1, l2, some (.int x)] st h Q = Wp d 171 53 [l0, l1, l2, some (.int x)] (.int x :: st) h Q := W_go f171_52 rfl
theorem f171_53 : fetch 171 53 = some (.iadd, 1, [], .null) := by decide +kernel
theorem w171_53 : Wp d 171 53 [l0, l1, l2, l3] (.int y :: .int x :: st) h Q = Wp d 171 54 [l0, l1, l2, l3] (.int (x + y) :: st) h Q := W_go f171_53 rfl
theorem f171_54 : fetch 171 54 = some (.iaload, 1, [], .null) := by decide +kernel
theorem w171_54 : Wp d 171 54 [l0, l1, l2, l3] (.int x :: .ref a :: st) h Q = aP false (h.2 a) x (fun w => Wp d 171 55 [l0, l1, l2, l3] (.int w :: st) h Q) := W_ald f171_54 rfl
theorem f171_55 : fetch 171 55 = some (.if_icmp .eq 5, 3, [], .null) := by decide +kernel
theorem w171_55 : Wp d 171 55 [l0, l1, l2, l3] (.int y :: .int x :: st) h Q = if icond .eq x y = true then Wp d 171 60 [l0, l1, l2, l3] st h Q else Wp d 171 58 [l0, l1, l2, l3] st h Q := W_if f171_55 rfl
theorem f171_58 : fetch 171 58 = some (.iconst 0, 1, [], .null) := by decide +kernel
theorem w171_58 : Wp d 171 58 [l0, l1, l2, l3] st h Q = Wp d 171 59 [l0, l1, l2, l3] (.int (0 : Int32) :: st) h Q := W_go f171_58 rfl
theorem f171_59 : fetch 171 59 = some (.ireturn, 1, [], .null) := by decide +kernel
theorem w171_59 : Wp d 171 59 [l0, l1, l2, l3] [.int x] h Q = (if narrow .boolean (.int x) = .int x then Q (.inl (some (.int x)), h) else False) := W_zret f171_59 hr171
theorem f171_60 : fetch 171 60 = some (.iinc 3 1, 3, [], .null) := by decide +kernel
theorem w171_60 : Wp d 171 60 [l0, l1, l2, some (.int x)] st h Q = Wp d 171 63 [l0, l1, kl l2, some (.int (x + (1 : Int32)))] st h Q := (W_iinc (y := (1 : Int32)) f171_60 rfl (by simp only [List.length_cons, List.length_nil]; omega) (by decide)).trans (by rw [pst1_succ]; rfl)
theorem f171_63 : fetch 171 63 = some (.goto (-44), 3, [], .null) := by decide +kernel
theorem w171_63 : Wp d 171 63 [l0, l1, l2, l3] st h Q = Wp d 171 19 [l0, l1, l2, l3] st h Q := W_go f171_63 rfl
theorem f171_66 : fetch 171 66 = some (.iconst 1, 1, [], .null) := by decide +kernel
theorem w171_66 : Wp d 171 66 [l0, l1, l2, l3] st h Q = Wp d 171 67 [l0, l1, l2, l3] (.int (1 : Int32) :: st) h Q := W_go f171_66 rfl
theorem f171_67 : fetch 171 67 = some (.ireturn, 1, [], .null) := by decide +kernel
theorem w171_67 : Wp d 171 67 [l0, l1, l2, l3] [.int x] h Q = (if narrow .boolean (.int x) = .int x then Q (.inl (some (.int x)), h) else False) := W_zret f171_67 hr171
theorem hm172 : mhs 172 = [] := by decide +kernel
theorem hr172 : mret 172 = (some .int) := by decide +kernel
theorem f172_0 : fetch 172 0 = some (.iconst 0, 1, [], .null) := by decide +kernel
theorem w172_0 : Wp d 172 0 [l0, l1, l2, l3, l4] st h Q = Wp d 172 1 [l0, l1, l2, l3, l4] (.int (0 : Int32) :: st) h Q := W_go f172_0 rfl
theorem f172_1 : fetch 172 1 = some (.istore_n 3, 1, [], .null) := by decide +kernel
theorem w172_1 : Wp d 172 1 [l0, l1, l2, l3, l4] (.int x :: st) h Q = Wp d 172 2 [l0, l1, kl l2, some (.int x), l4] st h Q := (W_st1 (pc' := 2) (k := 3) f172_1 rfl rfl (by simp only [List.length_cons, List.length_nil]; omega)).trans (by rw [pst1_succ]; rfl)
theorem f172_2 : fetch 172 2 = some (.iconst 0, 1, [], .null) := by decide +kernel
theorem w172_2 : Wp d 172 2 [l0, l1, l2, l3, l4] st h Q = Wp d 172 3 [l0, l1, l2, l3, l4] (.int (0 : Int32) :: st) h Q := W_go f172_2 rfl
theorem f172_3 : fetch 172 3 = some (.istore 4, 2, [], .null) := by decide +kernel
theorem w172_3 : Wp d 172 3 [l0, l1, l2, l3, l4] (.int x :: st) h Q = Wp d 172 5 [l0, l1, l2, kl l3, some (.int x)] st h Q := (W_st1 (pc' := 5) (k := 4) f172_3 rfl rfl (by simp only [List.length_cons, List.length_nil]; omega)).trans (by rw [pst1_succ]; rfl)
theorem f172_5 : fetch 172 5 = some (.iload 4, 2, [], .null) := by decide +kernel
theorem w172_5 : Wp d 172 5 [l0, l1, l2, l3, some (.int x)] st h Q = Wp d 172 7 [l0, l1, l2, l3, some (.int x)] (.int x :: st) h Q := W_go f172_5 rfl
theorem f172_7 : fetch 172 7 = some (.iload_n 1, 1, [], .null) := by decide +kernel
theorem w172_7 : Wp d 172 7 [l0, some (.int x), l2, l3, l4] st h Q = Wp d 172 8 [l0, some (.int x), l2, l3, l4] (.int x :: st) h Q := W_go f172_7 rfl
theorem f172_8 : fetch 172 8 = some (.if_icmp .ge 38, 3, [], .null) := by decide +kernel
theorem w172_8 : Wp d 172 8 [l0, l1, l2, l3, l4] (.int y :: .int x :: st) h Q = if icond .ge x y = true then Wp d 172 46 [l0, l1, l2, l3, l4] st h Q else Wp d 172 11 [l0, l1, l2, l3, l4] st h Q := W_if f172_8 rfl
theorem f172_11 : fetch 172 11 = some (.aload_n 0, 1, [], .null) := by decide +kernel
theorem w172_11 : Wp d 172 11 [some (.ref a), l1, l2, l3, l4] st h Q = Wp d 172 12 [some (.ref a), l1, l2, l3, l4] (.ref a :: st) h Q := W_go f172_11 rfl
theorem f172_12 : fetch 172 12 = some (.getfield 26, 3, [10, 7, 6138, 0], .null) := by decide +kernel
theorem w172_12 : Wp d 172 12 [l0, l1, l2, l3, l4] (.ref a :: st) h Q = gP (h.2 a) 10 7 (fun w => Wp d 172 15 [l0, l1, l2, l3, l4] (w :: st) h Q) := W_get f172_12 rfl
theorem f172_15 : fetch 172 15 = some (.iload 4, 2, [], .null) := by decide +kernel
theorem w172_15 : Wp d 172 15 [l0, l1, l2, l3, some (.int x)] st h Q = Wp d 172 17 [l0, l1, l2, l3, some (.int x)] (.int x :: st) h Q := W_go f172_15 rfl
theorem f172_17 : fetch 172 17 = some (.iaload, 1, [], .null) := by decide +kernel
theorem w172_17 : Wp d 172 17 [l0, l1, l2, l3, l4] (.int x :: .ref a :: st) h Q = aP false (h.2 a) x (fun w => Wp d 172 18 [l0, l1, l2, l3, l4] (.int w :: st) h Q) := W_ald f172_17 rfl
theorem f172_18 : fetch 172 18 = some (.iload_n 2, 1, [], .null) := by decide +kernel
theorem w172_18 : Wp d 172 18 [l0, l1, some (.int x), l3, l4] st h Q = Wp d 172 19 [l0, l1, some (.int x), l3, l4] (.int x :: st) h Q := W_go f172_18 rfl
theorem f172_19 : fetch 172 19 = some (.if_icmp .eq 6, 3, [], .null) := by decide +kernel
theorem w172_19 : Wp d 172 19 [l0, l1, l2, l3, l4] (.int y :: .int x :: st) h Q = if icond .eq x y = true then Wp d 172 25 [l0, l1, l2, l3, l4] st h Q else Wp d 172 22 [l0, l1, l2, l3, l4] st h Q := W_if f172_19 rfl
theorem f172_22 : fetch 172 22 = some (.goto 18, 3, [], .null) := by decide +kernel
theorem w172_22 : Wp d 172 22 [l0, l1, l2, l3, l4] st h Q = Wp d 172 40 [l0, l1, l2, l3, l4] st h Q := W_go f172_22 rfl
theorem f172_25 : fetch 172 25 = some (.aload_n 0, 1, [], .null) := by decide +kernel
theorem w172_25 : Wp d 172 25 [some (.ref a), l1, l2, l3, l4] st h Q = Wp d 172 26 [some (.ref a), l1, l2, l3, l4] (.ref a :: st) h Q := W_go f172_25 rfl
theorem f172_26 : fetch 172 26 = some (.iload 4, 2, [], .null) := by decide +kernel
theorem w172_26 : Wp d 172 26 [l0, l1, l2, l3, some (.int x)] st h Q = Wp d 172 28 [l0, l1, l2, l3, some (.int x)] (.int x :: st) h Q := W_go f172_26 rfl
theorem f172_28 : fetch 172 28 = some (.iload_n 1, 1, [], .null) := by decide +kernel
theorem w172_28 : Wp d 172 28 [l0, some (.int x), l2, l3, l4] st h Q = Wp d 172 29 [l0, some (.int x), l2, l3, l4] (.int x :: st) h Q := W_go f172_28 rfl
theorem f172_29 : fetch 172 29 = some (.invokevirtual 204, 3, [171, 3, 11, 0, 7068, 1013, 7071, 7070, 59], .null) := by decide +kernel
theorem w172_29 (hp : psum st ≤ 8) : Wp d 172 29 [l0, l1, l2, l3, l4] (v2 :: v1 :: (.ref b) :: st) h Q = rP (h.2 b) 10 (Cp d 171 [(.ref b), v1, v2] h (fun o => cK o (fun w h2 => Wp d 172 32 [l0, l1, l2, l3, l4] (w.toList ++ st) h2 Q) (fun E h2 => Q (.inr E, h2)))) := (W_invV (st := st) f172_29 rfl rfl (by simp only [List.length_cons]; omega) rfl rfl hp).trans (by simp only [hm172, if_true])
theorem f172_32 : fetch 172 32 = some (.ifCond .eq 5, 3, [], .null) := by decide +kernel
theorem w172_32 : Wp d 172 32 [l0, l1, l2, l3, l4] (.int x :: st) h Q = if icond .eq x 0 = true then Wp d 172 37 [l0, l1, l2, l3, l4] st h Q else Wp d 172 35 [l0, l1, l2, l3, l4] st h Q := W_if f172_32 rfl
theorem f172_35 : fetch 172 35 = some (.iload_n 3, 1, [], .null) := by decide +kernel
theorem w172_35 : Wp d 172 35 [l0, l1, l2, some (.int x), l4] st h Q = Wp d 172 36 [l0, l1, l2, some (.int x), l4] (.int x :: st) h Q := W_go f172_35 rfl
theorem f172_36 : fetch 172 36 = some (.ireturn, 1, [], .null) := by decide +kernel
theorem w172_36 : Wp d 172 36 [l0, l1, l2, l3, l4] [.int x] h Q = Q (.inl (some (.int x)), h) := W_iret f172_36 hr172
theorem f172_37 : fetch 172 37 = some (.iinc 3 1, 3, [], .null) := by decide +kernel
theorem w172_37 : Wp d 172 37 [l0, l1, l2, some (.int x), l4] st h Q = Wp d 172 40 [l0, l1, kl l2, some (.int (x + (1 : Int32))), l4] st h Q := (W_iinc (y := (1 : Int32)) f172_37 rfl (by simp only [List.length_cons, List.length_nil]; omega) (by decide)).trans (by rw [pst1_succ]; rfl)
theorem f172_40 : fetch 172 40 = some (.iinc 4 1, 3, [], .null) := by decide +kernel
theorem w172_40 : Wp d 172 40 [l0, l1, l2, l3, some (.int x)] st h Q = Wp d 172 43 [l0, l1, l2, kl l3, some (.int (x + (1 : Int32)))] st h Q := (W_iinc (y := (1 : Int32)) f172_40 rfl (by simp only [List.length_cons, List.length_nil]; omega) (by decide)).trans (by rw [pst1_succ]; rfl)
theorem f172_43 : fetch 172 43 = some (.goto (-38), 3, [], .null) := by decide +kernel
theorem w172_43 : Wp d 172 43 [l0, l1, l2, l3, l4] st h Q = Wp d 172 5 [l0, l1, l2, l3, l4] st h Q := W_go f172_43 rfl
theorem f172_46 : fetch 172 46 = some (.iconst (-1), 1, [], .null) := by decide +kernel
theorem w172_46 : Wp d 172 46 [l0, l1, l2, l3, l4] st h Q = Wp d 172 47 [l0, l1, l2, l3, l4] (.int (-1 : Int32) :: st) h Q := W_go f172_46 rfl
theorem f172_47 : fetch 172 47 = some (.ireturn, 1, [], .null) := by decide +kernel
theorem w172_47 : Wp d 172 47 [l0, l1, l2, l3, l4] [.int x] h Q = Q (.inl (some (.int x)), h) := W_iret f172_47 hr172
theorem hm173 : mhs 173 = [] := by decide +kernel
theorem hr173 : mret 173 = (some .boolean) := by decide +kernel
theorem f173_0 : fetch 173 0 = some (.aload_n 0, 1, [], .null) := by decide +kernel
theorem w173_0 : Wp d 173 0 [some (.ref a), l1] st h Q = Wp d 173 1 [some (.ref a), l1] (.ref a :: st) h Q := W_go f173_0 rfl
theorem f173_1 : fetch 173 1 = some (.iload_n 1, 1, [], .null) := by decide +kernel
theorem w173_1 : Wp d 173 1 [l0, some (.int x)] st h Q = Wp d 173 2 [l0, some (.int x)] (.int x :: st) h Q := W_go f173_1 rfl
theorem f173_2 : fetch 173 2 = some (.iconst 1, 1, [], .null) := by decide +kernel
theorem w173_2 : Wp d 173 2 [l0, l1] st h Q = Wp d 173 3 [l0, l1] (.int (1 : Int32) :: st) h Q := W_go f173_2 rfl
theorem f173_3 : fetch 173 3 = some (.invokevirtual 207, 3, [172, 3, 11, 0, 7064, 1013, 7067, 7066, 58], .null) := by decide +kernel
theorem w173_3 (hp : psum st ≤ 8) : Wp d 173 3 [l0, l1] (v2 :: v1 :: (.ref b) :: st) h Q = rP (h.2 b) 10 (Cp d 172 [(.ref b), v1, v2] h (fun o => cK o (fun w h2 => Wp d 173 6 [l0, l1] (w.toList ++ st) h2 Q) (fun E h2 => Q (.inr E, h2)))) := (W_invV (st := st) f173_3 rfl rfl (by simp only [List.length_cons]; omega) rfl rfl hp).trans (by simp only [hm173, if_true])
theorem f173_6 : fetch 173 6 = some (.iconst (-1), 1, [], .null) := by decide +kernel
theorem w173_6 : Wp d 173 6 [l0, l1] st h Q = Wp d 173 7 [l0, l1] (.int (-1 : Int32) :: st) h Q := W_go f173_6 rfl
theorem f173_7 : fetch 173 7 = some (.if_icmp .ne 13, 3, [], .null) := by decide +kernel
theorem w173_7 : Wp d 173 7 [l0, l1] (.int y :: .int x :: st) h Q = if icond .ne x y = true then Wp d 173 20 [l0, l1] st h Q else Wp d 173 10 [l0, l1] st h Q := W_if f173_7 rfl
theorem f173_10 : fetch 173 10 = some (.aload_n 0, 1, [], .null) := by decide +kernel
theorem w173_10 : Wp d 173 10 [some (.ref a), l1] st h Q = Wp d 173 11 [some (.ref a), l1] (.ref a :: st) h Q := W_go f173_10 rfl
theorem f173_11 : fetch 173 11 = some (.iload_n 1, 1, [], .null) := by decide +kernel
theorem w173_11 : Wp d 173 11 [l0, some (.int x)] st h Q = Wp d 173 12 [l0, some (.int x)] (.int x :: st) h Q := W_go f173_11 rfl
theorem f173_12 : fetch 173 12 = some (.iconst 2, 1, [], .null) := by decide +kernel
theorem w173_12 : Wp d 173 12 [l0, l1] st h Q = Wp d 173 13 [l0, l1] (.int (2 : Int32) :: st) h Q := W_go f173_12 rfl
theorem f173_13 : fetch 173 13 = some (.invokevirtual 207, 3, [172, 3, 11, 0, 7064, 1013, 7067, 7066, 58], .null) := by decide +kernel
theorem w173_13 (hp : psum st ≤ 8) : Wp d 173 13 [l0, l1] (v2 :: v1 :: (.ref b) :: st) h Q = rP (h.2 b) 10 (Cp d 172 [(.ref b), v1, v2] h (fun o => cK o (fun w h2 => Wp d 173 16 [l0, l1] (w.toList ++ st) h2 Q) (fun E h2 => Q (.inr E, h2)))) := (W_invV (st := st) f173_13 rfl rfl (by simp only [List.length_cons]; omega) rfl rfl hp).trans (by simp only [hm173, if_true])
theorem f173_16 : fetch 173 16 = some (.iconst (-1), 1, [], .null) := by decide +kernel
theorem w173_16 : Wp d 173 16 [l0, l1] st h Q = Wp d 173 17 [l0, l1] (.int (-1 : Int32) :: st) h Q := W_go f173_16 rfl
theorem f173_17 : fetch 173 17 = some (.if_icmp .eq 7, 3, [], .null) := by decide +kernel
theorem w173_17 : Wp d 173 17 [l0, l1] (.int y :: .int x :: st) h Q = if icond .eq x y = true then Wp d 173 24 [l0, l1] st h Q else Wp d 173 20 [l0, l1] st h Q := W_if f173_17 rfl
theorem f173_20 : fetch 173 20 = some (.iconst 1, 1, [], .null) := by decide +kernel
theorem w173_20 : Wp d 173 20 [l0, l1] st h Q = Wp d 173 21 [l0, l1] (.int (1 : Int32) :: st) h Q := W_go f173_20 rfl
theorem f173_21 : fetch 173 21 = some (.goto 4, 3, [], .null) := by decide +kernel
theorem w173_21 : Wp d 173 21 [l0, l1] st h Q = Wp d 173 25 [l0, l1] st h Q := W_go f173_21 rfl
theorem f173_24 : fetch 173 24 = some (.iconst 0, 1, [], .null) := by decide +kernel
theorem w173_24 : Wp d 173 24 [l0, l1] st h Q = Wp d 173 25 [l0, l1] (.int (0 : Int32) :: st) h Q := W_go f173_24 rfl
theorem f173_25 : fetch 173 25 = some (.ireturn, 1, [], .null) := by decide +kernel
theorem w173_25 : Wp d 173 25 [l0, l1] [.int x] h Q = (if narrow .boolean (.int x) = .int x then Q (.inl (some (.int x)), h) else False) := W_zret f173_25 hr173
theorem hm174 : mhs 174 = [] := by decide +kernel
theorem hr174 : mret 174 = (some .int) := by decide +kernel
theorem f174_0 : fetch 174 0 = some (.aload_n 0, 1, [], .null) := by decide +kernel
theorem w174_0 : Wp d 174 0 [some (.ref a), l1] st h Q = Wp d 174 1 [some (.ref a), l1] (.ref a :: st) h Q := W_go f174_0 rfl
theorem f174_1 : fetch 174 1 = some (.iload_n 1, 1, [], .null) := by decide +kernel
theorem w174_1 : Wp d 174 1 [l0, some (.int x)] st h Q = Wp d 174 2 [l0, some (.int x)] (.int x :: st) h Q := W_go f174_1 rfl
theorem f174_2 : fetch 174 2 = some (.invokevirtual 210, 3, [173, 2, 11, 0, 7060, 1013, 7063, 7062, 57], .null) := by decide +kernel
theorem w174_2 (hp : psum st ≤ 8) : Wp d 174 2 [l0, l1] (v1 :: (.ref b) :: st) h Q = rP (h.2 b) 10 (Cp d 173 [(.ref b), v1] h (fun o => cK o (fun w h2 => Wp d 174 5 [l0, l1] (w.toList ++ st) h2 Q) (fun E h2 => Q (.inr E, h2)))) := (W_invV (st := st) f174_2 rfl rfl (by simp only [List.length_cons]; omega) rfl rfl hp).trans (by simp only [hm174, if_true])
theorem f174_5 : fetch 174 5 = some (.ifCond .eq 5, 3, [], .null) := by decide +kernel
theorem w174_5 : Wp d 174 5 [l0, l1] (.int x :: st) h Q = if icond .eq x 0 = true then Wp d 174 10 [l0, l1] st h Q else Wp d 174 8 [l0, l1] st h Q := W_if f174_5 rfl
theorem f174_8 : fetch 174 8 = some (.iconst 2, 1, [], .null) := by decide +kernel
theorem w174_8 : Wp d 174 8 [l0, l1] st h Q = Wp d 174 9 [l0, l1] (.int (2 : Int32) :: st) h Q := W_go f174_8 rfl
theorem f174_9 : fetch 174 9 = some (.ireturn, 1, [], .null) := by decide +kernel
theorem w174_9 : Wp d 174 9 [l0, l1] [.int x] h Q = Q (.inl (some (.int x)), h) := W_iret f174_9 hr174
theorem f174_10 : fetch 174 10 = some (.aload_n 0, 1, [], .null) := by decide +kernel
theorem w174_10 : Wp d 174 10 [some (.ref a), l1] st h Q = Wp d 174 11 [some (.ref a), l1] (.ref a :: st) h Q := W_go f174_10 rfl
theorem f174_11 : fetch 174 11 = some (.getfield 36, 3, [10, 11, 6143, 0], .null) := by decide +kernel
theorem w174_11 : Wp d 174 11 [l0, l1] (.ref a :: st) h Q = gP (h.2 a) 10 11 (fun w => Wp d 174 14 [l0, l1] (w :: st) h Q) := W_get f174_11 rfl
theorem f174_14 : fetch 174 14 = some (.getfield 60, 3, [8, 0, 5174, 1], .null) := by decide +kernel
theorem w174_14 : Wp d 174 14 [l0, l1] (.ref a :: st) h Q = gP (h.2 a) 8 0 (fun w => Wp d 174 17 [l0, l1] (w :: st) h Q) := W_get f174_14 rfl
theorem f174_17 : fetch 174 17 = some (.bipush 10, 2, [], .null) := by decide +kernel
theorem w174_17 : Wp d 174 17 [l0, l1] st h Q = Wp d 174 19 [l0, l1] (.int (10 : Int32) :: st) h Q := W_go f174_17 rfl
theorem f174_19 : fetch 174 19 = some (.if_icmp .ne 5, 3, [], .null) := by decide +kernel
theorem w174_19 : Wp d 174 19 [l0, l1] (.int y :: .int x :: st) h Q = if icond .ne x y = true then Wp d 174 24 [l0, l1] st h Q else Wp d 174 22 [l0, l1] st h Q := W_if f174_19 rfl
theorem f174_22 : fetch 174 22 = some (.iconst 4, 1, [], .null) := by decide +kernel
theorem w174_22 : Wp d 174 22 [l0, l1] st h Q = Wp d 174 23 [l0, l1] (.int (4 : Int32) :: st) h Q := W_go f174_22 rfl
theorem f174_23 : fetch 174 23 = some (.ireturn, 1, [], .null) := by decide +kernel
theorem w174_23 : Wp d 174 23 [l0, l1] [.int x] h Q = Q (.inl (some (.int x)), h) := W_iret f174_23 hr174
theorem f174_24 : fetch 174 24 = some (.aload_n 0, 1, [], .null) := by decide +kernel
theorem w174_24 : Wp d 174 24 [some (.ref a), l1] st h Q = Wp d 174 25 [some (.ref a), l1] (.ref a :: st) h Q := W_go f174_24 rfl
theorem f174_25 : fetch 174 25 = some (.getfield 36, 3, [10, 11, 6143, 0], .null) := by decide +kernel
theorem w174_25 : Wp d 174 25 [l0, l1] (.ref a :: st) h Q = gP (h.2 a) 10 11 (fun w => Wp d 174 28 [l0, l1] (w :: st) h Q) := W_get f174_25 rfl
theorem f174_28 : fetch 174 28 = some (.dup, 1, [], .null) := by decide +kernel
theorem w174_28i : Wp d 174 28 [l0, l1] (.int x :: st) h Q = Wp d 174 29 [l0, l1] (.int x :: .int x :: st) h Q := W_go f174_28 rfl
theorem w174_28 : Wp d 174 28 [l0, l1] (.ref a :: st) h Q = Wp d 174 29 [l0, l1] (.ref a :: .ref a :: st) h Q := W_go f174_28 rfl
theorem f174_29 : fetch 174 29 = some (.getfield 60, 3, [8, 0, 5174, 1], .null) := by decide +kernel
theorem w174_29 : Wp d 174 29 [l0, l1] (.ref a :: st) h Q = gP (h.2 a) 8 0 (fun w => Wp d 174 32 [l0, l1] (w :: st) h Q) := W_get f174_29 rfl
theorem f174_32 : fetch 174 32 = some (.iconst 1, 1, [], .null) := by decide +kernel
theorem w174_32 : Wp d 174 32 [l0, l1] st h Q = Wp d 174 33 [l0, l1] (.int (1 : Int32) :: st) h Q := W_go f174_32 rfl
theorem f174_33 : fetch 174 33 = some (.iadd, 1, [], .null) := by decide +kernel
theorem w174_33 : Wp d 174 33 [l0, l1] (.int y :: .int x :: st) h Q = Wp d 174 34 [l0, l1] (.int (x + y) :: st) h Q := W_go f174_33 rfl
theorem f174_34 : fetch 174 34 = some (.putfield 60, 3, [8, 0, 5174, 1], .null) := by decide +kernel
theorem w174_34 : Wp d 174 34 [l0, l1] (v :: .ref a :: st) h Q = pP (h.2 a) 8 0 (ftOf 8 0) v a (fun c => Wp d 174 37 [l0, l1] st (hset h a c) Q) := W_put f174_34 (by rfl)
theorem f174_37 : fetch 174 37 = some (.iconst 0, 1, [], .null) := by decide +kernel
theorem w174_37 : Wp d 174 37 [l0, l1] st h Q = Wp d 174 38 [l0, l1] (.int (0 : Int32) :: st) h Q := W_go f174_37 rfl
theorem f174_38 : fetch 174 38 = some (.ireturn, 1, [], .null) := by decide +kernel
theorem w174_38 : Wp d 174 38 [l0, l1] [.int x] h Q = Q (.inl (some (.int x)), h) := W_iret f174_38 hr174
theorem hm175 : mhs 175 = [] := by decide +kernel
theorem hr175 : mret 175 = (some .int) := by decide +kernel
theorem f175_0 : fetch 175 0 = some (.aload_n 0, 1, [], .null) := by decide +kernel
theorem w175_0 : Wp d 175 0 [some (.ref a), l1] st h Q = Wp d 175 1 [some (.ref a), l1] (.ref a :: st) h Q := W_go f175_0 rfl
theorem f175_1 : fetch 175 1 = some (.iload_n 1, 1, [], .null) := by decide +kernel
theorem w175_1 : Wp d 175 1 [l0, some (.int x)] st h Q = Wp d 175 2 [l0, some (.int x)] (.int x :: st) h Q := W_go f175_1 rfl
theorem f175_2 : fetch 175 2 = some (.invokevirtual 210, 3, [173, 2, 11, 0, 7060, 1013, 7063, 7062, 57], .null) := by decide +kernel
theorem w175_2 (hp : psum st ≤ 8) : Wp d 175 2 [l0, l1] (v1 :: (.ref b) :: st) h Q = rP (h.2 b) 10 (Cp d 173 [(.ref b), v1] h (fun o => cK o (fun w h2 => Wp d 175 5 [l0, l1] (w.toList ++ st) h2 Q) (fun E h2 => Q (.inr E, h2)))) := (W_invV (st := st) f175_2 rfl rfl (by simp only [List.length_cons]; omega) rfl rfl hp).trans (by simp only [hm175, if_true])
theorem f175_5 : fetch 175 5 = some (.ifCond .eq 5, 3, [], .null) := by decide +kernel
theorem w175_5 : Wp d 175 5 [l0, l1] (.int x :: st) h Q = if icond .eq x 0 = true then Wp d 175 10 [l0, l1] st h Q else Wp d 175 8 [l0, l1] st h Q := W_if f175_5 rfl
theorem f175_8 : fetch 175 8 = some (.iconst 2, 1, [], .null) := by decide +kernel
theorem w175_8 : Wp d 175 8 [l0, l1] st h Q = Wp d 175 9 [l0, l1] (.int (2 : Int32) :: st) h Q := W_go f175_8 rfl
theorem f175_9 : fetch 175 9 = some (.ireturn, 1, [], .null) := by decide +kernel
theorem w175_9 : Wp d 175 9 [l0, l1] [.int x] h Q = Q (.inl (some (.int x)), h) := W_iret f175_9 hr175
theorem f175_10 : fetch 175 10 = some (.aload_n 0, 1, [], .null) := by decide +kernel
theorem w175_10 : Wp d 175 10 [some (.ref a), l1] st h Q = Wp d 175 11 [some (.ref a), l1] (.ref a :: st) h Q := W_go f175_10 rfl
theorem f175_11 : fetch 175 11 = some (.getfield 36, 3, [10, 11, 6143, 0], .null) := by decide +kernel
theorem w175_11 : Wp d 175 11 [l0, l1] (.ref a :: st) h Q = gP (h.2 a) 10 11 (fun w => Wp d 175 14 [l0, l1] (w :: st) h Q) := W_get f175_11 rfl
theorem f175_14 : fetch 175 14 = some (.getfield 213, 3, [8, 1, 5176, 1], .null) := by decide +kernel
theorem w175_14 : Wp d 175 14 [l0, l1] (.ref a :: st) h Q = gP (h.2 a) 8 1 (fun w => Wp d 175 17 [l0, l1] (w :: st) h Q) := W_get f175_14 rfl
theorem f175_17 : fetch 175 17 = some (.bipush 6, 2, [], .null) := by decide +kernel
theorem w175_17 : Wp d 175 17 [l0, l1] st h Q = Wp d 175 19 [l0, l1] (.int (6 : Int32) :: st) h Q := W_go f175_17 rfl
theorem f175_19 : fetch 175 19 = some (.if_icmp .ne 5, 3, [], .null) := by decide +kernel
theorem w175_19 : Wp d 175 19 [l0, l1] (.int y :: .int x :: st) h Q = if icond .ne x y = true then Wp d 175 24 [l0, l1] st h Q else Wp d 175 22 [l0, l1] st h Q := W_if f175_19 rfl
theorem f175_22 : fetch 175 22 = some (.iconst 4, 1, [], .null) := by decide +kernel
theorem w175_22 : Wp d 175 22 [l0, l1] st h Q = Wp d 175 23 [l0, l1] (.int (4 : Int32) :: st) h Q := W_go f175_22 rfl
theorem f175_23 : fetch 175 23 = some (.ireturn, 1, [], .null) := by decide +kernel
theorem w175_23 : Wp d 175 23 [l0, l1] [.int x] h Q = Q (.inl (some (.int x)), h) := W_iret f175_23 hr175
theorem f175_24 : fetch 175 24 = some (.aload_n 0, 1, [], .null) := by decide +kernel
theorem w175_24 : Wp d 175 24 [some (.ref a), l1] st h Q = Wp d 175 25 [some (.ref a), l1] (.ref a :: st) h Q := W_go f175_24 rfl
theorem f175_25 : fetch 175 25 = some (.getfield 36, 3, [10, 11, 6143, 0], .null) := by decide +kernel
theorem w175_25 : Wp d 175 25 [l0, l1] (.ref a :: st) h Q = gP (h.2 a) 10 11 (fun w => Wp d 175 28 [l0, l1] (w :: st) h Q) := W_get f175_25 rfl
theorem f175_28 : fetch 175 28 = some (.dup, 1, [], .null) := by decide +kernel
theorem w175_28i : Wp d 175 28 [l0, l1] (.int x :: st) h Q = Wp d 175 29 [l0, l1] (.int x :: .int x :: st) h Q := W_go f175_28 rfl
theorem w175_28 : Wp d 175 28 [l0, l1] (.ref a :: st) h Q = Wp d 175 29 [l0, l1] (.ref a :: .ref a :: st) h Q := W_go f175_28 rfl
theorem f175_29 : fetch 175 29 = some (.getfield 213, 3, [8, 1, 5176, 1], .null) := by decide +kernel
theorem w175_29 : Wp d 175 29 [l0, l1] (.ref a :: st) h Q = gP (h.2 a) 8 1 (fun w => Wp d 175 32 [l0, l1] (w :: st) h Q) := W_get f175_29 rfl
theorem f175_32 : fetch 175 32 = some (.iconst 1, 1, [], .null) := by decide +kernel
theorem w175_32 : Wp d 175 32 [l0, l1] st h Q = Wp d 175 33 [l0, l1] (.int (1 : Int32) :: st) h Q := W_go f175_32 rfl
theorem f175_33 : fetch 175 33 = some (.iadd, 1, [], .null) := by decide +kernel
theorem w175_33 : Wp d 175 33 [l0, l1] (.int y :: .int x :: st) h Q = Wp d 175 34 [l0, l1] (.int (x + y) :: st) h Q := W_go f175_33 rfl
theorem f175_34 : fetch 175 34 = some (.putfield 213, 3, [8, 1, 5176, 1], .null) := by decide +kernel
theorem w175_34 : Wp d 175 34 [l0, l1] (v :: .ref a :: st) h Q = pP (h.2 a) 8 1 (ftOf 8 1) v a (fun c => Wp d 175 37 [l0, l1] st (hset h a c) Q) := W_put f175_34 (by rfl)
theorem f175_37 : fetch 175 37 = some (.iconst 0, 1, [], .null) := by decide +kernel
theorem w175_37 : Wp d 175 37 [l0, l1] st h Q = Wp d 175 38 [l0, l1] (.int (0 : Int32) :: st) h Q := W_go f175_37 rfl
theorem f175_38 : fetch 175 38 = some (.ireturn, 1, [], .null) := by decide +kernel
theorem w175_38 : Wp d 175 38 [l0, l1] [.int x] h Q = Q (.inl (some (.int x)), h) := W_iret f175_38 hr175
theorem hm176 : mhs 176 = [] := by decide +kernel
theorem hr176 : mret 176 = (some .int) := by decide +kernel
theorem f176_0 : fetch 176 0 = some (.aload_n 0, 1, [], .null) := by decide +kernel
theorem w176_0 : Wp d 176 0 [some (.ref a)] st h Q = Wp d 176 1 [some (.ref a)] (.ref a :: st) h Q := W_go f176_0 rfl
theorem f176_1 : fetch 176 1 = some (.getfield 36, 3, [10, 11, 6143, 0], .null) := by decide +kernel
theorem w176_1 : Wp d 176 1 [l0] (.ref a :: st) h Q = gP (h.2 a) 10 11 (fun w => Wp d 176 4 [l0] (w :: st) h Q) := W_get f176_1 rfl
theorem f176_4 : fetch 176 4 = some (.getfield 216, 3, [8, 2, 5177, 1], .null) := by decide +kernel
theorem w176_4 : Wp d 176 4 [l0] (.ref a :: st) h Q = gP (h.2 a) 8 2 (fun w => Wp d 176 7 [l0] (w :: st) h Q) := W_get f176_4 rfl
theorem f176_7 : fetch 176 7 = some (.bipush 80, 2, [], .null) := by decide +kernel
theorem w176_7 : Wp d 176 7 [l0] st h Q = Wp d 176 9 [l0] (.int (80 : Int32) :: st) h Q := W_go f176_7 rfl
theorem f176_9 : fetch 176 9 = some (.if_icmp .ne 5, 3, [], .null) := by decide +kernel
theorem w176_9 : Wp d 176 9 [l0] (.int y :: .int x :: st) h Q = if icond .ne x y = true then Wp d 176 14 [l0] st h Q else Wp d 176 12 [l0] st h Q := W_if f176_9 rfl
theorem f176_12 : fetch 176 12 = some (.iconst 4, 1, [], .null) := by decide +kernel
theorem w176_12 : Wp d 176 12 [l0] st h Q = Wp d 176 13 [l0] (.int (4 : Int32) :: st) h Q := W_go f176_12 rfl
theorem f176_13 : fetch 176 13 = some (.ireturn, 1, [], .null) := by decide +kernel
theorem w176_13 : Wp d 176 13 [l0] [.int x] h Q = Q (.inl (some (.int x)), h) := W_iret f176_13 hr176
theorem f176_14 : fetch 176 14 = some (.aload_n 0, 1, [], .null) := by decide +kernel
theorem w176_14 : Wp d 176 14 [some (.ref a)] st h Q = Wp d 176 15 [some (.ref a)] (.ref a :: st) h Q := W_go f176_14 rfl
theorem f176_15 : fetch 176 15 = some (.getfield 36, 3, [10, 11, 6143, 0], .null) := by decide +kernel
theorem w176_15 : Wp d 176 15 [l0] (.ref a :: st) h Q = gP (h.2 a) 10 11 (fun w => Wp d 176 18 [l0] (w :: st) h Q) := W_get f176_15 rfl
theorem f176_18 : fetch 176 18 = some (.dup, 1, [], .null) := by decide +kernel
theorem w176_18i : Wp d 176 18 [l0] (.int x :: st) h Q = Wp d 176 19 [l0] (.int x :: .int x :: st) h Q := W_go f176_18 rfl
theorem w176_18 : Wp d 176 18 [l0] (.ref a :: st) h Q = Wp d 176 19 [l0] (.ref a :: .ref a :: st) h Q := W_go f176_18 rfl
theorem f176_19 : fetch 176 19 = some (.getfield 216, 3, [8, 2, 5177, 1], .null) := by decide +kernel
theorem w176_19 : Wp d 176 19 [l0] (.ref a :: st) h Q = gP (h.2 a) 8 2 (fun w => Wp d 176 22 [l0] (w :: st) h Q) := W_get f176_19 rfl
theorem f176_22 : fetch 176 22 = some (.iconst 1, 1, [], .null) := by decide +kernel
theorem w176_22 : Wp d 176 22 [l0] st h Q = Wp d 176 23 [l0] (.int (1 : Int32) :: st) h Q := W_go f176_22 rfl
theorem f176_23 : fetch 176 23 = some (.iadd, 1, [], .null) := by decide +kernel
theorem w176_23 : Wp d 176 23 [l0] (.int y :: .int x :: st) h Q = Wp d 176 24 [l0] (.int (x + y) :: st) h Q := W_go f176_23 rfl
theorem f176_24 : fetch 176 24 = some (.putfield 216, 3, [8, 2, 5177, 1], .null) := by decide +kernel
theorem w176_24 : Wp d 176 24 [l0] (v :: .ref a :: st) h Q = pP (h.2 a) 8 2 (ftOf 8 2) v a (fun c => Wp d 176 27 [l0] st (hset h a c) Q) := W_put f176_24 (by rfl)
theorem f176_27 : fetch 176 27 = some (.iconst 0, 1, [], .null) := by decide +kernel
theorem w176_27 : Wp d 176 27 [l0] st h Q = Wp d 176 28 [l0] (.int (0 : Int32) :: st) h Q := W_go f176_27 rfl
theorem f176_28 : fetch 176 28 = some (.ireturn, 1, [], .null) := by decide +kernel
theorem w176_28 : Wp d 176 28 [l0] [.int x] h Q = Q (.inl (some (.int x)), h) := W_iret f176_28 hr176
theorem hm177 : mhs 177 = [] := by decide +kernel
theorem hr177 : mret 177 = (some .int) := by decide +kernel
theorem f177_0 : fetch 177 0 = some (.aload_n 0, 1, [], .null) := by decide +kernel
theorem w177_0 : Wp d 177 0 [some (.ref a), l1, l2] st h Q = Wp d 177 1 [some (.ref a), l1, l2] (.ref a :: st) h Q := W_go f177_0 rfl
theorem f177_1 : fetch 177 1 = some (.iload_n 1, 1, [], .null) := by decide +kernel
theorem w177_1 : Wp d 177 1 [l0, some (.int x), l2] st h Q = Wp d 177 2 [l0, some (.int x), l2] (.int x :: st) h Q := W_go f177_1 rfl
theorem f177_2 : fetch 177 2 = some (.aload_n 0, 1, [], .null) := by decide +kernel
theorem w177_2 : Wp d 177 2 [some (.ref a), l1, l2] st h Q = Wp d 177 3 [some (.ref a), l1, l2] (.ref a :: st) h Q := W_go f177_2 rfl
theorem f177_3 : fetch 177 3 = some (.getfield 26, 3, [10, 7, 6138, 0], .null) := by decide +kernel
theorem w177_3 : Wp d 177 3 [l0, l1, l2] (.ref a :: st) h Q = gP (h.2 a) 10 7 (fun w => Wp d 177 6 [l0, l1, l2] (w :: st) h Q) := W_get f177_3 rfl
theorem f177_6 : fetch 177 6 = some (.iload_n 1, 1, [], .null) := by decide +kernel
theorem w177_6 : Wp d 177 6 [l0, some (.int x), l2] st h Q = Wp d 177 7 [l0, some (.int x), l2] (.int x :: st) h Q := W_go f177_6 rfl
theorem f177_7 : fetch 177 7 = some (.iaload, 1, [], .null) := by decide +kernel
theorem w177_7 : Wp d 177 7 [l0, l1, l2] (.int x :: .ref a :: st) h Q = aP false (h.2 a) x (fun w => Wp d 177 8 [l0, l1, l2] (.int w :: st) h Q) := W_ald f177_7 rfl
theorem f177_8 : fetch 177 8 = some (.bipush 6, 2, [], .null) := by decide +kernel
theorem w177_8 : Wp d 177 8 [l0, l1, l2] st h Q = Wp d 177 10 [l0, l1, l2] (.int (6 : Int32) :: st) h Q := W_go f177_8 rfl
theorem f177_10 : fetch 177 10 = some (.if_icmp .ne 7, 3, [], .null) := by decide +kernel
theorem w177_10 : Wp d 177 10 [l0, l1, l2] (.int y :: .int x :: st) h Q = if icond .ne x y = true then Wp d 177 17 [l0, l1, l2] st h Q else Wp d 177 13 [l0, l1, l2] st h Q := W_if f177_10 rfl
theorem f177_13 : fetch 177 13 = some (.iconst 1, 1, [], .null) := by decide +kernel
theorem w177_13 : Wp d 177 13 [l0, l1, l2] st h Q = Wp d 177 14 [l0, l1, l2] (.int (1 : Int32) :: st) h Q := W_go f177_13 rfl
theorem f177_14 : fetch 177 14 = some (.goto 4, 3, [], .null) := by decide +kernel
theorem w177_14 : Wp d 177 14 [l0, l1, l2] st h Q = Wp d 177 18 [l0, l1, l2] st h Q := W_go f177_14 rfl
theorem f177_17 : fetch 177 17 = some (.iconst 2, 1, [], .null) := by decide +kernel
theorem w177_17 : Wp d 177 17 [l0, l1, l2] st h Q = Wp d 177 18 [l0, l1, l2] (.int (2 : Int32) :: st) h Q := W_go f177_17 rfl
theorem f177_18 : fetch 177 18 = some (.invokevirtual 207, 3, [172, 3, 11, 0, 7064, 1013, 7067, 7066, 58], .null) := by decide +kernel
theorem w177_18 (hp : psum st ≤ 8) : Wp d 177 18 [l0, l1, l2] (v2 :: v1 :: (.ref b) :: st) h Q = rP (h.2 b) 10 (Cp d 172 [(.ref b), v1, v2] h (fun o => cK o (fun w h2 => Wp d 177 21 [l0, l1, l2] (w.toList ++ st) h2 Q) (fun E h2 => Q (.inr E, h2)))) := (W_invV (st := st) f177_18 rfl rfl (by simp only [List.length_cons]; omega) rfl rfl hp).trans (by simp only [hm177, if_true])
theorem f177_21 : fetch 177 21 = some (.istore_n 2, 1, [], .null) := by decide +kernel
theorem w177_21 : Wp d 177 21 [l0, l1, l2] (.int x :: st) h Q = Wp d 177 22 [l0, kl l1, some (.int x)] st h Q := (W_st1 (pc' := 22) (k := 2) f177_21 rfl rfl (by simp only [List.length_cons, List.length_nil]; omega)).trans (by rw [pst1_succ]; rfl)
theorem f177_22 : fetch 177 22 = some (.aload_n 0, 1, [], .null) := by decide +kernel
theorem w177_22 : Wp d 177 22 [some (.ref a), l1, l2] st h Q = Wp d 177 23 [some (.ref a), l1, l2] (.ref a :: st) h Q := W_go f177_22 rfl
theorem f177_23 : fetch 177 23 = some (.getfield 36, 3, [10, 11, 6143, 0], .null) := by decide +kernel
theorem w177_23 : Wp d 177 23 [l0, l1, l2] (.ref a :: st) h Q = gP (h.2 a) 10 11 (fun w => Wp d 177 26 [l0, l1, l2] (w :: st) h Q) := W_get f177_23 rfl
theorem f177_26 : fetch 177 26 = some (.getfield 177, 3, [8, 13, 5204, 1], .null) := by decide +kernel
theorem w177_26 : Wp d 177 26 [l0, l1, l2] (.ref a :: st) h Q = gP (h.2 a) 8 13 (fun w => Wp d 177 29 [l0, l1, l2] (w :: st) h Q) := W_get f177_26 rfl
theorem f177_29 : fetch 177 29 = some (.aload_n 0, 1, [], .null) := by decide +kernel
theorem w177_29 : Wp d 177 29 [some (.ref a), l1, l2] st h Q = Wp d 177 30 [some (.ref a), l1, l2] (.ref a :: st) h Q := W_go f177_29 rfl
theorem f177_30 : fetch 177 30 = some (.getfield 36, 3, [10, 11, 6143, 0], .null) := by decide +kernel
theorem w177_30 : Wp d 177 30 [l0, l1, l2] (.ref a :: st) h Q = gP (h.2 a) 10 11 (fun w => Wp d 177 33 [l0, l1, l2] (w :: st) h Q) := W_get f177_30 rfl
theorem f177_33 : fetch 177 33 = some (.getfield 216, 3, [8, 2, 5177, 1], .null) := by decide +kernel
theorem w177_33 : Wp d 177 33 [l0, l1, l2] (.ref a :: st) h Q = gP (h.2 a) 8 2 (fun w => Wp d 177 36 [l0, l1, l2] (w :: st) h Q) := W_get f177_33 rfl
theorem f177_36 : fetch 177 36 = some (.iconst 1, 1, [], .null) := by decide +kernel
theorem w177_36 : Wp d 177 36 [l0, l1, l2] st h Q = Wp d 177 37 [l0, l1, l2] (.int (1 : Int32) :: st) h Q := W_go f177_36 rfl
theorem f177_37 : fetch 177 37 = some (.isub, 1, [], .null) := by decide +kernel
theorem w177_37 : Wp d 177 37 [l0, l1, l2] (.int y :: .int x :: st) h Q = Wp d 177 38 [l0, l1, l2] (.int (x - y) :: st) h Q := W_go f177_37 rfl
theorem f177_38 : fetch 177 38 = some (.iload_n 2, 1, [], .null) := by decide +kernel
theorem w177_38 : Wp d 177 38 [l0, l1, some (.int x)] st h Q = Wp d 177 39 [l0, l1, some (.int x)] (.int x :: st) h Q := W_go f177_38 rfl
theorem f177_39 : fetch 177 39 = some (.iastore, 1, [], .null) := by decide +kernel
theorem w177_39 : Wp d 177 39 [l0, l1, l2] (.int y :: .int x :: .ref a :: st) h Q = asP false (h.2 a) a x y (fun c => Wp d 177 40 [l0, l1, l2] st (hset h a c) Q) := W_ast f177_39 rfl
theorem f177_40 : fetch 177 40 = some (.iload_n 2, 1, [], .null) := by decide +kernel
theorem w177_40 : Wp d 177 40 [l0, l1, some (.int x)] st h Q = Wp d 177 41 [l0, l1, some (.int x)] (.int x :: st) h Q := W_go f177_40 rfl
theorem f177_41 : fetch 177 41 = some (.iconst (-1), 1, [], .null) := by decide +kernel
theorem w177_41 : Wp d 177 41 [l0, l1, l2] st h Q = Wp d 177 42 [l0, l1, l2] (.int (-1 : Int32) :: st) h Q := W_go f177_41 rfl
theorem f177_42 : fetch 177 42 = some (.if_icmp .eq 27, 3, [], .null) := by decide +kernel
theorem w177_42 : Wp d 177 42 [l0, l1, l2] (.int y :: .int x :: st) h Q = if icond .eq x y = true then Wp d 177 69 [l0, l1, l2] st h Q else Wp d 177 45 [l0, l1, l2] st h Q := W_if f177_42 rfl
theorem f177_45 : fetch 177 45 = some (.aload_n 0, 1, [], .null) := by decide +kernel
theorem w177_45 : Wp d 177 45 [some (.ref a), l1, l2] st h Q = Wp d 177 46 [some (.ref a), l1, l2] (.ref a :: st) h Q := W_go f177_45 rfl
theorem f177_46 : fetch 177 46 = some (.getfield 26, 3, [10, 7, 6138, 0], .null) := by decide +kernel
theorem w177_46 : Wp d 177 46 [l0, l1, l2] (.ref a :: st) h Q = gP (h.2 a) 10 7 (fun w => Wp d 177 49 [l0, l1, l2] (w :: st) h Q) := W_get f177_46 rfl
theorem f177_49 : fetch 177 49 = some (.iload_n 1, 1, [], .null) := by decide +kernel
theorem w177_49 : Wp d 177 49 [l0, some (.int x), l2] st h Q = Wp d 177 50 [l0, some (.int x), l2] (.int x :: st) h Q := W_go f177_49 rfl
theorem f177_50 : fetch 177 50 = some (.iaload, 1, [], .null) := by decide +kernel
theorem w177_50 : Wp d 177 50 [l0, l1, l2] (.int x :: .ref a :: st) h Q = aP false (h.2 a) x (fun w => Wp d 177 51 [l0, l1, l2] (.int w :: st) h Q) := W_ald f177_50 rfl
theorem f177_51 : fetch 177 51 = some (.bipush 7, 2, [], .null) := by decide +kernel
theorem w177_51 : Wp d 177 51 [l0, l1, l2] st h Q = Wp d 177 53 [l0, l1, l2] (.int (7 : Int32) :: st) h Q := W_go f177_51 rfl
theorem f177_53 : fetch 177 53 = some (.if_icmp .ne 20, 3, [], .null) := by decide +kernel
theorem w177_53 : Wp d 177 53 [l0, l1, l2] (.int y :: .int x :: st) h Q = if icond .ne x y = true then Wp d 177 73 [l0, l1, l2] st h Q else Wp d 177 56 [l0, l1, l2] st h Q := W_if f177_53 rfl
theorem f177_56 : fetch 177 56 = some (.iload_n 2, 1, [], .null) := by decide +kernel
theorem w177_56 : Wp d 177 56 [l0, l1, some (.int x)] st h Q = Wp d 177 57 [l0, l1, some (.int x)] (.int x :: st) h Q := W_go f177_56 rfl
theorem f177_57 : fetch 177 57 = some (.aload_n 0, 1, [], .null) := by decide +kernel
theorem w177_57 : Wp d 177 57 [some (.ref a), l1, l2] st h Q = Wp d 177 58 [some (.ref a), l1, l2] (.ref a :: st) h Q := W_go f177_57 rfl
theorem f177_58 : fetch 177 58 = some (.getfield 36, 3, [10, 11, 6143, 0], .null) := by decide +kernel
theorem w177_58 : Wp d 177 58 [l0, l1, l2] (.ref a :: st) h Q = gP (h.2 a) 10 11 (fun w => Wp d 177 61 [l0, l1, l2] (w :: st) h Q) := W_get f177_58 rfl
theorem f177_61 : fetch 177 61 = some (.getfield 213, 3, [8, 1, 5176, 1], .null) := by decide +kernel
theorem w177_61 : Wp d 177 61 [l0, l1, l2] (.ref a :: st) h Q = gP (h.2 a) 8 1 (fun w => Wp d 177 64 [l0, l1, l2] (w :: st) h Q) := W_get f177_61 rfl
theorem f177_64 : fetch 177 64 = some (.iconst 1, 1, [], .null) := by decide +kernel
theorem w177_64 : Wp d 177 64 [l0, l1, l2] st h Q = Wp d 177 65 [l0, l1, l2] (.int (1 : Int32) :: st) h Q := W_go f177_64 rfl
theorem f177_65 : fetch 177 65 = some (.isub, 1, [], .null) := by decide +kernel
theorem w177_65 : Wp d 177 65 [l0, l1, l2] (.int y :: .int x :: st) h Q = Wp d 177 66 [l0, l1, l2] (.int (x - y) :: st) h Q := W_go f177_65 rfl
theorem f177_66 : fetch 177 66 = some (.if_icmp .ne 7, 3, [], .null) := by decide +kernel
theorem w177_66 : Wp d 177 66 [l0, l1, l2] (.int y :: .int x :: st) h Q = if icond .ne x y = true then Wp d 177 73 [l0, l1, l2] st h Q else Wp d 177 69 [l0, l1, l2] st h Q := W_if f177_66 rfl
theorem f177_69 : fetch 177 69 = some (.iconst 3, 1, [], .null) := by decide +kernel
theorem w177_69 : Wp d 177 69 [l0, l1, l2] st h Q = Wp d 177 70 [l0, l1, l2] (.int (3 : Int32) :: st) h Q := W_go f177_69 rfl
theorem f177_70 : fetch 177 70 = some (.goto 4, 3, [], .null) := by decide +kernel
theorem w177_70 : Wp d 177 70 [l0, l1, l2] st h Q = Wp d 177 74 [l0, l1, l2] st h Q := W_go f177_70 rfl
theorem f177_73 : fetch 177 73 = some (.iconst 0, 1, [], .null) := by decide +kernel
theorem w177_73 : Wp d 177 73 [l0, l1, l2] st h Q = Wp d 177 74 [l0, l1, l2] (.int (0 : Int32) :: st) h Q := W_go f177_73 rfl
theorem f177_74 : fetch 177 74 = some (.ireturn, 1, [], .null) := by decide +kernel
theorem w177_74 : Wp d 177 74 [l0, l1, l2] [.int x] h Q = Q (.inl (some (.int x)), h) := W_iret f177_74 hr177
theorem hm178 : mhs 178 = [] := by decide +kernel
theorem hr178 : mret 178 = (some .int) := by decide +kernel
theorem f178_0 : fetch 178 0 = some (.aload_n 2, 1, [], .null) := by decide +kernel
theorem w178_0 : Wp d 178 0 [l0, l1, some (.ref a), l3, l4] st h Q = Wp d 178 1 [l0, l1, some (.ref a), l3, l4] (.ref a :: st) h Q := W_go f178_0 rfl
theorem f178_1 : fetch 178 1 = some (.aload_n 0, 1, [], .null) := by decide +kernel
theorem w178_1 : Wp d 178 1 [some (.ref a), l1, l2, l3, l4] st h Q = Wp d 178 2 [some (.ref a), l1, l2, l3, l4] (.ref a :: st) h Q := W_go f178_1 rfl
theorem f178_2 : fetch 178 2 = some (.getfield 36, 3, [10, 11, 6143, 0], .null) := by decide +kernel
theorem w178_2 : Wp d 178 2 [l0, l1, l2, l3, l4] (.ref a :: st) h Q = gP (h.2 a) 10 11 (fun w => Wp d 178 5 [l0, l1, l2, l3, l4] (w :: st) h Q) := W_get f178_2 rfl
theorem f178_5 : fetch 178 5 = some (.getfield 60, 3, [8, 0, 5174, 1], .null) := by decide +kernel
theorem w178_5 : Wp d 178 5 [l0, l1, l2, l3, l4] (.ref a :: st) h Q = gP (h.2 a) 8 0 (fun w => Wp d 178 8 [l0, l1, l2, l3, l4] (w :: st) h Q) := W_get f178_5 rfl
theorem f178_8 : fetch 178 8 = some (.iconst 1, 1, [], .null) := by decide +kernel
theorem w178_8 : Wp d 178 8 [l0, l1, l2, l3, l4] st h Q = Wp d 178 9 [l0, l1, l2, l3, l4] (.int (1 : Int32) :: st) h Q := W_go f178_8 rfl
theorem f178_9 : fetch 178 9 = some (.isub, 1, [], .null) := by decide +kernel
theorem w178_9 : Wp d 178 9 [l0, l1, l2, l3, l4] (.int y :: .int x :: st) h Q = Wp d 178 10 [l0, l1, l2, l3, l4] (.int (x - y) :: st) h Q := W_go f178_9 rfl
theorem f178_10 : fetch 178 10 = some (.aload_n 0, 1, [], .null) := by decide +kernel
theorem w178_10 : Wp d 178 10 [some (.ref a), l1, l2, l3, l4] st h Q = Wp d 178 11 [some (.ref a), l1, l2, l3, l4] (.ref a :: st) h Q := W_go f178_10 rfl
theorem f178_11 : fetch 178 11 = some (.iload_n 1, 1, [], .null) := by decide +kernel
theorem w178_11 : Wp d 178 11 [l0, some (.int x), l2, l3, l4] st h Q = Wp d 178 12 [l0, some (.int x), l2, l3, l4] (.int x :: st) h Q := W_go f178_11 rfl
theorem f178_12 : fetch 178 12 = some (.invokevirtual 201, 3, [170, 2, 11, 0, 7044, 1013, 7047, 7046, 53], .null) := by decide +kernel
theorem w178_12 (hp : psum st ≤ 8) : Wp d 178 12 [l0, l1, l2, l3, l4] (v1 :: (.ref b) :: st) h Q = rP (h.2 b) 10 (Cp d 170 [(.ref b), v1] h (fun o => cK o (fun w h2 => Wp d 178 15 [l0, l1, l2, l3, l4] (w.toList ++ st) h2 Q) (fun E h2 => Q (.inr E, h2)))) := (W_invV (st := st) f178_12 rfl rfl (by simp only [List.length_cons]; omega) rfl rfl hp).trans (by simp only [hm178, if_true])
theorem f178_15 : fetch 178 15 = some (.iastore, 1, [], .null) := by decide +kernel
theorem w178_15 : Wp d 178 15 [l0, l1, l2, l3, l4] (.int y :: .int x :: .ref a :: st) h Q = asP false (h.2 a) a x y (fun c => Wp d 178 16 [l0, l1, l2, l3, l4] st (hset h a c) Q) := W_ast f178_15 rfl
theorem f178_16 : fetch 178 16 = some (.aload_n 0, 1, [], .null) := by decide +kernel
theorem w178_16 : Wp d 178 16 [some (.ref a), l1, l2, l3, l4] st h Q = Wp d 178 17 [some (.ref a), l1, l2, l3, l4] (.ref a :: st) h Q := W_go f178_16 rfl
theorem f178_17 : fetch 178 17 = some (.iload_n 1, 1, [], .null) := by decide +kernel
theorem w178_17 : Wp d 178 17 [l0, some (.int x), l2, l3, l4] st h Q = Wp d 178 18 [l0, some (.int x), l2, l3, l4] (.int x :: st) h Q := W_go f178_17 rfl
theorem f178_18 : fetch 178 18 = some (.invokevirtual 201, 3, [170, 2, 11, 0, 7044, 1013, 7047, 7046, 53], .null) := by decide +kernel
theorem w178_18 (hp : psum st ≤ 8) : Wp d 178 18 [l0, l1, l2, l3, l4] (v1 :: (.ref b) :: st) h Q = rP (h.2 b) 10 (Cp d 170 [(.ref b), v1] h (fun o => cK o (fun w h2 => Wp d 178 21 [l0, l1, l2, l3, l4] (w.toList ++ st) h2 Q) (fun E h2 => Q (.inr E, h2)))) := (W_invV (st := st) f178_18 rfl rfl (by simp only [List.length_cons]; omega) rfl rfl hp).trans (by simp only [hm178, if_true])
theorem f178_21 : fetch 178 21 = some (.iload_n 3, 1, [], .null) := by decide +kernel
theorem w178_21 : Wp d 178 21 [l0, l1, l2, some (.int x), l4] st h Q = Wp d 178 22 [l0, l1, l2, some (.int x), l4] (.int x :: st) h Q := W_go f178_21 rfl
theorem f178_22 : fetch 178 22 = some (.iload 4, 2, [], .null) := by decide +kernel
theorem w178_22 : Wp d 178 22 [l0, l1, l2, l3, some (.int x)] st h Q = Wp d 178 24 [l0, l1, l2, l3, some (.int x)] (.int x :: st) h Q := W_go f178_22 rfl
theorem f178_24 : fetch 178 24 = some (.invokestatic 63, 3, [148, 3, 0, 0, 6199, 1013, 6201, 6200], .null) := by decide +kernel
theorem w178_24 (hp : psum st ≤ 8) : Wp d 178 24 [l0, l1, l2, l3, l4] (v2 :: v1 :: v0 :: st) h Q = Cp d 148 [v0, v1, v2] h (fun o => cK o (fun w h2 => Wp d 178 27 [l0, l1, l2, l3, l4] (w.toList ++ st) h2 Q) (fun _ _ => False)) := (W_invS (st := st) f178_24 rfl rfl (by simp only [List.length_cons]; omega) rfl rfl hp)
theorem f178_27 : fetch 178 27 = some (.ifCond .eq 7, 3, [], .null) := by decide +kernel
theorem w178_27 : Wp d 178 27 [l0, l1, l2, l3, l4] (.int x :: st) h Q = if icond .eq x 0 = true then Wp d 178 34 [l0, l1, l2, l3, l4] st h Q else Wp d 178 30 [l0, l1, l2, l3, l4] st h Q := W_if f178_27 rfl
theorem f178_30 : fetch 178 30 = some (.iconst 0, 1, [], .null) := by decide +kernel
theorem w178_30 : Wp d 178 30 [l0, l1, l2, l3, l4] st h Q = Wp d 178 31 [l0, l1, l2, l3, l4] (.int (0 : Int32) :: st) h Q := W_go f178_30 rfl
theorem f178_31 : fetch 178 31 = some (.goto 4, 3, [], .null) := by decide +kernel
theorem w178_31 : Wp d 178 31 [l0, l1, l2, l3, l4] st h Q = Wp d 178 35 [l0, l1, l2, l3, l4] st h Q := W_go f178_31 rfl
theorem f178_34 : fetch 178 34 = some (.iconst 5, 1, [], .null) := by decide +kernel
theorem w178_34 : Wp d 178 34 [l0, l1, l2, l3, l4] st h Q = Wp d 178 35 [l0, l1, l2, l3, l4] (.int (5 : Int32) :: st) h Q := W_go f178_34 rfl
theorem f178_35 : fetch 178 35 = some (.ireturn, 1, [], .null) := by decide +kernel
theorem w178_35 : Wp d 178 35 [l0, l1, l2, l3, l4] [.int x] h Q = Q (.inl (some (.int x)), h) := W_iret f178_35 hr178
theorem hm179 : mhs 179 = [] := by decide +kernel
theorem hr179 : mret 179 = (some .int) := by decide +kernel
theorem f179_0 : fetch 179 0 = some (.aload_n 0, 1, [], .null) := by decide +kernel
theorem w179_0 : Wp d 179 0 [some (.ref a), l1] st h Q = Wp d 179 1 [some (.ref a), l1] (.ref a :: st) h Q := W_go f179_0 rfl
theorem f179_1 : fetch 179 1 = some (.getfield 26, 3, [10, 7, 6138, 0], .null) := by decide +kernel
theorem w179_1 : Wp d 179 1 [l0, l1] (.ref a :: st) h Q = gP (h.2 a) 10 7 (fun w => Wp d 179 4 [l0, l1] (w :: st) h Q) := W_get f179_1 rfl
theorem f179_4 : fetch 179 4 = some (.iload_n 1, 1, [], .null) := by decide +kernel
theorem w179_4 : Wp d 179 4 [l0, some (.int x)] st h Q = Wp d 179 5 [l0, some (.int x)] (.int x :: st) h Q := W_go f179_4 rfl
theorem f179_5 : fetch 179 5 = some (.iaload, 1, [], .null) := by decide +kernel
theorem w179_5 : Wp d 179 5 [l0, l1] (.int x :: .ref a :: st) h Q = aP false (h.2 a) x (fun w => Wp d 179 6 [l0, l1] (.int w :: st) h Q) := W_ald f179_5 rfl
theorem f179_6 : fetch 179 6 = some (.tableswitch 121 1 8 #[46, 52, 58, 74, 90, 95, 95, 101], 46, [], .null) := by decide +kernel
theorem w179_6 : Wp d 179 6 [l0, l1] (.int x :: st) h Q = Wp d 179 (ptable 6 121 1 8 #[46, 52, 58, 74, 90, 95, 95, 101] x) [l0, l1] st h Q := W_go f179_6 rfl
theorem f179_52 : fetch 179 52 = some (.aload_n 0, 1, [], .null) := by decide +kernel
theorem w179_52 : Wp d 179 52 [some (.ref a), l1] st h Q = Wp d 179 53 [some (.ref a), l1] (.ref a :: st) h Q := W_go f179_52 rfl
theorem f179_53 : fetch 179 53 = some (.iload_n 1, 1, [], .null) := by decide +kernel
theorem w179_53 : Wp d 179 53 [l0, some (.int x)] st h Q = Wp d 179 54 [l0, some (.int x)] (.int x :: st) h Q := W_go f179_53 rfl
theorem f179_54 : fetch 179 54 = some (.invokevirtual 219, 3, [174, 2, 11, 0, 7056, 1013, 7059, 7058, 56], .null) := by decide +kernel
theorem w179_54 (hp : psum st ≤ 8) : Wp d 179 54 [l0, l1] (v1 :: (.ref b) :: st) h Q = rP (h.2 b) 10 (Cp d 174 [(.ref b), v1] h (fun o => cK o (fun w h2 => Wp d 179 57 [l0, l1] (w.toList ++ st) h2 Q) (fun E h2 => Q (.inr E, h2)))) := (W_invV (st := st) f179_54 rfl rfl (by simp only [List.length_cons]; omega) rfl rfl hp).trans (by simp only [hm179, if_true])
theorem f179_57 : fetch 179 57 = some (.ireturn, 1, [], .null) := by decide +kernel
theorem w179_57 : Wp d 179 57 [l0, l1] [.int x] h Q = Q (.inl (some (.int x)), h) := W_iret f179_57 hr179
theorem f179_58 : fetch 179 58 = some (.aload_n 0, 1, [], .null) := by decide +kernel
theorem w179_58 : Wp d 179 58 [some (.ref a), l1] st h Q = Wp d 179 59 [some (.ref a), l1] (.ref a :: st) h Q := W_go f179_58 rfl
theorem f179_59 : fetch 179 59 = some (.iload_n 1, 1, [], .null) := by decide +kernel
theorem w179_59 : Wp d 179 59 [l0, some (.int x)] st h Q = Wp d 179 60 [l0, some (.int x)] (.int x :: st) h Q := W_go f179_59 rfl
theorem f179_60 : fetch 179 60 = some (.invokevirtual 222, 3, [175, 2, 11, 0, 7072, 1013, 7075, 7074, 60], .null) := by decide +kernel
theorem w179_60 (hp : psum st ≤ 8) : Wp d 179 60 [l0, l1] (v1 :: (.ref b) :: st) h Q = rP (h.2 b) 10 (Cp d 175 [(.ref b), v1] h (fun o => cK o (fun w h2 => Wp d 179 63 [l0, l1] (w.toList ++ st) h2 Q) (fun E h2 => Q (.inr E, h2)))) := (W_invV (st := st) f179_60 rfl rfl (by simp only [List.length_cons]; omega) rfl rfl hp).trans (by simp only [hm179, if_true])
theorem f179_63 : fetch 179 63 = some (.ireturn, 1, [], .null) := by decide +kernel
theorem w179_63 : Wp d 179 63 [l0, l1] [.int x] h Q = Q (.inl (some (.int x)), h) := W_iret f179_63 hr179
theorem f179_64 : fetch 179 64 = some (.aload_n 0, 1, [], .null) := by decide +kernel
theorem w179_64 : Wp d 179 64 [some (.ref a), l1] st h Q = Wp d 179 65 [some (.ref a), l1] (.ref a :: st) h Q := W_go f179_64 rfl
theorem f179_65 : fetch 179 65 = some (.iload_n 1, 1, [], .null) := by decide +kernel
theorem w179_65 : Wp d 179 65 [l0, some (.int x)] st h Q = Wp d 179 66 [l0, some (.int x)] (.int x :: st) h Q := W_go f179_65 rfl
theorem f179_66 : fetch 179 66 = some (.aload_n 0, 1, [], .null) := by decide +kernel
theorem w179_66 : Wp d 179 66 [some (.ref a), l1] st h Q = Wp d 179 67 [some (.ref a), l1] (.ref a :: st) h Q := W_go f179_66 rfl
theorem f179_67 : fetch 179 67 = some (.getfield 36, 3, [10, 11, 6143, 0], .null) := by decide +kernel
theorem w179_67 : Wp d 179 67 [l0, l1] (.ref a :: st) h Q = gP (h.2 a) 10 11 (fun w => Wp d 179 70 [l0, l1] (w :: st) h Q) := W_get f179_67 rfl
theorem f179_70 : fetch 179 70 = some (.getfield 225, 3, [8, 3, 5180, 1], .null) := by decide +kernel
theorem w179_70 : Wp d 179 70 [l0, l1] (.ref a :: st) h Q = gP (h.2 a) 8 3 (fun w => Wp d 179 73 [l0, l1] (w :: st) h Q) := W_get f179_70 rfl
theorem f179_73 : fetch 179 73 = some (.iconst 0, 1, [], .null) := by decide +kernel
theorem w179_73 : Wp d 179 73 [l0, l1] st h Q = Wp d 179 74 [l0, l1] (.int (0 : Int32) :: st) h Q := W_go f179_73 rfl
theorem f179_74 : fetch 179 74 = some (.bipush 29, 2, [], .null) := by decide +kernel
theorem w179_74 : Wp d 179 74 [l0, l1] st h Q = Wp d 179 76 [l0, l1] (.int (29 : Int32) :: st) h Q := W_go f179_74 rfl
theorem f179_76 : fetch 179 76 = some (.invokevirtual 228, 3, [178, 5, 11, 0, 7076, 1013, 7079, 7078, 61], .null) := by decide +kernel
theorem w179_76 (hp : psum st ≤ 8) : Wp d 179 76 [l0, l1] (v4 :: v3 :: v2 :: v1 :: (.ref b) :: st) h Q = rP (h.2 b) 10 (Cp d 178 [(.ref b), v1, v2, v3, v4] h (fun o => cK o (fun w h2 => Wp d 179 79 [l0, l1] (w.toList ++ st) h2 Q) (fun E h2 => Q (.inr E, h2)))) := (W_invV (st := st) f179_76 rfl rfl (by simp only [List.length_cons]; omega) rfl rfl hp).trans (by simp only [hm179, if_true])
theorem f179_79 : fetch 179 79 = some (.ireturn, 1, [], .null) := by decide +kernel
theorem w179_79 : Wp d 179 79 [l0, l1] [.int x] h Q = Q (.inl (some (.int x)), h) := W_iret f179_79 hr179
theorem f179_80 : fetch 179 80 = some (.aload_n 0, 1, [], .null) := by decide +kernel
theorem w179_80 : Wp d 179 80 [some (.ref a), l1] st h Q = Wp d 179 81 [some (.ref a), l1] (.ref a :: st) h Q := W_go f179_80 rfl
theorem f179_81 : fetch 179 81 = some (.iload_n 1, 1, [], .null) := by decide +kernel
theorem w179_81 : Wp d 179 81 [l0, some (.int x)] st h Q = Wp d 179 82 [l0, some (.int x)] (.int x :: st) h Q := W_go f179_81 rfl
theorem f179_82 : fetch 179 82 = some (.aload_n 0, 1, [], .null) := by decide +kernel
theorem w179_82 : Wp d 179 82 [some (.ref a), l1] st h Q = Wp d 179 83 [some (.ref a), l1] (.ref a :: st) h Q := W_go f179_82 rfl
theorem f179_83 : fetch 179 83 = some (.getfield 36, 3, [10, 11, 6143, 0], .null) := by decide +kernel
theorem w179_83 : Wp d 179 83 [l0, l1] (.ref a :: st) h Q = gP (h.2 a) 10 11 (fun w => Wp d 179 86 [l0, l1] (w :: st) h Q) := W_get f179_83 rfl
theorem f179_86 : fetch 179 86 = some (.getfield 232, 3, [8, 4, 5183, 1], .null) := by decide +kernel
theorem w179_86 : Wp d 179 86 [l0, l1] (.ref a :: st) h Q = gP (h.2 a) 8 4 (fun w => Wp d 179 89 [l0, l1] (w :: st) h Q) := W_get f179_86 rfl
theorem f179_89 : fetch 179 89 = some (.iconst 1, 1, [], .null) := by decide +kernel
theorem w179_89 : Wp d 179 89 [l0, l1] st h Q = Wp d 179 90 [l0, l1] (.int (1 : Int32) :: st) h Q := W_go f179_89 rfl
theorem f179_90 : fetch 179 90 = some (.bipush 30, 2, [], .null) := by decide +kernel
theorem w179_90 : Wp d 179 90 [l0, l1] st h Q = Wp d 179 92 [l0, l1] (.int (30 : Int32) :: st) h Q := W_go f179_90 rfl
theorem f179_92 : fetch 179 92 = some (.invokevirtual 228, 3, [178, 5, 11, 0, 7076, 1013, 7079, 7078, 61], .null) := by decide +kernel
theorem w179_92 (hp : psum st ≤ 8) : Wp d 179 92 [l0, l1] (v4 :: v3 :: v2 :: v1 :: (.ref b) :: st) h Q = rP (h.2 b) 10 (Cp d 178 [(.ref b), v1, v2, v3, v4] h (fun o => cK o (fun w h2 => Wp d 179 95 [l0, l1] (w.toList ++ st) h2 Q) (fun E h2 => Q (.inr E, h2)))) := (W_invV (st := st) f179_92 rfl rfl (by simp only [List.length_cons]; omega) rfl rfl hp).trans (by simp only [hm179, if_true])
theorem f179_95 : fetch 179 95 = some (.ireturn, 1, [], .null) := by decide +kernel
theorem w179_95 : Wp d 179 95 [l0, l1] [.int x] h Q = Q (.inl (some (.int x)), h) := W_iret f179_95 hr179
theorem f179_96 : fetch 179 96 = some (.aload_n 0, 1, [], .null) := by decide +kernel
theorem w179_96 : Wp d 179 96 [some (.ref a), l1] st h Q = Wp d 179 97 [some (.ref a), l1] (.ref a :: st) h Q := W_go f179_96 rfl
theorem f179_97 : fetch 179 97 = some (.invokevirtual 235, 3, [176, 1, 11, 0, 7080, 1013, 7083, 7082, 62], .null) := by decide +kernel
theorem w179_97 (hp : psum st ≤ 8) : Wp d 179 97 [l0, l1] ((.ref b) :: st) h Q = rP (h.2 b) 10 (Cp d 176 [(.ref b)] h (fun o => cK o (fun w h2 => Wp d 179 100 [l0, l1] (w.toList ++ st) h2 Q) (fun E h2 => Q (.inr E, h2)))) := (W_invV (st := st) f179_97 rfl rfl (by simp only [List.length_cons]; omega) rfl rfl hp).trans (by simp only [hm179, if_true])
theorem f179_100 : fetch 179 100 = some (.ireturn, 1, [], .null) := by decide +kernel
theorem w179_100 : Wp d 179 100 [l0, l1] [.int x] h Q = Q (.inl (some (.int x)), h) := W_iret f179_100 hr179
theorem f179_101 : fetch 179 101 = some (.aload_n 0, 1, [], .null) := by decide +kernel
theorem w179_101 : Wp d 179 101 [some (.ref a), l1] st h Q = Wp d 179 102 [some (.ref a), l1] (.ref a :: st) h Q := W_go f179_101 rfl
theorem f179_102 : fetch 179 102 = some (.iload_n 1, 1, [], .null) := by decide +kernel
theorem w179_102 : Wp d 179 102 [l0, some (.int x)] st h Q = Wp d 179 103 [l0, some (.int x)] (.int x :: st) h Q := W_go f179_102 rfl
theorem f179_103 : fetch 179 103 = some (.invokevirtual 238, 3, [177, 2, 11, 0, 7084, 1013, 7087, 7086, 63], .null) := by decide +kernel
theorem w179_103 (hp : psum st ≤ 8) : Wp d 179 103 [l0, l1] (v1 :: (.ref b) :: st) h Q = rP (h.2 b) 10 (Cp d 177 [(.ref b), v1] h (fun o => cK o (fun w h2 => Wp d 179 106 [l0, l1] (w.toList ++ st) h2 Q) (fun E h2 => Q (.inr E, h2)))) := (W_invV (st := st) f179_103 rfl rfl (by simp only [List.length_cons]; omega) rfl rfl hp).trans (by simp only [hm179, if_true])
theorem f179_106 : fetch 179 106 = some (.ireturn, 1, [], .null) := by decide +kernel
theorem w179_106 : Wp d 179 106 [l0, l1] [.int x] h Q = Q (.inl (some (.int x)), h) := W_iret f179_106 hr179
theorem f179_107 : fetch 179 107 = some (.aload_n 0, 1, [], .null) := by decide +kernel
theorem w179_107 : Wp d 179 107 [some (.ref a), l1] st h Q = Wp d 179 108 [some (.ref a), l1] (.ref a :: st) h Q := W_go f179_107 rfl
theorem f179_108 : fetch 179 108 = some (.iload_n 1, 1, [], .null) := by decide +kernel
theorem w179_108 : Wp d 179 108 [l0, some (.int x)] st h Q = Wp d 179 109 [l0, some (.int x)] (.int x :: st) h Q := W_go f179_108 rfl
theorem f179_109 : fetch 179 109 = some (.invokevirtual 201, 3, [170, 2, 11, 0, 7044, 1013, 7047, 7046, 53], .null) := by decide +kernel
theorem w179_109 (hp : psum st ≤ 8) : Wp d 179 109 [l0, l1] (v1 :: (.ref b) :: st) h Q = rP (h.2 b) 10 (Cp d 170 [(.ref b), v1] h (fun o => cK o (fun w h2 => Wp d 179 112 [l0, l1] (w.toList ++ st) h2 Q) (fun E h2 => Q (.inr E, h2)))) := (W_invV (st := st) f179_109 rfl rfl (by simp only [List.length_cons]; omega) rfl rfl hp).trans (by simp only [hm179, if_true])
theorem f179_112 : fetch 179 112 = some (.iconst 0, 1, [], .null) := by decide +kernel
theorem w179_112 : Wp d 179 112 [l0, l1] st h Q = Wp d 179 113 [l0, l1] (.int (0 : Int32) :: st) h Q := W_go f179_112 rfl
theorem f179_113 : fetch 179 113 = some (.bipush 99, 2, [], .null) := by decide +kernel
theorem w179_113 : Wp d 179 113 [l0, l1] st h Q = Wp d 179 115 [l0, l1] (.int (99 : Int32) :: st) h Q := W_go f179_113 rfl
theorem f179_115 : fetch 179 115 = some (.invokestatic 63, 3, [148, 3, 0, 0, 6199, 1013, 6201, 6200], .null) := by decide +kernel
theorem w179_115 (hp : psum st ≤ 8) : Wp d 179 115 [l0, l1] (v2 :: v1 :: v0 :: st) h Q = Cp d 148 [v0, v1, v2] h (fun o => cK o (fun w h2 => Wp d 179 118 [l0, l1] (w.toList ++ st) h2 Q) (fun _ _ => False)) := (W_invS (st := st) f179_115 rfl rfl (by simp only [List.length_cons]; omega) rfl rfl hp)
theorem f179_118 : fetch 179 118 = some (.ifCond .eq 7, 3, [], .null) := by decide +kernel
theorem w179_118 : Wp d 179 118 [l0, l1] (.int x :: st) h Q = if icond .eq x 0 = true then Wp d 179 125 [l0, l1] st h Q else Wp d 179 121 [l0, l1] st h Q := W_if f179_118 rfl
theorem f179_121 : fetch 179 121 = some (.iconst 0, 1, [], .null) := by decide +kernel
theorem w179_121 : Wp d 179 121 [l0, l1] st h Q = Wp d 179 122 [l0, l1] (.int (0 : Int32) :: st) h Q := W_go f179_121 rfl
theorem f179_122 : fetch 179 122 = some (.goto 4, 3, [], .null) := by decide +kernel
theorem w179_122 : Wp d 179 122 [l0, l1] st h Q = Wp d 179 126 [l0, l1] st h Q := W_go f179_122 rfl
theorem f179_125 : fetch 179 125 = some (.iconst 5, 1, [], .null) := by decide +kernel
theorem w179_125 : Wp d 179 125 [l0, l1] st h Q = Wp d 179 126 [l0, l1] (.int (5 : Int32) :: st) h Q := W_go f179_125 rfl
theorem f179_126 : fetch 179 126 = some (.ireturn, 1, [], .null) := by decide +kernel
theorem w179_126 : Wp d 179 126 [l0, l1] [.int x] h Q = Q (.inl (some (.int x)), h) := W_iret f179_126 hr179
theorem f179_127 : fetch 179 127 = some (.iconst 0, 1, [], .null) := by decide +kernel
theorem w179_127 : Wp d 179 127 [l0, l1] st h Q = Wp d 179 128 [l0, l1] (.int (0 : Int32) :: st) h Q := W_go f179_127 rfl
theorem f179_128 : fetch 179 128 = some (.ireturn, 1, [], .null) := by decide +kernel
theorem w179_128 : Wp d 179 128 [l0, l1] [.int x] h Q = Q (.inl (some (.int x)), h) := W_iret f179_128 hr179
theorem hm180 : mhs 180 = [] := by decide +kernel
theorem hr180 : mret 180 = (some .int) := by decide +kernel
theorem f180_0 : fetch 180 0 = some (.aload_n 0, 1, [], .null) := by decide +kernel
theorem w180_0 : Wp d 180 0 [some (.ref a), l1, l2] st h Q = Wp d 180 1 [some (.ref a), l1, l2] (.ref a :: st) h Q := W_go f180_0 rfl
theorem f180_1 : fetch 180 1 = some (.new 29, 3, [8, 5167, 5168, 1014], .null) := by decide +kernel
theorem w180_1 : Wp d 180 1 [l0, l1, l2] st h Q = Wp d 180 4 [l0, l1, l2] (.ref h.1.1 :: st) (hnew h (pdef 8).length (.inr (8, pdef 8))) Q := W_go f180_1 rfl
theorem f180_4 : fetch 180 4 = some (.dup, 1, [], .null) := by decide +kernel
theorem w180_4i : Wp d 180 4 [l0, l1, l2] (.int x :: st) h Q = Wp d 180 5 [l0, l1, l2] (.int x :: .int x :: st) h Q := W_go f180_4 rfl
theorem w180_4 : Wp d 180 4 [l0, l1, l2] (.ref a :: st) h Q = Wp d 180 5 [l0, l1, l2] (.ref a :: .ref a :: st) h Q := W_go f180_4 rfl
theorem f180_5 : fetch 180 5 = some (.invokespecial 31, 3, [118, 1, 0, 1, 5169, 1014, 5171, 5170], .null) := by decide +kernel
theorem w180_5 (hp : psum st ≤ 8) (hb : b ≠ 201) : Wp d 180 5 [l0, l1, l2] ((.ref b) :: st) h Q = Cp d 118 [(.ref b)] h (fun o => cK o (fun w h2 => Wp d 180 8 [l0, l1, l2] (w.toList ++ st) h2 Q) (fun _ _ => False)) := (W_invI (st := st) f180_5 rfl rfl (by simp only [List.length_cons]; omega) rfl rfl hp hb)
theorem f180_8 : fetch 180 8 = some (.putfield 36, 3, [10, 11, 6143, 0], .null) := by decide +kernel
theorem w180_8 : Wp d 180 8 [l0, l1, l2] (v :: .ref a :: st) h Q = pP (h.2 a) 10 11 (ftOf 10 11) v a (fun c => Wp d 180 11 [l0, l1, l2] st (hset h a c) Q) := W_put f180_8 (by rfl)
theorem f180_11 : fetch 180 11 = some (.aload_n 0, 1, [], .null) := by decide +kernel
theorem w180_11 : Wp d 180 11 [some (.ref a), l1, l2] st h Q = Wp d 180 12 [some (.ref a), l1, l2] (.ref a :: st) h Q := W_go f180_11 rfl
theorem f180_12 : fetch 180 12 = some (.invokevirtual 240, 3, [156, 1, 11, 0, 6210, 1013, 6213, 6212, 37], .null) := by decide +kernel
theorem w180_12 (hp : psum st ≤ 8) : Wp d 180 12 [l0, l1, l2] ((.ref b) :: st) h Q = rP (h.2 b) 10 (Cp d 156 [(.ref b)] h (fun o => cK o (fun w h2 => Wp d 180 15 [l0, l1, l2] (w.toList ++ st) h2 Q) (fun E h2 => Q (.inr E, h2)))) := (W_invV (st := st) f180_12 rfl rfl (by simp only [List.length_cons]; omega) rfl rfl hp).trans (by simp only [hm180, if_true])
theorem f180_15 : fetch 180 15 = some (.aload_n 0, 1, [], .null) := by decide +kernel
theorem w180_15 : Wp d 180 15 [some (.ref a), l1, l2] st h Q = Wp d 180 16 [some (.ref a), l1, l2] (.ref a :: st) h Q := W_go f180_15 rfl
theorem f180_16 : fetch 180 16 = some (.iconst 0, 1, [], .null) := by decide +kernel
theorem w180_16 : Wp d 180 16 [l0, l1, l2] st h Q = Wp d 180 17 [l0, l1, l2] (.int (0 : Int32) :: st) h Q := W_go f180_16 rfl
theorem f180_17 : fetch 180 17 = some (.putfield 105, 3, [10, 8, 6139, 0], .null) := by decide +kernel
theorem w180_17 : Wp d 180 17 [l0, l1, l2] (v :: .ref a :: st) h Q = pP (h.2 a) 10 8 (ftOf 10 8) v a (fun c => Wp d 180 20 [l0, l1, l2] st (hset h a c) Q) := W_put f180_17 (by rfl)
theorem f180_20 : fetch 180 20 = some (.aload_n 0, 1, [], .null) := by decide +kernel
theorem w180_20 : Wp d 180 20 [some (.ref a), l1, l2] st h Q = Wp d 180 21 [some (.ref a), l1, l2] (.ref a :: st) h Q := W_go f180_20 rfl
theorem f180_21 : fetch 180 21 = some (.iconst 0, 1, [], .null) := by decide +kernel
theorem w180_21 : Wp d 180 21 [l0, l1, l2] st h Q = Wp d 180 22 [l0, l1, l2] (.int (0 : Int32) :: st) h Q := W_go f180_21 rfl
theorem f180_22 : fetch 180 22 = some (.putfield 138, 3, [10, 9, 6140, 0], .null) := by decide +kernel
theorem w180_22 : Wp d 180 22 [l0, l1, l2] (v :: .ref a :: st) h Q = pP (h.2 a) 10 9 (ftOf 10 9) v a (fun c => Wp d 180 25 [l0, l1, l2] st (hset h a c) Q) := W_put f180_22 (by rfl)
theorem f180_25 : fetch 180 25 = some (.aload_n 0, 1, [], .null) := by decide +kernel
theorem w180_25 : Wp d 180 25 [some (.ref a), l1, l2] st h Q = Wp d 180 26 [some (.ref a), l1, l2] (.ref a :: st) h Q := W_go f180_25 rfl
theorem f180_26 : fetch 180 26 = some (.invokevirtual 243, 3, [162, 1, 11, 0, 6236, 1013, 6239, 6238, 41], .null) := by decide +kernel
theorem w180_26 (hp : psum st ≤ 8) : Wp d 180 26 [l0, l1, l2] ((.ref b) :: st) h Q = rP (h.2 b) 10 (Cp d 162 [(.ref b)] h (fun o => cK o (fun w h2 => Wp d 180 29 [l0, l1, l2] (w.toList ++ st) h2 Q) (fun E h2 => Q (.inr E, h2)))) := (W_invV (st := st) f180_26 rfl rfl (by simp only [List.length_cons]; omega) rfl rfl hp).trans (by simp only [hm180, if_true])
theorem f180_29 : fetch 180 29 = some (.ifCond .ne 18, 3, [], .null) := by decide +kernel
theorem w180_29 : Wp d 180 29 [l0, l1, l2] (.int x :: st) h Q = if icond .ne x 0 = true then Wp d 180 47 [l0, l1, l2] st h Q else Wp d 180 32 [l0, l1, l2] st h Q := W_if f180_29 rfl
theorem f180_32 : fetch 180 32 = some (.aload_n 0, 1, [], .null) := by decide +kernel
theorem w180_32 : Wp d 180 32 [some (.ref a), l1, l2] st h Q = Wp d 180 33 [some (.ref a), l1, l2] (.ref a :: st) h Q := W_go f180_32 rfl
theorem f180_33 : fetch 180 33 = some (.aload_n 0, 1, [], .null) := by decide +kernel
theorem w180_33 : Wp d 180 33 [some (.ref a), l1, l2] st h Q = Wp d 180 34 [some (.ref a), l1, l2] (.ref a :: st) h Q := W_go f180_33 rfl
theorem f180_34 : fetch 180 34 = some (.getfield 20, 3, [10, 5, 6136, 0], .null) := by decide +kernel
theorem w180_34 : Wp d 180 34 [l0, l1, l2] (.ref a :: st) h Q = gP (h.2 a) 10 5 (fun w => Wp d 180 37 [l0, l1, l2] (w :: st) h Q) := W_get f180_34 rfl
theorem f180_37 : fetch 180 37 = some (.aload_n 0, 1, [], .null) := by decide +kernel
theorem w180_37 : Wp d 180 37 [some (.ref a), l1, l2] st h Q = Wp d 180 38 [some (.ref a), l1, l2] (.ref a :: st) h Q := W_go f180_37 rfl
theorem f180_38 : fetch 180 38 = some (.getfield 105, 3, [10, 8, 6139, 0], .null) := by decide +kernel
theorem w180_38 : Wp d 180 38 [l0, l1, l2] (.ref a :: st) h Q = gP (h.2 a) 10 8 (fun w => Wp d 180 41 [l0, l1, l2] (w :: st) h Q) := W_get f180_38 rfl
theorem f180_41 : fetch 180 41 = some (.iaload, 1, [], .null) := by decide +kernel
theorem w180_41 : Wp d 180 41 [l0, l1, l2] (.int x :: .ref a :: st) h Q = aP false (h.2 a) x (fun w => Wp d 180 42 [l0, l1, l2] (.int w :: st) h Q) := W_ald f180_41 rfl
theorem f180_42 : fetch 180 42 = some (.putfield 13, 3, [10, 3, 6134, 0], .null) := by decide +kernel
theorem w180_42 : Wp d 180 42 [l0, l1, l2] (v :: .ref a :: st) h Q = pP (h.2 a) 10 3 (ftOf 10 3) v a (fun c => Wp d 180 45 [l0, l1, l2] st (hset h a c) Q) := W_put f180_42 (by rfl)
theorem f180_45 : fetch 180 45 = some (.iconst 1, 1, [], .null) := by decide +kernel
theorem w180_45 : Wp d 180 45 [l0, l1, l2] st h Q = Wp d 180 46 [l0, l1, l2] (.int (1 : Int32) :: st) h Q := W_go f180_45 rfl
theorem f180_46 : fetch 180 46 = some (.ireturn, 1, [], .null) := by decide +kernel
theorem w180_46 : Wp d 180 46 [l0, l1, l2] [.int x] h Q = Q (.inl (some (.int x)), h) := W_iret f180_46 hr180
theorem f180_47 : fetch 180 47 = some (.aload_n 0, 1, [], .null) := by decide +kernel
theorem w180_47 : Wp d 180 47 [some (.ref a), l1, l2] st h Q = Wp d 180 48 [some (.ref a), l1, l2] (.ref a :: st) h Q := W_go f180_47 rfl
theorem f180_48 : fetch 180 48 = some (.getfield 105, 3, [10, 8, 6139, 0], .null) := by decide +kernel
theorem w180_48 : Wp d 180 48 [l0, l1, l2] (.ref a :: st) h Q = gP (h.2 a) 10 8 (fun w => Wp d 180 51 [l0, l1, l2] (w :: st) h Q) := W_get f180_48 rfl
theorem f180_51 : fetch 180 51 = some (.istore_n 1, 1, [], .null) := by decide +kernel
theorem w180_51 : Wp d 180 51 [l0, l1, l2] (.int x :: st) h Q = Wp d 180 52 [kl l0, some (.int x), l2] st h Q := (W_st1 (pc' := 52) (k := 1) f180_51 rfl rfl (by simp only [List.length_cons, List.length_nil]; omega)).trans (by rw [pst1_succ]; rfl)
theorem f180_52 : fetch 180 52 = some (.aload_n 0, 1, [], .null) := by decide +kernel
theorem w180_52 : Wp d 180 52 [some (.ref a), l1, l2] st h Q = Wp d 180 53 [some (.ref a), l1, l2] (.ref a :: st) h Q := W_go f180_52 rfl
theorem f180_53 : fetch 180 53 = some (.iconst 0, 1, [], .null) := by decide +kernel
theorem w180_53 : Wp d 180 53 [l0, l1, l2] st h Q = Wp d 180 54 [l0, l1, l2] (.int (0 : Int32) :: st) h Q := W_go f180_53 rfl
theorem f180_54 : fetch 180 54 = some (.putfield 105, 3, [10, 8, 6139, 0], .null) := by decide +kernel
theorem w180_54 : Wp d 180 54 [l0, l1, l2] (v :: .ref a :: st) h Q = pP (h.2 a) 10 8 (ftOf 10 8) v a (fun c => Wp d 180 57 [l0, l1, l2] st (hset h a c) Q) := W_put f180_54 (by rfl)
theorem f180_57 : fetch 180 57 = some (.aload_n 0, 1, [], .null) := by decide +kernel
theorem w180_57 : Wp d 180 57 [some (.ref a), l1, l2] st h Q = Wp d 180 58 [some (.ref a), l1, l2] (.ref a :: st) h Q := W_go f180_57 rfl
theorem f180_58 : fetch 180 58 = some (.getfield 105, 3, [10, 8, 6139, 0], .null) := by decide +kernel
theorem w180_58 : Wp d 180 58 [l0, l1, l2] (.ref a :: st) h Q = gP (h.2 a) 10 8 (fun w => Wp d 180 61 [l0, l1, l2] (w :: st) h Q) := W_get f180_58 rfl
theorem f180_61 : fetch 180 61 = some (.iload_n 1, 1, [], .null) := by decide +kernel
theorem w180_61 : Wp d 180 61 [l0, some (.int x), l2] st h Q = Wp d 180 62 [l0, some (.int x), l2] (.int x :: st) h Q := W_go f180_61 rfl
theorem f180_62 : fetch 180 62 = some (.if_icmp .ge 47, 3, [], .null) := by decide +kernel
theorem w180_62 : Wp d 180 62 [l0, l1, l2] (.int y :: .int x :: st) h Q = if icond .ge x y = true then Wp d 180 109 [l0, l1, l2] st h Q else Wp d 180 65 [l0, l1, l2] st h Q := W_if f180_62 rfl
theorem f180_65 : fetch 180 65 = some (.aload_n 0, 1, [], .null) := by decide +kernel
theorem w180_65 : Wp d 180 65 [some (.ref a), l1, l2] st h Q = Wp d 180 66 [some (.ref a), l1, l2] (.ref a :: st) h Q := W_go f180_65 rfl
theorem f180_66 : fetch 180 66 = some (.aload_n 0, 1, [], .null) := by decide +kernel
theorem w180_66 : Wp d 180 66 [some (.ref a), l1, l2] st h Q = Wp d 180 67 [some (.ref a), l1, l2] (.ref a :: st) h Q := W_go f180_66 rfl
theorem f180_67 : fetch 180 67 = some (.getfield 105, 3, [10, 8, 6139, 0], .null) := by decide +kernel
theorem w180_67 : Wp d 180 67 [l0, l1, l2] (.ref a :: st) h Q = gP (h.2 a) 10 8 (fun w => Wp d 180 70 [l0, l1, l2] (w :: st) h Q) := W_get f180_67 rfl
theorem f180_70 : fetch 180 70 = some (.invokevirtual 246, 3, [179, 2, 11, 0, 7052, 1013, 7055, 7054, 55], .null) := by decide +kernel
theorem w180_70 (hp : psum st ≤ 8) : Wp d 180 70 [l0, l1, l2] (v1 :: (.ref b) :: st) h Q = rP (h.2 b) 10 (Cp d 179 [(.ref b), v1] h (fun o => cK o (fun w h2 => Wp d 180 73 [l0, l1, l2] (w.toList ++ st) h2 Q) (fun E h2 => Q (.inr E, h2)))) := (W_invV (st := st) f180_70 rfl rfl (by simp only [List.length_cons]; omega) rfl rfl hp).trans (by simp only [hm180, if_true])
theorem f180_73 : fetch 180 73 = some (.istore_n 2, 1, [], .null) := by decide +kernel
theorem w180_73 : Wp d 180 73 [l0, l1, l2] (.int x :: st) h Q = Wp d 180 74 [l0, kl l1, some (.int x)] st h Q := (W_st1 (pc' := 74) (k := 2) f180_73 rfl rfl (by simp only [List.length_cons, List.length_nil]; omega)).trans (by rw [pst1_succ]; rfl)
theorem f180_74 : fetch 180 74 = some (.iload_n 2, 1, [], .null) := by decide +kernel
theorem w180_74 : Wp d 180 74 [l0, l1, some (.int x)] st h Q = Wp d 180 75 [l0, l1, some (.int x)] (.int x :: st) h Q := W_go f180_74 rfl
theorem f180_75 : fetch 180 75 = some (.ifCond .ne 6, 3, [], .null) := by decide +kernel
theorem w180_75 : Wp d 180 75 [l0, l1, l2] (.int x :: st) h Q = if icond .ne x 0 = true then Wp d 180 81 [l0, l1, l2] st h Q else Wp d 180 78 [l0, l1, l2] st h Q := W_if f180_75 rfl
theorem f180_78 : fetch 180 78 = some (.goto 18, 3, [], .null) := by decide +kernel
theorem w180_78 : Wp d 180 78 [l0, l1, l2] st h Q = Wp d 180 96 [l0, l1, l2] st h Q := W_go f180_78 rfl
theorem f180_81 : fetch 180 81 = some (.aload_n 0, 1, [], .null) := by decide +kernel
theorem w180_81 : Wp d 180 81 [some (.ref a), l1, l2] st h Q = Wp d 180 82 [some (.ref a), l1, l2] (.ref a :: st) h Q := W_go f180_81 rfl
theorem f180_82 : fetch 180 82 = some (.aload_n 0, 1, [], .null) := by decide +kernel
theorem w180_82 : Wp d 180 82 [some (.ref a), l1, l2] st h Q = Wp d 180 83 [some (.ref a), l1, l2] (.ref a :: st) h Q := W_go f180_82 rfl
theorem f180_83 : fetch 180 83 = some (.getfield 20, 3, [10, 5, 6136, 0], .null) := by decide +kernel
theorem w180_83 : Wp d 180 83 [l0, l1, l2] (.ref a :: st) h Q = gP (h.2 a) 10 5 (fun w => Wp d 180 86 [l0, l1, l2] (w :: st) h Q) := W_get f180_83 rfl
theorem f180_86 : fetch 180 86 = some (.aload_n 0, 1, [], .null) := by decide +kernel
theorem w180_86 : Wp d 180 86 [some (.ref a), l1, l2] st h Q = Wp d 180 87 [some (.ref a), l1, l2] (.ref a :: st) h Q := W_go f180_86 rfl
theorem f180_87 : fetch 180 87 = some (.getfield 105, 3, [10, 8, 6139, 0], .null) := by decide +kernel
theorem w180_87 : Wp d 180 87 [l0, l1, l2] (.ref a :: st) h Q = gP (h.2 a) 10 8 (fun w => Wp d 180 90 [l0, l1, l2] (w :: st) h Q) := W_get f180_87 rfl
theorem f180_90 : fetch 180 90 = some (.iaload, 1, [], .null) := by decide +kernel
theorem w180_90 : Wp d 180 90 [l0, l1, l2] (.int x :: .ref a :: st) h Q = aP false (h.2 a) x (fun w => Wp d 180 91 [l0, l1, l2] (.int w :: st) h Q) := W_ald f180_90 rfl
theorem f180_91 : fetch 180 91 = some (.putfield 13, 3, [10, 3, 6134, 0], .null) := by decide +kernel
theorem w180_91 : Wp d 180 91 [l0, l1, l2] (v :: .ref a :: st) h Q = pP (h.2 a) 10 3 (ftOf 10 3) v a (fun c => Wp d 180 94 [l0, l1, l2] st (hset h a c) Q) := W_put f180_91 (by rfl)
theorem f180_94 : fetch 180 94 = some (.iload_n 2, 1, [], .null) := by decide +kernel
theorem w180_94 : Wp d 180 94 [l0, l1, some (.int x)] st h Q = Wp d 180 95 [l0, l1, some (.int x)] (.int x :: st) h Q := W_go f180_94 rfl
theorem f180_95 : fetch 180 95 = some (.ireturn, 1, [], .null) := by decide +kernel
theorem w180_95 : Wp d 180 95 [l0, l1, l2] [.int x] h Q = Q (.inl (some (.int x)), h) := W_iret f180_95 hr180
theorem f180_96 : fetch 180 96 = some (.aload_n 0, 1, [], .null) := by decide +kernel
theorem w180_96 : Wp d 180 96 [some (.ref a), l1, l2] st h Q = Wp d 180 97 [some (.ref a), l1, l2] (.ref a :: st) h Q := W_go f180_96 rfl
theorem f180_97 : fetch 180 97 = some (.dup, 1, [], .null) := by decide +kernel
theorem w180_97i : Wp d 180 97 [l0, l1, l2] (.int x :: st) h Q = Wp d 180 98 [l0, l1, l2] (.int x :: .int x :: st) h Q := W_go f180_97 rfl
theorem w180_97 : Wp d 180 97 [l0, l1, l2] (.ref a :: st) h Q = Wp d 180 98 [l0, l1, l2] (.ref a :: .ref a :: st) h Q := W_go f180_97 rfl
theorem f180_98 : fetch 180 98 = some (.getfield 105, 3, [10, 8, 6139, 0], .null) := by decide +kernel
theorem w180_98 : Wp d 180 98 [l0, l1, l2] (.ref a :: st) h Q = gP (h.2 a) 10 8 (fun w => Wp d 180 101 [l0, l1, l2] (w :: st) h Q) := W_get f180_98 rfl
theorem f180_101 : fetch 180 101 = some (.iconst 1, 1, [], .null) := by decide +kernel
theorem w180_101 : Wp d 180 101 [l0, l1, l2] st h Q = Wp d 180 102 [l0, l1, l2] (.int (1 : Int32) :: st) h Q := W_go f180_101 rfl
theorem f180_102 : fetch 180 102 = some (.iadd, 1, [], .null) := by decide +kernel
theorem w180_102 : Wp d 180 102 [l0, l1, l2] (.int y :: .int x :: st) h Q = Wp d 180 103 [l0, l1, l2] (.int (x + y) :: st) h Q := W_go f180_102 rfl
theorem f180_103 : fetch 180 103 = some (.putfield 105, 3, [10, 8, 6139, 0], .null) := by decide +kernel
theorem w180_103 : Wp d 180 103 [l0, l1, l2] (v :: .ref a :: st) h Q = pP (h.2 a) 10 8 (ftOf 10 8) v a (fun c => Wp d 180 106 [l0, l1, l2] st (hset h a c) Q) := W_put f180_103 (by rfl)
theorem f180_106 : fetch 180 106 = some (.goto (-49), 3, [], .null) := by decide +kernel
theorem w180_106 : Wp d 180 106 [l0, l1, l2] st h Q = Wp d 180 57 [l0, l1, l2] st h Q := W_go f180_106 rfl
theorem f180_109 : fetch 180 109 = some (.iconst 0, 1, [], .null) := by decide +kernel
theorem w180_109 : Wp d 180 109 [l0, l1, l2] st h Q = Wp d 180 110 [l0, l1, l2] (.int (0 : Int32) :: st) h Q := W_go f180_109 rfl
theorem f180_110 : fetch 180 110 = some (.ireturn, 1, [], .null) := by decide +kernel
theorem w180_110 : Wp d 180 110 [l0, l1, l2] [.int x] h Q = Q (.inl (some (.int x)), h) := W_iret f180_110 hr180
theorem hm181 : mhs 181 = [] := by decide +kernel
theorem hr181 : mret 181 = (some .int) := by decide +kernel
theorem f181_0 : fetch 181 0 = some (.aload_n 0, 1, [], .null) := by decide +kernel
theorem w181_0 : Wp d 181 0 [some (.ref a), l1, l2, l3, l4, l5, l6, l7] st h Q = Wp d 181 1 [some (.ref a), l1, l2, l3, l4, l5, l6, l7] (.ref a :: st) h Q := W_go f181_0 rfl
theorem f181_1 : fetch 181 1 = some (.iconst 0, 1, [], .null) := by decide +kernel
theorem w181_1 : Wp d 181 1 [l0, l1, l2, l3, l4, l5, l6, l7] st h Q = Wp d 181 2 [l0, l1, l2, l3, l4, l5, l6, l7] (.int (0 : Int32) :: st) h Q := W_go f181_1 rfl
theorem f181_2 : fetch 181 2 = some (.putfield 57, 3, [10, 0, 6131, 0], .null) := by decide +kernel
theorem w181_2 : Wp d 181 2 [l0, l1, l2, l3, l4, l5, l6, l7] (v :: .ref a :: st) h Q = pP (h.2 a) 10 0 (ftOf 10 0) v a (fun c => Wp d 181 5 [l0, l1, l2, l3, l4, l5, l6, l7] st (hset h a c) Q) := W_put f181_2 (by rfl)
theorem f181_5 : fetch 181 5 = some (.aload_n 0, 1, [], .null) := by decide +kernel
theorem w181_5 : Wp d 181 5 [some (.ref a), l1, l2, l3, l4, l5, l6, l7] st h Q = Wp d 181 6 [some (.ref a), l1, l2, l3, l4, l5, l6, l7] (.ref a :: st) h Q := W_go f181_5 rfl
theorem f181_6 : fetch 181 6 = some (.getfield 70, 3, [10, 2, 6133, 0], .null) := by decide +kernel
theorem w181_6 : Wp d 181 6 [l0, l1, l2, l3, l4, l5, l6, l7] (.ref a :: st) h Q = gP (h.2 a) 10 2 (fun w => Wp d 181 9 [l0, l1, l2, l3, l4, l5, l6, l7] (w :: st) h Q) := W_get f181_6 rfl
theorem f181_9 : fetch 181 9 = some (.sipush 1580, 3, [], .null) := by decide +kernel
theorem w181_9 : Wp d 181 9 [l0, l1, l2, l3, l4, l5, l6, l7] st h Q = Wp d 181 12 [l0, l1, l2, l3, l4, l5, l6, l7] (.int (1580 : Int32) :: st) h Q := W_go f181_9 rfl
theorem f181_12 : fetch 181 12 = some (.if_icmp .le 9, 3, [], .null) := by decide +kernel
theorem w181_12 : Wp d 181 12 [l0, l1, l2, l3, l4, l5, l6, l7] (.int y :: .int x :: st) h Q = if icond .le x y = true then Wp d 181 21 [l0, l1, l2, l3, l4, l5, l6, l7] st h Q else Wp d 181 15 [l0, l1, l2, l3, l4, l5, l6, l7] st h Q := W_if f181_12 rfl
theorem f181_15 : fetch 181 15 = some (.aload_n 0, 1, [], .null) := by decide +kernel
theorem w181_15 : Wp d 181 15 [some (.ref a), l1, l2, l3, l4, l5, l6, l7] st h Q = Wp d 181 16 [some (.ref a), l1, l2, l3, l4, l5, l6, l7] (.ref a :: st) h Q := W_go f181_15 rfl
theorem f181_16 : fetch 181 16 = some (.iconst 1, 1, [], .null) := by decide +kernel
theorem w181_16 : Wp d 181 16 [l0, l1, l2, l3, l4, l5, l6, l7] st h Q = Wp d 181 17 [l0, l1, l2, l3, l4, l5, l6, l7] (.int (1 : Int32) :: st) h Q := W_go f181_16 rfl
theorem f181_17 : fetch 181 17 = some (.invokevirtual 249, 3, [146, 2, 11, 0, 6191, 1013, 6194, 6193, 35], .null) := by decide +kernel
theorem w181_17 (hp : psum st ≤ 8) : Wp d 181 17 [l0, l1, l2, l3, l4, l5, l6, l7] (v1 :: (.ref b) :: st) h Q = rP (h.2 b) 10 (Cp d 146 [(.ref b), v1] h (fun o => cK o (fun w h2 => Wp d 181 20 [l0, l1, l2, l3, l4, l5, l6, l7] (w.toList ++ st) h2 Q) (fun E h2 => Q (.inr E, h2)))) := (W_invV (st := st) f181_17 rfl rfl (by simp only [List.length_cons]; omega) rfl rfl hp).trans (by simp only [hm181, if_true])
theorem f181_20 : fetch 181 20 = some (.ireturn, 1, [], .null) := by decide +kernel
theorem w181_20 : Wp d 181 20 [l0, l1, l2, l3, l4, l5, l6, l7] [.int x] h Q = Q (.inl (some (.int x)), h) := W_iret f181_20 hr181
theorem f181_21 : fetch 181 21 = some (.iconst 5, 1, [], .null) := by decide +kernel
theorem w181_21 : Wp d 181 21 [l0, l1, l2, l3, l4, l5, l6, l7] st h Q = Wp d 181 22 [l0, l1, l2, l3, l4, l5, l6, l7] (.int (5 : Int32) :: st) h Q := W_go f181_21 rfl
theorem f181_22 : fetch 181 22 = some (.newarray .int, 2, [0, 1141], .null) := by decide +kernel
theorem w181_22 (hx : ¬ x < 0 ∧ x.toNatClampNeg ≤ 60000) : Wp d 181 22 [l0, l1, l2, l3, l4, l5, l6, l7] (.int x :: st) h Q = Wp d 181 24 [l0, l1, l2, l3, l4, l5, l6, l7] (.ref h.1.1 :: st) (hnew h x.toNatClampNeg (.inl (0, arr0 0 x.toNatClampNeg))) Q := W_go f181_22 (by simp only [pstep, pnewa, if_pos hx]; rfl)
theorem f181_24 : fetch 181 24 = some (.dup, 1, [], .null) := by decide +kernel
theorem w181_24i : Wp d 181 24 [l0, l1, l2, l3, l4, l5, l6, l7] (.int x :: st) h Q = Wp d 181 25 [l0, l1, l2, l3, l4, l5, l6, l7] (.int x :: .int x :: st) h Q := W_go f181_24 rfl
theorem w181_24 : Wp d 181 24 [l0, l1, l2, l3, l4, l5, l6, l7] (.ref a :: st) h Q = Wp d 181 25 [l0, l1, l2, l3, l4, l5, l6, l7] (.ref a :: .ref a :: st) h Q := W_go f181_24 rfl
theorem f181_25 : fetch 181 25 = some (.iconst 0, 1, [], .null) := by decide +kernel
theorem w181_25 : Wp d 181 25 [l0, l1, l2, l3, l4, l5, l6, l7] st h Q = Wp d 181 26 [l0, l1, l2, l3, l4, l5, l6, l7] (.int (0 : Int32) :: st) h Q := W_go f181_25 rfl
theorem f181_26 : fetch 181 26 = some (.iload_n 1, 1, [], .null) := by decide +kernel
theorem w181_26 : Wp d 181 26 [l0, some (.int x), l2, l3, l4, l5, l6, l7] st h Q = Wp d 181 27 [l0, some (.int x), l2, l3, l4, l5, l6, l7] (.int x :: st) h Q := W_go f181_26 rfl
theorem f181_27 : fetch 181 27 = some (.iastore, 1, [], .null) := by decide +kernel
theorem w181_27 : Wp d 181 27 [l0, l1, l2, l3, l4, l5, l6, l7] (.int y :: .int x :: .ref a :: st) h Q = asP false (h.2 a) a x y (fun c => Wp d 181 28 [l0, l1, l2, l3, l4, l5, l6, l7] st (hset h a c) Q) := W_ast f181_27 rfl
theorem f181_28 : fetch 181 28 = some (.dup, 1, [], .null) := by decide +kernel
theorem w181_28i : Wp d 181 28 [l0, l1, l2, l3, l4, l5, l6, l7] (.int x :: st) h Q = Wp d 181 29 [l0, l1, l2, l3, l4, l5, l6, l7] (.int x :: .int x :: st) h Q := W_go f181_28 rfl
theorem w181_28 : Wp d 181 28 [l0, l1, l2, l3, l4, l5, l6, l7] (.ref a :: st) h Q = Wp d 181 29 [l0, l1, l2, l3, l4, l5, l6, l7] (.ref a :: .ref a :: st) h Q := W_go f181_28 rfl
theorem f181_29 : fetch 181 29 = some (.iconst 1, 1, [], .null) := by decide +kernel
theorem w181_29 : Wp d 181 29 [l0, l1, l2, l3, l4, l5, l6, l7] st h Q = Wp d 181 30 [l0, l1, l2, l3, l4, l5, l6, l7] (.int (1 : Int32) :: st) h Q := W_go f181_29 rfl
theorem f181_30 : fetch 181 30 = some (.iload_n 2, 1, [], .null) := by decide +kernel
theorem w181_30 : Wp d 181 30 [l0, l1, some (.int x), l3, l4, l5, l6, l7] st h Q = Wp d 181 31 [l0, l1, some (.int x), l3, l4, l5, l6, l7] (.int x :: st) h Q := W_go f181_30 rfl
theorem f181_31 : fetch 181 31 = some (.iastore, 1, [], .null) := by decide +kernel
theorem w181_31 : Wp d 181 31 [l0, l1, l2, l3, l4, l5, l6, l7] (.int y :: .int x :: .ref a :: st) h Q = asP false (h.2 a) a x y (fun c => Wp d 181 32 [l0, l1, l2, l3, l4, l5, l6, l7] st (hset h a c) Q) := W_ast f181_31 rfl
theorem f181_32 : fetch 181 32 = some (.dup, 1, [], .null) := by decide +kernel
theorem w181_32i : Wp d 181 32 [l0, l1, l2, l3, l4, l5, l6, l7] (.int x :: st) h Q = Wp d 181 33 [l0, l1, l2, l3, l4, l5, l6, l7] (.int x :: .int x :: st) h Q := W_go f181_32 rfl
theorem w181_32 : Wp d 181 32 [l0, l1, l2, l3, l4, l5, l6, l7] (.ref a :: st) h Q = Wp d 181 33 [l0, l1, l2, l3, l4, l5, l6, l7] (.ref a :: .ref a :: st) h Q := W_go f181_32 rfl
theorem f181_33 : fetch 181 33 = some (.iconst 2, 1, [], .null) := by decide +kernel
theorem w181_33 : Wp d 181 33 [l0, l1, l2, l3, l4, l5, l6, l7] st h Q = Wp d 181 34 [l0, l1, l2, l3, l4, l5, l6, l7] (.int (2 : Int32) :: st) h Q := W_go f181_33 rfl
theorem f181_34 : fetch 181 34 = some (.iload_n 3, 1, [], .null) := by decide +kernel
theorem w181_34 : Wp d 181 34 [l0, l1, l2, some (.int x), l4, l5, l6, l7] st h Q = Wp d 181 35 [l0, l1, l2, some (.int x), l4, l5, l6, l7] (.int x :: st) h Q := W_go f181_34 rfl
theorem f181_35 : fetch 181 35 = some (.iastore, 1, [], .null) := by decide +kernel
theorem w181_35 : Wp d 181 35 [l0, l1, l2, l3, l4, l5, l6, l7] (.int y :: .int x :: .ref a :: st) h Q = asP false (h.2 a) a x y (fun c => Wp d 181 36 [l0, l1, l2, l3, l4, l5, l6, l7] st (hset h a c) Q) := W_ast f181_35 rfl
theorem f181_36 : fetch 181 36 = some (.dup, 1, [], .null) := by decide +kernel
theorem w181_36i : Wp d 181 36 [l0, l1, l2, l3, l4, l5, l6, l7] (.int x :: st) h Q = Wp d 181 37 [l0, l1, l2, l3, l4, l5, l6, l7] (.int x :: .int x :: st) h Q := W_go f181_36 rfl
theorem w181_36 : Wp d 181 36 [l0, l1, l2, l3, l4, l5, l6, l7] (.ref a :: st) h Q = Wp d 181 37 [l0, l1, l2, l3, l4, l5, l6, l7] (.ref a :: .ref a :: st) h Q := W_go f181_36 rfl
theorem f181_37 : fetch 181 37 = some (.iconst 3, 1, [], .null) := by decide +kernel
theorem w181_37 : Wp d 181 37 [l0, l1, l2, l3, l4, l5, l6, l7] st h Q = Wp d 181 38 [l0, l1, l2, l3, l4, l5, l6, l7] (.int (3 : Int32) :: st) h Q := W_go f181_37 rfl
theorem f181_38 : fetch 181 38 = some (.iload 4, 2, [], .null) := by decide +kernel
theorem w181_38 : Wp d 181 38 [l0, l1, l2, l3, some (.int x), l5, l6, l7] st h Q = Wp d 181 40 [l0, l1, l2, l3, some (.int x), l5, l6, l7] (.int x :: st) h Q := W_go f181_38 rfl
theorem f181_40 : fetch 181 40 = some (.iastore, 1, [], .null) := by decide +kernel
theorem w181_40 : Wp d 181 40 [l0, l1, l2, l3, l4, l5, l6, l7] (.int y :: .int x :: .ref a :: st) h Q = asP false (h.2 a) a x y (fun c => Wp d 181 41 [l0, l1, l2, l3, l4, l5, l6, l7] st (hset h a c) Q) := W_ast f181_40 rfl
theorem f181_41 : fetch 181 41 = some (.dup, 1, [], .null) := by decide +kernel
theorem w181_41i : Wp d 181 41 [l0, l1, l2, l3, l4, l5, l6, l7] (.int x :: st) h Q = Wp d 181 42 [l0, l1, l2, l3, l4, l5, l6, l7] (.int x :: .int x :: st) h Q := W_go f181_41 rfl
theorem w181_41 : Wp d 181 41 [l0, l1, l2, l3, l4, l5, l6, l7] (.ref a :: st) h Q = Wp d 181 42 [l0, l1, l2, l3, l4, l5, l6, l7] (.ref a :: .ref a :: st) h Q := W_go f181_41 rfl
theorem f181_42 : fetch 181 42 = some (.iconst 4, 1, [], .null) := by decide +kernel
theorem w181_42 : Wp d 181 42 [l0, l1, l2, l3, l4, l5, l6, l7] st h Q = Wp d 181 43 [l0, l1, l2, l3, l4, l5, l6, l7] (.int (4 : Int32) :: st) h Q := W_go f181_42 rfl
theorem f181_43 : fetch 181 43 = some (.iload 5, 2, [], .null) := by decide +kernel
theorem w181_43 : Wp d 181 43 [l0, l1, l2, l3, l4, some (.int x), l6, l7] st h Q = Wp d 181 45 [l0, l1, l2, l3, l4, some (.int x), l6, l7] (.int x :: st) h Q := W_go f181_43 rfl
theorem f181_45 : fetch 181 45 = some (.iastore, 1, [], .null) := by decide +kernel
theorem w181_45 : Wp d 181 45 [l0, l1, l2, l3, l4, l5, l6, l7] (.int y :: .int x :: .ref a :: st) h Q = asP false (h.2 a) a x y (fun c => Wp d 181 46 [l0, l1, l2, l3, l4, l5, l6, l7] st (hset h a c) Q) := W_ast f181_45 rfl
theorem f181_46 : fetch 181 46 = some (.astore 6, 2, [], .null) := by decide +kernel
theorem w181_46 : Wp d 181 46 [l0, l1, l2, l3, l4, l5, l6, l7] (.ref a :: st) h Q = Wp d 181 48 [l0, l1, l2, l3, l4, kl l5, some (.ref a), l7] st h Q := (W_st1 (pc' := 48) (k := 6) f181_46 rfl rfl (by simp only [List.length_cons, List.length_nil]; omega)).trans (by rw [pst1_succ]; rfl)
theorem f181_48 : fetch 181 48 = some (.iconst 0, 1, [], .null) := by decide +kernel
theorem w181_48 : Wp d 181 48 [l0, l1, l2, l3, l4, l5, l6, l7] st h Q = Wp d 181 49 [l0, l1, l2, l3, l4, l5, l6, l7] (.int (0 : Int32) :: st) h Q := W_go f181_48 rfl
theorem f181_49 : fetch 181 49 = some (.istore 7, 2, [], .null) := by decide +kernel
theorem w181_49 : Wp d 181 49 [l0, l1, l2, l3, l4, l5, l6, l7] (.int x :: st) h Q = Wp d 181 51 [l0, l1, l2, l3, l4, l5, kl l6, some (.int x)] st h Q := (W_st1 (pc' := 51) (k := 7) f181_49 rfl rfl (by simp only [List.length_cons, List.length_nil]; omega)).trans (by rw [pst1_succ]; rfl)
theorem f181_51 : fetch 181 51 = some (.iload 7, 2, [], .null) := by decide +kernel
theorem w181_51 : Wp d 181 51 [l0, l1, l2, l3, l4, l5, l6, some (.int x)] st h Q = Wp d 181 53 [l0, l1, l2, l3, l4, l5, l6, some (.int x)] (.int x :: st) h Q := W_go f181_51 rfl
theorem f181_53 : fetch 181 53 = some (.bipush 20, 2, [], .null) := by decide +kernel
theorem w181_53 : Wp d 181 53 [l0, l1, l2, l3, l4, l5, l6, l7] st h Q = Wp d 181 55 [l0, l1, l2, l3, l4, l5, l6, l7] (.int (20 : Int32) :: st) h Q := W_go f181_53 rfl
theorem f181_55 : fetch 181 55 = some (.if_icmp .ge 43, 3, [], .null) := by decide +kernel
theorem w181_55 : Wp d 181 55 [l0, l1, l2, l3, l4, l5, l6, l7] (.int y :: .int x :: st) h Q = if icond .ge x y = true then Wp d 181 98 [l0, l1, l2, l3, l4, l5, l6, l7] st h Q else Wp d 181 58 [l0, l1, l2, l3, l4, l5, l6, l7] st h Q := W_if f181_55 rfl
theorem f181_58 : fetch 181 58 = some (.aload_n 0, 1, [], .null) := by decide +kernel
theorem w181_58 : Wp d 181 58 [some (.ref a), l1, l2, l3, l4, l5, l6, l7] st h Q = Wp d 181 59 [some (.ref a), l1, l2, l3, l4, l5, l6, l7] (.ref a :: st) h Q := W_go f181_58 rfl
theorem f181_59 : fetch 181 59 = some (.getfield 9, 3, [10, 1, 6132, 0], .null) := by decide +kernel
theorem w181_59 : Wp d 181 59 [l0, l1, l2, l3, l4, l5, l6, l7] (.ref a :: st) h Q = gP (h.2 a) 10 1 (fun w => Wp d 181 62 [l0, l1, l2, l3, l4, l5, l6, l7] (w :: st) h Q) := W_get f181_59 rfl
theorem f181_62 : fetch 181 62 = some (.aload_n 0, 1, [], .null) := by decide +kernel
theorem w181_62 : Wp d 181 62 [some (.ref a), l1, l2, l3, l4, l5, l6, l7] st h Q = Wp d 181 63 [some (.ref a), l1, l2, l3, l4, l5, l6, l7] (.ref a :: st) h Q := W_go f181_62 rfl
theorem f181_63 : fetch 181 63 = some (.getfield 70, 3, [10, 2, 6133, 0], .null) := by decide +kernel
theorem w181_63 : Wp d 181 63 [l0, l1, l2, l3, l4, l5, l6, l7] (.ref a :: st) h Q = gP (h.2 a) 10 2 (fun w => Wp d 181 66 [l0, l1, l2, l3, l4, l5, l6, l7] (w :: st) h Q) := W_get f181_63 rfl
theorem f181_66 : fetch 181 66 = some (.iload 7, 2, [], .null) := by decide +kernel
theorem w181_66 : Wp d 181 66 [l0, l1, l2, l3, l4, l5, l6, some (.int x)] st h Q = Wp d 181 68 [l0, l1, l2, l3, l4, l5, l6, some (.int x)] (.int x :: st) h Q := W_go f181_66 rfl
theorem f181_68 : fetch 181 68 = some (.iadd, 1, [], .null) := by decide +kernel
theorem w181_68 : Wp d 181 68 [l0, l1, l2, l3, l4, l5, l6, l7] (.int y :: .int x :: st) h Q = Wp d 181 69 [l0, l1, l2, l3, l4, l5, l6, l7] (.int (x + y) :: st) h Q := W_go f181_68 rfl
theorem f181_69 : fetch 181 69 = some (.aload 6, 2, [], .null) := by decide +kernel
theorem w181_69 : Wp d 181 69 [l0, l1, l2, l3, l4, l5, some (.ref a), l7] st h Q = Wp d 181 71 [l0, l1, l2, l3, l4, l5, some (.ref a), l7] (.ref a :: st) h Q := W_go f181_69 rfl
theorem f181_71 : fetch 181 71 = some (.iload 7, 2, [], .null) := by decide +kernel
theorem w181_71 : Wp d 181 71 [l0, l1, l2, l3, l4, l5, l6, some (.int x)] st h Q = Wp d 181 73 [l0, l1, l2, l3, l4, l5, l6, some (.int x)] (.int x :: st) h Q := W_go f181_71 rfl
theorem f181_73 : fetch 181 73 = some (.iconst 4, 1, [], .null) := by decide +kernel
theorem w181_73 : Wp d 181 73 [l0, l1, l2, l3, l4, l5, l6, l7] st h Q = Wp d 181 74 [l0, l1, l2, l3, l4, l5, l6, l7] (.int (4 : Int32) :: st) h Q := W_go f181_73 rfl
theorem f181_74 : fetch 181 74 = some (.idiv, 1, [], .null) := by decide +kernel
theorem w181_74 (hy : y ≠ 0) : Wp d 181 74 [l0, l1, l2, l3, l4, l5, l6, l7] (.int y :: .int x :: st) h Q = Wp d 181 75 [l0, l1, l2, l3, l4, l5, l6, l7] (.int (x / y) :: st) h Q := W_go f181_74 (by simp only [pstep, pint2, if_neg hy, pgo])
theorem f181_75 : fetch 181 75 = some (.iaload, 1, [], .null) := by decide +kernel
theorem w181_75 : Wp d 181 75 [l0, l1, l2, l3, l4, l5, l6, l7] (.int x :: .ref a :: st) h Q = aP false (h.2 a) x (fun w => Wp d 181 76 [l0, l1, l2, l3, l4, l5, l6, l7] (.int w :: st) h Q) := W_ald f181_75 rfl
theorem f181_76 : fetch 181 76 = some (.bipush 24, 2, [], .null) := by decide +kernel
theorem w181_76 : Wp d 181 76 [l0, l1, l2, l3, l4, l5, l6, l7] st h Q = Wp d 181 78 [l0, l1, l2, l3, l4, l5, l6, l7] (.int (24 : Int32) :: st) h Q := W_go f181_76 rfl
theorem f181_78 : fetch 181 78 = some (.bipush 8, 2, [], .null) := by decide +kernel
theorem w181_78 : Wp d 181 78 [l0, l1, l2, l3, l4, l5, l6, l7] st h Q = Wp d 181 80 [l0, l1, l2, l3, l4, l5, l6, l7] (.int (8 : Int32) :: st) h Q := W_go f181_78 rfl
theorem f181_80 : fetch 181 80 = some (.iload 7, 2, [], .null) := by decide +kernel
theorem w181_80 : Wp d 181 80 [l0, l1, l2, l3, l4, l5, l6, some (.int x)] st h Q = Wp d 181 82 [l0, l1, l2, l3, l4, l5, l6, some (.int x)] (.int x :: st) h Q := W_go f181_80 rfl
theorem f181_82 : fetch 181 82 = some (.iconst 4, 1, [], .null) := by decide +kernel
theorem w181_82 : Wp d 181 82 [l0, l1, l2, l3, l4, l5, l6, l7] st h Q = Wp d 181 83 [l0, l1, l2, l3, l4, l5, l6, l7] (.int (4 : Int32) :: st) h Q := W_go f181_82 rfl
theorem f181_83 : fetch 181 83 = some (.irem, 1, [], .null) := by decide +kernel
theorem w181_83 (hy : y ≠ 0) : Wp d 181 83 [l0, l1, l2, l3, l4, l5, l6, l7] (.int y :: .int x :: st) h Q = Wp d 181 84 [l0, l1, l2, l3, l4, l5, l6, l7] (.int (x - x / y * y) :: st) h Q := W_go f181_83 (by simp only [pstep, pint2, if_neg hy, pgo])
theorem f181_84 : fetch 181 84 = some (.imul, 1, [], .null) := by decide +kernel
theorem w181_84 : Wp d 181 84 [l0, l1, l2, l3, l4, l5, l6, l7] (.int y :: .int x :: st) h Q = Wp d 181 85 [l0, l1, l2, l3, l4, l5, l6, l7] (.int (x * y) :: st) h Q := W_go f181_84 rfl
theorem f181_85 : fetch 181 85 = some (.isub, 1, [], .null) := by decide +kernel
theorem w181_85 : Wp d 181 85 [l0, l1, l2, l3, l4, l5, l6, l7] (.int y :: .int x :: st) h Q = Wp d 181 86 [l0, l1, l2, l3, l4, l5, l6, l7] (.int (x - y) :: st) h Q := W_go f181_85 rfl
theorem f181_86 : fetch 181 86 = some (.ishr, 1, [], .null) := by decide +kernel
theorem w181_86 : Wp d 181 86 [l0, l1, l2, l3, l4, l5, l6, l7] (.int y :: .int x :: st) h Q = Wp d 181 87 [l0, l1, l2, l3, l4, l5, l6, l7] (.int (x >>> (y &&& 31)) :: st) h Q := W_go f181_86 rfl
theorem f181_87 : fetch 181 87 = some (.sipush 255, 3, [], .null) := by decide +kernel
theorem w181_87 : Wp d 181 87 [l0, l1, l2, l3, l4, l5, l6, l7] st h Q = Wp d 181 90 [l0, l1, l2, l3, l4, l5, l6, l7] (.int (255 : Int32) :: st) h Q := W_go f181_87 rfl
theorem f181_90 : fetch 181 90 = some (.iand, 1, [], .null) := by decide +kernel
theorem w181_90 : Wp d 181 90 [l0, l1, l2, l3, l4, l5, l6, l7] (.int y :: .int x :: st) h Q = Wp d 181 91 [l0, l1, l2, l3, l4, l5, l6, l7] (.int (x &&& y) :: st) h Q := W_go f181_90 rfl
theorem f181_91 : fetch 181 91 = some (.iastore, 1, [], .null) := by decide +kernel
theorem w181_91 : Wp d 181 91 [l0, l1, l2, l3, l4, l5, l6, l7] (.int y :: .int x :: .ref a :: st) h Q = asP false (h.2 a) a x y (fun c => Wp d 181 92 [l0, l1, l2, l3, l4, l5, l6, l7] st (hset h a c) Q) := W_ast f181_91 rfl
theorem f181_92 : fetch 181 92 = some (.iinc 7 1, 3, [], .null) := by decide +kernel
theorem w181_92 : Wp d 181 92 [l0, l1, l2, l3, l4, l5, l6, some (.int x)] st h Q = Wp d 181 95 [l0, l1, l2, l3, l4, l5, kl l6, some (.int (x + (1 : Int32)))] st h Q := (W_iinc (y := (1 : Int32)) f181_92 rfl (by simp only [List.length_cons, List.length_nil]; omega) (by decide)).trans (by rw [pst1_succ]; rfl)
theorem f181_95 : fetch 181 95 = some (.goto (-44), 3, [], .null) := by decide +kernel
theorem w181_95 : Wp d 181 95 [l0, l1, l2, l3, l4, l5, l6, l7] st h Q = Wp d 181 51 [l0, l1, l2, l3, l4, l5, l6, l7] st h Q := W_go f181_95 rfl
theorem f181_98 : fetch 181 98 = some (.aload_n 0, 1, [], .null) := by decide +kernel
theorem w181_98 : Wp d 181 98 [some (.ref a), l1, l2, l3, l4, l5, l6, l7] st h Q = Wp d 181 99 [some (.ref a), l1, l2, l3, l4, l5, l6, l7] (.ref a :: st) h Q := W_go f181_98 rfl
theorem f181_99 : fetch 181 99 = some (.dup, 1, [], .null) := by decide +kernel
theorem w181_99i : Wp d 181 99 [l0, l1, l2, l3, l4, l5, l6, l7] (.int x :: st) h Q = Wp d 181 100 [l0, l1, l2, l3, l4, l5, l6, l7] (.int x :: .int x :: st) h Q := W_go f181_99 rfl
theorem w181_99 : Wp d 181 99 [l0, l1, l2, l3, l4, l5, l6, l7] (.ref a :: st) h Q = Wp d 181 100 [l0, l1, l2, l3, l4, l5, l6, l7] (.ref a :: .ref a :: st) h Q := W_go f181_99 rfl
theorem f181_100 : fetch 181 100 = some (.getfield 70, 3, [10, 2, 6133, 0], .null) := by decide +kernel
theorem w181_100 : Wp d 181 100 [l0, l1, l2, l3, l4, l5, l6, l7] (.ref a :: st) h Q = gP (h.2 a) 10 2 (fun w => Wp d 181 103 [l0, l1, l2, l3, l4, l5, l6, l7] (w :: st) h Q) := W_get f181_100 rfl
theorem f181_103 : fetch 181 103 = some (.bipush 20, 2, [], .null) := by decide +kernel
theorem w181_103 : Wp d 181 103 [l0, l1, l2, l3, l4, l5, l6, l7] st h Q = Wp d 181 105 [l0, l1, l2, l3, l4, l5, l6, l7] (.int (20 : Int32) :: st) h Q := W_go f181_103 rfl
theorem f181_105 : fetch 181 105 = some (.iadd, 1, [], .null) := by decide +kernel
theorem w181_105 : Wp d 181 105 [l0, l1, l2, l3, l4, l5, l6, l7] (.int y :: .int x :: st) h Q = Wp d 181 106 [l0, l1, l2, l3, l4, l5, l6, l7] (.int (x + y) :: st) h Q := W_go f181_105 rfl
theorem f181_106 : fetch 181 106 = some (.putfield 70, 3, [10, 2, 6133, 0], .null) := by decide +kernel
theorem w181_106 : Wp d 181 106 [l0, l1, l2, l3, l4, l5, l6, l7] (v :: .ref a :: st) h Q = pP (h.2 a) 10 2 (ftOf 10 2) v a (fun c => Wp d 181 109 [l0, l1, l2, l3, l4, l5, l6, l7] st (hset h a c) Q) := W_put f181_106 (by rfl)
theorem f181_109 : fetch 181 109 = some (.aload_n 0, 1, [], .null) := by decide +kernel
theorem w181_109 : Wp d 181 109 [some (.ref a), l1, l2, l3, l4, l5, l6, l7] st h Q = Wp d 181 110 [some (.ref a), l1, l2, l3, l4, l5, l6, l7] (.ref a :: st) h Q := W_go f181_109 rfl
theorem f181_110 : fetch 181 110 = some (.getfield 70, 3, [10, 2, 6133, 0], .null) := by decide +kernel
theorem w181_110 : Wp d 181 110 [l0, l1, l2, l3, l4, l5, l6, l7] (.ref a :: st) h Q = gP (h.2 a) 10 2 (fun w => Wp d 181 113 [l0, l1, l2, l3, l4, l5, l6, l7] (w :: st) h Q) := W_get f181_110 rfl
theorem f181_113 : fetch 181 113 = some (.ireturn, 1, [], .null) := by decide +kernel
theorem w181_113 : Wp d 181 113 [l0, l1, l2, l3, l4, l5, l6, l7] [.int x] h Q = Q (.inl (some (.int x)), h) := W_iret f181_113 hr181
theorem hm182 : mhs 182 = [] := by decide +kernel
theorem hr182 : mret 182 = (some .int) := by decide +kernel
theorem f182_0 : fetch 182 0 = some (.aload_n 0, 1, [], .null) := by decide +kernel
theorem w182_0 : Wp d 182 0 [some (.ref a), l1] st h Q = Wp d 182 1 [some (.ref a), l1] (.ref a :: st) h Q := W_go f182_0 rfl
theorem f182_1 : fetch 182 1 = some (.iconst 0, 1, [], .null) := by decide +kernel
theorem w182_1 : Wp d 182 1 [l0, l1] st h Q = Wp d 182 2 [l0, l1] (.int (0 : Int32) :: st) h Q := W_go f182_1 rfl
theorem f182_2 : fetch 182 2 = some (.putfield 57, 3, [10, 0, 6131, 0], .null) := by decide +kernel
theorem w182_2 : Wp d 182 2 [l0, l1] (v :: .ref a :: st) h Q = pP (h.2 a) 10 0 (ftOf 10 0) v a (fun c => Wp d 182 5 [l0, l1] st (hset h a c) Q) := W_put f182_2 (by rfl)
theorem f182_5 : fetch 182 5 = some (.iload_n 1, 1, [], .null) := by decide +kernel
theorem w182_5 : Wp d 182 5 [l0, some (.int x)] st h Q = Wp d 182 6 [l0, some (.int x)] (.int x :: st) h Q := W_go f182_5 rfl
theorem f182_6 : fetch 182 6 = some (.iconst 0, 1, [], .null) := by decide +kernel
theorem w182_6 : Wp d 182 6 [l0, l1] st h Q = Wp d 182 7 [l0, l1] (.int (0 : Int32) :: st) h Q := W_go f182_6 rfl
theorem f182_7 : fetch 182 7 = some (.aload_n 0, 1, [], .null) := by decide +kernel
theorem w182_7 : Wp d 182 7 [some (.ref a), l1] st h Q = Wp d 182 8 [some (.ref a), l1] (.ref a :: st) h Q := W_go f182_7 rfl
theorem f182_8 : fetch 182 8 = some (.getfield 70, 3, [10, 2, 6133, 0], .null) := by decide +kernel
theorem w182_8 : Wp d 182 8 [l0, l1] (.ref a :: st) h Q = gP (h.2 a) 10 2 (fun w => Wp d 182 11 [l0, l1] (w :: st) h Q) := W_get f182_8 rfl
theorem f182_11 : fetch 182 11 = some (.invokestatic 63, 3, [148, 3, 0, 0, 6199, 1013, 6201, 6200], .null) := by decide +kernel
theorem w182_11 (hp : psum st ≤ 8) : Wp d 182 11 [l0, l1] (v2 :: v1 :: v0 :: st) h Q = Cp d 148 [v0, v1, v2] h (fun o => cK o (fun w h2 => Wp d 182 14 [l0, l1] (w.toList ++ st) h2 Q) (fun _ _ => False)) := (W_invS (st := st) f182_11 rfl rfl (by simp only [List.length_cons]; omega) rfl rfl hp)
theorem f182_14 : fetch 182 14 = some (.ifCond .ne 9, 3, [], .null) := by decide +kernel
theorem w182_14 : Wp d 182 14 [l0, l1] (.int x :: st) h Q = if icond .ne x 0 = true then Wp d 182 23 [l0, l1] st h Q else Wp d 182 17 [l0, l1] st h Q := W_if f182_14 rfl
theorem f182_17 : fetch 182 17 = some (.aload_n 0, 1, [], .null) := by decide +kernel
theorem w182_17 : Wp d 182 17 [some (.ref a), l1] st h Q = Wp d 182 18 [some (.ref a), l1] (.ref a :: st) h Q := W_go f182_17 rfl
theorem f182_18 : fetch 182 18 = some (.iconst 1, 1, [], .null) := by decide +kernel
theorem w182_18 : Wp d 182 18 [l0, l1] st h Q = Wp d 182 19 [l0, l1] (.int (1 : Int32) :: st) h Q := W_go f182_18 rfl
theorem f182_19 : fetch 182 19 = some (.invokevirtual 249, 3, [146, 2, 11, 0, 6191, 1013, 6194, 6193, 35], .null) := by decide +kernel
theorem w182_19 (hp : psum st ≤ 8) : Wp d 182 19 [l0, l1] (v1 :: (.ref b) :: st) h Q = rP (h.2 b) 10 (Cp d 146 [(.ref b), v1] h (fun o => cK o (fun w h2 => Wp d 182 22 [l0, l1] (w.toList ++ st) h2 Q) (fun E h2 => Q (.inr E, h2)))) := (W_invV (st := st) f182_19 rfl rfl (by simp only [List.length_cons]; omega) rfl rfl hp).trans (by simp only [hm182, if_true])
theorem f182_22 : fetch 182 22 = some (.ireturn, 1, [], .null) := by decide +kernel
theorem w182_22 : Wp d 182 22 [l0, l1] [.int x] h Q = Q (.inl (some (.int x)), h) := W_iret f182_22 hr182
theorem f182_23 : fetch 182 23 = some (.aload_n 0, 1, [], .null) := by decide +kernel
theorem w182_23 : Wp d 182 23 [some (.ref a), l1] st h Q = Wp d 182 24 [some (.ref a), l1] (.ref a :: st) h Q := W_go f182_23 rfl
theorem f182_24 : fetch 182 24 = some (.iload_n 1, 1, [], .null) := by decide +kernel
theorem w182_24 : Wp d 182 24 [l0, some (.int x)] st h Q = Wp d 182 25 [l0, some (.int x)] (.int x :: st) h Q := W_go f182_24 rfl
theorem f182_25 : fetch 182 25 = some (.putfield 70, 3, [10, 2, 6133, 0], .null) := by decide +kernel
theorem w182_25 : Wp d 182 25 [l0, l1] (v :: .ref a :: st) h Q = pP (h.2 a) 10 2 (ftOf 10 2) v a (fun c => Wp d 182 28 [l0, l1] st (hset h a c) Q) := W_put f182_25 (by rfl)
theorem f182_28 : fetch 182 28 = some (.iload_n 1, 1, [], .null) := by decide +kernel
theorem w182_28 : Wp d 182 28 [l0, some (.int x)] st h Q = Wp d 182 29 [l0, some (.int x)] (.int x :: st) h Q := W_go f182_28 rfl
theorem f182_29 : fetch 182 29 = some (.ireturn, 1, [], .null) := by decide +kernel
theorem w182_29 : Wp d 182 29 [l0, l1] [.int x] h Q = Q (.inl (some (.int x)), h) := W_iret f182_29 hr182
theorem hm183 : mhs 183 = [] := by decide +kernel
theorem hr183 : mret 183 = (some .int) := by decide +kernel
theorem f183_0 : fetch 183 0 = some (.aload_n 0, 1, [], .null) := by decide +kernel
theorem w183_0 : Wp d 183 0 [some (.ref a), l1] st h Q = Wp d 183 1 [some (.ref a), l1] (.ref a :: st) h Q := W_go f183_0 rfl
theorem f183_1 : fetch 183 1 = some (.iconst 0, 1, [], .null) := by decide +kernel
theorem w183_1 : Wp d 183 1 [l0, l1] st h Q = Wp d 183 2 [l0, l1] (.int (0 : Int32) :: st) h Q := W_go f183_1 rfl
theorem f183_2 : fetch 183 2 = some (.putfield 57, 3, [10, 0, 6131, 0], .null) := by decide +kernel
theorem w183_2 : Wp d 183 2 [l0, l1] (v :: .ref a :: st) h Q = pP (h.2 a) 10 0 (ftOf 10 0) v a (fun c => Wp d 183 5 [l0, l1] st (hset h a c) Q) := W_put f183_2 (by rfl)
theorem f183_5 : fetch 183 5 = some (.aload_n 0, 1, [], .null) := by decide +kernel
theorem w183_5 : Wp d 183 5 [some (.ref a), l1] st h Q = Wp d 183 6 [some (.ref a), l1] (.ref a :: st) h Q := W_go f183_5 rfl
theorem f183_6 : fetch 183 6 = some (.iconst (-1), 1, [], .null) := by decide +kernel
theorem w183_6 : Wp d 183 6 [l0, l1] st h Q = Wp d 183 7 [l0, l1] (.int (-1 : Int32) :: st) h Q := W_go f183_6 rfl
theorem f183_7 : fetch 183 7 = some (.putfield 13, 3, [10, 3, 6134, 0], .null) := by decide +kernel
theorem w183_7 : Wp d 183 7 [l0, l1] (v :: .ref a :: st) h Q = pP (h.2 a) 10 3 (ftOf 10 3) v a (fun c => Wp d 183 10 [l0, l1] st (hset h a c) Q) := W_put f183_7 (by rfl)
theorem f183_10 : fetch 183 10 = some (.aload_n 0, 1, [], .null) := by decide +kernel
theorem w183_10 : Wp d 183 10 [some (.ref a), l1] st h Q = Wp d 183 11 [some (.ref a), l1] (.ref a :: st) h Q := W_go f183_10 rfl
theorem f183_11 : fetch 183 11 = some (.invokevirtual 252, 3, [180, 1, 11, 0, 6206, 1013, 6209, 6208, 36], .null) := by decide +kernel
theorem w183_11 (hp : psum st ≤ 8) : Wp d 183 11 [l0, l1] ((.ref b) :: st) h Q = rP (h.2 b) 10 (Cp d 180 [(.ref b)] h (fun o => cK o (fun w h2 => Wp d 183 14 [l0, l1] (w.toList ++ st) h2 Q) (fun E h2 => Q (.inr E, h2)))) := (W_invV (st := st) f183_11 rfl rfl (by simp only [List.length_cons]; omega) rfl rfl hp).trans (by simp only [hm183, if_true])
theorem f183_14 : fetch 183 14 = some (.istore_n 1, 1, [], .null) := by decide +kernel
theorem w183_14 : Wp d 183 14 [l0, l1] (.int x :: st) h Q = Wp d 183 15 [kl l0, some (.int x)] st h Q := (W_st1 (pc' := 15) (k := 1) f183_14 rfl rfl (by simp only [List.length_cons, List.length_nil]; omega)).trans (by rw [pst1_succ]; rfl)
theorem f183_15 : fetch 183 15 = some (.aload_n 0, 1, [], .null) := by decide +kernel
theorem w183_15 : Wp d 183 15 [some (.ref a), l1] st h Q = Wp d 183 16 [some (.ref a), l1] (.ref a :: st) h Q := W_go f183_15 rfl
theorem f183_16 : fetch 183 16 = some (.iconst 0, 1, [], .null) := by decide +kernel
theorem w183_16 : Wp d 183 16 [l0, l1] st h Q = Wp d 183 17 [l0, l1] (.int (0 : Int32) :: st) h Q := W_go f183_16 rfl
theorem f183_17 : fetch 183 17 = some (.putfield 70, 3, [10, 2, 6133, 0], .null) := by decide +kernel
theorem w183_17 : Wp d 183 17 [l0, l1] (v :: .ref a :: st) h Q = pP (h.2 a) 10 2 (ftOf 10 2) v a (fun c => Wp d 183 20 [l0, l1] st (hset h a c) Q) := W_put f183_17 (by rfl)
theorem f183_20 : fetch 183 20 = some (.iload_n 1, 1, [], .null) := by decide +kernel
theorem w183_20 : Wp d 183 20 [l0, some (.int x)] st h Q = Wp d 183 21 [l0, some (.int x)] (.int x :: st) h Q := W_go f183_20 rfl
theorem f183_21 : fetch 183 21 = some (.ifCond .le 5, 3, [], .null) := by decide +kernel
theorem w183_21 : Wp d 183 21 [l0, l1] (.int x :: st) h Q = if icond .le x 0 = true then Wp d 183 26 [l0, l1] st h Q else Wp d 183 24 [l0, l1] st h Q := W_if f183_21 rfl
theorem f183_24 : fetch 183 24 = some (.iload_n 1, 1, [], .null) := by decide +kernel
theorem w183_24 : Wp d 183 24 [l0, some (.int x)] st h Q = Wp d 183 25 [l0, some (.int x)] (.int x :: st) h Q := W_go f183_24 rfl
theorem f183_25 : fetch 183 25 = some (.ireturn, 1, [], .null) := by decide +kernel
theorem w183_25 : Wp d 183 25 [l0, l1] [.int x] h Q = Q (.inl (some (.int x)), h) := W_iret f183_25 hr183
theorem f183_26 : fetch 183 26 = some (.aload_n 0, 1, [], .null) := by decide +kernel
theorem w183_26 : Wp d 183 26 [some (.ref a), l1] st h Q = Wp d 183 27 [some (.ref a), l1] (.ref a :: st) h Q := W_go f183_26 rfl
theorem f183_27 : fetch 183 27 = some (.aload_n 0, 1, [], .null) := by decide +kernel
theorem w183_27 : Wp d 183 27 [some (.ref a), l1] st h Q = Wp d 183 28 [some (.ref a), l1] (.ref a :: st) h Q := W_go f183_27 rfl
theorem f183_28 : fetch 183 28 = some (.getfield 36, 3, [10, 11, 6143, 0], .null) := by decide +kernel
theorem w183_28 : Wp d 183 28 [l0, l1] (.ref a :: st) h Q = gP (h.2 a) 10 11 (fun w => Wp d 183 31 [l0, l1] (w :: st) h Q) := W_get f183_28 rfl
theorem f183_31 : fetch 183 31 = some (.putfield 32, 3, [10, 10, 6141, 0], .null) := by decide +kernel
theorem w183_31 : Wp d 183 31 [l0, l1] (v :: .ref a :: st) h Q = pP (h.2 a) 10 10 (ftOf 10 10) v a (fun c => Wp d 183 34 [l0, l1] st (hset h a c) Q) := W_put f183_31 (by rfl)
theorem f183_34 : fetch 183 34 = some (.aload_n 0, 1, [], .null) := by decide +kernel
theorem w183_34 : Wp d 183 34 [some (.ref a), l1] st h Q = Wp d 183 35 [some (.ref a), l1] (.ref a :: st) h Q := W_go f183_34 rfl
theorem f183_35 : fetch 183 35 = some (.getfield 47, 3, [10, 14, 6148, 0], .null) := by decide +kernel
theorem w183_35 : Wp d 183 35 [l0, l1] (.ref a :: st) h Q = gP (h.2 a) 10 14 (fun w => Wp d 183 38 [l0, l1] (w :: st) h Q) := W_get f183_35 rfl
theorem f183_38 : fetch 183 38 = some (.invokevirtual 54, 3, [123, 1, 10, 0, 6119, 1015, 6122, 6120, 6121], .null) := by decide +kernel
theorem w183_38 (hp : psum st ≤ 8) : Wp d 183 38 [l0, l1] ((.ref b) :: st) h Q = rP (h.2 b) 9 (Cp d 123 [(.ref b)] h (fun o => cK o (fun w h2 => Wp d 183 41 [l0, l1] (w.toList ++ st) h2 Q) (fun E h2 => Q (.inr E, h2)))) := (W_invV (st := st) f183_38 rfl rfl (by simp only [List.length_cons]; omega) rfl rfl hp).trans (by simp only [hm183, if_true])
theorem f183_41 : fetch 183 41 = some (.iconst 0, 1, [], .null) := by decide +kernel
theorem w183_41 : Wp d 183 41 [l0, l1] st h Q = Wp d 183 42 [l0, l1] (.int (0 : Int32) :: st) h Q := W_go f183_41 rfl
theorem f183_42 : fetch 183 42 = some (.ireturn, 1, [], .null) := by decide +kernel
theorem w183_42 : Wp d 183 42 [l0, l1] [.int x] h Q = Q (.inl (some (.int x)), h) := W_iret f183_42 hr183
theorem hm184 : mhs 184 = [] := by decide +kernel
theorem hr184 : mret 184 = (some .int) := by decide +kernel
theorem f184_0 : fetch 184 0 = some (.aload_n 0, 1, [], .null) := by decide +kernel
theorem w184_0 : Wp d 184 0 [some (.ref a)] st h Q = Wp d 184 1 [some (.ref a)] (.ref a :: st) h Q := W_go f184_0 rfl
theorem f184_1 : fetch 184 1 = some (.iconst 0, 1, [], .null) := by decide +kernel
theorem w184_1 : Wp d 184 1 [l0] st h Q = Wp d 184 2 [l0] (.int (0 : Int32) :: st) h Q := W_go f184_1 rfl
theorem f184_2 : fetch 184 2 = some (.putfield 57, 3, [10, 0, 6131, 0], .null) := by decide +kernel
theorem w184_2 : Wp d 184 2 [l0] (v :: .ref a :: st) h Q = pP (h.2 a) 10 0 (ftOf 10 0) v a (fun c => Wp d 184 5 [l0] st (hset h a c) Q) := W_put f184_2 (by rfl)
theorem f184_5 : fetch 184 5 = some (.aload_n 0, 1, [], .null) := by decide +kernel
theorem w184_5 : Wp d 184 5 [some (.ref a)] st h Q = Wp d 184 6 [some (.ref a)] (.ref a :: st) h Q := W_go f184_5 rfl
theorem f184_6 : fetch 184 6 = some (.getfield 13, 3, [10, 3, 6134, 0], .null) := by decide +kernel
theorem w184_6 : Wp d 184 6 [l0] (.ref a :: st) h Q = gP (h.2 a) 10 3 (fun w => Wp d 184 9 [l0] (w :: st) h Q) := W_get f184_6 rfl
theorem f184_9 : fetch 184 9 = some (.ireturn, 1, [], .null) := by decide +kernel
theorem w184_9 : Wp d 184 9 [l0] [.int x] h Q = Q (.inl (some (.int x)), h) := W_iret f184_9 hr184
theorem hm185 : mhs 185 = [] := by decide +kernel
theorem hr185 : mret 185 = (some .int) := by decide +kernel
theorem f185_0 : fetch 185 0 = some (.aload_n 0, 1, [], .null) := by decide +kernel
theorem w185_0 : Wp d 185 0 [some (.ref a), l1] st h Q = Wp d 185 1 [some (.ref a), l1] (.ref a :: st) h Q := W_go f185_0 rfl
theorem f185_1 : fetch 185 1 = some (.iconst 0, 1, [], .null) := by decide +kernel
theorem w185_1 : Wp d 185 1 [l0, l1] st h Q = Wp d 185 2 [l0, l1] (.int (0 : Int32) :: st) h Q := W_go f185_1 rfl
theorem f185_2 : fetch 185 2 = some (.putfield 57, 3, [10, 0, 6131, 0], .null) := by decide +kernel
theorem w185_2 : Wp d 185 2 [l0, l1] (v :: .ref a :: st) h Q = pP (h.2 a) 10 0 (ftOf 10 0) v a (fun c => Wp d 185 5 [l0, l1] st (hset h a c) Q) := W_put f185_2 (by rfl)
theorem f185_5 : fetch 185 5 = some (.iload_n 1, 1, [], .null) := by decide +kernel
theorem w185_5 : Wp d 185 5 [l0, some (.int x)] st h Q = Wp d 185 6 [l0, some (.int x)] (.int x :: st) h Q := W_go f185_5 rfl
theorem f185_6 : fetch 185 6 = some (.iconst 1, 1, [], .null) := by decide +kernel
theorem w185_6 : Wp d 185 6 [l0, l1] st h Q = Wp d 185 7 [l0, l1] (.int (1 : Int32) :: st) h Q := W_go f185_6 rfl
theorem f185_7 : fetch 185 7 = some (.bipush 60, 2, [], .null) := by decide +kernel
theorem w185_7 : Wp d 185 7 [l0, l1] st h Q = Wp d 185 9 [l0, l1] (.int (60 : Int32) :: st) h Q := W_go f185_7 rfl
theorem f185_9 : fetch 185 9 = some (.invokestatic 63, 3, [148, 3, 0, 0, 6199, 1013, 6201, 6200], .null) := by decide +kernel
theorem w185_9 (hp : psum st ≤ 8) : Wp d 185 9 [l0, l1] (v2 :: v1 :: v0 :: st) h Q = Cp d 148 [v0, v1, v2] h (fun o => cK o (fun w h2 => Wp d 185 12 [l0, l1] (w.toList ++ st) h2 Q) (fun _ _ => False)) := (W_invS (st := st) f185_9 rfl rfl (by simp only [List.length_cons]; omega) rfl rfl hp)
theorem f185_12 : fetch 185 12 = some (.ifCond .ne 9, 3, [], .null) := by decide +kernel
theorem w185_12 : Wp d 185 12 [l0, l1] (.int x :: st) h Q = if icond .ne x 0 = true then Wp d 185 21 [l0, l1] st h Q else Wp d 185 15 [l0, l1] st h Q := W_if f185_12 rfl
theorem f185_15 : fetch 185 15 = some (.aload_n 0, 1, [], .null) := by decide +kernel
theorem w185_15 : Wp d 185 15 [some (.ref a), l1] st h Q = Wp d 185 16 [some (.ref a), l1] (.ref a :: st) h Q := W_go f185_15 rfl
theorem f185_16 : fetch 185 16 = some (.iconst 1, 1, [], .null) := by decide +kernel
theorem w185_16 : Wp d 185 16 [l0, l1] st h Q = Wp d 185 17 [l0, l1] (.int (1 : Int32) :: st) h Q := W_go f185_16 rfl
theorem f185_17 : fetch 185 17 = some (.invokevirtual 249, 3, [146, 2, 11, 0, 6191, 1013, 6194, 6193, 35], .null) := by decide +kernel
theorem w185_17 (hp : psum st ≤ 8) : Wp d 185 17 [l0, l1] (v1 :: (.ref b) :: st) h Q = rP (h.2 b) 10 (Cp d 146 [(.ref b), v1] h (fun o => cK o (fun w h2 => Wp d 185 20 [l0, l1] (w.toList ++ st) h2 Q) (fun E h2 => Q (.inr E, h2)))) := (W_invV (st := st) f185_17 rfl rfl (by simp only [List.length_cons]; omega) rfl rfl hp).trans (by simp only [hm185, if_true])
theorem f185_20 : fetch 185 20 = some (.ireturn, 1, [], .null) := by decide +kernel
theorem w185_20 : Wp d 185 20 [l0, l1] [.int x] h Q = Q (.inl (some (.int x)), h) := W_iret f185_20 hr185
theorem f185_21 : fetch 185 21 = some (.aload_n 0, 1, [], .null) := by decide +kernel
theorem w185_21 : Wp d 185 21 [some (.ref a), l1] st h Q = Wp d 185 22 [some (.ref a), l1] (.ref a :: st) h Q := W_go f185_21 rfl
theorem f185_22 : fetch 185 22 = some (.getfield 67, 3, [10, 12, 6145, 0], .null) := by decide +kernel
theorem w185_22 : Wp d 185 22 [l0, l1] (.ref a :: st) h Q = gP (h.2 a) 10 12 (fun w => Wp d 185 25 [l0, l1] (w :: st) h Q) := W_get f185_22 rfl
theorem f185_25 : fetch 185 25 = some (.iconst 3, 1, [], .null) := by decide +kernel
theorem w185_25 : Wp d 185 25 [l0, l1] st h Q = Wp d 185 26 [l0, l1] (.int (3 : Int32) :: st) h Q := W_go f185_25 rfl
theorem f185_26 : fetch 185 26 = some (.if_icmp .ne 9, 3, [], .null) := by decide +kernel
theorem w185_26 : Wp d 185 26 [l0, l1] (.int y :: .int x :: st) h Q = if icond .ne x y = true then Wp d 185 35 [l0, l1] st h Q else Wp d 185 29 [l0, l1] st h Q := W_if f185_26 rfl
theorem f185_29 : fetch 185 29 = some (.aload_n 0, 1, [], .null) := by decide +kernel
theorem w185_29 : Wp d 185 29 [some (.ref a), l1] st h Q = Wp d 185 30 [some (.ref a), l1] (.ref a :: st) h Q := W_go f185_29 rfl
theorem f185_30 : fetch 185 30 = some (.iconst 2, 1, [], .null) := by decide +kernel
theorem w185_30 : Wp d 185 30 [l0, l1] st h Q = Wp d 185 31 [l0, l1] (.int (2 : Int32) :: st) h Q := W_go f185_30 rfl
theorem f185_31 : fetch 185 31 = some (.invokevirtual 249, 3, [146, 2, 11, 0, 6191, 1013, 6194, 6193, 35], .null) := by decide +kernel
theorem w185_31 (hp : psum st ≤ 8) : Wp d 185 31 [l0, l1] (v1 :: (.ref b) :: st) h Q = rP (h.2 b) 10 (Cp d 146 [(.ref b), v1] h (fun o => cK o (fun w h2 => Wp d 185 34 [l0, l1] (w.toList ++ st) h2 Q) (fun E h2 => Q (.inr E, h2)))) := (W_invV (st := st) f185_31 rfl rfl (by simp only [List.length_cons]; omega) rfl rfl hp).trans (by simp only [hm185, if_true])
theorem f185_34 : fetch 185 34 = some (.ireturn, 1, [], .null) := by decide +kernel
theorem w185_34 : Wp d 185 34 [l0, l1] [.int x] h Q = Q (.inl (some (.int x)), h) := W_iret f185_34 hr185
theorem f185_35 : fetch 185 35 = some (.aload_n 0, 1, [], .null) := by decide +kernel
theorem w185_35 : Wp d 185 35 [some (.ref a), l1] st h Q = Wp d 185 36 [some (.ref a), l1] (.ref a :: st) h Q := W_go f185_35 rfl
theorem f185_36 : fetch 185 36 = some (.getfield 39, 3, [10, 13, 6146, 0], .null) := by decide +kernel
theorem w185_36 : Wp d 185 36 [l0, l1] (.ref a :: st) h Q = gP (h.2 a) 10 13 (fun w => Wp d 185 39 [l0, l1] (w :: st) h Q) := W_get f185_36 rfl
theorem f185_39 : fetch 185 39 = some (.aload_n 0, 1, [], .null) := by decide +kernel
theorem w185_39 : Wp d 185 39 [some (.ref a), l1] st h Q = Wp d 185 40 [some (.ref a), l1] (.ref a :: st) h Q := W_go f185_39 rfl
theorem f185_40 : fetch 185 40 = some (.getfield 67, 3, [10, 12, 6145, 0], .null) := by decide +kernel
theorem w185_40 : Wp d 185 40 [l0, l1] (.ref a :: st) h Q = gP (h.2 a) 10 12 (fun w => Wp d 185 43 [l0, l1] (w :: st) h Q) := W_get f185_40 rfl
theorem f185_43 : fetch 185 43 = some (.iload_n 1, 1, [], .null) := by decide +kernel
theorem w185_43 : Wp d 185 43 [l0, some (.int x)] st h Q = Wp d 185 44 [l0, some (.int x)] (.int x :: st) h Q := W_go f185_43 rfl
theorem f185_44 : fetch 185 44 = some (.iastore, 1, [], .null) := by decide +kernel
theorem w185_44 : Wp d 185 44 [l0, l1] (.int y :: .int x :: .ref a :: st) h Q = asP false (h.2 a) a x y (fun c => Wp d 185 45 [l0, l1] st (hset h a c) Q) := W_ast f185_44 rfl
theorem f185_45 : fetch 185 45 = some (.aload_n 0, 1, [], .null) := by decide +kernel
theorem w185_45 : Wp d 185 45 [some (.ref a), l1] st h Q = Wp d 185 46 [some (.ref a), l1] (.ref a :: st) h Q := W_go f185_45 rfl
theorem f185_46 : fetch 185 46 = some (.getfield 47, 3, [10, 14, 6148, 0], .null) := by decide +kernel
theorem w185_46 : Wp d 185 46 [l0, l1] (.ref a :: st) h Q = gP (h.2 a) 10 14 (fun w => Wp d 185 49 [l0, l1] (w :: st) h Q) := W_get f185_46 rfl
theorem f185_49 : fetch 185 49 = some (.aload_n 0, 1, [], .null) := by decide +kernel
theorem w185_49 : Wp d 185 49 [some (.ref a), l1] st h Q = Wp d 185 50 [some (.ref a), l1] (.ref a :: st) h Q := W_go f185_49 rfl
theorem f185_50 : fetch 185 50 = some (.getfield 67, 3, [10, 12, 6145, 0], .null) := by decide +kernel
theorem w185_50 : Wp d 185 50 [l0, l1] (.ref a :: st) h Q = gP (h.2 a) 10 12 (fun w => Wp d 185 53 [l0, l1] (w :: st) h Q) := W_get f185_50 rfl
theorem f185_53 : fetch 185 53 = some (.invokevirtual 255, 3, [124, 2, 10, 0, 7096, 1015, 6126, 6124, 6125], .null) := by decide +kernel
theorem w185_53 (hp : psum st ≤ 8) : Wp d 185 53 [l0, l1] (v1 :: (.ref b) :: st) h Q = rP (h.2 b) 9 (Cp d 124 [(.ref b), v1] h (fun o => cK o (fun w h2 => Wp d 185 56 [l0, l1] (w.toList ++ st) h2 Q) (fun E h2 => Q (.inr E, h2)))) := (W_invV (st := st) f185_53 rfl rfl (by simp only [List.length_cons]; omega) rfl rfl hp).trans (by simp only [hm185, if_true])
theorem f185_56 : fetch 185 56 = some (.aload_n 0, 1, [], .null) := by decide +kernel
theorem w185_56 : Wp d 185 56 [some (.ref a), l1] st h Q = Wp d 185 57 [some (.ref a), l1] (.ref a :: st) h Q := W_go f185_56 rfl
theorem f185_57 : fetch 185 57 = some (.dup, 1, [], .null) := by decide +kernel
theorem w185_57i : Wp d 185 57 [l0, l1] (.int x :: st) h Q = Wp d 185 58 [l0, l1] (.int x :: .int x :: st) h Q := W_go f185_57 rfl
theorem w185_57 : Wp d 185 57 [l0, l1] (.ref a :: st) h Q = Wp d 185 58 [l0, l1] (.ref a :: .ref a :: st) h Q := W_go f185_57 rfl
theorem f185_58 : fetch 185 58 = some (.getfield 67, 3, [10, 12, 6145, 0], .null) := by decide +kernel
theorem w185_58 : Wp d 185 58 [l0, l1] (.ref a :: st) h Q = gP (h.2 a) 10 12 (fun w => Wp d 185 61 [l0, l1] (w :: st) h Q) := W_get f185_58 rfl
theorem f185_61 : fetch 185 61 = some (.iconst 1, 1, [], .null) := by decide +kernel
theorem w185_61 : Wp d 185 61 [l0, l1] st h Q = Wp d 185 62 [l0, l1] (.int (1 : Int32) :: st) h Q := W_go f185_61 rfl
theorem f185_62 : fetch 185 62 = some (.iadd, 1, [], .null) := by decide +kernel
theorem w185_62 : Wp d 185 62 [l0, l1] (.int y :: .int x :: st) h Q = Wp d 185 63 [l0, l1] (.int (x + y) :: st) h Q := W_go f185_62 rfl
theorem f185_63 : fetch 185 63 = some (.putfield 67, 3, [10, 12, 6145, 0], .null) := by decide +kernel
theorem w185_63 : Wp d 185 63 [l0, l1] (v :: .ref a :: st) h Q = pP (h.2 a) 10 12 (ftOf 10 12) v a (fun c => Wp d 185 66 [l0, l1] st (hset h a c) Q) := W_put f185_63 (by rfl)
theorem f185_66 : fetch 185 66 = some (.aload_n 0, 1, [], .null) := by decide +kernel
theorem w185_66 : Wp d 185 66 [some (.ref a), l1] st h Q = Wp d 185 67 [some (.ref a), l1] (.ref a :: st) h Q := W_go f185_66 rfl
theorem f185_67 : fetch 185 67 = some (.getfield 67, 3, [10, 12, 6145, 0], .null) := by decide +kernel
theorem w185_67 : Wp d 185 67 [l0, l1] (.ref a :: st) h Q = gP (h.2 a) 10 12 (fun w => Wp d 185 70 [l0, l1] (w :: st) h Q) := W_get f185_67 rfl
theorem f185_70 : fetch 185 70 = some (.iconst 1, 1, [], .null) := by decide +kernel
theorem w185_70 : Wp d 185 70 [l0, l1] st h Q = Wp d 185 71 [l0, l1] (.int (1 : Int32) :: st) h Q := W_go f185_70 rfl
theorem f185_71 : fetch 185 71 = some (.isub, 1, [], .null) := by decide +kernel
theorem w185_71 : Wp d 185 71 [l0, l1] (.int y :: .int x :: st) h Q = Wp d 185 72 [l0, l1] (.int (x - y) :: st) h Q := W_go f185_71 rfl
theorem f185_72 : fetch 185 72 = some (.ireturn, 1, [], .null) := by decide +kernel
theorem w185_72 : Wp d 185 72 [l0, l1] [.int x] h Q = Q (.inl (some (.int x)), h) := W_iret f185_72 hr185
theorem hm186 : mhs 186 = [] := by decide +kernel
theorem hr186 : mret 186 = (some .int) := by decide +kernel
theorem f186_0 : fetch 186 0 = some (.aload_n 0, 1, [], .null) := by decide +kernel
theorem w186_0 : Wp d 186 0 [some (.ref a), l1, l2, l3] st h Q = Wp d 186 1 [some (.ref a), l1, l2, l3] (.ref a :: st) h Q := W_go f186_0 rfl
theorem f186_1 : fetch 186 1 = some (.iconst 0, 1, [], .null) := by decide +kernel
theorem w186_1 : Wp d 186 1 [l0, l1, l2, l3] st h Q = Wp d 186 2 [l0, l1, l2, l3] (.int (0 : Int32) :: st) h Q := W_go f186_1 rfl
theorem f186_2 : fetch 186 2 = some (.putfield 57, 3, [10, 0, 6131, 0], .null) := by decide +kernel
theorem w186_2 : Wp d 186 2 [l0, l1, l2, l3] (v :: .ref a :: st) h Q = pP (h.2 a) 10 0 (ftOf 10 0) v a (fun c => Wp d 186 5 [l0, l1, l2, l3] st (hset h a c) Q) := W_put f186_2 (by rfl)
theorem f186_5 : fetch 186 5 = some (.aload_n 0, 1, [], .null) := by decide +kernel
theorem w186_5 : Wp d 186 5 [some (.ref a), l1, l2, l3] st h Q = Wp d 186 6 [some (.ref a), l1, l2, l3] (.ref a :: st) h Q := W_go f186_5 rfl
theorem f186_6 : fetch 186 6 = some (.iload_n 1, 1, [], .null) := by decide +kernel
theorem w186_6 : Wp d 186 6 [l0, some (.int x), l2, l3] st h Q = Wp d 186 7 [l0, some (.int x), l2, l3] (.int x :: st) h Q := W_go f186_6 rfl
theorem f186_7 : fetch 186 7 = some (.invokevirtual 259, 3, [150, 2, 11, 0, 7101, 1013, 7104, 7103, 64], .null) := by decide +kernel
theorem w186_7 (hp : psum st ≤ 8) : Wp d 186 7 [l0, l1, l2, l3] (v1 :: (.ref b) :: st) h Q = rP (h.2 b) 10 (Cp d 150 [(.ref b), v1] h (fun o => cK o (fun w h2 => Wp d 186 10 [l0, l1, l2, l3] (w.toList ++ st) h2 Q) (fun E h2 => Q (.inr E, h2)))) := (W_invV (st := st) f186_7 rfl rfl (by simp only [List.length_cons]; omega) rfl rfl hp).trans (by simp only [hm186, if_true])
theorem f186_10 : fetch 186 10 = some (.ifCond .eq 20, 3, [], .null) := by decide +kernel
theorem w186_10 : Wp d 186 10 [l0, l1, l2, l3] (.int x :: st) h Q = if icond .eq x 0 = true then Wp d 186 30 [l0, l1, l2, l3] st h Q else Wp d 186 13 [l0, l1, l2, l3] st h Q := W_if f186_10 rfl
theorem f186_13 : fetch 186 13 = some (.iload_n 2, 1, [], .null) := by decide +kernel
theorem w186_13 : Wp d 186 13 [l0, l1, some (.int x), l3] st h Q = Wp d 186 14 [l0, l1, some (.int x), l3] (.int x :: st) h Q := W_go f186_13 rfl
theorem f186_14 : fetch 186 14 = some (.iconst 0, 1, [], .null) := by decide +kernel
theorem w186_14 : Wp d 186 14 [l0, l1, l2, l3] st h Q = Wp d 186 15 [l0, l1, l2, l3] (.int (0 : Int32) :: st) h Q := W_go f186_14 rfl
theorem f186_15 : fetch 186 15 = some (.aload_n 0, 1, [], .null) := by decide +kernel
theorem w186_15 : Wp d 186 15 [some (.ref a), l1, l2, l3] st h Q = Wp d 186 16 [some (.ref a), l1, l2, l3] (.ref a :: st) h Q := W_go f186_15 rfl
theorem f186_16 : fetch 186 16 = some (.getfield 32, 3, [10, 10, 6141, 0], .null) := by decide +kernel
theorem w186_16 : Wp d 186 16 [l0, l1, l2, l3] (.ref a :: st) h Q = gP (h.2 a) 10 10 (fun w => Wp d 186 19 [l0, l1, l2, l3] (w :: st) h Q) := W_get f186_16 rfl
theorem f186_19 : fetch 186 19 = some (.getfield 213, 3, [8, 1, 5176, 1], .null) := by decide +kernel
theorem w186_19 : Wp d 186 19 [l0, l1, l2, l3] (.ref a :: st) h Q = gP (h.2 a) 8 1 (fun w => Wp d 186 22 [l0, l1, l2, l3] (w :: st) h Q) := W_get f186_19 rfl
theorem f186_22 : fetch 186 22 = some (.iconst 1, 1, [], .null) := by decide +kernel
theorem w186_22 : Wp d 186 22 [l0, l1, l2, l3] st h Q = Wp d 186 23 [l0, l1, l2, l3] (.int (1 : Int32) :: st) h Q := W_go f186_22 rfl
theorem f186_23 : fetch 186 23 = some (.isub, 1, [], .null) := by decide +kernel
theorem w186_23 : Wp d 186 23 [l0, l1, l2, l3] (.int y :: .int x :: st) h Q = Wp d 186 24 [l0, l1, l2, l3] (.int (x - y) :: st) h Q := W_go f186_23 rfl
theorem f186_24 : fetch 186 24 = some (.invokestatic 63, 3, [148, 3, 0, 0, 6199, 1013, 6201, 6200], .null) := by decide +kernel
theorem w186_24 (hp : psum st ≤ 8) : Wp d 186 24 [l0, l1, l2, l3] (v2 :: v1 :: v0 :: st) h Q = Cp d 148 [v0, v1, v2] h (fun o => cK o (fun w h2 => Wp d 186 27 [l0, l1, l2, l3] (w.toList ++ st) h2 Q) (fun _ _ => False)) := (W_invS (st := st) f186_24 rfl rfl (by simp only [List.length_cons]; omega) rfl rfl hp)
theorem f186_27 : fetch 186 27 = some (.ifCond .ne 9, 3, [], .null) := by decide +kernel
theorem w186_27 : Wp d 186 27 [l0, l1, l2, l3] (.int x :: st) h Q = if icond .ne x 0 = true then Wp d 186 36 [l0, l1, l2, l3] st h Q else Wp d 186 30 [l0, l1, l2, l3] st h Q := W_if f186_27 rfl
theorem f186_30 : fetch 186 30 = some (.aload_n 0, 1, [], .null) := by decide +kernel
theorem w186_30 : Wp d 186 30 [some (.ref a), l1, l2, l3] st h Q = Wp d 186 31 [some (.ref a), l1, l2, l3] (.ref a :: st) h Q := W_go f186_30 rfl
theorem f186_31 : fetch 186 31 = some (.iconst 1, 1, [], .null) := by decide +kernel
theorem w186_31 : Wp d 186 31 [l0, l1, l2, l3] st h Q = Wp d 186 32 [l0, l1, l2, l3] (.int (1 : Int32) :: st) h Q := W_go f186_31 rfl
theorem f186_32 : fetch 186 32 = some (.invokevirtual 249, 3, [146, 2, 11, 0, 6191, 1013, 6194, 6193, 35], .null) := by decide +kernel
theorem w186_32 (hp : psum st ≤ 8) : Wp d 186 32 [l0, l1, l2, l3] (v1 :: (.ref b) :: st) h Q = rP (h.2 b) 10 (Cp d 146 [(.ref b), v1] h (fun o => cK o (fun w h2 => Wp d 186 35 [l0, l1, l2, l3] (w.toList ++ st) h2 Q) (fun E h2 => Q (.inr E, h2)))) := (W_invV (st := st) f186_32 rfl rfl (by simp only [List.length_cons]; omega) rfl rfl hp).trans (by simp only [hm186, if_true])
theorem f186_35 : fetch 186 35 = some (.ireturn, 1, [], .null) := by decide +kernel
theorem w186_35 : Wp d 186 35 [l0, l1, l2, l3] [.int x] h Q = Q (.inl (some (.int x)), h) := W_iret f186_35 hr186
theorem f186_36 : fetch 186 36 = some (.aload_n 0, 1, [], .null) := by decide +kernel
theorem w186_36 : Wp d 186 36 [some (.ref a), l1, l2, l3] st h Q = Wp d 186 37 [some (.ref a), l1, l2, l3] (.ref a :: st) h Q := W_go f186_36 rfl
theorem f186_37 : fetch 186 37 = some (.getfield 47, 3, [10, 14, 6148, 0], .null) := by decide +kernel
theorem w186_37 : Wp d 186 37 [l0, l1, l2, l3] (.ref a :: st) h Q = gP (h.2 a) 10 14 (fun w => Wp d 186 40 [l0, l1, l2, l3] (w :: st) h Q) := W_get f186_37 rfl
theorem f186_40 : fetch 186 40 = some (.getfield 262, 3, [9, 11, 6060, 1], .null) := by decide +kernel
theorem w186_40 : Wp d 186 40 [l0, l1, l2, l3] (.ref a :: st) h Q = gP (h.2 a) 9 11 (fun w => Wp d 186 43 [l0, l1, l2, l3] (w :: st) h Q) := W_get f186_40 rfl
theorem f186_43 : fetch 186 43 = some (.iload_n 1, 1, [], .null) := by decide +kernel
theorem w186_43 : Wp d 186 43 [l0, some (.int x), l2, l3] st h Q = Wp d 186 44 [l0, some (.int x), l2, l3] (.int x :: st) h Q := W_go f186_43 rfl
theorem f186_44 : fetch 186 44 = some (.iaload, 1, [], .null) := by decide +kernel
theorem w186_44 : Wp d 186 44 [l0, l1, l2, l3] (.int x :: .ref a :: st) h Q = aP false (h.2 a) x (fun w => Wp d 186 45 [l0, l1, l2, l3] (.int w :: st) h Q) := W_ald f186_44 rfl
theorem f186_45 : fetch 186 45 = some (.istore_n 3, 1, [], .null) := by decide +kernel
theorem w186_45 : Wp d 186 45 [l0, l1, l2, l3] (.int x :: st) h Q = Wp d 186 46 [l0, l1, kl l2, some (.int x)] st h Q := (W_st1 (pc' := 46) (k := 3) f186_45 rfl rfl (by simp only [List.length_cons, List.length_nil]; omega)).trans (by rw [pst1_succ]; rfl)
theorem f186_46 : fetch 186 46 = some (.aload_n 0, 1, [], .null) := by decide +kernel
theorem w186_46 : Wp d 186 46 [some (.ref a), l1, l2, l3] st h Q = Wp d 186 47 [some (.ref a), l1, l2, l3] (.ref a :: st) h Q := W_go f186_46 rfl
theorem f186_47 : fetch 186 47 = some (.getfield 47, 3, [10, 14, 6148, 0], .null) := by decide +kernel
theorem w186_47 : Wp d 186 47 [l0, l1, l2, l3] (.ref a :: st) h Q = gP (h.2 a) 10 14 (fun w => Wp d 186 50 [l0, l1, l2, l3] (w :: st) h Q) := W_get f186_47 rfl
theorem f186_50 : fetch 186 50 = some (.getfield 262, 3, [9, 11, 6060, 1], .null) := by decide +kernel
theorem w186_50 : Wp d 186 50 [l0, l1, l2, l3] (.ref a :: st) h Q = gP (h.2 a) 9 11 (fun w => Wp d 186 53 [l0, l1, l2, l3] (w :: st) h Q) := W_get f186_50 rfl
theorem f186_53 : fetch 186 53 = some (.iload_n 1, 1, [], .null) := by decide +kernel
theorem w186_53 : Wp d 186 53 [l0, some (.int x), l2, l3] st h Q = Wp d 186 54 [l0, some (.int x), l2, l3] (.int x :: st) h Q := W_go f186_53 rfl
theorem f186_54 : fetch 186 54 = some (.iload_n 2, 1, [], .null) := by decide +kernel
theorem w186_54 : Wp d 186 54 [l0, l1, some (.int x), l3] st h Q = Wp d 186 55 [l0, l1, some (.int x), l3] (.int x :: st) h Q := W_go f186_54 rfl
theorem f186_55 : fetch 186 55 = some (.iastore, 1, [], .null) := by decide +kernel
theorem w186_55 : Wp d 186 55 [l0, l1, l2, l3] (.int y :: .int x :: .ref a :: st) h Q = asP false (h.2 a) a x y (fun c => Wp d 186 56 [l0, l1, l2, l3] st (hset h a c) Q) := W_ast f186_55 rfl
theorem f186_56 : fetch 186 56 = some (.aload_n 0, 1, [], .null) := by decide +kernel
theorem w186_56 : Wp d 186 56 [some (.ref a), l1, l2, l3] st h Q = Wp d 186 57 [some (.ref a), l1, l2, l3] (.ref a :: st) h Q := W_go f186_56 rfl
theorem f186_57 : fetch 186 57 = some (.getfield 47, 3, [10, 14, 6148, 0], .null) := by decide +kernel
theorem w186_57 : Wp d 186 57 [l0, l1, l2, l3] (.ref a :: st) h Q = gP (h.2 a) 10 14 (fun w => Wp d 186 60 [l0, l1, l2, l3] (w :: st) h Q) := W_get f186_57 rfl
theorem f186_60 : fetch 186 60 = some (.iload_n 1, 1, [], .null) := by decide +kernel
theorem w186_60 : Wp d 186 60 [l0, some (.int x), l2, l3] st h Q = Wp d 186 61 [l0, some (.int x), l2, l3] (.int x :: st) h Q := W_go f186_60 rfl
theorem f186_61 : fetch 186 61 = some (.invokevirtual 265, 3, [131, 2, 10, 0, 7105, 1015, 7108, 7106, 7107], .null) := by decide +kernel
theorem w186_61 (hp : psum st ≤ 8) : Wp d 186 61 [l0, l1, l2, l3] (v1 :: (.ref b) :: st) h Q = rP (h.2 b) 9 (Cp d 131 [(.ref b), v1] h (fun o => cK o (fun w h2 => Wp d 186 64 [l0, l1, l2, l3] (w.toList ++ st) h2 Q) (fun E h2 => Q (.inr E, h2)))) := (W_invV (st := st) f186_61 rfl rfl (by simp only [List.length_cons]; omega) rfl rfl hp).trans (by simp only [hm186, if_true])
theorem f186_64 : fetch 186 64 = some (.iload_n 3, 1, [], .null) := by decide +kernel
theorem w186_64 : Wp d 186 64 [l0, l1, l2, some (.int x)] st h Q = Wp d 186 65 [l0, l1, l2, some (.int x)] (.int x :: st) h Q := W_go f186_64 rfl
theorem f186_65 : fetch 186 65 = some (.ireturn, 1, [], .null) := by decide +kernel
theorem w186_65 : Wp d 186 65 [l0, l1, l2, l3] [.int x] h Q = Q (.inl (some (.int x)), h) := W_iret f186_65 hr186
theorem hm187 : mhs 187 = [] := by decide +kernel
theorem hr187 : mret 187 = (some .boolean) := by decide +kernel
theorem f187_0 : fetch 187 0 = some (.aload_n 0, 1, [], .null) := by decide +kernel
theorem w187_0 : Wp d 187 0 [some (.ref a), l1, l2] st h Q = Wp d 187 1 [some (.ref a), l1, l2] (.ref a :: st) h Q := W_go f187_0 rfl
theorem f187_1 : fetch 187 1 = some (.iconst 0, 1, [], .null) := by decide +kernel
theorem w187_1 : Wp d 187 1 [l0, l1, l2] st h Q = Wp d 187 2 [l0, l1, l2] (.int (0 : Int32) :: st) h Q := W_go f187_1 rfl
theorem f187_2 : fetch 187 2 = some (.putfield 57, 3, [10, 0, 6131, 0], .null) := by decide +kernel
theorem w187_2 : Wp d 187 2 [l0, l1, l2] (v :: .ref a :: st) h Q = pP (h.2 a) 10 0 (ftOf 10 0) v a (fun c => Wp d 187 5 [l0, l1, l2] st (hset h a c) Q) := W_put f187_2 (by rfl)
theorem f187_5 : fetch 187 5 = some (.aload_n 0, 1, [], .null) := by decide +kernel
theorem w187_5 : Wp d 187 5 [some (.ref a), l1, l2] st h Q = Wp d 187 6 [some (.ref a), l1, l2] (.ref a :: st) h Q := W_go f187_5 rfl
theorem f187_6 : fetch 187 6 = some (.getfield 47, 3, [10, 14, 6148, 0], .null) := by decide +kernel
theorem w187_6 : Wp d 187 6 [l0, l1, l2] (.ref a :: st) h Q = gP (h.2 a) 10 14 (fun w => Wp d 187 9 [l0, l1, l2] (w :: st) h Q) := W_get f187_6 rfl
theorem f187_9 : fetch 187 9 = some (.getfield 268, 3, [9, 2, 6043, 1], .null) := by decide +kernel
theorem w187_9 : Wp d 187 9 [l0, l1, l2] (.ref a :: st) h Q = gP (h.2 a) 9 2 (fun w => Wp d 187 12 [l0, l1, l2] (w :: st) h Q) := W_get f187_9 rfl
theorem f187_12 : fetch 187 12 = some (.istore_n 2, 1, [], .null) := by decide +kernel
theorem w187_12 : Wp d 187 12 [l0, l1, l2] (.int x :: st) h Q = Wp d 187 13 [l0, kl l1, some (.int x)] st h Q := (W_st1 (pc' := 13) (k := 2) f187_12 rfl rfl (by simp only [List.length_cons, List.length_nil]; omega)).trans (by rw [pst1_succ]; rfl)
theorem f187_13 : fetch 187 13 = some (.aload_n 0, 1, [], .null) := by decide +kernel
theorem w187_13 : Wp d 187 13 [some (.ref a), l1, l2] st h Q = Wp d 187 14 [some (.ref a), l1, l2] (.ref a :: st) h Q := W_go f187_13 rfl
theorem f187_14 : fetch 187 14 = some (.getfield 47, 3, [10, 14, 6148, 0], .null) := by decide +kernel
theorem w187_14 : Wp d 187 14 [l0, l1, l2] (.ref a :: st) h Q = gP (h.2 a) 10 14 (fun w => Wp d 187 17 [l0, l1, l2] (w :: st) h Q) := W_get f187_14 rfl
theorem f187_17 : fetch 187 17 = some (.iload_n 1, 1, [], .null) := by decide +kernel
theorem w187_17 : Wp d 187 17 [l0, some (.int x), l2] st h Q = Wp d 187 18 [l0, some (.int x), l2] (.int x :: st) h Q := W_go f187_17 rfl
theorem f187_18 : fetch 187 18 = some (.putfield 268, 3, [9, 2, 6043, 1], .null) := by decide +kernel
theorem w187_18 : Wp d 187 18 [l0, l1, l2] (v :: .ref a :: st) h Q = pP (h.2 a) 9 2 (ftOf 9 2) v a (fun c => Wp d 187 21 [l0, l1, l2] st (hset h a c) Q) := W_put f187_18 (by rfl)
theorem f187_21 : fetch 187 21 = some (.iload_n 2, 1, [], .null) := by decide +kernel
theorem w187_21 : Wp d 187 21 [l0, l1, some (.int x)] st h Q = Wp d 187 22 [l0, l1, some (.int x)] (.int x :: st) h Q := W_go f187_21 rfl
theorem f187_22 : fetch 187 22 = some (.ireturn, 1, [], .null) := by decide +kernel
theorem w187_22 : Wp d 187 22 [l0, l1, l2] [.int x] h Q = (if narrow .boolean (.int x) = .int x then Q (.inl (some (.int x)), h) else False) := W_zret f187_22 hr187
theorem hm188 : mhs 188 = [] := by decide +kernel
theorem hr188 : mret 188 = (some .boolean) := by decide +kernel
theorem f188_0 : fetch 188 0 = some (.aload_n 0, 1, [], .null) := by decide +kernel
theorem w188_0 : Wp d 188 0 [some (.ref a), l1] st h Q = Wp d 188 1 [some (.ref a), l1] (.ref a :: st) h Q := W_go f188_0 rfl
theorem f188_1 : fetch 188 1 = some (.iconst 0, 1, [], .null) := by decide +kernel
theorem w188_1 : Wp d 188 1 [l0, l1] st h Q = Wp d 188 2 [l0, l1] (.int (0 : Int32) :: st) h Q := W_go f188_1 rfl
theorem f188_2 : fetch 188 2 = some (.putfield 57, 3, [10, 0, 6131, 0], .null) := by decide +kernel
theorem w188_2 : Wp d 188 2 [l0, l1] (v :: .ref a :: st) h Q = pP (h.2 a) 10 0 (ftOf 10 0) v a (fun c => Wp d 188 5 [l0, l1] st (hset h a c) Q) := W_put f188_2 (by rfl)
theorem f188_5 : fetch 188 5 = some (.aload_n 0, 1, [], .null) := by decide +kernel
theorem w188_5 : Wp d 188 5 [some (.ref a), l1] st h Q = Wp d 188 6 [some (.ref a), l1] (.ref a :: st) h Q := W_go f188_5 rfl
theorem f188_6 : fetch 188 6 = some (.iload_n 1, 1, [], .null) := by decide +kernel
theorem w188_6 : Wp d 188 6 [l0, some (.int x)] st h Q = Wp d 188 7 [l0, some (.int x)] (.int x :: st) h Q := W_go f188_6 rfl
theorem f188_7 : fetch 188 7 = some (.invokevirtual 272, 3, [149, 2, 11, 0, 7121, 1013, 7124, 7123, 66], .null) := by decide +kernel
theorem w188_7 (hp : psum st ≤ 8) : Wp d 188 7 [l0, l1] (v1 :: (.ref b) :: st) h Q = rP (h.2 b) 10 (Cp d 149 [(.ref b), v1] h (fun o => cK o (fun w h2 => Wp d 188 10 [l0, l1] (w.toList ++ st) h2 Q) (fun E h2 => Q (.inr E, h2)))) := (W_invV (st := st) f188_7 rfl rfl (by simp only [List.length_cons]; omega) rfl rfl hp).trans (by simp only [hm188, if_true])
theorem f188_10 : fetch 188 10 = some (.ifCond .eq 14, 3, [], .null) := by decide +kernel
theorem w188_10 : Wp d 188 10 [l0, l1] (.int x :: st) h Q = if icond .eq x 0 = true then Wp d 188 24 [l0, l1] st h Q else Wp d 188 13 [l0, l1] st h Q := W_if f188_10 rfl
theorem f188_13 : fetch 188 13 = some (.aload_n 0, 1, [], .null) := by decide +kernel
theorem w188_13 : Wp d 188 13 [some (.ref a), l1] st h Q = Wp d 188 14 [some (.ref a), l1] (.ref a :: st) h Q := W_go f188_13 rfl
theorem f188_14 : fetch 188 14 = some (.getfield 47, 3, [10, 14, 6148, 0], .null) := by decide +kernel
theorem w188_14 : Wp d 188 14 [l0, l1] (.ref a :: st) h Q = gP (h.2 a) 10 14 (fun w => Wp d 188 17 [l0, l1] (w :: st) h Q) := W_get f188_14 rfl
theorem f188_17 : fetch 188 17 = some (.iload_n 1, 1, [], .null) := by decide +kernel
theorem w188_17 : Wp d 188 17 [l0, some (.int x)] st h Q = Wp d 188 18 [l0, some (.int x)] (.int x :: st) h Q := W_go f188_17 rfl
theorem f188_18 : fetch 188 18 = some (.invokevirtual 275, 3, [125, 2, 10, 0, 7125, 1015, 7128, 7126, 7127], .null) := by decide +kernel
theorem w188_18 (hp : psum st ≤ 8) : Wp d 188 18 [l0, l1] (v1 :: (.ref b) :: st) h Q = rP (h.2 b) 9 (Cp d 125 [(.ref b), v1] h (fun o => cK o (fun w h2 => Wp d 188 21 [l0, l1] (w.toList ++ st) h2 Q) (fun E h2 => Q (.inr E, h2)))) := (W_invV (st := st) f188_18 rfl rfl (by simp only [List.length_cons]; omega) rfl rfl hp).trans (by simp only [hm188, if_true])
theorem f188_21 : fetch 188 21 = some (.goto 8, 3, [], .null) := by decide +kernel
theorem w188_21 : Wp d 188 21 [l0, l1] st h Q = Wp d 188 29 [l0, l1] st h Q := W_go f188_21 rfl
theorem f188_24 : fetch 188 24 = some (.aload_n 0, 1, [], .null) := by decide +kernel
theorem w188_24 : Wp d 188 24 [some (.ref a), l1] st h Q = Wp d 188 25 [some (.ref a), l1] (.ref a :: st) h Q := W_go f188_24 rfl
theorem f188_25 : fetch 188 25 = some (.iconst 1, 1, [], .null) := by decide +kernel
theorem w188_25 : Wp d 188 25 [l0, l1] st h Q = Wp d 188 26 [l0, l1] (.int (1 : Int32) :: st) h Q := W_go f188_25 rfl
theorem f188_26 : fetch 188 26 = some (.invokevirtual 278, 3, [147, 2, 11, 0, 7129, 1013, 7132, 7131, 67], .null) := by decide +kernel
theorem w188_26 (hp : psum st ≤ 8) : Wp d 188 26 [l0, l1] (v1 :: (.ref b) :: st) h Q = rP (h.2 b) 10 (Cp d 147 [(.ref b), v1] h (fun o => cK o (fun w h2 => Wp d 188 29 [l0, l1] (w.toList ++ st) h2 Q) (fun E h2 => Q (.inr E, h2)))) := (W_invV (st := st) f188_26 rfl rfl (by simp only [List.length_cons]; omega) rfl rfl hp).trans (by simp only [hm188, if_true])
theorem f188_29 : fetch 188 29 = some (.ireturn, 1, [], .null) := by decide +kernel
theorem w188_29 : Wp d 188 29 [l0, l1] [.int x] h Q = (if narrow .boolean (.int x) = .int x then Q (.inl (some (.int x)), h) else False) := W_zret f188_29 hr188
theorem hm189 : mhs 189 = [] := by decide +kernel
theorem hr189 : mret 189 = (some .boolean) := by decide +kernel
theorem f189_0 : fetch 189 0 = some (.aload_n 0, 1, [], .null) := by decide +kernel
theorem w189_0 : Wp d 189 0 [some (.ref a), l1, l2] st h Q = Wp d 189 1 [some (.ref a), l1, l2] (.ref a :: st) h Q := W_go f189_0 rfl
theorem f189_1 : fetch 189 1 = some (.iconst 0, 1, [], .null) := by decide +kernel
theorem w189_1 : Wp d 189 1 [l0, l1, l2] st h Q = Wp d 189 2 [l0, l1, l2] (.int (0 : Int32) :: st) h Q := W_go f189_1 rfl
theorem f189_2 : fetch 189 2 = some (.putfield 57, 3, [10, 0, 6131, 0], .null) := by decide +kernel
theorem w189_2 : Wp d 189 2 [l0, l1, l2] (v :: .ref a :: st) h Q = pP (h.2 a) 10 0 (ftOf 10 0) v a (fun c => Wp d 189 5 [l0, l1, l2] st (hset h a c) Q) := W_put f189_2 (by rfl)
theorem f189_5 : fetch 189 5 = some (.aload_n 0, 1, [], .null) := by decide +kernel
theorem w189_5 : Wp d 189 5 [some (.ref a), l1, l2] st h Q = Wp d 189 6 [some (.ref a), l1, l2] (.ref a :: st) h Q := W_go f189_5 rfl
theorem f189_6 : fetch 189 6 = some (.iload_n 1, 1, [], .null) := by decide +kernel
theorem w189_6 : Wp d 189 6 [l0, some (.int x), l2] st h Q = Wp d 189 7 [l0, some (.int x), l2] (.int x :: st) h Q := W_go f189_6 rfl
theorem f189_7 : fetch 189 7 = some (.invokevirtual 272, 3, [149, 2, 11, 0, 7121, 1013, 7124, 7123, 66], .null) := by decide +kernel
theorem w189_7 (hp : psum st ≤ 8) : Wp d 189 7 [l0, l1, l2] (v1 :: (.ref b) :: st) h Q = rP (h.2 b) 10 (Cp d 149 [(.ref b), v1] h (fun o => cK o (fun w h2 => Wp d 189 10 [l0, l1, l2] (w.toList ++ st) h2 Q) (fun E h2 => Q (.inr E, h2)))) := (W_invV (st := st) f189_7 rfl rfl (by simp only [List.length_cons]; omega) rfl rfl hp).trans (by simp only [hm189, if_true])
theorem f189_10 : fetch 189 10 = some (.ifCond .ne 9, 3, [], .null) := by decide +kernel
theorem w189_10 : Wp d 189 10 [l0, l1, l2] (.int x :: st) h Q = if icond .ne x 0 = true then Wp d 189 19 [l0, l1, l2] st h Q else Wp d 189 13 [l0, l1, l2] st h Q := W_if f189_10 rfl
theorem f189_13 : fetch 189 13 = some (.aload_n 0, 1, [], .null) := by decide +kernel
theorem w189_13 : Wp d 189 13 [some (.ref a), l1, l2] st h Q = Wp d 189 14 [some (.ref a), l1, l2] (.ref a :: st) h Q := W_go f189_13 rfl
theorem f189_14 : fetch 189 14 = some (.iconst 1, 1, [], .null) := by decide +kernel
theorem w189_14 : Wp d 189 14 [l0, l1, l2] st h Q = Wp d 189 15 [l0, l1, l2] (.int (1 : Int32) :: st) h Q := W_go f189_14 rfl
theorem f189_15 : fetch 189 15 = some (.invokevirtual 278, 3, [147, 2, 11, 0, 7129, 1013, 7132, 7131, 67], .null) := by decide +kernel
theorem w189_15 (hp : psum st ≤ 8) : Wp d 189 15 [l0, l1, l2] (v1 :: (.ref b) :: st) h Q = rP (h.2 b) 10 (Cp d 147 [(.ref b), v1] h (fun o => cK o (fun w h2 => Wp d 189 18 [l0, l1, l2] (w.toList ++ st) h2 Q) (fun E h2 => Q (.inr E, h2)))) := (W_invV (st := st) f189_15 rfl rfl (by simp only [List.length_cons]; omega) rfl rfl hp).trans (by simp only [hm189, if_true])
theorem f189_18 : fetch 189 18 = some (.ireturn, 1, [], .null) := by decide +kernel
theorem w189_18 : Wp d 189 18 [l0, l1, l2] [.int x] h Q = (if narrow .boolean (.int x) = .int x then Q (.inl (some (.int x)), h) else False) := W_zret f189_18 hr189
theorem f189_19 : fetch 189 19 = some (.aload_n 0, 1, [], .null) := by decide +kernel
theorem w189_19 : Wp d 189 19 [some (.ref a), l1, l2] st h Q = Wp d 189 20 [some (.ref a), l1, l2] (.ref a :: st) h Q := W_go f189_19 rfl
theorem f189_20 : fetch 189 20 = some (.getfield 47, 3, [10, 14, 6148, 0], .null) := by decide +kernel
theorem w189_20 : Wp d 189 20 [l0, l1, l2] (.ref a :: st) h Q = gP (h.2 a) 10 14 (fun w => Wp d 189 23 [l0, l1, l2] (w :: st) h Q) := W_get f189_20 rfl
theorem f189_23 : fetch 189 23 = some (.getfield 281, 3, [9, 8, 6054, 1], .null) := by decide +kernel
theorem w189_23 : Wp d 189 23 [l0, l1, l2] (.ref a :: st) h Q = gP (h.2 a) 9 8 (fun w => Wp d 189 26 [l0, l1, l2] (w :: st) h Q) := W_get f189_23 rfl
theorem f189_26 : fetch 189 26 = some (.iload_n 1, 1, [], .null) := by decide +kernel
theorem w189_26 : Wp d 189 26 [l0, some (.int x), l2] st h Q = Wp d 189 27 [l0, some (.int x), l2] (.int x :: st) h Q := W_go f189_26 rfl
theorem f189_27 : fetch 189 27 = some (.baload, 1, [], .null) := by decide +kernel
theorem w189_27 : Wp d 189 27 [l0, l1, l2] (.int x :: .ref a :: st) h Q = aP true (h.2 a) x (fun w => Wp d 189 28 [l0, l1, l2] (.int w :: st) h Q) := W_ald f189_27 rfl
theorem f189_28 : fetch 189 28 = some (.istore_n 2, 1, [], .null) := by decide +kernel
theorem w189_28 : Wp d 189 28 [l0, l1, l2] (.int x :: st) h Q = Wp d 189 29 [l0, kl l1, some (.int x)] st h Q := (W_st1 (pc' := 29) (k := 2) f189_28 rfl rfl (by simp only [List.length_cons, List.length_nil]; omega)).trans (by rw [pst1_succ]; rfl)
theorem f189_29 : fetch 189 29 = some (.aload_n 0, 1, [], .null) := by decide +kernel
theorem w189_29 : Wp d 189 29 [some (.ref a), l1, l2] st h Q = Wp d 189 30 [some (.ref a), l1, l2] (.ref a :: st) h Q := W_go f189_29 rfl
theorem f189_30 : fetch 189 30 = some (.getfield 47, 3, [10, 14, 6148, 0], .null) := by decide +kernel
theorem w189_30 : Wp d 189 30 [l0, l1, l2] (.ref a :: st) h Q = gP (h.2 a) 10 14 (fun w => Wp d 189 33 [l0, l1, l2] (w :: st) h Q) := W_get f189_30 rfl
theorem f189_33 : fetch 189 33 = some (.getfield 281, 3, [9, 8, 6054, 1], .null) := by decide +kernel
theorem w189_33 : Wp d 189 33 [l0, l1, l2] (.ref a :: st) h Q = gP (h.2 a) 9 8 (fun w => Wp d 189 36 [l0, l1, l2] (w :: st) h Q) := W_get f189_33 rfl
theorem f189_36 : fetch 189 36 = some (.iload_n 1, 1, [], .null) := by decide +kernel
theorem w189_36 : Wp d 189 36 [l0, some (.int x), l2] st h Q = Wp d 189 37 [l0, some (.int x), l2] (.int x :: st) h Q := W_go f189_36 rfl
theorem f189_37 : fetch 189 37 = some (.iconst 0, 1, [], .null) := by decide +kernel
theorem w189_37 : Wp d 189 37 [l0, l1, l2] st h Q = Wp d 189 38 [l0, l1, l2] (.int (0 : Int32) :: st) h Q := W_go f189_37 rfl
theorem f189_38 : fetch 189 38 = some (.bastore, 1, [], .null) := by decide +kernel
theorem w189_38 : Wp d 189 38 [l0, l1, l2] (.int y :: .int x :: .ref a :: st) h Q = asP true (h.2 a) a x y (fun c => Wp d 189 39 [l0, l1, l2] st (hset h a c) Q) := W_ast f189_38 rfl
theorem f189_39 : fetch 189 39 = some (.iload_n 2, 1, [], .null) := by decide +kernel
theorem w189_39 : Wp d 189 39 [l0, l1, some (.int x)] st h Q = Wp d 189 40 [l0, l1, some (.int x)] (.int x :: st) h Q := W_go f189_39 rfl
theorem f189_40 : fetch 189 40 = some (.ireturn, 1, [], .null) := by decide +kernel
theorem w189_40 : Wp d 189 40 [l0, l1, l2] [.int x] h Q = (if narrow .boolean (.int x) = .int x then Q (.inl (some (.int x)), h) else False) := W_zret f189_40 hr189
theorem hm190 : mhs 190 = [] := by decide +kernel
theorem hr190 : mret 190 = (some .int) := by decide +kernel
theorem f190_0 : fetch 190 0 = some (.aload_n 0, 1, [], .null) := by decide +kernel
theorem w190_0 : Wp d 190 0 [some (.ref a), l1, l2] st h Q = Wp d 190 1 [some (.ref a), l1, l2] (.ref a :: st) h Q := W_go f190_0 rfl
theorem f190_1 : fetch 190 1 = some (.iconst 0, 1, [], .null) := by decide +kernel
theorem w190_1 : Wp d 190 1 [l0, l1, l2] st h Q = Wp d 190 2 [l0, l1, l2] (.int (0 : Int32) :: st) h Q := W_go f190_1 rfl
theorem f190_2 : fetch 190 2 = some (.putfield 57, 3, [10, 0, 6131, 0], .null) := by decide +kernel
theorem w190_2 : Wp d 190 2 [l0, l1, l2] (v :: .ref a :: st) h Q = pP (h.2 a) 10 0 (ftOf 10 0) v a (fun c => Wp d 190 5 [l0, l1, l2] st (hset h a c) Q) := W_put f190_2 (by rfl)
theorem f190_5 : fetch 190 5 = some (.aload_n 0, 1, [], .null) := by decide +kernel
theorem w190_5 : Wp d 190 5 [some (.ref a), l1, l2] st h Q = Wp d 190 6 [some (.ref a), l1, l2] (.ref a :: st) h Q := W_go f190_5 rfl
theorem f190_6 : fetch 190 6 = some (.iload_n 1, 1, [], .null) := by decide +kernel
theorem w190_6 : Wp d 190 6 [l0, some (.int x), l2] st h Q = Wp d 190 7 [l0, some (.int x), l2] (.int x :: st) h Q := W_go f190_6 rfl
theorem f190_7 : fetch 190 7 = some (.invokevirtual 272, 3, [149, 2, 11, 0, 7121, 1013, 7124, 7123, 66], .null) := by decide +kernel
theorem w190_7 (hp : psum st ≤ 8) : Wp d 190 7 [l0, l1, l2] (v1 :: (.ref b) :: st) h Q = rP (h.2 b) 10 (Cp d 149 [(.ref b), v1] h (fun o => cK o (fun w h2 => Wp d 190 10 [l0, l1, l2] (w.toList ++ st) h2 Q) (fun E h2 => Q (.inr E, h2)))) := (W_invV (st := st) f190_7 rfl rfl (by simp only [List.length_cons]; omega) rfl rfl hp).trans (by simp only [hm190, if_true])
theorem f190_10 : fetch 190 10 = some (.ifCond .ne 9, 3, [], .null) := by decide +kernel
theorem w190_10 : Wp d 190 10 [l0, l1, l2] (.int x :: st) h Q = if icond .ne x 0 = true then Wp d 190 19 [l0, l1, l2] st h Q else Wp d 190 13 [l0, l1, l2] st h Q := W_if f190_10 rfl
theorem f190_13 : fetch 190 13 = some (.aload_n 0, 1, [], .null) := by decide +kernel
theorem w190_13 : Wp d 190 13 [some (.ref a), l1, l2] st h Q = Wp d 190 14 [some (.ref a), l1, l2] (.ref a :: st) h Q := W_go f190_13 rfl
theorem f190_14 : fetch 190 14 = some (.iconst 1, 1, [], .null) := by decide +kernel
theorem w190_14 : Wp d 190 14 [l0, l1, l2] st h Q = Wp d 190 15 [l0, l1, l2] (.int (1 : Int32) :: st) h Q := W_go f190_14 rfl
theorem f190_15 : fetch 190 15 = some (.invokevirtual 249, 3, [146, 2, 11, 0, 6191, 1013, 6194, 6193, 35], .null) := by decide +kernel
theorem w190_15 (hp : psum st ≤ 8) : Wp d 190 15 [l0, l1, l2] (v1 :: (.ref b) :: st) h Q = rP (h.2 b) 10 (Cp d 146 [(.ref b), v1] h (fun o => cK o (fun w h2 => Wp d 190 18 [l0, l1, l2] (w.toList ++ st) h2 Q) (fun E h2 => Q (.inr E, h2)))) := (W_invV (st := st) f190_15 rfl rfl (by simp only [List.length_cons]; omega) rfl rfl hp).trans (by simp only [hm190, if_true])
theorem f190_18 : fetch 190 18 = some (.ireturn, 1, [], .null) := by decide +kernel
theorem w190_18 : Wp d 190 18 [l0, l1, l2] [.int x] h Q = Q (.inl (some (.int x)), h) := W_iret f190_18 hr190
theorem f190_19 : fetch 190 19 = some (.iload_n 2, 1, [], .null) := by decide +kernel
theorem w190_19 : Wp d 190 19 [l0, l1, some (.int x)] st h Q = Wp d 190 20 [l0, l1, some (.int x)] (.int x :: st) h Q := W_go f190_19 rfl
theorem f190_20 : fetch 190 20 = some (.iconst 1, 1, [], .null) := by decide +kernel
theorem w190_20 : Wp d 190 20 [l0, l1, l2] st h Q = Wp d 190 21 [l0, l1, l2] (.int (1 : Int32) :: st) h Q := W_go f190_20 rfl
theorem f190_21 : fetch 190 21 = some (.bipush 30, 2, [], .null) := by decide +kernel
theorem w190_21 : Wp d 190 21 [l0, l1, l2] st h Q = Wp d 190 23 [l0, l1, l2] (.int (30 : Int32) :: st) h Q := W_go f190_21 rfl
theorem f190_23 : fetch 190 23 = some (.invokestatic 63, 3, [148, 3, 0, 0, 6199, 1013, 6201, 6200], .null) := by decide +kernel
theorem w190_23 (hp : psum st ≤ 8) : Wp d 190 23 [l0, l1, l2] (v2 :: v1 :: v0 :: st) h Q = Cp d 148 [v0, v1, v2] h (fun o => cK o (fun w h2 => Wp d 190 26 [l0, l1, l2] (w.toList ++ st) h2 Q) (fun _ _ => False)) := (W_invS (st := st) f190_23 rfl rfl (by simp only [List.length_cons]; omega) rfl rfl hp)
theorem f190_26 : fetch 190 26 = some (.ifCond .ne 9, 3, [], .null) := by decide +kernel
theorem w190_26 : Wp d 190 26 [l0, l1, l2] (.int x :: st) h Q = if icond .ne x 0 = true then Wp d 190 35 [l0, l1, l2] st h Q else Wp d 190 29 [l0, l1, l2] st h Q := W_if f190_26 rfl
theorem f190_29 : fetch 190 29 = some (.aload_n 0, 1, [], .null) := by decide +kernel
theorem w190_29 : Wp d 190 29 [some (.ref a), l1, l2] st h Q = Wp d 190 30 [some (.ref a), l1, l2] (.ref a :: st) h Q := W_go f190_29 rfl
theorem f190_30 : fetch 190 30 = some (.iconst 2, 1, [], .null) := by decide +kernel
theorem w190_30 : Wp d 190 30 [l0, l1, l2] st h Q = Wp d 190 31 [l0, l1, l2] (.int (2 : Int32) :: st) h Q := W_go f190_30 rfl
theorem f190_31 : fetch 190 31 = some (.invokevirtual 249, 3, [146, 2, 11, 0, 6191, 1013, 6194, 6193, 35], .null) := by decide +kernel
theorem w190_31 (hp : psum st ≤ 8) : Wp d 190 31 [l0, l1, l2] (v1 :: (.ref b) :: st) h Q = rP (h.2 b) 10 (Cp d 146 [(.ref b), v1] h (fun o => cK o (fun w h2 => Wp d 190 34 [l0, l1, l2] (w.toList ++ st) h2 Q) (fun E h2 => Q (.inr E, h2)))) := (W_invV (st := st) f190_31 rfl rfl (by simp only [List.length_cons]; omega) rfl rfl hp).trans (by simp only [hm190, if_true])
theorem f190_34 : fetch 190 34 = some (.ireturn, 1, [], .null) := by decide +kernel
theorem w190_34 : Wp d 190 34 [l0, l1, l2] [.int x] h Q = Q (.inl (some (.int x)), h) := W_iret f190_34 hr190
theorem f190_35 : fetch 190 35 = some (.aload_n 0, 1, [], .null) := by decide +kernel
theorem w190_35 : Wp d 190 35 [some (.ref a), l1, l2] st h Q = Wp d 190 36 [some (.ref a), l1, l2] (.ref a :: st) h Q := W_go f190_35 rfl
theorem f190_36 : fetch 190 36 = some (.getfield 47, 3, [10, 14, 6148, 0], .null) := by decide +kernel
theorem w190_36 : Wp d 190 36 [l0, l1, l2] (.ref a :: st) h Q = gP (h.2 a) 10 14 (fun w => Wp d 190 39 [l0, l1, l2] (w :: st) h Q) := W_get f190_36 rfl
theorem f190_39 : fetch 190 39 = some (.getfield 285, 3, [9, 4, 6047, 1], .null) := by decide +kernel
theorem w190_39 : Wp d 190 39 [l0, l1, l2] (.ref a :: st) h Q = gP (h.2 a) 9 4 (fun w => Wp d 190 42 [l0, l1, l2] (w :: st) h Q) := W_get f190_39 rfl
theorem f190_42 : fetch 190 42 = some (.iload_n 1, 1, [], .null) := by decide +kernel
theorem w190_42 : Wp d 190 42 [l0, some (.int x), l2] st h Q = Wp d 190 43 [l0, some (.int x), l2] (.int x :: st) h Q := W_go f190_42 rfl
theorem f190_43 : fetch 190 43 = some (.aload_n 0, 1, [], .null) := by decide +kernel
theorem w190_43 : Wp d 190 43 [some (.ref a), l1, l2] st h Q = Wp d 190 44 [some (.ref a), l1, l2] (.ref a :: st) h Q := W_go f190_43 rfl
theorem f190_44 : fetch 190 44 = some (.getfield 32, 3, [10, 10, 6141, 0], .null) := by decide +kernel
theorem w190_44 : Wp d 190 44 [l0, l1, l2] (.ref a :: st) h Q = gP (h.2 a) 10 10 (fun w => Wp d 190 47 [l0, l1, l2] (w :: st) h Q) := W_get f190_44 rfl
theorem f190_47 : fetch 190 47 = some (.getfield 232, 3, [8, 4, 5183, 1], .null) := by decide +kernel
theorem w190_47 : Wp d 190 47 [l0, l1, l2] (.ref a :: st) h Q = gP (h.2 a) 8 4 (fun w => Wp d 190 50 [l0, l1, l2] (w :: st) h Q) := W_get f190_47 rfl
theorem f190_50 : fetch 190 50 = some (.iload_n 1, 1, [], .null) := by decide +kernel
theorem w190_50 : Wp d 190 50 [l0, some (.int x), l2] st h Q = Wp d 190 51 [l0, some (.int x), l2] (.int x :: st) h Q := W_go f190_50 rfl
theorem f190_51 : fetch 190 51 = some (.iaload, 1, [], .null) := by decide +kernel
theorem w190_51 : Wp d 190 51 [l0, l1, l2] (.int x :: .ref a :: st) h Q = aP false (h.2 a) x (fun w => Wp d 190 52 [l0, l1, l2] (.int w :: st) h Q) := W_ald f190_51 rfl
theorem f190_52 : fetch 190 52 = some (.aload_n 0, 1, [], .null) := by decide +kernel
theorem w190_52 : Wp d 190 52 [some (.ref a), l1, l2] st h Q = Wp d 190 53 [some (.ref a), l1, l2] (.ref a :: st) h Q := W_go f190_52 rfl
theorem f190_53 : fetch 190 53 = some (.getfield 47, 3, [10, 14, 6148, 0], .null) := by decide +kernel
theorem w190_53 : Wp d 190 53 [l0, l1, l2] (.ref a :: st) h Q = gP (h.2 a) 10 14 (fun w => Wp d 190 56 [l0, l1, l2] (w :: st) h Q) := W_get f190_53 rfl
theorem f190_56 : fetch 190 56 = some (.getfield 285, 3, [9, 4, 6047, 1], .null) := by decide +kernel
theorem w190_56 : Wp d 190 56 [l0, l1, l2] (.ref a :: st) h Q = gP (h.2 a) 9 4 (fun w => Wp d 190 59 [l0, l1, l2] (w :: st) h Q) := W_get f190_56 rfl
theorem f190_59 : fetch 190 59 = some (.iload_n 1, 1, [], .null) := by decide +kernel
theorem w190_59 : Wp d 190 59 [l0, some (.int x), l2] st h Q = Wp d 190 60 [l0, some (.int x), l2] (.int x :: st) h Q := W_go f190_59 rfl
theorem f190_60 : fetch 190 60 = some (.iaload, 1, [], .null) := by decide +kernel
theorem w190_60 : Wp d 190 60 [l0, l1, l2] (.int x :: .ref a :: st) h Q = aP false (h.2 a) x (fun w => Wp d 190 61 [l0, l1, l2] (.int w :: st) h Q) := W_ald f190_60 rfl
theorem f190_61 : fetch 190 61 = some (.iload_n 2, 1, [], .null) := by decide +kernel
theorem w190_61 : Wp d 190 61 [l0, l1, some (.int x)] st h Q = Wp d 190 62 [l0, l1, some (.int x)] (.int x :: st) h Q := W_go f190_61 rfl
theorem f190_62 : fetch 190 62 = some (.iadd, 1, [], .null) := by decide +kernel
theorem w190_62 : Wp d 190 62 [l0, l1, l2] (.int y :: .int x :: st) h Q = Wp d 190 63 [l0, l1, l2] (.int (x + y) :: st) h Q := W_go f190_62 rfl
theorem f190_63 : fetch 190 63 = some (.invokestatic 288, 3, [9997, 2, 7141, 3004, 1021, 3005], .null) := by decide +kernel
theorem w190_63 (hp : psum st ≤ 8) : Wp d 190 63 [l0, l1, l2] (.int y :: .int x :: st) h Q = Wp d 190 66 [l0, l1, l2] (.int (if y < x then y else x) :: st) h Q := W_go f190_63 (by simp only [pstep, pmath, if_pos hp]; rfl)
theorem f190_66 : fetch 190 66 = some (.iastore, 1, [], .null) := by decide +kernel
theorem w190_66 : Wp d 190 66 [l0, l1, l2] (.int y :: .int x :: .ref a :: st) h Q = asP false (h.2 a) a x y (fun c => Wp d 190 67 [l0, l1, l2] st (hset h a c) Q) := W_ast f190_66 rfl
theorem f190_67 : fetch 190 67 = some (.aload_n 0, 1, [], .null) := by decide +kernel
theorem w190_67 : Wp d 190 67 [some (.ref a), l1, l2] st h Q = Wp d 190 68 [some (.ref a), l1, l2] (.ref a :: st) h Q := W_go f190_67 rfl
theorem f190_68 : fetch 190 68 = some (.getfield 47, 3, [10, 14, 6148, 0], .null) := by decide +kernel
theorem w190_68 : Wp d 190 68 [l0, l1, l2] (.ref a :: st) h Q = gP (h.2 a) 10 14 (fun w => Wp d 190 71 [l0, l1, l2] (w :: st) h Q) := W_get f190_68 rfl
theorem f190_71 : fetch 190 71 = some (.getfield 285, 3, [9, 4, 6047, 1], .null) := by decide +kernel
theorem w190_71 : Wp d 190 71 [l0, l1, l2] (.ref a :: st) h Q = gP (h.2 a) 9 4 (fun w => Wp d 190 74 [l0, l1, l2] (w :: st) h Q) := W_get f190_71 rfl
theorem f190_74 : fetch 190 74 = some (.iload_n 1, 1, [], .null) := by decide +kernel
theorem w190_74 : Wp d 190 74 [l0, some (.int x), l2] st h Q = Wp d 190 75 [l0, some (.int x), l2] (.int x :: st) h Q := W_go f190_74 rfl
theorem f190_75 : fetch 190 75 = some (.iaload, 1, [], .null) := by decide +kernel
theorem w190_75 : Wp d 190 75 [l0, l1, l2] (.int x :: .ref a :: st) h Q = aP false (h.2 a) x (fun w => Wp d 190 76 [l0, l1, l2] (.int w :: st) h Q) := W_ald f190_75 rfl
theorem f190_76 : fetch 190 76 = some (.ireturn, 1, [], .null) := by decide +kernel
theorem w190_76 : Wp d 190 76 [l0, l1, l2] [.int x] h Q = Q (.inl (some (.int x)), h) := W_iret f190_76 hr190
theorem hm191 : mhs 191 = [] := by decide +kernel
theorem hr191 : mret 191 = (some .int) := by decide +kernel
theorem f191_0 : fetch 191 0 = some (.aload_n 0, 1, [], .null) := by decide +kernel
theorem w191_0 : Wp d 191 0 [some (.ref a), l1, l2] st h Q = Wp d 191 1 [some (.ref a), l1, l2] (.ref a :: st) h Q := W_go f191_0 rfl
theorem f191_1 : fetch 191 1 = some (.iconst 0, 1, [], .null) := by decide +kernel
theorem w191_1 : Wp d 191 1 [l0, l1, l2] st h Q = Wp d 191 2 [l0, l1, l2] (.int (0 : Int32) :: st) h Q := W_go f191_1 rfl
theorem f191_2 : fetch 191 2 = some (.putfield 57, 3, [10, 0, 6131, 0], .null) := by decide +kernel
theorem w191_2 : Wp d 191 2 [l0, l1, l2] (v :: .ref a :: st) h Q = pP (h.2 a) 10 0 (ftOf 10 0) v a (fun c => Wp d 191 5 [l0, l1, l2] st (hset h a c) Q) := W_put f191_2 (by rfl)
theorem f191_5 : fetch 191 5 = some (.aload_n 0, 1, [], .null) := by decide +kernel
theorem w191_5 : Wp d 191 5 [some (.ref a), l1, l2] st h Q = Wp d 191 6 [some (.ref a), l1, l2] (.ref a :: st) h Q := W_go f191_5 rfl
theorem f191_6 : fetch 191 6 = some (.iload_n 1, 1, [], .null) := by decide +kernel
theorem w191_6 : Wp d 191 6 [l0, some (.int x), l2] st h Q = Wp d 191 7 [l0, some (.int x), l2] (.int x :: st) h Q := W_go f191_6 rfl
theorem f191_7 : fetch 191 7 = some (.invokevirtual 272, 3, [149, 2, 11, 0, 7121, 1013, 7124, 7123, 66], .null) := by decide +kernel
theorem w191_7 (hp : psum st ≤ 8) : Wp d 191 7 [l0, l1, l2] (v1 :: (.ref b) :: st) h Q = rP (h.2 b) 10 (Cp d 149 [(.ref b), v1] h (fun o => cK o (fun w h2 => Wp d 191 10 [l0, l1, l2] (w.toList ++ st) h2 Q) (fun E h2 => Q (.inr E, h2)))) := (W_invV (st := st) f191_7 rfl rfl (by simp only [List.length_cons]; omega) rfl rfl hp).trans (by simp only [hm191, if_true])
theorem f191_10 : fetch 191 10 = some (.ifCond .ne 9, 3, [], .null) := by decide +kernel
theorem w191_10 : Wp d 191 10 [l0, l1, l2] (.int x :: st) h Q = if icond .ne x 0 = true then Wp d 191 19 [l0, l1, l2] st h Q else Wp d 191 13 [l0, l1, l2] st h Q := W_if f191_10 rfl
theorem f191_13 : fetch 191 13 = some (.aload_n 0, 1, [], .null) := by decide +kernel
theorem w191_13 : Wp d 191 13 [some (.ref a), l1, l2] st h Q = Wp d 191 14 [some (.ref a), l1, l2] (.ref a :: st) h Q := W_go f191_13 rfl
theorem f191_14 : fetch 191 14 = some (.iconst 1, 1, [], .null) := by decide +kernel
theorem w191_14 : Wp d 191 14 [l0, l1, l2] st h Q = Wp d 191 15 [l0, l1, l2] (.int (1 : Int32) :: st) h Q := W_go f191_14 rfl
theorem f191_15 : fetch 191 15 = some (.invokevirtual 249, 3, [146, 2, 11, 0, 6191, 1013, 6194, 6193, 35], .null) := by decide +kernel
theorem w191_15 (hp : psum st ≤ 8) : Wp d 191 15 [l0, l1, l2] (v1 :: (.ref b) :: st) h Q = rP (h.2 b) 10 (Cp d 146 [(.ref b), v1] h (fun o => cK o (fun w h2 => Wp d 191 18 [l0, l1, l2] (w.toList ++ st) h2 Q) (fun E h2 => Q (.inr E, h2)))) := (W_invV (st := st) f191_15 rfl rfl (by simp only [List.length_cons]; omega) rfl rfl hp).trans (by simp only [hm191, if_true])
theorem f191_18 : fetch 191 18 = some (.ireturn, 1, [], .null) := by decide +kernel
theorem w191_18 : Wp d 191 18 [l0, l1, l2] [.int x] h Q = Q (.inl (some (.int x)), h) := W_iret f191_18 hr191
theorem f191_19 : fetch 191 19 = some (.aload_n 0, 1, [], .null) := by decide +kernel
theorem w191_19 : Wp d 191 19 [some (.ref a), l1, l2] st h Q = Wp d 191 20 [some (.ref a), l1, l2] (.ref a :: st) h Q := W_go f191_19 rfl
theorem f191_20 : fetch 191 20 = some (.getfield 47, 3, [10, 14, 6148, 0], .null) := by decide +kernel
theorem w191_20 : Wp d 191 20 [l0, l1, l2] (.ref a :: st) h Q = gP (h.2 a) 10 14 (fun w => Wp d 191 23 [l0, l1, l2] (w :: st) h Q) := W_get f191_20 rfl
theorem f191_23 : fetch 191 23 = some (.getfield 293, 3, [9, 5, 6049, 1], .null) := by decide +kernel
theorem w191_23 : Wp d 191 23 [l0, l1, l2] (.ref a :: st) h Q = gP (h.2 a) 9 5 (fun w => Wp d 191 26 [l0, l1, l2] (w :: st) h Q) := W_get f191_23 rfl
theorem f191_26 : fetch 191 26 = some (.iload_n 1, 1, [], .null) := by decide +kernel
theorem w191_26 : Wp d 191 26 [l0, some (.int x), l2] st h Q = Wp d 191 27 [l0, some (.int x), l2] (.int x :: st) h Q := W_go f191_26 rfl
theorem f191_27 : fetch 191 27 = some (.iaload, 1, [], .null) := by decide +kernel
theorem w191_27 : Wp d 191 27 [l0, l1, l2] (.int x :: .ref a :: st) h Q = aP false (h.2 a) x (fun w => Wp d 191 28 [l0, l1, l2] (.int w :: st) h Q) := W_ald f191_27 rfl
theorem f191_28 : fetch 191 28 = some (.istore_n 2, 1, [], .null) := by decide +kernel
theorem w191_28 : Wp d 191 28 [l0, l1, l2] (.int x :: st) h Q = Wp d 191 29 [l0, kl l1, some (.int x)] st h Q := (W_st1 (pc' := 29) (k := 2) f191_28 rfl rfl (by simp only [List.length_cons, List.length_nil]; omega)).trans (by rw [pst1_succ]; rfl)
theorem f191_29 : fetch 191 29 = some (.aload_n 0, 1, [], .null) := by decide +kernel
theorem w191_29 : Wp d 191 29 [some (.ref a), l1, l2] st h Q = Wp d 191 30 [some (.ref a), l1, l2] (.ref a :: st) h Q := W_go f191_29 rfl
theorem f191_30 : fetch 191 30 = some (.getfield 47, 3, [10, 14, 6148, 0], .null) := by decide +kernel
theorem w191_30 : Wp d 191 30 [l0, l1, l2] (.ref a :: st) h Q = gP (h.2 a) 10 14 (fun w => Wp d 191 33 [l0, l1, l2] (w :: st) h Q) := W_get f191_30 rfl
theorem f191_33 : fetch 191 33 = some (.getfield 293, 3, [9, 5, 6049, 1], .null) := by decide +kernel
theorem w191_33 : Wp d 191 33 [l0, l1, l2] (.ref a :: st) h Q = gP (h.2 a) 9 5 (fun w => Wp d 191 36 [l0, l1, l2] (w :: st) h Q) := W_get f191_33 rfl
theorem f191_36 : fetch 191 36 = some (.iload_n 1, 1, [], .null) := by decide +kernel
theorem w191_36 : Wp d 191 36 [l0, some (.int x), l2] st h Q = Wp d 191 37 [l0, some (.int x), l2] (.int x :: st) h Q := W_go f191_36 rfl
theorem f191_37 : fetch 191 37 = some (.bipush 10, 2, [], .null) := by decide +kernel
theorem w191_37 : Wp d 191 37 [l0, l1, l2] st h Q = Wp d 191 39 [l0, l1, l2] (.int (10 : Int32) :: st) h Q := W_go f191_37 rfl
theorem f191_39 : fetch 191 39 = some (.iastore, 1, [], .null) := by decide +kernel
theorem w191_39 : Wp d 191 39 [l0, l1, l2] (.int y :: .int x :: .ref a :: st) h Q = asP false (h.2 a) a x y (fun c => Wp d 191 40 [l0, l1, l2] st (hset h a c) Q) := W_ast f191_39 rfl
theorem f191_40 : fetch 191 40 = some (.iload_n 2, 1, [], .null) := by decide +kernel
theorem w191_40 : Wp d 191 40 [l0, l1, some (.int x)] st h Q = Wp d 191 41 [l0, l1, some (.int x)] (.int x :: st) h Q := W_go f191_40 rfl
theorem f191_41 : fetch 191 41 = some (.ireturn, 1, [], .null) := by decide +kernel
theorem w191_41 : Wp d 191 41 [l0, l1, l2] [.int x] h Q = Q (.inl (some (.int x)), h) := W_iret f191_41 hr191
theorem hm192 : mhs 192 = [] := by decide +kernel
theorem hr192 : mret 192 = (some .int) := by decide +kernel
theorem f192_0 : fetch 192 0 = some (.aload_n 0, 1, [], .null) := by decide +kernel
theorem w192_0 : Wp d 192 0 [some (.ref a), l1] st h Q = Wp d 192 1 [some (.ref a), l1] (.ref a :: st) h Q := W_go f192_0 rfl
theorem f192_1 : fetch 192 1 = some (.iconst 0, 1, [], .null) := by decide +kernel
theorem w192_1 : Wp d 192 1 [l0, l1] st h Q = Wp d 192 2 [l0, l1] (.int (0 : Int32) :: st) h Q := W_go f192_1 rfl
theorem f192_2 : fetch 192 2 = some (.putfield 57, 3, [10, 0, 6131, 0], .null) := by decide +kernel
theorem w192_2 : Wp d 192 2 [l0, l1] (v :: .ref a :: st) h Q = pP (h.2 a) 10 0 (ftOf 10 0) v a (fun c => Wp d 192 5 [l0, l1] st (hset h a c) Q) := W_put f192_2 (by rfl)
theorem f192_5 : fetch 192 5 = some (.iload_n 1, 1, [], .null) := by decide +kernel
theorem w192_5 : Wp d 192 5 [l0, some (.int x)] st h Q = Wp d 192 6 [l0, some (.int x)] (.int x :: st) h Q := W_go f192_5 rfl
theorem f192_6 : fetch 192 6 = some (.iconst 1, 1, [], .null) := by decide +kernel
theorem w192_6 : Wp d 192 6 [l0, l1] st h Q = Wp d 192 7 [l0, l1] (.int (1 : Int32) :: st) h Q := W_go f192_6 rfl
theorem f192_7 : fetch 192 7 = some (.bipush 40, 2, [], .null) := by decide +kernel
theorem w192_7 : Wp d 192 7 [l0, l1] st h Q = Wp d 192 9 [l0, l1] (.int (40 : Int32) :: st) h Q := W_go f192_7 rfl
theorem f192_9 : fetch 192 9 = some (.invokestatic 63, 3, [148, 3, 0, 0, 6199, 1013, 6201, 6200], .null) := by decide +kernel
theorem w192_9 (hp : psum st ≤ 8) : Wp d 192 9 [l0, l1] (v2 :: v1 :: v0 :: st) h Q = Cp d 148 [v0, v1, v2] h (fun o => cK o (fun w h2 => Wp d 192 12 [l0, l1] (w.toList ++ st) h2 Q) (fun _ _ => False)) := (W_invS (st := st) f192_9 rfl rfl (by simp only [List.length_cons]; omega) rfl rfl hp)
theorem f192_12 : fetch 192 12 = some (.ifCond .eq 14, 3, [], .null) := by decide +kernel
theorem w192_12 : Wp d 192 12 [l0, l1] (.int x :: st) h Q = if icond .eq x 0 = true then Wp d 192 26 [l0, l1] st h Q else Wp d 192 15 [l0, l1] st h Q := W_if f192_12 rfl
theorem f192_15 : fetch 192 15 = some (.aload_n 0, 1, [], .null) := by decide +kernel
theorem w192_15 : Wp d 192 15 [some (.ref a), l1] st h Q = Wp d 192 16 [some (.ref a), l1] (.ref a :: st) h Q := W_go f192_15 rfl
theorem f192_16 : fetch 192 16 = some (.getfield 47, 3, [10, 14, 6148, 0], .null) := by decide +kernel
theorem w192_16 : Wp d 192 16 [l0, l1] (.ref a :: st) h Q = gP (h.2 a) 10 14 (fun w => Wp d 192 19 [l0, l1] (w :: st) h Q) := W_get f192_16 rfl
theorem f192_19 : fetch 192 19 = some (.iload_n 1, 1, [], .null) := by decide +kernel
theorem w192_19 : Wp d 192 19 [l0, some (.int x)] st h Q = Wp d 192 20 [l0, some (.int x)] (.int x :: st) h Q := W_go f192_19 rfl
theorem f192_20 : fetch 192 20 = some (.invokevirtual 296, 3, [143, 2, 10, 0, 7150, 1015, 7153, 7151, 7152], .null) := by decide +kernel
theorem w192_20 (hp : psum st ≤ 8) : Wp d 192 20 [l0, l1] (v1 :: (.ref b) :: st) h Q = rP (h.2 b) 9 (Cp d 143 [(.ref b), v1] h (fun o => cK o (fun w h2 => Wp d 192 23 [l0, l1] (w.toList ++ st) h2 Q) (fun E h2 => Q (.inr E, h2)))) := (W_invV (st := st) f192_20 rfl rfl (by simp only [List.length_cons]; omega) rfl rfl hp).trans (by simp only [hm192, if_true])
theorem f192_23 : fetch 192 23 = some (.goto 8, 3, [], .null) := by decide +kernel
theorem w192_23 : Wp d 192 23 [l0, l1] st h Q = Wp d 192 31 [l0, l1] st h Q := W_go f192_23 rfl
theorem f192_26 : fetch 192 26 = some (.aload_n 0, 1, [], .null) := by decide +kernel
theorem w192_26 : Wp d 192 26 [some (.ref a), l1] st h Q = Wp d 192 27 [some (.ref a), l1] (.ref a :: st) h Q := W_go f192_26 rfl
theorem f192_27 : fetch 192 27 = some (.iconst 1, 1, [], .null) := by decide +kernel
theorem w192_27 : Wp d 192 27 [l0, l1] st h Q = Wp d 192 28 [l0, l1] (.int (1 : Int32) :: st) h Q := W_go f192_27 rfl
theorem f192_28 : fetch 192 28 = some (.invokevirtual 249, 3, [146, 2, 11, 0, 6191, 1013, 6194, 6193, 35], .null) := by decide +kernel
theorem w192_28 (hp : psum st ≤ 8) : Wp d 192 28 [l0, l1] (v1 :: (.ref b) :: st) h Q = rP (h.2 b) 10 (Cp d 146 [(.ref b), v1] h (fun o => cK o (fun w h2 => Wp d 192 31 [l0, l1] (w.toList ++ st) h2 Q) (fun E h2 => Q (.inr E, h2)))) := (W_invV (st := st) f192_28 rfl rfl (by simp only [List.length_cons]; omega) rfl rfl hp).trans (by simp only [hm192, if_true])
theorem f192_31 : fetch 192 31 = some (.ireturn, 1, [], .null) := by decide +kernel
theorem w192_31 : Wp d 192 31 [l0, l1] [.int x] h Q = Q (.inl (some (.int x)), h) := W_iret f192_31 hr192
theorem hm193 : mhs 193 = [] := by decide +kernel
theorem hr193 : mret 193 = (some .int) := by decide +kernel
theorem f193_0 : fetch 193 0 = some (.aload_n 0, 1, [], .null) := by decide +kernel
theorem w193_0 : Wp d 193 0 [some (.ref a), l1] st h Q = Wp d 193 1 [some (.ref a), l1] (.ref a :: st) h Q := W_go f193_0 rfl
theorem f193_1 : fetch 193 1 = some (.iconst 0, 1, [], .null) := by decide +kernel
theorem w193_1 : Wp d 193 1 [l0, l1] st h Q = Wp d 193 2 [l0, l1] (.int (0 : Int32) :: st) h Q := W_go f193_1 rfl
theorem f193_2 : fetch 193 2 = some (.putfield 57, 3, [10, 0, 6131, 0], .null) := by decide +kernel
theorem w193_2 : Wp d 193 2 [l0, l1] (v :: .ref a :: st) h Q = pP (h.2 a) 10 0 (ftOf 10 0) v a (fun c => Wp d 193 5 [l0, l1] st (hset h a c) Q) := W_put f193_2 (by rfl)
theorem f193_5 : fetch 193 5 = some (.iload_n 1, 1, [], .null) := by decide +kernel
theorem w193_5 : Wp d 193 5 [l0, some (.int x)] st h Q = Wp d 193 6 [l0, some (.int x)] (.int x :: st) h Q := W_go f193_5 rfl
theorem f193_6 : fetch 193 6 = some (.iconst 1, 1, [], .null) := by decide +kernel
theorem w193_6 : Wp d 193 6 [l0, l1] st h Q = Wp d 193 7 [l0, l1] (.int (1 : Int32) :: st) h Q := W_go f193_6 rfl
theorem f193_7 : fetch 193 7 = some (.iconst 5, 1, [], .null) := by decide +kernel
theorem w193_7 : Wp d 193 7 [l0, l1] st h Q = Wp d 193 8 [l0, l1] (.int (5 : Int32) :: st) h Q := W_go f193_7 rfl
theorem f193_8 : fetch 193 8 = some (.invokestatic 63, 3, [148, 3, 0, 0, 6199, 1013, 6201, 6200], .null) := by decide +kernel
theorem w193_8 (hp : psum st ≤ 8) : Wp d 193 8 [l0, l1] (v2 :: v1 :: v0 :: st) h Q = Cp d 148 [v0, v1, v2] h (fun o => cK o (fun w h2 => Wp d 193 11 [l0, l1] (w.toList ++ st) h2 Q) (fun _ _ => False)) := (W_invS (st := st) f193_8 rfl rfl (by simp only [List.length_cons]; omega) rfl rfl hp)
theorem f193_11 : fetch 193 11 = some (.ifCond .eq 17, 3, [], .null) := by decide +kernel
theorem w193_11 : Wp d 193 11 [l0, l1] (.int x :: st) h Q = if icond .eq x 0 = true then Wp d 193 28 [l0, l1] st h Q else Wp d 193 14 [l0, l1] st h Q := W_if f193_11 rfl
theorem f193_14 : fetch 193 14 = some (.aload_n 0, 1, [], .null) := by decide +kernel
theorem w193_14 : Wp d 193 14 [some (.ref a), l1] st h Q = Wp d 193 15 [some (.ref a), l1] (.ref a :: st) h Q := W_go f193_14 rfl
theorem f193_15 : fetch 193 15 = some (.getfield 47, 3, [10, 14, 6148, 0], .null) := by decide +kernel
theorem w193_15 : Wp d 193 15 [l0, l1] (.ref a :: st) h Q = gP (h.2 a) 10 14 (fun w => Wp d 193 18 [l0, l1] (w :: st) h Q) := W_get f193_15 rfl
theorem f193_18 : fetch 193 18 = some (.bipush 40, 2, [], .null) := by decide +kernel
theorem w193_18 : Wp d 193 18 [l0, l1] st h Q = Wp d 193 20 [l0, l1] (.int (40 : Int32) :: st) h Q := W_go f193_18 rfl
theorem f193_20 : fetch 193 20 = some (.iload_n 1, 1, [], .null) := by decide +kernel
theorem w193_20 : Wp d 193 20 [l0, some (.int x)] st h Q = Wp d 193 21 [l0, some (.int x)] (.int x :: st) h Q := W_go f193_20 rfl
theorem f193_21 : fetch 193 21 = some (.imul, 1, [], .null) := by decide +kernel
theorem w193_21 : Wp d 193 21 [l0, l1] (.int y :: .int x :: st) h Q = Wp d 193 22 [l0, l1] (.int (x * y) :: st) h Q := W_go f193_21 rfl
theorem f193_22 : fetch 193 22 = some (.invokevirtual 296, 3, [143, 2, 10, 0, 7150, 1015, 7153, 7151, 7152], .null) := by decide +kernel
theorem w193_22 (hp : psum st ≤ 8) : Wp d 193 22 [l0, l1] (v1 :: (.ref b) :: st) h Q = rP (h.2 b) 9 (Cp d 143 [(.ref b), v1] h (fun o => cK o (fun w h2 => Wp d 193 25 [l0, l1] (w.toList ++ st) h2 Q) (fun E h2 => Q (.inr E, h2)))) := (W_invV (st := st) f193_22 rfl rfl (by simp only [List.length_cons]; omega) rfl rfl hp).trans (by simp only [hm193, if_true])
theorem f193_25 : fetch 193 25 = some (.goto 8, 3, [], .null) := by decide +kernel
theorem w193_25 : Wp d 193 25 [l0, l1] st h Q = Wp d 193 33 [l0, l1] st h Q := W_go f193_25 rfl
theorem f193_28 : fetch 193 28 = some (.aload_n 0, 1, [], .null) := by decide +kernel
theorem w193_28 : Wp d 193 28 [some (.ref a), l1] st h Q = Wp d 193 29 [some (.ref a), l1] (.ref a :: st) h Q := W_go f193_28 rfl
theorem f193_29 : fetch 193 29 = some (.iconst 1, 1, [], .null) := by decide +kernel
theorem w193_29 : Wp d 193 29 [l0, l1] st h Q = Wp d 193 30 [l0, l1] (.int (1 : Int32) :: st) h Q := W_go f193_29 rfl
theorem f193_30 : fetch 193 30 = some (.invokevirtual 249, 3, [146, 2, 11, 0, 6191, 1013, 6194, 6193, 35], .null) := by decide +kernel
theorem w193_30 (hp : psum st ≤ 8) : Wp d 193 30 [l0, l1] (v1 :: (.ref b) :: st) h Q = rP (h.2 b) 10 (Cp d 146 [(.ref b), v1] h (fun o => cK o (fun w h2 => Wp d 193 33 [l0, l1] (w.toList ++ st) h2 Q) (fun E h2 => Q (.inr E, h2)))) := (W_invV (st := st) f193_30 rfl rfl (by simp only [List.length_cons]; omega) rfl rfl hp).trans (by simp only [hm193, if_true])
theorem f193_33 : fetch 193 33 = some (.ireturn, 1, [], .null) := by decide +kernel
theorem w193_33 : Wp d 193 33 [l0, l1] [.int x] h Q = Q (.inl (some (.int x)), h) := W_iret f193_33 hr193
theorem hm194 : mhs 194 = [] := by decide +kernel
theorem hr194 : mret 194 = (some .int) := by decide +kernel
theorem f194_0 : fetch 194 0 = some (.aload_n 0, 1, [], .null) := by decide +kernel
theorem w194_0 : Wp d 194 0 [some (.ref a)] st h Q = Wp d 194 1 [some (.ref a)] (.ref a :: st) h Q := W_go f194_0 rfl
theorem f194_1 : fetch 194 1 = some (.iconst 0, 1, [], .null) := by decide +kernel
theorem w194_1 : Wp d 194 1 [l0] st h Q = Wp d 194 2 [l0] (.int (0 : Int32) :: st) h Q := W_go f194_1 rfl
theorem f194_2 : fetch 194 2 = some (.putfield 57, 3, [10, 0, 6131, 0], .null) := by decide +kernel
theorem w194_2 : Wp d 194 2 [l0] (v :: .ref a :: st) h Q = pP (h.2 a) 10 0 (ftOf 10 0) v a (fun c => Wp d 194 5 [l0] st (hset h a c) Q) := W_put f194_2 (by rfl)
theorem f194_5 : fetch 194 5 = some (.aload_n 0, 1, [], .null) := by decide +kernel
theorem w194_5 : Wp d 194 5 [some (.ref a)] st h Q = Wp d 194 6 [some (.ref a)] (.ref a :: st) h Q := W_go f194_5 rfl
theorem f194_6 : fetch 194 6 = some (.getfield 32, 3, [10, 10, 6141, 0], .null) := by decide +kernel
theorem w194_6 : Wp d 194 6 [l0] (.ref a :: st) h Q = gP (h.2 a) 10 10 (fun w => Wp d 194 9 [l0] (w :: st) h Q) := W_get f194_6 rfl
theorem f194_9 : fetch 194 9 = some (.getfield 60, 3, [8, 0, 5174, 1], .null) := by decide +kernel
theorem w194_9 : Wp d 194 9 [l0] (.ref a :: st) h Q = gP (h.2 a) 8 0 (fun w => Wp d 194 12 [l0] (w :: st) h Q) := W_get f194_9 rfl
theorem f194_12 : fetch 194 12 = some (.ireturn, 1, [], .null) := by decide +kernel
theorem w194_12 : Wp d 194 12 [l0] [.int x] h Q = Q (.inl (some (.int x)), h) := W_iret f194_12 hr194
theorem hm195 : mhs 195 = [] := by decide +kernel
theorem hr195 : mret 195 = (some .int) := by decide +kernel
theorem f195_0 : fetch 195 0 = some (.aload_n 0, 1, [], .null) := by decide +kernel
theorem w195_0 : Wp d 195 0 [some (.ref a)] st h Q = Wp d 195 1 [some (.ref a)] (.ref a :: st) h Q := W_go f195_0 rfl
theorem f195_1 : fetch 195 1 = some (.iconst 0, 1, [], .null) := by decide +kernel
theorem w195_1 : Wp d 195 1 [l0] st h Q = Wp d 195 2 [l0] (.int (0 : Int32) :: st) h Q := W_go f195_1 rfl
theorem f195_2 : fetch 195 2 = some (.putfield 57, 3, [10, 0, 6131, 0], .null) := by decide +kernel
theorem w195_2 : Wp d 195 2 [l0] (v :: .ref a :: st) h Q = pP (h.2 a) 10 0 (ftOf 10 0) v a (fun c => Wp d 195 5 [l0] st (hset h a c) Q) := W_put f195_2 (by rfl)
theorem f195_5 : fetch 195 5 = some (.aload_n 0, 1, [], .null) := by decide +kernel
theorem w195_5 : Wp d 195 5 [some (.ref a)] st h Q = Wp d 195 6 [some (.ref a)] (.ref a :: st) h Q := W_go f195_5 rfl
theorem f195_6 : fetch 195 6 = some (.getfield 32, 3, [10, 10, 6141, 0], .null) := by decide +kernel
theorem w195_6 : Wp d 195 6 [l0] (.ref a :: st) h Q = gP (h.2 a) 10 10 (fun w => Wp d 195 9 [l0] (w :: st) h Q) := W_get f195_6 rfl
theorem f195_9 : fetch 195 9 = some (.getfield 213, 3, [8, 1, 5176, 1], .null) := by decide +kernel
theorem w195_9 : Wp d 195 9 [l0] (.ref a :: st) h Q = gP (h.2 a) 8 1 (fun w => Wp d 195 12 [l0] (w :: st) h Q) := W_get f195_9 rfl
theorem f195_12 : fetch 195 12 = some (.ireturn, 1, [], .null) := by decide +kernel
theorem w195_12 : Wp d 195 12 [l0] [.int x] h Q = Q (.inl (some (.int x)), h) := W_iret f195_12 hr195
theorem hm196 : mhs 196 = [] := by decide +kernel
theorem hr196 : mret 196 = (some .int) := by decide +kernel
theorem f196_0 : fetch 196 0 = some (.aload_n 0, 1, [], .null) := by decide +kernel
theorem w196_0 : Wp d 196 0 [some (.ref a)] st h Q = Wp d 196 1 [some (.ref a)] (.ref a :: st) h Q := W_go f196_0 rfl
theorem f196_1 : fetch 196 1 = some (.iconst 0, 1, [], .null) := by decide +kernel
theorem w196_1 : Wp d 196 1 [l0] st h Q = Wp d 196 2 [l0] (.int (0 : Int32) :: st) h Q := W_go f196_1 rfl
theorem f196_2 : fetch 196 2 = some (.putfield 57, 3, [10, 0, 6131, 0], .null) := by decide +kernel
theorem w196_2 : Wp d 196 2 [l0] (v :: .ref a :: st) h Q = pP (h.2 a) 10 0 (ftOf 10 0) v a (fun c => Wp d 196 5 [l0] st (hset h a c) Q) := W_put f196_2 (by rfl)
theorem f196_5 : fetch 196 5 = some (.aload_n 0, 1, [], .null) := by decide +kernel
theorem w196_5 : Wp d 196 5 [some (.ref a)] st h Q = Wp d 196 6 [some (.ref a)] (.ref a :: st) h Q := W_go f196_5 rfl
theorem f196_6 : fetch 196 6 = some (.getfield 32, 3, [10, 10, 6141, 0], .null) := by decide +kernel
theorem w196_6 : Wp d 196 6 [l0] (.ref a :: st) h Q = gP (h.2 a) 10 10 (fun w => Wp d 196 9 [l0] (w :: st) h Q) := W_get f196_6 rfl
theorem f196_9 : fetch 196 9 = some (.getfield 216, 3, [8, 2, 5177, 1], .null) := by decide +kernel
theorem w196_9 : Wp d 196 9 [l0] (.ref a :: st) h Q = gP (h.2 a) 8 2 (fun w => Wp d 196 12 [l0] (w :: st) h Q) := W_get f196_9 rfl
theorem f196_12 : fetch 196 12 = some (.ireturn, 1, [], .null) := by decide +kernel
theorem w196_12 : Wp d 196 12 [l0] [.int x] h Q = Q (.inl (some (.int x)), h) := W_iret f196_12 hr196
theorem hm197 : mhs 197 = [] := by decide +kernel
theorem hr197 : mret 197 = (some .int) := by decide +kernel
theorem f197_0 : fetch 197 0 = some (.aload_n 0, 1, [], .null) := by decide +kernel
theorem w197_0 : Wp d 197 0 [some (.ref a), l1] st h Q = Wp d 197 1 [some (.ref a), l1] (.ref a :: st) h Q := W_go f197_0 rfl
theorem f197_1 : fetch 197 1 = some (.iconst 0, 1, [], .null) := by decide +kernel
theorem w197_1 : Wp d 197 1 [l0, l1] st h Q = Wp d 197 2 [l0, l1] (.int (0 : Int32) :: st) h Q := W_go f197_1 rfl
theorem f197_2 : fetch 197 2 = some (.putfield 57, 3, [10, 0, 6131, 0], .null) := by decide +kernel
theorem w197_2 : Wp d 197 2 [l0, l1] (v :: .ref a :: st) h Q = pP (h.2 a) 10 0 (ftOf 10 0) v a (fun c => Wp d 197 5 [l0, l1] st (hset h a c) Q) := W_put f197_2 (by rfl)
theorem f197_5 : fetch 197 5 = some (.aload_n 0, 1, [], .null) := by decide +kernel
theorem w197_5 : Wp d 197 5 [some (.ref a), l1] st h Q = Wp d 197 6 [some (.ref a), l1] (.ref a :: st) h Q := W_go f197_5 rfl
theorem f197_6 : fetch 197 6 = some (.iload_n 1, 1, [], .null) := by decide +kernel
theorem w197_6 : Wp d 197 6 [l0, some (.int x)] st h Q = Wp d 197 7 [l0, some (.int x)] (.int x :: st) h Q := W_go f197_6 rfl
theorem f197_7 : fetch 197 7 = some (.invokevirtual 272, 3, [149, 2, 11, 0, 7121, 1013, 7124, 7123, 66], .null) := by decide +kernel
theorem w197_7 (hp : psum st ≤ 8) : Wp d 197 7 [l0, l1] (v1 :: (.ref b) :: st) h Q = rP (h.2 b) 10 (Cp d 149 [(.ref b), v1] h (fun o => cK o (fun w h2 => Wp d 197 10 [l0, l1] (w.toList ++ st) h2 Q) (fun E h2 => Q (.inr E, h2)))) := (W_invV (st := st) f197_7 rfl rfl (by simp only [List.length_cons]; omega) rfl rfl hp).trans (by simp only [hm197, if_true])
theorem f197_10 : fetch 197 10 = some (.ifCond .eq 15, 3, [], .null) := by decide +kernel
theorem w197_10 : Wp d 197 10 [l0, l1] (.int x :: st) h Q = if icond .eq x 0 = true then Wp d 197 25 [l0, l1] st h Q else Wp d 197 13 [l0, l1] st h Q := W_if f197_10 rfl
theorem f197_13 : fetch 197 13 = some (.aload_n 0, 1, [], .null) := by decide +kernel
theorem w197_13 : Wp d 197 13 [some (.ref a), l1] st h Q = Wp d 197 14 [some (.ref a), l1] (.ref a :: st) h Q := W_go f197_13 rfl
theorem f197_14 : fetch 197 14 = some (.getfield 32, 3, [10, 10, 6141, 0], .null) := by decide +kernel
theorem w197_14 : Wp d 197 14 [l0, l1] (.ref a :: st) h Q = gP (h.2 a) 10 10 (fun w => Wp d 197 17 [l0, l1] (w :: st) h Q) := W_get f197_14 rfl
theorem f197_17 : fetch 197 17 = some (.getfield 225, 3, [8, 3, 5180, 1], .null) := by decide +kernel
theorem w197_17 : Wp d 197 17 [l0, l1] (.ref a :: st) h Q = gP (h.2 a) 8 3 (fun w => Wp d 197 20 [l0, l1] (w :: st) h Q) := W_get f197_17 rfl
theorem f197_20 : fetch 197 20 = some (.iload_n 1, 1, [], .null) := by decide +kernel
theorem w197_20 : Wp d 197 20 [l0, some (.int x)] st h Q = Wp d 197 21 [l0, some (.int x)] (.int x :: st) h Q := W_go f197_20 rfl
theorem f197_21 : fetch 197 21 = some (.iaload, 1, [], .null) := by decide +kernel
theorem w197_21 : Wp d 197 21 [l0, l1] (.int x :: .ref a :: st) h Q = aP false (h.2 a) x (fun w => Wp d 197 22 [l0, l1] (.int w :: st) h Q) := W_ald f197_21 rfl
theorem f197_22 : fetch 197 22 = some (.goto 8, 3, [], .null) := by decide +kernel
theorem w197_22 : Wp d 197 22 [l0, l1] st h Q = Wp d 197 30 [l0, l1] st h Q := W_go f197_22 rfl
theorem f197_25 : fetch 197 25 = some (.aload_n 0, 1, [], .null) := by decide +kernel
theorem w197_25 : Wp d 197 25 [some (.ref a), l1] st h Q = Wp d 197 26 [some (.ref a), l1] (.ref a :: st) h Q := W_go f197_25 rfl
theorem f197_26 : fetch 197 26 = some (.iconst 1, 1, [], .null) := by decide +kernel
theorem w197_26 : Wp d 197 26 [l0, l1] st h Q = Wp d 197 27 [l0, l1] (.int (1 : Int32) :: st) h Q := W_go f197_26 rfl
theorem f197_27 : fetch 197 27 = some (.invokevirtual 249, 3, [146, 2, 11, 0, 6191, 1013, 6194, 6193, 35], .null) := by decide +kernel
theorem w197_27 (hp : psum st ≤ 8) : Wp d 197 27 [l0, l1] (v1 :: (.ref b) :: st) h Q = rP (h.2 b) 10 (Cp d 146 [(.ref b), v1] h (fun o => cK o (fun w h2 => Wp d 197 30 [l0, l1] (w.toList ++ st) h2 Q) (fun E h2 => Q (.inr E, h2)))) := (W_invV (st := st) f197_27 rfl rfl (by simp only [List.length_cons]; omega) rfl rfl hp).trans (by simp only [hm197, if_true])
theorem f197_30 : fetch 197 30 = some (.ireturn, 1, [], .null) := by decide +kernel
theorem w197_30 : Wp d 197 30 [l0, l1] [.int x] h Q = Q (.inl (some (.int x)), h) := W_iret f197_30 hr197
theorem hm198 : mhs 198 = [] := by decide +kernel
theorem hr198 : mret 198 = (some .int) := by decide +kernel
theorem f198_0 : fetch 198 0 = some (.aload_n 0, 1, [], .null) := by decide +kernel
theorem w198_0 : Wp d 198 0 [some (.ref a), l1] st h Q = Wp d 198 1 [some (.ref a), l1] (.ref a :: st) h Q := W_go f198_0 rfl
theorem f198_1 : fetch 198 1 = some (.iconst 0, 1, [], .null) := by decide +kernel
theorem w198_1 : Wp d 198 1 [l0, l1] st h Q = Wp d 198 2 [l0, l1] (.int (0 : Int32) :: st) h Q := W_go f198_1 rfl
theorem f198_2 : fetch 198 2 = some (.putfield 57, 3, [10, 0, 6131, 0], .null) := by decide +kernel
theorem w198_2 : Wp d 198 2 [l0, l1] (v :: .ref a :: st) h Q = pP (h.2 a) 10 0 (ftOf 10 0) v a (fun c => Wp d 198 5 [l0, l1] st (hset h a c) Q) := W_put f198_2 (by rfl)
theorem f198_5 : fetch 198 5 = some (.aload_n 0, 1, [], .null) := by decide +kernel
theorem w198_5 : Wp d 198 5 [some (.ref a), l1] st h Q = Wp d 198 6 [some (.ref a), l1] (.ref a :: st) h Q := W_go f198_5 rfl
theorem f198_6 : fetch 198 6 = some (.iload_n 1, 1, [], .null) := by decide +kernel
theorem w198_6 : Wp d 198 6 [l0, some (.int x)] st h Q = Wp d 198 7 [l0, some (.int x)] (.int x :: st) h Q := W_go f198_6 rfl
theorem f198_7 : fetch 198 7 = some (.invokevirtual 272, 3, [149, 2, 11, 0, 7121, 1013, 7124, 7123, 66], .null) := by decide +kernel
theorem w198_7 (hp : psum st ≤ 8) : Wp d 198 7 [l0, l1] (v1 :: (.ref b) :: st) h Q = rP (h.2 b) 10 (Cp d 149 [(.ref b), v1] h (fun o => cK o (fun w h2 => Wp d 198 10 [l0, l1] (w.toList ++ st) h2 Q) (fun E h2 => Q (.inr E, h2)))) := (W_invV (st := st) f198_7 rfl rfl (by simp only [List.length_cons]; omega) rfl rfl hp).trans (by simp only [hm198, if_true])
theorem f198_10 : fetch 198 10 = some (.ifCond .eq 15, 3, [], .null) := by decide +kernel
theorem w198_10 : Wp d 198 10 [l0, l1] (.int x :: st) h Q = if icond .eq x 0 = true then Wp d 198 25 [l0, l1] st h Q else Wp d 198 13 [l0, l1] st h Q := W_if f198_10 rfl
theorem f198_13 : fetch 198 13 = some (.aload_n 0, 1, [], .null) := by decide +kernel
theorem w198_13 : Wp d 198 13 [some (.ref a), l1] st h Q = Wp d 198 14 [some (.ref a), l1] (.ref a :: st) h Q := W_go f198_13 rfl
theorem f198_14 : fetch 198 14 = some (.getfield 32, 3, [10, 10, 6141, 0], .null) := by decide +kernel
theorem w198_14 : Wp d 198 14 [l0, l1] (.ref a :: st) h Q = gP (h.2 a) 10 10 (fun w => Wp d 198 17 [l0, l1] (w :: st) h Q) := W_get f198_14 rfl
theorem f198_17 : fetch 198 17 = some (.getfield 232, 3, [8, 4, 5183, 1], .null) := by decide +kernel
theorem w198_17 : Wp d 198 17 [l0, l1] (.ref a :: st) h Q = gP (h.2 a) 8 4 (fun w => Wp d 198 20 [l0, l1] (w :: st) h Q) := W_get f198_17 rfl
theorem f198_20 : fetch 198 20 = some (.iload_n 1, 1, [], .null) := by decide +kernel
theorem w198_20 : Wp d 198 20 [l0, some (.int x)] st h Q = Wp d 198 21 [l0, some (.int x)] (.int x :: st) h Q := W_go f198_20 rfl
theorem f198_21 : fetch 198 21 = some (.iaload, 1, [], .null) := by decide +kernel
theorem w198_21 : Wp d 198 21 [l0, l1] (.int x :: .ref a :: st) h Q = aP false (h.2 a) x (fun w => Wp d 198 22 [l0, l1] (.int w :: st) h Q) := W_ald f198_21 rfl
theorem f198_22 : fetch 198 22 = some (.goto 8, 3, [], .null) := by decide +kernel
theorem w198_22 : Wp d 198 22 [l0, l1] st h Q = Wp d 198 30 [l0, l1] st h Q := W_go f198_22 rfl
theorem f198_25 : fetch 198 25 = some (.aload_n 0, 1, [], .null) := by decide +kernel
theorem w198_25 : Wp d 198 25 [some (.ref a), l1] st h Q = Wp d 198 26 [some (.ref a), l1] (.ref a :: st) h Q := W_go f198_25 rfl
theorem f198_26 : fetch 198 26 = some (.iconst 1, 1, [], .null) := by decide +kernel
theorem w198_26 : Wp d 198 26 [l0, l1] st h Q = Wp d 198 27 [l0, l1] (.int (1 : Int32) :: st) h Q := W_go f198_26 rfl
theorem f198_27 : fetch 198 27 = some (.invokevirtual 249, 3, [146, 2, 11, 0, 6191, 1013, 6194, 6193, 35], .null) := by decide +kernel
theorem w198_27 (hp : psum st ≤ 8) : Wp d 198 27 [l0, l1] (v1 :: (.ref b) :: st) h Q = rP (h.2 b) 10 (Cp d 146 [(.ref b), v1] h (fun o => cK o (fun w h2 => Wp d 198 30 [l0, l1] (w.toList ++ st) h2 Q) (fun E h2 => Q (.inr E, h2)))) := (W_invV (st := st) f198_27 rfl rfl (by simp only [List.length_cons]; omega) rfl rfl hp).trans (by simp only [hm198, if_true])
theorem f198_30 : fetch 198 30 = some (.ireturn, 1, [], .null) := by decide +kernel
theorem w198_30 : Wp d 198 30 [l0, l1] [.int x] h Q = Q (.inl (some (.int x)), h) := W_iret f198_30 hr198
theorem hm199 : mhs 199 = [] := by decide +kernel
theorem hr199 : mret 199 = (some .int) := by decide +kernel
theorem f199_0 : fetch 199 0 = some (.aload_n 0, 1, [], .null) := by decide +kernel
theorem w199_0 : Wp d 199 0 [some (.ref a), l1] st h Q = Wp d 199 1 [some (.ref a), l1] (.ref a :: st) h Q := W_go f199_0 rfl
theorem f199_1 : fetch 199 1 = some (.iconst 0, 1, [], .null) := by decide +kernel
theorem w199_1 : Wp d 199 1 [l0, l1] st h Q = Wp d 199 2 [l0, l1] (.int (0 : Int32) :: st) h Q := W_go f199_1 rfl
theorem f199_2 : fetch 199 2 = some (.putfield 57, 3, [10, 0, 6131, 0], .null) := by decide +kernel
theorem w199_2 : Wp d 199 2 [l0, l1] (v :: .ref a :: st) h Q = pP (h.2 a) 10 0 (ftOf 10 0) v a (fun c => Wp d 199 5 [l0, l1] st (hset h a c) Q) := W_put f199_2 (by rfl)
theorem f199_5 : fetch 199 5 = some (.aload_n 0, 1, [], .null) := by decide +kernel
theorem w199_5 : Wp d 199 5 [some (.ref a), l1] st h Q = Wp d 199 6 [some (.ref a), l1] (.ref a :: st) h Q := W_go f199_5 rfl
theorem f199_6 : fetch 199 6 = some (.iload_n 1, 1, [], .null) := by decide +kernel
theorem w199_6 : Wp d 199 6 [l0, some (.int x)] st h Q = Wp d 199 7 [l0, some (.int x)] (.int x :: st) h Q := W_go f199_6 rfl
theorem f199_7 : fetch 199 7 = some (.invokevirtual 272, 3, [149, 2, 11, 0, 7121, 1013, 7124, 7123, 66], .null) := by decide +kernel
theorem w199_7 (hp : psum st ≤ 8) : Wp d 199 7 [l0, l1] (v1 :: (.ref b) :: st) h Q = rP (h.2 b) 10 (Cp d 149 [(.ref b), v1] h (fun o => cK o (fun w h2 => Wp d 199 10 [l0, l1] (w.toList ++ st) h2 Q) (fun E h2 => Q (.inr E, h2)))) := (W_invV (st := st) f199_7 rfl rfl (by simp only [List.length_cons]; omega) rfl rfl hp).trans (by simp only [hm199, if_true])
theorem f199_10 : fetch 199 10 = some (.ifCond .eq 15, 3, [], .null) := by decide +kernel
theorem w199_10 : Wp d 199 10 [l0, l1] (.int x :: st) h Q = if icond .eq x 0 = true then Wp d 199 25 [l0, l1] st h Q else Wp d 199 13 [l0, l1] st h Q := W_if f199_10 rfl
theorem f199_13 : fetch 199 13 = some (.aload_n 0, 1, [], .null) := by decide +kernel
theorem w199_13 : Wp d 199 13 [some (.ref a), l1] st h Q = Wp d 199 14 [some (.ref a), l1] (.ref a :: st) h Q := W_go f199_13 rfl
theorem f199_14 : fetch 199 14 = some (.getfield 47, 3, [10, 14, 6148, 0], .null) := by decide +kernel
theorem w199_14 : Wp d 199 14 [l0, l1] (.ref a :: st) h Q = gP (h.2 a) 10 14 (fun w => Wp d 199 17 [l0, l1] (w :: st) h Q) := W_get f199_14 rfl
theorem f199_17 : fetch 199 17 = some (.getfield 285, 3, [9, 4, 6047, 1], .null) := by decide +kernel
theorem w199_17 : Wp d 199 17 [l0, l1] (.ref a :: st) h Q = gP (h.2 a) 9 4 (fun w => Wp d 199 20 [l0, l1] (w :: st) h Q) := W_get f199_17 rfl
theorem f199_20 : fetch 199 20 = some (.iload_n 1, 1, [], .null) := by decide +kernel
theorem w199_20 : Wp d 199 20 [l0, some (.int x)] st h Q = Wp d 199 21 [l0, some (.int x)] (.int x :: st) h Q := W_go f199_20 rfl
theorem f199_21 : fetch 199 21 = some (.iaload, 1, [], .null) := by decide +kernel
theorem w199_21 : Wp d 199 21 [l0, l1] (.int x :: .ref a :: st) h Q = aP false (h.2 a) x (fun w => Wp d 199 22 [l0, l1] (.int w :: st) h Q) := W_ald f199_21 rfl
theorem f199_22 : fetch 199 22 = some (.goto 8, 3, [], .null) := by decide +kernel
theorem w199_22 : Wp d 199 22 [l0, l1] st h Q = Wp d 199 30 [l0, l1] st h Q := W_go f199_22 rfl
theorem f199_25 : fetch 199 25 = some (.aload_n 0, 1, [], .null) := by decide +kernel
theorem w199_25 : Wp d 199 25 [some (.ref a), l1] st h Q = Wp d 199 26 [some (.ref a), l1] (.ref a :: st) h Q := W_go f199_25 rfl
theorem f199_26 : fetch 199 26 = some (.iconst 1, 1, [], .null) := by decide +kernel
theorem w199_26 : Wp d 199 26 [l0, l1] st h Q = Wp d 199 27 [l0, l1] (.int (1 : Int32) :: st) h Q := W_go f199_26 rfl
theorem f199_27 : fetch 199 27 = some (.invokevirtual 249, 3, [146, 2, 11, 0, 6191, 1013, 6194, 6193, 35], .null) := by decide +kernel
theorem w199_27 (hp : psum st ≤ 8) : Wp d 199 27 [l0, l1] (v1 :: (.ref b) :: st) h Q = rP (h.2 b) 10 (Cp d 146 [(.ref b), v1] h (fun o => cK o (fun w h2 => Wp d 199 30 [l0, l1] (w.toList ++ st) h2 Q) (fun E h2 => Q (.inr E, h2)))) := (W_invV (st := st) f199_27 rfl rfl (by simp only [List.length_cons]; omega) rfl rfl hp).trans (by simp only [hm199, if_true])
theorem f199_30 : fetch 199 30 = some (.ireturn, 1, [], .null) := by decide +kernel
theorem w199_30 : Wp d 199 30 [l0, l1] [.int x] h Q = Q (.inl (some (.int x)), h) := W_iret f199_30 hr199
end ROWS160
