section ROWS80
variable {d : Nat} {h : PH} {Q : PO → Prop} {st : List Value} {x y n sp dp : Int32} {x8 y8 : Int64} {xd yd : UInt64} {a b : Nat} {v v0 v1 v2 v3 v4 v5 v6 v7 v8 v9 : Value} {l0 l1 l2 l3 l4 l5 l6 l7 l8 l9 l10 l11 l12 l13 l14 l15 l16 l17 l18 l19 l20 l21 l22 l23 : Option Value}
theorem hm80 : mhs 80 = [] := by decide +kernel
theorem hr80 : mret 80 = (some .int) := by decide +kernel
theorem f80_0 : fetch 80 0 = some (.iload_n 1, 1, [], .null) := by decide +kernel
theorem w80_0 : Wp d 80 0 [l0, some (.int x)] st h Q = Wp d 80 1 [l0, some (.int x)] (.int x :: st) h Q := W_go f80_0 rfl
theorem f80_1 : fetch 80 1 = some (.iconst 1, 1, [], .null) := by decide +kernel
theorem w80_1 : Wp d 80 1 [l0, l1] st h Q = Wp d 80 2 [l0, l1] (.int (1 : Int32) :: st) h Q := W_go f80_1 rfl
theorem f80_2 : fetch 80 2 = some (.if_icmp .lt 9, 3, [], .null) := by decide +kernel
theorem w80_2 : Wp d 80 2 [l0, l1] (.int y :: .int x :: st) h Q = if icond .lt x y = true then Wp d 80 11 [l0, l1] st h Q else Wp d 80 5 [l0, l1] st h Q := W_if f80_2 rfl
theorem f80_5 : fetch 80 5 = some (.iload_n 1, 1, [], .null) := by decide +kernel
theorem w80_5 : Wp d 80 5 [l0, some (.int x)] st h Q = Wp d 80 6 [l0, some (.int x)] (.int x :: st) h Q := W_go f80_5 rfl
theorem f80_6 : fetch 80 6 = some (.bipush 40, 2, [], .null) := by decide +kernel
theorem w80_6 : Wp d 80 6 [l0, l1] st h Q = Wp d 80 8 [l0, l1] (.int (40 : Int32) :: st) h Q := W_go f80_6 rfl
theorem f80_8 : fetch 80 8 = some (.if_icmp .le 13, 3, [], .null) := by decide +kernel
theorem w80_8 : Wp d 80 8 [l0, l1] (.int y :: .int x :: st) h Q = if icond .le x y = true then Wp d 80 21 [l0, l1] st h Q else Wp d 80 11 [l0, l1] st h Q := W_if f80_8 rfl
theorem f80_11 : fetch 80 11 = some (.new 60, 3, [101, 4071, 1020], .null) := by decide +kernel
theorem w80_11 (hp : psum st ≤ 8) : Wp d 80 11 [l0, l1] st h Q = Q (.inr "java/lang/IllegalArgumentException", hthr h) := W_fin f80_11 (by simp only [pstep, pnewo, List.getD_cons_zero, if_pos hp]; rfl)
theorem f80_14 : fetch 80 14 = some (.dup, 1, [], .null) := by decide +kernel
theorem w80_14i : Wp d 80 14 [l0, l1] (.int x :: st) h Q = Wp d 80 15 [l0, l1] (.int x :: .int x :: st) h Q := W_go f80_14 rfl
theorem w80_14 : Wp d 80 14 [l0, l1] (.ref a :: st) h Q = Wp d 80 15 [l0, l1] (.ref a :: .ref a :: st) h Q := W_go f80_14 rfl
theorem f80_15 : fetch 80 15 = some (.ldc 143, 2, [4181], .ref 11) := by decide +kernel
theorem w80_15 : Wp d 80 15 [l0, l1] st h Q = Wp d 80 17 [l0, l1] ((.ref 11) :: st) h Q := W_go f80_15 rfl
theorem f80_17 : fetch 80 17 = some (.invokespecial 64, 3, [8888, 4081], .null) := by decide +kernel
theorem f80_20 : fetch 80 20 = some (.athrow, 1, [], .null) := by decide +kernel
theorem f80_21 : fetch 80 21 = some (.aload_n 0, 1, [], .null) := by decide +kernel
theorem w80_21 : Wp d 80 21 [some (.ref a), l1] st h Q = Wp d 80 22 [some (.ref a), l1] (.ref a :: st) h Q := W_go f80_21 rfl
theorem f80_22 : fetch 80 22 = some (.getfield 35, 3, [7, 2, 2154, 0], .null) := by decide +kernel
theorem w80_22 : Wp d 80 22 [l0, l1] (.ref a :: st) h Q = gP (h.2 a) 7 2 (fun w => Wp d 80 25 [l0, l1] (w :: st) h Q) := W_get f80_22 rfl
theorem f80_25 : fetch 80 25 = some (.iload_n 1, 1, [], .null) := by decide +kernel
theorem w80_25 : Wp d 80 25 [l0, some (.int x)] st h Q = Wp d 80 26 [l0, some (.int x)] (.int x :: st) h Q := W_go f80_25 rfl
theorem f80_26 : fetch 80 26 = some (.invokevirtual 145, 3, [55, 2, 7, 0, 4182, 1010, 4185, 4183, 4184], .null) := by decide +kernel
theorem w80_26 (hp : psum st ≤ 8) : Wp d 80 26 [l0, l1] (v1 :: (.ref b) :: st) h Q = rP (h.2 b) 6 (Cp d 55 [(.ref b), v1] h (fun o => cK o (fun w h2 => Wp d 80 29 [l0, l1] (w.toList ++ st) h2 Q) (fun E h2 => Q (.inr E, h2)))) := (W_invV (st := st) f80_26 rfl rfl (by simp only [List.length_cons]; omega) rfl rfl hp).trans (by simp only [hm80, if_true])
theorem f80_29 : fetch 80 29 = some (.ireturn, 1, [], .null) := by decide +kernel
theorem w80_29 : Wp d 80 29 [l0, l1] [.int x] h Q = Q (.inl (some (.int x)), h) := W_iret f80_29 hr80
theorem hm81 : mhs 81 = [] := by decide +kernel
theorem hr81 : mret 81 = (some .int) := by decide +kernel
theorem f81_0 : fetch 81 0 = some (.iload_n 1, 1, [], .null) := by decide +kernel
theorem w81_0 : Wp d 81 0 [l0, some (.int x)] st h Q = Wp d 81 1 [l0, some (.int x)] (.int x :: st) h Q := W_go f81_0 rfl
theorem f81_1 : fetch 81 1 = some (.iconst 1, 1, [], .null) := by decide +kernel
theorem w81_1 : Wp d 81 1 [l0, l1] st h Q = Wp d 81 2 [l0, l1] (.int (1 : Int32) :: st) h Q := W_go f81_1 rfl
theorem f81_2 : fetch 81 2 = some (.if_icmp .lt 8, 3, [], .null) := by decide +kernel
theorem w81_2 : Wp d 81 2 [l0, l1] (.int y :: .int x :: st) h Q = if icond .lt x y = true then Wp d 81 10 [l0, l1] st h Q else Wp d 81 5 [l0, l1] st h Q := W_if f81_2 rfl
theorem f81_5 : fetch 81 5 = some (.iload_n 1, 1, [], .null) := by decide +kernel
theorem w81_5 : Wp d 81 5 [l0, some (.int x)] st h Q = Wp d 81 6 [l0, some (.int x)] (.int x :: st) h Q := W_go f81_5 rfl
theorem f81_6 : fetch 81 6 = some (.iconst 5, 1, [], .null) := by decide +kernel
theorem w81_6 : Wp d 81 6 [l0, l1] st h Q = Wp d 81 7 [l0, l1] (.int (5 : Int32) :: st) h Q := W_go f81_6 rfl
theorem f81_7 : fetch 81 7 = some (.if_icmp .le 13, 3, [], .null) := by decide +kernel
theorem w81_7 : Wp d 81 7 [l0, l1] (.int y :: .int x :: st) h Q = if icond .le x y = true then Wp d 81 20 [l0, l1] st h Q else Wp d 81 10 [l0, l1] st h Q := W_if f81_7 rfl
theorem f81_10 : fetch 81 10 = some (.new 60, 3, [101, 4071, 1020], .null) := by decide +kernel
theorem w81_10 (hp : psum st ≤ 8) : Wp d 81 10 [l0, l1] st h Q = Q (.inr "java/lang/IllegalArgumentException", hthr h) := W_fin f81_10 (by simp only [pstep, pnewo, List.getD_cons_zero, if_pos hp]; rfl)
theorem f81_13 : fetch 81 13 = some (.dup, 1, [], .null) := by decide +kernel
theorem w81_13i : Wp d 81 13 [l0, l1] (.int x :: st) h Q = Wp d 81 14 [l0, l1] (.int x :: .int x :: st) h Q := W_go f81_13 rfl
theorem w81_13 : Wp d 81 13 [l0, l1] (.ref a :: st) h Q = Wp d 81 14 [l0, l1] (.ref a :: .ref a :: st) h Q := W_go f81_13 rfl
theorem f81_14 : fetch 81 14 = some (.ldc 149, 2, [5023], .ref 12) := by decide +kernel
theorem w81_14 : Wp d 81 14 [l0, l1] st h Q = Wp d 81 16 [l0, l1] ((.ref 12) :: st) h Q := W_go f81_14 rfl
theorem f81_16 : fetch 81 16 = some (.invokespecial 64, 3, [8888, 4081], .null) := by decide +kernel
theorem f81_19 : fetch 81 19 = some (.athrow, 1, [], .null) := by decide +kernel
theorem f81_20 : fetch 81 20 = some (.aload_n 0, 1, [], .null) := by decide +kernel
theorem w81_20 : Wp d 81 20 [some (.ref a), l1] st h Q = Wp d 81 21 [some (.ref a), l1] (.ref a :: st) h Q := W_go f81_20 rfl
theorem f81_21 : fetch 81 21 = some (.getfield 35, 3, [7, 2, 2154, 0], .null) := by decide +kernel
theorem w81_21 : Wp d 81 21 [l0, l1] (.ref a :: st) h Q = gP (h.2 a) 7 2 (fun w => Wp d 81 24 [l0, l1] (w :: st) h Q) := W_get f81_21 rfl
theorem f81_24 : fetch 81 24 = some (.iload_n 1, 1, [], .null) := by decide +kernel
theorem w81_24 : Wp d 81 24 [l0, some (.int x)] st h Q = Wp d 81 25 [l0, some (.int x)] (.int x :: st) h Q := W_go f81_24 rfl
theorem f81_25 : fetch 81 25 = some (.bipush 40, 2, [], .null) := by decide +kernel
theorem w81_25 : Wp d 81 25 [l0, l1] st h Q = Wp d 81 27 [l0, l1] (.int (40 : Int32) :: st) h Q := W_go f81_25 rfl
theorem f81_27 : fetch 81 27 = some (.imul, 1, [], .null) := by decide +kernel
theorem w81_27 : Wp d 81 27 [l0, l1] (.int y :: .int x :: st) h Q = Wp d 81 28 [l0, l1] (.int (x * y) :: st) h Q := W_go f81_27 rfl
theorem f81_28 : fetch 81 28 = some (.invokevirtual 145, 3, [55, 2, 7, 0, 4182, 1010, 4185, 4183, 4184], .null) := by decide +kernel
theorem w81_28 (hp : psum st ≤ 8) : Wp d 81 28 [l0, l1] (v1 :: (.ref b) :: st) h Q = rP (h.2 b) 6 (Cp d 55 [(.ref b), v1] h (fun o => cK o (fun w h2 => Wp d 81 31 [l0, l1] (w.toList ++ st) h2 Q) (fun E h2 => Q (.inr E, h2)))) := (W_invV (st := st) f81_28 rfl rfl (by simp only [List.length_cons]; omega) rfl rfl hp).trans (by simp only [hm81, if_true])
theorem f81_31 : fetch 81 31 = some (.ireturn, 1, [], .null) := by decide +kernel
theorem w81_31 : Wp d 81 31 [l0, l1] [.int x] h Q = Q (.inl (some (.int x)), h) := W_iret f81_31 hr81
theorem hm82 : mhs 82 = [] := by decide +kernel
theorem hr82 : mret 82 = (some .int) := by decide +kernel
theorem f82_0 : fetch 82 0 = some (.aload_n 0, 1, [], .null) := by decide +kernel
theorem w82_0 : Wp d 82 0 [some (.ref a)] st h Q = Wp d 82 1 [some (.ref a)] (.ref a :: st) h Q := W_go f82_0 rfl
theorem f82_1 : fetch 82 1 = some (.getfield 35, 3, [7, 2, 2154, 0], .null) := by decide +kernel
theorem w82_1 : Wp d 82 1 [l0] (.ref a :: st) h Q = gP (h.2 a) 7 2 (fun w => Wp d 82 4 [l0] (w :: st) h Q) := W_get f82_1 rfl
theorem f82_4 : fetch 82 4 = some (.getfield 70, 3, [6, 0, 2120, 0], .null) := by decide +kernel
theorem w82_4 : Wp d 82 4 [l0] (.ref a :: st) h Q = gP (h.2 a) 6 0 (fun w => Wp d 82 7 [l0] (w :: st) h Q) := W_get f82_4 rfl
theorem f82_7 : fetch 82 7 = some (.getfield 151, 3, [0, 0, 1057, 0], .null) := by decide +kernel
theorem w82_7 : Wp d 82 7 [l0] (.ref a :: st) h Q = gP (h.2 a) 0 0 (fun w => Wp d 82 10 [l0] (w :: st) h Q) := W_get f82_7 rfl
theorem f82_10 : fetch 82 10 = some (.ireturn, 1, [], .null) := by decide +kernel
theorem w82_10 : Wp d 82 10 [l0] [.int x] h Q = Q (.inl (some (.int x)), h) := W_iret f82_10 hr82
theorem hm83 : mhs 83 = [] := by decide +kernel
theorem hr83 : mret 83 = (some .int) := by decide +kernel
theorem f83_0 : fetch 83 0 = some (.aload_n 0, 1, [], .null) := by decide +kernel
theorem w83_0 : Wp d 83 0 [some (.ref a)] st h Q = Wp d 83 1 [some (.ref a)] (.ref a :: st) h Q := W_go f83_0 rfl
theorem f83_1 : fetch 83 1 = some (.getfield 35, 3, [7, 2, 2154, 0], .null) := by decide +kernel
theorem w83_1 : Wp d 83 1 [l0] (.ref a :: st) h Q = gP (h.2 a) 7 2 (fun w => Wp d 83 4 [l0] (w :: st) h Q) := W_get f83_1 rfl
theorem f83_4 : fetch 83 4 = some (.getfield 70, 3, [6, 0, 2120, 0], .null) := by decide +kernel
theorem w83_4 : Wp d 83 4 [l0] (.ref a :: st) h Q = gP (h.2 a) 6 0 (fun w => Wp d 83 7 [l0] (w :: st) h Q) := W_get f83_4 rfl
theorem f83_7 : fetch 83 7 = some (.getfield 95, 3, [0, 1, 1060, 0], .null) := by decide +kernel
theorem w83_7 : Wp d 83 7 [l0] (.ref a :: st) h Q = gP (h.2 a) 0 1 (fun w => Wp d 83 10 [l0] (w :: st) h Q) := W_get f83_7 rfl
theorem f83_10 : fetch 83 10 = some (.ireturn, 1, [], .null) := by decide +kernel
theorem w83_10 : Wp d 83 10 [l0] [.int x] h Q = Q (.inl (some (.int x)), h) := W_iret f83_10 hr83
theorem hm84 : mhs 84 = [] := by decide +kernel
theorem hr84 : mret 84 = (some .int) := by decide +kernel
theorem f84_0 : fetch 84 0 = some (.aload_n 0, 1, [], .null) := by decide +kernel
theorem w84_0 : Wp d 84 0 [some (.ref a)] st h Q = Wp d 84 1 [some (.ref a)] (.ref a :: st) h Q := W_go f84_0 rfl
theorem f84_1 : fetch 84 1 = some (.getfield 35, 3, [7, 2, 2154, 0], .null) := by decide +kernel
theorem w84_1 : Wp d 84 1 [l0] (.ref a :: st) h Q = gP (h.2 a) 7 2 (fun w => Wp d 84 4 [l0] (w :: st) h Q) := W_get f84_1 rfl
theorem f84_4 : fetch 84 4 = some (.getfield 70, 3, [6, 0, 2120, 0], .null) := by decide +kernel
theorem w84_4 : Wp d 84 4 [l0] (.ref a :: st) h Q = gP (h.2 a) 6 0 (fun w => Wp d 84 7 [l0] (w :: st) h Q) := W_get f84_4 rfl
theorem f84_7 : fetch 84 7 = some (.getfield 154, 3, [0, 2, 1063, 0], .null) := by decide +kernel
theorem w84_7 : Wp d 84 7 [l0] (.ref a :: st) h Q = gP (h.2 a) 0 2 (fun w => Wp d 84 10 [l0] (w :: st) h Q) := W_get f84_7 rfl
theorem f84_10 : fetch 84 10 = some (.ireturn, 1, [], .null) := by decide +kernel
theorem w84_10 : Wp d 84 10 [l0] [.int x] h Q = Q (.inl (some (.int x)), h) := W_iret f84_10 hr84
theorem hm85 : mhs 85 = [] := by decide +kernel
theorem hr85 : mret 85 = (some .int) := by decide +kernel
theorem f85_0 : fetch 85 0 = some (.aload_n 0, 1, [], .null) := by decide +kernel
theorem w85_0 : Wp d 85 0 [some (.ref a), l1] st h Q = Wp d 85 1 [some (.ref a), l1] (.ref a :: st) h Q := W_go f85_0 rfl
theorem f85_1 : fetch 85 1 = some (.iload_n 1, 1, [], .null) := by decide +kernel
theorem w85_1 : Wp d 85 1 [l0, some (.int x)] st h Q = Wp d 85 2 [l0, some (.int x)] (.int x :: st) h Q := W_go f85_1 rfl
theorem f85_2 : fetch 85 2 = some (.invokevirtual 114, 3, [112, 2, 8, 0, 4142, 1001, 4145, 4144, 22], .null) := by decide +kernel
theorem w85_2 (hp : psum st ≤ 8) : Wp d 85 2 [l0, l1] (v1 :: (.ref b) :: st) h Q = rP (h.2 b) 7 (Cp d 112 [(.ref b), v1] h (fun o => cK o (fun w h2 => Wp d 85 5 [l0, l1] (w.toList ++ st) h2 Q) (fun E h2 => Q (.inr E, h2)))) := (W_invV (st := st) f85_2 rfl rfl (by simp only [List.length_cons]; omega) rfl rfl hp).trans (by simp only [hm85, if_true])
theorem f85_5 : fetch 85 5 = some (.getfield 157, 3, [1, 0, 2034, 0], .null) := by decide +kernel
theorem w85_5 : Wp d 85 5 [l0, l1] (.ref a :: st) h Q = gP (h.2 a) 1 0 (fun w => Wp d 85 8 [l0, l1] (w :: st) h Q) := W_get f85_5 rfl
theorem f85_8 : fetch 85 8 = some (.ireturn, 1, [], .null) := by decide +kernel
theorem w85_8 : Wp d 85 8 [l0, l1] [.int x] h Q = Q (.inl (some (.int x)), h) := W_iret f85_8 hr85
theorem hm86 : mhs 86 = [] := by decide +kernel
theorem hr86 : mret 86 = (some .int) := by decide +kernel
theorem f86_0 : fetch 86 0 = some (.aload_n 0, 1, [], .null) := by decide +kernel
theorem w86_0 : Wp d 86 0 [some (.ref a), l1] st h Q = Wp d 86 1 [some (.ref a), l1] (.ref a :: st) h Q := W_go f86_0 rfl
theorem f86_1 : fetch 86 1 = some (.iload_n 1, 1, [], .null) := by decide +kernel
theorem w86_1 : Wp d 86 1 [l0, some (.int x)] st h Q = Wp d 86 2 [l0, some (.int x)] (.int x :: st) h Q := W_go f86_1 rfl
theorem f86_2 : fetch 86 2 = some (.invokevirtual 114, 3, [112, 2, 8, 0, 4142, 1001, 4145, 4144, 22], .null) := by decide +kernel
theorem w86_2 (hp : psum st ≤ 8) : Wp d 86 2 [l0, l1] (v1 :: (.ref b) :: st) h Q = rP (h.2 b) 7 (Cp d 112 [(.ref b), v1] h (fun o => cK o (fun w h2 => Wp d 86 5 [l0, l1] (w.toList ++ st) h2 Q) (fun E h2 => Q (.inr E, h2)))) := (W_invV (st := st) f86_2 rfl rfl (by simp only [List.length_cons]; omega) rfl rfl hp).trans (by simp only [hm86, if_true])
theorem f86_5 : fetch 86 5 = some (.getfield 131, 3, [1, 1, 2036, 0], .null) := by decide +kernel
theorem w86_5 : Wp d 86 5 [l0, l1] (.ref a :: st) h Q = gP (h.2 a) 1 1 (fun w => Wp d 86 8 [l0, l1] (w :: st) h Q) := W_get f86_5 rfl
theorem f86_8 : fetch 86 8 = some (.ireturn, 1, [], .null) := by decide +kernel
theorem w86_8 : Wp d 86 8 [l0, l1] [.int x] h Q = Q (.inl (some (.int x)), h) := W_iret f86_8 hr86
theorem hm87 : mhs 87 = [] := by decide +kernel
theorem hr87 : mret 87 = (some .int) := by decide +kernel
theorem f87_0 : fetch 87 0 = some (.aload_n 0, 1, [], .null) := by decide +kernel
theorem w87_0 : Wp d 87 0 [some (.ref a), l1] st h Q = Wp d 87 1 [some (.ref a), l1] (.ref a :: st) h Q := W_go f87_0 rfl
theorem f87_1 : fetch 87 1 = some (.iload_n 1, 1, [], .null) := by decide +kernel
theorem w87_1 : Wp d 87 1 [l0, some (.int x)] st h Q = Wp d 87 2 [l0, some (.int x)] (.int x :: st) h Q := W_go f87_1 rfl
theorem f87_2 : fetch 87 2 = some (.invokevirtual 114, 3, [112, 2, 8, 0, 4142, 1001, 4145, 4144, 22], .null) := by decide +kernel
theorem w87_2 (hp : psum st ≤ 8) : Wp d 87 2 [l0, l1] (v1 :: (.ref b) :: st) h Q = rP (h.2 b) 7 (Cp d 112 [(.ref b), v1] h (fun o => cK o (fun w h2 => Wp d 87 5 [l0, l1] (w.toList ++ st) h2 Q) (fun E h2 => Q (.inr E, h2)))) := (W_invV (st := st) f87_2 rfl rfl (by simp only [List.length_cons]; omega) rfl rfl hp).trans (by simp only [hm87, if_true])
theorem f87_5 : fetch 87 5 = some (.getfield 128, 3, [1, 2, 2039, 0], .null) := by decide +kernel
theorem w87_5 : Wp d 87 5 [l0, l1] (.ref a :: st) h Q = gP (h.2 a) 1 2 (fun w => Wp d 87 8 [l0, l1] (w :: st) h Q) := W_get f87_5 rfl
theorem f87_8 : fetch 87 8 = some (.ireturn, 1, [], .null) := by decide +kernel
theorem w87_8 : Wp d 87 8 [l0, l1] [.int x] h Q = Q (.inl (some (.int x)), h) := W_iret f87_8 hr87
theorem hm88 : mhs 88 = [] := by decide +kernel
theorem hr88 : mret 88 = (some .int) := by decide +kernel
theorem f88_0 : fetch 88 0 = some (.aload_n 0, 1, [], .null) := by decide +kernel
theorem w88_0 : Wp d 88 0 [some (.ref a), l1] st h Q = Wp d 88 1 [some (.ref a), l1] (.ref a :: st) h Q := W_go f88_0 rfl
theorem f88_1 : fetch 88 1 = some (.iload_n 1, 1, [], .null) := by decide +kernel
theorem w88_1 : Wp d 88 1 [l0, some (.int x)] st h Q = Wp d 88 2 [l0, some (.int x)] (.int x :: st) h Q := W_go f88_1 rfl
theorem f88_2 : fetch 88 2 = some (.invokevirtual 114, 3, [112, 2, 8, 0, 4142, 1001, 4145, 4144, 22], .null) := by decide +kernel
theorem w88_2 (hp : psum st ≤ 8) : Wp d 88 2 [l0, l1] (v1 :: (.ref b) :: st) h Q = rP (h.2 b) 7 (Cp d 112 [(.ref b), v1] h (fun o => cK o (fun w h2 => Wp d 88 5 [l0, l1] (w.toList ++ st) h2 Q) (fun E h2 => Q (.inr E, h2)))) := (W_invV (st := st) f88_2 rfl rfl (by simp only [List.length_cons]; omega) rfl rfl hp).trans (by simp only [hm88, if_true])
theorem f88_5 : fetch 88 5 = some (.getfield 140, 3, [1, 3, 2042, 0], .null) := by decide +kernel
theorem w88_5 : Wp d 88 5 [l0, l1] (.ref a :: st) h Q = gP (h.2 a) 1 3 (fun w => Wp d 88 8 [l0, l1] (w :: st) h Q) := W_get f88_5 rfl
theorem f88_8 : fetch 88 8 = some (.ireturn, 1, [], .null) := by decide +kernel
theorem w88_8 : Wp d 88 8 [l0, l1] [.int x] h Q = Q (.inl (some (.int x)), h) := W_iret f88_8 hr88
theorem hm89 : mhs 89 = [] := by decide +kernel
theorem hr89 : mret 89 = (some .boolean) := by decide +kernel
theorem f89_0 : fetch 89 0 = some (.aload_n 0, 1, [], .null) := by decide +kernel
theorem w89_0 : Wp d 89 0 [some (.ref a), l1] st h Q = Wp d 89 1 [some (.ref a), l1] (.ref a :: st) h Q := W_go f89_0 rfl
theorem f89_1 : fetch 89 1 = some (.iload_n 1, 1, [], .null) := by decide +kernel
theorem w89_1 : Wp d 89 1 [l0, some (.int x)] st h Q = Wp d 89 2 [l0, some (.int x)] (.int x :: st) h Q := W_go f89_1 rfl
theorem f89_2 : fetch 89 2 = some (.invokevirtual 114, 3, [112, 2, 8, 0, 4142, 1001, 4145, 4144, 22], .null) := by decide +kernel
theorem w89_2 (hp : psum st ≤ 8) : Wp d 89 2 [l0, l1] (v1 :: (.ref b) :: st) h Q = rP (h.2 b) 7 (Cp d 112 [(.ref b), v1] h (fun o => cK o (fun w h2 => Wp d 89 5 [l0, l1] (w.toList ++ st) h2 Q) (fun E h2 => Q (.inr E, h2)))) := (W_invV (st := st) f89_2 rfl rfl (by simp only [List.length_cons]; omega) rfl rfl hp).trans (by simp only [hm89, if_true])
theorem f89_5 : fetch 89 5 = some (.getfield 123, 3, [1, 6, 2050, 0], .null) := by decide +kernel
theorem w89_5 : Wp d 89 5 [l0, l1] (.ref a :: st) h Q = gP (h.2 a) 1 6 (fun w => Wp d 89 8 [l0, l1] (w :: st) h Q) := W_get f89_5 rfl
theorem f89_8 : fetch 89 8 = some (.ireturn, 1, [], .null) := by decide +kernel
theorem w89_8 : Wp d 89 8 [l0, l1] [.int x] h Q = (if narrow .boolean (.int x) = .int x then Q (.inl (some (.int x)), h) else False) := W_zret f89_8 hr89
theorem hm90 : mhs 90 = [] := by decide +kernel
theorem hr90 : mret 90 = (some .int) := by decide +kernel
theorem f90_0 : fetch 90 0 = some (.aload_n 0, 1, [], .null) := by decide +kernel
theorem w90_0 : Wp d 90 0 [some (.ref a), l1] st h Q = Wp d 90 1 [some (.ref a), l1] (.ref a :: st) h Q := W_go f90_0 rfl
theorem f90_1 : fetch 90 1 = some (.iload_n 1, 1, [], .null) := by decide +kernel
theorem w90_1 : Wp d 90 1 [l0, some (.int x)] st h Q = Wp d 90 2 [l0, some (.int x)] (.int x :: st) h Q := W_go f90_1 rfl
theorem f90_2 : fetch 90 2 = some (.invokevirtual 114, 3, [112, 2, 8, 0, 4142, 1001, 4145, 4144, 22], .null) := by decide +kernel
theorem w90_2 (hp : psum st ≤ 8) : Wp d 90 2 [l0, l1] (v1 :: (.ref b) :: st) h Q = rP (h.2 b) 7 (Cp d 112 [(.ref b), v1] h (fun o => cK o (fun w h2 => Wp d 90 5 [l0, l1] (w.toList ++ st) h2 Q) (fun E h2 => Q (.inr E, h2)))) := (W_invV (st := st) f90_2 rfl rfl (by simp only [List.length_cons]; omega) rfl rfl hp).trans (by simp only [hm90, if_true])
theorem f90_5 : fetch 90 5 = some (.getfield 160, 3, [1, 5, 2047, 0], .null) := by decide +kernel
theorem w90_5 : Wp d 90 5 [l0, l1] (.ref a :: st) h Q = gP (h.2 a) 1 5 (fun w => Wp d 90 8 [l0, l1] (w :: st) h Q) := W_get f90_5 rfl
theorem f90_8 : fetch 90 8 = some (.ireturn, 1, [], .null) := by decide +kernel
theorem w90_8 : Wp d 90 8 [l0, l1] [.int x] h Q = Q (.inl (some (.int x)), h) := W_iret f90_8 hr90
theorem hm91 : mhs 91 = [] := by decide +kernel
theorem hr91 : mret 91 = (some .int) := by decide +kernel
theorem f91_0 : fetch 91 0 = some (.iconst 0, 1, [], .null) := by decide +kernel
theorem w91_0 : Wp d 91 0 [l0, l1, l2] st h Q = Wp d 91 1 [l0, l1, l2] (.int (0 : Int32) :: st) h Q := W_go f91_0 rfl
theorem f91_1 : fetch 91 1 = some (.istore_n 1, 1, [], .null) := by decide +kernel
theorem w91_1 : Wp d 91 1 [l0, l1, l2] (.int x :: st) h Q = Wp d 91 2 [kl l0, some (.int x), l2] st h Q := (W_st1 (pc' := 2) (k := 1) f91_1 rfl rfl (by simp only [List.length_cons, List.length_nil]; omega)).trans (by rw [pst1_succ]; rfl)
theorem f91_2 : fetch 91 2 = some (.iconst 0, 1, [], .null) := by decide +kernel
theorem w91_2 : Wp d 91 2 [l0, l1, l2] st h Q = Wp d 91 3 [l0, l1, l2] (.int (0 : Int32) :: st) h Q := W_go f91_2 rfl
theorem f91_3 : fetch 91 3 = some (.istore_n 2, 1, [], .null) := by decide +kernel
theorem w91_3 : Wp d 91 3 [l0, l1, l2] (.int x :: st) h Q = Wp d 91 4 [l0, kl l1, some (.int x)] st h Q := (W_st1 (pc' := 4) (k := 2) f91_3 rfl rfl (by simp only [List.length_cons, List.length_nil]; omega)).trans (by rw [pst1_succ]; rfl)
theorem f91_4 : fetch 91 4 = some (.iload_n 2, 1, [], .null) := by decide +kernel
theorem w91_4 : Wp d 91 4 [l0, l1, some (.int x)] st h Q = Wp d 91 5 [l0, l1, some (.int x)] (.int x :: st) h Q := W_go f91_4 rfl
theorem f91_5 : fetch 91 5 = some (.aload_n 0, 1, [], .null) := by decide +kernel
theorem w91_5 : Wp d 91 5 [some (.ref a), l1, l2] st h Q = Wp d 91 6 [some (.ref a), l1, l2] (.ref a :: st) h Q := W_go f91_5 rfl
theorem f91_6 : fetch 91 6 = some (.getfield 35, 3, [7, 2, 2154, 0], .null) := by decide +kernel
theorem w91_6 : Wp d 91 6 [l0, l1, l2] (.ref a :: st) h Q = gP (h.2 a) 7 2 (fun w => Wp d 91 9 [l0, l1, l2] (w :: st) h Q) := W_get f91_6 rfl
theorem f91_9 : fetch 91 9 = some (.getfield 70, 3, [6, 0, 2120, 0], .null) := by decide +kernel
theorem w91_9 : Wp d 91 9 [l0, l1, l2] (.ref a :: st) h Q = gP (h.2 a) 6 0 (fun w => Wp d 91 12 [l0, l1, l2] (w :: st) h Q) := W_get f91_9 rfl
theorem f91_12 : fetch 91 12 = some (.getfield 151, 3, [0, 0, 1057, 0], .null) := by decide +kernel
theorem w91_12 : Wp d 91 12 [l0, l1, l2] (.ref a :: st) h Q = gP (h.2 a) 0 0 (fun w => Wp d 91 15 [l0, l1, l2] (w :: st) h Q) := W_get f91_12 rfl
theorem f91_15 : fetch 91 15 = some (.if_icmp .ge 39, 3, [], .null) := by decide +kernel
theorem w91_15 : Wp d 91 15 [l0, l1, l2] (.int y :: .int x :: st) h Q = if icond .ge x y = true then Wp d 91 54 [l0, l1, l2] st h Q else Wp d 91 18 [l0, l1, l2] st h Q := W_if f91_15 rfl
theorem f91_18 : fetch 91 18 = some (.iload_n 2, 1, [], .null) := by decide +kernel
theorem w91_18 : Wp d 91 18 [l0, l1, some (.int x)] st h Q = Wp d 91 19 [l0, l1, some (.int x)] (.int x :: st) h Q := W_go f91_18 rfl
theorem f91_19 : fetch 91 19 = some (.aload_n 0, 1, [], .null) := by decide +kernel
theorem w91_19 : Wp d 91 19 [some (.ref a), l1, l2] st h Q = Wp d 91 20 [some (.ref a), l1, l2] (.ref a :: st) h Q := W_go f91_19 rfl
theorem f91_20 : fetch 91 20 = some (.getfield 35, 3, [7, 2, 2154, 0], .null) := by decide +kernel
theorem w91_20 : Wp d 91 20 [l0, l1, l2] (.ref a :: st) h Q = gP (h.2 a) 7 2 (fun w => Wp d 91 23 [l0, l1, l2] (w :: st) h Q) := W_get f91_20 rfl
theorem f91_23 : fetch 91 23 = some (.getfield 163, 3, [6, 1, 2122, 0], .null) := by decide +kernel
theorem w91_23 : Wp d 91 23 [l0, l1, l2] (.ref a :: st) h Q = gP (h.2 a) 6 1 (fun w => Wp d 91 26 [l0, l1, l2] (w :: st) h Q) := W_get f91_23 rfl
theorem f91_26 : fetch 91 26 = some (.arraylength, 1, [], .null) := by decide +kernel
theorem w91_26 : Wp d 91 26 [l0, l1, l2] (.ref a :: st) h Q = nP (h.2 a) (fun w => Wp d 91 27 [l0, l1, l2] (.int w :: st) h Q) := W_len f91_26 rfl
theorem f91_27 : fetch 91 27 = some (.if_icmp .ge 27, 3, [], .null) := by decide +kernel
theorem w91_27 : Wp d 91 27 [l0, l1, l2] (.int y :: .int x :: st) h Q = if icond .ge x y = true then Wp d 91 54 [l0, l1, l2] st h Q else Wp d 91 30 [l0, l1, l2] st h Q := W_if f91_27 rfl
theorem f91_30 : fetch 91 30 = some (.aload_n 0, 1, [], .null) := by decide +kernel
theorem w91_30 : Wp d 91 30 [some (.ref a), l1, l2] st h Q = Wp d 91 31 [some (.ref a), l1, l2] (.ref a :: st) h Q := W_go f91_30 rfl
theorem f91_31 : fetch 91 31 = some (.getfield 35, 3, [7, 2, 2154, 0], .null) := by decide +kernel
theorem w91_31 : Wp d 91 31 [l0, l1, l2] (.ref a :: st) h Q = gP (h.2 a) 7 2 (fun w => Wp d 91 34 [l0, l1, l2] (w :: st) h Q) := W_get f91_31 rfl
theorem f91_34 : fetch 91 34 = some (.getfield 163, 3, [6, 1, 2122, 0], .null) := by decide +kernel
theorem w91_34 : Wp d 91 34 [l0, l1, l2] (.ref a :: st) h Q = gP (h.2 a) 6 1 (fun w => Wp d 91 37 [l0, l1, l2] (w :: st) h Q) := W_get f91_34 rfl
theorem f91_37 : fetch 91 37 = some (.iload_n 2, 1, [], .null) := by decide +kernel
theorem w91_37 : Wp d 91 37 [l0, l1, some (.int x)] st h Q = Wp d 91 38 [l0, l1, some (.int x)] (.int x :: st) h Q := W_go f91_37 rfl
theorem f91_38 : fetch 91 38 = some (.aaload, 1, [], .null) := by decide +kernel
theorem w91_38 : Wp d 91 38 [l0, l1, l2] (.int x :: .ref a :: st) h Q = qP (h.2 a) x (fun w => Wp d 91 39 [l0, l1, l2] (w :: st) h Q) := W_qld f91_38 rfl
theorem f91_39 : fetch 91 39 = some (.getfield 123, 3, [1, 6, 2050, 0], .null) := by decide +kernel
theorem w91_39 : Wp d 91 39 [l0, l1, l2] (.ref a :: st) h Q = gP (h.2 a) 1 6 (fun w => Wp d 91 42 [l0, l1, l2] (w :: st) h Q) := W_get f91_39 rfl
theorem f91_42 : fetch 91 42 = some (.ifCond .eq 6, 3, [], .null) := by decide +kernel
theorem w91_42 : Wp d 91 42 [l0, l1, l2] (.int x :: st) h Q = if icond .eq x 0 = true then Wp d 91 48 [l0, l1, l2] st h Q else Wp d 91 45 [l0, l1, l2] st h Q := W_if f91_42 rfl
theorem f91_45 : fetch 91 45 = some (.iinc 1 1, 3, [], .null) := by decide +kernel
theorem w91_45 : Wp d 91 45 [l0, some (.int x), l2] st h Q = Wp d 91 48 [kl l0, some (.int (x + (1 : Int32))), l2] st h Q := (W_iinc (y := (1 : Int32)) f91_45 rfl (by simp only [List.length_cons, List.length_nil]; omega) (by decide)).trans (by rw [pst1_succ]; rfl)
theorem f91_48 : fetch 91 48 = some (.iinc 2 1, 3, [], .null) := by decide +kernel
theorem w91_48 : Wp d 91 48 [l0, l1, some (.int x)] st h Q = Wp d 91 51 [l0, kl l1, some (.int (x + (1 : Int32)))] st h Q := (W_iinc (y := (1 : Int32)) f91_48 rfl (by simp only [List.length_cons, List.length_nil]; omega) (by decide)).trans (by rw [pst1_succ]; rfl)
theorem f91_51 : fetch 91 51 = some (.goto (-47), 3, [], .null) := by decide +kernel
theorem w91_51 : Wp d 91 51 [l0, l1, l2] st h Q = Wp d 91 4 [l0, l1, l2] st h Q := W_go f91_51 rfl
theorem f91_54 : fetch 91 54 = some (.iload_n 1, 1, [], .null) := by decide +kernel
theorem w91_54 : Wp d 91 54 [l0, some (.int x), l2] st h Q = Wp d 91 55 [l0, some (.int x), l2] (.int x :: st) h Q := W_go f91_54 rfl
theorem f91_55 : fetch 91 55 = some (.ireturn, 1, [], .null) := by decide +kernel
theorem w91_55 : Wp d 91 55 [l0, l1, l2] [.int x] h Q = Q (.inl (some (.int x)), h) := W_iret f91_55 hr91
theorem hm92 : mhs 92 = [] := by decide +kernel
theorem hr92 : mret 92 = (some .int) := by decide +kernel
theorem f92_0 : fetch 92 0 = some (.aload_n 0, 1, [], .null) := by decide +kernel
theorem w92_0 : Wp d 92 0 [some (.ref a)] st h Q = Wp d 92 1 [some (.ref a)] (.ref a :: st) h Q := W_go f92_0 rfl
theorem f92_1 : fetch 92 1 = some (.getfield 35, 3, [7, 2, 2154, 0], .null) := by decide +kernel
theorem w92_1 : Wp d 92 1 [l0] (.ref a :: st) h Q = gP (h.2 a) 7 2 (fun w => Wp d 92 4 [l0] (w :: st) h Q) := W_get f92_1 rfl
theorem f92_4 : fetch 92 4 = some (.getfield 167, 3, [6, 6, 2132, 0], .null) := by decide +kernel
theorem w92_4 : Wp d 92 4 [l0] (.ref a :: st) h Q = gP (h.2 a) 6 6 (fun w => Wp d 92 7 [l0] (w :: st) h Q) := W_get f92_4 rfl
theorem f92_7 : fetch 92 7 = some (.ireturn, 1, [], .null) := by decide +kernel
theorem w92_7 : Wp d 92 7 [l0] [.int x] h Q = Q (.inl (some (.int x)), h) := W_iret f92_7 hr92
theorem hm93 : mhs 93 = [] := by decide +kernel
theorem hr93 : mret 93 = (some .int) := by decide +kernel
theorem f93_0 : fetch 93 0 = some (.aload_n 0, 1, [], .null) := by decide +kernel
theorem w93_0 : Wp d 93 0 [some (.ref a)] st h Q = Wp d 93 1 [some (.ref a)] (.ref a :: st) h Q := W_go f93_0 rfl
theorem f93_1 : fetch 93 1 = some (.getfield 35, 3, [7, 2, 2154, 0], .null) := by decide +kernel
theorem w93_1 : Wp d 93 1 [l0] (.ref a :: st) h Q = gP (h.2 a) 7 2 (fun w => Wp d 93 4 [l0] (w :: st) h Q) := W_get f93_1 rfl
theorem f93_4 : fetch 93 4 = some (.getfield 170, 3, [6, 4, 2128, 0], .null) := by decide +kernel
theorem w93_4 : Wp d 93 4 [l0] (.ref a :: st) h Q = gP (h.2 a) 6 4 (fun w => Wp d 93 7 [l0] (w :: st) h Q) := W_get f93_4 rfl
theorem f93_7 : fetch 93 7 = some (.ireturn, 1, [], .null) := by decide +kernel
theorem w93_7 : Wp d 93 7 [l0] [.int x] h Q = Q (.inl (some (.int x)), h) := W_iret f93_7 hr93
theorem hm94 : mhs 94 = [] := by decide +kernel
theorem hr94 : mret 94 = (some .int) := by decide +kernel
theorem f94_0 : fetch 94 0 = some (.aload_n 0, 1, [], .null) := by decide +kernel
theorem w94_0 : Wp d 94 0 [some (.ref a)] st h Q = Wp d 94 1 [some (.ref a)] (.ref a :: st) h Q := W_go f94_0 rfl
theorem f94_1 : fetch 94 1 = some (.getfield 35, 3, [7, 2, 2154, 0], .null) := by decide +kernel
theorem w94_1 : Wp d 94 1 [l0] (.ref a :: st) h Q = gP (h.2 a) 7 2 (fun w => Wp d 94 4 [l0] (w :: st) h Q) := W_get f94_1 rfl
theorem f94_4 : fetch 94 4 = some (.getfield 173, 3, [6, 5, 2130, 0], .null) := by decide +kernel
theorem w94_4 : Wp d 94 4 [l0] (.ref a :: st) h Q = gP (h.2 a) 6 5 (fun w => Wp d 94 7 [l0] (w :: st) h Q) := W_get f94_4 rfl
theorem f94_7 : fetch 94 7 = some (.ireturn, 1, [], .null) := by decide +kernel
theorem w94_7 : Wp d 94 7 [l0] [.int x] h Q = Q (.inl (some (.int x)), h) := W_iret f94_7 hr94
theorem hm95 : mhs 95 = [] := by decide +kernel
theorem hr95 : mret 95 = (some .int) := by decide +kernel
theorem f95_0 : fetch 95 0 = some (.aload_n 0, 1, [], .null) := by decide +kernel
theorem w95_0 : Wp d 95 0 [some (.ref a)] st h Q = Wp d 95 1 [some (.ref a)] (.ref a :: st) h Q := W_go f95_0 rfl
theorem f95_1 : fetch 95 1 = some (.getfield 35, 3, [7, 2, 2154, 0], .null) := by decide +kernel
theorem w95_1 : Wp d 95 1 [l0] (.ref a :: st) h Q = gP (h.2 a) 7 2 (fun w => Wp d 95 4 [l0] (w :: st) h Q) := W_get f95_1 rfl
theorem f95_4 : fetch 95 4 = some (.getfield 170, 3, [6, 4, 2128, 0], .null) := by decide +kernel
theorem w95_4 : Wp d 95 4 [l0] (.ref a :: st) h Q = gP (h.2 a) 6 4 (fun w => Wp d 95 7 [l0] (w :: st) h Q) := W_get f95_4 rfl
theorem f95_7 : fetch 95 7 = some (.invokestatic 176, 3, [114, 1, 0, 0, 3174, 1001, 3176, 3175], .null) := by decide +kernel
theorem w95_7 (hp : psum st ≤ 8) : Wp d 95 7 [l0] (v0 :: st) h Q = Cp d 114 [v0] h (fun o => cK o (fun w h2 => Wp d 95 10 [l0] (w.toList ++ st) h2 Q) (fun _ _ => False)) := (W_invS (st := st) f95_7 rfl rfl (by simp only [List.length_cons]; omega) rfl rfl hp)
theorem f95_10 : fetch 95 10 = some (.ireturn, 1, [], .null) := by decide +kernel
theorem w95_10 : Wp d 95 10 [l0] [.int x] h Q = Q (.inl (some (.int x)), h) := W_iret f95_10 hr95
theorem hm96 : mhs 96 = [] := by decide +kernel
theorem hr96 : mret 96 = (some .boolean) := by decide +kernel
theorem f96_0 : fetch 96 0 = some (.aload_n 0, 1, [], .null) := by decide +kernel
theorem w96_0 : Wp d 96 0 [some (.ref a)] st h Q = Wp d 96 1 [some (.ref a)] (.ref a :: st) h Q := W_go f96_0 rfl
theorem f96_1 : fetch 96 1 = some (.getfield 35, 3, [7, 2, 2154, 0], .null) := by decide +kernel
theorem w96_1 : Wp d 96 1 [l0] (.ref a :: st) h Q = gP (h.2 a) 7 2 (fun w => Wp d 96 4 [l0] (w :: st) h Q) := W_get f96_1 rfl
theorem f96_4 : fetch 96 4 = some (.invokevirtual 179, 3, [54, 1, 7, 0, 3181, 1010, 3184, 3182, 3183], .null) := by decide +kernel
theorem w96_4 (hp : psum st ≤ 8) : Wp d 96 4 [l0] ((.ref b) :: st) h Q = rP (h.2 b) 6 (Cp d 54 [(.ref b)] h (fun o => cK o (fun w h2 => Wp d 96 7 [l0] (w.toList ++ st) h2 Q) (fun E h2 => Q (.inr E, h2)))) := (W_invV (st := st) f96_4 rfl rfl (by simp only [List.length_cons]; omega) rfl rfl hp).trans (by simp only [hm96, if_true])
theorem f96_7 : fetch 96 7 = some (.ireturn, 1, [], .null) := by decide +kernel
theorem w96_7 : Wp d 96 7 [l0] [.int x] h Q = (if narrow .boolean (.int x) = .int x then Q (.inl (some (.int x)), h) else False) := W_zret f96_7 hr96
theorem hm97 : mhs 97 = [] := by decide +kernel
theorem hr97 : mret 97 = (some .int) := by decide +kernel
theorem f97_0 : fetch 97 0 = some (.aload_n 0, 1, [], .null) := by decide +kernel
theorem w97_0 : Wp d 97 0 [some (.ref a)] st h Q = Wp d 97 1 [some (.ref a)] (.ref a :: st) h Q := W_go f97_0 rfl
theorem f97_1 : fetch 97 1 = some (.getfield 35, 3, [7, 2, 2154, 0], .null) := by decide +kernel
theorem w97_1 : Wp d 97 1 [l0] (.ref a :: st) h Q = gP (h.2 a) 7 2 (fun w => Wp d 97 4 [l0] (w :: st) h Q) := W_get f97_1 rfl
theorem f97_4 : fetch 97 4 = some (.getfield 78, 3, [6, 3, 2126, 0], .null) := by decide +kernel
theorem w97_4 : Wp d 97 4 [l0] (.ref a :: st) h Q = gP (h.2 a) 6 3 (fun w => Wp d 97 7 [l0] (w :: st) h Q) := W_get f97_4 rfl
theorem f97_7 : fetch 97 7 = some (.ireturn, 1, [], .null) := by decide +kernel
theorem w97_7 : Wp d 97 7 [l0] [.int x] h Q = Q (.inl (some (.int x)), h) := W_iret f97_7 hr97
theorem hm98 : mhs 98 = [] := by decide +kernel
theorem hr98 : mret 98 = (some .int) := by decide +kernel
theorem f98_0 : fetch 98 0 = some (.aload_n 0, 1, [], .null) := by decide +kernel
theorem w98_0 : Wp d 98 0 [some (.ref a), l1] st h Q = Wp d 98 1 [some (.ref a), l1] (.ref a :: st) h Q := W_go f98_0 rfl
theorem f98_1 : fetch 98 1 = some (.iload_n 1, 1, [], .null) := by decide +kernel
theorem w98_1 : Wp d 98 1 [l0, some (.int x)] st h Q = Wp d 98 2 [l0, some (.int x)] (.int x :: st) h Q := W_go f98_1 rfl
theorem f98_2 : fetch 98 2 = some (.invokevirtual 91, 3, [113, 2, 8, 0, 4105, 1001, 4108, 4107, 21], .null) := by decide +kernel
theorem w98_2 (hp : psum st ≤ 8) : Wp d 98 2 [l0, l1] (v1 :: (.ref b) :: st) h Q = rP (h.2 b) 7 (Cp d 113 [(.ref b), v1] h (fun o => cK o (fun w h2 => Wp d 98 5 [l0, l1] (w.toList ++ st) h2 Q) (fun E h2 => Q (.inr E, h2)))) := (W_invV (st := st) f98_2 rfl rfl (by simp only [List.length_cons]; omega) rfl rfl hp).trans (by simp only [hm98, if_true])
theorem f98_5 : fetch 98 5 = some (.getfield 183, 3, [2, 2, 2078, 0], .null) := by decide +kernel
theorem w98_5 : Wp d 98 5 [l0, l1] (.ref a :: st) h Q = gP (h.2 a) 2 2 (fun w => Wp d 98 8 [l0, l1] (w :: st) h Q) := W_get f98_5 rfl
theorem f98_8 : fetch 98 8 = some (.ireturn, 1, [], .null) := by decide +kernel
theorem w98_8 : Wp d 98 8 [l0, l1] [.int x] h Q = Q (.inl (some (.int x)), h) := W_iret f98_8 hr98
theorem hm99 : mhs 99 = [] := by decide +kernel
theorem hr99 : mret 99 = (some .int) := by decide +kernel
theorem f99_0 : fetch 99 0 = some (.aload_n 0, 1, [], .null) := by decide +kernel
theorem w99_0 : Wp d 99 0 [some (.ref a), l1] st h Q = Wp d 99 1 [some (.ref a), l1] (.ref a :: st) h Q := W_go f99_0 rfl
theorem f99_1 : fetch 99 1 = some (.iload_n 1, 1, [], .null) := by decide +kernel
theorem w99_1 : Wp d 99 1 [l0, some (.int x)] st h Q = Wp d 99 2 [l0, some (.int x)] (.int x :: st) h Q := W_go f99_1 rfl
theorem f99_2 : fetch 99 2 = some (.invokevirtual 91, 3, [113, 2, 8, 0, 4105, 1001, 4108, 4107, 21], .null) := by decide +kernel
theorem w99_2 (hp : psum st ≤ 8) : Wp d 99 2 [l0, l1] (v1 :: (.ref b) :: st) h Q = rP (h.2 b) 7 (Cp d 113 [(.ref b), v1] h (fun o => cK o (fun w h2 => Wp d 99 5 [l0, l1] (w.toList ++ st) h2 Q) (fun E h2 => Q (.inr E, h2)))) := (W_invV (st := st) f99_2 rfl rfl (by simp only [List.length_cons]; omega) rfl rfl hp).trans (by simp only [hm99, if_true])
theorem f99_5 : fetch 99 5 = some (.getfield 186, 3, [2, 1, 2075, 0], .null) := by decide +kernel
theorem w99_5 : Wp d 99 5 [l0, l1] (.ref a :: st) h Q = gP (h.2 a) 2 1 (fun w => Wp d 99 8 [l0, l1] (w :: st) h Q) := W_get f99_5 rfl
theorem f99_8 : fetch 99 8 = some (.ireturn, 1, [], .null) := by decide +kernel
theorem w99_8 : Wp d 99 8 [l0, l1] [.int x] h Q = Q (.inl (some (.int x)), h) := W_iret f99_8 hr99
theorem hm100 : mhs 100 = [] := by decide +kernel
theorem hr100 : mret 100 = (some .boolean) := by decide +kernel
theorem f100_0 : fetch 100 0 = some (.aload_n 0, 1, [], .null) := by decide +kernel
theorem w100_0 : Wp d 100 0 [some (.ref a), l1] st h Q = Wp d 100 1 [some (.ref a), l1] (.ref a :: st) h Q := W_go f100_0 rfl
theorem f100_1 : fetch 100 1 = some (.iload_n 1, 1, [], .null) := by decide +kernel
theorem w100_1 : Wp d 100 1 [l0, some (.int x)] st h Q = Wp d 100 2 [l0, some (.int x)] (.int x :: st) h Q := W_go f100_1 rfl
theorem f100_2 : fetch 100 2 = some (.invokevirtual 91, 3, [113, 2, 8, 0, 4105, 1001, 4108, 4107, 21], .null) := by decide +kernel
theorem w100_2 (hp : psum st ≤ 8) : Wp d 100 2 [l0, l1] (v1 :: (.ref b) :: st) h Q = rP (h.2 b) 7 (Cp d 113 [(.ref b), v1] h (fun o => cK o (fun w h2 => Wp d 100 5 [l0, l1] (w.toList ++ st) h2 Q) (fun E h2 => Q (.inr E, h2)))) := (W_invV (st := st) f100_2 rfl rfl (by simp only [List.length_cons]; omega) rfl rfl hp).trans (by simp only [hm100, if_true])
theorem f100_5 : fetch 100 5 = some (.getfield 103, 3, [2, 3, 2080, 0], .null) := by decide +kernel
theorem w100_5 : Wp d 100 5 [l0, l1] (.ref a :: st) h Q = gP (h.2 a) 2 3 (fun w => Wp d 100 8 [l0, l1] (w :: st) h Q) := W_get f100_5 rfl
theorem f100_8 : fetch 100 8 = some (.iconst (-1), 1, [], .null) := by decide +kernel
theorem w100_8 : Wp d 100 8 [l0, l1] st h Q = Wp d 100 9 [l0, l1] (.int (-1 : Int32) :: st) h Q := W_go f100_8 rfl
theorem f100_9 : fetch 100 9 = some (.if_icmp .eq 7, 3, [], .null) := by decide +kernel
theorem w100_9 : Wp d 100 9 [l0, l1] (.int y :: .int x :: st) h Q = if icond .eq x y = true then Wp d 100 16 [l0, l1] st h Q else Wp d 100 12 [l0, l1] st h Q := W_if f100_9 rfl
theorem f100_12 : fetch 100 12 = some (.iconst 1, 1, [], .null) := by decide +kernel
theorem w100_12 : Wp d 100 12 [l0, l1] st h Q = Wp d 100 13 [l0, l1] (.int (1 : Int32) :: st) h Q := W_go f100_12 rfl
theorem f100_13 : fetch 100 13 = some (.goto 4, 3, [], .null) := by decide +kernel
theorem w100_13 : Wp d 100 13 [l0, l1] st h Q = Wp d 100 17 [l0, l1] st h Q := W_go f100_13 rfl
theorem f100_16 : fetch 100 16 = some (.iconst 0, 1, [], .null) := by decide +kernel
theorem w100_16 : Wp d 100 16 [l0, l1] st h Q = Wp d 100 17 [l0, l1] (.int (0 : Int32) :: st) h Q := W_go f100_16 rfl
theorem f100_17 : fetch 100 17 = some (.ireturn, 1, [], .null) := by decide +kernel
theorem w100_17 : Wp d 100 17 [l0, l1] [.int x] h Q = (if narrow .boolean (.int x) = .int x then Q (.inl (some (.int x)), h) else False) := W_zret f100_17 hr100
theorem hm101 : mhs 101 = [] := by decide +kernel
theorem hr101 : mret 101 = (some .int) := by decide +kernel
theorem f101_0 : fetch 101 0 = some (.aload_n 0, 1, [], .null) := by decide +kernel
theorem w101_0 : Wp d 101 0 [some (.ref a), l1, l2] st h Q = Wp d 101 1 [some (.ref a), l1, l2] (.ref a :: st) h Q := W_go f101_0 rfl
theorem f101_1 : fetch 101 1 = some (.iload_n 1, 1, [], .null) := by decide +kernel
theorem w101_1 : Wp d 101 1 [l0, some (.int x), l2] st h Q = Wp d 101 2 [l0, some (.int x), l2] (.int x :: st) h Q := W_go f101_1 rfl
theorem f101_2 : fetch 101 2 = some (.invokevirtual 91, 3, [113, 2, 8, 0, 4105, 1001, 4108, 4107, 21], .null) := by decide +kernel
theorem w101_2 (hp : psum st ≤ 8) : Wp d 101 2 [l0, l1, l2] (v1 :: (.ref b) :: st) h Q = rP (h.2 b) 7 (Cp d 113 [(.ref b), v1] h (fun o => cK o (fun w h2 => Wp d 101 5 [l0, l1, l2] (w.toList ++ st) h2 Q) (fun E h2 => Q (.inr E, h2)))) := (W_invV (st := st) f101_2 rfl rfl (by simp only [List.length_cons]; omega) rfl rfl hp).trans (by simp only [hm101, if_true])
theorem f101_5 : fetch 101 5 = some (.getfield 103, 3, [2, 3, 2080, 0], .null) := by decide +kernel
theorem w101_5 : Wp d 101 5 [l0, l1, l2] (.ref a :: st) h Q = gP (h.2 a) 2 3 (fun w => Wp d 101 8 [l0, l1, l2] (w :: st) h Q) := W_get f101_5 rfl
theorem f101_8 : fetch 101 8 = some (.istore_n 2, 1, [], .null) := by decide +kernel
theorem w101_8 : Wp d 101 8 [l0, l1, l2] (.int x :: st) h Q = Wp d 101 9 [l0, kl l1, some (.int x)] st h Q := (W_st1 (pc' := 9) (k := 2) f101_8 rfl rfl (by simp only [List.length_cons, List.length_nil]; omega)).trans (by rw [pst1_succ]; rfl)
theorem f101_9 : fetch 101 9 = some (.iload_n 2, 1, [], .null) := by decide +kernel
theorem w101_9 : Wp d 101 9 [l0, l1, some (.int x)] st h Q = Wp d 101 10 [l0, l1, some (.int x)] (.int x :: st) h Q := W_go f101_9 rfl
theorem f101_10 : fetch 101 10 = some (.iconst (-1), 1, [], .null) := by decide +kernel
theorem w101_10 : Wp d 101 10 [l0, l1, l2] st h Q = Wp d 101 11 [l0, l1, l2] (.int (-1 : Int32) :: st) h Q := W_go f101_10 rfl
theorem f101_11 : fetch 101 11 = some (.if_icmp .ne 13, 3, [], .null) := by decide +kernel
theorem w101_11 : Wp d 101 11 [l0, l1, l2] (.int y :: .int x :: st) h Q = if icond .ne x y = true then Wp d 101 24 [l0, l1, l2] st h Q else Wp d 101 14 [l0, l1, l2] st h Q := W_if f101_11 rfl
theorem f101_14 : fetch 101 14 = some (.new 49, 3, [100, 3232, 1019], .null) := by decide +kernel
theorem w101_14 (hp : psum st ≤ 8) : Wp d 101 14 [l0, l1, l2] st h Q = Q (.inr "java/lang/IllegalStateException", hthr h) := W_fin f101_14 (by simp only [pstep, pnewo, List.getD_cons_zero, if_pos hp]; rfl)
theorem f101_17 : fetch 101 17 = some (.dup, 1, [], .null) := by decide +kernel
theorem w101_17i : Wp d 101 17 [l0, l1, l2] (.int x :: st) h Q = Wp d 101 18 [l0, l1, l2] (.int x :: .int x :: st) h Q := W_go f101_17 rfl
theorem w101_17 : Wp d 101 17 [l0, l1, l2] (.ref a :: st) h Q = Wp d 101 18 [l0, l1, l2] (.ref a :: .ref a :: st) h Q := W_go f101_17 rfl
theorem f101_18 : fetch 101 18 = some (.ldc 189, 2, [5094], .ref 13) := by decide +kernel
theorem w101_18 : Wp d 101 18 [l0, l1, l2] st h Q = Wp d 101 20 [l0, l1, l2] ((.ref 13) :: st) h Q := W_go f101_18 rfl
theorem f101_20 : fetch 101 20 = some (.invokespecial 53, 3, [8888, 4034], .null) := by decide +kernel
theorem f101_23 : fetch 101 23 = some (.athrow, 1, [], .null) := by decide +kernel
theorem f101_24 : fetch 101 24 = some (.iload_n 2, 1, [], .null) := by decide +kernel
theorem w101_24 : Wp d 101 24 [l0, l1, some (.int x)] st h Q = Wp d 101 25 [l0, l1, some (.int x)] (.int x :: st) h Q := W_go f101_24 rfl
theorem f101_25 : fetch 101 25 = some (.ireturn, 1, [], .null) := by decide +kernel
theorem w101_25 : Wp d 101 25 [l0, l1, l2] [.int x] h Q = Q (.inl (some (.int x)), h) := W_iret f101_25 hr101
theorem hm102 : mhs 102 = [] := by decide +kernel
theorem hr102 : mret 102 = (some .boolean) := by decide +kernel
theorem f102_0 : fetch 102 0 = some (.aload_n 0, 1, [], .null) := by decide +kernel
theorem w102_0 : Wp d 102 0 [some (.ref a), l1] st h Q = Wp d 102 1 [some (.ref a), l1] (.ref a :: st) h Q := W_go f102_0 rfl
theorem f102_1 : fetch 102 1 = some (.iload_n 1, 1, [], .null) := by decide +kernel
theorem w102_1 : Wp d 102 1 [l0, some (.int x)] st h Q = Wp d 102 2 [l0, some (.int x)] (.int x :: st) h Q := W_go f102_1 rfl
theorem f102_2 : fetch 102 2 = some (.invokevirtual 91, 3, [113, 2, 8, 0, 4105, 1001, 4108, 4107, 21], .null) := by decide +kernel
theorem w102_2 (hp : psum st ≤ 8) : Wp d 102 2 [l0, l1] (v1 :: (.ref b) :: st) h Q = rP (h.2 b) 7 (Cp d 113 [(.ref b), v1] h (fun o => cK o (fun w h2 => Wp d 102 5 [l0, l1] (w.toList ++ st) h2 Q) (fun E h2 => Q (.inr E, h2)))) := (W_invV (st := st) f102_2 rfl rfl (by simp only [List.length_cons]; omega) rfl rfl hp).trans (by simp only [hm102, if_true])
theorem f102_5 : fetch 102 5 = some (.invokevirtual 191, 3, [13, 1, 3, 0, 5102, 1012, 3218, 3216, 3217], .null) := by decide +kernel
theorem w102_5 (hp : psum st ≤ 8) : Wp d 102 5 [l0, l1] ((.ref b) :: st) h Q = rP (h.2 b) 2 (Cp d 13 [(.ref b)] h (fun o => cK o (fun w h2 => Wp d 102 8 [l0, l1] (w.toList ++ st) h2 Q) (fun E h2 => Q (.inr E, h2)))) := (W_invV (st := st) f102_5 rfl rfl (by simp only [List.length_cons]; omega) rfl rfl hp).trans (by simp only [hm102, if_true])
theorem f102_8 : fetch 102 8 = some (.ireturn, 1, [], .null) := by decide +kernel
theorem w102_8 : Wp d 102 8 [l0, l1] [.int x] h Q = (if narrow .boolean (.int x) = .int x then Q (.inl (some (.int x)), h) else False) := W_zret f102_8 hr102
theorem hm103 : mhs 103 = [] := by decide +kernel
theorem hr103 : mret 103 = (some .int) := by decide +kernel
theorem f103_0 : fetch 103 0 = some (.aload_n 0, 1, [], .null) := by decide +kernel
theorem w103_0 : Wp d 103 0 [some (.ref a), l1] st h Q = Wp d 103 1 [some (.ref a), l1] (.ref a :: st) h Q := W_go f103_0 rfl
theorem f103_1 : fetch 103 1 = some (.iload_n 1, 1, [], .null) := by decide +kernel
theorem w103_1 : Wp d 103 1 [l0, some (.int x)] st h Q = Wp d 103 2 [l0, some (.int x)] (.int x :: st) h Q := W_go f103_1 rfl
theorem f103_2 : fetch 103 2 = some (.invokevirtual 91, 3, [113, 2, 8, 0, 4105, 1001, 4108, 4107, 21], .null) := by decide +kernel
theorem w103_2 (hp : psum st ≤ 8) : Wp d 103 2 [l0, l1] (v1 :: (.ref b) :: st) h Q = rP (h.2 b) 7 (Cp d 113 [(.ref b), v1] h (fun o => cK o (fun w h2 => Wp d 103 5 [l0, l1] (w.toList ++ st) h2 Q) (fun E h2 => Q (.inr E, h2)))) := (W_invV (st := st) f103_2 rfl rfl (by simp only [List.length_cons]; omega) rfl rfl hp).trans (by simp only [hm103, if_true])
theorem f103_5 : fetch 103 5 = some (.getfield 194, 3, [2, 5, 2086, 0], .null) := by decide +kernel
theorem w103_5 : Wp d 103 5 [l0, l1] (.ref a :: st) h Q = gP (h.2 a) 2 5 (fun w => Wp d 103 8 [l0, l1] (w :: st) h Q) := W_get f103_5 rfl
theorem f103_8 : fetch 103 8 = some (.ireturn, 1, [], .null) := by decide +kernel
theorem w103_8 : Wp d 103 8 [l0, l1] [.int x] h Q = Q (.inl (some (.int x)), h) := W_iret f103_8 hr103
theorem hm104 : mhs 104 = [] := by decide +kernel
theorem hr104 : mret 104 = (some .int) := by decide +kernel
theorem f104_0 : fetch 104 0 = some (.aload_n 0, 1, [], .null) := by decide +kernel
theorem w104_0 : Wp d 104 0 [some (.ref a), l1] st h Q = Wp d 104 1 [some (.ref a), l1] (.ref a :: st) h Q := W_go f104_0 rfl
theorem f104_1 : fetch 104 1 = some (.iload_n 1, 1, [], .null) := by decide +kernel
theorem w104_1 : Wp d 104 1 [l0, some (.int x)] st h Q = Wp d 104 2 [l0, some (.int x)] (.int x :: st) h Q := W_go f104_1 rfl
theorem f104_2 : fetch 104 2 = some (.invokevirtual 91, 3, [113, 2, 8, 0, 4105, 1001, 4108, 4107, 21], .null) := by decide +kernel
theorem w104_2 (hp : psum st ≤ 8) : Wp d 104 2 [l0, l1] (v1 :: (.ref b) :: st) h Q = rP (h.2 b) 7 (Cp d 113 [(.ref b), v1] h (fun o => cK o (fun w h2 => Wp d 104 5 [l0, l1] (w.toList ++ st) h2 Q) (fun E h2 => Q (.inr E, h2)))) := (W_invV (st := st) f104_2 rfl rfl (by simp only [List.length_cons]; omega) rfl rfl hp).trans (by simp only [hm104, if_true])
theorem f104_5 : fetch 104 5 = some (.getfield 197, 3, [2, 6, 2088, 0], .null) := by decide +kernel
theorem w104_5 : Wp d 104 5 [l0, l1] (.ref a :: st) h Q = gP (h.2 a) 2 6 (fun w => Wp d 104 8 [l0, l1] (w :: st) h Q) := W_get f104_5 rfl
theorem f104_8 : fetch 104 8 = some (.ireturn, 1, [], .null) := by decide +kernel
theorem w104_8 : Wp d 104 8 [l0, l1] [.int x] h Q = Q (.inl (some (.int x)), h) := W_iret f104_8 hr104
theorem hm105 : mhs 105 = [] := by decide +kernel
theorem hr105 : mret 105 = (some .int) := by decide +kernel
theorem f105_0 : fetch 105 0 = some (.aload_n 0, 1, [], .null) := by decide +kernel
theorem w105_0 : Wp d 105 0 [some (.ref a), l1, l2, l3] st h Q = Wp d 105 1 [some (.ref a), l1, l2, l3] (.ref a :: st) h Q := W_go f105_0 rfl
theorem f105_1 : fetch 105 1 = some (.iload_n 1, 1, [], .null) := by decide +kernel
theorem w105_1 : Wp d 105 1 [l0, some (.int x), l2, l3] st h Q = Wp d 105 2 [l0, some (.int x), l2, l3] (.int x :: st) h Q := W_go f105_1 rfl
theorem f105_2 : fetch 105 2 = some (.invokevirtual 91, 3, [113, 2, 8, 0, 4105, 1001, 4108, 4107, 21], .null) := by decide +kernel
theorem w105_2 (hp : psum st ≤ 8) : Wp d 105 2 [l0, l1, l2, l3] (v1 :: (.ref b) :: st) h Q = rP (h.2 b) 7 (Cp d 113 [(.ref b), v1] h (fun o => cK o (fun w h2 => Wp d 105 5 [l0, l1, l2, l3] (w.toList ++ st) h2 Q) (fun E h2 => Q (.inr E, h2)))) := (W_invV (st := st) f105_2 rfl rfl (by simp only [List.length_cons]; omega) rfl rfl hp).trans (by simp only [hm105, if_true])
theorem f105_5 : fetch 105 5 = some (.astore_n 3, 1, [], .null) := by decide +kernel
theorem w105_5 : Wp d 105 5 [l0, l1, l2, l3] (.ref a :: st) h Q = Wp d 105 6 [l0, l1, kl l2, some (.ref a)] st h Q := (W_st1 (pc' := 6) (k := 3) f105_5 rfl rfl (by simp only [List.length_cons, List.length_nil]; omega)).trans (by rw [pst1_succ]; rfl)
theorem f105_6 : fetch 105 6 = some (.iload_n 2, 1, [], .null) := by decide +kernel
theorem w105_6 : Wp d 105 6 [l0, l1, some (.int x), l3] st h Q = Wp d 105 7 [l0, l1, some (.int x), l3] (.int x :: st) h Q := W_go f105_6 rfl
theorem f105_7 : fetch 105 7 = some (.ifCond .lt 17, 3, [], .null) := by decide +kernel
theorem w105_7 : Wp d 105 7 [l0, l1, l2, l3] (.int x :: st) h Q = if icond .lt x 0 = true then Wp d 105 24 [l0, l1, l2, l3] st h Q else Wp d 105 10 [l0, l1, l2, l3] st h Q := W_if f105_7 rfl
theorem f105_10 : fetch 105 10 = some (.iload_n 2, 1, [], .null) := by decide +kernel
theorem w105_10 : Wp d 105 10 [l0, l1, some (.int x), l3] st h Q = Wp d 105 11 [l0, l1, some (.int x), l3] (.int x :: st) h Q := W_go f105_10 rfl
theorem f105_11 : fetch 105 11 = some (.bipush 20, 2, [], .null) := by decide +kernel
theorem w105_11 : Wp d 105 11 [l0, l1, l2, l3] st h Q = Wp d 105 13 [l0, l1, l2, l3] (.int (20 : Int32) :: st) h Q := W_go f105_11 rfl
theorem f105_13 : fetch 105 13 = some (.if_icmp .ge 11, 3, [], .null) := by decide +kernel
theorem w105_13 : Wp d 105 13 [l0, l1, l2, l3] (.int y :: .int x :: st) h Q = if icond .ge x y = true then Wp d 105 24 [l0, l1, l2, l3] st h Q else Wp d 105 16 [l0, l1, l2, l3] st h Q := W_if f105_13 rfl
theorem f105_16 : fetch 105 16 = some (.iload_n 2, 1, [], .null) := by decide +kernel
theorem w105_16 : Wp d 105 16 [l0, l1, some (.int x), l3] st h Q = Wp d 105 17 [l0, l1, some (.int x), l3] (.int x :: st) h Q := W_go f105_16 rfl
theorem f105_17 : fetch 105 17 = some (.aload_n 3, 1, [], .null) := by decide +kernel
theorem w105_17 : Wp d 105 17 [l0, l1, l2, some (.ref a)] st h Q = Wp d 105 18 [l0, l1, l2, some (.ref a)] (.ref a :: st) h Q := W_go f105_17 rfl
theorem f105_18 : fetch 105 18 = some (.getfield 197, 3, [2, 6, 2088, 0], .null) := by decide +kernel
theorem w105_18 : Wp d 105 18 [l0, l1, l2, l3] (.ref a :: st) h Q = gP (h.2 a) 2 6 (fun w => Wp d 105 21 [l0, l1, l2, l3] (w :: st) h Q) := W_get f105_18 rfl
theorem f105_21 : fetch 105 21 = some (.if_icmp .lt 13, 3, [], .null) := by decide +kernel
theorem w105_21 : Wp d 105 21 [l0, l1, l2, l3] (.int y :: .int x :: st) h Q = if icond .lt x y = true then Wp d 105 34 [l0, l1, l2, l3] st h Q else Wp d 105 24 [l0, l1, l2, l3] st h Q := W_if f105_21 rfl
theorem f105_24 : fetch 105 24 = some (.new 98, 3, [102, 4109, 1023], .null) := by decide +kernel
theorem w105_24 (hp : psum st ≤ 8) : Wp d 105 24 [l0, l1, l2, l3] st h Q = Q (.inr "java/lang/IndexOutOfBoundsException", hthr h) := W_fin f105_24 (by simp only [pstep, pnewo, List.getD_cons_zero, if_pos hp]; rfl)
theorem f105_27 : fetch 105 27 = some (.dup, 1, [], .null) := by decide +kernel
theorem w105_27i : Wp d 105 27 [l0, l1, l2, l3] (.int x :: st) h Q = Wp d 105 28 [l0, l1, l2, l3] (.int x :: .int x :: st) h Q := W_go f105_27 rfl
theorem w105_27 : Wp d 105 27 [l0, l1, l2, l3] (.ref a :: st) h Q = Wp d 105 28 [l0, l1, l2, l3] (.ref a :: .ref a :: st) h Q := W_go f105_27 rfl
theorem f105_28 : fetch 105 28 = some (.ldc 200, 2, [5124], .ref 14) := by decide +kernel
theorem w105_28 : Wp d 105 28 [l0, l1, l2, l3] st h Q = Wp d 105 30 [l0, l1, l2, l3] ((.ref 14) :: st) h Q := W_go f105_28 rfl
theorem f105_30 : fetch 105 30 = some (.invokespecial 102, 3, [8888, 4119], .null) := by decide +kernel
theorem f105_33 : fetch 105 33 = some (.athrow, 1, [], .null) := by decide +kernel
theorem f105_34 : fetch 105 34 = some (.aload_n 3, 1, [], .null) := by decide +kernel
theorem w105_34 : Wp d 105 34 [l0, l1, l2, some (.ref a)] st h Q = Wp d 105 35 [l0, l1, l2, some (.ref a)] (.ref a :: st) h Q := W_go f105_34 rfl
theorem f105_35 : fetch 105 35 = some (.iload_n 2, 1, [], .null) := by decide +kernel
theorem w105_35 : Wp d 105 35 [l0, l1, some (.int x), l3] st h Q = Wp d 105 36 [l0, l1, some (.int x), l3] (.int x :: st) h Q := W_go f105_35 rfl
theorem f105_36 : fetch 105 36 = some (.invokevirtual 202, 3, [17, 2, 3, 0, 5125, 1012, 3222, 3220, 3221], .null) := by decide +kernel
theorem w105_36 (hp : psum st ≤ 8) : Wp d 105 36 [l0, l1, l2, l3] (v1 :: (.ref b) :: st) h Q = rP (h.2 b) 2 (Cp d 17 [(.ref b), v1] h (fun o => cK o (fun w h2 => Wp d 105 39 [l0, l1, l2, l3] (w.toList ++ st) h2 Q) (fun E h2 => Q (.inr E, h2)))) := (W_invV (st := st) f105_36 rfl rfl (by simp only [List.length_cons]; omega) rfl rfl hp).trans (by simp only [hm105, if_true])
theorem f105_39 : fetch 105 39 = some (.ireturn, 1, [], .null) := by decide +kernel
theorem w105_39 : Wp d 105 39 [l0, l1, l2, l3] [.int x] h Q = Q (.inl (some (.int x)), h) := W_iret f105_39 hr105
theorem hm106 : mhs 106 = [] := by decide +kernel
theorem hr106 : mret 106 = (some .int) := by decide +kernel
theorem f106_0 : fetch 106 0 = some (.aload_n 0, 1, [], .null) := by decide +kernel
theorem w106_0 : Wp d 106 0 [some (.ref a), l1, l2] st h Q = Wp d 106 1 [some (.ref a), l1, l2] (.ref a :: st) h Q := W_go f106_0 rfl
theorem f106_1 : fetch 106 1 = some (.iload_n 1, 1, [], .null) := by decide +kernel
theorem w106_1 : Wp d 106 1 [l0, some (.int x), l2] st h Q = Wp d 106 2 [l0, some (.int x), l2] (.int x :: st) h Q := W_go f106_1 rfl
theorem f106_2 : fetch 106 2 = some (.invokevirtual 114, 3, [112, 2, 8, 0, 4142, 1001, 4145, 4144, 22], .null) := by decide +kernel
theorem w106_2 (hp : psum st ≤ 8) : Wp d 106 2 [l0, l1, l2] (v1 :: (.ref b) :: st) h Q = rP (h.2 b) 7 (Cp d 112 [(.ref b), v1] h (fun o => cK o (fun w h2 => Wp d 106 5 [l0, l1, l2] (w.toList ++ st) h2 Q) (fun E h2 => Q (.inr E, h2)))) := (W_invV (st := st) f106_2 rfl rfl (by simp only [List.length_cons]; omega) rfl rfl hp).trans (by simp only [hm106, if_true])
theorem f106_5 : fetch 106 5 = some (.getfield 123, 3, [1, 6, 2050, 0], .null) := by decide +kernel
theorem w106_5 : Wp d 106 5 [l0, l1, l2] (.ref a :: st) h Q = gP (h.2 a) 1 6 (fun w => Wp d 106 8 [l0, l1, l2] (w :: st) h Q) := W_get f106_5 rfl
theorem f106_8 : fetch 106 8 = some (.ifCond .eq 5, 3, [], .null) := by decide +kernel
theorem w106_8 : Wp d 106 8 [l0, l1, l2] (.int x :: st) h Q = if icond .eq x 0 = true then Wp d 106 13 [l0, l1, l2] st h Q else Wp d 106 11 [l0, l1, l2] st h Q := W_if f106_8 rfl
theorem f106_11 : fetch 106 11 = some (.iconst 0, 1, [], .null) := by decide +kernel
theorem w106_11 : Wp d 106 11 [l0, l1, l2] st h Q = Wp d 106 12 [l0, l1, l2] (.int (0 : Int32) :: st) h Q := W_go f106_11 rfl
theorem f106_12 : fetch 106 12 = some (.ireturn, 1, [], .null) := by decide +kernel
theorem w106_12 : Wp d 106 12 [l0, l1, l2] [.int x] h Q = Q (.inl (some (.int x)), h) := W_iret f106_12 hr106
theorem f106_13 : fetch 106 13 = some (.aload_n 0, 1, [], .null) := by decide +kernel
theorem w106_13 : Wp d 106 13 [some (.ref a), l1, l2] st h Q = Wp d 106 14 [some (.ref a), l1, l2] (.ref a :: st) h Q := W_go f106_13 rfl
theorem f106_14 : fetch 106 14 = some (.getfield 39, 3, [7, 3, 2155, 0], .null) := by decide +kernel
theorem w106_14 : Wp d 106 14 [l0, l1, l2] (.ref a :: st) h Q = gP (h.2 a) 7 3 (fun w => Wp d 106 17 [l0, l1, l2] (w :: st) h Q) := W_get f106_14 rfl
theorem f106_17 : fetch 106 17 = some (.aload_n 0, 1, [], .null) := by decide +kernel
theorem w106_17 : Wp d 106 17 [some (.ref a), l1, l2] st h Q = Wp d 106 18 [some (.ref a), l1, l2] (.ref a :: st) h Q := W_go f106_17 rfl
theorem f106_18 : fetch 106 18 = some (.getfield 35, 3, [7, 2, 2154, 0], .null) := by decide +kernel
theorem w106_18 : Wp d 106 18 [l0, l1, l2] (.ref a :: st) h Q = gP (h.2 a) 7 2 (fun w => Wp d 106 21 [l0, l1, l2] (w :: st) h Q) := W_get f106_18 rfl
theorem f106_21 : fetch 106 21 = some (.invokevirtual 205, 3, [53, 2, 7, 0, 5133, 1010, 5136, 5134, 5135], .null) := by decide +kernel
theorem w106_21 (hp : psum st ≤ 8) : Wp d 106 21 [l0, l1, l2] (v1 :: (.ref b) :: st) h Q = rP (h.2 b) 6 (Cp d 53 [(.ref b), v1] h (fun o => cK o (fun w h2 => Wp d 106 24 [l0, l1, l2] (w.toList ++ st) h2 Q) (fun E h2 => Q (.inr E, h2)))) := (W_invV (st := st) f106_21 rfl rfl (by simp only [List.length_cons]; omega) rfl rfl hp).trans (by simp only [hm106, if_true])
theorem f106_24 : fetch 106 24 = some (.iconst 1, 1, [], .null) := by decide +kernel
theorem w106_24 : Wp d 106 24 [l0, l1, l2] st h Q = Wp d 106 25 [l0, l1, l2] (.int (1 : Int32) :: st) h Q := W_go f106_24 rfl
theorem f106_25 : fetch 106 25 = some (.istore_n 2, 1, [], .null) := by decide +kernel
theorem w106_25 : Wp d 106 25 [l0, l1, l2] (.int x :: st) h Q = Wp d 106 26 [l0, kl l1, some (.int x)] st h Q := (W_st1 (pc' := 26) (k := 2) f106_25 rfl rfl (by simp only [List.length_cons, List.length_nil]; omega)).trans (by rw [pst1_succ]; rfl)
theorem f106_26 : fetch 106 26 = some (.iload_n 2, 1, [], .null) := by decide +kernel
theorem w106_26 : Wp d 106 26 [l0, l1, some (.int x)] st h Q = Wp d 106 27 [l0, l1, some (.int x)] (.int x :: st) h Q := W_go f106_26 rfl
theorem f106_27 : fetch 106 27 = some (.bipush 80, 2, [], .null) := by decide +kernel
theorem w106_27 : Wp d 106 27 [l0, l1, l2] st h Q = Wp d 106 29 [l0, l1, l2] (.int (80 : Int32) :: st) h Q := W_go f106_27 rfl
theorem f106_29 : fetch 106 29 = some (.if_icmp .gt 51, 3, [], .null) := by decide +kernel
theorem w106_29 : Wp d 106 29 [l0, l1, l2] (.int y :: .int x :: st) h Q = if icond .gt x y = true then Wp d 106 80 [l0, l1, l2] st h Q else Wp d 106 32 [l0, l1, l2] st h Q := W_if f106_29 rfl
theorem f106_32 : fetch 106 32 = some (.aload_n 0, 1, [], .null) := by decide +kernel
theorem w106_32 : Wp d 106 32 [some (.ref a), l1, l2] st h Q = Wp d 106 33 [some (.ref a), l1, l2] (.ref a :: st) h Q := W_go f106_32 rfl
theorem f106_33 : fetch 106 33 = some (.getfield 39, 3, [7, 3, 2155, 0], .null) := by decide +kernel
theorem w106_33 : Wp d 106 33 [l0, l1, l2] (.ref a :: st) h Q = gP (h.2 a) 7 3 (fun w => Wp d 106 36 [l0, l1, l2] (w :: st) h Q) := W_get f106_33 rfl
theorem f106_36 : fetch 106 36 = some (.iconst 1, 1, [], .null) := by decide +kernel
theorem w106_36 : Wp d 106 36 [l0, l1, l2] st h Q = Wp d 106 37 [l0, l1, l2] (.int (1 : Int32) :: st) h Q := W_go f106_36 rfl
theorem f106_37 : fetch 106 37 = some (.invokevirtual 145, 3, [55, 2, 7, 0, 4182, 1010, 4185, 4183, 4184], .null) := by decide +kernel
theorem w106_37 (hp : psum st ≤ 8) : Wp d 106 37 [l0, l1, l2] (v1 :: (.ref b) :: st) h Q = rP (h.2 b) 6 (Cp d 55 [(.ref b), v1] h (fun o => cK o (fun w h2 => Wp d 106 40 [l0, l1, l2] (w.toList ++ st) h2 Q) (fun E h2 => Q (.inr E, h2)))) := (W_invV (st := st) f106_37 rfl rfl (by simp only [List.length_cons]; omega) rfl rfl hp).trans (by simp only [hm106, if_true])
theorem f106_40 : fetch 106 40 = some (.pop, 1, [], .null) := by decide +kernel
theorem w106_40i : Wp d 106 40 [l0, l1, l2] (.int x :: st) h Q = Wp d 106 41 [l0, l1, l2] st h Q := W_go f106_40 rfl
theorem w106_40 : Wp d 106 40 [l0, l1, l2] (.ref a :: st) h Q = Wp d 106 41 [l0, l1, l2] st h Q := W_go f106_40 rfl
theorem f106_41 : fetch 106 41 = some (.iload_n 1, 1, [], .null) := by decide +kernel
theorem w106_41 : Wp d 106 41 [l0, some (.int x), l2] st h Q = Wp d 106 42 [l0, some (.int x), l2] (.int x :: st) h Q := W_go f106_41 rfl
theorem f106_42 : fetch 106 42 = some (.ifCond .lt 32, 3, [], .null) := by decide +kernel
theorem w106_42 : Wp d 106 42 [l0, l1, l2] (.int x :: st) h Q = if icond .lt x 0 = true then Wp d 106 74 [l0, l1, l2] st h Q else Wp d 106 45 [l0, l1, l2] st h Q := W_if f106_42 rfl
theorem f106_45 : fetch 106 45 = some (.iload_n 1, 1, [], .null) := by decide +kernel
theorem w106_45 : Wp d 106 45 [l0, some (.int x), l2] st h Q = Wp d 106 46 [l0, some (.int x), l2] (.int x :: st) h Q := W_go f106_45 rfl
theorem f106_46 : fetch 106 46 = some (.aload_n 0, 1, [], .null) := by decide +kernel
theorem w106_46 : Wp d 106 46 [some (.ref a), l1, l2] st h Q = Wp d 106 47 [some (.ref a), l1, l2] (.ref a :: st) h Q := W_go f106_46 rfl
theorem f106_47 : fetch 106 47 = some (.getfield 39, 3, [7, 3, 2155, 0], .null) := by decide +kernel
theorem w106_47 : Wp d 106 47 [l0, l1, l2] (.ref a :: st) h Q = gP (h.2 a) 7 3 (fun w => Wp d 106 50 [l0, l1, l2] (w :: st) h Q) := W_get f106_47 rfl
theorem f106_50 : fetch 106 50 = some (.getfield 163, 3, [6, 1, 2122, 0], .null) := by decide +kernel
theorem w106_50 : Wp d 106 50 [l0, l1, l2] (.ref a :: st) h Q = gP (h.2 a) 6 1 (fun w => Wp d 106 53 [l0, l1, l2] (w :: st) h Q) := W_get f106_50 rfl
theorem f106_53 : fetch 106 53 = some (.arraylength, 1, [], .null) := by decide +kernel
theorem w106_53 : Wp d 106 53 [l0, l1, l2] (.ref a :: st) h Q = nP (h.2 a) (fun w => Wp d 106 54 [l0, l1, l2] (.int w :: st) h Q) := W_len f106_53 rfl
theorem f106_54 : fetch 106 54 = some (.if_icmp .ge 20, 3, [], .null) := by decide +kernel
theorem w106_54 : Wp d 106 54 [l0, l1, l2] (.int y :: .int x :: st) h Q = if icond .ge x y = true then Wp d 106 74 [l0, l1, l2] st h Q else Wp d 106 57 [l0, l1, l2] st h Q := W_if f106_54 rfl
theorem f106_57 : fetch 106 57 = some (.aload_n 0, 1, [], .null) := by decide +kernel
theorem w106_57 : Wp d 106 57 [some (.ref a), l1, l2] st h Q = Wp d 106 58 [some (.ref a), l1, l2] (.ref a :: st) h Q := W_go f106_57 rfl
theorem f106_58 : fetch 106 58 = some (.getfield 39, 3, [7, 3, 2155, 0], .null) := by decide +kernel
theorem w106_58 : Wp d 106 58 [l0, l1, l2] (.ref a :: st) h Q = gP (h.2 a) 7 3 (fun w => Wp d 106 61 [l0, l1, l2] (w :: st) h Q) := W_get f106_58 rfl
theorem f106_61 : fetch 106 61 = some (.getfield 163, 3, [6, 1, 2122, 0], .null) := by decide +kernel
theorem w106_61 : Wp d 106 61 [l0, l1, l2] (.ref a :: st) h Q = gP (h.2 a) 6 1 (fun w => Wp d 106 64 [l0, l1, l2] (w :: st) h Q) := W_get f106_61 rfl
theorem f106_64 : fetch 106 64 = some (.iload_n 1, 1, [], .null) := by decide +kernel
theorem w106_64 : Wp d 106 64 [l0, some (.int x), l2] st h Q = Wp d 106 65 [l0, some (.int x), l2] (.int x :: st) h Q := W_go f106_64 rfl
theorem f106_65 : fetch 106 65 = some (.aaload, 1, [], .null) := by decide +kernel
theorem w106_65 : Wp d 106 65 [l0, l1, l2] (.int x :: .ref a :: st) h Q = qP (h.2 a) x (fun w => Wp d 106 66 [l0, l1, l2] (w :: st) h Q) := W_qld f106_65 rfl
theorem f106_66 : fetch 106 66 = some (.getfield 123, 3, [1, 6, 2050, 0], .null) := by decide +kernel
theorem w106_66 : Wp d 106 66 [l0, l1, l2] (.ref a :: st) h Q = gP (h.2 a) 1 6 (fun w => Wp d 106 69 [l0, l1, l2] (w :: st) h Q) := W_get f106_66 rfl
theorem f106_69 : fetch 106 69 = some (.ifCond .eq 5, 3, [], .null) := by decide +kernel
theorem w106_69 : Wp d 106 69 [l0, l1, l2] (.int x :: st) h Q = if icond .eq x 0 = true then Wp d 106 74 [l0, l1, l2] st h Q else Wp d 106 72 [l0, l1, l2] st h Q := W_if f106_69 rfl
theorem f106_72 : fetch 106 72 = some (.iload_n 2, 1, [], .null) := by decide +kernel
theorem w106_72 : Wp d 106 72 [l0, l1, some (.int x)] st h Q = Wp d 106 73 [l0, l1, some (.int x)] (.int x :: st) h Q := W_go f106_72 rfl
theorem f106_73 : fetch 106 73 = some (.ireturn, 1, [], .null) := by decide +kernel
theorem w106_73 : Wp d 106 73 [l0, l1, l2] [.int x] h Q = Q (.inl (some (.int x)), h) := W_iret f106_73 hr106
theorem f106_74 : fetch 106 74 = some (.iinc 2 1, 3, [], .null) := by decide +kernel
theorem w106_74 : Wp d 106 74 [l0, l1, some (.int x)] st h Q = Wp d 106 77 [l0, kl l1, some (.int (x + (1 : Int32)))] st h Q := (W_iinc (y := (1 : Int32)) f106_74 rfl (by simp only [List.length_cons, List.length_nil]; omega) (by decide)).trans (by rw [pst1_succ]; rfl)
theorem f106_77 : fetch 106 77 = some (.goto (-51), 3, [], .null) := by decide +kernel
theorem w106_77 : Wp d 106 77 [l0, l1, l2] st h Q = Wp d 106 26 [l0, l1, l2] st h Q := W_go f106_77 rfl
theorem f106_80 : fetch 106 80 = some (.iconst (-1), 1, [], .null) := by decide +kernel
theorem w106_80 : Wp d 106 80 [l0, l1, l2] st h Q = Wp d 106 81 [l0, l1, l2] (.int (-1 : Int32) :: st) h Q := W_go f106_80 rfl
theorem f106_81 : fetch 106 81 = some (.ireturn, 1, [], .null) := by decide +kernel
theorem w106_81 : Wp d 106 81 [l0, l1, l2] [.int x] h Q = Q (.inl (some (.int x)), h) := W_iret f106_81 hr106
theorem hm107 : mhs 107 = [] := by decide +kernel
theorem hr107 : mret 107 = (some .int) := by decide +kernel
theorem f107_0 : fetch 107 0 = some (.iload_n 1, 1, [], .null) := by decide +kernel
theorem w107_0 : Wp d 107 0 [l0, some (.int x)] st h Q = Wp d 107 1 [l0, some (.int x)] (.int x :: st) h Q := W_go f107_0 rfl
theorem f107_1 : fetch 107 1 = some (.iconst 1, 1, [], .null) := by decide +kernel
theorem w107_1 : Wp d 107 1 [l0, l1] st h Q = Wp d 107 2 [l0, l1] (.int (1 : Int32) :: st) h Q := W_go f107_1 rfl
theorem f107_2 : fetch 107 2 = some (.if_icmp .lt 9, 3, [], .null) := by decide +kernel
theorem w107_2 : Wp d 107 2 [l0, l1] (.int y :: .int x :: st) h Q = if icond .lt x y = true then Wp d 107 11 [l0, l1] st h Q else Wp d 107 5 [l0, l1] st h Q := W_if f107_2 rfl
theorem f107_5 : fetch 107 5 = some (.iload_n 1, 1, [], .null) := by decide +kernel
theorem w107_5 : Wp d 107 5 [l0, some (.int x)] st h Q = Wp d 107 6 [l0, some (.int x)] (.int x :: st) h Q := W_go f107_5 rfl
theorem f107_6 : fetch 107 6 = some (.bipush 80, 2, [], .null) := by decide +kernel
theorem w107_6 : Wp d 107 6 [l0, l1] st h Q = Wp d 107 8 [l0, l1] (.int (80 : Int32) :: st) h Q := W_go f107_6 rfl
theorem f107_8 : fetch 107 8 = some (.if_icmp .le 13, 3, [], .null) := by decide +kernel
theorem w107_8 : Wp d 107 8 [l0, l1] (.int y :: .int x :: st) h Q = if icond .le x y = true then Wp d 107 21 [l0, l1] st h Q else Wp d 107 11 [l0, l1] st h Q := W_if f107_8 rfl
theorem f107_11 : fetch 107 11 = some (.new 60, 3, [101, 4071, 1020], .null) := by decide +kernel
theorem w107_11 (hp : psum st ≤ 8) : Wp d 107 11 [l0, l1] st h Q = Q (.inr "java/lang/IllegalArgumentException", hthr h) := W_fin f107_11 (by simp only [pstep, pnewo, List.getD_cons_zero, if_pos hp]; rfl)
theorem f107_14 : fetch 107 14 = some (.dup, 1, [], .null) := by decide +kernel
theorem w107_14i : Wp d 107 14 [l0, l1] (.int x :: st) h Q = Wp d 107 15 [l0, l1] (.int x :: .int x :: st) h Q := W_go f107_14 rfl
theorem w107_14 : Wp d 107 14 [l0, l1] (.ref a :: st) h Q = Wp d 107 15 [l0, l1] (.ref a :: .ref a :: st) h Q := W_go f107_14 rfl
theorem f107_15 : fetch 107 15 = some (.ldc 209, 2, [5152], .ref 15) := by decide +kernel
theorem w107_15 : Wp d 107 15 [l0, l1] st h Q = Wp d 107 17 [l0, l1] ((.ref 15) :: st) h Q := W_go f107_15 rfl
theorem f107_17 : fetch 107 17 = some (.invokespecial 64, 3, [8888, 4081], .null) := by decide +kernel
theorem f107_20 : fetch 107 20 = some (.athrow, 1, [], .null) := by decide +kernel
theorem f107_21 : fetch 107 21 = some (.aload_n 0, 1, [], .null) := by decide +kernel
theorem w107_21 : Wp d 107 21 [some (.ref a), l1] st h Q = Wp d 107 22 [some (.ref a), l1] (.ref a :: st) h Q := W_go f107_21 rfl
theorem f107_22 : fetch 107 22 = some (.getfield 39, 3, [7, 3, 2155, 0], .null) := by decide +kernel
theorem w107_22 : Wp d 107 22 [l0, l1] (.ref a :: st) h Q = gP (h.2 a) 7 3 (fun w => Wp d 107 25 [l0, l1] (w :: st) h Q) := W_get f107_22 rfl
theorem f107_25 : fetch 107 25 = some (.aload_n 0, 1, [], .null) := by decide +kernel
theorem w107_25 : Wp d 107 25 [some (.ref a), l1] st h Q = Wp d 107 26 [some (.ref a), l1] (.ref a :: st) h Q := W_go f107_25 rfl
theorem f107_26 : fetch 107 26 = some (.getfield 35, 3, [7, 2, 2154, 0], .null) := by decide +kernel
theorem w107_26 : Wp d 107 26 [l0, l1] (.ref a :: st) h Q = gP (h.2 a) 7 2 (fun w => Wp d 107 29 [l0, l1] (w :: st) h Q) := W_get f107_26 rfl
theorem f107_29 : fetch 107 29 = some (.invokevirtual 205, 3, [53, 2, 7, 0, 5133, 1010, 5136, 5134, 5135], .null) := by decide +kernel
theorem w107_29 (hp : psum st ≤ 8) : Wp d 107 29 [l0, l1] (v1 :: (.ref b) :: st) h Q = rP (h.2 b) 6 (Cp d 53 [(.ref b), v1] h (fun o => cK o (fun w h2 => Wp d 107 32 [l0, l1] (w.toList ++ st) h2 Q) (fun E h2 => Q (.inr E, h2)))) := (W_invV (st := st) f107_29 rfl rfl (by simp only [List.length_cons]; omega) rfl rfl hp).trans (by simp only [hm107, if_true])
theorem f107_32 : fetch 107 32 = some (.aload_n 0, 1, [], .null) := by decide +kernel
theorem w107_32 : Wp d 107 32 [some (.ref a), l1] st h Q = Wp d 107 33 [some (.ref a), l1] (.ref a :: st) h Q := W_go f107_32 rfl
theorem f107_33 : fetch 107 33 = some (.getfield 39, 3, [7, 3, 2155, 0], .null) := by decide +kernel
theorem w107_33 : Wp d 107 33 [l0, l1] (.ref a :: st) h Q = gP (h.2 a) 7 3 (fun w => Wp d 107 36 [l0, l1] (w :: st) h Q) := W_get f107_33 rfl
theorem f107_36 : fetch 107 36 = some (.iload_n 1, 1, [], .null) := by decide +kernel
theorem w107_36 : Wp d 107 36 [l0, some (.int x)] st h Q = Wp d 107 37 [l0, some (.int x)] (.int x :: st) h Q := W_go f107_36 rfl
theorem f107_37 : fetch 107 37 = some (.invokevirtual 145, 3, [55, 2, 7, 0, 4182, 1010, 4185, 4183, 4184], .null) := by decide +kernel
theorem w107_37 (hp : psum st ≤ 8) : Wp d 107 37 [l0, l1] (v1 :: (.ref b) :: st) h Q = rP (h.2 b) 6 (Cp d 55 [(.ref b), v1] h (fun o => cK o (fun w h2 => Wp d 107 40 [l0, l1] (w.toList ++ st) h2 Q) (fun E h2 => Q (.inr E, h2)))) := (W_invV (st := st) f107_37 rfl rfl (by simp only [List.length_cons]; omega) rfl rfl hp).trans (by simp only [hm107, if_true])
theorem f107_40 : fetch 107 40 = some (.ireturn, 1, [], .null) := by decide +kernel
theorem w107_40 : Wp d 107 40 [l0, l1] [.int x] h Q = Q (.inl (some (.int x)), h) := W_iret f107_40 hr107
theorem hm108 : mhs 108 = [] := by decide +kernel
theorem hr108 : mret 108 = (some .int) := by decide +kernel
theorem f108_0 : fetch 108 0 = some (.iconst 0, 1, [], .null) := by decide +kernel
theorem w108_0 : Wp d 108 0 [l0, l1] st h Q = Wp d 108 1 [l0, l1] (.int (0 : Int32) :: st) h Q := W_go f108_0 rfl
theorem f108_1 : fetch 108 1 = some (.istore_n 1, 1, [], .null) := by decide +kernel
theorem w108_1 : Wp d 108 1 [l0, l1] (.int x :: st) h Q = Wp d 108 2 [kl l0, some (.int x)] st h Q := (W_st1 (pc' := 2) (k := 1) f108_1 rfl rfl (by simp only [List.length_cons, List.length_nil]; omega)).trans (by rw [pst1_succ]; rfl)
theorem f108_2 : fetch 108 2 = some (.iload_n 1, 1, [], .null) := by decide +kernel
theorem w108_2 : Wp d 108 2 [l0, some (.int x)] st h Q = Wp d 108 3 [l0, some (.int x)] (.int x :: st) h Q := W_go f108_2 rfl
theorem f108_3 : fetch 108 3 = some (.bipush 30, 2, [], .null) := by decide +kernel
theorem w108_3 : Wp d 108 3 [l0, l1] st h Q = Wp d 108 5 [l0, l1] (.int (30 : Int32) :: st) h Q := W_go f108_3 rfl
theorem f108_5 : fetch 108 5 = some (.if_icmp .ge 26, 3, [], .null) := by decide +kernel
theorem w108_5 : Wp d 108 5 [l0, l1] (.int y :: .int x :: st) h Q = if icond .ge x y = true then Wp d 108 31 [l0, l1] st h Q else Wp d 108 8 [l0, l1] st h Q := W_if f108_5 rfl
theorem f108_8 : fetch 108 8 = some (.aload_n 0, 1, [], .null) := by decide +kernel
theorem w108_8 : Wp d 108 8 [some (.ref a), l1] st h Q = Wp d 108 9 [some (.ref a), l1] (.ref a :: st) h Q := W_go f108_8 rfl
theorem f108_9 : fetch 108 9 = some (.getfield 35, 3, [7, 2, 2154, 0], .null) := by decide +kernel
theorem w108_9 : Wp d 108 9 [l0, l1] (.ref a :: st) h Q = gP (h.2 a) 7 2 (fun w => Wp d 108 12 [l0, l1] (w :: st) h Q) := W_get f108_9 rfl
theorem f108_12 : fetch 108 12 = some (.getfield 170, 3, [6, 4, 2128, 0], .null) := by decide +kernel
theorem w108_12 : Wp d 108 12 [l0, l1] (.ref a :: st) h Q = gP (h.2 a) 6 4 (fun w => Wp d 108 15 [l0, l1] (w :: st) h Q) := W_get f108_12 rfl
theorem f108_15 : fetch 108 15 = some (.iload_n 1, 1, [], .null) := by decide +kernel
theorem w108_15 : Wp d 108 15 [l0, some (.int x)] st h Q = Wp d 108 16 [l0, some (.int x)] (.int x :: st) h Q := W_go f108_15 rfl
theorem f108_16 : fetch 108 16 = some (.iadd, 1, [], .null) := by decide +kernel
theorem w108_16 : Wp d 108 16 [l0, l1] (.int y :: .int x :: st) h Q = Wp d 108 17 [l0, l1] (.int (x + y) :: st) h Q := W_go f108_16 rfl
theorem f108_17 : fetch 108 17 = some (.invokestatic 176, 3, [114, 1, 0, 0, 3174, 1001, 3176, 3175], .null) := by decide +kernel
theorem w108_17 (hp : psum st ≤ 8) : Wp d 108 17 [l0, l1] (v0 :: st) h Q = Cp d 114 [v0] h (fun o => cK o (fun w h2 => Wp d 108 20 [l0, l1] (w.toList ++ st) h2 Q) (fun _ _ => False)) := (W_invS (st := st) f108_17 rfl rfl (by simp only [List.length_cons]; omega) rfl rfl hp)
theorem f108_20 : fetch 108 20 = some (.bipush 11, 2, [], .null) := by decide +kernel
theorem w108_20 : Wp d 108 20 [l0, l1] st h Q = Wp d 108 22 [l0, l1] (.int (11 : Int32) :: st) h Q := W_go f108_20 rfl
theorem f108_22 : fetch 108 22 = some (.if_icmp .ge 9, 3, [], .null) := by decide +kernel
theorem w108_22 : Wp d 108 22 [l0, l1] (.int y :: .int x :: st) h Q = if icond .ge x y = true then Wp d 108 31 [l0, l1] st h Q else Wp d 108 25 [l0, l1] st h Q := W_if f108_22 rfl
theorem f108_25 : fetch 108 25 = some (.iinc 1 1, 3, [], .null) := by decide +kernel
theorem w108_25 : Wp d 108 25 [l0, some (.int x)] st h Q = Wp d 108 28 [kl l0, some (.int (x + (1 : Int32)))] st h Q := (W_iinc (y := (1 : Int32)) f108_25 rfl (by simp only [List.length_cons, List.length_nil]; omega) (by decide)).trans (by rw [pst1_succ]; rfl)
theorem f108_28 : fetch 108 28 = some (.goto (-26), 3, [], .null) := by decide +kernel
theorem w108_28 : Wp d 108 28 [l0, l1] st h Q = Wp d 108 2 [l0, l1] st h Q := W_go f108_28 rfl
theorem f108_31 : fetch 108 31 = some (.iload_n 1, 1, [], .null) := by decide +kernel
theorem w108_31 : Wp d 108 31 [l0, some (.int x)] st h Q = Wp d 108 32 [l0, some (.int x)] (.int x :: st) h Q := W_go f108_31 rfl
theorem f108_32 : fetch 108 32 = some (.ireturn, 1, [], .null) := by decide +kernel
theorem w108_32 : Wp d 108 32 [l0, l1] [.int x] h Q = Q (.inl (some (.int x)), h) := W_iret f108_32 hr108
theorem hm109 : mhs 109 = [] := by decide +kernel
theorem hr109 : mret 109 = (some .int) := by decide +kernel
theorem f109_0 : fetch 109 0 = some (.aload_n 0, 1, [], .null) := by decide +kernel
theorem w109_0 : Wp d 109 0 [some (.ref a), l1, l2, l3, l4, l5, l6] st h Q = Wp d 109 1 [some (.ref a), l1, l2, l3, l4, l5, l6] (.ref a :: st) h Q := W_go f109_0 rfl
theorem f109_1 : fetch 109 1 = some (.iload_n 1, 1, [], .null) := by decide +kernel
theorem w109_1 : Wp d 109 1 [l0, some (.int x), l2, l3, l4, l5, l6] st h Q = Wp d 109 2 [l0, some (.int x), l2, l3, l4, l5, l6] (.int x :: st) h Q := W_go f109_1 rfl
theorem f109_2 : fetch 109 2 = some (.invokevirtual 91, 3, [113, 2, 8, 0, 4105, 1001, 4108, 4107, 21], .null) := by decide +kernel
theorem w109_2 (hp : psum st ≤ 8) : Wp d 109 2 [l0, l1, l2, l3, l4, l5, l6] (v1 :: (.ref b) :: st) h Q = rP (h.2 b) 7 (Cp d 113 [(.ref b), v1] h (fun o => cK o (fun w h2 => Wp d 109 5 [l0, l1, l2, l3, l4, l5, l6] (w.toList ++ st) h2 Q) (fun E h2 => Q (.inr E, h2)))) := (W_invV (st := st) f109_2 rfl rfl (by simp only [List.length_cons]; omega) rfl rfl hp).trans (by simp only [hm109, if_true])
theorem f109_5 : fetch 109 5 = some (.pop, 1, [], .null) := by decide +kernel
theorem w109_5i : Wp d 109 5 [l0, l1, l2, l3, l4, l5, l6] (.int x :: st) h Q = Wp d 109 6 [l0, l1, l2, l3, l4, l5, l6] st h Q := W_go f109_5 rfl
theorem w109_5 : Wp d 109 5 [l0, l1, l2, l3, l4, l5, l6] (.ref a :: st) h Q = Wp d 109 6 [l0, l1, l2, l3, l4, l5, l6] st h Q := W_go f109_5 rfl
theorem f109_6 : fetch 109 6 = some (.iload_n 2, 1, [], .null) := by decide +kernel
theorem w109_6 : Wp d 109 6 [l0, l1, some (.int x), l3, l4, l5, l6] st h Q = Wp d 109 7 [l0, l1, some (.int x), l3, l4, l5, l6] (.int x :: st) h Q := W_go f109_6 rfl
theorem f109_7 : fetch 109 7 = some (.iconst 1, 1, [], .null) := by decide +kernel
theorem w109_7 : Wp d 109 7 [l0, l1, l2, l3, l4, l5, l6] st h Q = Wp d 109 8 [l0, l1, l2, l3, l4, l5, l6] (.int (1 : Int32) :: st) h Q := W_go f109_7 rfl
theorem f109_8 : fetch 109 8 = some (.if_icmp .lt 9, 3, [], .null) := by decide +kernel
theorem w109_8 : Wp d 109 8 [l0, l1, l2, l3, l4, l5, l6] (.int y :: .int x :: st) h Q = if icond .lt x y = true then Wp d 109 17 [l0, l1, l2, l3, l4, l5, l6] st h Q else Wp d 109 11 [l0, l1, l2, l3, l4, l5, l6] st h Q := W_if f109_8 rfl
theorem f109_11 : fetch 109 11 = some (.iload_n 2, 1, [], .null) := by decide +kernel
theorem w109_11 : Wp d 109 11 [l0, l1, some (.int x), l3, l4, l5, l6] st h Q = Wp d 109 12 [l0, l1, some (.int x), l3, l4, l5, l6] (.int x :: st) h Q := W_go f109_11 rfl
theorem f109_12 : fetch 109 12 = some (.bipush 40, 2, [], .null) := by decide +kernel
theorem w109_12 : Wp d 109 12 [l0, l1, l2, l3, l4, l5, l6] st h Q = Wp d 109 14 [l0, l1, l2, l3, l4, l5, l6] (.int (40 : Int32) :: st) h Q := W_go f109_12 rfl
theorem f109_14 : fetch 109 14 = some (.if_icmp .le 13, 3, [], .null) := by decide +kernel
theorem w109_14 : Wp d 109 14 [l0, l1, l2, l3, l4, l5, l6] (.int y :: .int x :: st) h Q = if icond .le x y = true then Wp d 109 27 [l0, l1, l2, l3, l4, l5, l6] st h Q else Wp d 109 17 [l0, l1, l2, l3, l4, l5, l6] st h Q := W_if f109_14 rfl
theorem f109_17 : fetch 109 17 = some (.new 60, 3, [101, 4071, 1020], .null) := by decide +kernel
theorem w109_17 (hp : psum st ≤ 8) : Wp d 109 17 [l0, l1, l2, l3, l4, l5, l6] st h Q = Q (.inr "java/lang/IllegalArgumentException", hthr h) := W_fin f109_17 (by simp only [pstep, pnewo, List.getD_cons_zero, if_pos hp]; rfl)
theorem f109_20 : fetch 109 20 = some (.dup, 1, [], .null) := by decide +kernel
theorem w109_20i : Wp d 109 20 [l0, l1, l2, l3, l4, l5, l6] (.int x :: st) h Q = Wp d 109 21 [l0, l1, l2, l3, l4, l5, l6] (.int x :: .int x :: st) h Q := W_go f109_20 rfl
theorem w109_20 : Wp d 109 20 [l0, l1, l2, l3, l4, l5, l6] (.ref a :: st) h Q = Wp d 109 21 [l0, l1, l2, l3, l4, l5, l6] (.ref a :: .ref a :: st) h Q := W_go f109_20 rfl
theorem f109_21 : fetch 109 21 = some (.ldc 143, 2, [4181], .ref 11) := by decide +kernel
theorem w109_21 : Wp d 109 21 [l0, l1, l2, l3, l4, l5, l6] st h Q = Wp d 109 23 [l0, l1, l2, l3, l4, l5, l6] ((.ref 11) :: st) h Q := W_go f109_21 rfl
theorem f109_23 : fetch 109 23 = some (.invokespecial 64, 3, [8888, 4081], .null) := by decide +kernel
theorem f109_26 : fetch 109 26 = some (.athrow, 1, [], .null) := by decide +kernel
theorem f109_27 : fetch 109 27 = some (.aload_n 0, 1, [], .null) := by decide +kernel
theorem w109_27 : Wp d 109 27 [some (.ref a), l1, l2, l3, l4, l5, l6] st h Q = Wp d 109 28 [some (.ref a), l1, l2, l3, l4, l5, l6] (.ref a :: st) h Q := W_go f109_27 rfl
theorem f109_28 : fetch 109 28 = some (.getfield 35, 3, [7, 2, 2154, 0], .null) := by decide +kernel
theorem w109_28 : Wp d 109 28 [l0, l1, l2, l3, l4, l5, l6] (.ref a :: st) h Q = gP (h.2 a) 7 2 (fun w => Wp d 109 31 [l0, l1, l2, l3, l4, l5, l6] (w :: st) h Q) := W_get f109_28 rfl
theorem f109_31 : fetch 109 31 = some (.getfield 70, 3, [6, 0, 2120, 0], .null) := by decide +kernel
theorem w109_31 : Wp d 109 31 [l0, l1, l2, l3, l4, l5, l6] (.ref a :: st) h Q = gP (h.2 a) 6 0 (fun w => Wp d 109 34 [l0, l1, l2, l3, l4, l5, l6] (w :: st) h Q) := W_get f109_31 rfl
theorem f109_34 : fetch 109 34 = some (.getfield 95, 3, [0, 1, 1060, 0], .null) := by decide +kernel
theorem w109_34 : Wp d 109 34 [l0, l1, l2, l3, l4, l5, l6] (.ref a :: st) h Q = gP (h.2 a) 0 1 (fun w => Wp d 109 37 [l0, l1, l2, l3, l4, l5, l6] (w :: st) h Q) := W_get f109_34 rfl
theorem f109_37 : fetch 109 37 = some (.ifCond .ne 13, 3, [], .null) := by decide +kernel
theorem w109_37 : Wp d 109 37 [l0, l1, l2, l3, l4, l5, l6] (.int x :: st) h Q = if icond .ne x 0 = true then Wp d 109 50 [l0, l1, l2, l3, l4, l5, l6] st h Q else Wp d 109 40 [l0, l1, l2, l3, l4, l5, l6] st h Q := W_if f109_37 rfl
theorem f109_40 : fetch 109 40 = some (.new 49, 3, [100, 3232, 1019], .null) := by decide +kernel
theorem w109_40 (hp : psum st ≤ 8) : Wp d 109 40 [l0, l1, l2, l3, l4, l5, l6] st h Q = Q (.inr "java/lang/IllegalStateException", hthr h) := W_fin f109_40 (by simp only [pstep, pnewo, List.getD_cons_zero, if_pos hp]; rfl)
theorem f109_43 : fetch 109 43 = some (.dup, 1, [], .null) := by decide +kernel
theorem w109_43i : Wp d 109 43 [l0, l1, l2, l3, l4, l5, l6] (.int x :: st) h Q = Wp d 109 44 [l0, l1, l2, l3, l4, l5, l6] (.int x :: .int x :: st) h Q := W_go f109_43 rfl
theorem w109_43 : Wp d 109 43 [l0, l1, l2, l3, l4, l5, l6] (.ref a :: st) h Q = Wp d 109 44 [l0, l1, l2, l3, l4, l5, l6] (.ref a :: .ref a :: st) h Q := W_go f109_43 rfl
theorem f109_44 : fetch 109 44 = some (.ldc 211, 2, [5160], .ref 16) := by decide +kernel
theorem w109_44 : Wp d 109 44 [l0, l1, l2, l3, l4, l5, l6] st h Q = Wp d 109 46 [l0, l1, l2, l3, l4, l5, l6] ((.ref 16) :: st) h Q := W_go f109_44 rfl
theorem f109_46 : fetch 109 46 = some (.invokespecial 53, 3, [8888, 4034], .null) := by decide +kernel
theorem f109_49 : fetch 109 49 = some (.athrow, 1, [], .null) := by decide +kernel
theorem f109_50 : fetch 109 50 = some (.iconst 0, 1, [], .null) := by decide +kernel
theorem w109_50 : Wp d 109 50 [l0, l1, l2, l3, l4, l5, l6] st h Q = Wp d 109 51 [l0, l1, l2, l3, l4, l5, l6] (.int (0 : Int32) :: st) h Q := W_go f109_50 rfl
theorem f109_51 : fetch 109 51 = some (.istore_n 3, 1, [], .null) := by decide +kernel
theorem w109_51 : Wp d 109 51 [l0, l1, l2, l3, l4, l5, l6] (.int x :: st) h Q = Wp d 109 52 [l0, l1, kl l2, some (.int x), l4, l5, l6] st h Q := (W_st1 (pc' := 52) (k := 3) f109_51 rfl rfl (by simp only [List.length_cons, List.length_nil]; omega)).trans (by rw [pst1_succ]; rfl)
theorem f109_52 : fetch 109 52 = some (.iconst 0, 1, [], .null) := by decide +kernel
theorem w109_52 : Wp d 109 52 [l0, l1, l2, l3, l4, l5, l6] st h Q = Wp d 109 53 [l0, l1, l2, l3, l4, l5, l6] (.int (0 : Int32) :: st) h Q := W_go f109_52 rfl
theorem f109_53 : fetch 109 53 = some (.istore 4, 2, [], .null) := by decide +kernel
theorem w109_53 : Wp d 109 53 [l0, l1, l2, l3, l4, l5, l6] (.int x :: st) h Q = Wp d 109 55 [l0, l1, l2, kl l3, some (.int x), l5, l6] st h Q := (W_st1 (pc' := 55) (k := 4) f109_53 rfl rfl (by simp only [List.length_cons, List.length_nil]; omega)).trans (by rw [pst1_succ]; rfl)
theorem f109_55 : fetch 109 55 = some (.iconst 0, 1, [], .null) := by decide +kernel
theorem w109_55 : Wp d 109 55 [l0, l1, l2, l3, l4, l5, l6] st h Q = Wp d 109 56 [l0, l1, l2, l3, l4, l5, l6] (.int (0 : Int32) :: st) h Q := W_go f109_55 rfl
theorem f109_56 : fetch 109 56 = some (.istore 5, 2, [], .null) := by decide +kernel
theorem w109_56 : Wp d 109 56 [l0, l1, l2, l3, l4, l5, l6] (.int x :: st) h Q = Wp d 109 58 [l0, l1, l2, l3, kl l4, some (.int x), l6] st h Q := (W_st1 (pc' := 58) (k := 5) f109_56 rfl rfl (by simp only [List.length_cons, List.length_nil]; omega)).trans (by rw [pst1_succ]; rfl)
theorem f109_58 : fetch 109 58 = some (.iload 5, 2, [], .null) := by decide +kernel
theorem w109_58 : Wp d 109 58 [l0, l1, l2, l3, l4, some (.int x), l6] st h Q = Wp d 109 60 [l0, l1, l2, l3, l4, some (.int x), l6] (.int x :: st) h Q := W_go f109_58 rfl
theorem f109_60 : fetch 109 60 = some (.aload_n 0, 1, [], .null) := by decide +kernel
theorem w109_60 : Wp d 109 60 [some (.ref a), l1, l2, l3, l4, l5, l6] st h Q = Wp d 109 61 [some (.ref a), l1, l2, l3, l4, l5, l6] (.ref a :: st) h Q := W_go f109_60 rfl
theorem f109_61 : fetch 109 61 = some (.getfield 35, 3, [7, 2, 2154, 0], .null) := by decide +kernel
theorem w109_61 : Wp d 109 61 [l0, l1, l2, l3, l4, l5, l6] (.ref a :: st) h Q = gP (h.2 a) 7 2 (fun w => Wp d 109 64 [l0, l1, l2, l3, l4, l5, l6] (w :: st) h Q) := W_get f109_61 rfl
theorem f109_64 : fetch 109 64 = some (.getfield 70, 3, [6, 0, 2120, 0], .null) := by decide +kernel
theorem w109_64 : Wp d 109 64 [l0, l1, l2, l3, l4, l5, l6] (.ref a :: st) h Q = gP (h.2 a) 6 0 (fun w => Wp d 109 67 [l0, l1, l2, l3, l4, l5, l6] (w :: st) h Q) := W_get f109_64 rfl
theorem f109_67 : fetch 109 67 = some (.getfield 95, 3, [0, 1, 1060, 0], .null) := by decide +kernel
theorem w109_67 : Wp d 109 67 [l0, l1, l2, l3, l4, l5, l6] (.ref a :: st) h Q = gP (h.2 a) 0 1 (fun w => Wp d 109 70 [l0, l1, l2, l3, l4, l5, l6] (w :: st) h Q) := W_get f109_67 rfl
theorem f109_70 : fetch 109 70 = some (.if_icmp .ge 86, 3, [], .null) := by decide +kernel
theorem w109_70 : Wp d 109 70 [l0, l1, l2, l3, l4, l5, l6] (.int y :: .int x :: st) h Q = if icond .ge x y = true then Wp d 109 156 [l0, l1, l2, l3, l4, l5, l6] st h Q else Wp d 109 73 [l0, l1, l2, l3, l4, l5, l6] st h Q := W_if f109_70 rfl
theorem f109_73 : fetch 109 73 = some (.aload_n 0, 1, [], .null) := by decide +kernel
theorem w109_73 : Wp d 109 73 [some (.ref a), l1, l2, l3, l4, l5, l6] st h Q = Wp d 109 74 [some (.ref a), l1, l2, l3, l4, l5, l6] (.ref a :: st) h Q := W_go f109_73 rfl
theorem f109_74 : fetch 109 74 = some (.getfield 39, 3, [7, 3, 2155, 0], .null) := by decide +kernel
theorem w109_74 : Wp d 109 74 [l0, l1, l2, l3, l4, l5, l6] (.ref a :: st) h Q = gP (h.2 a) 7 3 (fun w => Wp d 109 77 [l0, l1, l2, l3, l4, l5, l6] (w :: st) h Q) := W_get f109_74 rfl
theorem f109_77 : fetch 109 77 = some (.aload_n 0, 1, [], .null) := by decide +kernel
theorem w109_77 : Wp d 109 77 [some (.ref a), l1, l2, l3, l4, l5, l6] st h Q = Wp d 109 78 [some (.ref a), l1, l2, l3, l4, l5, l6] (.ref a :: st) h Q := W_go f109_77 rfl
theorem f109_78 : fetch 109 78 = some (.getfield 35, 3, [7, 2, 2154, 0], .null) := by decide +kernel
theorem w109_78 : Wp d 109 78 [l0, l1, l2, l3, l4, l5, l6] (.ref a :: st) h Q = gP (h.2 a) 7 2 (fun w => Wp d 109 81 [l0, l1, l2, l3, l4, l5, l6] (w :: st) h Q) := W_get f109_78 rfl
theorem f109_81 : fetch 109 81 = some (.invokevirtual 205, 3, [53, 2, 7, 0, 5133, 1010, 5136, 5134, 5135], .null) := by decide +kernel
theorem w109_81 (hp : psum st ≤ 8) : Wp d 109 81 [l0, l1, l2, l3, l4, l5, l6] (v1 :: (.ref b) :: st) h Q = rP (h.2 b) 6 (Cp d 53 [(.ref b), v1] h (fun o => cK o (fun w h2 => Wp d 109 84 [l0, l1, l2, l3, l4, l5, l6] (w.toList ++ st) h2 Q) (fun E h2 => Q (.inr E, h2)))) := (W_invV (st := st) f109_81 rfl rfl (by simp only [List.length_cons]; omega) rfl rfl hp).trans (by simp only [hm109, if_true])
theorem f109_84 : fetch 109 84 = some (.iload_n 1, 1, [], .null) := by decide +kernel
theorem w109_84 : Wp d 109 84 [l0, some (.int x), l2, l3, l4, l5, l6] st h Q = Wp d 109 85 [l0, some (.int x), l2, l3, l4, l5, l6] (.int x :: st) h Q := W_go f109_84 rfl
theorem f109_85 : fetch 109 85 = some (.ifCond .lt 36, 3, [], .null) := by decide +kernel
theorem w109_85 : Wp d 109 85 [l0, l1, l2, l3, l4, l5, l6] (.int x :: st) h Q = if icond .lt x 0 = true then Wp d 109 121 [l0, l1, l2, l3, l4, l5, l6] st h Q else Wp d 109 88 [l0, l1, l2, l3, l4, l5, l6] st h Q := W_if f109_85 rfl
theorem f109_88 : fetch 109 88 = some (.iload_n 1, 1, [], .null) := by decide +kernel
theorem w109_88 : Wp d 109 88 [l0, some (.int x), l2, l3, l4, l5, l6] st h Q = Wp d 109 89 [l0, some (.int x), l2, l3, l4, l5, l6] (.int x :: st) h Q := W_go f109_88 rfl
theorem f109_89 : fetch 109 89 = some (.aload_n 0, 1, [], .null) := by decide +kernel
theorem w109_89 : Wp d 109 89 [some (.ref a), l1, l2, l3, l4, l5, l6] st h Q = Wp d 109 90 [some (.ref a), l1, l2, l3, l4, l5, l6] (.ref a :: st) h Q := W_go f109_89 rfl
theorem f109_90 : fetch 109 90 = some (.getfield 39, 3, [7, 3, 2155, 0], .null) := by decide +kernel
theorem w109_90 : Wp d 109 90 [l0, l1, l2, l3, l4, l5, l6] (.ref a :: st) h Q = gP (h.2 a) 7 3 (fun w => Wp d 109 93 [l0, l1, l2, l3, l4, l5, l6] (w :: st) h Q) := W_get f109_90 rfl
theorem f109_93 : fetch 109 93 = some (.getfield 81, 3, [6, 2, 2124, 0], .null) := by decide +kernel
theorem w109_93 : Wp d 109 93 [l0, l1, l2, l3, l4, l5, l6] (.ref a :: st) h Q = gP (h.2 a) 6 2 (fun w => Wp d 109 96 [l0, l1, l2, l3, l4, l5, l6] (w :: st) h Q) := W_get f109_93 rfl
theorem f109_96 : fetch 109 96 = some (.arraylength, 1, [], .null) := by decide +kernel
theorem w109_96 : Wp d 109 96 [l0, l1, l2, l3, l4, l5, l6] (.ref a :: st) h Q = nP (h.2 a) (fun w => Wp d 109 97 [l0, l1, l2, l3, l4, l5, l6] (.int w :: st) h Q) := W_len f109_96 rfl
theorem f109_97 : fetch 109 97 = some (.if_icmp .ge 24, 3, [], .null) := by decide +kernel
theorem w109_97 : Wp d 109 97 [l0, l1, l2, l3, l4, l5, l6] (.int y :: .int x :: st) h Q = if icond .ge x y = true then Wp d 109 121 [l0, l1, l2, l3, l4, l5, l6] st h Q else Wp d 109 100 [l0, l1, l2, l3, l4, l5, l6] st h Q := W_if f109_97 rfl
theorem f109_100 : fetch 109 100 = some (.aload_n 0, 1, [], .null) := by decide +kernel
theorem w109_100 : Wp d 109 100 [some (.ref a), l1, l2, l3, l4, l5, l6] st h Q = Wp d 109 101 [some (.ref a), l1, l2, l3, l4, l5, l6] (.ref a :: st) h Q := W_go f109_100 rfl
theorem f109_101 : fetch 109 101 = some (.getfield 39, 3, [7, 3, 2155, 0], .null) := by decide +kernel
theorem w109_101 : Wp d 109 101 [l0, l1, l2, l3, l4, l5, l6] (.ref a :: st) h Q = gP (h.2 a) 7 3 (fun w => Wp d 109 104 [l0, l1, l2, l3, l4, l5, l6] (w :: st) h Q) := W_get f109_101 rfl
theorem f109_104 : fetch 109 104 = some (.getfield 81, 3, [6, 2, 2124, 0], .null) := by decide +kernel
theorem w109_104 : Wp d 109 104 [l0, l1, l2, l3, l4, l5, l6] (.ref a :: st) h Q = gP (h.2 a) 6 2 (fun w => Wp d 109 107 [l0, l1, l2, l3, l4, l5, l6] (w :: st) h Q) := W_get f109_104 rfl
theorem f109_107 : fetch 109 107 = some (.iload_n 1, 1, [], .null) := by decide +kernel
theorem w109_107 : Wp d 109 107 [l0, some (.int x), l2, l3, l4, l5, l6] st h Q = Wp d 109 108 [l0, some (.int x), l2, l3, l4, l5, l6] (.int x :: st) h Q := W_go f109_107 rfl
theorem f109_108 : fetch 109 108 = some (.aaload, 1, [], .null) := by decide +kernel
theorem w109_108 : Wp d 109 108 [l0, l1, l2, l3, l4, l5, l6] (.int x :: .ref a :: st) h Q = qP (h.2 a) x (fun w => Wp d 109 109 [l0, l1, l2, l3, l4, l5, l6] (w :: st) h Q) := W_qld f109_108 rfl
theorem f109_109 : fetch 109 109 = some (.aload_n 0, 1, [], .null) := by decide +kernel
theorem w109_109 : Wp d 109 109 [some (.ref a), l1, l2, l3, l4, l5, l6] st h Q = Wp d 109 110 [some (.ref a), l1, l2, l3, l4, l5, l6] (.ref a :: st) h Q := W_go f109_109 rfl
theorem f109_110 : fetch 109 110 = some (.getfield 39, 3, [7, 3, 2155, 0], .null) := by decide +kernel
theorem w109_110 : Wp d 109 110 [l0, l1, l2, l3, l4, l5, l6] (.ref a :: st) h Q = gP (h.2 a) 7 3 (fun w => Wp d 109 113 [l0, l1, l2, l3, l4, l5, l6] (w :: st) h Q) := W_get f109_110 rfl
theorem f109_113 : fetch 109 113 = some (.getfield 70, 3, [6, 0, 2120, 0], .null) := by decide +kernel
theorem w109_113 : Wp d 109 113 [l0, l1, l2, l3, l4, l5, l6] (.ref a :: st) h Q = gP (h.2 a) 6 0 (fun w => Wp d 109 116 [l0, l1, l2, l3, l4, l5, l6] (w :: st) h Q) := W_get f109_113 rfl
theorem f109_116 : fetch 109 116 = some (.iload 5, 2, [], .null) := by decide +kernel
theorem w109_116 : Wp d 109 116 [l0, l1, l2, l3, l4, some (.int x), l6] st h Q = Wp d 109 118 [l0, l1, l2, l3, l4, some (.int x), l6] (.int x :: st) h Q := W_go f109_116 rfl
theorem f109_118 : fetch 109 118 = some (.invokevirtual 106, 3, [11, 3, 3, 0, 4126, 1012, 4129, 4127, 4128], .null) := by decide +kernel
theorem w109_118 (hp : psum st ≤ 8) : Wp d 109 118 [l0, l1, l2, l3, l4, l5, l6] (v2 :: v1 :: (.ref b) :: st) h Q = rP (h.2 b) 2 (Cp d 11 [(.ref b), v1, v2] h (fun o => cK o (fun w h2 => Wp d 109 121 [l0, l1, l2, l3, l4, l5, l6] (w.toList ++ st) h2 Q) (fun E h2 => Q (.inr E, h2)))) := (W_invV (st := st) f109_118 rfl rfl (by simp only [List.length_cons]; omega) rfl rfl hp).trans (by simp only [hm109, if_true])
theorem f109_121 : fetch 109 121 = some (.aload_n 0, 1, [], .null) := by decide +kernel
theorem w109_121 : Wp d 109 121 [some (.ref a), l1, l2, l3, l4, l5, l6] st h Q = Wp d 109 122 [some (.ref a), l1, l2, l3, l4, l5, l6] (.ref a :: st) h Q := W_go f109_121 rfl
theorem f109_122 : fetch 109 122 = some (.getfield 39, 3, [7, 3, 2155, 0], .null) := by decide +kernel
theorem w109_122 : Wp d 109 122 [l0, l1, l2, l3, l4, l5, l6] (.ref a :: st) h Q = gP (h.2 a) 7 3 (fun w => Wp d 109 125 [l0, l1, l2, l3, l4, l5, l6] (w :: st) h Q) := W_get f109_122 rfl
theorem f109_125 : fetch 109 125 = some (.iload_n 2, 1, [], .null) := by decide +kernel
theorem w109_125 : Wp d 109 125 [l0, l1, some (.int x), l3, l4, l5, l6] st h Q = Wp d 109 126 [l0, l1, some (.int x), l3, l4, l5, l6] (.int x :: st) h Q := W_go f109_125 rfl
theorem f109_126 : fetch 109 126 = some (.invokevirtual 145, 3, [55, 2, 7, 0, 4182, 1010, 4185, 4183, 4184], .null) := by decide +kernel
theorem w109_126 (hp : psum st ≤ 8) : Wp d 109 126 [l0, l1, l2, l3, l4, l5, l6] (v1 :: (.ref b) :: st) h Q = rP (h.2 b) 6 (Cp d 55 [(.ref b), v1] h (fun o => cK o (fun w h2 => Wp d 109 129 [l0, l1, l2, l3, l4, l5, l6] (w.toList ++ st) h2 Q) (fun E h2 => Q (.inr E, h2)))) := (W_invV (st := st) f109_126 rfl rfl (by simp only [List.length_cons]; omega) rfl rfl hp).trans (by simp only [hm109, if_true])
theorem f109_129 : fetch 109 129 = some (.istore 6, 2, [], .null) := by decide +kernel
theorem w109_129 : Wp d 109 129 [l0, l1, l2, l3, l4, l5, l6] (.int x :: st) h Q = Wp d 109 131 [l0, l1, l2, l3, l4, kl l5, some (.int x)] st h Q := (W_st1 (pc' := 131) (k := 6) f109_129 rfl rfl (by simp only [List.length_cons, List.length_nil]; omega)).trans (by rw [pst1_succ]; rfl)
theorem f109_131 : fetch 109 131 = some (.iload 5, 2, [], .null) := by decide +kernel
theorem w109_131 : Wp d 109 131 [l0, l1, l2, l3, l4, some (.int x), l6] st h Q = Wp d 109 133 [l0, l1, l2, l3, l4, some (.int x), l6] (.int x :: st) h Q := W_go f109_131 rfl
theorem f109_133 : fetch 109 133 = some (.ifCond .eq 10, 3, [], .null) := by decide +kernel
theorem w109_133 : Wp d 109 133 [l0, l1, l2, l3, l4, l5, l6] (.int x :: st) h Q = if icond .eq x 0 = true then Wp d 109 143 [l0, l1, l2, l3, l4, l5, l6] st h Q else Wp d 109 136 [l0, l1, l2, l3, l4, l5, l6] st h Q := W_if f109_133 rfl
theorem f109_136 : fetch 109 136 = some (.iload 6, 2, [], .null) := by decide +kernel
theorem w109_136 : Wp d 109 136 [l0, l1, l2, l3, l4, l5, some (.int x)] st h Q = Wp d 109 138 [l0, l1, l2, l3, l4, l5, some (.int x)] (.int x :: st) h Q := W_go f109_136 rfl
theorem f109_138 : fetch 109 138 = some (.iload 4, 2, [], .null) := by decide +kernel
theorem w109_138 : Wp d 109 138 [l0, l1, l2, l3, some (.int x), l5, l6] st h Q = Wp d 109 140 [l0, l1, l2, l3, some (.int x), l5, l6] (.int x :: st) h Q := W_go f109_138 rfl
theorem f109_140 : fetch 109 140 = some (.if_icmp .ge 10, 3, [], .null) := by decide +kernel
theorem w109_140 : Wp d 109 140 [l0, l1, l2, l3, l4, l5, l6] (.int y :: .int x :: st) h Q = if icond .ge x y = true then Wp d 109 150 [l0, l1, l2, l3, l4, l5, l6] st h Q else Wp d 109 143 [l0, l1, l2, l3, l4, l5, l6] st h Q := W_if f109_140 rfl
theorem f109_143 : fetch 109 143 = some (.iload 5, 2, [], .null) := by decide +kernel
theorem w109_143 : Wp d 109 143 [l0, l1, l2, l3, l4, some (.int x), l6] st h Q = Wp d 109 145 [l0, l1, l2, l3, l4, some (.int x), l6] (.int x :: st) h Q := W_go f109_143 rfl
theorem f109_145 : fetch 109 145 = some (.istore_n 3, 1, [], .null) := by decide +kernel
theorem w109_145 : Wp d 109 145 [l0, l1, l2, l3, l4, l5, l6] (.int x :: st) h Q = Wp d 109 146 [l0, l1, kl l2, some (.int x), l4, l5, l6] st h Q := (W_st1 (pc' := 146) (k := 3) f109_145 rfl rfl (by simp only [List.length_cons, List.length_nil]; omega)).trans (by rw [pst1_succ]; rfl)
theorem f109_146 : fetch 109 146 = some (.iload 6, 2, [], .null) := by decide +kernel
theorem w109_146 : Wp d 109 146 [l0, l1, l2, l3, l4, l5, some (.int x)] st h Q = Wp d 109 148 [l0, l1, l2, l3, l4, l5, some (.int x)] (.int x :: st) h Q := W_go f109_146 rfl
theorem f109_148 : fetch 109 148 = some (.istore 4, 2, [], .null) := by decide +kernel
theorem w109_148 : Wp d 109 148 [l0, l1, l2, l3, l4, l5, l6] (.int x :: st) h Q = Wp d 109 150 [l0, l1, l2, kl l3, some (.int x), l5, l6] st h Q := (W_st1 (pc' := 150) (k := 4) f109_148 rfl rfl (by simp only [List.length_cons, List.length_nil]; omega)).trans (by rw [pst1_succ]; rfl)
theorem f109_150 : fetch 109 150 = some (.iinc 5 1, 3, [], .null) := by decide +kernel
theorem w109_150 : Wp d 109 150 [l0, l1, l2, l3, l4, some (.int x), l6] st h Q = Wp d 109 153 [l0, l1, l2, l3, kl l4, some (.int (x + (1 : Int32))), l6] st h Q := (W_iinc (y := (1 : Int32)) f109_150 rfl (by simp only [List.length_cons, List.length_nil]; omega) (by decide)).trans (by rw [pst1_succ]; rfl)
theorem f109_153 : fetch 109 153 = some (.goto (-95), 3, [], .null) := by decide +kernel
theorem w109_153 : Wp d 109 153 [l0, l1, l2, l3, l4, l5, l6] st h Q = Wp d 109 58 [l0, l1, l2, l3, l4, l5, l6] st h Q := W_go f109_153 rfl
theorem f109_156 : fetch 109 156 = some (.iload_n 3, 1, [], .null) := by decide +kernel
theorem w109_156 : Wp d 109 156 [l0, l1, l2, some (.int x), l4, l5, l6] st h Q = Wp d 109 157 [l0, l1, l2, some (.int x), l4, l5, l6] (.int x :: st) h Q := W_go f109_156 rfl
theorem f109_157 : fetch 109 157 = some (.ireturn, 1, [], .null) := by decide +kernel
theorem w109_157 : Wp d 109 157 [l0, l1, l2, l3, l4, l5, l6] [.int x] h Q = Q (.inl (some (.int x)), h) := W_iret f109_157 hr109
theorem hm110 : mhs 110 = [] := by decide +kernel
theorem f110_0 : fetch 110 0 = some (.aload_n 0, 1, [], .null) := by decide +kernel
theorem w110_0 : Wp d 110 0 [some (.ref a), l1, l2, l3] st h Q = Wp d 110 1 [some (.ref a), l1, l2, l3] (.ref a :: st) h Q := W_go f110_0 rfl
theorem f110_1 : fetch 110 1 = some (.getfield 35, 3, [7, 2, 2154, 0], .null) := by decide +kernel
theorem w110_1 : Wp d 110 1 [l0, l1, l2, l3] (.ref a :: st) h Q = gP (h.2 a) 7 2 (fun w => Wp d 110 4 [l0, l1, l2, l3] (w :: st) h Q) := W_get f110_1 rfl
theorem f110_4 : fetch 110 4 = some (.getfield 70, 3, [6, 0, 2120, 0], .null) := by decide +kernel
theorem w110_4 : Wp d 110 4 [l0, l1, l2, l3] (.ref a :: st) h Q = gP (h.2 a) 6 0 (fun w => Wp d 110 7 [l0, l1, l2, l3] (w :: st) h Q) := W_get f110_4 rfl
theorem f110_7 : fetch 110 7 = some (.getfield 151, 3, [0, 0, 1057, 0], .null) := by decide +kernel
theorem w110_7 : Wp d 110 7 [l0, l1, l2, l3] (.ref a :: st) h Q = gP (h.2 a) 0 0 (fun w => Wp d 110 10 [l0, l1, l2, l3] (w :: st) h Q) := W_get f110_7 rfl
theorem f110_10 : fetch 110 10 = some (.istore_n 1, 1, [], .null) := by decide +kernel
theorem w110_10 : Wp d 110 10 [l0, l1, l2, l3] (.int x :: st) h Q = Wp d 110 11 [kl l0, some (.int x), l2, l3] st h Q := (W_st1 (pc' := 11) (k := 1) f110_10 rfl rfl (by simp only [List.length_cons, List.length_nil]; omega)).trans (by rw [pst1_succ]; rfl)
theorem f110_11 : fetch 110 11 = some (.iload_n 1, 1, [], .null) := by decide +kernel
theorem w110_11 : Wp d 110 11 [l0, some (.int x), l2, l3] st h Q = Wp d 110 12 [l0, some (.int x), l2, l3] (.int x :: st) h Q := W_go f110_11 rfl
theorem f110_12 : fetch 110 12 = some (.ifCond .gt 5, 3, [], .null) := by decide +kernel
theorem w110_12 : Wp d 110 12 [l0, l1, l2, l3] (.int x :: st) h Q = if icond .gt x 0 = true then Wp d 110 17 [l0, l1, l2, l3] st h Q else Wp d 110 15 [l0, l1, l2, l3] st h Q := W_if f110_12 rfl
theorem f110_15 : fetch 110 15 = some (.dconst 0, 1, [], .null) := by decide +kernel
theorem w110_15 : Wp d 110 15 [l0, l1, l2, l3] st h Q = Wp d 110 16 [l0, l1, l2, l3] (.double FP.dconst0 :: st) h Q := W_go f110_15 rfl
theorem f110_16 : fetch 110 16 = some (.dreturn, 1, [], .null) := by decide +kernel
theorem w110_16 : Wp d 110 16 [l0, l1, l2, l3] [.double xd] h Q = Q (.inl (some (.double xd)), h) := W_fin f110_16 rfl
theorem f110_17 : fetch 110 17 = some (.iconst 0, 1, [], .null) := by decide +kernel
theorem w110_17 : Wp d 110 17 [l0, l1, l2, l3] st h Q = Wp d 110 18 [l0, l1, l2, l3] (.int (0 : Int32) :: st) h Q := W_go f110_17 rfl
theorem f110_18 : fetch 110 18 = some (.istore_n 2, 1, [], .null) := by decide +kernel
theorem w110_18 : Wp d 110 18 [l0, l1, l2, l3] (.int x :: st) h Q = Wp d 110 19 [l0, kl l1, some (.int x), l3] st h Q := (W_st1 (pc' := 19) (k := 2) f110_18 rfl rfl (by simp only [List.length_cons, List.length_nil]; omega)).trans (by rw [pst1_succ]; rfl)
theorem f110_19 : fetch 110 19 = some (.iconst 0, 1, [], .null) := by decide +kernel
theorem w110_19 : Wp d 110 19 [l0, l1, l2, l3] st h Q = Wp d 110 20 [l0, l1, l2, l3] (.int (0 : Int32) :: st) h Q := W_go f110_19 rfl
theorem f110_20 : fetch 110 20 = some (.istore_n 3, 1, [], .null) := by decide +kernel
theorem w110_20 : Wp d 110 20 [l0, l1, l2, l3] (.int x :: st) h Q = Wp d 110 21 [l0, l1, kl l2, some (.int x)] st h Q := (W_st1 (pc' := 21) (k := 3) f110_20 rfl rfl (by simp only [List.length_cons, List.length_nil]; omega)).trans (by rw [pst1_succ]; rfl)
theorem f110_21 : fetch 110 21 = some (.iload_n 3, 1, [], .null) := by decide +kernel
theorem w110_21 : Wp d 110 21 [l0, l1, l2, some (.int x)] st h Q = Wp d 110 22 [l0, l1, l2, some (.int x)] (.int x :: st) h Q := W_go f110_21 rfl
theorem f110_22 : fetch 110 22 = some (.iload_n 1, 1, [], .null) := by decide +kernel
theorem w110_22 : Wp d 110 22 [l0, some (.int x), l2, l3] st h Q = Wp d 110 23 [l0, some (.int x), l2, l3] (.int x :: st) h Q := W_go f110_22 rfl
theorem f110_23 : fetch 110 23 = some (.if_icmp .ge 36, 3, [], .null) := by decide +kernel
theorem w110_23 : Wp d 110 23 [l0, l1, l2, l3] (.int y :: .int x :: st) h Q = if icond .ge x y = true then Wp d 110 59 [l0, l1, l2, l3] st h Q else Wp d 110 26 [l0, l1, l2, l3] st h Q := W_if f110_23 rfl
theorem f110_26 : fetch 110 26 = some (.iload_n 3, 1, [], .null) := by decide +kernel
theorem w110_26 : Wp d 110 26 [l0, l1, l2, some (.int x)] st h Q = Wp d 110 27 [l0, l1, l2, some (.int x)] (.int x :: st) h Q := W_go f110_26 rfl
theorem f110_27 : fetch 110 27 = some (.aload_n 0, 1, [], .null) := by decide +kernel
theorem w110_27 : Wp d 110 27 [some (.ref a), l1, l2, l3] st h Q = Wp d 110 28 [some (.ref a), l1, l2, l3] (.ref a :: st) h Q := W_go f110_27 rfl
theorem f110_28 : fetch 110 28 = some (.getfield 35, 3, [7, 2, 2154, 0], .null) := by decide +kernel
theorem w110_28 : Wp d 110 28 [l0, l1, l2, l3] (.ref a :: st) h Q = gP (h.2 a) 7 2 (fun w => Wp d 110 31 [l0, l1, l2, l3] (w :: st) h Q) := W_get f110_28 rfl
theorem f110_31 : fetch 110 31 = some (.getfield 163, 3, [6, 1, 2122, 0], .null) := by decide +kernel
theorem w110_31 : Wp d 110 31 [l0, l1, l2, l3] (.ref a :: st) h Q = gP (h.2 a) 6 1 (fun w => Wp d 110 34 [l0, l1, l2, l3] (w :: st) h Q) := W_get f110_31 rfl
theorem f110_34 : fetch 110 34 = some (.arraylength, 1, [], .null) := by decide +kernel
theorem w110_34 : Wp d 110 34 [l0, l1, l2, l3] (.ref a :: st) h Q = nP (h.2 a) (fun w => Wp d 110 35 [l0, l1, l2, l3] (.int w :: st) h Q) := W_len f110_34 rfl
theorem f110_35 : fetch 110 35 = some (.if_icmp .ge 24, 3, [], .null) := by decide +kernel
theorem w110_35 : Wp d 110 35 [l0, l1, l2, l3] (.int y :: .int x :: st) h Q = if icond .ge x y = true then Wp d 110 59 [l0, l1, l2, l3] st h Q else Wp d 110 38 [l0, l1, l2, l3] st h Q := W_if f110_35 rfl
theorem f110_38 : fetch 110 38 = some (.iload_n 2, 1, [], .null) := by decide +kernel
theorem w110_38 : Wp d 110 38 [l0, l1, some (.int x), l3] st h Q = Wp d 110 39 [l0, l1, some (.int x), l3] (.int x :: st) h Q := W_go f110_38 rfl
theorem f110_39 : fetch 110 39 = some (.aload_n 0, 1, [], .null) := by decide +kernel
theorem w110_39 : Wp d 110 39 [some (.ref a), l1, l2, l3] st h Q = Wp d 110 40 [some (.ref a), l1, l2, l3] (.ref a :: st) h Q := W_go f110_39 rfl
theorem f110_40 : fetch 110 40 = some (.getfield 35, 3, [7, 2, 2154, 0], .null) := by decide +kernel
theorem w110_40 : Wp d 110 40 [l0, l1, l2, l3] (.ref a :: st) h Q = gP (h.2 a) 7 2 (fun w => Wp d 110 43 [l0, l1, l2, l3] (w :: st) h Q) := W_get f110_40 rfl
theorem f110_43 : fetch 110 43 = some (.getfield 163, 3, [6, 1, 2122, 0], .null) := by decide +kernel
theorem w110_43 : Wp d 110 43 [l0, l1, l2, l3] (.ref a :: st) h Q = gP (h.2 a) 6 1 (fun w => Wp d 110 46 [l0, l1, l2, l3] (w :: st) h Q) := W_get f110_43 rfl
theorem f110_46 : fetch 110 46 = some (.iload_n 3, 1, [], .null) := by decide +kernel
theorem w110_46 : Wp d 110 46 [l0, l1, l2, some (.int x)] st h Q = Wp d 110 47 [l0, l1, l2, some (.int x)] (.int x :: st) h Q := W_go f110_46 rfl
theorem f110_47 : fetch 110 47 = some (.aaload, 1, [], .null) := by decide +kernel
theorem w110_47 : Wp d 110 47 [l0, l1, l2, l3] (.int x :: .ref a :: st) h Q = qP (h.2 a) x (fun w => Wp d 110 48 [l0, l1, l2, l3] (w :: st) h Q) := W_qld f110_47 rfl
theorem f110_48 : fetch 110 48 = some (.getfield 128, 3, [1, 2, 2039, 0], .null) := by decide +kernel
theorem w110_48 : Wp d 110 48 [l0, l1, l2, l3] (.ref a :: st) h Q = gP (h.2 a) 1 2 (fun w => Wp d 110 51 [l0, l1, l2, l3] (w :: st) h Q) := W_get f110_48 rfl
theorem f110_51 : fetch 110 51 = some (.iadd, 1, [], .null) := by decide +kernel
theorem w110_51 : Wp d 110 51 [l0, l1, l2, l3] (.int y :: .int x :: st) h Q = Wp d 110 52 [l0, l1, l2, l3] (.int (x + y) :: st) h Q := W_go f110_51 rfl
theorem f110_52 : fetch 110 52 = some (.istore_n 2, 1, [], .null) := by decide +kernel
theorem w110_52 : Wp d 110 52 [l0, l1, l2, l3] (.int x :: st) h Q = Wp d 110 53 [l0, kl l1, some (.int x), l3] st h Q := (W_st1 (pc' := 53) (k := 2) f110_52 rfl rfl (by simp only [List.length_cons, List.length_nil]; omega)).trans (by rw [pst1_succ]; rfl)
theorem f110_53 : fetch 110 53 = some (.iinc 3 1, 3, [], .null) := by decide +kernel
theorem w110_53 : Wp d 110 53 [l0, l1, l2, some (.int x)] st h Q = Wp d 110 56 [l0, l1, kl l2, some (.int (x + (1 : Int32)))] st h Q := (W_iinc (y := (1 : Int32)) f110_53 rfl (by simp only [List.length_cons, List.length_nil]; omega) (by decide)).trans (by rw [pst1_succ]; rfl)
theorem f110_56 : fetch 110 56 = some (.goto (-35), 3, [], .null) := by decide +kernel
theorem w110_56 : Wp d 110 56 [l0, l1, l2, l3] st h Q = Wp d 110 21 [l0, l1, l2, l3] st h Q := W_go f110_56 rfl
theorem f110_59 : fetch 110 59 = some (.iload_n 2, 1, [], .null) := by decide +kernel
theorem w110_59 : Wp d 110 59 [l0, l1, some (.int x), l3] st h Q = Wp d 110 60 [l0, l1, some (.int x), l3] (.int x :: st) h Q := W_go f110_59 rfl
theorem f110_60 : fetch 110 60 = some (.i2d, 1, [], .null) := by decide +kernel
theorem w110_60 : Wp d 110 60 [l0, l1, l2, l3] (.int x :: st) h Q = Wp d 110 61 [l0, l1, l2, l3] (.double (FP.i2d x) :: st) h Q := W_go f110_60 rfl
theorem f110_61 : fetch 110 61 = some (.iload_n 1, 1, [], .null) := by decide +kernel
theorem w110_61 : Wp d 110 61 [l0, some (.int x), l2, l3] st h Q = Wp d 110 62 [l0, some (.int x), l2, l3] (.int x :: st) h Q := W_go f110_61 rfl
theorem f110_62 : fetch 110 62 = some (.i2d, 1, [], .null) := by decide +kernel
theorem w110_62 : Wp d 110 62 [l0, l1, l2, l3] (.int x :: st) h Q = Wp d 110 63 [l0, l1, l2, l3] (.double (FP.i2d x) :: st) h Q := W_go f110_62 rfl
theorem f110_63 : fetch 110 63 = some (.ddiv, 1, [], .null) := by decide +kernel
theorem w110_63 (hy : (FP.ddiv xd yd) &&& 0x7fffffffffffffff ≤ 0x7ff0000000000000) : Wp d 110 63 [l0, l1, l2, l3] (.double yd :: .double xd :: st) h Q = Wp d 110 64 [l0, l1, l2, l3] (.double (FP.ddiv xd yd) :: st) h Q := W_go f110_63 (by simp only [pstep, if_pos hy, pgo])
theorem f110_64 : fetch 110 64 = some (.dreturn, 1, [], .null) := by decide +kernel
theorem w110_64 : Wp d 110 64 [l0, l1, l2, l3] [.double xd] h Q = Q (.inl (some (.double xd)), h) := W_fin f110_64 rfl
theorem hm111 : mhs 111 = [] := by decide +kernel
theorem f111_0 : fetch 111 0 = some (.ldc2_w 213, 3, [3202], .long (1901)) := by decide +kernel
theorem w111_0 : Wp d 111 0 [l0, l1, l2, l3] st h Q = Wp d 111 3 [l0, l1, l2, l3] ((.long (1901)) :: st) h Q := W_go f111_0 rfl
theorem f111_3 : fetch 111 3 = some (.lstore_n 1, 1, [], .null) := by decide +kernel
theorem w111_3 : Wp d 111 3 [l0, l1, l2, l3] (.long x8 :: st) h Q = Wp d 111 4 [kl l0, some (.long x8), none, l3] st h Q := (W_st2 (pc' := 4) (k := 1) f111_3 rfl rfl (by simp only [List.length_cons, List.length_nil]; omega)).trans (by rw [pst2_succ]; rfl)
theorem f111_4 : fetch 111 4 = some (.lload_n 1, 1, [], .null) := by decide +kernel
theorem w111_4 : Wp d 111 4 [l0, some (.long x8), l2, l3] st h Q = Wp d 111 5 [l0, some (.long x8), l2, l3] (.long x8 :: st) h Q := W_go f111_4 rfl
theorem f111_5 : fetch 111 5 = some (.ldc2_w 215, 3, [3203], .long (31)) := by decide +kernel
theorem w111_5 : Wp d 111 5 [l0, l1, l2, l3] st h Q = Wp d 111 8 [l0, l1, l2, l3] ((.long (31)) :: st) h Q := W_go f111_5 rfl
theorem f111_8 : fetch 111 8 = some (.lmul, 1, [], .null) := by decide +kernel
theorem w111_8 : Wp d 111 8 [l0, l1, l2, l3] (.long y8 :: .long x8 :: st) h Q = Wp d 111 9 [l0, l1, l2, l3] (.long (x8 * y8) :: st) h Q := W_go f111_8 rfl
theorem f111_9 : fetch 111 9 = some (.aload_n 0, 1, [], .null) := by decide +kernel
theorem w111_9 : Wp d 111 9 [some (.ref a), l1, l2, l3] st h Q = Wp d 111 10 [some (.ref a), l1, l2, l3] (.ref a :: st) h Q := W_go f111_9 rfl
theorem f111_10 : fetch 111 10 = some (.getfield 35, 3, [7, 2, 2154, 0], .null) := by decide +kernel
theorem w111_10 : Wp d 111 10 [l0, l1, l2, l3] (.ref a :: st) h Q = gP (h.2 a) 7 2 (fun w => Wp d 111 13 [l0, l1, l2, l3] (w :: st) h Q) := W_get f111_10 rfl
theorem f111_13 : fetch 111 13 = some (.getfield 70, 3, [6, 0, 2120, 0], .null) := by decide +kernel
theorem w111_13 : Wp d 111 13 [l0, l1, l2, l3] (.ref a :: st) h Q = gP (h.2 a) 6 0 (fun w => Wp d 111 16 [l0, l1, l2, l3] (w :: st) h Q) := W_get f111_13 rfl
theorem f111_16 : fetch 111 16 = some (.getfield 151, 3, [0, 0, 1057, 0], .null) := by decide +kernel
theorem w111_16 : Wp d 111 16 [l0, l1, l2, l3] (.ref a :: st) h Q = gP (h.2 a) 0 0 (fun w => Wp d 111 19 [l0, l1, l2, l3] (w :: st) h Q) := W_get f111_16 rfl
theorem f111_19 : fetch 111 19 = some (.i2l, 1, [], .null) := by decide +kernel
theorem w111_19 : Wp d 111 19 [l0, l1, l2, l3] (.int x :: st) h Q = Wp d 111 20 [l0, l1, l2, l3] (.long x.toInt64 :: st) h Q := W_go f111_19 rfl
theorem f111_20 : fetch 111 20 = some (.ladd, 1, [], .null) := by decide +kernel
theorem w111_20 : Wp d 111 20 [l0, l1, l2, l3] (.long y8 :: .long x8 :: st) h Q = Wp d 111 21 [l0, l1, l2, l3] (.long (x8 + y8) :: st) h Q := W_go f111_20 rfl
theorem f111_21 : fetch 111 21 = some (.lstore_n 1, 1, [], .null) := by decide +kernel
theorem w111_21 : Wp d 111 21 [l0, l1, l2, l3] (.long x8 :: st) h Q = Wp d 111 22 [kl l0, some (.long x8), none, l3] st h Q := (W_st2 (pc' := 22) (k := 1) f111_21 rfl rfl (by simp only [List.length_cons, List.length_nil]; omega)).trans (by rw [pst2_succ]; rfl)
theorem f111_22 : fetch 111 22 = some (.lload_n 1, 1, [], .null) := by decide +kernel
theorem w111_22 : Wp d 111 22 [l0, some (.long x8), l2, l3] st h Q = Wp d 111 23 [l0, some (.long x8), l2, l3] (.long x8 :: st) h Q := W_go f111_22 rfl
theorem f111_23 : fetch 111 23 = some (.ldc2_w 215, 3, [3203], .long (31)) := by decide +kernel
theorem w111_23 : Wp d 111 23 [l0, l1, l2, l3] st h Q = Wp d 111 26 [l0, l1, l2, l3] ((.long (31)) :: st) h Q := W_go f111_23 rfl
theorem f111_26 : fetch 111 26 = some (.lmul, 1, [], .null) := by decide +kernel
theorem w111_26 : Wp d 111 26 [l0, l1, l2, l3] (.long y8 :: .long x8 :: st) h Q = Wp d 111 27 [l0, l1, l2, l3] (.long (x8 * y8) :: st) h Q := W_go f111_26 rfl
theorem f111_27 : fetch 111 27 = some (.aload_n 0, 1, [], .null) := by decide +kernel
theorem w111_27 : Wp d 111 27 [some (.ref a), l1, l2, l3] st h Q = Wp d 111 28 [some (.ref a), l1, l2, l3] (.ref a :: st) h Q := W_go f111_27 rfl
theorem f111_28 : fetch 111 28 = some (.getfield 35, 3, [7, 2, 2154, 0], .null) := by decide +kernel
theorem w111_28 : Wp d 111 28 [l0, l1, l2, l3] (.ref a :: st) h Q = gP (h.2 a) 7 2 (fun w => Wp d 111 31 [l0, l1, l2, l3] (w :: st) h Q) := W_get f111_28 rfl
theorem f111_31 : fetch 111 31 = some (.getfield 70, 3, [6, 0, 2120, 0], .null) := by decide +kernel
theorem w111_31 : Wp d 111 31 [l0, l1, l2, l3] (.ref a :: st) h Q = gP (h.2 a) 6 0 (fun w => Wp d 111 34 [l0, l1, l2, l3] (w :: st) h Q) := W_get f111_31 rfl
theorem f111_34 : fetch 111 34 = some (.getfield 95, 3, [0, 1, 1060, 0], .null) := by decide +kernel
theorem w111_34 : Wp d 111 34 [l0, l1, l2, l3] (.ref a :: st) h Q = gP (h.2 a) 0 1 (fun w => Wp d 111 37 [l0, l1, l2, l3] (w :: st) h Q) := W_get f111_34 rfl
theorem f111_37 : fetch 111 37 = some (.i2l, 1, [], .null) := by decide +kernel
theorem w111_37 : Wp d 111 37 [l0, l1, l2, l3] (.int x :: st) h Q = Wp d 111 38 [l0, l1, l2, l3] (.long x.toInt64 :: st) h Q := W_go f111_37 rfl
theorem f111_38 : fetch 111 38 = some (.ladd, 1, [], .null) := by decide +kernel
theorem w111_38 : Wp d 111 38 [l0, l1, l2, l3] (.long y8 :: .long x8 :: st) h Q = Wp d 111 39 [l0, l1, l2, l3] (.long (x8 + y8) :: st) h Q := W_go f111_38 rfl
theorem f111_39 : fetch 111 39 = some (.lstore_n 1, 1, [], .null) := by decide +kernel
theorem w111_39 : Wp d 111 39 [l0, l1, l2, l3] (.long x8 :: st) h Q = Wp d 111 40 [kl l0, some (.long x8), none, l3] st h Q := (W_st2 (pc' := 40) (k := 1) f111_39 rfl rfl (by simp only [List.length_cons, List.length_nil]; omega)).trans (by rw [pst2_succ]; rfl)
theorem f111_40 : fetch 111 40 = some (.lload_n 1, 1, [], .null) := by decide +kernel
theorem w111_40 : Wp d 111 40 [l0, some (.long x8), l2, l3] st h Q = Wp d 111 41 [l0, some (.long x8), l2, l3] (.long x8 :: st) h Q := W_go f111_40 rfl
theorem f111_41 : fetch 111 41 = some (.ldc2_w 215, 3, [3203], .long (31)) := by decide +kernel
theorem w111_41 : Wp d 111 41 [l0, l1, l2, l3] st h Q = Wp d 111 44 [l0, l1, l2, l3] ((.long (31)) :: st) h Q := W_go f111_41 rfl
theorem f111_44 : fetch 111 44 = some (.lmul, 1, [], .null) := by decide +kernel
theorem w111_44 : Wp d 111 44 [l0, l1, l2, l3] (.long y8 :: .long x8 :: st) h Q = Wp d 111 45 [l0, l1, l2, l3] (.long (x8 * y8) :: st) h Q := W_go f111_44 rfl
theorem f111_45 : fetch 111 45 = some (.aload_n 0, 1, [], .null) := by decide +kernel
theorem w111_45 : Wp d 111 45 [some (.ref a), l1, l2, l3] st h Q = Wp d 111 46 [some (.ref a), l1, l2, l3] (.ref a :: st) h Q := W_go f111_45 rfl
theorem f111_46 : fetch 111 46 = some (.getfield 35, 3, [7, 2, 2154, 0], .null) := by decide +kernel
theorem w111_46 : Wp d 111 46 [l0, l1, l2, l3] (.ref a :: st) h Q = gP (h.2 a) 7 2 (fun w => Wp d 111 49 [l0, l1, l2, l3] (w :: st) h Q) := W_get f111_46 rfl
theorem f111_49 : fetch 111 49 = some (.getfield 70, 3, [6, 0, 2120, 0], .null) := by decide +kernel
theorem w111_49 : Wp d 111 49 [l0, l1, l2, l3] (.ref a :: st) h Q = gP (h.2 a) 6 0 (fun w => Wp d 111 52 [l0, l1, l2, l3] (w :: st) h Q) := W_get f111_49 rfl
theorem f111_52 : fetch 111 52 = some (.getfield 154, 3, [0, 2, 1063, 0], .null) := by decide +kernel
theorem w111_52 : Wp d 111 52 [l0, l1, l2, l3] (.ref a :: st) h Q = gP (h.2 a) 0 2 (fun w => Wp d 111 55 [l0, l1, l2, l3] (w :: st) h Q) := W_get f111_52 rfl
theorem f111_55 : fetch 111 55 = some (.i2l, 1, [], .null) := by decide +kernel
theorem w111_55 : Wp d 111 55 [l0, l1, l2, l3] (.int x :: st) h Q = Wp d 111 56 [l0, l1, l2, l3] (.long x.toInt64 :: st) h Q := W_go f111_55 rfl
theorem f111_56 : fetch 111 56 = some (.ladd, 1, [], .null) := by decide +kernel
theorem w111_56 : Wp d 111 56 [l0, l1, l2, l3] (.long y8 :: .long x8 :: st) h Q = Wp d 111 57 [l0, l1, l2, l3] (.long (x8 + y8) :: st) h Q := W_go f111_56 rfl
theorem f111_57 : fetch 111 57 = some (.lstore_n 1, 1, [], .null) := by decide +kernel
theorem w111_57 : Wp d 111 57 [l0, l1, l2, l3] (.long x8 :: st) h Q = Wp d 111 58 [kl l0, some (.long x8), none, l3] st h Q := (W_st2 (pc' := 58) (k := 1) f111_57 rfl rfl (by simp only [List.length_cons, List.length_nil]; omega)).trans (by rw [pst2_succ]; rfl)
theorem f111_58 : fetch 111 58 = some (.lload_n 1, 1, [], .null) := by decide +kernel
theorem w111_58 : Wp d 111 58 [l0, some (.long x8), l2, l3] st h Q = Wp d 111 59 [l0, some (.long x8), l2, l3] (.long x8 :: st) h Q := W_go f111_58 rfl
theorem f111_59 : fetch 111 59 = some (.ldc2_w 215, 3, [3203], .long (31)) := by decide +kernel
theorem w111_59 : Wp d 111 59 [l0, l1, l2, l3] st h Q = Wp d 111 62 [l0, l1, l2, l3] ((.long (31)) :: st) h Q := W_go f111_59 rfl
theorem f111_62 : fetch 111 62 = some (.lmul, 1, [], .null) := by decide +kernel
theorem w111_62 : Wp d 111 62 [l0, l1, l2, l3] (.long y8 :: .long x8 :: st) h Q = Wp d 111 63 [l0, l1, l2, l3] (.long (x8 * y8) :: st) h Q := W_go f111_62 rfl
theorem f111_63 : fetch 111 63 = some (.aload_n 0, 1, [], .null) := by decide +kernel
theorem w111_63 : Wp d 111 63 [some (.ref a), l1, l2, l3] st h Q = Wp d 111 64 [some (.ref a), l1, l2, l3] (.ref a :: st) h Q := W_go f111_63 rfl
theorem f111_64 : fetch 111 64 = some (.invokevirtual 217, 3, [91, 1, 8, 0, 3204, 1001, 3157, 3155, 3156], .null) := by decide +kernel
theorem w111_64 (hp : psum st ≤ 8) : Wp d 111 64 [l0, l1, l2, l3] ((.ref b) :: st) h Q = rP (h.2 b) 7 (Cp d 91 [(.ref b)] h (fun o => cK o (fun w h2 => Wp d 111 67 [l0, l1, l2, l3] (w.toList ++ st) h2 Q) (fun E h2 => Q (.inr E, h2)))) := (W_invV (st := st) f111_64 rfl rfl (by simp only [List.length_cons]; omega) rfl rfl hp).trans (by simp only [hm111, if_true])
theorem f111_67 : fetch 111 67 = some (.i2l, 1, [], .null) := by decide +kernel
theorem w111_67 : Wp d 111 67 [l0, l1, l2, l3] (.int x :: st) h Q = Wp d 111 68 [l0, l1, l2, l3] (.long x.toInt64 :: st) h Q := W_go f111_67 rfl
theorem f111_68 : fetch 111 68 = some (.ladd, 1, [], .null) := by decide +kernel
theorem w111_68 : Wp d 111 68 [l0, l1, l2, l3] (.long y8 :: .long x8 :: st) h Q = Wp d 111 69 [l0, l1, l2, l3] (.long (x8 + y8) :: st) h Q := W_go f111_68 rfl
theorem f111_69 : fetch 111 69 = some (.lstore_n 1, 1, [], .null) := by decide +kernel
theorem w111_69 : Wp d 111 69 [l0, l1, l2, l3] (.long x8 :: st) h Q = Wp d 111 70 [kl l0, some (.long x8), none, l3] st h Q := (W_st2 (pc' := 70) (k := 1) f111_69 rfl rfl (by simp only [List.length_cons, List.length_nil]; omega)).trans (by rw [pst2_succ]; rfl)
theorem f111_70 : fetch 111 70 = some (.lload_n 1, 1, [], .null) := by decide +kernel
theorem w111_70 : Wp d 111 70 [l0, some (.long x8), l2, l3] st h Q = Wp d 111 71 [l0, some (.long x8), l2, l3] (.long x8 :: st) h Q := W_go f111_70 rfl
theorem f111_71 : fetch 111 71 = some (.ldc2_w 215, 3, [3203], .long (31)) := by decide +kernel
theorem w111_71 : Wp d 111 71 [l0, l1, l2, l3] st h Q = Wp d 111 74 [l0, l1, l2, l3] ((.long (31)) :: st) h Q := W_go f111_71 rfl
theorem f111_74 : fetch 111 74 = some (.lmul, 1, [], .null) := by decide +kernel
theorem w111_74 : Wp d 111 74 [l0, l1, l2, l3] (.long y8 :: .long x8 :: st) h Q = Wp d 111 75 [l0, l1, l2, l3] (.long (x8 * y8) :: st) h Q := W_go f111_74 rfl
theorem f111_75 : fetch 111 75 = some (.aload_n 0, 1, [], .null) := by decide +kernel
theorem w111_75 : Wp d 111 75 [some (.ref a), l1, l2, l3] st h Q = Wp d 111 76 [some (.ref a), l1, l2, l3] (.ref a :: st) h Q := W_go f111_75 rfl
theorem f111_76 : fetch 111 76 = some (.getfield 35, 3, [7, 2, 2154, 0], .null) := by decide +kernel
theorem w111_76 : Wp d 111 76 [l0, l1, l2, l3] (.ref a :: st) h Q = gP (h.2 a) 7 2 (fun w => Wp d 111 79 [l0, l1, l2, l3] (w :: st) h Q) := W_get f111_76 rfl
theorem f111_79 : fetch 111 79 = some (.getfield 167, 3, [6, 6, 2132, 0], .null) := by decide +kernel
theorem w111_79 : Wp d 111 79 [l0, l1, l2, l3] (.ref a :: st) h Q = gP (h.2 a) 6 6 (fun w => Wp d 111 82 [l0, l1, l2, l3] (w :: st) h Q) := W_get f111_79 rfl
theorem f111_82 : fetch 111 82 = some (.i2l, 1, [], .null) := by decide +kernel
theorem w111_82 : Wp d 111 82 [l0, l1, l2, l3] (.int x :: st) h Q = Wp d 111 83 [l0, l1, l2, l3] (.long x.toInt64 :: st) h Q := W_go f111_82 rfl
theorem f111_83 : fetch 111 83 = some (.ladd, 1, [], .null) := by decide +kernel
theorem w111_83 : Wp d 111 83 [l0, l1, l2, l3] (.long y8 :: .long x8 :: st) h Q = Wp d 111 84 [l0, l1, l2, l3] (.long (x8 + y8) :: st) h Q := W_go f111_83 rfl
theorem f111_84 : fetch 111 84 = some (.lstore_n 1, 1, [], .null) := by decide +kernel
theorem w111_84 : Wp d 111 84 [l0, l1, l2, l3] (.long x8 :: st) h Q = Wp d 111 85 [kl l0, some (.long x8), none, l3] st h Q := (W_st2 (pc' := 85) (k := 1) f111_84 rfl rfl (by simp only [List.length_cons, List.length_nil]; omega)).trans (by rw [pst2_succ]; rfl)
theorem f111_85 : fetch 111 85 = some (.lload_n 1, 1, [], .null) := by decide +kernel
theorem w111_85 : Wp d 111 85 [l0, some (.long x8), l2, l3] st h Q = Wp d 111 86 [l0, some (.long x8), l2, l3] (.long x8 :: st) h Q := W_go f111_85 rfl
theorem f111_86 : fetch 111 86 = some (.ldc2_w 215, 3, [3203], .long (31)) := by decide +kernel
theorem w111_86 : Wp d 111 86 [l0, l1, l2, l3] st h Q = Wp d 111 89 [l0, l1, l2, l3] ((.long (31)) :: st) h Q := W_go f111_86 rfl
theorem f111_89 : fetch 111 89 = some (.lmul, 1, [], .null) := by decide +kernel
theorem w111_89 : Wp d 111 89 [l0, l1, l2, l3] (.long y8 :: .long x8 :: st) h Q = Wp d 111 90 [l0, l1, l2, l3] (.long (x8 * y8) :: st) h Q := W_go f111_89 rfl
theorem f111_90 : fetch 111 90 = some (.aload_n 0, 1, [], .null) := by decide +kernel
theorem w111_90 : Wp d 111 90 [some (.ref a), l1, l2, l3] st h Q = Wp d 111 91 [some (.ref a), l1, l2, l3] (.ref a :: st) h Q := W_go f111_90 rfl
theorem f111_91 : fetch 111 91 = some (.getfield 35, 3, [7, 2, 2154, 0], .null) := by decide +kernel
theorem w111_91 : Wp d 111 91 [l0, l1, l2, l3] (.ref a :: st) h Q = gP (h.2 a) 7 2 (fun w => Wp d 111 94 [l0, l1, l2, l3] (w :: st) h Q) := W_get f111_91 rfl
theorem f111_94 : fetch 111 94 = some (.getfield 170, 3, [6, 4, 2128, 0], .null) := by decide +kernel
theorem w111_94 : Wp d 111 94 [l0, l1, l2, l3] (.ref a :: st) h Q = gP (h.2 a) 6 4 (fun w => Wp d 111 97 [l0, l1, l2, l3] (w :: st) h Q) := W_get f111_94 rfl
theorem f111_97 : fetch 111 97 = some (.i2l, 1, [], .null) := by decide +kernel
theorem w111_97 : Wp d 111 97 [l0, l1, l2, l3] (.int x :: st) h Q = Wp d 111 98 [l0, l1, l2, l3] (.long x.toInt64 :: st) h Q := W_go f111_97 rfl
theorem f111_98 : fetch 111 98 = some (.ladd, 1, [], .null) := by decide +kernel
theorem w111_98 : Wp d 111 98 [l0, l1, l2, l3] (.long y8 :: .long x8 :: st) h Q = Wp d 111 99 [l0, l1, l2, l3] (.long (x8 + y8) :: st) h Q := W_go f111_98 rfl
theorem f111_99 : fetch 111 99 = some (.lstore_n 1, 1, [], .null) := by decide +kernel
theorem w111_99 : Wp d 111 99 [l0, l1, l2, l3] (.long x8 :: st) h Q = Wp d 111 100 [kl l0, some (.long x8), none, l3] st h Q := (W_st2 (pc' := 100) (k := 1) f111_99 rfl rfl (by simp only [List.length_cons, List.length_nil]; omega)).trans (by rw [pst2_succ]; rfl)
theorem f111_100 : fetch 111 100 = some (.lload_n 1, 1, [], .null) := by decide +kernel
theorem w111_100 : Wp d 111 100 [l0, some (.long x8), l2, l3] st h Q = Wp d 111 101 [l0, some (.long x8), l2, l3] (.long x8 :: st) h Q := W_go f111_100 rfl
theorem f111_101 : fetch 111 101 = some (.ldc2_w 215, 3, [3203], .long (31)) := by decide +kernel
theorem w111_101 : Wp d 111 101 [l0, l1, l2, l3] st h Q = Wp d 111 104 [l0, l1, l2, l3] ((.long (31)) :: st) h Q := W_go f111_101 rfl
theorem f111_104 : fetch 111 104 = some (.lmul, 1, [], .null) := by decide +kernel
theorem w111_104 : Wp d 111 104 [l0, l1, l2, l3] (.long y8 :: .long x8 :: st) h Q = Wp d 111 105 [l0, l1, l2, l3] (.long (x8 * y8) :: st) h Q := W_go f111_104 rfl
theorem f111_105 : fetch 111 105 = some (.aload_n 0, 1, [], .null) := by decide +kernel
theorem w111_105 : Wp d 111 105 [some (.ref a), l1, l2, l3] st h Q = Wp d 111 106 [some (.ref a), l1, l2, l3] (.ref a :: st) h Q := W_go f111_105 rfl
theorem f111_106 : fetch 111 106 = some (.getfield 35, 3, [7, 2, 2154, 0], .null) := by decide +kernel
theorem w111_106 : Wp d 111 106 [l0, l1, l2, l3] (.ref a :: st) h Q = gP (h.2 a) 7 2 (fun w => Wp d 111 109 [l0, l1, l2, l3] (w :: st) h Q) := W_get f111_106 rfl
theorem f111_109 : fetch 111 109 = some (.getfield 173, 3, [6, 5, 2130, 0], .null) := by decide +kernel
theorem w111_109 : Wp d 111 109 [l0, l1, l2, l3] (.ref a :: st) h Q = gP (h.2 a) 6 5 (fun w => Wp d 111 112 [l0, l1, l2, l3] (w :: st) h Q) := W_get f111_109 rfl
theorem f111_112 : fetch 111 112 = some (.i2l, 1, [], .null) := by decide +kernel
theorem w111_112 : Wp d 111 112 [l0, l1, l2, l3] (.int x :: st) h Q = Wp d 111 113 [l0, l1, l2, l3] (.long x.toInt64 :: st) h Q := W_go f111_112 rfl
theorem f111_113 : fetch 111 113 = some (.ladd, 1, [], .null) := by decide +kernel
theorem w111_113 : Wp d 111 113 [l0, l1, l2, l3] (.long y8 :: .long x8 :: st) h Q = Wp d 111 114 [l0, l1, l2, l3] (.long (x8 + y8) :: st) h Q := W_go f111_113 rfl
theorem f111_114 : fetch 111 114 = some (.lstore_n 1, 1, [], .null) := by decide +kernel
theorem w111_114 : Wp d 111 114 [l0, l1, l2, l3] (.long x8 :: st) h Q = Wp d 111 115 [kl l0, some (.long x8), none, l3] st h Q := (W_st2 (pc' := 115) (k := 1) f111_114 rfl rfl (by simp only [List.length_cons, List.length_nil]; omega)).trans (by rw [pst2_succ]; rfl)
theorem f111_115 : fetch 111 115 = some (.lload_n 1, 1, [], .null) := by decide +kernel
theorem w111_115 : Wp d 111 115 [l0, some (.long x8), l2, l3] st h Q = Wp d 111 116 [l0, some (.long x8), l2, l3] (.long x8 :: st) h Q := W_go f111_115 rfl
theorem f111_116 : fetch 111 116 = some (.ldc2_w 215, 3, [3203], .long (31)) := by decide +kernel
theorem w111_116 : Wp d 111 116 [l0, l1, l2, l3] st h Q = Wp d 111 119 [l0, l1, l2, l3] ((.long (31)) :: st) h Q := W_go f111_116 rfl
theorem f111_119 : fetch 111 119 = some (.lmul, 1, [], .null) := by decide +kernel
theorem w111_119 : Wp d 111 119 [l0, l1, l2, l3] (.long y8 :: .long x8 :: st) h Q = Wp d 111 120 [l0, l1, l2, l3] (.long (x8 * y8) :: st) h Q := W_go f111_119 rfl
theorem f111_120 : fetch 111 120 = some (.aload_n 0, 1, [], .null) := by decide +kernel
theorem w111_120 : Wp d 111 120 [some (.ref a), l1, l2, l3] st h Q = Wp d 111 121 [some (.ref a), l1, l2, l3] (.ref a :: st) h Q := W_go f111_120 rfl
theorem f111_121 : fetch 111 121 = some (.getfield 35, 3, [7, 2, 2154, 0], .null) := by decide +kernel
theorem w111_121 : Wp d 111 121 [l0, l1, l2, l3] (.ref a :: st) h Q = gP (h.2 a) 7 2 (fun w => Wp d 111 124 [l0, l1, l2, l3] (w :: st) h Q) := W_get f111_121 rfl
theorem f111_124 : fetch 111 124 = some (.getfield 170, 3, [6, 4, 2128, 0], .null) := by decide +kernel
theorem w111_124 : Wp d 111 124 [l0, l1, l2, l3] (.ref a :: st) h Q = gP (h.2 a) 6 4 (fun w => Wp d 111 127 [l0, l1, l2, l3] (w :: st) h Q) := W_get f111_124 rfl
theorem f111_127 : fetch 111 127 = some (.invokestatic 176, 3, [114, 1, 0, 0, 3174, 1001, 3176, 3175], .null) := by decide +kernel
theorem w111_127 (hp : psum st ≤ 8) : Wp d 111 127 [l0, l1, l2, l3] (v0 :: st) h Q = Cp d 114 [v0] h (fun o => cK o (fun w h2 => Wp d 111 130 [l0, l1, l2, l3] (w.toList ++ st) h2 Q) (fun _ _ => False)) := (W_invS (st := st) f111_127 rfl rfl (by simp only [List.length_cons]; omega) rfl rfl hp)
theorem f111_130 : fetch 111 130 = some (.i2l, 1, [], .null) := by decide +kernel
theorem w111_130 : Wp d 111 130 [l0, l1, l2, l3] (.int x :: st) h Q = Wp d 111 131 [l0, l1, l2, l3] (.long x.toInt64 :: st) h Q := W_go f111_130 rfl
theorem f111_131 : fetch 111 131 = some (.ladd, 1, [], .null) := by decide +kernel
theorem w111_131 : Wp d 111 131 [l0, l1, l2, l3] (.long y8 :: .long x8 :: st) h Q = Wp d 111 132 [l0, l1, l2, l3] (.long (x8 + y8) :: st) h Q := W_go f111_131 rfl
theorem f111_132 : fetch 111 132 = some (.lstore_n 1, 1, [], .null) := by decide +kernel
theorem w111_132 : Wp d 111 132 [l0, l1, l2, l3] (.long x8 :: st) h Q = Wp d 111 133 [kl l0, some (.long x8), none, l3] st h Q := (W_st2 (pc' := 133) (k := 1) f111_132 rfl rfl (by simp only [List.length_cons, List.length_nil]; omega)).trans (by rw [pst2_succ]; rfl)
theorem f111_133 : fetch 111 133 = some (.lload_n 1, 1, [], .null) := by decide +kernel
theorem w111_133 : Wp d 111 133 [l0, some (.long x8), l2, l3] st h Q = Wp d 111 134 [l0, some (.long x8), l2, l3] (.long x8 :: st) h Q := W_go f111_133 rfl
theorem f111_134 : fetch 111 134 = some (.ldc2_w 215, 3, [3203], .long (31)) := by decide +kernel
theorem w111_134 : Wp d 111 134 [l0, l1, l2, l3] st h Q = Wp d 111 137 [l0, l1, l2, l3] ((.long (31)) :: st) h Q := W_go f111_134 rfl
theorem f111_137 : fetch 111 137 = some (.lmul, 1, [], .null) := by decide +kernel
theorem w111_137 : Wp d 111 137 [l0, l1, l2, l3] (.long y8 :: .long x8 :: st) h Q = Wp d 111 138 [l0, l1, l2, l3] (.long (x8 * y8) :: st) h Q := W_go f111_137 rfl
theorem f111_138 : fetch 111 138 = some (.aload_n 0, 1, [], .null) := by decide +kernel
theorem w111_138 : Wp d 111 138 [some (.ref a), l1, l2, l3] st h Q = Wp d 111 139 [some (.ref a), l1, l2, l3] (.ref a :: st) h Q := W_go f111_138 rfl
theorem f111_139 : fetch 111 139 = some (.getfield 35, 3, [7, 2, 2154, 0], .null) := by decide +kernel
theorem w111_139 : Wp d 111 139 [l0, l1, l2, l3] (.ref a :: st) h Q = gP (h.2 a) 7 2 (fun w => Wp d 111 142 [l0, l1, l2, l3] (w :: st) h Q) := W_get f111_139 rfl
theorem f111_142 : fetch 111 142 = some (.invokevirtual 179, 3, [54, 1, 7, 0, 3181, 1010, 3184, 3182, 3183], .null) := by decide +kernel
theorem w111_142 (hp : psum st ≤ 8) : Wp d 111 142 [l0, l1, l2, l3] ((.ref b) :: st) h Q = rP (h.2 b) 6 (Cp d 54 [(.ref b)] h (fun o => cK o (fun w h2 => Wp d 111 145 [l0, l1, l2, l3] (w.toList ++ st) h2 Q) (fun E h2 => Q (.inr E, h2)))) := (W_invV (st := st) f111_142 rfl rfl (by simp only [List.length_cons]; omega) rfl rfl hp).trans (by simp only [hm111, if_true])
theorem f111_145 : fetch 111 145 = some (.ifCond .eq 7, 3, [], .null) := by decide +kernel
theorem w111_145 : Wp d 111 145 [l0, l1, l2, l3] (.int x :: st) h Q = if icond .eq x 0 = true then Wp d 111 152 [l0, l1, l2, l3] st h Q else Wp d 111 148 [l0, l1, l2, l3] st h Q := W_if f111_145 rfl
theorem f111_148 : fetch 111 148 = some (.iconst 1, 1, [], .null) := by decide +kernel
theorem w111_148 : Wp d 111 148 [l0, l1, l2, l3] st h Q = Wp d 111 149 [l0, l1, l2, l3] (.int (1 : Int32) :: st) h Q := W_go f111_148 rfl
theorem f111_149 : fetch 111 149 = some (.goto 4, 3, [], .null) := by decide +kernel
theorem w111_149 : Wp d 111 149 [l0, l1, l2, l3] st h Q = Wp d 111 153 [l0, l1, l2, l3] st h Q := W_go f111_149 rfl
theorem f111_152 : fetch 111 152 = some (.iconst 0, 1, [], .null) := by decide +kernel
theorem w111_152 : Wp d 111 152 [l0, l1, l2, l3] st h Q = Wp d 111 153 [l0, l1, l2, l3] (.int (0 : Int32) :: st) h Q := W_go f111_152 rfl
theorem f111_153 : fetch 111 153 = some (.i2l, 1, [], .null) := by decide +kernel
theorem w111_153 : Wp d 111 153 [l0, l1, l2, l3] (.int x :: st) h Q = Wp d 111 154 [l0, l1, l2, l3] (.long x.toInt64 :: st) h Q := W_go f111_153 rfl
theorem f111_154 : fetch 111 154 = some (.ladd, 1, [], .null) := by decide +kernel
theorem w111_154 : Wp d 111 154 [l0, l1, l2, l3] (.long y8 :: .long x8 :: st) h Q = Wp d 111 155 [l0, l1, l2, l3] (.long (x8 + y8) :: st) h Q := W_go f111_154 rfl
theorem f111_155 : fetch 111 155 = some (.lstore_n 1, 1, [], .null) := by decide +kernel
theorem w111_155 : Wp d 111 155 [l0, l1, l2, l3] (.long x8 :: st) h Q = Wp d 111 156 [kl l0, some (.long x8), none, l3] st h Q := (W_st2 (pc' := 156) (k := 1) f111_155 rfl rfl (by simp only [List.length_cons, List.length_nil]; omega)).trans (by rw [pst2_succ]; rfl)
theorem f111_156 : fetch 111 156 = some (.lload_n 1, 1, [], .null) := by decide +kernel
theorem w111_156 : Wp d 111 156 [l0, some (.long x8), l2, l3] st h Q = Wp d 111 157 [l0, some (.long x8), l2, l3] (.long x8 :: st) h Q := W_go f111_156 rfl
theorem f111_157 : fetch 111 157 = some (.ldc2_w 215, 3, [3203], .long (31)) := by decide +kernel
theorem w111_157 : Wp d 111 157 [l0, l1, l2, l3] st h Q = Wp d 111 160 [l0, l1, l2, l3] ((.long (31)) :: st) h Q := W_go f111_157 rfl
theorem f111_160 : fetch 111 160 = some (.lmul, 1, [], .null) := by decide +kernel
theorem w111_160 : Wp d 111 160 [l0, l1, l2, l3] (.long y8 :: .long x8 :: st) h Q = Wp d 111 161 [l0, l1, l2, l3] (.long (x8 * y8) :: st) h Q := W_go f111_160 rfl
theorem f111_161 : fetch 111 161 = some (.aload_n 0, 1, [], .null) := by decide +kernel
theorem w111_161 : Wp d 111 161 [some (.ref a), l1, l2, l3] st h Q = Wp d 111 162 [some (.ref a), l1, l2, l3] (.ref a :: st) h Q := W_go f111_161 rfl
theorem f111_162 : fetch 111 162 = some (.getfield 35, 3, [7, 2, 2154, 0], .null) := by decide +kernel
theorem w111_162 : Wp d 111 162 [l0, l1, l2, l3] (.ref a :: st) h Q = gP (h.2 a) 7 2 (fun w => Wp d 111 165 [l0, l1, l2, l3] (w :: st) h Q) := W_get f111_162 rfl
theorem f111_165 : fetch 111 165 = some (.getfield 78, 3, [6, 3, 2126, 0], .null) := by decide +kernel
theorem w111_165 : Wp d 111 165 [l0, l1, l2, l3] (.ref a :: st) h Q = gP (h.2 a) 6 3 (fun w => Wp d 111 168 [l0, l1, l2, l3] (w :: st) h Q) := W_get f111_165 rfl
theorem f111_168 : fetch 111 168 = some (.i2l, 1, [], .null) := by decide +kernel
theorem w111_168 : Wp d 111 168 [l0, l1, l2, l3] (.int x :: st) h Q = Wp d 111 169 [l0, l1, l2, l3] (.long x.toInt64 :: st) h Q := W_go f111_168 rfl
theorem f111_169 : fetch 111 169 = some (.ladd, 1, [], .null) := by decide +kernel
theorem w111_169 : Wp d 111 169 [l0, l1, l2, l3] (.long y8 :: .long x8 :: st) h Q = Wp d 111 170 [l0, l1, l2, l3] (.long (x8 + y8) :: st) h Q := W_go f111_169 rfl
theorem f111_170 : fetch 111 170 = some (.lstore_n 1, 1, [], .null) := by decide +kernel
theorem w111_170 : Wp d 111 170 [l0, l1, l2, l3] (.long x8 :: st) h Q = Wp d 111 171 [kl l0, some (.long x8), none, l3] st h Q := (W_st2 (pc' := 171) (k := 1) f111_170 rfl rfl (by simp only [List.length_cons, List.length_nil]; omega)).trans (by rw [pst2_succ]; rfl)
theorem f111_171 : fetch 111 171 = some (.iconst 0, 1, [], .null) := by decide +kernel
theorem w111_171 : Wp d 111 171 [l0, l1, l2, l3] st h Q = Wp d 111 172 [l0, l1, l2, l3] (.int (0 : Int32) :: st) h Q := W_go f111_171 rfl
theorem f111_172 : fetch 111 172 = some (.istore_n 3, 1, [], .null) := by decide +kernel
theorem w111_172 : Wp d 111 172 [l0, l1, l2, l3] (.int x :: st) h Q = Wp d 111 173 [l0, l1, kl l2, some (.int x)] st h Q := (W_st1 (pc' := 173) (k := 3) f111_172 rfl rfl (by simp only [List.length_cons, List.length_nil]; omega)).trans (by rw [pst1_succ]; rfl)
theorem f111_173 : fetch 111 173 = some (.iload_n 3, 1, [], .null) := by decide +kernel
theorem w111_173 : Wp d 111 173 [l0, l1, l2, some (.int x)] st h Q = Wp d 111 174 [l0, l1, l2, some (.int x)] (.int x :: st) h Q := W_go f111_173 rfl
theorem f111_174 : fetch 111 174 = some (.aload_n 0, 1, [], .null) := by decide +kernel
theorem w111_174 : Wp d 111 174 [some (.ref a), l1, l2, l3] st h Q = Wp d 111 175 [some (.ref a), l1, l2, l3] (.ref a :: st) h Q := W_go f111_174 rfl
theorem f111_175 : fetch 111 175 = some (.getfield 35, 3, [7, 2, 2154, 0], .null) := by decide +kernel
theorem w111_175 : Wp d 111 175 [l0, l1, l2, l3] (.ref a :: st) h Q = gP (h.2 a) 7 2 (fun w => Wp d 111 178 [l0, l1, l2, l3] (w :: st) h Q) := W_get f111_175 rfl
theorem f111_178 : fetch 111 178 = some (.getfield 70, 3, [6, 0, 2120, 0], .null) := by decide +kernel
theorem w111_178 : Wp d 111 178 [l0, l1, l2, l3] (.ref a :: st) h Q = gP (h.2 a) 6 0 (fun w => Wp d 111 181 [l0, l1, l2, l3] (w :: st) h Q) := W_get f111_178 rfl
theorem f111_181 : fetch 111 181 = some (.getfield 151, 3, [0, 0, 1057, 0], .null) := by decide +kernel
theorem w111_181 : Wp d 111 181 [l0, l1, l2, l3] (.ref a :: st) h Q = gP (h.2 a) 0 0 (fun w => Wp d 111 184 [l0, l1, l2, l3] (w :: st) h Q) := W_get f111_181 rfl
theorem f111_184 : fetch 111 184 = some (.if_icmp .ge 35, 3, [], .null) := by decide +kernel
theorem w111_184 : Wp d 111 184 [l0, l1, l2, l3] (.int y :: .int x :: st) h Q = if icond .ge x y = true then Wp d 111 219 [l0, l1, l2, l3] st h Q else Wp d 111 187 [l0, l1, l2, l3] st h Q := W_if f111_184 rfl
theorem f111_187 : fetch 111 187 = some (.iload_n 3, 1, [], .null) := by decide +kernel
theorem w111_187 : Wp d 111 187 [l0, l1, l2, some (.int x)] st h Q = Wp d 111 188 [l0, l1, l2, some (.int x)] (.int x :: st) h Q := W_go f111_187 rfl
theorem f111_188 : fetch 111 188 = some (.aload_n 0, 1, [], .null) := by decide +kernel
theorem w111_188 : Wp d 111 188 [some (.ref a), l1, l2, l3] st h Q = Wp d 111 189 [some (.ref a), l1, l2, l3] (.ref a :: st) h Q := W_go f111_188 rfl
theorem f111_189 : fetch 111 189 = some (.getfield 35, 3, [7, 2, 2154, 0], .null) := by decide +kernel
theorem w111_189 : Wp d 111 189 [l0, l1, l2, l3] (.ref a :: st) h Q = gP (h.2 a) 7 2 (fun w => Wp d 111 192 [l0, l1, l2, l3] (w :: st) h Q) := W_get f111_189 rfl
theorem f111_192 : fetch 111 192 = some (.getfield 163, 3, [6, 1, 2122, 0], .null) := by decide +kernel
theorem w111_192 : Wp d 111 192 [l0, l1, l2, l3] (.ref a :: st) h Q = gP (h.2 a) 6 1 (fun w => Wp d 111 195 [l0, l1, l2, l3] (w :: st) h Q) := W_get f111_192 rfl
theorem f111_195 : fetch 111 195 = some (.arraylength, 1, [], .null) := by decide +kernel
theorem w111_195 : Wp d 111 195 [l0, l1, l2, l3] (.ref a :: st) h Q = nP (h.2 a) (fun w => Wp d 111 196 [l0, l1, l2, l3] (.int w :: st) h Q) := W_len f111_195 rfl
theorem f111_196 : fetch 111 196 = some (.if_icmp .ge 23, 3, [], .null) := by decide +kernel
theorem w111_196 : Wp d 111 196 [l0, l1, l2, l3] (.int y :: .int x :: st) h Q = if icond .ge x y = true then Wp d 111 219 [l0, l1, l2, l3] st h Q else Wp d 111 199 [l0, l1, l2, l3] st h Q := W_if f111_196 rfl
theorem f111_199 : fetch 111 199 = some (.aload_n 0, 1, [], .null) := by decide +kernel
theorem w111_199 : Wp d 111 199 [some (.ref a), l1, l2, l3] st h Q = Wp d 111 200 [some (.ref a), l1, l2, l3] (.ref a :: st) h Q := W_go f111_199 rfl
theorem f111_200 : fetch 111 200 = some (.getfield 35, 3, [7, 2, 2154, 0], .null) := by decide +kernel
theorem w111_200 : Wp d 111 200 [l0, l1, l2, l3] (.ref a :: st) h Q = gP (h.2 a) 7 2 (fun w => Wp d 111 203 [l0, l1, l2, l3] (w :: st) h Q) := W_get f111_200 rfl
theorem f111_203 : fetch 111 203 = some (.getfield 163, 3, [6, 1, 2122, 0], .null) := by decide +kernel
theorem w111_203 : Wp d 111 203 [l0, l1, l2, l3] (.ref a :: st) h Q = gP (h.2 a) 6 1 (fun w => Wp d 111 206 [l0, l1, l2, l3] (w :: st) h Q) := W_get f111_203 rfl
theorem f111_206 : fetch 111 206 = some (.iload_n 3, 1, [], .null) := by decide +kernel
theorem w111_206 : Wp d 111 206 [l0, l1, l2, some (.int x)] st h Q = Wp d 111 207 [l0, l1, l2, some (.int x)] (.int x :: st) h Q := W_go f111_206 rfl
theorem f111_207 : fetch 111 207 = some (.aaload, 1, [], .null) := by decide +kernel
theorem w111_207 : Wp d 111 207 [l0, l1, l2, l3] (.int x :: .ref a :: st) h Q = qP (h.2 a) x (fun w => Wp d 111 208 [l0, l1, l2, l3] (w :: st) h Q) := W_qld f111_207 rfl
theorem f111_208 : fetch 111 208 = some (.lload_n 1, 1, [], .null) := by decide +kernel
theorem w111_208 : Wp d 111 208 [l0, some (.long x8), l2, l3] st h Q = Wp d 111 209 [l0, some (.long x8), l2, l3] (.long x8 :: st) h Q := W_go f111_208 rfl
theorem f111_209 : fetch 111 209 = some (.invokevirtual 221, 3, [7, 2, 2, 0, 3205, 1011, 3208, 3206, 3207], .null) := by decide +kernel
theorem w111_209 (hp : psum st ≤ 8) : Wp d 111 209 [l0, l1, l2, l3] (v1 :: (.ref b) :: st) h Q = rP (h.2 b) 1 (Cp d 7 [(.ref b), v1] h (fun o => cK o (fun w h2 => Wp d 111 212 [l0, l1, l2, l3] (w.toList ++ st) h2 Q) (fun E h2 => Q (.inr E, h2)))) := (W_invV (st := st) f111_209 rfl rfl (by simp only [List.length_cons]; omega) rfl rfl hp).trans (by simp only [hm111, if_true])
theorem f111_212 : fetch 111 212 = some (.lstore_n 1, 1, [], .null) := by decide +kernel
theorem w111_212 : Wp d 111 212 [l0, l1, l2, l3] (.long x8 :: st) h Q = Wp d 111 213 [kl l0, some (.long x8), none, l3] st h Q := (W_st2 (pc' := 213) (k := 1) f111_212 rfl rfl (by simp only [List.length_cons, List.length_nil]; omega)).trans (by rw [pst2_succ]; rfl)
theorem f111_213 : fetch 111 213 = some (.iinc 3 1, 3, [], .null) := by decide +kernel
theorem w111_213 : Wp d 111 213 [l0, l1, l2, some (.int x)] st h Q = Wp d 111 216 [l0, l1, kl l2, some (.int (x + (1 : Int32)))] st h Q := (W_iinc (y := (1 : Int32)) f111_213 rfl (by simp only [List.length_cons, List.length_nil]; omega) (by decide)).trans (by rw [pst1_succ]; rfl)
theorem f111_216 : fetch 111 216 = some (.goto (-43), 3, [], .null) := by decide +kernel
theorem w111_216 : Wp d 111 216 [l0, l1, l2, l3] st h Q = Wp d 111 173 [l0, l1, l2, l3] st h Q := W_go f111_216 rfl
theorem f111_219 : fetch 111 219 = some (.iconst 0, 1, [], .null) := by decide +kernel
theorem w111_219 : Wp d 111 219 [l0, l1, l2, l3] st h Q = Wp d 111 220 [l0, l1, l2, l3] (.int (0 : Int32) :: st) h Q := W_go f111_219 rfl
theorem f111_220 : fetch 111 220 = some (.istore_n 3, 1, [], .null) := by decide +kernel
theorem w111_220 : Wp d 111 220 [l0, l1, l2, l3] (.int x :: st) h Q = Wp d 111 221 [l0, l1, kl l2, some (.int x)] st h Q := (W_st1 (pc' := 221) (k := 3) f111_220 rfl rfl (by simp only [List.length_cons, List.length_nil]; omega)).trans (by rw [pst1_succ]; rfl)
theorem f111_221 : fetch 111 221 = some (.iload_n 3, 1, [], .null) := by decide +kernel
theorem w111_221 : Wp d 111 221 [l0, l1, l2, some (.int x)] st h Q = Wp d 111 222 [l0, l1, l2, some (.int x)] (.int x :: st) h Q := W_go f111_221 rfl
theorem f111_222 : fetch 111 222 = some (.aload_n 0, 1, [], .null) := by decide +kernel
theorem w111_222 : Wp d 111 222 [some (.ref a), l1, l2, l3] st h Q = Wp d 111 223 [some (.ref a), l1, l2, l3] (.ref a :: st) h Q := W_go f111_222 rfl
theorem f111_223 : fetch 111 223 = some (.getfield 35, 3, [7, 2, 2154, 0], .null) := by decide +kernel
theorem w111_223 : Wp d 111 223 [l0, l1, l2, l3] (.ref a :: st) h Q = gP (h.2 a) 7 2 (fun w => Wp d 111 226 [l0, l1, l2, l3] (w :: st) h Q) := W_get f111_223 rfl
theorem f111_226 : fetch 111 226 = some (.getfield 78, 3, [6, 3, 2126, 0], .null) := by decide +kernel
theorem w111_226 : Wp d 111 226 [l0, l1, l2, l3] (.ref a :: st) h Q = gP (h.2 a) 6 3 (fun w => Wp d 111 229 [l0, l1, l2, l3] (w :: st) h Q) := W_get f111_226 rfl
theorem f111_229 : fetch 111 229 = some (.if_icmp .ge 35, 3, [], .null) := by decide +kernel
theorem w111_229 : Wp d 111 229 [l0, l1, l2, l3] (.int y :: .int x :: st) h Q = if icond .ge x y = true then Wp d 111 264 [l0, l1, l2, l3] st h Q else Wp d 111 232 [l0, l1, l2, l3] st h Q := W_if f111_229 rfl
theorem f111_232 : fetch 111 232 = some (.iload_n 3, 1, [], .null) := by decide +kernel
theorem w111_232 : Wp d 111 232 [l0, l1, l2, some (.int x)] st h Q = Wp d 111 233 [l0, l1, l2, some (.int x)] (.int x :: st) h Q := W_go f111_232 rfl
theorem f111_233 : fetch 111 233 = some (.aload_n 0, 1, [], .null) := by decide +kernel
theorem w111_233 : Wp d 111 233 [some (.ref a), l1, l2, l3] st h Q = Wp d 111 234 [some (.ref a), l1, l2, l3] (.ref a :: st) h Q := W_go f111_233 rfl
theorem f111_234 : fetch 111 234 = some (.getfield 35, 3, [7, 2, 2154, 0], .null) := by decide +kernel
theorem w111_234 : Wp d 111 234 [l0, l1, l2, l3] (.ref a :: st) h Q = gP (h.2 a) 7 2 (fun w => Wp d 111 237 [l0, l1, l2, l3] (w :: st) h Q) := W_get f111_234 rfl
theorem f111_237 : fetch 111 237 = some (.getfield 81, 3, [6, 2, 2124, 0], .null) := by decide +kernel
theorem w111_237 : Wp d 111 237 [l0, l1, l2, l3] (.ref a :: st) h Q = gP (h.2 a) 6 2 (fun w => Wp d 111 240 [l0, l1, l2, l3] (w :: st) h Q) := W_get f111_237 rfl
theorem f111_240 : fetch 111 240 = some (.arraylength, 1, [], .null) := by decide +kernel
theorem w111_240 : Wp d 111 240 [l0, l1, l2, l3] (.ref a :: st) h Q = nP (h.2 a) (fun w => Wp d 111 241 [l0, l1, l2, l3] (.int w :: st) h Q) := W_len f111_240 rfl
theorem f111_241 : fetch 111 241 = some (.if_icmp .ge 23, 3, [], .null) := by decide +kernel
theorem w111_241 : Wp d 111 241 [l0, l1, l2, l3] (.int y :: .int x :: st) h Q = if icond .ge x y = true then Wp d 111 264 [l0, l1, l2, l3] st h Q else Wp d 111 244 [l0, l1, l2, l3] st h Q := W_if f111_241 rfl
theorem f111_244 : fetch 111 244 = some (.aload_n 0, 1, [], .null) := by decide +kernel
theorem w111_244 : Wp d 111 244 [some (.ref a), l1, l2, l3] st h Q = Wp d 111 245 [some (.ref a), l1, l2, l3] (.ref a :: st) h Q := W_go f111_244 rfl
theorem f111_245 : fetch 111 245 = some (.getfield 35, 3, [7, 2, 2154, 0], .null) := by decide +kernel
theorem w111_245 : Wp d 111 245 [l0, l1, l2, l3] (.ref a :: st) h Q = gP (h.2 a) 7 2 (fun w => Wp d 111 248 [l0, l1, l2, l3] (w :: st) h Q) := W_get f111_245 rfl
theorem f111_248 : fetch 111 248 = some (.getfield 81, 3, [6, 2, 2124, 0], .null) := by decide +kernel
theorem w111_248 : Wp d 111 248 [l0, l1, l2, l3] (.ref a :: st) h Q = gP (h.2 a) 6 2 (fun w => Wp d 111 251 [l0, l1, l2, l3] (w :: st) h Q) := W_get f111_248 rfl
theorem f111_251 : fetch 111 251 = some (.iload_n 3, 1, [], .null) := by decide +kernel
theorem w111_251 : Wp d 111 251 [l0, l1, l2, some (.int x)] st h Q = Wp d 111 252 [l0, l1, l2, some (.int x)] (.int x :: st) h Q := W_go f111_251 rfl
theorem f111_252 : fetch 111 252 = some (.aaload, 1, [], .null) := by decide +kernel
theorem w111_252 : Wp d 111 252 [l0, l1, l2, l3] (.int x :: .ref a :: st) h Q = qP (h.2 a) x (fun w => Wp d 111 253 [l0, l1, l2, l3] (w :: st) h Q) := W_qld f111_252 rfl
theorem f111_253 : fetch 111 253 = some (.lload_n 1, 1, [], .null) := by decide +kernel
theorem w111_253 : Wp d 111 253 [l0, some (.long x8), l2, l3] st h Q = Wp d 111 254 [l0, some (.long x8), l2, l3] (.long x8 :: st) h Q := W_go f111_253 rfl
theorem f111_254 : fetch 111 254 = some (.invokevirtual 225, 3, [19, 2, 3, 0, 3210, 1012, 3213, 3211, 3212], .null) := by decide +kernel
theorem w111_254 (hp : psum st ≤ 8) : Wp d 111 254 [l0, l1, l2, l3] (v1 :: (.ref b) :: st) h Q = rP (h.2 b) 2 (Cp d 19 [(.ref b), v1] h (fun o => cK o (fun w h2 => Wp d 111 257 [l0, l1, l2, l3] (w.toList ++ st) h2 Q) (fun E h2 => Q (.inr E, h2)))) := (W_invV (st := st) f111_254 rfl rfl (by simp only [List.length_cons]; omega) rfl rfl hp).trans (by simp only [hm111, if_true])
theorem f111_257 : fetch 111 257 = some (.lstore_n 1, 1, [], .null) := by decide +kernel
theorem w111_257 : Wp d 111 257 [l0, l1, l2, l3] (.long x8 :: st) h Q = Wp d 111 258 [kl l0, some (.long x8), none, l3] st h Q := (W_st2 (pc' := 258) (k := 1) f111_257 rfl rfl (by simp only [List.length_cons, List.length_nil]; omega)).trans (by rw [pst2_succ]; rfl)
theorem f111_258 : fetch 111 258 = some (.iinc 3 1, 3, [], .null) := by decide +kernel
theorem w111_258 : Wp d 111 258 [l0, l1, l2, some (.int x)] st h Q = Wp d 111 261 [l0, l1, kl l2, some (.int (x + (1 : Int32)))] st h Q := (W_iinc (y := (1 : Int32)) f111_258 rfl (by simp only [List.length_cons, List.length_nil]; omega) (by decide)).trans (by rw [pst1_succ]; rfl)
theorem f111_261 : fetch 111 261 = some (.goto (-40), 3, [], .null) := by decide +kernel
theorem w111_261 : Wp d 111 261 [l0, l1, l2, l3] st h Q = Wp d 111 221 [l0, l1, l2, l3] st h Q := W_go f111_261 rfl
theorem f111_264 : fetch 111 264 = some (.lload_n 1, 1, [], .null) := by decide +kernel
theorem w111_264 : Wp d 111 264 [l0, some (.long x8), l2, l3] st h Q = Wp d 111 265 [l0, some (.long x8), l2, l3] (.long x8 :: st) h Q := W_go f111_264 rfl
theorem f111_265 : fetch 111 265 = some (.lreturn, 1, [], .null) := by decide +kernel
theorem w111_265 : Wp d 111 265 [l0, l1, l2, l3] [.long x8] h Q = Q (.inl (some (.long x8)), h) := W_fin f111_265 rfl
theorem hm112 : mhs 112 = [] := by decide +kernel
theorem f112_0 : fetch 112 0 = some (.iload_n 1, 1, [], .null) := by decide +kernel
theorem w112_0 : Wp d 112 0 [l0, some (.int x)] st h Q = Wp d 112 1 [l0, some (.int x)] (.int x :: st) h Q := W_go f112_0 rfl
theorem f112_1 : fetch 112 1 = some (.ifCond .lt 29, 3, [], .null) := by decide +kernel
theorem w112_1 : Wp d 112 1 [l0, l1] (.int x :: st) h Q = if icond .lt x 0 = true then Wp d 112 30 [l0, l1] st h Q else Wp d 112 4 [l0, l1] st h Q := W_if f112_1 rfl
theorem f112_4 : fetch 112 4 = some (.iload_n 1, 1, [], .null) := by decide +kernel
theorem w112_4 : Wp d 112 4 [l0, some (.int x)] st h Q = Wp d 112 5 [l0, some (.int x)] (.int x :: st) h Q := W_go f112_4 rfl
theorem f112_5 : fetch 112 5 = some (.aload_n 0, 1, [], .null) := by decide +kernel
theorem w112_5 : Wp d 112 5 [some (.ref a), l1] st h Q = Wp d 112 6 [some (.ref a), l1] (.ref a :: st) h Q := W_go f112_5 rfl
theorem f112_6 : fetch 112 6 = some (.getfield 35, 3, [7, 2, 2154, 0], .null) := by decide +kernel
theorem w112_6 : Wp d 112 6 [l0, l1] (.ref a :: st) h Q = gP (h.2 a) 7 2 (fun w => Wp d 112 9 [l0, l1] (w :: st) h Q) := W_get f112_6 rfl
theorem f112_9 : fetch 112 9 = some (.getfield 70, 3, [6, 0, 2120, 0], .null) := by decide +kernel
theorem w112_9 : Wp d 112 9 [l0, l1] (.ref a :: st) h Q = gP (h.2 a) 6 0 (fun w => Wp d 112 12 [l0, l1] (w :: st) h Q) := W_get f112_9 rfl
theorem f112_12 : fetch 112 12 = some (.getfield 151, 3, [0, 0, 1057, 0], .null) := by decide +kernel
theorem w112_12 : Wp d 112 12 [l0, l1] (.ref a :: st) h Q = gP (h.2 a) 0 0 (fun w => Wp d 112 15 [l0, l1] (w :: st) h Q) := W_get f112_12 rfl
theorem f112_15 : fetch 112 15 = some (.if_icmp .ge 15, 3, [], .null) := by decide +kernel
theorem w112_15 : Wp d 112 15 [l0, l1] (.int y :: .int x :: st) h Q = if icond .ge x y = true then Wp d 112 30 [l0, l1] st h Q else Wp d 112 18 [l0, l1] st h Q := W_if f112_15 rfl
theorem f112_18 : fetch 112 18 = some (.iload_n 1, 1, [], .null) := by decide +kernel
theorem w112_18 : Wp d 112 18 [l0, some (.int x)] st h Q = Wp d 112 19 [l0, some (.int x)] (.int x :: st) h Q := W_go f112_18 rfl
theorem f112_19 : fetch 112 19 = some (.aload_n 0, 1, [], .null) := by decide +kernel
theorem w112_19 : Wp d 112 19 [some (.ref a), l1] st h Q = Wp d 112 20 [some (.ref a), l1] (.ref a :: st) h Q := W_go f112_19 rfl
theorem f112_20 : fetch 112 20 = some (.getfield 35, 3, [7, 2, 2154, 0], .null) := by decide +kernel
theorem w112_20 : Wp d 112 20 [l0, l1] (.ref a :: st) h Q = gP (h.2 a) 7 2 (fun w => Wp d 112 23 [l0, l1] (w :: st) h Q) := W_get f112_20 rfl
theorem f112_23 : fetch 112 23 = some (.getfield 163, 3, [6, 1, 2122, 0], .null) := by decide +kernel
theorem w112_23 : Wp d 112 23 [l0, l1] (.ref a :: st) h Q = gP (h.2 a) 6 1 (fun w => Wp d 112 26 [l0, l1] (w :: st) h Q) := W_get f112_23 rfl
theorem f112_26 : fetch 112 26 = some (.arraylength, 1, [], .null) := by decide +kernel
theorem w112_26 : Wp d 112 26 [l0, l1] (.ref a :: st) h Q = nP (h.2 a) (fun w => Wp d 112 27 [l0, l1] (.int w :: st) h Q) := W_len f112_26 rfl
theorem f112_27 : fetch 112 27 = some (.if_icmp .lt 13, 3, [], .null) := by decide +kernel
theorem w112_27 : Wp d 112 27 [l0, l1] (.int y :: .int x :: st) h Q = if icond .lt x y = true then Wp d 112 40 [l0, l1] st h Q else Wp d 112 30 [l0, l1] st h Q := W_if f112_27 rfl
theorem f112_30 : fetch 112 30 = some (.new 98, 3, [102, 4109, 1023], .null) := by decide +kernel
theorem w112_30 (hp : psum st ≤ 8) : Wp d 112 30 [l0, l1] st h Q = Q (.inr "java/lang/IndexOutOfBoundsException", hthr h) := W_fin f112_30 (by simp only [pstep, pnewo, List.getD_cons_zero, if_pos hp]; rfl)
theorem f112_33 : fetch 112 33 = some (.dup, 1, [], .null) := by decide +kernel
theorem w112_33i : Wp d 112 33 [l0, l1] (.int x :: st) h Q = Wp d 112 34 [l0, l1] (.int x :: .int x :: st) h Q := W_go f112_33 rfl
theorem w112_33 : Wp d 112 33 [l0, l1] (.ref a :: st) h Q = Wp d 112 34 [l0, l1] (.ref a :: .ref a :: st) h Q := W_go f112_33 rfl
theorem f112_34 : fetch 112 34 = some (.ldc 226, 2, [4146], .ref 9) := by decide +kernel
theorem w112_34 : Wp d 112 34 [l0, l1] st h Q = Wp d 112 36 [l0, l1] ((.ref 9) :: st) h Q := W_go f112_34 rfl
theorem f112_36 : fetch 112 36 = some (.invokespecial 102, 3, [8888, 4119], .null) := by decide +kernel
theorem f112_39 : fetch 112 39 = some (.athrow, 1, [], .null) := by decide +kernel
theorem f112_40 : fetch 112 40 = some (.aload_n 0, 1, [], .null) := by decide +kernel
theorem w112_40 : Wp d 112 40 [some (.ref a), l1] st h Q = Wp d 112 41 [some (.ref a), l1] (.ref a :: st) h Q := W_go f112_40 rfl
theorem f112_41 : fetch 112 41 = some (.getfield 35, 3, [7, 2, 2154, 0], .null) := by decide +kernel
theorem w112_41 : Wp d 112 41 [l0, l1] (.ref a :: st) h Q = gP (h.2 a) 7 2 (fun w => Wp d 112 44 [l0, l1] (w :: st) h Q) := W_get f112_41 rfl
theorem f112_44 : fetch 112 44 = some (.getfield 163, 3, [6, 1, 2122, 0], .null) := by decide +kernel
theorem w112_44 : Wp d 112 44 [l0, l1] (.ref a :: st) h Q = gP (h.2 a) 6 1 (fun w => Wp d 112 47 [l0, l1] (w :: st) h Q) := W_get f112_44 rfl
theorem f112_47 : fetch 112 47 = some (.iload_n 1, 1, [], .null) := by decide +kernel
theorem w112_47 : Wp d 112 47 [l0, some (.int x)] st h Q = Wp d 112 48 [l0, some (.int x)] (.int x :: st) h Q := W_go f112_47 rfl
theorem f112_48 : fetch 112 48 = some (.aaload, 1, [], .null) := by decide +kernel
theorem w112_48 : Wp d 112 48 [l0, l1] (.int x :: .ref a :: st) h Q = qP (h.2 a) x (fun w => Wp d 112 49 [l0, l1] (w :: st) h Q) := W_qld f112_48 rfl
theorem f112_49 : fetch 112 49 = some (.areturn, 1, [], .null) := by decide +kernel
theorem w112_49 : Wp d 112 49 [l0, l1] [.ref a] h Q = Q (.inl (some (.ref a)), h) := W_fin f112_49 rfl
theorem hm113 : mhs 113 = [] := by decide +kernel
theorem f113_0 : fetch 113 0 = some (.iload_n 1, 1, [], .null) := by decide +kernel
theorem w113_0 : Wp d 113 0 [l0, some (.int x)] st h Q = Wp d 113 1 [l0, some (.int x)] (.int x :: st) h Q := W_go f113_0 rfl
theorem f113_1 : fetch 113 1 = some (.ifCond .lt 26, 3, [], .null) := by decide +kernel
theorem w113_1 : Wp d 113 1 [l0, l1] (.int x :: st) h Q = if icond .lt x 0 = true then Wp d 113 27 [l0, l1] st h Q else Wp d 113 4 [l0, l1] st h Q := W_if f113_1 rfl
theorem f113_4 : fetch 113 4 = some (.iload_n 1, 1, [], .null) := by decide +kernel
theorem w113_4 : Wp d 113 4 [l0, some (.int x)] st h Q = Wp d 113 5 [l0, some (.int x)] (.int x :: st) h Q := W_go f113_4 rfl
theorem f113_5 : fetch 113 5 = some (.aload_n 0, 1, [], .null) := by decide +kernel
theorem w113_5 : Wp d 113 5 [some (.ref a), l1] st h Q = Wp d 113 6 [some (.ref a), l1] (.ref a :: st) h Q := W_go f113_5 rfl
theorem f113_6 : fetch 113 6 = some (.getfield 35, 3, [7, 2, 2154, 0], .null) := by decide +kernel
theorem w113_6 : Wp d 113 6 [l0, l1] (.ref a :: st) h Q = gP (h.2 a) 7 2 (fun w => Wp d 113 9 [l0, l1] (w :: st) h Q) := W_get f113_6 rfl
theorem f113_9 : fetch 113 9 = some (.getfield 78, 3, [6, 3, 2126, 0], .null) := by decide +kernel
theorem w113_9 : Wp d 113 9 [l0, l1] (.ref a :: st) h Q = gP (h.2 a) 6 3 (fun w => Wp d 113 12 [l0, l1] (w :: st) h Q) := W_get f113_9 rfl
theorem f113_12 : fetch 113 12 = some (.if_icmp .ge 15, 3, [], .null) := by decide +kernel
theorem w113_12 : Wp d 113 12 [l0, l1] (.int y :: .int x :: st) h Q = if icond .ge x y = true then Wp d 113 27 [l0, l1] st h Q else Wp d 113 15 [l0, l1] st h Q := W_if f113_12 rfl
theorem f113_15 : fetch 113 15 = some (.iload_n 1, 1, [], .null) := by decide +kernel
theorem w113_15 : Wp d 113 15 [l0, some (.int x)] st h Q = Wp d 113 16 [l0, some (.int x)] (.int x :: st) h Q := W_go f113_15 rfl
theorem f113_16 : fetch 113 16 = some (.aload_n 0, 1, [], .null) := by decide +kernel
theorem w113_16 : Wp d 113 16 [some (.ref a), l1] st h Q = Wp d 113 17 [some (.ref a), l1] (.ref a :: st) h Q := W_go f113_16 rfl
theorem f113_17 : fetch 113 17 = some (.getfield 35, 3, [7, 2, 2154, 0], .null) := by decide +kernel
theorem w113_17 : Wp d 113 17 [l0, l1] (.ref a :: st) h Q = gP (h.2 a) 7 2 (fun w => Wp d 113 20 [l0, l1] (w :: st) h Q) := W_get f113_17 rfl
theorem f113_20 : fetch 113 20 = some (.getfield 81, 3, [6, 2, 2124, 0], .null) := by decide +kernel
theorem w113_20 : Wp d 113 20 [l0, l1] (.ref a :: st) h Q = gP (h.2 a) 6 2 (fun w => Wp d 113 23 [l0, l1] (w :: st) h Q) := W_get f113_20 rfl
theorem f113_23 : fetch 113 23 = some (.arraylength, 1, [], .null) := by decide +kernel
theorem w113_23 : Wp d 113 23 [l0, l1] (.ref a :: st) h Q = nP (h.2 a) (fun w => Wp d 113 24 [l0, l1] (.int w :: st) h Q) := W_len f113_23 rfl
theorem f113_24 : fetch 113 24 = some (.if_icmp .lt 13, 3, [], .null) := by decide +kernel
theorem w113_24 : Wp d 113 24 [l0, l1] (.int y :: .int x :: st) h Q = if icond .lt x y = true then Wp d 113 37 [l0, l1] st h Q else Wp d 113 27 [l0, l1] st h Q := W_if f113_24 rfl
theorem f113_27 : fetch 113 27 = some (.new 98, 3, [102, 4109, 1023], .null) := by decide +kernel
theorem w113_27 (hp : psum st ≤ 8) : Wp d 113 27 [l0, l1] st h Q = Q (.inr "java/lang/IndexOutOfBoundsException", hthr h) := W_fin f113_27 (by simp only [pstep, pnewo, List.getD_cons_zero, if_pos hp]; rfl)
theorem f113_30 : fetch 113 30 = some (.dup, 1, [], .null) := by decide +kernel
theorem w113_30i : Wp d 113 30 [l0, l1] (.int x :: st) h Q = Wp d 113 31 [l0, l1] (.int x :: .int x :: st) h Q := W_go f113_30 rfl
theorem w113_30 : Wp d 113 30 [l0, l1] (.ref a :: st) h Q = Wp d 113 31 [l0, l1] (.ref a :: .ref a :: st) h Q := W_go f113_30 rfl
theorem f113_31 : fetch 113 31 = some (.ldc 228, 2, [4118], .ref 7) := by decide +kernel
theorem w113_31 : Wp d 113 31 [l0, l1] st h Q = Wp d 113 33 [l0, l1] ((.ref 7) :: st) h Q := W_go f113_31 rfl
theorem f113_33 : fetch 113 33 = some (.invokespecial 102, 3, [8888, 4119], .null) := by decide +kernel
theorem f113_36 : fetch 113 36 = some (.athrow, 1, [], .null) := by decide +kernel
theorem f113_37 : fetch 113 37 = some (.aload_n 0, 1, [], .null) := by decide +kernel
theorem w113_37 : Wp d 113 37 [some (.ref a), l1] st h Q = Wp d 113 38 [some (.ref a), l1] (.ref a :: st) h Q := W_go f113_37 rfl
theorem f113_38 : fetch 113 38 = some (.getfield 35, 3, [7, 2, 2154, 0], .null) := by decide +kernel
theorem w113_38 : Wp d 113 38 [l0, l1] (.ref a :: st) h Q = gP (h.2 a) 7 2 (fun w => Wp d 113 41 [l0, l1] (w :: st) h Q) := W_get f113_38 rfl
theorem f113_41 : fetch 113 41 = some (.getfield 81, 3, [6, 2, 2124, 0], .null) := by decide +kernel
theorem w113_41 : Wp d 113 41 [l0, l1] (.ref a :: st) h Q = gP (h.2 a) 6 2 (fun w => Wp d 113 44 [l0, l1] (w :: st) h Q) := W_get f113_41 rfl
theorem f113_44 : fetch 113 44 = some (.iload_n 1, 1, [], .null) := by decide +kernel
theorem w113_44 : Wp d 113 44 [l0, some (.int x)] st h Q = Wp d 113 45 [l0, some (.int x)] (.int x :: st) h Q := W_go f113_44 rfl
theorem f113_45 : fetch 113 45 = some (.aaload, 1, [], .null) := by decide +kernel
theorem w113_45 : Wp d 113 45 [l0, l1] (.int x :: .ref a :: st) h Q = qP (h.2 a) x (fun w => Wp d 113 46 [l0, l1] (w :: st) h Q) := W_qld f113_45 rfl
theorem f113_46 : fetch 113 46 = some (.areturn, 1, [], .null) := by decide +kernel
theorem w113_46 : Wp d 113 46 [l0, l1] [.ref a] h Q = Q (.inl (some (.ref a)), h) := W_fin f113_46 rfl
theorem hm114 : mhs 114 = [] := by decide +kernel
theorem hr114 : mret 114 = (some .int) := by decide +kernel
theorem f114_0 : fetch 114 0 = some (.iload_n 0, 1, [], .null) := by decide +kernel
theorem w114_0 : Wp d 114 0 [some (.int x), l1] st h Q = Wp d 114 1 [some (.int x), l1] (.int x :: st) h Q := W_go f114_0 rfl
theorem f114_1 : fetch 114 1 = some (.bipush 30, 2, [], .null) := by decide +kernel
theorem w114_1 : Wp d 114 1 [l0, l1] st h Q = Wp d 114 3 [l0, l1] (.int (30 : Int32) :: st) h Q := W_go f114_1 rfl
theorem f114_3 : fetch 114 3 = some (.irem, 1, [], .null) := by decide +kernel
theorem w114_3 (hy : y ≠ 0) : Wp d 114 3 [l0, l1] (.int y :: .int x :: st) h Q = Wp d 114 4 [l0, l1] (.int (x - x / y * y) :: st) h Q := W_go f114_3 (by simp only [pstep, pint2, if_neg hy, pgo])
theorem f114_4 : fetch 114 4 = some (.istore_n 1, 1, [], .null) := by decide +kernel
theorem w114_4 : Wp d 114 4 [l0, l1] (.int x :: st) h Q = Wp d 114 5 [kl l0, some (.int x)] st h Q := (W_st1 (pc' := 5) (k := 1) f114_4 rfl rfl (by simp only [List.length_cons, List.length_nil]; omega)).trans (by rw [pst1_succ]; rfl)
theorem f114_5 : fetch 114 5 = some (.iload_n 1, 1, [], .null) := by decide +kernel
theorem w114_5 : Wp d 114 5 [l0, some (.int x)] st h Q = Wp d 114 6 [l0, some (.int x)] (.int x :: st) h Q := W_go f114_5 rfl
theorem f114_6 : fetch 114 6 = some (.bipush 15, 2, [], .null) := by decide +kernel
theorem w114_6 : Wp d 114 6 [l0, l1] st h Q = Wp d 114 8 [l0, l1] (.int (15 : Int32) :: st) h Q := W_go f114_6 rfl
theorem f114_8 : fetch 114 8 = some (.if_icmp .ge 7, 3, [], .null) := by decide +kernel
theorem w114_8 : Wp d 114 8 [l0, l1] (.int y :: .int x :: st) h Q = if icond .ge x y = true then Wp d 114 15 [l0, l1] st h Q else Wp d 114 11 [l0, l1] st h Q := W_if f114_8 rfl
theorem f114_11 : fetch 114 11 = some (.iload_n 1, 1, [], .null) := by decide +kernel
theorem w114_11 : Wp d 114 11 [l0, some (.int x)] st h Q = Wp d 114 12 [l0, some (.int x)] (.int x :: st) h Q := W_go f114_11 rfl
theorem f114_12 : fetch 114 12 = some (.goto 7, 3, [], .null) := by decide +kernel
theorem w114_12 : Wp d 114 12 [l0, l1] st h Q = Wp d 114 19 [l0, l1] st h Q := W_go f114_12 rfl
theorem f114_15 : fetch 114 15 = some (.bipush 29, 2, [], .null) := by decide +kernel
theorem w114_15 : Wp d 114 15 [l0, l1] st h Q = Wp d 114 17 [l0, l1] (.int (29 : Int32) :: st) h Q := W_go f114_15 rfl
theorem f114_17 : fetch 114 17 = some (.iload_n 1, 1, [], .null) := by decide +kernel
theorem w114_17 : Wp d 114 17 [l0, some (.int x)] st h Q = Wp d 114 18 [l0, some (.int x)] (.int x :: st) h Q := W_go f114_17 rfl
theorem f114_18 : fetch 114 18 = some (.isub, 1, [], .null) := by decide +kernel
theorem w114_18 : Wp d 114 18 [l0, l1] (.int y :: .int x :: st) h Q = Wp d 114 19 [l0, l1] (.int (x - y) :: st) h Q := W_go f114_18 rfl
theorem f114_19 : fetch 114 19 = some (.ireturn, 1, [], .null) := by decide +kernel
theorem w114_19 : Wp d 114 19 [l0, l1] [.int x] h Q = Q (.inl (some (.int x)), h) := W_iret f114_19 hr114
theorem hm115 : mhs 115 = [] := by decide +kernel
theorem hr115 : mret 115 = (some .int) := by decide +kernel
theorem f115_0 : fetch 115 0 = some (.iload_n 1, 1, [], .null) := by decide +kernel
theorem w115_0 : Wp d 115 0 [l0, some (.int x)] st h Q = Wp d 115 1 [l0, some (.int x)] (.int x :: st) h Q := W_go f115_0 rfl
theorem f115_1 : fetch 115 1 = some (.ifCond .lt 15, 3, [], .null) := by decide +kernel
theorem w115_1 : Wp d 115 1 [l0, l1] (.int x :: st) h Q = if icond .lt x 0 = true then Wp d 115 16 [l0, l1] st h Q else Wp d 115 4 [l0, l1] st h Q := W_if f115_1 rfl
theorem f115_4 : fetch 115 4 = some (.iload_n 1, 1, [], .null) := by decide +kernel
theorem w115_4 : Wp d 115 4 [l0, some (.int x)] st h Q = Wp d 115 5 [l0, some (.int x)] (.int x :: st) h Q := W_go f115_4 rfl
theorem f115_5 : fetch 115 5 = some (.aload_n 0, 1, [], .null) := by decide +kernel
theorem w115_5 : Wp d 115 5 [some (.ref a), l1] st h Q = Wp d 115 6 [some (.ref a), l1] (.ref a :: st) h Q := W_go f115_5 rfl
theorem f115_6 : fetch 115 6 = some (.arraylength, 1, [], .null) := by decide +kernel
theorem w115_6 : Wp d 115 6 [l0, l1] (.ref a :: st) h Q = nP (h.2 a) (fun w => Wp d 115 7 [l0, l1] (.int w :: st) h Q) := W_len f115_6 rfl
theorem f115_7 : fetch 115 7 = some (.if_icmp .ge 9, 3, [], .null) := by decide +kernel
theorem w115_7 : Wp d 115 7 [l0, l1] (.int y :: .int x :: st) h Q = if icond .ge x y = true then Wp d 115 16 [l0, l1] st h Q else Wp d 115 10 [l0, l1] st h Q := W_if f115_7 rfl
theorem f115_10 : fetch 115 10 = some (.aload_n 0, 1, [], .null) := by decide +kernel
theorem w115_10 : Wp d 115 10 [some (.ref a), l1] st h Q = Wp d 115 11 [some (.ref a), l1] (.ref a :: st) h Q := W_go f115_10 rfl
theorem f115_11 : fetch 115 11 = some (.iload_n 1, 1, [], .null) := by decide +kernel
theorem w115_11 : Wp d 115 11 [l0, some (.int x)] st h Q = Wp d 115 12 [l0, some (.int x)] (.int x :: st) h Q := W_go f115_11 rfl
theorem f115_12 : fetch 115 12 = some (.iaload, 1, [], .null) := by decide +kernel
theorem w115_12 : Wp d 115 12 [l0, l1] (.int x :: .ref a :: st) h Q = aP false (h.2 a) x (fun w => Wp d 115 13 [l0, l1] (.int w :: st) h Q) := W_ald f115_12 rfl
theorem f115_13 : fetch 115 13 = some (.goto 4, 3, [], .null) := by decide +kernel
theorem w115_13 : Wp d 115 13 [l0, l1] st h Q = Wp d 115 17 [l0, l1] st h Q := W_go f115_13 rfl
theorem f115_16 : fetch 115 16 = some (.iconst (-1), 1, [], .null) := by decide +kernel
theorem w115_16 : Wp d 115 16 [l0, l1] st h Q = Wp d 115 17 [l0, l1] (.int (-1 : Int32) :: st) h Q := W_go f115_16 rfl
theorem f115_17 : fetch 115 17 = some (.ireturn, 1, [], .null) := by decide +kernel
theorem w115_17 : Wp d 115 17 [l0, l1] [.int x] h Q = Q (.inl (some (.int x)), h) := W_iret f115_17 hr115
theorem hm116 : mhs 116 = [] := by decide +kernel
theorem f116_0 : fetch 116 0 = some (.iload_n 1, 1, [], .null) := by decide +kernel
theorem w116_0 : Wp d 116 0 [l0, some (.int x), l2] st h Q = Wp d 116 1 [l0, some (.int x), l2] (.int x :: st) h Q := W_go f116_0 rfl
theorem f116_1 : fetch 116 1 = some (.ifCond .lt 13, 3, [], .null) := by decide +kernel
theorem w116_1 : Wp d 116 1 [l0, l1, l2] (.int x :: st) h Q = if icond .lt x 0 = true then Wp d 116 14 [l0, l1, l2] st h Q else Wp d 116 4 [l0, l1, l2] st h Q := W_if f116_1 rfl
theorem f116_4 : fetch 116 4 = some (.iload_n 1, 1, [], .null) := by decide +kernel
theorem w116_4 : Wp d 116 4 [l0, some (.int x), l2] st h Q = Wp d 116 5 [l0, some (.int x), l2] (.int x :: st) h Q := W_go f116_4 rfl
theorem f116_5 : fetch 116 5 = some (.aload_n 0, 1, [], .null) := by decide +kernel
theorem w116_5 : Wp d 116 5 [some (.ref a), l1, l2] st h Q = Wp d 116 6 [some (.ref a), l1, l2] (.ref a :: st) h Q := W_go f116_5 rfl
theorem f116_6 : fetch 116 6 = some (.arraylength, 1, [], .null) := by decide +kernel
theorem w116_6 : Wp d 116 6 [l0, l1, l2] (.ref a :: st) h Q = nP (h.2 a) (fun w => Wp d 116 7 [l0, l1, l2] (.int w :: st) h Q) := W_len f116_6 rfl
theorem f116_7 : fetch 116 7 = some (.if_icmp .ge 7, 3, [], .null) := by decide +kernel
theorem w116_7 : Wp d 116 7 [l0, l1, l2] (.int y :: .int x :: st) h Q = if icond .ge x y = true then Wp d 116 14 [l0, l1, l2] st h Q else Wp d 116 10 [l0, l1, l2] st h Q := W_if f116_7 rfl
theorem f116_10 : fetch 116 10 = some (.aload_n 0, 1, [], .null) := by decide +kernel
theorem w116_10 : Wp d 116 10 [some (.ref a), l1, l2] st h Q = Wp d 116 11 [some (.ref a), l1, l2] (.ref a :: st) h Q := W_go f116_10 rfl
theorem f116_11 : fetch 116 11 = some (.iload_n 1, 1, [], .null) := by decide +kernel
theorem w116_11 : Wp d 116 11 [l0, some (.int x), l2] st h Q = Wp d 116 12 [l0, some (.int x), l2] (.int x :: st) h Q := W_go f116_11 rfl
theorem f116_12 : fetch 116 12 = some (.iload_n 2, 1, [], .null) := by decide +kernel
theorem w116_12 : Wp d 116 12 [l0, l1, some (.int x)] st h Q = Wp d 116 13 [l0, l1, some (.int x)] (.int x :: st) h Q := W_go f116_12 rfl
theorem f116_13 : fetch 116 13 = some (.iastore, 1, [], .null) := by decide +kernel
theorem w116_13 : Wp d 116 13 [l0, l1, l2] (.int y :: .int x :: .ref a :: st) h Q = asP false (h.2 a) a x y (fun c => Wp d 116 14 [l0, l1, l2] st (hset h a c) Q) := W_ast f116_13 rfl
theorem f116_14 : fetch 116 14 = some (.return_, 1, [], .null) := by decide +kernel
theorem w116_14 : Wp d 116 14 [l0, l1, l2] [] h Q = Q (.inl none, h) := W_fin f116_14 rfl
theorem hm117 : mhs 117 = [] := by decide +kernel
theorem f117_0 : fetch 117 0 = some (.iload_n 1, 1, [], .null) := by decide +kernel
theorem w117_0 : Wp d 117 0 [l0, some (.int x), l2, l3] st h Q = Wp d 117 1 [l0, some (.int x), l2, l3] (.int x :: st) h Q := W_go f117_0 rfl
theorem f117_1 : fetch 117 1 = some (.ifCond .lt 13, 3, [], .null) := by decide +kernel
theorem w117_1 : Wp d 117 1 [l0, l1, l2, l3] (.int x :: st) h Q = if icond .lt x 0 = true then Wp d 117 14 [l0, l1, l2, l3] st h Q else Wp d 117 4 [l0, l1, l2, l3] st h Q := W_if f117_1 rfl
theorem f117_4 : fetch 117 4 = some (.iload_n 1, 1, [], .null) := by decide +kernel
theorem w117_4 : Wp d 117 4 [l0, some (.int x), l2, l3] st h Q = Wp d 117 5 [l0, some (.int x), l2, l3] (.int x :: st) h Q := W_go f117_4 rfl
theorem f117_5 : fetch 117 5 = some (.aload_n 0, 1, [], .null) := by decide +kernel
theorem w117_5 : Wp d 117 5 [some (.ref a), l1, l2, l3] st h Q = Wp d 117 6 [some (.ref a), l1, l2, l3] (.ref a :: st) h Q := W_go f117_5 rfl
theorem f117_6 : fetch 117 6 = some (.arraylength, 1, [], .null) := by decide +kernel
theorem w117_6 : Wp d 117 6 [l0, l1, l2, l3] (.ref a :: st) h Q = nP (h.2 a) (fun w => Wp d 117 7 [l0, l1, l2, l3] (.int w :: st) h Q) := W_len f117_6 rfl
theorem f117_7 : fetch 117 7 = some (.if_icmp .ge 7, 3, [], .null) := by decide +kernel
theorem w117_7 : Wp d 117 7 [l0, l1, l2, l3] (.int y :: .int x :: st) h Q = if icond .ge x y = true then Wp d 117 14 [l0, l1, l2, l3] st h Q else Wp d 117 10 [l0, l1, l2, l3] st h Q := W_if f117_7 rfl
theorem f117_10 : fetch 117 10 = some (.aload_n 0, 1, [], .null) := by decide +kernel
theorem w117_10 : Wp d 117 10 [some (.ref a), l1, l2, l3] st h Q = Wp d 117 11 [some (.ref a), l1, l2, l3] (.ref a :: st) h Q := W_go f117_10 rfl
theorem f117_11 : fetch 117 11 = some (.iload_n 1, 1, [], .null) := by decide +kernel
theorem w117_11 : Wp d 117 11 [l0, some (.int x), l2, l3] st h Q = Wp d 117 12 [l0, some (.int x), l2, l3] (.int x :: st) h Q := W_go f117_11 rfl
theorem f117_12 : fetch 117 12 = some (.lload_n 2, 1, [], .null) := by decide +kernel
theorem w117_12 : Wp d 117 12 [l0, l1, some (.long x8), l3] st h Q = Wp d 117 13 [l0, l1, some (.long x8), l3] (.long x8 :: st) h Q := W_go f117_12 rfl
theorem f117_13 : fetch 117 13 = some (.lastore, 1, [], .null) := by decide +kernel
theorem w117_13 : Wp d 117 13 [l0, l1, l2, l3] (.long y8 :: .int x :: .ref a :: st) h Q = lsP (h.2 a) a x y8 (fun c => Wp d 117 14 [l0, l1, l2, l3] st (hset h a c) Q) := W_lst f117_13 rfl
theorem f117_14 : fetch 117 14 = some (.return_, 1, [], .null) := by decide +kernel
theorem w117_14 : Wp d 117 14 [l0, l1, l2, l3] [] h Q = Q (.inl none, h) := W_fin f117_14 rfl
theorem hm118 : mhs 118 = [] := by decide +kernel
theorem f118_0 : fetch 118 0 = some (.aload_n 0, 1, [], .null) := by decide +kernel
theorem w118_0 : Wp d 118 0 [some (.ref a)] st h Q = Wp d 118 1 [some (.ref a)] (.ref a :: st) h Q := W_go f118_0 rfl
theorem f118_1 : fetch 118 1 = some (.invokespecial 3, 3, [9999, 5172, 1031, 1032], .null) := by decide +kernel
theorem w118_1 (hp : psum st ≤ 8 ∧ a ≠ 201) : Wp d 118 1 [l0] (.ref a :: st) h Q = Wp d 118 4 [l0] st h Q := W_go f118_1 (by simp only [pstep, if_pos hp]; rfl)
theorem f118_4 : fetch 118 4 = some (.aload_n 0, 1, [], .null) := by decide +kernel
theorem w118_4 : Wp d 118 4 [some (.ref a)] st h Q = Wp d 118 5 [some (.ref a)] (.ref a :: st) h Q := W_go f118_4 rfl
theorem f118_5 : fetch 118 5 = some (.bipush 10, 2, [], .null) := by decide +kernel
theorem w118_5 : Wp d 118 5 [l0] st h Q = Wp d 118 7 [l0] (.int (10 : Int32) :: st) h Q := W_go f118_5 rfl
theorem f118_7 : fetch 118 7 = some (.newarray .int, 2, [0, 1141], .null) := by decide +kernel
theorem w118_7 (hx : ¬ x < 0 ∧ x.toNatClampNeg ≤ 60000) : Wp d 118 7 [l0] (.int x :: st) h Q = Wp d 118 9 [l0] (.ref h.1.1 :: st) (hnew h x.toNatClampNeg (.inl (0, arr0 0 x.toNatClampNeg))) Q := W_go f118_7 (by simp only [pstep, pnewa, if_pos hx]; rfl)
theorem f118_9 : fetch 118 9 = some (.putfield 9, 3, [8, 3, 5178, 0], .null) := by decide +kernel
theorem w118_9 : Wp d 118 9 [l0] (v :: .ref a :: st) h Q = pP (h.2 a) 8 3 (ftOf 8 3) v a (fun c => Wp d 118 12 [l0] st (hset h a c) Q) := W_put f118_9 (by rfl)
theorem f118_12 : fetch 118 12 = some (.aload_n 0, 1, [], .null) := by decide +kernel
theorem w118_12 : Wp d 118 12 [some (.ref a)] st h Q = Wp d 118 13 [some (.ref a)] (.ref a :: st) h Q := W_go f118_12 rfl
theorem f118_13 : fetch 118 13 = some (.bipush 10, 2, [], .null) := by decide +kernel
theorem w118_13 : Wp d 118 13 [l0] st h Q = Wp d 118 15 [l0] (.int (10 : Int32) :: st) h Q := W_go f118_13 rfl
theorem f118_15 : fetch 118 15 = some (.newarray .int, 2, [0, 1141], .null) := by decide +kernel
theorem w118_15 (hx : ¬ x < 0 ∧ x.toNatClampNeg ≤ 60000) : Wp d 118 15 [l0] (.int x :: st) h Q = Wp d 118 17 [l0] (.ref h.1.1 :: st) (hnew h x.toNatClampNeg (.inl (0, arr0 0 x.toNatClampNeg))) Q := W_go f118_15 (by simp only [pstep, pnewa, if_pos hx]; rfl)
theorem f118_17 : fetch 118 17 = some (.putfield 15, 3, [8, 4, 5181, 0], .null) := by decide +kernel
theorem w118_17 : Wp d 118 17 [l0] (v :: .ref a :: st) h Q = pP (h.2 a) 8 4 (ftOf 8 4) v a (fun c => Wp d 118 20 [l0] st (hset h a c) Q) := W_put f118_17 (by rfl)
theorem f118_20 : fetch 118 20 = some (.aload_n 0, 1, [], .null) := by decide +kernel
theorem w118_20 : Wp d 118 20 [some (.ref a)] st h Q = Wp d 118 21 [some (.ref a)] (.ref a :: st) h Q := W_go f118_20 rfl
theorem f118_21 : fetch 118 21 = some (.sipush 400, 3, [], .null) := by decide +kernel
theorem w118_21 : Wp d 118 21 [l0] st h Q = Wp d 118 24 [l0] (.int (400 : Int32) :: st) h Q := W_go f118_21 rfl
theorem f118_24 : fetch 118 24 = some (.newarray .int, 2, [0, 1141], .null) := by decide +kernel
theorem w118_24 (hx : ¬ x < 0 ∧ x.toNatClampNeg ≤ 60000) : Wp d 118 24 [l0] (.int x :: st) h Q = Wp d 118 26 [l0] (.ref h.1.1 :: st) (hnew h x.toNatClampNeg (.inl (0, arr0 0 x.toNatClampNeg))) Q := W_go f118_24 (by simp only [pstep, pnewa, if_pos hx]; rfl)
theorem f118_26 : fetch 118 26 = some (.putfield 18, 3, [8, 5, 5184, 0], .null) := by decide +kernel
theorem w118_26 : Wp d 118 26 [l0] (v :: .ref a :: st) h Q = pP (h.2 a) 8 5 (ftOf 8 5) v a (fun c => Wp d 118 29 [l0] st (hset h a c) Q) := W_put f118_26 (by rfl)
theorem f118_29 : fetch 118 29 = some (.aload_n 0, 1, [], .null) := by decide +kernel
theorem w118_29 : Wp d 118 29 [some (.ref a)] st h Q = Wp d 118 30 [some (.ref a)] (.ref a :: st) h Q := W_go f118_29 rfl
theorem f118_30 : fetch 118 30 = some (.sipush 400, 3, [], .null) := by decide +kernel
theorem w118_30 : Wp d 118 30 [l0] st h Q = Wp d 118 33 [l0] (.int (400 : Int32) :: st) h Q := W_go f118_30 rfl
theorem f118_33 : fetch 118 33 = some (.newarray .int, 2, [0, 1141], .null) := by decide +kernel
theorem w118_33 (hx : ¬ x < 0 ∧ x.toNatClampNeg ≤ 60000) : Wp d 118 33 [l0] (.int x :: st) h Q = Wp d 118 35 [l0] (.ref h.1.1 :: st) (hnew h x.toNatClampNeg (.inl (0, arr0 0 x.toNatClampNeg))) Q := W_go f118_33 (by simp only [pstep, pnewa, if_pos hx]; rfl)
theorem f118_35 : fetch 118 35 = some (.putfield 21, 3, [8, 7, 5188, 0], .null) := by decide +kernel
theorem w118_35 : Wp d 118 35 [l0] (v :: .ref a :: st) h Q = pP (h.2 a) 8 7 (ftOf 8 7) v a (fun c => Wp d 118 38 [l0] st (hset h a c) Q) := W_put f118_35 (by rfl)
theorem f118_38 : fetch 118 38 = some (.aload_n 0, 1, [], .null) := by decide +kernel
theorem w118_38 : Wp d 118 38 [some (.ref a)] st h Q = Wp d 118 39 [some (.ref a)] (.ref a :: st) h Q := W_go f118_38 rfl
theorem f118_39 : fetch 118 39 = some (.sipush 400, 3, [], .null) := by decide +kernel
theorem w118_39 : Wp d 118 39 [l0] st h Q = Wp d 118 42 [l0] (.int (400 : Int32) :: st) h Q := W_go f118_39 rfl
theorem f118_42 : fetch 118 42 = some (.newarray .int, 2, [0, 1141], .null) := by decide +kernel
theorem w118_42 (hx : ¬ x < 0 ∧ x.toNatClampNeg ≤ 60000) : Wp d 118 42 [l0] (.int x :: st) h Q = Wp d 118 44 [l0] (.ref h.1.1 :: st) (hnew h x.toNatClampNeg (.inl (0, arr0 0 x.toNatClampNeg))) Q := W_go f118_42 (by simp only [pstep, pnewa, if_pos hx]; rfl)
theorem f118_44 : fetch 118 44 = some (.putfield 24, 3, [8, 10, 5193, 0], .null) := by decide +kernel
theorem w118_44 : Wp d 118 44 [l0] (v :: .ref a :: st) h Q = pP (h.2 a) 8 10 (ftOf 8 10) v a (fun c => Wp d 118 47 [l0] st (hset h a c) Q) := W_put f118_44 (by rfl)
theorem f118_47 : fetch 118 47 = some (.aload_n 0, 1, [], .null) := by decide +kernel
theorem w118_47 : Wp d 118 47 [some (.ref a)] st h Q = Wp d 118 48 [some (.ref a)] (.ref a :: st) h Q := W_go f118_47 rfl
theorem f118_48 : fetch 118 48 = some (.sipush 400, 3, [], .null) := by decide +kernel
theorem w118_48 : Wp d 118 48 [l0] st h Q = Wp d 118 51 [l0] (.int (400 : Int32) :: st) h Q := W_go f118_48 rfl
theorem f118_51 : fetch 118 51 = some (.newarray .int, 2, [0, 1141], .null) := by decide +kernel
theorem w118_51 (hx : ¬ x < 0 ∧ x.toNatClampNeg ≤ 60000) : Wp d 118 51 [l0] (.int x :: st) h Q = Wp d 118 53 [l0] (.ref h.1.1 :: st) (hnew h x.toNatClampNeg (.inl (0, arr0 0 x.toNatClampNeg))) Q := W_go f118_51 (by simp only [pstep, pnewa, if_pos hx]; rfl)
theorem f118_53 : fetch 118 53 = some (.putfield 27, 3, [8, 11, 5196, 0], .null) := by decide +kernel
theorem w118_53 : Wp d 118 53 [l0] (v :: .ref a :: st) h Q = pP (h.2 a) 8 11 (ftOf 8 11) v a (fun c => Wp d 118 56 [l0] st (hset h a c) Q) := W_put f118_53 (by rfl)
theorem f118_56 : fetch 118 56 = some (.aload_n 0, 1, [], .null) := by decide +kernel
theorem w118_56 : Wp d 118 56 [some (.ref a)] st h Q = Wp d 118 57 [some (.ref a)] (.ref a :: st) h Q := W_go f118_56 rfl
theorem f118_57 : fetch 118 57 = some (.sipush 400, 3, [], .null) := by decide +kernel
theorem w118_57 : Wp d 118 57 [l0] st h Q = Wp d 118 60 [l0] (.int (400 : Int32) :: st) h Q := W_go f118_57 rfl
theorem f118_60 : fetch 118 60 = some (.newarray .int, 2, [0, 1141], .null) := by decide +kernel
theorem w118_60 (hx : ¬ x < 0 ∧ x.toNatClampNeg ≤ 60000) : Wp d 118 60 [l0] (.int x :: st) h Q = Wp d 118 62 [l0] (.ref h.1.1 :: st) (hnew h x.toNatClampNeg (.inl (0, arr0 0 x.toNatClampNeg))) Q := W_go f118_60 (by simp only [pstep, pnewa, if_pos hx]; rfl)
theorem f118_62 : fetch 118 62 = some (.putfield 30, 3, [8, 12, 5199, 0], .null) := by decide +kernel
theorem w118_62 : Wp d 118 62 [l0] (v :: .ref a :: st) h Q = pP (h.2 a) 8 12 (ftOf 8 12) v a (fun c => Wp d 118 65 [l0] st (hset h a c) Q) := W_put f118_62 (by rfl)
theorem f118_65 : fetch 118 65 = some (.aload_n 0, 1, [], .null) := by decide +kernel
theorem w118_65 : Wp d 118 65 [some (.ref a)] st h Q = Wp d 118 66 [some (.ref a)] (.ref a :: st) h Q := W_go f118_65 rfl
theorem f118_66 : fetch 118 66 = some (.sipush 400, 3, [], .null) := by decide +kernel
theorem w118_66 : Wp d 118 66 [l0] st h Q = Wp d 118 69 [l0] (.int (400 : Int32) :: st) h Q := W_go f118_66 rfl
theorem f118_69 : fetch 118 69 = some (.newarray .int, 2, [0, 1141], .null) := by decide +kernel
theorem w118_69 (hx : ¬ x < 0 ∧ x.toNatClampNeg ≤ 60000) : Wp d 118 69 [l0] (.int x :: st) h Q = Wp d 118 71 [l0] (.ref h.1.1 :: st) (hnew h x.toNatClampNeg (.inl (0, arr0 0 x.toNatClampNeg))) Q := W_go f118_69 (by simp only [pstep, pnewa, if_pos hx]; rfl)
theorem f118_71 : fetch 118 71 = some (.putfield 33, 3, [8, 13, 5202, 0], .null) := by decide +kernel
theorem w118_71 : Wp d 118 71 [l0] (v :: .ref a :: st) h Q = pP (h.2 a) 8 13 (ftOf 8 13) v a (fun c => Wp d 118 74 [l0] st (hset h a c) Q) := W_put f118_71 (by rfl)
theorem f118_74 : fetch 118 74 = some (.aload_n 0, 1, [], .null) := by decide +kernel
theorem w118_74 : Wp d 118 74 [some (.ref a)] st h Q = Wp d 118 75 [some (.ref a)] (.ref a :: st) h Q := W_go f118_74 rfl
theorem f118_75 : fetch 118 75 = some (.sipush 400, 3, [], .null) := by decide +kernel
theorem w118_75 : Wp d 118 75 [l0] st h Q = Wp d 118 78 [l0] (.int (400 : Int32) :: st) h Q := W_go f118_75 rfl
theorem f118_78 : fetch 118 78 = some (.newarray .int, 2, [0, 1141], .null) := by decide +kernel
theorem w118_78 (hx : ¬ x < 0 ∧ x.toNatClampNeg ≤ 60000) : Wp d 118 78 [l0] (.int x :: st) h Q = Wp d 118 80 [l0] (.ref h.1.1 :: st) (hnew h x.toNatClampNeg (.inl (0, arr0 0 x.toNatClampNeg))) Q := W_go f118_78 (by simp only [pstep, pnewa, if_pos hx]; rfl)
theorem f118_80 : fetch 118 80 = some (.putfield 36, 3, [8, 14, 5205, 0], .null) := by decide +kernel
theorem w118_80 : Wp d 118 80 [l0] (v :: .ref a :: st) h Q = pP (h.2 a) 8 14 (ftOf 8 14) v a (fun c => Wp d 118 83 [l0] st (hset h a c) Q) := W_put f118_80 (by rfl)
theorem f118_83 : fetch 118 83 = some (.aload_n 0, 1, [], .null) := by decide +kernel
theorem w118_83 : Wp d 118 83 [some (.ref a)] st h Q = Wp d 118 84 [some (.ref a)] (.ref a :: st) h Q := W_go f118_83 rfl
theorem f118_84 : fetch 118 84 = some (.sipush 400, 3, [], .null) := by decide +kernel
theorem w118_84 : Wp d 118 84 [l0] st h Q = Wp d 118 87 [l0] (.int (400 : Int32) :: st) h Q := W_go f118_84 rfl
theorem f118_87 : fetch 118 87 = some (.newarray .int, 2, [0, 1141], .null) := by decide +kernel
theorem w118_87 (hx : ¬ x < 0 ∧ x.toNatClampNeg ≤ 60000) : Wp d 118 87 [l0] (.int x :: st) h Q = Wp d 118 89 [l0] (.ref h.1.1 :: st) (hnew h x.toNatClampNeg (.inl (0, arr0 0 x.toNatClampNeg))) Q := W_go f118_87 (by simp only [pstep, pnewa, if_pos hx]; rfl)
theorem f118_89 : fetch 118 89 = some (.putfield 39, 3, [8, 15, 5208, 0], .null) := by decide +kernel
theorem w118_89 : Wp d 118 89 [l0] (v :: .ref a :: st) h Q = pP (h.2 a) 8 15 (ftOf 8 15) v a (fun c => Wp d 118 92 [l0] st (hset h a c) Q) := W_put f118_89 (by rfl)
theorem f118_92 : fetch 118 92 = some (.aload_n 0, 1, [], .null) := by decide +kernel
theorem w118_92 : Wp d 118 92 [some (.ref a)] st h Q = Wp d 118 93 [some (.ref a)] (.ref a :: st) h Q := W_go f118_92 rfl
theorem f118_93 : fetch 118 93 = some (.sipush 400, 3, [], .null) := by decide +kernel
theorem w118_93 : Wp d 118 93 [l0] st h Q = Wp d 118 96 [l0] (.int (400 : Int32) :: st) h Q := W_go f118_93 rfl
theorem f118_96 : fetch 118 96 = some (.newarray .int, 2, [0, 1141], .null) := by decide +kernel
theorem w118_96 (hx : ¬ x < 0 ∧ x.toNatClampNeg ≤ 60000) : Wp d 118 96 [l0] (.int x :: st) h Q = Wp d 118 98 [l0] (.ref h.1.1 :: st) (hnew h x.toNatClampNeg (.inl (0, arr0 0 x.toNatClampNeg))) Q := W_go f118_96 (by simp only [pstep, pnewa, if_pos hx]; rfl)
theorem f118_98 : fetch 118 98 = some (.putfield 42, 3, [8, 16, 5211, 0], .null) := by decide +kernel
theorem w118_98 : Wp d 118 98 [l0] (v :: .ref a :: st) h Q = pP (h.2 a) 8 16 (ftOf 8 16) v a (fun c => Wp d 118 101 [l0] st (hset h a c) Q) := W_put f118_98 (by rfl)
theorem f118_101 : fetch 118 101 = some (.aload_n 0, 1, [], .null) := by decide +kernel
theorem w118_101 : Wp d 118 101 [some (.ref a)] st h Q = Wp d 118 102 [some (.ref a)] (.ref a :: st) h Q := W_go f118_101 rfl
theorem f118_102 : fetch 118 102 = some (.sipush 400, 3, [], .null) := by decide +kernel
theorem w118_102 : Wp d 118 102 [l0] st h Q = Wp d 118 105 [l0] (.int (400 : Int32) :: st) h Q := W_go f118_102 rfl
theorem f118_105 : fetch 118 105 = some (.newarray .int, 2, [0, 1141], .null) := by decide +kernel
theorem w118_105 (hx : ¬ x < 0 ∧ x.toNatClampNeg ≤ 60000) : Wp d 118 105 [l0] (.int x :: st) h Q = Wp d 118 107 [l0] (.ref h.1.1 :: st) (hnew h x.toNatClampNeg (.inl (0, arr0 0 x.toNatClampNeg))) Q := W_go f118_105 (by simp only [pstep, pnewa, if_pos hx]; rfl)
theorem f118_107 : fetch 118 107 = some (.putfield 45, 3, [8, 17, 5214, 0], .null) := by decide +kernel
theorem w118_107 : Wp d 118 107 [l0] (v :: .ref a :: st) h Q = pP (h.2 a) 8 17 (ftOf 8 17) v a (fun c => Wp d 118 110 [l0] st (hset h a c) Q) := W_put f118_107 (by rfl)
theorem f118_110 : fetch 118 110 = some (.aload_n 0, 1, [], .null) := by decide +kernel
theorem w118_110 : Wp d 118 110 [some (.ref a)] st h Q = Wp d 118 111 [some (.ref a)] (.ref a :: st) h Q := W_go f118_110 rfl
theorem f118_111 : fetch 118 111 = some (.sipush 400, 3, [], .null) := by decide +kernel
theorem w118_111 : Wp d 118 111 [l0] st h Q = Wp d 118 114 [l0] (.int (400 : Int32) :: st) h Q := W_go f118_111 rfl
theorem f118_114 : fetch 118 114 = some (.newarray .int, 2, [0, 1141], .null) := by decide +kernel
theorem w118_114 (hx : ¬ x < 0 ∧ x.toNatClampNeg ≤ 60000) : Wp d 118 114 [l0] (.int x :: st) h Q = Wp d 118 116 [l0] (.ref h.1.1 :: st) (hnew h x.toNatClampNeg (.inl (0, arr0 0 x.toNatClampNeg))) Q := W_go f118_114 (by simp only [pstep, pnewa, if_pos hx]; rfl)
theorem f118_116 : fetch 118 116 = some (.putfield 48, 3, [8, 19, 5218, 0], .null) := by decide +kernel
theorem w118_116 : Wp d 118 116 [l0] (v :: .ref a :: st) h Q = pP (h.2 a) 8 19 (ftOf 8 19) v a (fun c => Wp d 118 119 [l0] st (hset h a c) Q) := W_put f118_116 (by rfl)
theorem f118_119 : fetch 118 119 = some (.aload_n 0, 1, [], .null) := by decide +kernel
theorem w118_119 : Wp d 118 119 [some (.ref a)] st h Q = Wp d 118 120 [some (.ref a)] (.ref a :: st) h Q := W_go f118_119 rfl
theorem f118_120 : fetch 118 120 = some (.sipush 400, 3, [], .null) := by decide +kernel
theorem w118_120 : Wp d 118 120 [l0] st h Q = Wp d 118 123 [l0] (.int (400 : Int32) :: st) h Q := W_go f118_120 rfl
theorem f118_123 : fetch 118 123 = some (.newarray .int, 2, [0, 1141], .null) := by decide +kernel
theorem w118_123 (hx : ¬ x < 0 ∧ x.toNatClampNeg ≤ 60000) : Wp d 118 123 [l0] (.int x :: st) h Q = Wp d 118 125 [l0] (.ref h.1.1 :: st) (hnew h x.toNatClampNeg (.inl (0, arr0 0 x.toNatClampNeg))) Q := W_go f118_123 (by simp only [pstep, pnewa, if_pos hx]; rfl)
theorem f118_125 : fetch 118 125 = some (.putfield 51, 3, [8, 20, 5221, 0], .null) := by decide +kernel
theorem w118_125 : Wp d 118 125 [l0] (v :: .ref a :: st) h Q = pP (h.2 a) 8 20 (ftOf 8 20) v a (fun c => Wp d 118 128 [l0] st (hset h a c) Q) := W_put f118_125 (by rfl)
theorem f118_128 : fetch 118 128 = some (.aload_n 0, 1, [], .null) := by decide +kernel
theorem w118_128 : Wp d 118 128 [some (.ref a)] st h Q = Wp d 118 129 [some (.ref a)] (.ref a :: st) h Q := W_go f118_128 rfl
theorem f118_129 : fetch 118 129 = some (.sipush 400, 3, [], .null) := by decide +kernel
theorem w118_129 : Wp d 118 129 [l0] st h Q = Wp d 118 132 [l0] (.int (400 : Int32) :: st) h Q := W_go f118_129 rfl
theorem f118_132 : fetch 118 132 = some (.newarray .int, 2, [0, 1141], .null) := by decide +kernel
theorem w118_132 (hx : ¬ x < 0 ∧ x.toNatClampNeg ≤ 60000) : Wp d 118 132 [l0] (.int x :: st) h Q = Wp d 118 134 [l0] (.ref h.1.1 :: st) (hnew h x.toNatClampNeg (.inl (0, arr0 0 x.toNatClampNeg))) Q := W_go f118_132 (by simp only [pstep, pnewa, if_pos hx]; rfl)
theorem f118_134 : fetch 118 134 = some (.putfield 54, 3, [8, 21, 5224, 0], .null) := by decide +kernel
theorem w118_134 : Wp d 118 134 [l0] (v :: .ref a :: st) h Q = pP (h.2 a) 8 21 (ftOf 8 21) v a (fun c => Wp d 118 137 [l0] st (hset h a c) Q) := W_put f118_134 (by rfl)
theorem f118_137 : fetch 118 137 = some (.return_, 1, [], .null) := by decide +kernel
theorem w118_137 : Wp d 118 137 [l0] [] h Q = Q (.inl none, h) := W_fin f118_137 rfl
theorem hm119 : mhs 119 = [] := by decide +kernel
theorem hr119 : mret 119 = (some .int) := by decide +kernel
theorem f119_0 : fetch 119 0 = some (.iconst 0, 1, [], .null) := by decide +kernel
theorem w119_0 : Wp d 119 0 [l0, l1, l2] st h Q = Wp d 119 1 [l0, l1, l2] (.int (0 : Int32) :: st) h Q := W_go f119_0 rfl
theorem f119_1 : fetch 119 1 = some (.istore_n 2, 1, [], .null) := by decide +kernel
theorem w119_1 : Wp d 119 1 [l0, l1, l2] (.int x :: st) h Q = Wp d 119 2 [l0, kl l1, some (.int x)] st h Q := (W_st1 (pc' := 2) (k := 2) f119_1 rfl rfl (by simp only [List.length_cons, List.length_nil]; omega)).trans (by rw [pst1_succ]; rfl)
theorem f119_2 : fetch 119 2 = some (.iload_n 2, 1, [], .null) := by decide +kernel
theorem w119_2 : Wp d 119 2 [l0, l1, some (.int x)] st h Q = Wp d 119 3 [l0, l1, some (.int x)] (.int x :: st) h Q := W_go f119_2 rfl
theorem f119_3 : fetch 119 3 = some (.aload_n 0, 1, [], .null) := by decide +kernel
theorem w119_3 : Wp d 119 3 [some (.ref a), l1, l2] st h Q = Wp d 119 4 [some (.ref a), l1, l2] (.ref a :: st) h Q := W_go f119_3 rfl
theorem f119_4 : fetch 119 4 = some (.getfield 57, 3, [8, 0, 5173, 0], .null) := by decide +kernel
theorem w119_4 : Wp d 119 4 [l0, l1, l2] (.ref a :: st) h Q = gP (h.2 a) 8 0 (fun w => Wp d 119 7 [l0, l1, l2] (w :: st) h Q) := W_get f119_4 rfl
theorem f119_7 : fetch 119 7 = some (.if_icmp .ge 21, 3, [], .null) := by decide +kernel
theorem w119_7 : Wp d 119 7 [l0, l1, l2] (.int y :: .int x :: st) h Q = if icond .ge x y = true then Wp d 119 28 [l0, l1, l2] st h Q else Wp d 119 10 [l0, l1, l2] st h Q := W_if f119_7 rfl
theorem f119_10 : fetch 119 10 = some (.aload_n 0, 1, [], .null) := by decide +kernel
theorem w119_10 : Wp d 119 10 [some (.ref a), l1, l2] st h Q = Wp d 119 11 [some (.ref a), l1, l2] (.ref a :: st) h Q := W_go f119_10 rfl
theorem f119_11 : fetch 119 11 = some (.getfield 9, 3, [8, 3, 5178, 0], .null) := by decide +kernel
theorem w119_11 : Wp d 119 11 [l0, l1, l2] (.ref a :: st) h Q = gP (h.2 a) 8 3 (fun w => Wp d 119 14 [l0, l1, l2] (w :: st) h Q) := W_get f119_11 rfl
theorem f119_14 : fetch 119 14 = some (.iload_n 2, 1, [], .null) := by decide +kernel
theorem w119_14 : Wp d 119 14 [l0, l1, some (.int x)] st h Q = Wp d 119 15 [l0, l1, some (.int x)] (.int x :: st) h Q := W_go f119_14 rfl
theorem f119_15 : fetch 119 15 = some (.iaload, 1, [], .null) := by decide +kernel
theorem w119_15 : Wp d 119 15 [l0, l1, l2] (.int x :: .ref a :: st) h Q = aP false (h.2 a) x (fun w => Wp d 119 16 [l0, l1, l2] (.int w :: st) h Q) := W_ald f119_15 rfl
theorem f119_16 : fetch 119 16 = some (.iload_n 1, 1, [], .null) := by decide +kernel
theorem w119_16 : Wp d 119 16 [l0, some (.int x), l2] st h Q = Wp d 119 17 [l0, some (.int x), l2] (.int x :: st) h Q := W_go f119_16 rfl
theorem f119_17 : fetch 119 17 = some (.if_icmp .ne 5, 3, [], .null) := by decide +kernel
theorem w119_17 : Wp d 119 17 [l0, l1, l2] (.int y :: .int x :: st) h Q = if icond .ne x y = true then Wp d 119 22 [l0, l1, l2] st h Q else Wp d 119 20 [l0, l1, l2] st h Q := W_if f119_17 rfl
theorem f119_20 : fetch 119 20 = some (.iload_n 2, 1, [], .null) := by decide +kernel
theorem w119_20 : Wp d 119 20 [l0, l1, some (.int x)] st h Q = Wp d 119 21 [l0, l1, some (.int x)] (.int x :: st) h Q := W_go f119_20 rfl
theorem f119_21 : fetch 119 21 = some (.ireturn, 1, [], .null) := by decide +kernel
theorem w119_21 : Wp d 119 21 [l0, l1, l2] [.int x] h Q = Q (.inl (some (.int x)), h) := W_iret f119_21 hr119
theorem f119_22 : fetch 119 22 = some (.iinc 2 1, 3, [], .null) := by decide +kernel
theorem w119_22 : Wp d 119 22 [l0, l1, some (.int x)] st h Q = Wp d 119 25 [l0, kl l1, some (.int (x + (1 : Int32)))] st h Q := (W_iinc (y := (1 : Int32)) f119_22 rfl (by simp only [List.length_cons, List.length_nil]; omega) (by decide)).trans (by rw [pst1_succ]; rfl)
theorem f119_25 : fetch 119 25 = some (.goto (-23), 3, [], .null) := by decide +kernel
theorem w119_25 : Wp d 119 25 [l0, l1, l2] st h Q = Wp d 119 2 [l0, l1, l2] st h Q := W_go f119_25 rfl
theorem f119_28 : fetch 119 28 = some (.iconst (-1), 1, [], .null) := by decide +kernel
theorem w119_28 : Wp d 119 28 [l0, l1, l2] st h Q = Wp d 119 29 [l0, l1, l2] (.int (-1 : Int32) :: st) h Q := W_go f119_28 rfl
theorem f119_29 : fetch 119 29 = some (.ireturn, 1, [], .null) := by decide +kernel
theorem w119_29 : Wp d 119 29 [l0, l1, l2] [.int x] h Q = Q (.inl (some (.int x)), h) := W_iret f119_29 hr119
end ROWS80
