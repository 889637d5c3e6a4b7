section ROWS240
variable {d : Nat} {h : PH} {Q : PO → Prop} {st : List Value} {x y n sp dp : Int32} {x8 y8 : Int64} {xd yd : UInt64} {a b : Nat} {v v0 v1 v2 v3 v4 v5 v6 v7 v8 v9 : Value} {l0 l1 l2 l3 l4 l5 l6 l7 l8 l9 l10 l11 l12 l13 l14 l15 l16 l17 l18 l19 l20 l21 l22 l23 : Option Value}
theorem hm240 : mhs 240 = [] := by decide +kernel
theorem hr240 : mret 240 = (some .int) := by decide +kernel
theorem f240_0 : fetch 240 0 = some (.iload_n 0, 1, [], .null) := by decide +kernel
theorem w240_0 : Wp d 240 0 [some (.int x), l1, l2] st h Q = Wp d 240 1 [some (.int x), l1, l2] (.int x :: st) h Q := W_go f240_0 rfl
theorem f240_1 : fetch 240 1 = some (.ifCond .lt 8, 3, [], .null) := by decide +kernel
theorem w240_1 : Wp d 240 1 [l0, l1, l2] (.int x :: st) h Q = if icond .lt x 0 = true then Wp d 240 9 [l0, l1, l2] st h Q else Wp d 240 4 [l0, l1, l2] st h Q := W_if f240_1 rfl
theorem f240_4 : fetch 240 4 = some (.iload_n 0, 1, [], .null) := by decide +kernel
theorem w240_4 : Wp d 240 4 [some (.int x), l1, l2] st h Q = Wp d 240 5 [some (.int x), l1, l2] (.int x :: st) h Q := W_go f240_4 rfl
theorem f240_5 : fetch 240 5 = some (.iload_n 1, 1, [], .null) := by decide +kernel
theorem w240_5 : Wp d 240 5 [l0, some (.int x), l2] st h Q = Wp d 240 6 [l0, some (.int x), l2] (.int x :: st) h Q := W_go f240_5 rfl
theorem f240_6 : fetch 240 6 = some (.if_icmp .lt 10, 3, [], .null) := by decide +kernel
theorem w240_6 : Wp d 240 6 [l0, l1, l2] (.int y :: .int x :: st) h Q = if icond .lt x y = true then Wp d 240 16 [l0, l1, l2] st h Q else Wp d 240 9 [l0, l1, l2] st h Q := W_if f240_6 rfl
theorem f240_9 : fetch 240 9 = some (.aload_n 2, 1, [], .null) := by decide +kernel
theorem w240_9 : Wp d 240 9 [l0, l1, some (.ref a)] st h Q = Wp d 240 10 [l0, l1, some (.ref a)] (.ref a :: st) h Q := W_go f240_9 rfl
theorem f240_10 : fetch 240 10 = some (.iload_n 0, 1, [], .null) := by decide +kernel
theorem w240_10 : Wp d 240 10 [some (.int x), l1, l2] st h Q = Wp d 240 11 [some (.int x), l1, l2] (.int x :: st) h Q := W_go f240_10 rfl
theorem f240_11 : fetch 240 11 = some (.iload_n 1, 1, [], .null) := by decide +kernel
theorem w240_11 : Wp d 240 11 [l0, some (.int x), l2] st h Q = Wp d 240 12 [l0, some (.int x), l2] (.int x :: st) h Q := W_go f240_11 rfl
theorem f240_12 : fetch 240 12 = some (.invokestatic 95, 3, [], .null) := by decide +kernel
theorem f240_15 : fetch 240 15 = some (.athrow, 1, [], .null) := by decide +kernel
theorem f240_16 : fetch 240 16 = some (.iload_n 0, 1, [], .null) := by decide +kernel
theorem w240_16 : Wp d 240 16 [some (.int x), l1, l2] st h Q = Wp d 240 17 [some (.int x), l1, l2] (.int x :: st) h Q := W_go f240_16 rfl
theorem f240_17 : fetch 240 17 = some (.ireturn, 1, [], .null) := by decide +kernel
theorem w240_17 : Wp d 240 17 [l0, l1, l2] [.int x] h Q = Q (.inl (some (.int x)), h) := W_iret f240_17 hr240
theorem hm241 : mhs 241 = [(0, 16, 19, 13, "java/lang/IllegalStateException")] := by decide +kernel
theorem hr241 : mret 241 = (some .int) := by decide +kernel
theorem f241_0 : fetch 241 0 = some (.aload 6, 2, [], .null) := by decide +kernel
theorem w241_0 : Wp d 241 0 [l0, l1, l2, l3, l4, l5, some (.ref a), l7] st h Q = Wp d 241 2 [l0, l1, l2, l3, l4, l5, some (.ref a), l7] (.ref a :: st) h Q := W_go f241_0 rfl
theorem f241_2 : fetch 241 2 = some (.iconst 0, 1, [], .null) := by decide +kernel
theorem w241_2 : Wp d 241 2 [l0, l1, l2, l3, l4, l5, l6, l7] st h Q = Wp d 241 3 [l0, l1, l2, l3, l4, l5, l6, l7] (.int (0 : Int32) :: st) h Q := W_go f241_2 rfl
theorem f241_3 : fetch 241 3 = some (.aload_n 0, 1, [], .null) := by decide +kernel
theorem w241_3 : Wp d 241 3 [some (.ref a), l1, l2, l3, l4, l5, l6, l7] st h Q = Wp d 241 4 [some (.ref a), l1, l2, l3, l4, l5, l6, l7] (.ref a :: st) h Q := W_go f241_3 rfl
theorem f241_4 : fetch 241 4 = some (.iload_n 1, 1, [], .null) := by decide +kernel
theorem w241_4 : Wp d 241 4 [l0, some (.int x), l2, l3, l4, l5, l6, l7] st h Q = Wp d 241 5 [l0, some (.int x), l2, l3, l4, l5, l6, l7] (.int x :: st) h Q := W_go f241_4 rfl
theorem f241_5 : fetch 241 5 = some (.iload_n 2, 1, [], .null) := by decide +kernel
theorem w241_5 : Wp d 241 5 [l0, l1, some (.int x), l3, l4, l5, l6, l7] st h Q = Wp d 241 6 [l0, l1, some (.int x), l3, l4, l5, l6, l7] (.int x :: st) h Q := W_go f241_5 rfl
theorem f241_6 : fetch 241 6 = some (.iload_n 3, 1, [], .null) := by decide +kernel
theorem w241_6 : Wp d 241 6 [l0, l1, l2, some (.int x), l4, l5, l6, l7] st h Q = Wp d 241 7 [l0, l1, l2, some (.int x), l4, l5, l6, l7] (.int x :: st) h Q := W_go f241_6 rfl
theorem f241_7 : fetch 241 7 = some (.iload 4, 2, [], .null) := by decide +kernel
theorem w241_7 : Wp d 241 7 [l0, l1, l2, l3, some (.int x), l5, l6, l7] st h Q = Wp d 241 9 [l0, l1, l2, l3, some (.int x), l5, l6, l7] (.int x :: st) h Q := W_go f241_7 rfl
theorem f241_9 : fetch 241 9 = some (.iload 5, 2, [], .null) := by decide +kernel
theorem w241_9 : Wp d 241 9 [l0, l1, l2, l3, l4, some (.int x), l6, l7] st h Q = Wp d 241 11 [l0, l1, l2, l3, l4, some (.int x), l6, l7] (.int x :: st) h Q := W_go f241_9 rfl
theorem f241_11 : fetch 241 11 = some (.invokevirtual 7, 3, [69, 6, 8, 0, 3228, 1001, 3231, 3229, 3230], .null) := by decide +kernel
theorem w241_11 (hp : psum st ≤ 8) : Wp d 241 11 [l0, l1, l2, l3, l4, l5, l6, l7] (v5 :: v4 :: v3 :: v2 :: v1 :: (.ref b) :: st) h Q = rP (h.2 b) 7 (Cp d 69 [(.ref b), v1, v2, v3, v4, v5] h (fun o => cK o (fun w h2 => Wp d 241 14 [l0, l1, l2, l3, l4, l5, l6, l7] (w.toList ++ st) h2 Q) (fun E h2 => oP (hfind [(0, 16, 19, 13, "java/lang/IllegalStateException")] 11 E) (fun hp => Wp d 241 hp [l0, l1, l2, l3, l4, l5, l6, l7] [.ref 299] h2 Q)))) := (W_invV (st := st) f241_11 rfl rfl (by simp only [List.length_cons]; omega) rfl rfl hp).trans (by simp only [hm241, reduceCtorEq, if_false])
theorem f241_14 : fetch 241 14 = some (.i2l, 1, [], .null) := by decide +kernel
theorem w241_14 : Wp d 241 14 [l0, l1, l2, l3, l4, l5, l6, l7] (.int x :: st) h Q = Wp d 241 15 [l0, l1, l2, l3, l4, l5, l6, l7] (.long x.toInt64 :: st) h Q := W_go f241_14 rfl
theorem f241_15 : fetch 241 15 = some (.lastore, 1, [], .null) := by decide +kernel
theorem w241_15 : Wp d 241 15 [l0, l1, l2, l3, l4, l5, l6, l7] (.long y8 :: .int x :: .ref a :: st) h Q = lsP (h.2 a) a x y8 (fun c => Wp d 241 16 [l0, l1, l2, l3, l4, l5, l6, l7] st (hset h a c) Q) := W_lst f241_15 rfl
theorem f241_16 : fetch 241 16 = some (.goto 7, 3, [], .null) := by decide +kernel
theorem w241_16 : Wp d 241 16 [l0, l1, l2, l3, l4, l5, l6, l7] st h Q = Wp d 241 23 [l0, l1, l2, l3, l4, l5, l6, l7] st h Q := W_go f241_16 rfl
theorem f241_19 : fetch 241 19 = some (.astore 7, 2, [], .null) := by decide +kernel
theorem w241_19 : Wp d 241 19 [l0, l1, l2, l3, l4, l5, l6, l7] (.ref a :: st) h Q = Wp d 241 21 [l0, l1, l2, l3, l4, l5, kl l6, some (.ref a)] st h Q := (W_st1 (pc' := 21) (k := 7) f241_19 rfl rfl (by simp only [List.length_cons, List.length_nil]; omega)).trans (by rw [pst1_succ]; rfl)
theorem f241_21 : fetch 241 21 = some (.iconst 1, 1, [], .null) := by decide +kernel
theorem w241_21 : Wp d 241 21 [l0, l1, l2, l3, l4, l5, l6, l7] st h Q = Wp d 241 22 [l0, l1, l2, l3, l4, l5, l6, l7] (.int (1 : Int32) :: st) h Q := W_go f241_21 rfl
theorem f241_22 : fetch 241 22 = some (.ireturn, 1, [], .null) := by decide +kernel
theorem w241_22 : Wp d 241 22 [l0, l1, l2, l3, l4, l5, l6, l7] [.int x] h Q = Q (.inl (some (.int x)), h) := W_iret f241_22 hr241
theorem f241_23 : fetch 241 23 = some (.iconst 0, 1, [], .null) := by decide +kernel
theorem w241_23 : Wp d 241 23 [l0, l1, l2, l3, l4, l5, l6, l7] st h Q = Wp d 241 24 [l0, l1, l2, l3, l4, l5, l6, l7] (.int (0 : Int32) :: st) h Q := W_go f241_23 rfl
theorem f241_24 : fetch 241 24 = some (.ireturn, 1, [], .null) := by decide +kernel
theorem w241_24 : Wp d 241 24 [l0, l1, l2, l3, l4, l5, l6, l7] [.int x] h Q = Q (.inl (some (.int x)), h) := W_iret f241_24 hr241
theorem hm242 : mhs 242 = [(0, 9, 12, 19, "java/lang/IllegalArgumentException")] := by decide +kernel
theorem hr242 : mret 242 = (some .int) := by decide +kernel
theorem f242_0 : fetch 242 0 = some (.aload_n 2, 1, [], .null) := by decide +kernel
theorem w242_0 : Wp d 242 0 [l0, l1, some (.ref a), l3] st h Q = Wp d 242 1 [l0, l1, some (.ref a), l3] (.ref a :: st) h Q := W_go f242_0 rfl
theorem f242_1 : fetch 242 1 = some (.iconst 0, 1, [], .null) := by decide +kernel
theorem w242_1 : Wp d 242 1 [l0, l1, l2, l3] st h Q = Wp d 242 2 [l0, l1, l2, l3] (.int (0 : Int32) :: st) h Q := W_go f242_1 rfl
theorem f242_2 : fetch 242 2 = some (.aload_n 0, 1, [], .null) := by decide +kernel
theorem w242_2 : Wp d 242 2 [some (.ref a), l1, l2, l3] st h Q = Wp d 242 3 [some (.ref a), l1, l2, l3] (.ref a :: st) h Q := W_go f242_2 rfl
theorem f242_3 : fetch 242 3 = some (.iload_n 1, 1, [], .null) := by decide +kernel
theorem w242_3 : Wp d 242 3 [l0, some (.int x), l2, l3] st h Q = Wp d 242 4 [l0, some (.int x), l2, l3] (.int x :: st) h Q := W_go f242_3 rfl
theorem f242_4 : fetch 242 4 = some (.invokevirtual 15, 3, [70, 2, 8, 0, 4067, 1001, 4070, 4068, 4069], .null) := by decide +kernel
theorem w242_4 (hp : psum st ≤ 8) : Wp d 242 4 [l0, l1, l2, l3] (v1 :: (.ref b) :: st) h Q = rP (h.2 b) 7 (Cp d 70 [(.ref b), v1] h (fun o => cK o (fun w h2 => Wp d 242 7 [l0, l1, l2, l3] (w.toList ++ st) h2 Q) (fun E h2 => oP (hfind [(0, 9, 12, 19, "java/lang/IllegalArgumentException")] 4 E) (fun hp => Wp d 242 hp [l0, l1, l2, l3] [.ref 299] h2 Q)))) := (W_invV (st := st) f242_4 rfl rfl (by simp only [List.length_cons]; omega) rfl rfl hp).trans (by simp only [hm242, reduceCtorEq, if_false])
theorem f242_7 : fetch 242 7 = some (.i2l, 1, [], .null) := by decide +kernel
theorem w242_7 : Wp d 242 7 [l0, l1, l2, l3] (.int x :: st) h Q = Wp d 242 8 [l0, l1, l2, l3] (.long x.toInt64 :: st) h Q := W_go f242_7 rfl
theorem f242_8 : fetch 242 8 = some (.lastore, 1, [], .null) := by decide +kernel
theorem w242_8 : Wp d 242 8 [l0, l1, l2, l3] (.long y8 :: .int x :: .ref a :: st) h Q = lsP (h.2 a) a x y8 (fun c => Wp d 242 9 [l0, l1, l2, l3] st (hset h a c) Q) := W_lst f242_8 rfl
theorem f242_9 : fetch 242 9 = some (.goto 6, 3, [], .null) := by decide +kernel
theorem w242_9 : Wp d 242 9 [l0, l1, l2, l3] st h Q = Wp d 242 15 [l0, l1, l2, l3] st h Q := W_go f242_9 rfl
theorem f242_12 : fetch 242 12 = some (.astore_n 3, 1, [], .null) := by decide +kernel
theorem w242_12 : Wp d 242 12 [l0, l1, l2, l3] (.ref a :: st) h Q = Wp d 242 13 [l0, l1, kl l2, some (.ref a)] st h Q := (W_st1 (pc' := 13) (k := 3) f242_12 rfl rfl (by simp only [List.length_cons, List.length_nil]; omega)).trans (by rw [pst1_succ]; rfl)
theorem f242_13 : fetch 242 13 = some (.iconst 1, 1, [], .null) := by decide +kernel
theorem w242_13 : Wp d 242 13 [l0, l1, l2, l3] st h Q = Wp d 242 14 [l0, l1, l2, l3] (.int (1 : Int32) :: st) h Q := W_go f242_13 rfl
theorem f242_14 : fetch 242 14 = some (.ireturn, 1, [], .null) := by decide +kernel
theorem w242_14 : Wp d 242 14 [l0, l1, l2, l3] [.int x] h Q = Q (.inl (some (.int x)), h) := W_iret f242_14 hr242
theorem f242_15 : fetch 242 15 = some (.iconst 0, 1, [], .null) := by decide +kernel
theorem w242_15 : Wp d 242 15 [l0, l1, l2, l3] st h Q = Wp d 242 16 [l0, l1, l2, l3] (.int (0 : Int32) :: st) h Q := W_go f242_15 rfl
theorem f242_16 : fetch 242 16 = some (.ireturn, 1, [], .null) := by decide +kernel
theorem w242_16 : Wp d 242 16 [l0, l1, l2, l3] [.int x] h Q = Q (.inl (some (.int x)), h) := W_iret f242_16 hr242
theorem hm243 : mhs 243 = [(0, 9, 12, 19, "java/lang/IllegalArgumentException"), (0, 9, 15, 13, "java/lang/IllegalStateException")] := by decide +kernel
theorem hr243 : mret 243 = (some .int) := by decide +kernel
theorem f243_0 : fetch 243 0 = some (.aload_n 2, 1, [], .null) := by decide +kernel
theorem w243_0 : Wp d 243 0 [l0, l1, some (.ref a), l3] st h Q = Wp d 243 1 [l0, l1, some (.ref a), l3] (.ref a :: st) h Q := W_go f243_0 rfl
theorem f243_1 : fetch 243 1 = some (.iconst 0, 1, [], .null) := by decide +kernel
theorem w243_1 : Wp d 243 1 [l0, l1, l2, l3] st h Q = Wp d 243 2 [l0, l1, l2, l3] (.int (0 : Int32) :: st) h Q := W_go f243_1 rfl
theorem f243_2 : fetch 243 2 = some (.aload_n 0, 1, [], .null) := by decide +kernel
theorem w243_2 : Wp d 243 2 [some (.ref a), l1, l2, l3] st h Q = Wp d 243 3 [some (.ref a), l1, l2, l3] (.ref a :: st) h Q := W_go f243_2 rfl
theorem f243_3 : fetch 243 3 = some (.iload_n 1, 1, [], .null) := by decide +kernel
theorem w243_3 : Wp d 243 3 [l0, some (.int x), l2, l3] st h Q = Wp d 243 4 [l0, some (.int x), l2, l3] (.int x :: st) h Q := W_go f243_3 rfl
theorem f243_4 : fetch 243 4 = some (.invokevirtual 21, 3, [73, 2, 8, 0, 4090, 1001, 4093, 4091, 4092], .null) := by decide +kernel
theorem w243_4 (hp : psum st ≤ 8) : Wp d 243 4 [l0, l1, l2, l3] (v1 :: (.ref b) :: st) h Q = rP (h.2 b) 7 (Cp d 73 [(.ref b), v1] h (fun o => cK o (fun w h2 => Wp d 243 7 [l0, l1, l2, l3] (w.toList ++ st) h2 Q) (fun E h2 => oP (hfind [(0, 9, 12, 19, "java/lang/IllegalArgumentException"), (0, 9, 15, 13, "java/lang/IllegalStateException")] 4 E) (fun hp => Wp d 243 hp [l0, l1, l2, l3] [.ref 299] h2 Q)))) := (W_invV (st := st) f243_4 rfl rfl (by simp only [List.length_cons]; omega) rfl rfl hp).trans (by simp only [hm243, reduceCtorEq, if_false])
theorem f243_7 : fetch 243 7 = some (.i2l, 1, [], .null) := by decide +kernel
theorem w243_7 : Wp d 243 7 [l0, l1, l2, l3] (.int x :: st) h Q = Wp d 243 8 [l0, l1, l2, l3] (.long x.toInt64 :: st) h Q := W_go f243_7 rfl
theorem f243_8 : fetch 243 8 = some (.lastore, 1, [], .null) := by decide +kernel
theorem w243_8 : Wp d 243 8 [l0, l1, l2, l3] (.long y8 :: .int x :: .ref a :: st) h Q = lsP (h.2 a) a x y8 (fun c => Wp d 243 9 [l0, l1, l2, l3] st (hset h a c) Q) := W_lst f243_8 rfl
theorem f243_9 : fetch 243 9 = some (.goto 9, 3, [], .null) := by decide +kernel
theorem w243_9 : Wp d 243 9 [l0, l1, l2, l3] st h Q = Wp d 243 18 [l0, l1, l2, l3] st h Q := W_go f243_9 rfl
theorem f243_12 : fetch 243 12 = some (.astore_n 3, 1, [], .null) := by decide +kernel
theorem w243_12 : Wp d 243 12 [l0, l1, l2, l3] (.ref a :: st) h Q = Wp d 243 13 [l0, l1, kl l2, some (.ref a)] st h Q := (W_st1 (pc' := 13) (k := 3) f243_12 rfl rfl (by simp only [List.length_cons, List.length_nil]; omega)).trans (by rw [pst1_succ]; rfl)
theorem f243_13 : fetch 243 13 = some (.iconst 1, 1, [], .null) := by decide +kernel
theorem w243_13 : Wp d 243 13 [l0, l1, l2, l3] st h Q = Wp d 243 14 [l0, l1, l2, l3] (.int (1 : Int32) :: st) h Q := W_go f243_13 rfl
theorem f243_14 : fetch 243 14 = some (.ireturn, 1, [], .null) := by decide +kernel
theorem w243_14 : Wp d 243 14 [l0, l1, l2, l3] [.int x] h Q = Q (.inl (some (.int x)), h) := W_iret f243_14 hr243
theorem f243_15 : fetch 243 15 = some (.astore_n 3, 1, [], .null) := by decide +kernel
theorem w243_15 : Wp d 243 15 [l0, l1, l2, l3] (.ref a :: st) h Q = Wp d 243 16 [l0, l1, kl l2, some (.ref a)] st h Q := (W_st1 (pc' := 16) (k := 3) f243_15 rfl rfl (by simp only [List.length_cons, List.length_nil]; omega)).trans (by rw [pst1_succ]; rfl)
theorem f243_16 : fetch 243 16 = some (.iconst 2, 1, [], .null) := by decide +kernel
theorem w243_16 : Wp d 243 16 [l0, l1, l2, l3] st h Q = Wp d 243 17 [l0, l1, l2, l3] (.int (2 : Int32) :: st) h Q := W_go f243_16 rfl
theorem f243_17 : fetch 243 17 = some (.ireturn, 1, [], .null) := by decide +kernel
theorem w243_17 : Wp d 243 17 [l0, l1, l2, l3] [.int x] h Q = Q (.inl (some (.int x)), h) := W_iret f243_17 hr243
theorem f243_18 : fetch 243 18 = some (.iconst 0, 1, [], .null) := by decide +kernel
theorem w243_18 : Wp d 243 18 [l0, l1, l2, l3] st h Q = Wp d 243 19 [l0, l1, l2, l3] (.int (0 : Int32) :: st) h Q := W_go f243_18 rfl
theorem f243_19 : fetch 243 19 = some (.ireturn, 1, [], .null) := by decide +kernel
theorem w243_19 : Wp d 243 19 [l0, l1, l2, l3] [.int x] h Q = Q (.inl (some (.int x)), h) := W_iret f243_19 hr243
theorem hm244 : mhs 244 = [(0, 10, 13, 28, "java/lang/IndexOutOfBoundsException")] := by decide +kernel
theorem hr244 : mret 244 = (some .int) := by decide +kernel
theorem f244_0 : fetch 244 0 = some (.aload_n 3, 1, [], .null) := by decide +kernel
theorem w244_0 : Wp d 244 0 [l0, l1, l2, some (.ref a), l4] st h Q = Wp d 244 1 [l0, l1, l2, some (.ref a), l4] (.ref a :: st) h Q := W_go f244_0 rfl
theorem f244_1 : fetch 244 1 = some (.iconst 0, 1, [], .null) := by decide +kernel
theorem w244_1 : Wp d 244 1 [l0, l1, l2, l3, l4] st h Q = Wp d 244 2 [l0, l1, l2, l3, l4] (.int (0 : Int32) :: st) h Q := W_go f244_1 rfl
theorem f244_2 : fetch 244 2 = some (.aload_n 0, 1, [], .null) := by decide +kernel
theorem w244_2 : Wp d 244 2 [some (.ref a), l1, l2, l3, l4] st h Q = Wp d 244 3 [some (.ref a), l1, l2, l3, l4] (.ref a :: st) h Q := W_go f244_2 rfl
theorem f244_3 : fetch 244 3 = some (.iload_n 1, 1, [], .null) := by decide +kernel
theorem w244_3 : Wp d 244 3 [l0, some (.int x), l2, l3, l4] st h Q = Wp d 244 4 [l0, some (.int x), l2, l3, l4] (.int x :: st) h Q := W_go f244_3 rfl
theorem f244_4 : fetch 244 4 = some (.iload_n 2, 1, [], .null) := by decide +kernel
theorem w244_4 : Wp d 244 4 [l0, l1, some (.int x), l3, l4] st h Q = Wp d 244 5 [l0, l1, some (.int x), l3, l4] (.int x :: st) h Q := W_go f244_4 rfl
theorem f244_5 : fetch 244 5 = some (.invokevirtual 24, 3, [74, 3, 8, 0, 4101, 1001, 4104, 4102, 4103], .null) := by decide +kernel
theorem w244_5 (hp : psum st ≤ 8) : Wp d 244 5 [l0, l1, l2, l3, l4] (v2 :: v1 :: (.ref b) :: st) h Q = rP (h.2 b) 7 (Cp d 74 [(.ref b), v1, v2] h (fun o => cK o (fun w h2 => Wp d 244 8 [l0, l1, l2, l3, l4] (w.toList ++ st) h2 Q) (fun E h2 => oP (hfind [(0, 10, 13, 28, "java/lang/IndexOutOfBoundsException")] 5 E) (fun hp => Wp d 244 hp [l0, l1, l2, l3, l4] [.ref 299] h2 Q)))) := (W_invV (st := st) f244_5 rfl rfl (by simp only [List.length_cons]; omega) rfl rfl hp).trans (by simp only [hm244, reduceCtorEq, if_false])
theorem f244_8 : fetch 244 8 = some (.i2l, 1, [], .null) := by decide +kernel
theorem w244_8 : Wp d 244 8 [l0, l1, l2, l3, l4] (.int x :: st) h Q = Wp d 244 9 [l0, l1, l2, l3, l4] (.long x.toInt64 :: st) h Q := W_go f244_8 rfl
theorem f244_9 : fetch 244 9 = some (.lastore, 1, [], .null) := by decide +kernel
theorem w244_9 : Wp d 244 9 [l0, l1, l2, l3, l4] (.long y8 :: .int x :: .ref a :: st) h Q = lsP (h.2 a) a x y8 (fun c => Wp d 244 10 [l0, l1, l2, l3, l4] st (hset h a c) Q) := W_lst f244_9 rfl
theorem f244_10 : fetch 244 10 = some (.goto 7, 3, [], .null) := by decide +kernel
theorem w244_10 : Wp d 244 10 [l0, l1, l2, l3, l4] st h Q = Wp d 244 17 [l0, l1, l2, l3, l4] st h Q := W_go f244_10 rfl
theorem f244_13 : fetch 244 13 = some (.astore 4, 2, [], .null) := by decide +kernel
theorem w244_13 : Wp d 244 13 [l0, l1, l2, l3, l4] (.ref a :: st) h Q = Wp d 244 15 [l0, l1, l2, kl l3, some (.ref a)] st h Q := (W_st1 (pc' := 15) (k := 4) f244_13 rfl rfl (by simp only [List.length_cons, List.length_nil]; omega)).trans (by rw [pst1_succ]; rfl)
theorem f244_15 : fetch 244 15 = some (.iconst 1, 1, [], .null) := by decide +kernel
theorem w244_15 : Wp d 244 15 [l0, l1, l2, l3, l4] st h Q = Wp d 244 16 [l0, l1, l2, l3, l4] (.int (1 : Int32) :: st) h Q := W_go f244_15 rfl
theorem f244_16 : fetch 244 16 = some (.ireturn, 1, [], .null) := by decide +kernel
theorem w244_16 : Wp d 244 16 [l0, l1, l2, l3, l4] [.int x] h Q = Q (.inl (some (.int x)), h) := W_iret f244_16 hr244
theorem f244_17 : fetch 244 17 = some (.iconst 0, 1, [], .null) := by decide +kernel
theorem w244_17 : Wp d 244 17 [l0, l1, l2, l3, l4] st h Q = Wp d 244 18 [l0, l1, l2, l3, l4] (.int (0 : Int32) :: st) h Q := W_go f244_17 rfl
theorem f244_18 : fetch 244 18 = some (.ireturn, 1, [], .null) := by decide +kernel
theorem w244_18 : Wp d 244 18 [l0, l1, l2, l3, l4] [.int x] h Q = Q (.inl (some (.int x)), h) := W_iret f244_18 hr244
theorem hm245 : mhs 245 = [(0, 16, 19, 28, "java/lang/IndexOutOfBoundsException")] := by decide +kernel
theorem hr245 : mret 245 = (some .int) := by decide +kernel
theorem f245_0 : fetch 245 0 = some (.aload_n 2, 1, [], .null) := by decide +kernel
theorem w245_0 : Wp d 245 0 [l0, l1, some (.ref a), l3] st h Q = Wp d 245 1 [l0, l1, some (.ref a), l3] (.ref a :: st) h Q := W_go f245_0 rfl
theorem f245_1 : fetch 245 1 = some (.iconst 0, 1, [], .null) := by decide +kernel
theorem w245_1 : Wp d 245 1 [l0, l1, l2, l3] st h Q = Wp d 245 2 [l0, l1, l2, l3] (.int (0 : Int32) :: st) h Q := W_go f245_1 rfl
theorem f245_2 : fetch 245 2 = some (.aload_n 0, 1, [], .null) := by decide +kernel
theorem w245_2 : Wp d 245 2 [some (.ref a), l1, l2, l3] st h Q = Wp d 245 3 [some (.ref a), l1, l2, l3] (.ref a :: st) h Q := W_go f245_2 rfl
theorem f245_3 : fetch 245 3 = some (.iload_n 1, 1, [], .null) := by decide +kernel
theorem w245_3 : Wp d 245 3 [l0, some (.int x), l2, l3] st h Q = Wp d 245 4 [l0, some (.int x), l2, l3] (.int x :: st) h Q := W_go f245_3 rfl
theorem f245_4 : fetch 245 4 = some (.invokevirtual 30, 3, [76, 2, 8, 0, 4138, 1001, 4141, 4139, 4140], .null) := by decide +kernel
theorem w245_4 (hp : psum st ≤ 8) : Wp d 245 4 [l0, l1, l2, l3] (v1 :: (.ref b) :: st) h Q = rP (h.2 b) 7 (Cp d 76 [(.ref b), v1] h (fun o => cK o (fun w h2 => Wp d 245 7 [l0, l1, l2, l3] (w.toList ++ st) h2 Q) (fun E h2 => oP (hfind [(0, 16, 19, 28, "java/lang/IndexOutOfBoundsException")] 4 E) (fun hp => Wp d 245 hp [l0, l1, l2, l3] [.ref 299] h2 Q)))) := (W_invV (st := st) f245_4 rfl rfl (by simp only [List.length_cons]; omega) rfl rfl hp).trans (by simp only [hm245, reduceCtorEq, if_false])
theorem f245_7 : fetch 245 7 = some (.ifCond .eq 7, 3, [], .null) := by decide +kernel
theorem w245_7 : Wp d 245 7 [l0, l1, l2, l3] (.int x :: st) h Q = if icond .eq x 0 = true then Wp d 245 14 [l0, l1, l2, l3] st h Q else Wp d 245 10 [l0, l1, l2, l3] st h Q := W_if f245_7 rfl
theorem f245_10 : fetch 245 10 = some (.lconst 1, 1, [], .null) := by decide +kernel
theorem w245_10 : Wp d 245 10 [l0, l1, l2, l3] st h Q = Wp d 245 11 [l0, l1, l2, l3] (.long (1 : Int64) :: st) h Q := W_go f245_10 rfl
theorem f245_11 : fetch 245 11 = some (.goto 4, 3, [], .null) := by decide +kernel
theorem w245_11 : Wp d 245 11 [l0, l1, l2, l3] st h Q = Wp d 245 15 [l0, l1, l2, l3] st h Q := W_go f245_11 rfl
theorem f245_14 : fetch 245 14 = some (.lconst 0, 1, [], .null) := by decide +kernel
theorem w245_14 : Wp d 245 14 [l0, l1, l2, l3] st h Q = Wp d 245 15 [l0, l1, l2, l3] (.long (0 : Int64) :: st) h Q := W_go f245_14 rfl
theorem f245_15 : fetch 245 15 = some (.lastore, 1, [], .null) := by decide +kernel
theorem w245_15 : Wp d 245 15 [l0, l1, l2, l3] (.long y8 :: .int x :: .ref a :: st) h Q = lsP (h.2 a) a x y8 (fun c => Wp d 245 16 [l0, l1, l2, l3] st (hset h a c) Q) := W_lst f245_15 rfl
theorem f245_16 : fetch 245 16 = some (.goto 6, 3, [], .null) := by decide +kernel
theorem w245_16 : Wp d 245 16 [l0, l1, l2, l3] st h Q = Wp d 245 22 [l0, l1, l2, l3] st h Q := W_go f245_16 rfl
theorem f245_19 : fetch 245 19 = some (.astore_n 3, 1, [], .null) := by decide +kernel
theorem w245_19 : Wp d 245 19 [l0, l1, l2, l3] (.ref a :: st) h Q = Wp d 245 20 [l0, l1, kl l2, some (.ref a)] st h Q := (W_st1 (pc' := 20) (k := 3) f245_19 rfl rfl (by simp only [List.length_cons, List.length_nil]; omega)).trans (by rw [pst1_succ]; rfl)
theorem f245_20 : fetch 245 20 = some (.iconst 1, 1, [], .null) := by decide +kernel
theorem w245_20 : Wp d 245 20 [l0, l1, l2, l3] st h Q = Wp d 245 21 [l0, l1, l2, l3] (.int (1 : Int32) :: st) h Q := W_go f245_20 rfl
theorem f245_21 : fetch 245 21 = some (.ireturn, 1, [], .null) := by decide +kernel
theorem w245_21 : Wp d 245 21 [l0, l1, l2, l3] [.int x] h Q = Q (.inl (some (.int x)), h) := W_iret f245_21 hr245
theorem f245_22 : fetch 245 22 = some (.iconst 0, 1, [], .null) := by decide +kernel
theorem w245_22 : Wp d 245 22 [l0, l1, l2, l3] st h Q = Wp d 245 23 [l0, l1, l2, l3] (.int (0 : Int32) :: st) h Q := W_go f245_22 rfl
theorem f245_23 : fetch 245 23 = some (.ireturn, 1, [], .null) := by decide +kernel
theorem w245_23 : Wp d 245 23 [l0, l1, l2, l3] [.int x] h Q = Q (.inl (some (.int x)), h) := W_iret f245_23 hr245
theorem hm246 : mhs 246 = [(0, 16, 19, 28, "java/lang/IndexOutOfBoundsException")] := by decide +kernel
theorem hr246 : mret 246 = (some .int) := by decide +kernel
theorem f246_0 : fetch 246 0 = some (.aload_n 2, 1, [], .null) := by decide +kernel
theorem w246_0 : Wp d 246 0 [l0, l1, some (.ref a), l3] st h Q = Wp d 246 1 [l0, l1, some (.ref a), l3] (.ref a :: st) h Q := W_go f246_0 rfl
theorem f246_1 : fetch 246 1 = some (.iconst 0, 1, [], .null) := by decide +kernel
theorem w246_1 : Wp d 246 1 [l0, l1, l2, l3] st h Q = Wp d 246 2 [l0, l1, l2, l3] (.int (0 : Int32) :: st) h Q := W_go f246_1 rfl
theorem f246_2 : fetch 246 2 = some (.aload_n 0, 1, [], .null) := by decide +kernel
theorem w246_2 : Wp d 246 2 [some (.ref a), l1, l2, l3] st h Q = Wp d 246 3 [some (.ref a), l1, l2, l3] (.ref a :: st) h Q := W_go f246_2 rfl
theorem f246_3 : fetch 246 3 = some (.iload_n 1, 1, [], .null) := by decide +kernel
theorem w246_3 : Wp d 246 3 [l0, some (.int x), l2, l3] st h Q = Wp d 246 4 [l0, some (.int x), l2, l3] (.int x :: st) h Q := W_go f246_3 rfl
theorem f246_4 : fetch 246 4 = some (.invokevirtual 34, 3, [77, 2, 8, 0, 4154, 1001, 4157, 4155, 4156], .null) := by decide +kernel
theorem w246_4 (hp : psum st ≤ 8) : Wp d 246 4 [l0, l1, l2, l3] (v1 :: (.ref b) :: st) h Q = rP (h.2 b) 7 (Cp d 77 [(.ref b), v1] h (fun o => cK o (fun w h2 => Wp d 246 7 [l0, l1, l2, l3] (w.toList ++ st) h2 Q) (fun E h2 => oP (hfind [(0, 16, 19, 28, "java/lang/IndexOutOfBoundsException")] 4 E) (fun hp => Wp d 246 hp [l0, l1, l2, l3] [.ref 299] h2 Q)))) := (W_invV (st := st) f246_4 rfl rfl (by simp only [List.length_cons]; omega) rfl rfl hp).trans (by simp only [hm246, reduceCtorEq, if_false])
theorem f246_7 : fetch 246 7 = some (.ifCond .eq 7, 3, [], .null) := by decide +kernel
theorem w246_7 : Wp d 246 7 [l0, l1, l2, l3] (.int x :: st) h Q = if icond .eq x 0 = true then Wp d 246 14 [l0, l1, l2, l3] st h Q else Wp d 246 10 [l0, l1, l2, l3] st h Q := W_if f246_7 rfl
theorem f246_10 : fetch 246 10 = some (.lconst 1, 1, [], .null) := by decide +kernel
theorem w246_10 : Wp d 246 10 [l0, l1, l2, l3] st h Q = Wp d 246 11 [l0, l1, l2, l3] (.long (1 : Int64) :: st) h Q := W_go f246_10 rfl
theorem f246_11 : fetch 246 11 = some (.goto 4, 3, [], .null) := by decide +kernel
theorem w246_11 : Wp d 246 11 [l0, l1, l2, l3] st h Q = Wp d 246 15 [l0, l1, l2, l3] st h Q := W_go f246_11 rfl
theorem f246_14 : fetch 246 14 = some (.lconst 0, 1, [], .null) := by decide +kernel
theorem w246_14 : Wp d 246 14 [l0, l1, l2, l3] st h Q = Wp d 246 15 [l0, l1, l2, l3] (.long (0 : Int64) :: st) h Q := W_go f246_14 rfl
theorem f246_15 : fetch 246 15 = some (.lastore, 1, [], .null) := by decide +kernel
theorem w246_15 : Wp d 246 15 [l0, l1, l2, l3] (.long y8 :: .int x :: .ref a :: st) h Q = lsP (h.2 a) a x y8 (fun c => Wp d 246 16 [l0, l1, l2, l3] st (hset h a c) Q) := W_lst f246_15 rfl
theorem f246_16 : fetch 246 16 = some (.goto 6, 3, [], .null) := by decide +kernel
theorem w246_16 : Wp d 246 16 [l0, l1, l2, l3] st h Q = Wp d 246 22 [l0, l1, l2, l3] st h Q := W_go f246_16 rfl
theorem f246_19 : fetch 246 19 = some (.astore_n 3, 1, [], .null) := by decide +kernel
theorem w246_19 : Wp d 246 19 [l0, l1, l2, l3] (.ref a :: st) h Q = Wp d 246 20 [l0, l1, kl l2, some (.ref a)] st h Q := (W_st1 (pc' := 20) (k := 3) f246_19 rfl rfl (by simp only [List.length_cons, List.length_nil]; omega)).trans (by rw [pst1_succ]; rfl)
theorem f246_20 : fetch 246 20 = some (.iconst 1, 1, [], .null) := by decide +kernel
theorem w246_20 : Wp d 246 20 [l0, l1, l2, l3] st h Q = Wp d 246 21 [l0, l1, l2, l3] (.int (1 : Int32) :: st) h Q := W_go f246_20 rfl
theorem f246_21 : fetch 246 21 = some (.ireturn, 1, [], .null) := by decide +kernel
theorem w246_21 : Wp d 246 21 [l0, l1, l2, l3] [.int x] h Q = Q (.inl (some (.int x)), h) := W_iret f246_21 hr246
theorem f246_22 : fetch 246 22 = some (.iconst 0, 1, [], .null) := by decide +kernel
theorem w246_22 : Wp d 246 22 [l0, l1, l2, l3] st h Q = Wp d 246 23 [l0, l1, l2, l3] (.int (0 : Int32) :: st) h Q := W_go f246_22 rfl
theorem f246_23 : fetch 246 23 = some (.ireturn, 1, [], .null) := by decide +kernel
theorem w246_23 : Wp d 246 23 [l0, l1, l2, l3] [.int x] h Q = Q (.inl (some (.int x)), h) := W_iret f246_23 hr246
theorem hm247 : mhs 247 = [(0, 10, 13, 28, "java/lang/IndexOutOfBoundsException"), (0, 10, 17, 19, "java/lang/IllegalArgumentException")] := by decide +kernel
theorem hr247 : mret 247 = (some .int) := by decide +kernel
theorem f247_0 : fetch 247 0 = some (.aload_n 3, 1, [], .null) := by decide +kernel
theorem w247_0 : Wp d 247 0 [l0, l1, l2, some (.ref a), l4] st h Q = Wp d 247 1 [l0, l1, l2, some (.ref a), l4] (.ref a :: st) h Q := W_go f247_0 rfl
theorem f247_1 : fetch 247 1 = some (.iconst 0, 1, [], .null) := by decide +kernel
theorem w247_1 : Wp d 247 1 [l0, l1, l2, l3, l4] st h Q = Wp d 247 2 [l0, l1, l2, l3, l4] (.int (0 : Int32) :: st) h Q := W_go f247_1 rfl
theorem f247_2 : fetch 247 2 = some (.aload_n 0, 1, [], .null) := by decide +kernel
theorem w247_2 : Wp d 247 2 [some (.ref a), l1, l2, l3, l4] st h Q = Wp d 247 3 [some (.ref a), l1, l2, l3, l4] (.ref a :: st) h Q := W_go f247_2 rfl
theorem f247_3 : fetch 247 3 = some (.iload_n 1, 1, [], .null) := by decide +kernel
theorem w247_3 : Wp d 247 3 [l0, some (.int x), l2, l3, l4] st h Q = Wp d 247 4 [l0, some (.int x), l2, l3, l4] (.int x :: st) h Q := W_go f247_3 rfl
theorem f247_4 : fetch 247 4 = some (.iload_n 2, 1, [], .null) := by decide +kernel
theorem w247_4 : Wp d 247 4 [l0, l1, some (.int x), l3, l4] st h Q = Wp d 247 5 [l0, l1, some (.int x), l3, l4] (.int x :: st) h Q := W_go f247_4 rfl
theorem f247_5 : fetch 247 5 = some (.invokevirtual 37, 3, [78, 3, 8, 0, 4161, 1001, 4164, 4162, 4163], .null) := by decide +kernel
theorem w247_5 (hp : psum st ≤ 8) : Wp d 247 5 [l0, l1, l2, l3, l4] (v2 :: v1 :: (.ref b) :: st) h Q = rP (h.2 b) 7 (Cp d 78 [(.ref b), v1, v2] h (fun o => cK o (fun w h2 => Wp d 247 8 [l0, l1, l2, l3, l4] (w.toList ++ st) h2 Q) (fun E h2 => oP (hfind [(0, 10, 13, 28, "java/lang/IndexOutOfBoundsException"), (0, 10, 17, 19, "java/lang/IllegalArgumentException")] 5 E) (fun hp => Wp d 247 hp [l0, l1, l2, l3, l4] [.ref 299] h2 Q)))) := (W_invV (st := st) f247_5 rfl rfl (by simp only [List.length_cons]; omega) rfl rfl hp).trans (by simp only [hm247, reduceCtorEq, if_false])
theorem f247_8 : fetch 247 8 = some (.i2l, 1, [], .null) := by decide +kernel
theorem w247_8 : Wp d 247 8 [l0, l1, l2, l3, l4] (.int x :: st) h Q = Wp d 247 9 [l0, l1, l2, l3, l4] (.long x.toInt64 :: st) h Q := W_go f247_8 rfl
theorem f247_9 : fetch 247 9 = some (.lastore, 1, [], .null) := by decide +kernel
theorem w247_9 : Wp d 247 9 [l0, l1, l2, l3, l4] (.long y8 :: .int x :: .ref a :: st) h Q = lsP (h.2 a) a x y8 (fun c => Wp d 247 10 [l0, l1, l2, l3, l4] st (hset h a c) Q) := W_lst f247_9 rfl
theorem f247_10 : fetch 247 10 = some (.goto 11, 3, [], .null) := by decide +kernel
theorem w247_10 : Wp d 247 10 [l0, l1, l2, l3, l4] st h Q = Wp d 247 21 [l0, l1, l2, l3, l4] st h Q := W_go f247_10 rfl
theorem f247_13 : fetch 247 13 = some (.astore 4, 2, [], .null) := by decide +kernel
theorem w247_13 : Wp d 247 13 [l0, l1, l2, l3, l4] (.ref a :: st) h Q = Wp d 247 15 [l0, l1, l2, kl l3, some (.ref a)] st h Q := (W_st1 (pc' := 15) (k := 4) f247_13 rfl rfl (by simp only [List.length_cons, List.length_nil]; omega)).trans (by rw [pst1_succ]; rfl)
theorem f247_15 : fetch 247 15 = some (.iconst 1, 1, [], .null) := by decide +kernel
theorem w247_15 : Wp d 247 15 [l0, l1, l2, l3, l4] st h Q = Wp d 247 16 [l0, l1, l2, l3, l4] (.int (1 : Int32) :: st) h Q := W_go f247_15 rfl
theorem f247_16 : fetch 247 16 = some (.ireturn, 1, [], .null) := by decide +kernel
theorem w247_16 : Wp d 247 16 [l0, l1, l2, l3, l4] [.int x] h Q = Q (.inl (some (.int x)), h) := W_iret f247_16 hr247
theorem f247_17 : fetch 247 17 = some (.astore 4, 2, [], .null) := by decide +kernel
theorem w247_17 : Wp d 247 17 [l0, l1, l2, l3, l4] (.ref a :: st) h Q = Wp d 247 19 [l0, l1, l2, kl l3, some (.ref a)] st h Q := (W_st1 (pc' := 19) (k := 4) f247_17 rfl rfl (by simp only [List.length_cons, List.length_nil]; omega)).trans (by rw [pst1_succ]; rfl)
theorem f247_19 : fetch 247 19 = some (.iconst 2, 1, [], .null) := by decide +kernel
theorem w247_19 : Wp d 247 19 [l0, l1, l2, l3, l4] st h Q = Wp d 247 20 [l0, l1, l2, l3, l4] (.int (2 : Int32) :: st) h Q := W_go f247_19 rfl
theorem f247_20 : fetch 247 20 = some (.ireturn, 1, [], .null) := by decide +kernel
theorem w247_20 : Wp d 247 20 [l0, l1, l2, l3, l4] [.int x] h Q = Q (.inl (some (.int x)), h) := W_iret f247_20 hr247
theorem f247_21 : fetch 247 21 = some (.iconst 0, 1, [], .null) := by decide +kernel
theorem w247_21 : Wp d 247 21 [l0, l1, l2, l3, l4] st h Q = Wp d 247 22 [l0, l1, l2, l3, l4] (.int (0 : Int32) :: st) h Q := W_go f247_21 rfl
theorem f247_22 : fetch 247 22 = some (.ireturn, 1, [], .null) := by decide +kernel
theorem w247_22 : Wp d 247 22 [l0, l1, l2, l3, l4] [.int x] h Q = Q (.inl (some (.int x)), h) := W_iret f247_22 hr247
theorem hm248 : mhs 248 = [(0, 9, 12, 28, "java/lang/IndexOutOfBoundsException")] := by decide +kernel
theorem hr248 : mret 248 = (some .int) := by decide +kernel
theorem f248_0 : fetch 248 0 = some (.aload_n 2, 1, [], .null) := by decide +kernel
theorem w248_0 : Wp d 248 0 [l0, l1, some (.ref a), l3] st h Q = Wp d 248 1 [l0, l1, some (.ref a), l3] (.ref a :: st) h Q := W_go f248_0 rfl
theorem f248_1 : fetch 248 1 = some (.iconst 0, 1, [], .null) := by decide +kernel
theorem w248_1 : Wp d 248 1 [l0, l1, l2, l3] st h Q = Wp d 248 2 [l0, l1, l2, l3] (.int (0 : Int32) :: st) h Q := W_go f248_1 rfl
theorem f248_2 : fetch 248 2 = some (.aload_n 0, 1, [], .null) := by decide +kernel
theorem w248_2 : Wp d 248 2 [some (.ref a), l1, l2, l3] st h Q = Wp d 248 3 [some (.ref a), l1, l2, l3] (.ref a :: st) h Q := W_go f248_2 rfl
theorem f248_3 : fetch 248 3 = some (.iload_n 1, 1, [], .null) := by decide +kernel
theorem w248_3 : Wp d 248 3 [l0, some (.int x), l2, l3] st h Q = Wp d 248 4 [l0, some (.int x), l2, l3] (.int x :: st) h Q := W_go f248_3 rfl
theorem f248_4 : fetch 248 4 = some (.invokevirtual 40, 3, [79, 2, 8, 0, 4170, 1001, 4173, 4171, 4172], .null) := by decide +kernel
theorem w248_4 (hp : psum st ≤ 8) : Wp d 248 4 [l0, l1, l2, l3] (v1 :: (.ref b) :: st) h Q = rP (h.2 b) 7 (Cp d 79 [(.ref b), v1] h (fun o => cK o (fun w h2 => Wp d 248 7 [l0, l1, l2, l3] (w.toList ++ st) h2 Q) (fun E h2 => oP (hfind [(0, 9, 12, 28, "java/lang/IndexOutOfBoundsException")] 4 E) (fun hp => Wp d 248 hp [l0, l1, l2, l3] [.ref 299] h2 Q)))) := (W_invV (st := st) f248_4 rfl rfl (by simp only [List.length_cons]; omega) rfl rfl hp).trans (by simp only [hm248, reduceCtorEq, if_false])
theorem f248_7 : fetch 248 7 = some (.i2l, 1, [], .null) := by decide +kernel
theorem w248_7 : Wp d 248 7 [l0, l1, l2, l3] (.int x :: st) h Q = Wp d 248 8 [l0, l1, l2, l3] (.long x.toInt64 :: st) h Q := W_go f248_7 rfl
theorem f248_8 : fetch 248 8 = some (.lastore, 1, [], .null) := by decide +kernel
theorem w248_8 : Wp d 248 8 [l0, l1, l2, l3] (.long y8 :: .int x :: .ref a :: st) h Q = lsP (h.2 a) a x y8 (fun c => Wp d 248 9 [l0, l1, l2, l3] st (hset h a c) Q) := W_lst f248_8 rfl
theorem f248_9 : fetch 248 9 = some (.goto 6, 3, [], .null) := by decide +kernel
theorem w248_9 : Wp d 248 9 [l0, l1, l2, l3] st h Q = Wp d 248 15 [l0, l1, l2, l3] st h Q := W_go f248_9 rfl
theorem f248_12 : fetch 248 12 = some (.astore_n 3, 1, [], .null) := by decide +kernel
theorem w248_12 : Wp d 248 12 [l0, l1, l2, l3] (.ref a :: st) h Q = Wp d 248 13 [l0, l1, kl l2, some (.ref a)] st h Q := (W_st1 (pc' := 13) (k := 3) f248_12 rfl rfl (by simp only [List.length_cons, List.length_nil]; omega)).trans (by rw [pst1_succ]; rfl)
theorem f248_13 : fetch 248 13 = some (.iconst 1, 1, [], .null) := by decide +kernel
theorem w248_13 : Wp d 248 13 [l0, l1, l2, l3] st h Q = Wp d 248 14 [l0, l1, l2, l3] (.int (1 : Int32) :: st) h Q := W_go f248_13 rfl
theorem f248_14 : fetch 248 14 = some (.ireturn, 1, [], .null) := by decide +kernel
theorem w248_14 : Wp d 248 14 [l0, l1, l2, l3] [.int x] h Q = Q (.inl (some (.int x)), h) := W_iret f248_14 hr248
theorem f248_15 : fetch 248 15 = some (.iconst 0, 1, [], .null) := by decide +kernel
theorem w248_15 : Wp d 248 15 [l0, l1, l2, l3] st h Q = Wp d 248 16 [l0, l1, l2, l3] (.int (0 : Int32) :: st) h Q := W_go f248_15 rfl
theorem f248_16 : fetch 248 16 = some (.ireturn, 1, [], .null) := by decide +kernel
theorem w248_16 : Wp d 248 16 [l0, l1, l2, l3] [.int x] h Q = Q (.inl (some (.int x)), h) := W_iret f248_16 hr248
theorem hm249 : mhs 249 = [(0, 9, 12, 19, "java/lang/IllegalArgumentException")] := by decide +kernel
theorem hr249 : mret 249 = (some .int) := by decide +kernel
theorem f249_0 : fetch 249 0 = some (.aload_n 2, 1, [], .null) := by decide +kernel
theorem w249_0 : Wp d 249 0 [l0, l1, some (.ref a), l3] st h Q = Wp d 249 1 [l0, l1, some (.ref a), l3] (.ref a :: st) h Q := W_go f249_0 rfl
theorem f249_1 : fetch 249 1 = some (.iconst 0, 1, [], .null) := by decide +kernel
theorem w249_1 : Wp d 249 1 [l0, l1, l2, l3] st h Q = Wp d 249 2 [l0, l1, l2, l3] (.int (0 : Int32) :: st) h Q := W_go f249_1 rfl
theorem f249_2 : fetch 249 2 = some (.aload_n 0, 1, [], .null) := by decide +kernel
theorem w249_2 : Wp d 249 2 [some (.ref a), l1, l2, l3] st h Q = Wp d 249 3 [some (.ref a), l1, l2, l3] (.ref a :: st) h Q := W_go f249_2 rfl
theorem f249_3 : fetch 249 3 = some (.iload_n 1, 1, [], .null) := by decide +kernel
theorem w249_3 : Wp d 249 3 [l0, some (.int x), l2, l3] st h Q = Wp d 249 4 [l0, some (.int x), l2, l3] (.int x :: st) h Q := W_go f249_3 rfl
theorem f249_4 : fetch 249 4 = some (.invokevirtual 43, 3, [80, 2, 8, 0, 4177, 1001, 4180, 4178, 4179], .null) := by decide +kernel
theorem w249_4 (hp : psum st ≤ 8) : Wp d 249 4 [l0, l1, l2, l3] (v1 :: (.ref b) :: st) h Q = rP (h.2 b) 7 (Cp d 80 [(.ref b), v1] h (fun o => cK o (fun w h2 => Wp d 249 7 [l0, l1, l2, l3] (w.toList ++ st) h2 Q) (fun E h2 => oP (hfind [(0, 9, 12, 19, "java/lang/IllegalArgumentException")] 4 E) (fun hp => Wp d 249 hp [l0, l1, l2, l3] [.ref 299] h2 Q)))) := (W_invV (st := st) f249_4 rfl rfl (by simp only [List.length_cons]; omega) rfl rfl hp).trans (by simp only [hm249, reduceCtorEq, if_false])
theorem f249_7 : fetch 249 7 = some (.i2l, 1, [], .null) := by decide +kernel
theorem w249_7 : Wp d 249 7 [l0, l1, l2, l3] (.int x :: st) h Q = Wp d 249 8 [l0, l1, l2, l3] (.long x.toInt64 :: st) h Q := W_go f249_7 rfl
theorem f249_8 : fetch 249 8 = some (.lastore, 1, [], .null) := by decide +kernel
theorem w249_8 : Wp d 249 8 [l0, l1, l2, l3] (.long y8 :: .int x :: .ref a :: st) h Q = lsP (h.2 a) a x y8 (fun c => Wp d 249 9 [l0, l1, l2, l3] st (hset h a c) Q) := W_lst f249_8 rfl
theorem f249_9 : fetch 249 9 = some (.goto 6, 3, [], .null) := by decide +kernel
theorem w249_9 : Wp d 249 9 [l0, l1, l2, l3] st h Q = Wp d 249 15 [l0, l1, l2, l3] st h Q := W_go f249_9 rfl
theorem f249_12 : fetch 249 12 = some (.astore_n 3, 1, [], .null) := by decide +kernel
theorem w249_12 : Wp d 249 12 [l0, l1, l2, l3] (.ref a :: st) h Q = Wp d 249 13 [l0, l1, kl l2, some (.ref a)] st h Q := (W_st1 (pc' := 13) (k := 3) f249_12 rfl rfl (by simp only [List.length_cons, List.length_nil]; omega)).trans (by rw [pst1_succ]; rfl)
theorem f249_13 : fetch 249 13 = some (.iconst 1, 1, [], .null) := by decide +kernel
theorem w249_13 : Wp d 249 13 [l0, l1, l2, l3] st h Q = Wp d 249 14 [l0, l1, l2, l3] (.int (1 : Int32) :: st) h Q := W_go f249_13 rfl
theorem f249_14 : fetch 249 14 = some (.ireturn, 1, [], .null) := by decide +kernel
theorem w249_14 : Wp d 249 14 [l0, l1, l2, l3] [.int x] h Q = Q (.inl (some (.int x)), h) := W_iret f249_14 hr249
theorem f249_15 : fetch 249 15 = some (.iconst 0, 1, [], .null) := by decide +kernel
theorem w249_15 : Wp d 249 15 [l0, l1, l2, l3] st h Q = Wp d 249 16 [l0, l1, l2, l3] (.int (0 : Int32) :: st) h Q := W_go f249_15 rfl
theorem f249_16 : fetch 249 16 = some (.ireturn, 1, [], .null) := by decide +kernel
theorem w249_16 : Wp d 249 16 [l0, l1, l2, l3] [.int x] h Q = Q (.inl (some (.int x)), h) := W_iret f249_16 hr249
theorem hm250 : mhs 250 = [(0, 9, 12, 19, "java/lang/IllegalArgumentException")] := by decide +kernel
theorem hr250 : mret 250 = (some .int) := by decide +kernel
theorem f250_0 : fetch 250 0 = some (.aload_n 2, 1, [], .null) := by decide +kernel
theorem w250_0 : Wp d 250 0 [l0, l1, some (.ref a), l3] st h Q = Wp d 250 1 [l0, l1, some (.ref a), l3] (.ref a :: st) h Q := W_go f250_0 rfl
theorem f250_1 : fetch 250 1 = some (.iconst 0, 1, [], .null) := by decide +kernel
theorem w250_1 : Wp d 250 1 [l0, l1, l2, l3] st h Q = Wp d 250 2 [l0, l1, l2, l3] (.int (0 : Int32) :: st) h Q := W_go f250_1 rfl
theorem f250_2 : fetch 250 2 = some (.aload_n 0, 1, [], .null) := by decide +kernel
theorem w250_2 : Wp d 250 2 [some (.ref a), l1, l2, l3] st h Q = Wp d 250 3 [some (.ref a), l1, l2, l3] (.ref a :: st) h Q := W_go f250_2 rfl
theorem f250_3 : fetch 250 3 = some (.iload_n 1, 1, [], .null) := by decide +kernel
theorem w250_3 : Wp d 250 3 [l0, some (.int x), l2, l3] st h Q = Wp d 250 4 [l0, some (.int x), l2, l3] (.int x :: st) h Q := W_go f250_3 rfl
theorem f250_4 : fetch 250 4 = some (.invokevirtual 46, 3, [81, 2, 8, 0, 5019, 1001, 5022, 5020, 5021], .null) := by decide +kernel
theorem w250_4 (hp : psum st ≤ 8) : Wp d 250 4 [l0, l1, l2, l3] (v1 :: (.ref b) :: st) h Q = rP (h.2 b) 7 (Cp d 81 [(.ref b), v1] h (fun o => cK o (fun w h2 => Wp d 250 7 [l0, l1, l2, l3] (w.toList ++ st) h2 Q) (fun E h2 => oP (hfind [(0, 9, 12, 19, "java/lang/IllegalArgumentException")] 4 E) (fun hp => Wp d 250 hp [l0, l1, l2, l3] [.ref 299] h2 Q)))) := (W_invV (st := st) f250_4 rfl rfl (by simp only [List.length_cons]; omega) rfl rfl hp).trans (by simp only [hm250, reduceCtorEq, if_false])
theorem f250_7 : fetch 250 7 = some (.i2l, 1, [], .null) := by decide +kernel
theorem w250_7 : Wp d 250 7 [l0, l1, l2, l3] (.int x :: st) h Q = Wp d 250 8 [l0, l1, l2, l3] (.long x.toInt64 :: st) h Q := W_go f250_7 rfl
theorem f250_8 : fetch 250 8 = some (.lastore, 1, [], .null) := by decide +kernel
theorem w250_8 : Wp d 250 8 [l0, l1, l2, l3] (.long y8 :: .int x :: .ref a :: st) h Q = lsP (h.2 a) a x y8 (fun c => Wp d 250 9 [l0, l1, l2, l3] st (hset h a c) Q) := W_lst f250_8 rfl
theorem f250_9 : fetch 250 9 = some (.goto 6, 3, [], .null) := by decide +kernel
theorem w250_9 : Wp d 250 9 [l0, l1, l2, l3] st h Q = Wp d 250 15 [l0, l1, l2, l3] st h Q := W_go f250_9 rfl
theorem f250_12 : fetch 250 12 = some (.astore_n 3, 1, [], .null) := by decide +kernel
theorem w250_12 : Wp d 250 12 [l0, l1, l2, l3] (.ref a :: st) h Q = Wp d 250 13 [l0, l1, kl l2, some (.ref a)] st h Q := (W_st1 (pc' := 13) (k := 3) f250_12 rfl rfl (by simp only [List.length_cons, List.length_nil]; omega)).trans (by rw [pst1_succ]; rfl)
theorem f250_13 : fetch 250 13 = some (.iconst 1, 1, [], .null) := by decide +kernel
theorem w250_13 : Wp d 250 13 [l0, l1, l2, l3] st h Q = Wp d 250 14 [l0, l1, l2, l3] (.int (1 : Int32) :: st) h Q := W_go f250_13 rfl
theorem f250_14 : fetch 250 14 = some (.ireturn, 1, [], .null) := by decide +kernel
theorem w250_14 : Wp d 250 14 [l0, l1, l2, l3] [.int x] h Q = Q (.inl (some (.int x)), h) := W_iret f250_14 hr250
theorem f250_15 : fetch 250 15 = some (.iconst 0, 1, [], .null) := by decide +kernel
theorem w250_15 : Wp d 250 15 [l0, l1, l2, l3] st h Q = Wp d 250 16 [l0, l1, l2, l3] (.int (0 : Int32) :: st) h Q := W_go f250_15 rfl
theorem f250_16 : fetch 250 16 = some (.ireturn, 1, [], .null) := by decide +kernel
theorem w250_16 : Wp d 250 16 [l0, l1, l2, l3] [.int x] h Q = Q (.inl (some (.int x)), h) := W_iret f250_16 hr250
theorem hm251 : mhs 251 = [(0, 9, 12, 28, "java/lang/IndexOutOfBoundsException")] := by decide +kernel
theorem hr251 : mret 251 = (some .int) := by decide +kernel
theorem f251_0 : fetch 251 0 = some (.aload_n 2, 1, [], .null) := by decide +kernel
theorem w251_0 : Wp d 251 0 [l0, l1, some (.ref a), l3] st h Q = Wp d 251 1 [l0, l1, some (.ref a), l3] (.ref a :: st) h Q := W_go f251_0 rfl
theorem f251_1 : fetch 251 1 = some (.iconst 0, 1, [], .null) := by decide +kernel
theorem w251_1 : Wp d 251 1 [l0, l1, l2, l3] st h Q = Wp d 251 2 [l0, l1, l2, l3] (.int (0 : Int32) :: st) h Q := W_go f251_1 rfl
theorem f251_2 : fetch 251 2 = some (.aload_n 0, 1, [], .null) := by decide +kernel
theorem w251_2 : Wp d 251 2 [some (.ref a), l1, l2, l3] st h Q = Wp d 251 3 [some (.ref a), l1, l2, l3] (.ref a :: st) h Q := W_go f251_2 rfl
theorem f251_3 : fetch 251 3 = some (.iload_n 1, 1, [], .null) := by decide +kernel
theorem w251_3 : Wp d 251 3 [l0, some (.int x), l2, l3] st h Q = Wp d 251 4 [l0, some (.int x), l2, l3] (.int x :: st) h Q := W_go f251_3 rfl
theorem f251_4 : fetch 251 4 = some (.invokevirtual 49, 3, [85, 2, 8, 0, 5027, 1001, 5030, 5028, 5029], .null) := by decide +kernel
theorem w251_4 (hp : psum st ≤ 8) : Wp d 251 4 [l0, l1, l2, l3] (v1 :: (.ref b) :: st) h Q = rP (h.2 b) 7 (Cp d 85 [(.ref b), v1] h (fun o => cK o (fun w h2 => Wp d 251 7 [l0, l1, l2, l3] (w.toList ++ st) h2 Q) (fun E h2 => oP (hfind [(0, 9, 12, 28, "java/lang/IndexOutOfBoundsException")] 4 E) (fun hp => Wp d 251 hp [l0, l1, l2, l3] [.ref 299] h2 Q)))) := (W_invV (st := st) f251_4 rfl rfl (by simp only [List.length_cons]; omega) rfl rfl hp).trans (by simp only [hm251, reduceCtorEq, if_false])
theorem f251_7 : fetch 251 7 = some (.i2l, 1, [], .null) := by decide +kernel
theorem w251_7 : Wp d 251 7 [l0, l1, l2, l3] (.int x :: st) h Q = Wp d 251 8 [l0, l1, l2, l3] (.long x.toInt64 :: st) h Q := W_go f251_7 rfl
theorem f251_8 : fetch 251 8 = some (.lastore, 1, [], .null) := by decide +kernel
theorem w251_8 : Wp d 251 8 [l0, l1, l2, l3] (.long y8 :: .int x :: .ref a :: st) h Q = lsP (h.2 a) a x y8 (fun c => Wp d 251 9 [l0, l1, l2, l3] st (hset h a c) Q) := W_lst f251_8 rfl
theorem f251_9 : fetch 251 9 = some (.goto 6, 3, [], .null) := by decide +kernel
theorem w251_9 : Wp d 251 9 [l0, l1, l2, l3] st h Q = Wp d 251 15 [l0, l1, l2, l3] st h Q := W_go f251_9 rfl
theorem f251_12 : fetch 251 12 = some (.astore_n 3, 1, [], .null) := by decide +kernel
theorem w251_12 : Wp d 251 12 [l0, l1, l2, l3] (.ref a :: st) h Q = Wp d 251 13 [l0, l1, kl l2, some (.ref a)] st h Q := (W_st1 (pc' := 13) (k := 3) f251_12 rfl rfl (by simp only [List.length_cons, List.length_nil]; omega)).trans (by rw [pst1_succ]; rfl)
theorem f251_13 : fetch 251 13 = some (.iconst 1, 1, [], .null) := by decide +kernel
theorem w251_13 : Wp d 251 13 [l0, l1, l2, l3] st h Q = Wp d 251 14 [l0, l1, l2, l3] (.int (1 : Int32) :: st) h Q := W_go f251_13 rfl
theorem f251_14 : fetch 251 14 = some (.ireturn, 1, [], .null) := by decide +kernel
theorem w251_14 : Wp d 251 14 [l0, l1, l2, l3] [.int x] h Q = Q (.inl (some (.int x)), h) := W_iret f251_14 hr251
theorem f251_15 : fetch 251 15 = some (.iconst 0, 1, [], .null) := by decide +kernel
theorem w251_15 : Wp d 251 15 [l0, l1, l2, l3] st h Q = Wp d 251 16 [l0, l1, l2, l3] (.int (0 : Int32) :: st) h Q := W_go f251_15 rfl
theorem f251_16 : fetch 251 16 = some (.ireturn, 1, [], .null) := by decide +kernel
theorem w251_16 : Wp d 251 16 [l0, l1, l2, l3] [.int x] h Q = Q (.inl (some (.int x)), h) := W_iret f251_16 hr251
theorem hm252 : mhs 252 = [(0, 9, 12, 28, "java/lang/IndexOutOfBoundsException")] := by decide +kernel
theorem hr252 : mret 252 = (some .int) := by decide +kernel
theorem f252_0 : fetch 252 0 = some (.aload_n 2, 1, [], .null) := by decide +kernel
theorem w252_0 : Wp d 252 0 [l0, l1, some (.ref a), l3] st h Q = Wp d 252 1 [l0, l1, some (.ref a), l3] (.ref a :: st) h Q := W_go f252_0 rfl
theorem f252_1 : fetch 252 1 = some (.iconst 0, 1, [], .null) := by decide +kernel
theorem w252_1 : Wp d 252 1 [l0, l1, l2, l3] st h Q = Wp d 252 2 [l0, l1, l2, l3] (.int (0 : Int32) :: st) h Q := W_go f252_1 rfl
theorem f252_2 : fetch 252 2 = some (.aload_n 0, 1, [], .null) := by decide +kernel
theorem w252_2 : Wp d 252 2 [some (.ref a), l1, l2, l3] st h Q = Wp d 252 3 [some (.ref a), l1, l2, l3] (.ref a :: st) h Q := W_go f252_2 rfl
theorem f252_3 : fetch 252 3 = some (.iload_n 1, 1, [], .null) := by decide +kernel
theorem w252_3 : Wp d 252 3 [l0, some (.int x), l2, l3] st h Q = Wp d 252 4 [l0, some (.int x), l2, l3] (.int x :: st) h Q := W_go f252_3 rfl
theorem f252_4 : fetch 252 4 = some (.invokevirtual 52, 3, [86, 2, 8, 0, 5034, 1001, 5037, 5035, 5036], .null) := by decide +kernel
theorem w252_4 (hp : psum st ≤ 8) : Wp d 252 4 [l0, l1, l2, l3] (v1 :: (.ref b) :: st) h Q = rP (h.2 b) 7 (Cp d 86 [(.ref b), v1] h (fun o => cK o (fun w h2 => Wp d 252 7 [l0, l1, l2, l3] (w.toList ++ st) h2 Q) (fun E h2 => oP (hfind [(0, 9, 12, 28, "java/lang/IndexOutOfBoundsException")] 4 E) (fun hp => Wp d 252 hp [l0, l1, l2, l3] [.ref 299] h2 Q)))) := (W_invV (st := st) f252_4 rfl rfl (by simp only [List.length_cons]; omega) rfl rfl hp).trans (by simp only [hm252, reduceCtorEq, if_false])
theorem f252_7 : fetch 252 7 = some (.i2l, 1, [], .null) := by decide +kernel
theorem w252_7 : Wp d 252 7 [l0, l1, l2, l3] (.int x :: st) h Q = Wp d 252 8 [l0, l1, l2, l3] (.long x.toInt64 :: st) h Q := W_go f252_7 rfl
theorem f252_8 : fetch 252 8 = some (.lastore, 1, [], .null) := by decide +kernel
theorem w252_8 : Wp d 252 8 [l0, l1, l2, l3] (.long y8 :: .int x :: .ref a :: st) h Q = lsP (h.2 a) a x y8 (fun c => Wp d 252 9 [l0, l1, l2, l3] st (hset h a c) Q) := W_lst f252_8 rfl
theorem f252_9 : fetch 252 9 = some (.goto 6, 3, [], .null) := by decide +kernel
theorem w252_9 : Wp d 252 9 [l0, l1, l2, l3] st h Q = Wp d 252 15 [l0, l1, l2, l3] st h Q := W_go f252_9 rfl
theorem f252_12 : fetch 252 12 = some (.astore_n 3, 1, [], .null) := by decide +kernel
theorem w252_12 : Wp d 252 12 [l0, l1, l2, l3] (.ref a :: st) h Q = Wp d 252 13 [l0, l1, kl l2, some (.ref a)] st h Q := (W_st1 (pc' := 13) (k := 3) f252_12 rfl rfl (by simp only [List.length_cons, List.length_nil]; omega)).trans (by rw [pst1_succ]; rfl)
theorem f252_13 : fetch 252 13 = some (.iconst 1, 1, [], .null) := by decide +kernel
theorem w252_13 : Wp d 252 13 [l0, l1, l2, l3] st h Q = Wp d 252 14 [l0, l1, l2, l3] (.int (1 : Int32) :: st) h Q := W_go f252_13 rfl
theorem f252_14 : fetch 252 14 = some (.ireturn, 1, [], .null) := by decide +kernel
theorem w252_14 : Wp d 252 14 [l0, l1, l2, l3] [.int x] h Q = Q (.inl (some (.int x)), h) := W_iret f252_14 hr252
theorem f252_15 : fetch 252 15 = some (.iconst 0, 1, [], .null) := by decide +kernel
theorem w252_15 : Wp d 252 15 [l0, l1, l2, l3] st h Q = Wp d 252 16 [l0, l1, l2, l3] (.int (0 : Int32) :: st) h Q := W_go f252_15 rfl
theorem f252_16 : fetch 252 16 = some (.ireturn, 1, [], .null) := by decide +kernel
theorem w252_16 : Wp d 252 16 [l0, l1, l2, l3] [.int x] h Q = Q (.inl (some (.int x)), h) := W_iret f252_16 hr252
theorem hm253 : mhs 253 = [(0, 9, 12, 28, "java/lang/IndexOutOfBoundsException")] := by decide +kernel
theorem hr253 : mret 253 = (some .int) := by decide +kernel
theorem f253_0 : fetch 253 0 = some (.aload_n 2, 1, [], .null) := by decide +kernel
theorem w253_0 : Wp d 253 0 [l0, l1, some (.ref a), l3] st h Q = Wp d 253 1 [l0, l1, some (.ref a), l3] (.ref a :: st) h Q := W_go f253_0 rfl
theorem f253_1 : fetch 253 1 = some (.iconst 0, 1, [], .null) := by decide +kernel
theorem w253_1 : Wp d 253 1 [l0, l1, l2, l3] st h Q = Wp d 253 2 [l0, l1, l2, l3] (.int (0 : Int32) :: st) h Q := W_go f253_1 rfl
theorem f253_2 : fetch 253 2 = some (.aload_n 0, 1, [], .null) := by decide +kernel
theorem w253_2 : Wp d 253 2 [some (.ref a), l1, l2, l3] st h Q = Wp d 253 3 [some (.ref a), l1, l2, l3] (.ref a :: st) h Q := W_go f253_2 rfl
theorem f253_3 : fetch 253 3 = some (.iload_n 1, 1, [], .null) := by decide +kernel
theorem w253_3 : Wp d 253 3 [l0, some (.int x), l2, l3] st h Q = Wp d 253 4 [l0, some (.int x), l2, l3] (.int x :: st) h Q := W_go f253_3 rfl
theorem f253_4 : fetch 253 4 = some (.invokevirtual 55, 3, [87, 2, 8, 0, 5041, 1001, 5044, 5042, 5043], .null) := by decide +kernel
theorem w253_4 (hp : psum st ≤ 8) : Wp d 253 4 [l0, l1, l2, l3] (v1 :: (.ref b) :: st) h Q = rP (h.2 b) 7 (Cp d 87 [(.ref b), v1] h (fun o => cK o (fun w h2 => Wp d 253 7 [l0, l1, l2, l3] (w.toList ++ st) h2 Q) (fun E h2 => oP (hfind [(0, 9, 12, 28, "java/lang/IndexOutOfBoundsException")] 4 E) (fun hp => Wp d 253 hp [l0, l1, l2, l3] [.ref 299] h2 Q)))) := (W_invV (st := st) f253_4 rfl rfl (by simp only [List.length_cons]; omega) rfl rfl hp).trans (by simp only [hm253, reduceCtorEq, if_false])
theorem f253_7 : fetch 253 7 = some (.i2l, 1, [], .null) := by decide +kernel
theorem w253_7 : Wp d 253 7 [l0, l1, l2, l3] (.int x :: st) h Q = Wp d 253 8 [l0, l1, l2, l3] (.long x.toInt64 :: st) h Q := W_go f253_7 rfl
theorem f253_8 : fetch 253 8 = some (.lastore, 1, [], .null) := by decide +kernel
theorem w253_8 : Wp d 253 8 [l0, l1, l2, l3] (.long y8 :: .int x :: .ref a :: st) h Q = lsP (h.2 a) a x y8 (fun c => Wp d 253 9 [l0, l1, l2, l3] st (hset h a c) Q) := W_lst f253_8 rfl
theorem f253_9 : fetch 253 9 = some (.goto 6, 3, [], .null) := by decide +kernel
theorem w253_9 : Wp d 253 9 [l0, l1, l2, l3] st h Q = Wp d 253 15 [l0, l1, l2, l3] st h Q := W_go f253_9 rfl
theorem f253_12 : fetch 253 12 = some (.astore_n 3, 1, [], .null) := by decide +kernel
theorem w253_12 : Wp d 253 12 [l0, l1, l2, l3] (.ref a :: st) h Q = Wp d 253 13 [l0, l1, kl l2, some (.ref a)] st h Q := (W_st1 (pc' := 13) (k := 3) f253_12 rfl rfl (by simp only [List.length_cons, List.length_nil]; omega)).trans (by rw [pst1_succ]; rfl)
theorem f253_13 : fetch 253 13 = some (.iconst 1, 1, [], .null) := by decide +kernel
theorem w253_13 : Wp d 253 13 [l0, l1, l2, l3] st h Q = Wp d 253 14 [l0, l1, l2, l3] (.int (1 : Int32) :: st) h Q := W_go f253_13 rfl
theorem f253_14 : fetch 253 14 = some (.ireturn, 1, [], .null) := by decide +kernel
theorem w253_14 : Wp d 253 14 [l0, l1, l2, l3] [.int x] h Q = Q (.inl (some (.int x)), h) := W_iret f253_14 hr253
theorem f253_15 : fetch 253 15 = some (.iconst 0, 1, [], .null) := by decide +kernel
theorem w253_15 : Wp d 253 15 [l0, l1, l2, l3] st h Q = Wp d 253 16 [l0, l1, l2, l3] (.int (0 : Int32) :: st) h Q := W_go f253_15 rfl
theorem f253_16 : fetch 253 16 = some (.ireturn, 1, [], .null) := by decide +kernel
theorem w253_16 : Wp d 253 16 [l0, l1, l2, l3] [.int x] h Q = Q (.inl (some (.int x)), h) := W_iret f253_16 hr253
theorem hm254 : mhs 254 = [(0, 9, 12, 28, "java/lang/IndexOutOfBoundsException")] := by decide +kernel
theorem hr254 : mret 254 = (some .int) := by decide +kernel
theorem f254_0 : fetch 254 0 = some (.aload_n 2, 1, [], .null) := by decide +kernel
theorem w254_0 : Wp d 254 0 [l0, l1, some (.ref a), l3] st h Q = Wp d 254 1 [l0, l1, some (.ref a), l3] (.ref a :: st) h Q := W_go f254_0 rfl
theorem f254_1 : fetch 254 1 = some (.iconst 0, 1, [], .null) := by decide +kernel
theorem w254_1 : Wp d 254 1 [l0, l1, l2, l3] st h Q = Wp d 254 2 [l0, l1, l2, l3] (.int (0 : Int32) :: st) h Q := W_go f254_1 rfl
theorem f254_2 : fetch 254 2 = some (.aload_n 0, 1, [], .null) := by decide +kernel
theorem w254_2 : Wp d 254 2 [some (.ref a), l1, l2, l3] st h Q = Wp d 254 3 [some (.ref a), l1, l2, l3] (.ref a :: st) h Q := W_go f254_2 rfl
theorem f254_3 : fetch 254 3 = some (.iload_n 1, 1, [], .null) := by decide +kernel
theorem w254_3 : Wp d 254 3 [l0, some (.int x), l2, l3] st h Q = Wp d 254 4 [l0, some (.int x), l2, l3] (.int x :: st) h Q := W_go f254_3 rfl
theorem f254_4 : fetch 254 4 = some (.invokevirtual 58, 3, [88, 2, 8, 0, 5048, 1001, 5051, 5049, 5050], .null) := by decide +kernel
theorem w254_4 (hp : psum st ≤ 8) : Wp d 254 4 [l0, l1, l2, l3] (v1 :: (.ref b) :: st) h Q = rP (h.2 b) 7 (Cp d 88 [(.ref b), v1] h (fun o => cK o (fun w h2 => Wp d 254 7 [l0, l1, l2, l3] (w.toList ++ st) h2 Q) (fun E h2 => oP (hfind [(0, 9, 12, 28, "java/lang/IndexOutOfBoundsException")] 4 E) (fun hp => Wp d 254 hp [l0, l1, l2, l3] [.ref 299] h2 Q)))) := (W_invV (st := st) f254_4 rfl rfl (by simp only [List.length_cons]; omega) rfl rfl hp).trans (by simp only [hm254, reduceCtorEq, if_false])
theorem f254_7 : fetch 254 7 = some (.i2l, 1, [], .null) := by decide +kernel
theorem w254_7 : Wp d 254 7 [l0, l1, l2, l3] (.int x :: st) h Q = Wp d 254 8 [l0, l1, l2, l3] (.long x.toInt64 :: st) h Q := W_go f254_7 rfl
theorem f254_8 : fetch 254 8 = some (.lastore, 1, [], .null) := by decide +kernel
theorem w254_8 : Wp d 254 8 [l0, l1, l2, l3] (.long y8 :: .int x :: .ref a :: st) h Q = lsP (h.2 a) a x y8 (fun c => Wp d 254 9 [l0, l1, l2, l3] st (hset h a c) Q) := W_lst f254_8 rfl
theorem f254_9 : fetch 254 9 = some (.goto 6, 3, [], .null) := by decide +kernel
theorem w254_9 : Wp d 254 9 [l0, l1, l2, l3] st h Q = Wp d 254 15 [l0, l1, l2, l3] st h Q := W_go f254_9 rfl
theorem f254_12 : fetch 254 12 = some (.astore_n 3, 1, [], .null) := by decide +kernel
theorem w254_12 : Wp d 254 12 [l0, l1, l2, l3] (.ref a :: st) h Q = Wp d 254 13 [l0, l1, kl l2, some (.ref a)] st h Q := (W_st1 (pc' := 13) (k := 3) f254_12 rfl rfl (by simp only [List.length_cons, List.length_nil]; omega)).trans (by rw [pst1_succ]; rfl)
theorem f254_13 : fetch 254 13 = some (.iconst 1, 1, [], .null) := by decide +kernel
theorem w254_13 : Wp d 254 13 [l0, l1, l2, l3] st h Q = Wp d 254 14 [l0, l1, l2, l3] (.int (1 : Int32) :: st) h Q := W_go f254_13 rfl
theorem f254_14 : fetch 254 14 = some (.ireturn, 1, [], .null) := by decide +kernel
theorem w254_14 : Wp d 254 14 [l0, l1, l2, l3] [.int x] h Q = Q (.inl (some (.int x)), h) := W_iret f254_14 hr254
theorem f254_15 : fetch 254 15 = some (.iconst 0, 1, [], .null) := by decide +kernel
theorem w254_15 : Wp d 254 15 [l0, l1, l2, l3] st h Q = Wp d 254 16 [l0, l1, l2, l3] (.int (0 : Int32) :: st) h Q := W_go f254_15 rfl
theorem f254_16 : fetch 254 16 = some (.ireturn, 1, [], .null) := by decide +kernel
theorem w254_16 : Wp d 254 16 [l0, l1, l2, l3] [.int x] h Q = Q (.inl (some (.int x)), h) := W_iret f254_16 hr254
theorem hm255 : mhs 255 = [(0, 16, 19, 28, "java/lang/IndexOutOfBoundsException")] := by decide +kernel
theorem hr255 : mret 255 = (some .int) := by decide +kernel
theorem f255_0 : fetch 255 0 = some (.aload_n 2, 1, [], .null) := by decide +kernel
theorem w255_0 : Wp d 255 0 [l0, l1, some (.ref a), l3] st h Q = Wp d 255 1 [l0, l1, some (.ref a), l3] (.ref a :: st) h Q := W_go f255_0 rfl
theorem f255_1 : fetch 255 1 = some (.iconst 0, 1, [], .null) := by decide +kernel
theorem w255_1 : Wp d 255 1 [l0, l1, l2, l3] st h Q = Wp d 255 2 [l0, l1, l2, l3] (.int (0 : Int32) :: st) h Q := W_go f255_1 rfl
theorem f255_2 : fetch 255 2 = some (.aload_n 0, 1, [], .null) := by decide +kernel
theorem w255_2 : Wp d 255 2 [some (.ref a), l1, l2, l3] st h Q = Wp d 255 3 [some (.ref a), l1, l2, l3] (.ref a :: st) h Q := W_go f255_2 rfl
theorem f255_3 : fetch 255 3 = some (.iload_n 1, 1, [], .null) := by decide +kernel
theorem w255_3 : Wp d 255 3 [l0, some (.int x), l2, l3] st h Q = Wp d 255 4 [l0, some (.int x), l2, l3] (.int x :: st) h Q := W_go f255_3 rfl
theorem f255_4 : fetch 255 4 = some (.invokevirtual 61, 3, [89, 2, 8, 0, 5055, 1001, 5058, 5056, 5057], .null) := by decide +kernel
theorem w255_4 (hp : psum st ≤ 8) : Wp d 255 4 [l0, l1, l2, l3] (v1 :: (.ref b) :: st) h Q = rP (h.2 b) 7 (Cp d 89 [(.ref b), v1] h (fun o => cK o (fun w h2 => Wp d 255 7 [l0, l1, l2, l3] (w.toList ++ st) h2 Q) (fun E h2 => oP (hfind [(0, 16, 19, 28, "java/lang/IndexOutOfBoundsException")] 4 E) (fun hp => Wp d 255 hp [l0, l1, l2, l3] [.ref 299] h2 Q)))) := (W_invV (st := st) f255_4 rfl rfl (by simp only [List.length_cons]; omega) rfl rfl hp).trans (by simp only [hm255, reduceCtorEq, if_false])
theorem f255_7 : fetch 255 7 = some (.ifCond .eq 7, 3, [], .null) := by decide +kernel
theorem w255_7 : Wp d 255 7 [l0, l1, l2, l3] (.int x :: st) h Q = if icond .eq x 0 = true then Wp d 255 14 [l0, l1, l2, l3] st h Q else Wp d 255 10 [l0, l1, l2, l3] st h Q := W_if f255_7 rfl
theorem f255_10 : fetch 255 10 = some (.lconst 1, 1, [], .null) := by decide +kernel
theorem w255_10 : Wp d 255 10 [l0, l1, l2, l3] st h Q = Wp d 255 11 [l0, l1, l2, l3] (.long (1 : Int64) :: st) h Q := W_go f255_10 rfl
theorem f255_11 : fetch 255 11 = some (.goto 4, 3, [], .null) := by decide +kernel
theorem w255_11 : Wp d 255 11 [l0, l1, l2, l3] st h Q = Wp d 255 15 [l0, l1, l2, l3] st h Q := W_go f255_11 rfl
theorem f255_14 : fetch 255 14 = some (.lconst 0, 1, [], .null) := by decide +kernel
theorem w255_14 : Wp d 255 14 [l0, l1, l2, l3] st h Q = Wp d 255 15 [l0, l1, l2, l3] (.long (0 : Int64) :: st) h Q := W_go f255_14 rfl
theorem f255_15 : fetch 255 15 = some (.lastore, 1, [], .null) := by decide +kernel
theorem w255_15 : Wp d 255 15 [l0, l1, l2, l3] (.long y8 :: .int x :: .ref a :: st) h Q = lsP (h.2 a) a x y8 (fun c => Wp d 255 16 [l0, l1, l2, l3] st (hset h a c) Q) := W_lst f255_15 rfl
theorem f255_16 : fetch 255 16 = some (.goto 6, 3, [], .null) := by decide +kernel
theorem w255_16 : Wp d 255 16 [l0, l1, l2, l3] st h Q = Wp d 255 22 [l0, l1, l2, l3] st h Q := W_go f255_16 rfl
theorem f255_19 : fetch 255 19 = some (.astore_n 3, 1, [], .null) := by decide +kernel
theorem w255_19 : Wp d 255 19 [l0, l1, l2, l3] (.ref a :: st) h Q = Wp d 255 20 [l0, l1, kl l2, some (.ref a)] st h Q := (W_st1 (pc' := 20) (k := 3) f255_19 rfl rfl (by simp only [List.length_cons, List.length_nil]; omega)).trans (by rw [pst1_succ]; rfl)
theorem f255_20 : fetch 255 20 = some (.iconst 1, 1, [], .null) := by decide +kernel
theorem w255_20 : Wp d 255 20 [l0, l1, l2, l3] st h Q = Wp d 255 21 [l0, l1, l2, l3] (.int (1 : Int32) :: st) h Q := W_go f255_20 rfl
theorem f255_21 : fetch 255 21 = some (.ireturn, 1, [], .null) := by decide +kernel
theorem w255_21 : Wp d 255 21 [l0, l1, l2, l3] [.int x] h Q = Q (.inl (some (.int x)), h) := W_iret f255_21 hr255
theorem f255_22 : fetch 255 22 = some (.iconst 0, 1, [], .null) := by decide +kernel
theorem w255_22 : Wp d 255 22 [l0, l1, l2, l3] st h Q = Wp d 255 23 [l0, l1, l2, l3] (.int (0 : Int32) :: st) h Q := W_go f255_22 rfl
theorem f255_23 : fetch 255 23 = some (.ireturn, 1, [], .null) := by decide +kernel
theorem w255_23 : Wp d 255 23 [l0, l1, l2, l3] [.int x] h Q = Q (.inl (some (.int x)), h) := W_iret f255_23 hr255
theorem hm256 : mhs 256 = [(0, 9, 12, 28, "java/lang/IndexOutOfBoundsException")] := by decide +kernel
theorem hr256 : mret 256 = (some .int) := by decide +kernel
theorem f256_0 : fetch 256 0 = some (.aload_n 2, 1, [], .null) := by decide +kernel
theorem w256_0 : Wp d 256 0 [l0, l1, some (.ref a), l3] st h Q = Wp d 256 1 [l0, l1, some (.ref a), l3] (.ref a :: st) h Q := W_go f256_0 rfl
theorem f256_1 : fetch 256 1 = some (.iconst 0, 1, [], .null) := by decide +kernel
theorem w256_1 : Wp d 256 1 [l0, l1, l2, l3] st h Q = Wp d 256 2 [l0, l1, l2, l3] (.int (0 : Int32) :: st) h Q := W_go f256_1 rfl
theorem f256_2 : fetch 256 2 = some (.aload_n 0, 1, [], .null) := by decide +kernel
theorem w256_2 : Wp d 256 2 [some (.ref a), l1, l2, l3] st h Q = Wp d 256 3 [some (.ref a), l1, l2, l3] (.ref a :: st) h Q := W_go f256_2 rfl
theorem f256_3 : fetch 256 3 = some (.iload_n 1, 1, [], .null) := by decide +kernel
theorem w256_3 : Wp d 256 3 [l0, some (.int x), l2, l3] st h Q = Wp d 256 4 [l0, some (.int x), l2, l3] (.int x :: st) h Q := W_go f256_3 rfl
theorem f256_4 : fetch 256 4 = some (.invokevirtual 64, 3, [90, 2, 8, 0, 5062, 1001, 5065, 5063, 5064], .null) := by decide +kernel
theorem w256_4 (hp : psum st ≤ 8) : Wp d 256 4 [l0, l1, l2, l3] (v1 :: (.ref b) :: st) h Q = rP (h.2 b) 7 (Cp d 90 [(.ref b), v1] h (fun o => cK o (fun w h2 => Wp d 256 7 [l0, l1, l2, l3] (w.toList ++ st) h2 Q) (fun E h2 => oP (hfind [(0, 9, 12, 28, "java/lang/IndexOutOfBoundsException")] 4 E) (fun hp => Wp d 256 hp [l0, l1, l2, l3] [.ref 299] h2 Q)))) := (W_invV (st := st) f256_4 rfl rfl (by simp only [List.length_cons]; omega) rfl rfl hp).trans (by simp only [hm256, reduceCtorEq, if_false])
theorem f256_7 : fetch 256 7 = some (.i2l, 1, [], .null) := by decide +kernel
theorem w256_7 : Wp d 256 7 [l0, l1, l2, l3] (.int x :: st) h Q = Wp d 256 8 [l0, l1, l2, l3] (.long x.toInt64 :: st) h Q := W_go f256_7 rfl
theorem f256_8 : fetch 256 8 = some (.lastore, 1, [], .null) := by decide +kernel
theorem w256_8 : Wp d 256 8 [l0, l1, l2, l3] (.long y8 :: .int x :: .ref a :: st) h Q = lsP (h.2 a) a x y8 (fun c => Wp d 256 9 [l0, l1, l2, l3] st (hset h a c) Q) := W_lst f256_8 rfl
theorem f256_9 : fetch 256 9 = some (.goto 6, 3, [], .null) := by decide +kernel
theorem w256_9 : Wp d 256 9 [l0, l1, l2, l3] st h Q = Wp d 256 15 [l0, l1, l2, l3] st h Q := W_go f256_9 rfl
theorem f256_12 : fetch 256 12 = some (.astore_n 3, 1, [], .null) := by decide +kernel
theorem w256_12 : Wp d 256 12 [l0, l1, l2, l3] (.ref a :: st) h Q = Wp d 256 13 [l0, l1, kl l2, some (.ref a)] st h Q := (W_st1 (pc' := 13) (k := 3) f256_12 rfl rfl (by simp only [List.length_cons, List.length_nil]; omega)).trans (by rw [pst1_succ]; rfl)
theorem f256_13 : fetch 256 13 = some (.iconst 1, 1, [], .null) := by decide +kernel
theorem w256_13 : Wp d 256 13 [l0, l1, l2, l3] st h Q = Wp d 256 14 [l0, l1, l2, l3] (.int (1 : Int32) :: st) h Q := W_go f256_13 rfl
theorem f256_14 : fetch 256 14 = some (.ireturn, 1, [], .null) := by decide +kernel
theorem w256_14 : Wp d 256 14 [l0, l1, l2, l3] [.int x] h Q = Q (.inl (some (.int x)), h) := W_iret f256_14 hr256
theorem f256_15 : fetch 256 15 = some (.iconst 0, 1, [], .null) := by decide +kernel
theorem w256_15 : Wp d 256 15 [l0, l1, l2, l3] st h Q = Wp d 256 16 [l0, l1, l2, l3] (.int (0 : Int32) :: st) h Q := W_go f256_15 rfl
theorem f256_16 : fetch 256 16 = some (.ireturn, 1, [], .null) := by decide +kernel
theorem w256_16 : Wp d 256 16 [l0, l1, l2, l3] [.int x] h Q = Q (.inl (some (.int x)), h) := W_iret f256_16 hr256
theorem hm257 : mhs 257 = [(0, 9, 12, 28, "java/lang/IndexOutOfBoundsException")] := by decide +kernel
theorem hr257 : mret 257 = (some .int) := by decide +kernel
theorem f257_0 : fetch 257 0 = some (.aload_n 2, 1, [], .null) := by decide +kernel
theorem w257_0 : Wp d 257 0 [l0, l1, some (.ref a), l3] st h Q = Wp d 257 1 [l0, l1, some (.ref a), l3] (.ref a :: st) h Q := W_go f257_0 rfl
theorem f257_1 : fetch 257 1 = some (.iconst 0, 1, [], .null) := by decide +kernel
theorem w257_1 : Wp d 257 1 [l0, l1, l2, l3] st h Q = Wp d 257 2 [l0, l1, l2, l3] (.int (0 : Int32) :: st) h Q := W_go f257_1 rfl
theorem f257_2 : fetch 257 2 = some (.aload_n 0, 1, [], .null) := by decide +kernel
theorem w257_2 : Wp d 257 2 [some (.ref a), l1, l2, l3] st h Q = Wp d 257 3 [some (.ref a), l1, l2, l3] (.ref a :: st) h Q := W_go f257_2 rfl
theorem f257_3 : fetch 257 3 = some (.iload_n 1, 1, [], .null) := by decide +kernel
theorem w257_3 : Wp d 257 3 [l0, some (.int x), l2, l3] st h Q = Wp d 257 4 [l0, some (.int x), l2, l3] (.int x :: st) h Q := W_go f257_3 rfl
theorem f257_4 : fetch 257 4 = some (.invokevirtual 67, 3, [98, 2, 8, 0, 5069, 1001, 5072, 5070, 5071], .null) := by decide +kernel
theorem w257_4 (hp : psum st ≤ 8) : Wp d 257 4 [l0, l1, l2, l3] (v1 :: (.ref b) :: st) h Q = rP (h.2 b) 7 (Cp d 98 [(.ref b), v1] h (fun o => cK o (fun w h2 => Wp d 257 7 [l0, l1, l2, l3] (w.toList ++ st) h2 Q) (fun E h2 => oP (hfind [(0, 9, 12, 28, "java/lang/IndexOutOfBoundsException")] 4 E) (fun hp => Wp d 257 hp [l0, l1, l2, l3] [.ref 299] h2 Q)))) := (W_invV (st := st) f257_4 rfl rfl (by simp only [List.length_cons]; omega) rfl rfl hp).trans (by simp only [hm257, reduceCtorEq, if_false])
theorem f257_7 : fetch 257 7 = some (.i2l, 1, [], .null) := by decide +kernel
theorem w257_7 : Wp d 257 7 [l0, l1, l2, l3] (.int x :: st) h Q = Wp d 257 8 [l0, l1, l2, l3] (.long x.toInt64 :: st) h Q := W_go f257_7 rfl
theorem f257_8 : fetch 257 8 = some (.lastore, 1, [], .null) := by decide +kernel
theorem w257_8 : Wp d 257 8 [l0, l1, l2, l3] (.long y8 :: .int x :: .ref a :: st) h Q = lsP (h.2 a) a x y8 (fun c => Wp d 257 9 [l0, l1, l2, l3] st (hset h a c) Q) := W_lst f257_8 rfl
theorem f257_9 : fetch 257 9 = some (.goto 6, 3, [], .null) := by decide +kernel
theorem w257_9 : Wp d 257 9 [l0, l1, l2, l3] st h Q = Wp d 257 15 [l0, l1, l2, l3] st h Q := W_go f257_9 rfl
theorem f257_12 : fetch 257 12 = some (.astore_n 3, 1, [], .null) := by decide +kernel
theorem w257_12 : Wp d 257 12 [l0, l1, l2, l3] (.ref a :: st) h Q = Wp d 257 13 [l0, l1, kl l2, some (.ref a)] st h Q := (W_st1 (pc' := 13) (k := 3) f257_12 rfl rfl (by simp only [List.length_cons, List.length_nil]; omega)).trans (by rw [pst1_succ]; rfl)
theorem f257_13 : fetch 257 13 = some (.iconst 1, 1, [], .null) := by decide +kernel
theorem w257_13 : Wp d 257 13 [l0, l1, l2, l3] st h Q = Wp d 257 14 [l0, l1, l2, l3] (.int (1 : Int32) :: st) h Q := W_go f257_13 rfl
theorem f257_14 : fetch 257 14 = some (.ireturn, 1, [], .null) := by decide +kernel
theorem w257_14 : Wp d 257 14 [l0, l1, l2, l3] [.int x] h Q = Q (.inl (some (.int x)), h) := W_iret f257_14 hr257
theorem f257_15 : fetch 257 15 = some (.iconst 0, 1, [], .null) := by decide +kernel
theorem w257_15 : Wp d 257 15 [l0, l1, l2, l3] st h Q = Wp d 257 16 [l0, l1, l2, l3] (.int (0 : Int32) :: st) h Q := W_go f257_15 rfl
theorem f257_16 : fetch 257 16 = some (.ireturn, 1, [], .null) := by decide +kernel
theorem w257_16 : Wp d 257 16 [l0, l1, l2, l3] [.int x] h Q = Q (.inl (some (.int x)), h) := W_iret f257_16 hr257
theorem hm258 : mhs 258 = [(0, 9, 12, 28, "java/lang/IndexOutOfBoundsException")] := by decide +kernel
theorem hr258 : mret 258 = (some .int) := by decide +kernel
theorem f258_0 : fetch 258 0 = some (.aload_n 2, 1, [], .null) := by decide +kernel
theorem w258_0 : Wp d 258 0 [l0, l1, some (.ref a), l3] st h Q = Wp d 258 1 [l0, l1, some (.ref a), l3] (.ref a :: st) h Q := W_go f258_0 rfl
theorem f258_1 : fetch 258 1 = some (.iconst 0, 1, [], .null) := by decide +kernel
theorem w258_1 : Wp d 258 1 [l0, l1, l2, l3] st h Q = Wp d 258 2 [l0, l1, l2, l3] (.int (0 : Int32) :: st) h Q := W_go f258_1 rfl
theorem f258_2 : fetch 258 2 = some (.aload_n 0, 1, [], .null) := by decide +kernel
theorem w258_2 : Wp d 258 2 [some (.ref a), l1, l2, l3] st h Q = Wp d 258 3 [some (.ref a), l1, l2, l3] (.ref a :: st) h Q := W_go f258_2 rfl
theorem f258_3 : fetch 258 3 = some (.iload_n 1, 1, [], .null) := by decide +kernel
theorem w258_3 : Wp d 258 3 [l0, some (.int x), l2, l3] st h Q = Wp d 258 4 [l0, some (.int x), l2, l3] (.int x :: st) h Q := W_go f258_3 rfl
theorem f258_4 : fetch 258 4 = some (.invokevirtual 70, 3, [99, 2, 8, 0, 5076, 1001, 5079, 5077, 5078], .null) := by decide +kernel
theorem w258_4 (hp : psum st ≤ 8) : Wp d 258 4 [l0, l1, l2, l3] (v1 :: (.ref b) :: st) h Q = rP (h.2 b) 7 (Cp d 99 [(.ref b), v1] h (fun o => cK o (fun w h2 => Wp d 258 7 [l0, l1, l2, l3] (w.toList ++ st) h2 Q) (fun E h2 => oP (hfind [(0, 9, 12, 28, "java/lang/IndexOutOfBoundsException")] 4 E) (fun hp => Wp d 258 hp [l0, l1, l2, l3] [.ref 299] h2 Q)))) := (W_invV (st := st) f258_4 rfl rfl (by simp only [List.length_cons]; omega) rfl rfl hp).trans (by simp only [hm258, reduceCtorEq, if_false])
theorem f258_7 : fetch 258 7 = some (.i2l, 1, [], .null) := by decide +kernel
theorem w258_7 : Wp d 258 7 [l0, l1, l2, l3] (.int x :: st) h Q = Wp d 258 8 [l0, l1, l2, l3] (.long x.toInt64 :: st) h Q := W_go f258_7 rfl
theorem f258_8 : fetch 258 8 = some (.lastore, 1, [], .null) := by decide +kernel
theorem w258_8 : Wp d 258 8 [l0, l1, l2, l3] (.long y8 :: .int x :: .ref a :: st) h Q = lsP (h.2 a) a x y8 (fun c => Wp d 258 9 [l0, l1, l2, l3] st (hset h a c) Q) := W_lst f258_8 rfl
theorem f258_9 : fetch 258 9 = some (.goto 6, 3, [], .null) := by decide +kernel
theorem w258_9 : Wp d 258 9 [l0, l1, l2, l3] st h Q = Wp d 258 15 [l0, l1, l2, l3] st h Q := W_go f258_9 rfl
theorem f258_12 : fetch 258 12 = some (.astore_n 3, 1, [], .null) := by decide +kernel
theorem w258_12 : Wp d 258 12 [l0, l1, l2, l3] (.ref a :: st) h Q = Wp d 258 13 [l0, l1, kl l2, some (.ref a)] st h Q := (W_st1 (pc' := 13) (k := 3) f258_12 rfl rfl (by simp only [List.length_cons, List.length_nil]; omega)).trans (by rw [pst1_succ]; rfl)
theorem f258_13 : fetch 258 13 = some (.iconst 1, 1, [], .null) := by decide +kernel
theorem w258_13 : Wp d 258 13 [l0, l1, l2, l3] st h Q = Wp d 258 14 [l0, l1, l2, l3] (.int (1 : Int32) :: st) h Q := W_go f258_13 rfl
theorem f258_14 : fetch 258 14 = some (.ireturn, 1, [], .null) := by decide +kernel
theorem w258_14 : Wp d 258 14 [l0, l1, l2, l3] [.int x] h Q = Q (.inl (some (.int x)), h) := W_iret f258_14 hr258
theorem f258_15 : fetch 258 15 = some (.iconst 0, 1, [], .null) := by decide +kernel
theorem w258_15 : Wp d 258 15 [l0, l1, l2, l3] st h Q = Wp d 258 16 [l0, l1, l2, l3] (.int (0 : Int32) :: st) h Q := W_go f258_15 rfl
theorem f258_16 : fetch 258 16 = some (.ireturn, 1, [], .null) := by decide +kernel
theorem w258_16 : Wp d 258 16 [l0, l1, l2, l3] [.int x] h Q = Q (.inl (some (.int x)), h) := W_iret f258_16 hr258
theorem hm259 : mhs 259 = [(0, 16, 19, 28, "java/lang/IndexOutOfBoundsException")] := by decide +kernel
theorem hr259 : mret 259 = (some .int) := by decide +kernel
theorem f259_0 : fetch 259 0 = some (.aload_n 2, 1, [], .null) := by decide +kernel
theorem w259_0 : Wp d 259 0 [l0, l1, some (.ref a), l3] st h Q = Wp d 259 1 [l0, l1, some (.ref a), l3] (.ref a :: st) h Q := W_go f259_0 rfl
theorem f259_1 : fetch 259 1 = some (.iconst 0, 1, [], .null) := by decide +kernel
theorem w259_1 : Wp d 259 1 [l0, l1, l2, l3] st h Q = Wp d 259 2 [l0, l1, l2, l3] (.int (0 : Int32) :: st) h Q := W_go f259_1 rfl
theorem f259_2 : fetch 259 2 = some (.aload_n 0, 1, [], .null) := by decide +kernel
theorem w259_2 : Wp d 259 2 [some (.ref a), l1, l2, l3] st h Q = Wp d 259 3 [some (.ref a), l1, l2, l3] (.ref a :: st) h Q := W_go f259_2 rfl
theorem f259_3 : fetch 259 3 = some (.iload_n 1, 1, [], .null) := by decide +kernel
theorem w259_3 : Wp d 259 3 [l0, some (.int x), l2, l3] st h Q = Wp d 259 4 [l0, some (.int x), l2, l3] (.int x :: st) h Q := W_go f259_3 rfl
theorem f259_4 : fetch 259 4 = some (.invokevirtual 73, 3, [100, 2, 8, 0, 5083, 1001, 5086, 5084, 5085], .null) := by decide +kernel
theorem w259_4 (hp : psum st ≤ 8) : Wp d 259 4 [l0, l1, l2, l3] (v1 :: (.ref b) :: st) h Q = rP (h.2 b) 7 (Cp d 100 [(.ref b), v1] h (fun o => cK o (fun w h2 => Wp d 259 7 [l0, l1, l2, l3] (w.toList ++ st) h2 Q) (fun E h2 => oP (hfind [(0, 16, 19, 28, "java/lang/IndexOutOfBoundsException")] 4 E) (fun hp => Wp d 259 hp [l0, l1, l2, l3] [.ref 299] h2 Q)))) := (W_invV (st := st) f259_4 rfl rfl (by simp only [List.length_cons]; omega) rfl rfl hp).trans (by simp only [hm259, reduceCtorEq, if_false])
theorem f259_7 : fetch 259 7 = some (.ifCond .eq 7, 3, [], .null) := by decide +kernel
theorem w259_7 : Wp d 259 7 [l0, l1, l2, l3] (.int x :: st) h Q = if icond .eq x 0 = true then Wp d 259 14 [l0, l1, l2, l3] st h Q else Wp d 259 10 [l0, l1, l2, l3] st h Q := W_if f259_7 rfl
theorem f259_10 : fetch 259 10 = some (.lconst 1, 1, [], .null) := by decide +kernel
theorem w259_10 : Wp d 259 10 [l0, l1, l2, l3] st h Q = Wp d 259 11 [l0, l1, l2, l3] (.long (1 : Int64) :: st) h Q := W_go f259_10 rfl
theorem f259_11 : fetch 259 11 = some (.goto 4, 3, [], .null) := by decide +kernel
theorem w259_11 : Wp d 259 11 [l0, l1, l2, l3] st h Q = Wp d 259 15 [l0, l1, l2, l3] st h Q := W_go f259_11 rfl
theorem f259_14 : fetch 259 14 = some (.lconst 0, 1, [], .null) := by decide +kernel
theorem w259_14 : Wp d 259 14 [l0, l1, l2, l3] st h Q = Wp d 259 15 [l0, l1, l2, l3] (.long (0 : Int64) :: st) h Q := W_go f259_14 rfl
theorem f259_15 : fetch 259 15 = some (.lastore, 1, [], .null) := by decide +kernel
theorem w259_15 : Wp d 259 15 [l0, l1, l2, l3] (.long y8 :: .int x :: .ref a :: st) h Q = lsP (h.2 a) a x y8 (fun c => Wp d 259 16 [l0, l1, l2, l3] st (hset h a c) Q) := W_lst f259_15 rfl
theorem f259_16 : fetch 259 16 = some (.goto 6, 3, [], .null) := by decide +kernel
theorem w259_16 : Wp d 259 16 [l0, l1, l2, l3] st h Q = Wp d 259 22 [l0, l1, l2, l3] st h Q := W_go f259_16 rfl
theorem f259_19 : fetch 259 19 = some (.astore_n 3, 1, [], .null) := by decide +kernel
theorem w259_19 : Wp d 259 19 [l0, l1, l2, l3] (.ref a :: st) h Q = Wp d 259 20 [l0, l1, kl l2, some (.ref a)] st h Q := (W_st1 (pc' := 20) (k := 3) f259_19 rfl rfl (by simp only [List.length_cons, List.length_nil]; omega)).trans (by rw [pst1_succ]; rfl)
theorem f259_20 : fetch 259 20 = some (.iconst 1, 1, [], .null) := by decide +kernel
theorem w259_20 : Wp d 259 20 [l0, l1, l2, l3] st h Q = Wp d 259 21 [l0, l1, l2, l3] (.int (1 : Int32) :: st) h Q := W_go f259_20 rfl
theorem f259_21 : fetch 259 21 = some (.ireturn, 1, [], .null) := by decide +kernel
theorem w259_21 : Wp d 259 21 [l0, l1, l2, l3] [.int x] h Q = Q (.inl (some (.int x)), h) := W_iret f259_21 hr259
theorem f259_22 : fetch 259 22 = some (.iconst 0, 1, [], .null) := by decide +kernel
theorem w259_22 : Wp d 259 22 [l0, l1, l2, l3] st h Q = Wp d 259 23 [l0, l1, l2, l3] (.int (0 : Int32) :: st) h Q := W_go f259_22 rfl
theorem f259_23 : fetch 259 23 = some (.ireturn, 1, [], .null) := by decide +kernel
theorem w259_23 : Wp d 259 23 [l0, l1, l2, l3] [.int x] h Q = Q (.inl (some (.int x)), h) := W_iret f259_23 hr259
theorem hm260 : mhs 260 = [(0, 9, 12, 28, "java/lang/IndexOutOfBoundsException"), (0, 9, 15, 13, "java/lang/IllegalStateException")] := by decide +kernel
theorem hr260 : mret 260 = (some .int) := by decide +kernel
theorem f260_0 : fetch 260 0 = some (.aload_n 2, 1, [], .null) := by decide +kernel
theorem w260_0 : Wp d 260 0 [l0, l1, some (.ref a), l3] st h Q = Wp d 260 1 [l0, l1, some (.ref a), l3] (.ref a :: st) h Q := W_go f260_0 rfl
theorem f260_1 : fetch 260 1 = some (.iconst 0, 1, [], .null) := by decide +kernel
theorem w260_1 : Wp d 260 1 [l0, l1, l2, l3] st h Q = Wp d 260 2 [l0, l1, l2, l3] (.int (0 : Int32) :: st) h Q := W_go f260_1 rfl
theorem f260_2 : fetch 260 2 = some (.aload_n 0, 1, [], .null) := by decide +kernel
theorem w260_2 : Wp d 260 2 [some (.ref a), l1, l2, l3] st h Q = Wp d 260 3 [some (.ref a), l1, l2, l3] (.ref a :: st) h Q := W_go f260_2 rfl
theorem f260_3 : fetch 260 3 = some (.iload_n 1, 1, [], .null) := by decide +kernel
theorem w260_3 : Wp d 260 3 [l0, some (.int x), l2, l3] st h Q = Wp d 260 4 [l0, some (.int x), l2, l3] (.int x :: st) h Q := W_go f260_3 rfl
theorem f260_4 : fetch 260 4 = some (.invokevirtual 76, 3, [101, 2, 8, 0, 5090, 1001, 5093, 5091, 5092], .null) := by decide +kernel
theorem w260_4 (hp : psum st ≤ 8) : Wp d 260 4 [l0, l1, l2, l3] (v1 :: (.ref b) :: st) h Q = rP (h.2 b) 7 (Cp d 101 [(.ref b), v1] h (fun o => cK o (fun w h2 => Wp d 260 7 [l0, l1, l2, l3] (w.toList ++ st) h2 Q) (fun E h2 => oP (hfind [(0, 9, 12, 28, "java/lang/IndexOutOfBoundsException"), (0, 9, 15, 13, "java/lang/IllegalStateException")] 4 E) (fun hp => Wp d 260 hp [l0, l1, l2, l3] [.ref 299] h2 Q)))) := (W_invV (st := st) f260_4 rfl rfl (by simp only [List.length_cons]; omega) rfl rfl hp).trans (by simp only [hm260, reduceCtorEq, if_false])
theorem f260_7 : fetch 260 7 = some (.i2l, 1, [], .null) := by decide +kernel
theorem w260_7 : Wp d 260 7 [l0, l1, l2, l3] (.int x :: st) h Q = Wp d 260 8 [l0, l1, l2, l3] (.long x.toInt64 :: st) h Q := W_go f260_7 rfl
theorem f260_8 : fetch 260 8 = some (.lastore, 1, [], .null) := by decide +kernel
theorem w260_8 : Wp d 260 8 [l0, l1, l2, l3] (.long y8 :: .int x :: .ref a :: st) h Q = lsP (h.2 a) a x y8 (fun c => Wp d 260 9 [l0, l1, l2, l3] st (hset h a c) Q) := W_lst f260_8 rfl
theorem f260_9 : fetch 260 9 = some (.goto 9, 3, [], .null) := by decide +kernel
theorem w260_9 : Wp d 260 9 [l0, l1, l2, l3] st h Q = Wp d 260 18 [l0, l1, l2, l3] st h Q := W_go f260_9 rfl
theorem f260_12 : fetch 260 12 = some (.astore_n 3, 1, [], .null) := by decide +kernel
theorem w260_12 : Wp d 260 12 [l0, l1, l2, l3] (.ref a :: st) h Q = Wp d 260 13 [l0, l1, kl l2, some (.ref a)] st h Q := (W_st1 (pc' := 13) (k := 3) f260_12 rfl rfl (by simp only [List.length_cons, List.length_nil]; omega)).trans (by rw [pst1_succ]; rfl)
theorem f260_13 : fetch 260 13 = some (.iconst 1, 1, [], .null) := by decide +kernel
theorem w260_13 : Wp d 260 13 [l0, l1, l2, l3] st h Q = Wp d 260 14 [l0, l1, l2, l3] (.int (1 : Int32) :: st) h Q := W_go f260_13 rfl
theorem f260_14 : fetch 260 14 = some (.ireturn, 1, [], .null) := by decide +kernel
theorem w260_14 : Wp d 260 14 [l0, l1, l2, l3] [.int x] h Q = Q (.inl (some (.int x)), h) := W_iret f260_14 hr260
theorem f260_15 : fetch 260 15 = some (.astore_n 3, 1, [], .null) := by decide +kernel
theorem w260_15 : Wp d 260 15 [l0, l1, l2, l3] (.ref a :: st) h Q = Wp d 260 16 [l0, l1, kl l2, some (.ref a)] st h Q := (W_st1 (pc' := 16) (k := 3) f260_15 rfl rfl (by simp only [List.length_cons, List.length_nil]; omega)).trans (by rw [pst1_succ]; rfl)
theorem f260_16 : fetch 260 16 = some (.iconst 2, 1, [], .null) := by decide +kernel
theorem w260_16 : Wp d 260 16 [l0, l1, l2, l3] st h Q = Wp d 260 17 [l0, l1, l2, l3] (.int (2 : Int32) :: st) h Q := W_go f260_16 rfl
theorem f260_17 : fetch 260 17 = some (.ireturn, 1, [], .null) := by decide +kernel
theorem w260_17 : Wp d 260 17 [l0, l1, l2, l3] [.int x] h Q = Q (.inl (some (.int x)), h) := W_iret f260_17 hr260
theorem f260_18 : fetch 260 18 = some (.iconst 0, 1, [], .null) := by decide +kernel
theorem w260_18 : Wp d 260 18 [l0, l1, l2, l3] st h Q = Wp d 260 19 [l0, l1, l2, l3] (.int (0 : Int32) :: st) h Q := W_go f260_18 rfl
theorem f260_19 : fetch 260 19 = some (.ireturn, 1, [], .null) := by decide +kernel
theorem w260_19 : Wp d 260 19 [l0, l1, l2, l3] [.int x] h Q = Q (.inl (some (.int x)), h) := W_iret f260_19 hr260
theorem hm261 : mhs 261 = [(0, 16, 19, 28, "java/lang/IndexOutOfBoundsException")] := by decide +kernel
theorem hr261 : mret 261 = (some .int) := by decide +kernel
theorem f261_0 : fetch 261 0 = some (.aload_n 2, 1, [], .null) := by decide +kernel
theorem w261_0 : Wp d 261 0 [l0, l1, some (.ref a), l3] st h Q = Wp d 261 1 [l0, l1, some (.ref a), l3] (.ref a :: st) h Q := W_go f261_0 rfl
theorem f261_1 : fetch 261 1 = some (.iconst 0, 1, [], .null) := by decide +kernel
theorem w261_1 : Wp d 261 1 [l0, l1, l2, l3] st h Q = Wp d 261 2 [l0, l1, l2, l3] (.int (0 : Int32) :: st) h Q := W_go f261_1 rfl
theorem f261_2 : fetch 261 2 = some (.aload_n 0, 1, [], .null) := by decide +kernel
theorem w261_2 : Wp d 261 2 [some (.ref a), l1, l2, l3] st h Q = Wp d 261 3 [some (.ref a), l1, l2, l3] (.ref a :: st) h Q := W_go f261_2 rfl
theorem f261_3 : fetch 261 3 = some (.iload_n 1, 1, [], .null) := by decide +kernel
theorem w261_3 : Wp d 261 3 [l0, some (.int x), l2, l3] st h Q = Wp d 261 4 [l0, some (.int x), l2, l3] (.int x :: st) h Q := W_go f261_3 rfl
theorem f261_4 : fetch 261 4 = some (.invokevirtual 79, 3, [102, 2, 8, 0, 5098, 1001, 5101, 5099, 5100], .null) := by decide +kernel
theorem w261_4 (hp : psum st ≤ 8) : Wp d 261 4 [l0, l1, l2, l3] (v1 :: (.ref b) :: st) h Q = rP (h.2 b) 7 (Cp d 102 [(.ref b), v1] h (fun o => cK o (fun w h2 => Wp d 261 7 [l0, l1, l2, l3] (w.toList ++ st) h2 Q) (fun E h2 => oP (hfind [(0, 16, 19, 28, "java/lang/IndexOutOfBoundsException")] 4 E) (fun hp => Wp d 261 hp [l0, l1, l2, l3] [.ref 299] h2 Q)))) := (W_invV (st := st) f261_4 rfl rfl (by simp only [List.length_cons]; omega) rfl rfl hp).trans (by simp only [hm261, reduceCtorEq, if_false])
theorem f261_7 : fetch 261 7 = some (.ifCond .eq 7, 3, [], .null) := by decide +kernel
theorem w261_7 : Wp d 261 7 [l0, l1, l2, l3] (.int x :: st) h Q = if icond .eq x 0 = true then Wp d 261 14 [l0, l1, l2, l3] st h Q else Wp d 261 10 [l0, l1, l2, l3] st h Q := W_if f261_7 rfl
theorem f261_10 : fetch 261 10 = some (.lconst 1, 1, [], .null) := by decide +kernel
theorem w261_10 : Wp d 261 10 [l0, l1, l2, l3] st h Q = Wp d 261 11 [l0, l1, l2, l3] (.long (1 : Int64) :: st) h Q := W_go f261_10 rfl
theorem f261_11 : fetch 261 11 = some (.goto 4, 3, [], .null) := by decide +kernel
theorem w261_11 : Wp d 261 11 [l0, l1, l2, l3] st h Q = Wp d 261 15 [l0, l1, l2, l3] st h Q := W_go f261_11 rfl
theorem f261_14 : fetch 261 14 = some (.lconst 0, 1, [], .null) := by decide +kernel
theorem w261_14 : Wp d 261 14 [l0, l1, l2, l3] st h Q = Wp d 261 15 [l0, l1, l2, l3] (.long (0 : Int64) :: st) h Q := W_go f261_14 rfl
theorem f261_15 : fetch 261 15 = some (.lastore, 1, [], .null) := by decide +kernel
theorem w261_15 : Wp d 261 15 [l0, l1, l2, l3] (.long y8 :: .int x :: .ref a :: st) h Q = lsP (h.2 a) a x y8 (fun c => Wp d 261 16 [l0, l1, l2, l3] st (hset h a c) Q) := W_lst f261_15 rfl
theorem f261_16 : fetch 261 16 = some (.goto 6, 3, [], .null) := by decide +kernel
theorem w261_16 : Wp d 261 16 [l0, l1, l2, l3] st h Q = Wp d 261 22 [l0, l1, l2, l3] st h Q := W_go f261_16 rfl
theorem f261_19 : fetch 261 19 = some (.astore_n 3, 1, [], .null) := by decide +kernel
theorem w261_19 : Wp d 261 19 [l0, l1, l2, l3] (.ref a :: st) h Q = Wp d 261 20 [l0, l1, kl l2, some (.ref a)] st h Q := (W_st1 (pc' := 20) (k := 3) f261_19 rfl rfl (by simp only [List.length_cons, List.length_nil]; omega)).trans (by rw [pst1_succ]; rfl)
theorem f261_20 : fetch 261 20 = some (.iconst 1, 1, [], .null) := by decide +kernel
theorem w261_20 : Wp d 261 20 [l0, l1, l2, l3] st h Q = Wp d 261 21 [l0, l1, l2, l3] (.int (1 : Int32) :: st) h Q := W_go f261_20 rfl
theorem f261_21 : fetch 261 21 = some (.ireturn, 1, [], .null) := by decide +kernel
theorem w261_21 : Wp d 261 21 [l0, l1, l2, l3] [.int x] h Q = Q (.inl (some (.int x)), h) := W_iret f261_21 hr261
theorem f261_22 : fetch 261 22 = some (.iconst 0, 1, [], .null) := by decide +kernel
theorem w261_22 : Wp d 261 22 [l0, l1, l2, l3] st h Q = Wp d 261 23 [l0, l1, l2, l3] (.int (0 : Int32) :: st) h Q := W_go f261_22 rfl
theorem f261_23 : fetch 261 23 = some (.ireturn, 1, [], .null) := by decide +kernel
theorem w261_23 : Wp d 261 23 [l0, l1, l2, l3] [.int x] h Q = Q (.inl (some (.int x)), h) := W_iret f261_23 hr261
theorem hm262 : mhs 262 = [(0, 9, 12, 28, "java/lang/IndexOutOfBoundsException")] := by decide +kernel
theorem hr262 : mret 262 = (some .int) := by decide +kernel
theorem f262_0 : fetch 262 0 = some (.aload_n 2, 1, [], .null) := by decide +kernel
theorem w262_0 : Wp d 262 0 [l0, l1, some (.ref a), l3] st h Q = Wp d 262 1 [l0, l1, some (.ref a), l3] (.ref a :: st) h Q := W_go f262_0 rfl
theorem f262_1 : fetch 262 1 = some (.iconst 0, 1, [], .null) := by decide +kernel
theorem w262_1 : Wp d 262 1 [l0, l1, l2, l3] st h Q = Wp d 262 2 [l0, l1, l2, l3] (.int (0 : Int32) :: st) h Q := W_go f262_1 rfl
theorem f262_2 : fetch 262 2 = some (.aload_n 0, 1, [], .null) := by decide +kernel
theorem w262_2 : Wp d 262 2 [some (.ref a), l1, l2, l3] st h Q = Wp d 262 3 [some (.ref a), l1, l2, l3] (.ref a :: st) h Q := W_go f262_2 rfl
theorem f262_3 : fetch 262 3 = some (.iload_n 1, 1, [], .null) := by decide +kernel
theorem w262_3 : Wp d 262 3 [l0, some (.int x), l2, l3] st h Q = Wp d 262 4 [l0, some (.int x), l2, l3] (.int x :: st) h Q := W_go f262_3 rfl
theorem f262_4 : fetch 262 4 = some (.invokevirtual 82, 3, [103, 2, 8, 0, 5106, 1001, 5109, 5107, 5108], .null) := by decide +kernel
theorem w262_4 (hp : psum st ≤ 8) : Wp d 262 4 [l0, l1, l2, l3] (v1 :: (.ref b) :: st) h Q = rP (h.2 b) 7 (Cp d 103 [(.ref b), v1] h (fun o => cK o (fun w h2 => Wp d 262 7 [l0, l1, l2, l3] (w.toList ++ st) h2 Q) (fun E h2 => oP (hfind [(0, 9, 12, 28, "java/lang/IndexOutOfBoundsException")] 4 E) (fun hp => Wp d 262 hp [l0, l1, l2, l3] [.ref 299] h2 Q)))) := (W_invV (st := st) f262_4 rfl rfl (by simp only [List.length_cons]; omega) rfl rfl hp).trans (by simp only [hm262, reduceCtorEq, if_false])
theorem f262_7 : fetch 262 7 = some (.i2l, 1, [], .null) := by decide +kernel
theorem w262_7 : Wp d 262 7 [l0, l1, l2, l3] (.int x :: st) h Q = Wp d 262 8 [l0, l1, l2, l3] (.long x.toInt64 :: st) h Q := W_go f262_7 rfl
theorem f262_8 : fetch 262 8 = some (.lastore, 1, [], .null) := by decide +kernel
theorem w262_8 : Wp d 262 8 [l0, l1, l2, l3] (.long y8 :: .int x :: .ref a :: st) h Q = lsP (h.2 a) a x y8 (fun c => Wp d 262 9 [l0, l1, l2, l3] st (hset h a c) Q) := W_lst f262_8 rfl
theorem f262_9 : fetch 262 9 = some (.goto 6, 3, [], .null) := by decide +kernel
theorem w262_9 : Wp d 262 9 [l0, l1, l2, l3] st h Q = Wp d 262 15 [l0, l1, l2, l3] st h Q := W_go f262_9 rfl
theorem f262_12 : fetch 262 12 = some (.astore_n 3, 1, [], .null) := by decide +kernel
theorem w262_12 : Wp d 262 12 [l0, l1, l2, l3] (.ref a :: st) h Q = Wp d 262 13 [l0, l1, kl l2, some (.ref a)] st h Q := (W_st1 (pc' := 13) (k := 3) f262_12 rfl rfl (by simp only [List.length_cons, List.length_nil]; omega)).trans (by rw [pst1_succ]; rfl)
theorem f262_13 : fetch 262 13 = some (.iconst 1, 1, [], .null) := by decide +kernel
theorem w262_13 : Wp d 262 13 [l0, l1, l2, l3] st h Q = Wp d 262 14 [l0, l1, l2, l3] (.int (1 : Int32) :: st) h Q := W_go f262_13 rfl
theorem f262_14 : fetch 262 14 = some (.ireturn, 1, [], .null) := by decide +kernel
theorem w262_14 : Wp d 262 14 [l0, l1, l2, l3] [.int x] h Q = Q (.inl (some (.int x)), h) := W_iret f262_14 hr262
theorem f262_15 : fetch 262 15 = some (.iconst 0, 1, [], .null) := by decide +kernel
theorem w262_15 : Wp d 262 15 [l0, l1, l2, l3] st h Q = Wp d 262 16 [l0, l1, l2, l3] (.int (0 : Int32) :: st) h Q := W_go f262_15 rfl
theorem f262_16 : fetch 262 16 = some (.ireturn, 1, [], .null) := by decide +kernel
theorem w262_16 : Wp d 262 16 [l0, l1, l2, l3] [.int x] h Q = Q (.inl (some (.int x)), h) := W_iret f262_16 hr262
theorem hm263 : mhs 263 = [(0, 9, 12, 28, "java/lang/IndexOutOfBoundsException")] := by decide +kernel
theorem hr263 : mret 263 = (some .int) := by decide +kernel
theorem f263_0 : fetch 263 0 = some (.aload_n 2, 1, [], .null) := by decide +kernel
theorem w263_0 : Wp d 263 0 [l0, l1, some (.ref a), l3] st h Q = Wp d 263 1 [l0, l1, some (.ref a), l3] (.ref a :: st) h Q := W_go f263_0 rfl
theorem f263_1 : fetch 263 1 = some (.iconst 0, 1, [], .null) := by decide +kernel
theorem w263_1 : Wp d 263 1 [l0, l1, l2, l3] st h Q = Wp d 263 2 [l0, l1, l2, l3] (.int (0 : Int32) :: st) h Q := W_go f263_1 rfl
theorem f263_2 : fetch 263 2 = some (.aload_n 0, 1, [], .null) := by decide +kernel
theorem w263_2 : Wp d 263 2 [some (.ref a), l1, l2, l3] st h Q = Wp d 263 3 [some (.ref a), l1, l2, l3] (.ref a :: st) h Q := W_go f263_2 rfl
theorem f263_3 : fetch 263 3 = some (.iload_n 1, 1, [], .null) := by decide +kernel
theorem w263_3 : Wp d 263 3 [l0, some (.int x), l2, l3] st h Q = Wp d 263 4 [l0, some (.int x), l2, l3] (.int x :: st) h Q := W_go f263_3 rfl
theorem f263_4 : fetch 263 4 = some (.invokevirtual 85, 3, [104, 2, 8, 0, 5113, 1001, 5116, 5114, 5115], .null) := by decide +kernel
theorem w263_4 (hp : psum st ≤ 8) : Wp d 263 4 [l0, l1, l2, l3] (v1 :: (.ref b) :: st) h Q = rP (h.2 b) 7 (Cp d 104 [(.ref b), v1] h (fun o => cK o (fun w h2 => Wp d 263 7 [l0, l1, l2, l3] (w.toList ++ st) h2 Q) (fun E h2 => oP (hfind [(0, 9, 12, 28, "java/lang/IndexOutOfBoundsException")] 4 E) (fun hp => Wp d 263 hp [l0, l1, l2, l3] [.ref 299] h2 Q)))) := (W_invV (st := st) f263_4 rfl rfl (by simp only [List.length_cons]; omega) rfl rfl hp).trans (by simp only [hm263, reduceCtorEq, if_false])
theorem f263_7 : fetch 263 7 = some (.i2l, 1, [], .null) := by decide +kernel
theorem w263_7 : Wp d 263 7 [l0, l1, l2, l3] (.int x :: st) h Q = Wp d 263 8 [l0, l1, l2, l3] (.long x.toInt64 :: st) h Q := W_go f263_7 rfl
theorem f263_8 : fetch 263 8 = some (.lastore, 1, [], .null) := by decide +kernel
theorem w263_8 : Wp d 263 8 [l0, l1, l2, l3] (.long y8 :: .int x :: .ref a :: st) h Q = lsP (h.2 a) a x y8 (fun c => Wp d 263 9 [l0, l1, l2, l3] st (hset h a c) Q) := W_lst f263_8 rfl
theorem f263_9 : fetch 263 9 = some (.goto 6, 3, [], .null) := by decide +kernel
theorem w263_9 : Wp d 263 9 [l0, l1, l2, l3] st h Q = Wp d 263 15 [l0, l1, l2, l3] st h Q := W_go f263_9 rfl
theorem f263_12 : fetch 263 12 = some (.astore_n 3, 1, [], .null) := by decide +kernel
theorem w263_12 : Wp d 263 12 [l0, l1, l2, l3] (.ref a :: st) h Q = Wp d 263 13 [l0, l1, kl l2, some (.ref a)] st h Q := (W_st1 (pc' := 13) (k := 3) f263_12 rfl rfl (by simp only [List.length_cons, List.length_nil]; omega)).trans (by rw [pst1_succ]; rfl)
theorem f263_13 : fetch 263 13 = some (.iconst 1, 1, [], .null) := by decide +kernel
theorem w263_13 : Wp d 263 13 [l0, l1, l2, l3] st h Q = Wp d 263 14 [l0, l1, l2, l3] (.int (1 : Int32) :: st) h Q := W_go f263_13 rfl
theorem f263_14 : fetch 263 14 = some (.ireturn, 1, [], .null) := by decide +kernel
theorem w263_14 : Wp d 263 14 [l0, l1, l2, l3] [.int x] h Q = Q (.inl (some (.int x)), h) := W_iret f263_14 hr263
theorem f263_15 : fetch 263 15 = some (.iconst 0, 1, [], .null) := by decide +kernel
theorem w263_15 : Wp d 263 15 [l0, l1, l2, l3] st h Q = Wp d 263 16 [l0, l1, l2, l3] (.int (0 : Int32) :: st) h Q := W_go f263_15 rfl
theorem f263_16 : fetch 263 16 = some (.ireturn, 1, [], .null) := by decide +kernel
theorem w263_16 : Wp d 263 16 [l0, l1, l2, l3] [.int x] h Q = Q (.inl (some (.int x)), h) := W_iret f263_16 hr263
theorem hm264 : mhs 264 = [(0, 10, 13, 28, "java/lang/IndexOutOfBoundsException")] := by decide +kernel
theorem hr264 : mret 264 = (some .int) := by decide +kernel
theorem f264_0 : fetch 264 0 = some (.aload_n 3, 1, [], .null) := by decide +kernel
theorem w264_0 : Wp d 264 0 [l0, l1, l2, some (.ref a), l4] st h Q = Wp d 264 1 [l0, l1, l2, some (.ref a), l4] (.ref a :: st) h Q := W_go f264_0 rfl
theorem f264_1 : fetch 264 1 = some (.iconst 0, 1, [], .null) := by decide +kernel
theorem w264_1 : Wp d 264 1 [l0, l1, l2, l3, l4] st h Q = Wp d 264 2 [l0, l1, l2, l3, l4] (.int (0 : Int32) :: st) h Q := W_go f264_1 rfl
theorem f264_2 : fetch 264 2 = some (.aload_n 0, 1, [], .null) := by decide +kernel
theorem w264_2 : Wp d 264 2 [some (.ref a), l1, l2, l3, l4] st h Q = Wp d 264 3 [some (.ref a), l1, l2, l3, l4] (.ref a :: st) h Q := W_go f264_2 rfl
theorem f264_3 : fetch 264 3 = some (.iload_n 1, 1, [], .null) := by decide +kernel
theorem w264_3 : Wp d 264 3 [l0, some (.int x), l2, l3, l4] st h Q = Wp d 264 4 [l0, some (.int x), l2, l3, l4] (.int x :: st) h Q := W_go f264_3 rfl
theorem f264_4 : fetch 264 4 = some (.iload_n 2, 1, [], .null) := by decide +kernel
theorem w264_4 : Wp d 264 4 [l0, l1, some (.int x), l3, l4] st h Q = Wp d 264 5 [l0, l1, some (.int x), l3, l4] (.int x :: st) h Q := W_go f264_4 rfl
theorem f264_5 : fetch 264 5 = some (.invokevirtual 88, 3, [105, 3, 8, 0, 5120, 1001, 5123, 5121, 5122], .null) := by decide +kernel
theorem w264_5 (hp : psum st ≤ 8) : Wp d 264 5 [l0, l1, l2, l3, l4] (v2 :: v1 :: (.ref b) :: st) h Q = rP (h.2 b) 7 (Cp d 105 [(.ref b), v1, v2] h (fun o => cK o (fun w h2 => Wp d 264 8 [l0, l1, l2, l3, l4] (w.toList ++ st) h2 Q) (fun E h2 => oP (hfind [(0, 10, 13, 28, "java/lang/IndexOutOfBoundsException")] 5 E) (fun hp => Wp d 264 hp [l0, l1, l2, l3, l4] [.ref 299] h2 Q)))) := (W_invV (st := st) f264_5 rfl rfl (by simp only [List.length_cons]; omega) rfl rfl hp).trans (by simp only [hm264, reduceCtorEq, if_false])
theorem f264_8 : fetch 264 8 = some (.i2l, 1, [], .null) := by decide +kernel
theorem w264_8 : Wp d 264 8 [l0, l1, l2, l3, l4] (.int x :: st) h Q = Wp d 264 9 [l0, l1, l2, l3, l4] (.long x.toInt64 :: st) h Q := W_go f264_8 rfl
theorem f264_9 : fetch 264 9 = some (.lastore, 1, [], .null) := by decide +kernel
theorem w264_9 : Wp d 264 9 [l0, l1, l2, l3, l4] (.long y8 :: .int x :: .ref a :: st) h Q = lsP (h.2 a) a x y8 (fun c => Wp d 264 10 [l0, l1, l2, l3, l4] st (hset h a c) Q) := W_lst f264_9 rfl
theorem f264_10 : fetch 264 10 = some (.goto 7, 3, [], .null) := by decide +kernel
theorem w264_10 : Wp d 264 10 [l0, l1, l2, l3, l4] st h Q = Wp d 264 17 [l0, l1, l2, l3, l4] st h Q := W_go f264_10 rfl
theorem f264_13 : fetch 264 13 = some (.astore 4, 2, [], .null) := by decide +kernel
theorem w264_13 : Wp d 264 13 [l0, l1, l2, l3, l4] (.ref a :: st) h Q = Wp d 264 15 [l0, l1, l2, kl l3, some (.ref a)] st h Q := (W_st1 (pc' := 15) (k := 4) f264_13 rfl rfl (by simp only [List.length_cons, List.length_nil]; omega)).trans (by rw [pst1_succ]; rfl)
theorem f264_15 : fetch 264 15 = some (.iconst 1, 1, [], .null) := by decide +kernel
theorem w264_15 : Wp d 264 15 [l0, l1, l2, l3, l4] st h Q = Wp d 264 16 [l0, l1, l2, l3, l4] (.int (1 : Int32) :: st) h Q := W_go f264_15 rfl
theorem f264_16 : fetch 264 16 = some (.ireturn, 1, [], .null) := by decide +kernel
theorem w264_16 : Wp d 264 16 [l0, l1, l2, l3, l4] [.int x] h Q = Q (.inl (some (.int x)), h) := W_iret f264_16 hr264
theorem f264_17 : fetch 264 17 = some (.iconst 0, 1, [], .null) := by decide +kernel
theorem w264_17 : Wp d 264 17 [l0, l1, l2, l3, l4] st h Q = Wp d 264 18 [l0, l1, l2, l3, l4] (.int (0 : Int32) :: st) h Q := W_go f264_17 rfl
theorem f264_18 : fetch 264 18 = some (.ireturn, 1, [], .null) := by decide +kernel
theorem w264_18 : Wp d 264 18 [l0, l1, l2, l3, l4] [.int x] h Q = Q (.inl (some (.int x)), h) := W_iret f264_18 hr264
theorem hm265 : mhs 265 = [(0, 9, 12, 28, "java/lang/IndexOutOfBoundsException")] := by decide +kernel
theorem hr265 : mret 265 = (some .int) := by decide +kernel
theorem f265_0 : fetch 265 0 = some (.aload_n 2, 1, [], .null) := by decide +kernel
theorem w265_0 : Wp d 265 0 [l0, l1, some (.ref a), l3] st h Q = Wp d 265 1 [l0, l1, some (.ref a), l3] (.ref a :: st) h Q := W_go f265_0 rfl
theorem f265_1 : fetch 265 1 = some (.iconst 0, 1, [], .null) := by decide +kernel
theorem w265_1 : Wp d 265 1 [l0, l1, l2, l3] st h Q = Wp d 265 2 [l0, l1, l2, l3] (.int (0 : Int32) :: st) h Q := W_go f265_1 rfl
theorem f265_2 : fetch 265 2 = some (.aload_n 0, 1, [], .null) := by decide +kernel
theorem w265_2 : Wp d 265 2 [some (.ref a), l1, l2, l3] st h Q = Wp d 265 3 [some (.ref a), l1, l2, l3] (.ref a :: st) h Q := W_go f265_2 rfl
theorem f265_3 : fetch 265 3 = some (.iload_n 1, 1, [], .null) := by decide +kernel
theorem w265_3 : Wp d 265 3 [l0, some (.int x), l2, l3] st h Q = Wp d 265 4 [l0, some (.int x), l2, l3] (.int x :: st) h Q := W_go f265_3 rfl
theorem f265_4 : fetch 265 4 = some (.invokevirtual 91, 3, [106, 2, 8, 0, 5129, 1001, 5132, 5130, 5131], .null) := by decide +kernel
theorem w265_4 (hp : psum st ≤ 8) : Wp d 265 4 [l0, l1, l2, l3] (v1 :: (.ref b) :: st) h Q = rP (h.2 b) 7 (Cp d 106 [(.ref b), v1] h (fun o => cK o (fun w h2 => Wp d 265 7 [l0, l1, l2, l3] (w.toList ++ st) h2 Q) (fun E h2 => oP (hfind [(0, 9, 12, 28, "java/lang/IndexOutOfBoundsException")] 4 E) (fun hp => Wp d 265 hp [l0, l1, l2, l3] [.ref 299] h2 Q)))) := (W_invV (st := st) f265_4 rfl rfl (by simp only [List.length_cons]; omega) rfl rfl hp).trans (by simp only [hm265, reduceCtorEq, if_false])
theorem f265_7 : fetch 265 7 = some (.i2l, 1, [], .null) := by decide +kernel
theorem w265_7 : Wp d 265 7 [l0, l1, l2, l3] (.int x :: st) h Q = Wp d 265 8 [l0, l1, l2, l3] (.long x.toInt64 :: st) h Q := W_go f265_7 rfl
theorem f265_8 : fetch 265 8 = some (.lastore, 1, [], .null) := by decide +kernel
theorem w265_8 : Wp d 265 8 [l0, l1, l2, l3] (.long y8 :: .int x :: .ref a :: st) h Q = lsP (h.2 a) a x y8 (fun c => Wp d 265 9 [l0, l1, l2, l3] st (hset h a c) Q) := W_lst f265_8 rfl
theorem f265_9 : fetch 265 9 = some (.goto 6, 3, [], .null) := by decide +kernel
theorem w265_9 : Wp d 265 9 [l0, l1, l2, l3] st h Q = Wp d 265 15 [l0, l1, l2, l3] st h Q := W_go f265_9 rfl
theorem f265_12 : fetch 265 12 = some (.astore_n 3, 1, [], .null) := by decide +kernel
theorem w265_12 : Wp d 265 12 [l0, l1, l2, l3] (.ref a :: st) h Q = Wp d 265 13 [l0, l1, kl l2, some (.ref a)] st h Q := (W_st1 (pc' := 13) (k := 3) f265_12 rfl rfl (by simp only [List.length_cons, List.length_nil]; omega)).trans (by rw [pst1_succ]; rfl)
theorem f265_13 : fetch 265 13 = some (.iconst 1, 1, [], .null) := by decide +kernel
theorem w265_13 : Wp d 265 13 [l0, l1, l2, l3] st h Q = Wp d 265 14 [l0, l1, l2, l3] (.int (1 : Int32) :: st) h Q := W_go f265_13 rfl
theorem f265_14 : fetch 265 14 = some (.ireturn, 1, [], .null) := by decide +kernel
theorem w265_14 : Wp d 265 14 [l0, l1, l2, l3] [.int x] h Q = Q (.inl (some (.int x)), h) := W_iret f265_14 hr265
theorem f265_15 : fetch 265 15 = some (.iconst 0, 1, [], .null) := by decide +kernel
theorem w265_15 : Wp d 265 15 [l0, l1, l2, l3] st h Q = Wp d 265 16 [l0, l1, l2, l3] (.int (0 : Int32) :: st) h Q := W_go f265_15 rfl
theorem f265_16 : fetch 265 16 = some (.ireturn, 1, [], .null) := by decide +kernel
theorem w265_16 : Wp d 265 16 [l0, l1, l2, l3] [.int x] h Q = Q (.inl (some (.int x)), h) := W_iret f265_16 hr265
theorem hm266 : mhs 266 = [(0, 9, 12, 19, "java/lang/IllegalArgumentException")] := by decide +kernel
theorem hr266 : mret 266 = (some .int) := by decide +kernel
theorem f266_0 : fetch 266 0 = some (.aload_n 2, 1, [], .null) := by decide +kernel
theorem w266_0 : Wp d 266 0 [l0, l1, some (.ref a), l3] st h Q = Wp d 266 1 [l0, l1, some (.ref a), l3] (.ref a :: st) h Q := W_go f266_0 rfl
theorem f266_1 : fetch 266 1 = some (.iconst 0, 1, [], .null) := by decide +kernel
theorem w266_1 : Wp d 266 1 [l0, l1, l2, l3] st h Q = Wp d 266 2 [l0, l1, l2, l3] (.int (0 : Int32) :: st) h Q := W_go f266_1 rfl
theorem f266_2 : fetch 266 2 = some (.aload_n 0, 1, [], .null) := by decide +kernel
theorem w266_2 : Wp d 266 2 [some (.ref a), l1, l2, l3] st h Q = Wp d 266 3 [some (.ref a), l1, l2, l3] (.ref a :: st) h Q := W_go f266_2 rfl
theorem f266_3 : fetch 266 3 = some (.iload_n 1, 1, [], .null) := by decide +kernel
theorem w266_3 : Wp d 266 3 [l0, some (.int x), l2, l3] st h Q = Wp d 266 4 [l0, some (.int x), l2, l3] (.int x :: st) h Q := W_go f266_3 rfl
theorem f266_4 : fetch 266 4 = some (.invokevirtual 94, 3, [107, 2, 8, 0, 5148, 1001, 5151, 5149, 5150], .null) := by decide +kernel
theorem w266_4 (hp : psum st ≤ 8) : Wp d 266 4 [l0, l1, l2, l3] (v1 :: (.ref b) :: st) h Q = rP (h.2 b) 7 (Cp d 107 [(.ref b), v1] h (fun o => cK o (fun w h2 => Wp d 266 7 [l0, l1, l2, l3] (w.toList ++ st) h2 Q) (fun E h2 => oP (hfind [(0, 9, 12, 19, "java/lang/IllegalArgumentException")] 4 E) (fun hp => Wp d 266 hp [l0, l1, l2, l3] [.ref 299] h2 Q)))) := (W_invV (st := st) f266_4 rfl rfl (by simp only [List.length_cons]; omega) rfl rfl hp).trans (by simp only [hm266, reduceCtorEq, if_false])
theorem f266_7 : fetch 266 7 = some (.i2l, 1, [], .null) := by decide +kernel
theorem w266_7 : Wp d 266 7 [l0, l1, l2, l3] (.int x :: st) h Q = Wp d 266 8 [l0, l1, l2, l3] (.long x.toInt64 :: st) h Q := W_go f266_7 rfl
theorem f266_8 : fetch 266 8 = some (.lastore, 1, [], .null) := by decide +kernel
theorem w266_8 : Wp d 266 8 [l0, l1, l2, l3] (.long y8 :: .int x :: .ref a :: st) h Q = lsP (h.2 a) a x y8 (fun c => Wp d 266 9 [l0, l1, l2, l3] st (hset h a c) Q) := W_lst f266_8 rfl
theorem f266_9 : fetch 266 9 = some (.goto 6, 3, [], .null) := by decide +kernel
theorem w266_9 : Wp d 266 9 [l0, l1, l2, l3] st h Q = Wp d 266 15 [l0, l1, l2, l3] st h Q := W_go f266_9 rfl
theorem f266_12 : fetch 266 12 = some (.astore_n 3, 1, [], .null) := by decide +kernel
theorem w266_12 : Wp d 266 12 [l0, l1, l2, l3] (.ref a :: st) h Q = Wp d 266 13 [l0, l1, kl l2, some (.ref a)] st h Q := (W_st1 (pc' := 13) (k := 3) f266_12 rfl rfl (by simp only [List.length_cons, List.length_nil]; omega)).trans (by rw [pst1_succ]; rfl)
theorem f266_13 : fetch 266 13 = some (.iconst 1, 1, [], .null) := by decide +kernel
theorem w266_13 : Wp d 266 13 [l0, l1, l2, l3] st h Q = Wp d 266 14 [l0, l1, l2, l3] (.int (1 : Int32) :: st) h Q := W_go f266_13 rfl
theorem f266_14 : fetch 266 14 = some (.ireturn, 1, [], .null) := by decide +kernel
theorem w266_14 : Wp d 266 14 [l0, l1, l2, l3] [.int x] h Q = Q (.inl (some (.int x)), h) := W_iret f266_14 hr266
theorem f266_15 : fetch 266 15 = some (.iconst 0, 1, [], .null) := by decide +kernel
theorem w266_15 : Wp d 266 15 [l0, l1, l2, l3] st h Q = Wp d 266 16 [l0, l1, l2, l3] (.int (0 : Int32) :: st) h Q := W_go f266_15 rfl
theorem f266_16 : fetch 266 16 = some (.ireturn, 1, [], .null) := by decide +kernel
theorem w266_16 : Wp d 266 16 [l0, l1, l2, l3] [.int x] h Q = Q (.inl (some (.int x)), h) := W_iret f266_16 hr266
theorem hm267 : mhs 267 = [(0, 10, 13, 28, "java/lang/IndexOutOfBoundsException"), (0, 10, 17, 19, "java/lang/IllegalArgumentException"), (0, 10, 21, 13, "java/lang/IllegalStateException")] := by decide +kernel
theorem hr267 : mret 267 = (some .int) := by decide +kernel
theorem f267_0 : fetch 267 0 = some (.aload_n 3, 1, [], .null) := by decide +kernel
theorem w267_0 : Wp d 267 0 [l0, l1, l2, some (.ref a), l4] st h Q = Wp d 267 1 [l0, l1, l2, some (.ref a), l4] (.ref a :: st) h Q := W_go f267_0 rfl
theorem f267_1 : fetch 267 1 = some (.iconst 0, 1, [], .null) := by decide +kernel
theorem w267_1 : Wp d 267 1 [l0, l1, l2, l3, l4] st h Q = Wp d 267 2 [l0, l1, l2, l3, l4] (.int (0 : Int32) :: st) h Q := W_go f267_1 rfl
theorem f267_2 : fetch 267 2 = some (.aload_n 0, 1, [], .null) := by decide +kernel
theorem w267_2 : Wp d 267 2 [some (.ref a), l1, l2, l3, l4] st h Q = Wp d 267 3 [some (.ref a), l1, l2, l3, l4] (.ref a :: st) h Q := W_go f267_2 rfl
theorem f267_3 : fetch 267 3 = some (.iload_n 1, 1, [], .null) := by decide +kernel
theorem w267_3 : Wp d 267 3 [l0, some (.int x), l2, l3, l4] st h Q = Wp d 267 4 [l0, some (.int x), l2, l3, l4] (.int x :: st) h Q := W_go f267_3 rfl
theorem f267_4 : fetch 267 4 = some (.iload_n 2, 1, [], .null) := by decide +kernel
theorem w267_4 : Wp d 267 4 [l0, l1, some (.int x), l3, l4] st h Q = Wp d 267 5 [l0, l1, some (.int x), l3, l4] (.int x :: st) h Q := W_go f267_4 rfl
theorem f267_5 : fetch 267 5 = some (.invokevirtual 97, 3, [109, 3, 8, 0, 5156, 1001, 5159, 5157, 5158], .null) := by decide +kernel
theorem w267_5 (hp : psum st ≤ 8) : Wp d 267 5 [l0, l1, l2, l3, l4] (v2 :: v1 :: (.ref b) :: st) h Q = rP (h.2 b) 7 (Cp d 109 [(.ref b), v1, v2] h (fun o => cK o (fun w h2 => Wp d 267 8 [l0, l1, l2, l3, l4] (w.toList ++ st) h2 Q) (fun E h2 => oP (hfind [(0, 10, 13, 28, "java/lang/IndexOutOfBoundsException"), (0, 10, 17, 19, "java/lang/IllegalArgumentException"), (0, 10, 21, 13, "java/lang/IllegalStateException")] 5 E) (fun hp => Wp d 267 hp [l0, l1, l2, l3, l4] [.ref 299] h2 Q)))) := (W_invV (st := st) f267_5 rfl rfl (by simp only [List.length_cons]; omega) rfl rfl hp).trans (by simp only [hm267, reduceCtorEq, if_false])
theorem f267_8 : fetch 267 8 = some (.i2l, 1, [], .null) := by decide +kernel
theorem w267_8 : Wp d 267 8 [l0, l1, l2, l3, l4] (.int x :: st) h Q = Wp d 267 9 [l0, l1, l2, l3, l4] (.long x.toInt64 :: st) h Q := W_go f267_8 rfl
theorem f267_9 : fetch 267 9 = some (.lastore, 1, [], .null) := by decide +kernel
theorem w267_9 : Wp d 267 9 [l0, l1, l2, l3, l4] (.long y8 :: .int x :: .ref a :: st) h Q = lsP (h.2 a) a x y8 (fun c => Wp d 267 10 [l0, l1, l2, l3, l4] st (hset h a c) Q) := W_lst f267_9 rfl
theorem f267_10 : fetch 267 10 = some (.goto 15, 3, [], .null) := by decide +kernel
theorem w267_10 : Wp d 267 10 [l0, l1, l2, l3, l4] st h Q = Wp d 267 25 [l0, l1, l2, l3, l4] st h Q := W_go f267_10 rfl
theorem f267_13 : fetch 267 13 = some (.astore 4, 2, [], .null) := by decide +kernel
theorem w267_13 : Wp d 267 13 [l0, l1, l2, l3, l4] (.ref a :: st) h Q = Wp d 267 15 [l0, l1, l2, kl l3, some (.ref a)] st h Q := (W_st1 (pc' := 15) (k := 4) f267_13 rfl rfl (by simp only [List.length_cons, List.length_nil]; omega)).trans (by rw [pst1_succ]; rfl)
theorem f267_15 : fetch 267 15 = some (.iconst 1, 1, [], .null) := by decide +kernel
theorem w267_15 : Wp d 267 15 [l0, l1, l2, l3, l4] st h Q = Wp d 267 16 [l0, l1, l2, l3, l4] (.int (1 : Int32) :: st) h Q := W_go f267_15 rfl
theorem f267_16 : fetch 267 16 = some (.ireturn, 1, [], .null) := by decide +kernel
theorem w267_16 : Wp d 267 16 [l0, l1, l2, l3, l4] [.int x] h Q = Q (.inl (some (.int x)), h) := W_iret f267_16 hr267
theorem f267_17 : fetch 267 17 = some (.astore 4, 2, [], .null) := by decide +kernel
theorem w267_17 : Wp d 267 17 [l0, l1, l2, l3, l4] (.ref a :: st) h Q = Wp d 267 19 [l0, l1, l2, kl l3, some (.ref a)] st h Q := (W_st1 (pc' := 19) (k := 4) f267_17 rfl rfl (by simp only [List.length_cons, List.length_nil]; omega)).trans (by rw [pst1_succ]; rfl)
theorem f267_19 : fetch 267 19 = some (.iconst 2, 1, [], .null) := by decide +kernel
theorem w267_19 : Wp d 267 19 [l0, l1, l2, l3, l4] st h Q = Wp d 267 20 [l0, l1, l2, l3, l4] (.int (2 : Int32) :: st) h Q := W_go f267_19 rfl
theorem f267_20 : fetch 267 20 = some (.ireturn, 1, [], .null) := by decide +kernel
theorem w267_20 : Wp d 267 20 [l0, l1, l2, l3, l4] [.int x] h Q = Q (.inl (some (.int x)), h) := W_iret f267_20 hr267
theorem f267_21 : fetch 267 21 = some (.astore 4, 2, [], .null) := by decide +kernel
theorem w267_21 : Wp d 267 21 [l0, l1, l2, l3, l4] (.ref a :: st) h Q = Wp d 267 23 [l0, l1, l2, kl l3, some (.ref a)] st h Q := (W_st1 (pc' := 23) (k := 4) f267_21 rfl rfl (by simp only [List.length_cons, List.length_nil]; omega)).trans (by rw [pst1_succ]; rfl)
theorem f267_23 : fetch 267 23 = some (.iconst 3, 1, [], .null) := by decide +kernel
theorem w267_23 : Wp d 267 23 [l0, l1, l2, l3, l4] st h Q = Wp d 267 24 [l0, l1, l2, l3, l4] (.int (3 : Int32) :: st) h Q := W_go f267_23 rfl
theorem f267_24 : fetch 267 24 = some (.ireturn, 1, [], .null) := by decide +kernel
theorem w267_24 : Wp d 267 24 [l0, l1, l2, l3, l4] [.int x] h Q = Q (.inl (some (.int x)), h) := W_iret f267_24 hr267
theorem f267_25 : fetch 267 25 = some (.iconst 0, 1, [], .null) := by decide +kernel
theorem w267_25 : Wp d 267 25 [l0, l1, l2, l3, l4] st h Q = Wp d 267 26 [l0, l1, l2, l3, l4] (.int (0 : Int32) :: st) h Q := W_go f267_25 rfl
theorem f267_26 : fetch 267 26 = some (.ireturn, 1, [], .null) := by decide +kernel
theorem w267_26 : Wp d 267 26 [l0, l1, l2, l3, l4] [.int x] h Q = Q (.inl (some (.int x)), h) := W_iret f267_26 hr267
theorem hm268 : mhs 268 = [] := by decide +kernel
theorem hr268 : mret 268 = (some .boolean) := by decide +kernel
theorem f268_0 : fetch 268 0 = some (.new 8, 3, [7, 1025, 1026, 1001], .null) := by decide +kernel
theorem w268_0 : Wp d 268 0 [l0, l1, l2, l3, l4, l5, l6, l7, l8] st h Q = Wp d 268 3 [l0, l1, l2, l3, l4, l5, l6, l7, l8] (.ref h.1.1 :: st) (hnew h (pdef 7).length (.inr (7, pdef 7))) Q := W_go f268_0 rfl
theorem f268_3 : fetch 268 3 = some (.dup, 1, [], .null) := by decide +kernel
theorem w268_3i : Wp d 268 3 [l0, l1, l2, l3, l4, l5, l6, l7, l8] (.int x :: st) h Q = Wp d 268 4 [l0, l1, l2, l3, l4, l5, l6, l7, l8] (.int x :: .int x :: st) h Q := W_go f268_3 rfl
theorem w268_3 : Wp d 268 3 [l0, l1, l2, l3, l4, l5, l6, l7, l8] (.ref a :: st) h Q = Wp d 268 4 [l0, l1, l2, l3, l4, l5, l6, l7, l8] (.ref a :: .ref a :: st) h Q := W_go f268_3 rfl
theorem f268_4 : fetch 268 4 = some (.invokespecial 100, 3, [68, 1, 0, 0, 1027, 1001, 1029, 1028], .null) := by decide +kernel
theorem w268_4 (hp : psum st ≤ 8) (hb : b ≠ 201) : Wp d 268 4 [l0, l1, l2, l3, l4, l5, l6, l7, l8] ((.ref b) :: st) h Q = Cp d 68 [(.ref b)] h (fun o => cK o (fun w h2 => Wp d 268 7 [l0, l1, l2, l3, l4, l5, l6, l7, l8] (w.toList ++ st) h2 Q) (fun _ _ => False)) := (W_invI (st := st) f268_4 rfl rfl (by simp only [List.length_cons]; omega) rfl rfl hp hb)
theorem f268_7 : fetch 268 7 = some (.astore_n 1, 1, [], .null) := by decide +kernel
theorem w268_7 : Wp d 268 7 [l0, l1, l2, l3, l4, l5, l6, l7, l8] (.ref a :: st) h Q = Wp d 268 8 [kl l0, some (.ref a), l2, l3, l4, l5, l6, l7, l8] st h Q := (W_st1 (pc' := 8) (k := 1) f268_7 rfl rfl (by simp only [List.length_cons, List.length_nil]; omega)).trans (by rw [pst1_succ]; rfl)
theorem f268_8 : fetch 268 8 = some (.new 101, 3, [10, 5161, 5162, 1013], .null) := by decide +kernel
theorem w268_8 : Wp d 268 8 [l0, l1, l2, l3, l4, l5, l6, l7, l8] st h Q = Wp d 268 11 [l0, l1, l2, l3, l4, l5, l6, l7, l8] (.ref h.1.1 :: st) (hnew h (pdef 10).length (.inr (10, pdef 10))) Q := W_go f268_8 rfl
theorem f268_11 : fetch 268 11 = some (.dup, 1, [], .null) := by decide +kernel
theorem w268_11i : Wp d 268 11 [l0, l1, l2, l3, l4, l5, l6, l7, l8] (.int x :: st) h Q = Wp d 268 12 [l0, l1, l2, l3, l4, l5, l6, l7, l8] (.int x :: .int x :: st) h Q := W_go f268_11 rfl
theorem w268_11 : Wp d 268 11 [l0, l1, l2, l3, l4, l5, l6, l7, l8] (.ref a :: st) h Q = Wp d 268 12 [l0, l1, l2, l3, l4, l5, l6, l7, l8] (.ref a :: .ref a :: st) h Q := W_go f268_11 rfl
theorem f268_12 : fetch 268 12 = some (.invokespecial 103, 3, [144, 1, 0, 0, 5163, 1013, 5165, 5164], .null) := by decide +kernel
theorem w268_12 (hp : psum st ≤ 8) (hb : b ≠ 201) : Wp d 268 12 [l0, l1, l2, l3, l4, l5, l6, l7, l8] ((.ref b) :: st) h Q = Cp d 144 [(.ref b)] h (fun o => cK o (fun w h2 => Wp d 268 15 [l0, l1, l2, l3, l4, l5, l6, l7, l8] (w.toList ++ st) h2 Q) (fun _ _ => False)) := (W_invI (st := st) f268_12 rfl rfl (by simp only [List.length_cons]; omega) rfl rfl hp hb)
theorem f268_15 : fetch 268 15 = some (.astore_n 2, 1, [], .null) := by decide +kernel
theorem w268_15 : Wp d 268 15 [l0, l1, l2, l3, l4, l5, l6, l7, l8] (.ref a :: st) h Q = Wp d 268 16 [l0, kl l1, some (.ref a), l3, l4, l5, l6, l7, l8] st h Q := (W_st1 (pc' := 16) (k := 2) f268_15 rfl rfl (by simp only [List.length_cons, List.length_nil]; omega)).trans (by rw [pst1_succ]; rfl)
theorem f268_16 : fetch 268 16 = some (.iconst 1, 1, [], .null) := by decide +kernel
theorem w268_16 : Wp d 268 16 [l0, l1, l2, l3, l4, l5, l6, l7, l8] st h Q = Wp d 268 17 [l0, l1, l2, l3, l4, l5, l6, l7, l8] (.int (1 : Int32) :: st) h Q := W_go f268_16 rfl
theorem f268_17 : fetch 268 17 = some (.newarray .long, 2, [1, 1224], .null) := by decide +kernel
theorem w268_17 (hx : ¬ x < 0 ∧ x.toNatClampNeg ≤ 60000) : Wp d 268 17 [l0, l1, l2, l3, l4, l5, l6, l7, l8] (.int x :: st) h Q = Wp d 268 19 [l0, l1, l2, l3, l4, l5, l6, l7, l8] (.ref h.1.1 :: st) (hnew h x.toNatClampNeg (.inl (1, arr0 1 x.toNatClampNeg))) Q := W_go f268_17 (by simp only [pstep, pnewa, if_pos hx]; rfl)
theorem f268_19 : fetch 268 19 = some (.astore_n 3, 1, [], .null) := by decide +kernel
theorem w268_19 : Wp d 268 19 [l0, l1, l2, l3, l4, l5, l6, l7, l8] (.ref a :: st) h Q = Wp d 268 20 [l0, l1, kl l2, some (.ref a), l4, l5, l6, l7, l8] st h Q := (W_st1 (pc' := 20) (k := 3) f268_19 rfl rfl (by simp only [List.length_cons, List.length_nil]; omega)).trans (by rw [pst1_succ]; rfl)
theorem f268_20 : fetch 268 20 = some (.iconst 0, 1, [], .null) := by decide +kernel
theorem w268_20 : Wp d 268 20 [l0, l1, l2, l3, l4, l5, l6, l7, l8] st h Q = Wp d 268 21 [l0, l1, l2, l3, l4, l5, l6, l7, l8] (.int (0 : Int32) :: st) h Q := W_go f268_20 rfl
theorem f268_21 : fetch 268 21 = some (.istore 4, 2, [], .null) := by decide +kernel
theorem w268_21 : Wp d 268 21 [l0, l1, l2, l3, l4, l5, l6, l7, l8] (.int x :: st) h Q = Wp d 268 23 [l0, l1, l2, kl l3, some (.int x), l5, l6, l7, l8] st h Q := (W_st1 (pc' := 23) (k := 4) f268_21 rfl rfl (by simp only [List.length_cons, List.length_nil]; omega)).trans (by rw [pst1_succ]; rfl)
theorem f268_23 : fetch 268 23 = some (.iload 4, 2, [], .null) := by decide +kernel
theorem w268_23 : Wp d 268 23 [l0, l1, l2, l3, some (.int x), l5, l6, l7, l8] st h Q = Wp d 268 25 [l0, l1, l2, l3, some (.int x), l5, l6, l7, l8] (.int x :: st) h Q := W_go f268_23 rfl
theorem f268_25 : fetch 268 25 = some (.aload_n 0, 1, [], .null) := by decide +kernel
theorem w268_25 : Wp d 268 25 [some (.ref a), l1, l2, l3, l4, l5, l6, l7, l8] st h Q = Wp d 268 26 [some (.ref a), l1, l2, l3, l4, l5, l6, l7, l8] (.ref a :: st) h Q := W_go f268_25 rfl
theorem f268_26 : fetch 268 26 = some (.arraylength, 1, [], .null) := by decide +kernel
theorem w268_26 : Wp d 268 26 [l0, l1, l2, l3, l4, l5, l6, l7, l8] (.ref a :: st) h Q = nP (h.2 a) (fun w => Wp d 268 27 [l0, l1, l2, l3, l4, l5, l6, l7, l8] (.int w :: st) h Q) := W_len f268_26 rfl
theorem f268_27 : fetch 268 27 = some (.bipush 6, 2, [], .null) := by decide +kernel
theorem w268_27 : Wp d 268 27 [l0, l1, l2, l3, l4, l5, l6, l7, l8] st h Q = Wp d 268 29 [l0, l1, l2, l3, l4, l5, l6, l7, l8] (.int (6 : Int32) :: st) h Q := W_go f268_27 rfl
theorem f268_29 : fetch 268 29 = some (.isub, 1, [], .null) := by decide +kernel
theorem w268_29 : Wp d 268 29 [l0, l1, l2, l3, l4, l5, l6, l7, l8] (.int y :: .int x :: st) h Q = Wp d 268 30 [l0, l1, l2, l3, l4, l5, l6, l7, l8] (.int (x - y) :: st) h Q := W_go f268_29 rfl
theorem f268_30 : fetch 268 30 = some (.if_icmp .gt 2112, 3, [], .null) := by decide +kernel
theorem w268_30 : Wp d 268 30 [l0, l1, l2, l3, l4, l5, l6, l7, l8] (.int y :: .int x :: st) h Q = if icond .gt x y = true then Wp d 268 2142 [l0, l1, l2, l3, l4, l5, l6, l7, l8] st h Q else Wp d 268 33 [l0, l1, l2, l3, l4, l5, l6, l7, l8] st h Q := W_if f268_30 rfl
theorem f268_33 : fetch 268 33 = some (.aload_n 0, 1, [], .null) := by decide +kernel
theorem w268_33 : Wp d 268 33 [some (.ref a), l1, l2, l3, l4, l5, l6, l7, l8] st h Q = Wp d 268 34 [some (.ref a), l1, l2, l3, l4, l5, l6, l7, l8] (.ref a :: st) h Q := W_go f268_33 rfl
theorem f268_34 : fetch 268 34 = some (.iload 4, 2, [], .null) := by decide +kernel
theorem w268_34 : Wp d 268 34 [l0, l1, l2, l3, some (.int x), l5, l6, l7, l8] st h Q = Wp d 268 36 [l0, l1, l2, l3, some (.int x), l5, l6, l7, l8] (.int x :: st) h Q := W_go f268_34 rfl
theorem f268_36 : fetch 268 36 = some (.iaload, 1, [], .null) := by decide +kernel
theorem w268_36 : Wp d 268 36 [l0, l1, l2, l3, l4, l5, l6, l7, l8] (.int x :: .ref a :: st) h Q = aP false (h.2 a) x (fun w => Wp d 268 37 [l0, l1, l2, l3, l4, l5, l6, l7, l8] (.int w :: st) h Q) := W_ald f268_36 rfl
theorem f268_37 : fetch 268 37 = some (.bipush 63, 2, [], .null) := by decide +kernel
theorem w268_37 : Wp d 268 37 [l0, l1, l2, l3, l4, l5, l6, l7, l8] st h Q = Wp d 268 39 [l0, l1, l2, l3, l4, l5, l6, l7, l8] (.int (63 : Int32) :: st) h Q := W_go f268_37 rfl
theorem f268_39 : fetch 268 39 = some (.iand, 1, [], .null) := by decide +kernel
theorem w268_39 : Wp d 268 39 [l0, l1, l2, l3, l4, l5, l6, l7, l8] (.int y :: .int x :: st) h Q = Wp d 268 40 [l0, l1, l2, l3, l4, l5, l6, l7, l8] (.int (x &&& y) :: st) h Q := W_go f268_39 rfl
theorem f268_40 : fetch 268 40 = some (.tableswitch 2096 0 42 #[188, 292, 348, 361, 374, 430, 498, 539, 602, 665, 733, 789, 845, 901, 914, 927, 940, 996, 1052, 1108, 1164, 1227, 1283, 1296, 1309, 1322, 1335, 1348, 1361, 1374, 1430, 1486, 1549, 1605, 1668, 1724, 1780, 1848, 1904, 1960, 1973, 2041, 2082], 188, [], .null) := by decide +kernel
theorem w268_40 : Wp d 268 40 [l0, l1, l2, l3, l4, l5, l6, l7, l8] (.int x :: st) h Q = Wp d 268 (ptable 40 2096 0 42 #[188, 292, 348, 361, 374, 430, 498, 539, 602, 665, 733, 789, 845, 901, 914, 927, 940, 996, 1052, 1108, 1164, 1227, 1283, 1296, 1309, 1322, 1335, 1348, 1361, 1374, 1430, 1486, 1549, 1605, 1668, 1724, 1780, 1848, 1904, 1960, 1973, 2041, 2082] x) [l0, l1, l2, l3, l4, l5, l6, l7, l8] st h Q := W_go f268_40 rfl
theorem f268_228 : fetch 268 228 = some (.aload_n 1, 1, [], .null) := by decide +kernel
theorem w268_228 : Wp d 268 228 [l0, some (.ref a), l2, l3, l4, l5, l6, l7, l8] st h Q = Wp d 268 229 [l0, some (.ref a), l2, l3, l4, l5, l6, l7, l8] (.ref a :: st) h Q := W_go f268_228 rfl
theorem f268_229 : fetch 268 229 = some (.aload_n 0, 1, [], .null) := by decide +kernel
theorem w268_229 : Wp d 268 229 [some (.ref a), l1, l2, l3, l4, l5, l6, l7, l8] st h Q = Wp d 268 230 [some (.ref a), l1, l2, l3, l4, l5, l6, l7, l8] (.ref a :: st) h Q := W_go f268_229 rfl
theorem f268_230 : fetch 268 230 = some (.iload 4, 2, [], .null) := by decide +kernel
theorem w268_230 : Wp d 268 230 [l0, l1, l2, l3, some (.int x), l5, l6, l7, l8] st h Q = Wp d 268 232 [l0, l1, l2, l3, some (.int x), l5, l6, l7, l8] (.int x :: st) h Q := W_go f268_230 rfl
theorem f268_232 : fetch 268 232 = some (.iconst 1, 1, [], .null) := by decide +kernel
theorem w268_232 : Wp d 268 232 [l0, l1, l2, l3, l4, l5, l6, l7, l8] st h Q = Wp d 268 233 [l0, l1, l2, l3, l4, l5, l6, l7, l8] (.int (1 : Int32) :: st) h Q := W_go f268_232 rfl
theorem f268_233 : fetch 268 233 = some (.iadd, 1, [], .null) := by decide +kernel
theorem w268_233 : Wp d 268 233 [l0, l1, l2, l3, l4, l5, l6, l7, l8] (.int y :: .int x :: st) h Q = Wp d 268 234 [l0, l1, l2, l3, l4, l5, l6, l7, l8] (.int (x + y) :: st) h Q := W_go f268_233 rfl
theorem f268_234 : fetch 268 234 = some (.iaload, 1, [], .null) := by decide +kernel
theorem w268_234 : Wp d 268 234 [l0, l1, l2, l3, l4, l5, l6, l7, l8] (.int x :: .ref a :: st) h Q = aP false (h.2 a) x (fun w => Wp d 268 235 [l0, l1, l2, l3, l4, l5, l6, l7, l8] (.int w :: st) h Q) := W_ald f268_234 rfl
theorem f268_235 : fetch 268 235 = some (.aload_n 0, 1, [], .null) := by decide +kernel
theorem w268_235 : Wp d 268 235 [some (.ref a), l1, l2, l3, l4, l5, l6, l7, l8] st h Q = Wp d 268 236 [some (.ref a), l1, l2, l3, l4, l5, l6, l7, l8] (.ref a :: st) h Q := W_go f268_235 rfl
theorem f268_236 : fetch 268 236 = some (.iload 4, 2, [], .null) := by decide +kernel
theorem w268_236 : Wp d 268 236 [l0, l1, l2, l3, some (.int x), l5, l6, l7, l8] st h Q = Wp d 268 238 [l0, l1, l2, l3, some (.int x), l5, l6, l7, l8] (.int x :: st) h Q := W_go f268_236 rfl
theorem f268_238 : fetch 268 238 = some (.iconst 2, 1, [], .null) := by decide +kernel
theorem w268_238 : Wp d 268 238 [l0, l1, l2, l3, l4, l5, l6, l7, l8] st h Q = Wp d 268 239 [l0, l1, l2, l3, l4, l5, l6, l7, l8] (.int (2 : Int32) :: st) h Q := W_go f268_238 rfl
theorem f268_239 : fetch 268 239 = some (.iadd, 1, [], .null) := by decide +kernel
theorem w268_239 : Wp d 268 239 [l0, l1, l2, l3, l4, l5, l6, l7, l8] (.int y :: .int x :: st) h Q = Wp d 268 240 [l0, l1, l2, l3, l4, l5, l6, l7, l8] (.int (x + y) :: st) h Q := W_go f268_239 rfl
theorem f268_240 : fetch 268 240 = some (.iaload, 1, [], .null) := by decide +kernel
theorem w268_240 : Wp d 268 240 [l0, l1, l2, l3, l4, l5, l6, l7, l8] (.int x :: .ref a :: st) h Q = aP false (h.2 a) x (fun w => Wp d 268 241 [l0, l1, l2, l3, l4, l5, l6, l7, l8] (.int w :: st) h Q) := W_ald f268_240 rfl
theorem f268_241 : fetch 268 241 = some (.aload_n 0, 1, [], .null) := by decide +kernel
theorem w268_241 : Wp d 268 241 [some (.ref a), l1, l2, l3, l4, l5, l6, l7, l8] st h Q = Wp d 268 242 [some (.ref a), l1, l2, l3, l4, l5, l6, l7, l8] (.ref a :: st) h Q := W_go f268_241 rfl
theorem f268_242 : fetch 268 242 = some (.iload 4, 2, [], .null) := by decide +kernel
theorem w268_242 : Wp d 268 242 [l0, l1, l2, l3, some (.int x), l5, l6, l7, l8] st h Q = Wp d 268 244 [l0, l1, l2, l3, some (.int x), l5, l6, l7, l8] (.int x :: st) h Q := W_go f268_242 rfl
theorem f268_244 : fetch 268 244 = some (.iconst 3, 1, [], .null) := by decide +kernel
theorem w268_244 : Wp d 268 244 [l0, l1, l2, l3, l4, l5, l6, l7, l8] st h Q = Wp d 268 245 [l0, l1, l2, l3, l4, l5, l6, l7, l8] (.int (3 : Int32) :: st) h Q := W_go f268_244 rfl
theorem f268_245 : fetch 268 245 = some (.iadd, 1, [], .null) := by decide +kernel
theorem w268_245 : Wp d 268 245 [l0, l1, l2, l3, l4, l5, l6, l7, l8] (.int y :: .int x :: st) h Q = Wp d 268 246 [l0, l1, l2, l3, l4, l5, l6, l7, l8] (.int (x + y) :: st) h Q := W_go f268_245 rfl
theorem f268_246 : fetch 268 246 = some (.iaload, 1, [], .null) := by decide +kernel
theorem w268_246 : Wp d 268 246 [l0, l1, l2, l3, l4, l5, l6, l7, l8] (.int x :: .ref a :: st) h Q = aP false (h.2 a) x (fun w => Wp d 268 247 [l0, l1, l2, l3, l4, l5, l6, l7, l8] (.int w :: st) h Q) := W_ald f268_246 rfl
theorem f268_247 : fetch 268 247 = some (.aload_n 0, 1, [], .null) := by decide +kernel
theorem w268_247 : Wp d 268 247 [some (.ref a), l1, l2, l3, l4, l5, l6, l7, l8] st h Q = Wp d 268 248 [some (.ref a), l1, l2, l3, l4, l5, l6, l7, l8] (.ref a :: st) h Q := W_go f268_247 rfl
theorem f268_248 : fetch 268 248 = some (.iload 4, 2, [], .null) := by decide +kernel
theorem w268_248 : Wp d 268 248 [l0, l1, l2, l3, some (.int x), l5, l6, l7, l8] st h Q = Wp d 268 250 [l0, l1, l2, l3, some (.int x), l5, l6, l7, l8] (.int x :: st) h Q := W_go f268_248 rfl
theorem f268_250 : fetch 268 250 = some (.iconst 4, 1, [], .null) := by decide +kernel
theorem w268_250 : Wp d 268 250 [l0, l1, l2, l3, l4, l5, l6, l7, l8] st h Q = Wp d 268 251 [l0, l1, l2, l3, l4, l5, l6, l7, l8] (.int (4 : Int32) :: st) h Q := W_go f268_250 rfl
theorem f268_251 : fetch 268 251 = some (.iadd, 1, [], .null) := by decide +kernel
theorem w268_251 : Wp d 268 251 [l0, l1, l2, l3, l4, l5, l6, l7, l8] (.int y :: .int x :: st) h Q = Wp d 268 252 [l0, l1, l2, l3, l4, l5, l6, l7, l8] (.int (x + y) :: st) h Q := W_go f268_251 rfl
theorem f268_252 : fetch 268 252 = some (.iaload, 1, [], .null) := by decide +kernel
theorem w268_252 : Wp d 268 252 [l0, l1, l2, l3, l4, l5, l6, l7, l8] (.int x :: .ref a :: st) h Q = aP false (h.2 a) x (fun w => Wp d 268 253 [l0, l1, l2, l3, l4, l5, l6, l7, l8] (.int w :: st) h Q) := W_ald f268_252 rfl
theorem f268_253 : fetch 268 253 = some (.aload_n 0, 1, [], .null) := by decide +kernel
theorem w268_253 : Wp d 268 253 [some (.ref a), l1, l2, l3, l4, l5, l6, l7, l8] st h Q = Wp d 268 254 [some (.ref a), l1, l2, l3, l4, l5, l6, l7, l8] (.ref a :: st) h Q := W_go f268_253 rfl
theorem f268_254 : fetch 268 254 = some (.iload 4, 2, [], .null) := by decide +kernel
theorem w268_254 : Wp d 268 254 [l0, l1, l2, l3, some (.int x), l5, l6, l7, l8] st h Q = Wp d 268 256 [l0, l1, l2, l3, some (.int x), l5, l6, l7, l8] (.int x :: st) h Q := W_go f268_254 rfl
theorem f268_256 : fetch 268 256 = some (.iconst 5, 1, [], .null) := by decide +kernel
theorem w268_256 : Wp d 268 256 [l0, l1, l2, l3, l4, l5, l6, l7, l8] st h Q = Wp d 268 257 [l0, l1, l2, l3, l4, l5, l6, l7, l8] (.int (5 : Int32) :: st) h Q := W_go f268_256 rfl
theorem f268_257 : fetch 268 257 = some (.iadd, 1, [], .null) := by decide +kernel
theorem w268_257 : Wp d 268 257 [l0, l1, l2, l3, l4, l5, l6, l7, l8] (.int y :: .int x :: st) h Q = Wp d 268 258 [l0, l1, l2, l3, l4, l5, l6, l7, l8] (.int (x + y) :: st) h Q := W_go f268_257 rfl
theorem f268_258 : fetch 268 258 = some (.iaload, 1, [], .null) := by decide +kernel
theorem w268_258 : Wp d 268 258 [l0, l1, l2, l3, l4, l5, l6, l7, l8] (.int x :: .ref a :: st) h Q = aP false (h.2 a) x (fun w => Wp d 268 259 [l0, l1, l2, l3, l4, l5, l6, l7, l8] (.int w :: st) h Q) := W_ald f268_258 rfl
theorem f268_259 : fetch 268 259 = some (.aload_n 3, 1, [], .null) := by decide +kernel
theorem w268_259 : Wp d 268 259 [l0, l1, l2, some (.ref a), l4, l5, l6, l7, l8] st h Q = Wp d 268 260 [l0, l1, l2, some (.ref a), l4, l5, l6, l7, l8] (.ref a :: st) h Q := W_go f268_259 rfl
theorem f268_260 : fetch 268 260 = some (.invokestatic 104, 3, [241, 7, 0, 0, 3224, 1000, 3226, 3225], .null) := by decide +kernel
theorem w268_260 (hp : psum st ≤ 8) : Wp d 268 260 [l0, l1, l2, l3, l4, l5, l6, l7, l8] (v6 :: v5 :: v4 :: v3 :: v2 :: v1 :: v0 :: st) h Q = Cp d 241 [v0, v1, v2, v3, v4, v5, v6] h (fun o => cK o (fun w h2 => Wp d 268 263 [l0, l1, l2, l3, l4, l5, l6, l7, l8] (w.toList ++ st) h2 Q) (fun _ _ => False)) := (W_invS (st := st) f268_260 rfl rfl (by simp only [List.length_cons]; omega) rfl rfl hp)
theorem f268_263 : fetch 268 263 = some (.istore 5, 2, [], .null) := by decide +kernel
theorem w268_263 : Wp d 268 263 [l0, l1, l2, l3, l4, l5, l6, l7, l8] (.int x :: st) h Q = Wp d 268 265 [l0, l1, l2, l3, kl l4, some (.int x), l6, l7, l8] st h Q := (W_st1 (pc' := 265) (k := 5) f268_263 rfl rfl (by simp only [List.length_cons, List.length_nil]; omega)).trans (by rw [pst1_succ]; rfl)
theorem f268_265 : fetch 268 265 = some (.aload_n 2, 1, [], .null) := by decide +kernel
theorem w268_265 : Wp d 268 265 [l0, l1, some (.ref a), l3, l4, l5, l6, l7, l8] st h Q = Wp d 268 266 [l0, l1, some (.ref a), l3, l4, l5, l6, l7, l8] (.ref a :: st) h Q := W_go f268_265 rfl
theorem f268_266 : fetch 268 266 = some (.aload_n 0, 1, [], .null) := by decide +kernel
theorem w268_266 : Wp d 268 266 [some (.ref a), l1, l2, l3, l4, l5, l6, l7, l8] st h Q = Wp d 268 267 [some (.ref a), l1, l2, l3, l4, l5, l6, l7, l8] (.ref a :: st) h Q := W_go f268_266 rfl
theorem f268_267 : fetch 268 267 = some (.iload 4, 2, [], .null) := by decide +kernel
theorem w268_267 : Wp d 268 267 [l0, l1, l2, l3, some (.int x), l5, l6, l7, l8] st h Q = Wp d 268 269 [l0, l1, l2, l3, some (.int x), l5, l6, l7, l8] (.int x :: st) h Q := W_go f268_267 rfl
theorem f268_269 : fetch 268 269 = some (.iconst 1, 1, [], .null) := by decide +kernel
theorem w268_269 : Wp d 268 269 [l0, l1, l2, l3, l4, l5, l6, l7, l8] st h Q = Wp d 268 270 [l0, l1, l2, l3, l4, l5, l6, l7, l8] (.int (1 : Int32) :: st) h Q := W_go f268_269 rfl
theorem f268_270 : fetch 268 270 = some (.iadd, 1, [], .null) := by decide +kernel
theorem w268_270 : Wp d 268 270 [l0, l1, l2, l3, l4, l5, l6, l7, l8] (.int y :: .int x :: st) h Q = Wp d 268 271 [l0, l1, l2, l3, l4, l5, l6, l7, l8] (.int (x + y) :: st) h Q := W_go f268_270 rfl
theorem f268_271 : fetch 268 271 = some (.iaload, 1, [], .null) := by decide +kernel
theorem w268_271 : Wp d 268 271 [l0, l1, l2, l3, l4, l5, l6, l7, l8] (.int x :: .ref a :: st) h Q = aP false (h.2 a) x (fun w => Wp d 268 272 [l0, l1, l2, l3, l4, l5, l6, l7, l8] (.int w :: st) h Q) := W_ald f268_271 rfl
theorem f268_272 : fetch 268 272 = some (.aload_n 0, 1, [], .null) := by decide +kernel
theorem w268_272 : Wp d 268 272 [some (.ref a), l1, l2, l3, l4, l5, l6, l7, l8] st h Q = Wp d 268 273 [some (.ref a), l1, l2, l3, l4, l5, l6, l7, l8] (.ref a :: st) h Q := W_go f268_272 rfl
theorem f268_273 : fetch 268 273 = some (.iload 4, 2, [], .null) := by decide +kernel
theorem w268_273 : Wp d 268 273 [l0, l1, l2, l3, some (.int x), l5, l6, l7, l8] st h Q = Wp d 268 275 [l0, l1, l2, l3, some (.int x), l5, l6, l7, l8] (.int x :: st) h Q := W_go f268_273 rfl
theorem f268_275 : fetch 268 275 = some (.iconst 2, 1, [], .null) := by decide +kernel
theorem w268_275 : Wp d 268 275 [l0, l1, l2, l3, l4, l5, l6, l7, l8] st h Q = Wp d 268 276 [l0, l1, l2, l3, l4, l5, l6, l7, l8] (.int (2 : Int32) :: st) h Q := W_go f268_275 rfl
theorem f268_276 : fetch 268 276 = some (.iadd, 1, [], .null) := by decide +kernel
theorem w268_276 : Wp d 268 276 [l0, l1, l2, l3, l4, l5, l6, l7, l8] (.int y :: .int x :: st) h Q = Wp d 268 277 [l0, l1, l2, l3, l4, l5, l6, l7, l8] (.int (x + y) :: st) h Q := W_go f268_276 rfl
theorem f268_277 : fetch 268 277 = some (.iaload, 1, [], .null) := by decide +kernel
theorem w268_277 : Wp d 268 277 [l0, l1, l2, l3, l4, l5, l6, l7, l8] (.int x :: .ref a :: st) h Q = aP false (h.2 a) x (fun w => Wp d 268 278 [l0, l1, l2, l3, l4, l5, l6, l7, l8] (.int w :: st) h Q) := W_ald f268_277 rfl
theorem f268_278 : fetch 268 278 = some (.aload_n 0, 1, [], .null) := by decide +kernel
theorem w268_278 : Wp d 268 278 [some (.ref a), l1, l2, l3, l4, l5, l6, l7, l8] st h Q = Wp d 268 279 [some (.ref a), l1, l2, l3, l4, l5, l6, l7, l8] (.ref a :: st) h Q := W_go f268_278 rfl
theorem f268_279 : fetch 268 279 = some (.iload 4, 2, [], .null) := by decide +kernel
theorem w268_279 : Wp d 268 279 [l0, l1, l2, l3, some (.int x), l5, l6, l7, l8] st h Q = Wp d 268 281 [l0, l1, l2, l3, some (.int x), l5, l6, l7, l8] (.int x :: st) h Q := W_go f268_279 rfl
theorem f268_281 : fetch 268 281 = some (.iconst 3, 1, [], .null) := by decide +kernel
theorem w268_281 : Wp d 268 281 [l0, l1, l2, l3, l4, l5, l6, l7, l8] st h Q = Wp d 268 282 [l0, l1, l2, l3, l4, l5, l6, l7, l8] (.int (3 : Int32) :: st) h Q := W_go f268_281 rfl
theorem f268_282 : fetch 268 282 = some (.iadd, 1, [], .null) := by decide +kernel
theorem w268_282 : Wp d 268 282 [l0, l1, l2, l3, l4, l5, l6, l7, l8] (.int y :: .int x :: st) h Q = Wp d 268 283 [l0, l1, l2, l3, l4, l5, l6, l7, l8] (.int (x + y) :: st) h Q := W_go f268_282 rfl
theorem f268_283 : fetch 268 283 = some (.iaload, 1, [], .null) := by decide +kernel
theorem w268_283 : Wp d 268 283 [l0, l1, l2, l3, l4, l5, l6, l7, l8] (.int x :: .ref a :: st) h Q = aP false (h.2 a) x (fun w => Wp d 268 284 [l0, l1, l2, l3, l4, l5, l6, l7, l8] (.int w :: st) h Q) := W_ald f268_283 rfl
theorem f268_284 : fetch 268 284 = some (.aload_n 0, 1, [], .null) := by decide +kernel
theorem w268_284 : Wp d 268 284 [some (.ref a), l1, l2, l3, l4, l5, l6, l7, l8] st h Q = Wp d 268 285 [some (.ref a), l1, l2, l3, l4, l5, l6, l7, l8] (.ref a :: st) h Q := W_go f268_284 rfl
theorem f268_285 : fetch 268 285 = some (.iload 4, 2, [], .null) := by decide +kernel
theorem w268_285 : Wp d 268 285 [l0, l1, l2, l3, some (.int x), l5, l6, l7, l8] st h Q = Wp d 268 287 [l0, l1, l2, l3, some (.int x), l5, l6, l7, l8] (.int x :: st) h Q := W_go f268_285 rfl
theorem f268_287 : fetch 268 287 = some (.iconst 4, 1, [], .null) := by decide +kernel
theorem w268_287 : Wp d 268 287 [l0, l1, l2, l3, l4, l5, l6, l7, l8] st h Q = Wp d 268 288 [l0, l1, l2, l3, l4, l5, l6, l7, l8] (.int (4 : Int32) :: st) h Q := W_go f268_287 rfl
theorem f268_288 : fetch 268 288 = some (.iadd, 1, [], .null) := by decide +kernel
theorem w268_288 : Wp d 268 288 [l0, l1, l2, l3, l4, l5, l6, l7, l8] (.int y :: .int x :: st) h Q = Wp d 268 289 [l0, l1, l2, l3, l4, l5, l6, l7, l8] (.int (x + y) :: st) h Q := W_go f268_288 rfl
theorem f268_289 : fetch 268 289 = some (.iaload, 1, [], .null) := by decide +kernel
theorem w268_289 : Wp d 268 289 [l0, l1, l2, l3, l4, l5, l6, l7, l8] (.int x :: .ref a :: st) h Q = aP false (h.2 a) x (fun w => Wp d 268 290 [l0, l1, l2, l3, l4, l5, l6, l7, l8] (.int w :: st) h Q) := W_ald f268_289 rfl
theorem f268_290 : fetch 268 290 = some (.aload_n 0, 1, [], .null) := by decide +kernel
theorem w268_290 : Wp d 268 290 [some (.ref a), l1, l2, l3, l4, l5, l6, l7, l8] st h Q = Wp d 268 291 [some (.ref a), l1, l2, l3, l4, l5, l6, l7, l8] (.ref a :: st) h Q := W_go f268_290 rfl
theorem f268_291 : fetch 268 291 = some (.iload 4, 2, [], .null) := by decide +kernel
theorem w268_291 : Wp d 268 291 [l0, l1, l2, l3, some (.int x), l5, l6, l7, l8] st h Q = Wp d 268 293 [l0, l1, l2, l3, some (.int x), l5, l6, l7, l8] (.int x :: st) h Q := W_go f268_291 rfl
theorem f268_293 : fetch 268 293 = some (.iconst 5, 1, [], .null) := by decide +kernel
theorem w268_293 : Wp d 268 293 [l0, l1, l2, l3, l4, l5, l6, l7, l8] st h Q = Wp d 268 294 [l0, l1, l2, l3, l4, l5, l6, l7, l8] (.int (5 : Int32) :: st) h Q := W_go f268_293 rfl
theorem f268_294 : fetch 268 294 = some (.iadd, 1, [], .null) := by decide +kernel
theorem w268_294 : Wp d 268 294 [l0, l1, l2, l3, l4, l5, l6, l7, l8] (.int y :: .int x :: st) h Q = Wp d 268 295 [l0, l1, l2, l3, l4, l5, l6, l7, l8] (.int (x + y) :: st) h Q := W_go f268_294 rfl
theorem f268_295 : fetch 268 295 = some (.iaload, 1, [], .null) := by decide +kernel
theorem w268_295 : Wp d 268 295 [l0, l1, l2, l3, l4, l5, l6, l7, l8] (.int x :: .ref a :: st) h Q = aP false (h.2 a) x (fun w => Wp d 268 296 [l0, l1, l2, l3, l4, l5, l6, l7, l8] (.int w :: st) h Q) := W_ald f268_295 rfl
theorem f268_296 : fetch 268 296 = some (.invokevirtual 109, 3, [181, 6, 11, 0, 6187, 1013, 6190, 6188, 6189], .null) := by decide +kernel
theorem w268_296 (hp : psum st ≤ 8) : Wp d 268 296 [l0, l1, l2, l3, l4, l5, l6, l7, l8] (v5 :: v4 :: v3 :: v2 :: v1 :: (.ref b) :: st) h Q = rP (h.2 b) 10 (Cp d 181 [(.ref b), v1, v2, v3, v4, v5] h (fun o => cK o (fun w h2 => Wp d 268 299 [l0, l1, l2, l3, l4, l5, l6, l7, l8] (w.toList ++ st) h2 Q) (fun E h2 => Q (.inr E, h2)))) := (W_invV (st := st) f268_296 rfl rfl (by simp only [List.length_cons]; omega) rfl rfl hp).trans (by simp only [hm268, if_true])
theorem f268_299 : fetch 268 299 = some (.istore 6, 2, [], .null) := by decide +kernel
theorem w268_299 : Wp d 268 299 [l0, l1, l2, l3, l4, l5, l6, l7, l8] (.int x :: st) h Q = Wp d 268 301 [l0, l1, l2, l3, l4, kl l5, some (.int x), l7, l8] st h Q := (W_st1 (pc' := 301) (k := 6) f268_299 rfl rfl (by simp only [List.length_cons, List.length_nil]; omega)).trans (by rw [pst1_succ]; rfl)
theorem f268_301 : fetch 268 301 = some (.aload_n 2, 1, [], .null) := by decide +kernel
theorem w268_301 : Wp d 268 301 [l0, l1, some (.ref a), l3, l4, l5, l6, l7, l8] st h Q = Wp d 268 302 [l0, l1, some (.ref a), l3, l4, l5, l6, l7, l8] (.ref a :: st) h Q := W_go f268_301 rfl
theorem f268_302 : fetch 268 302 = some (.invokevirtual 110, 3, [145, 1, 11, 0, 6183, 1013, 6186, 6184, 6185], .null) := by decide +kernel
theorem w268_302 (hp : psum st ≤ 8) : Wp d 268 302 [l0, l1, l2, l3, l4, l5, l6, l7, l8] ((.ref b) :: st) h Q = rP (h.2 b) 10 (Cp d 145 [(.ref b)] h (fun o => cK o (fun w h2 => Wp d 268 305 [l0, l1, l2, l3, l4, l5, l6, l7, l8] (w.toList ++ st) h2 Q) (fun E h2 => Q (.inr E, h2)))) := (W_invV (st := st) f268_302 rfl rfl (by simp only [List.length_cons]; omega) rfl rfl hp).trans (by simp only [hm268, if_true])
theorem f268_305 : fetch 268 305 = some (.iload 5, 2, [], .null) := by decide +kernel
theorem w268_305 : Wp d 268 305 [l0, l1, l2, l3, l4, some (.int x), l6, l7, l8] st h Q = Wp d 268 307 [l0, l1, l2, l3, l4, some (.int x), l6, l7, l8] (.int x :: st) h Q := W_go f268_305 rfl
theorem f268_307 : fetch 268 307 = some (.if_icmp .eq 5, 3, [], .null) := by decide +kernel
theorem w268_307 : Wp d 268 307 [l0, l1, l2, l3, l4, l5, l6, l7, l8] (.int y :: .int x :: st) h Q = if icond .eq x y = true then Wp d 268 312 [l0, l1, l2, l3, l4, l5, l6, l7, l8] st h Q else Wp d 268 310 [l0, l1, l2, l3, l4, l5, l6, l7, l8] st h Q := W_if f268_307 rfl
theorem f268_310 : fetch 268 310 = some (.iconst 0, 1, [], .null) := by decide +kernel
theorem w268_310 : Wp d 268 310 [l0, l1, l2, l3, l4, l5, l6, l7, l8] st h Q = Wp d 268 311 [l0, l1, l2, l3, l4, l5, l6, l7, l8] (.int (0 : Int32) :: st) h Q := W_go f268_310 rfl
theorem f268_311 : fetch 268 311 = some (.ireturn, 1, [], .null) := by decide +kernel
theorem w268_311 : Wp d 268 311 [l0, l1, l2, l3, l4, l5, l6, l7, l8] [.int x] h Q = (if narrow .boolean (.int x) = .int x then Q (.inl (some (.int x)), h) else False) := W_zret f268_311 hr268
theorem f268_312 : fetch 268 312 = some (.iload 5, 2, [], .null) := by decide +kernel
theorem w268_312 : Wp d 268 312 [l0, l1, l2, l3, l4, some (.int x), l6, l7, l8] st h Q = Wp d 268 314 [l0, l1, l2, l3, l4, some (.int x), l6, l7, l8] (.int x :: st) h Q := W_go f268_312 rfl
theorem f268_314 : fetch 268 314 = some (.ifCond .ne 15, 3, [], .null) := by decide +kernel
theorem w268_314 : Wp d 268 314 [l0, l1, l2, l3, l4, l5, l6, l7, l8] (.int x :: st) h Q = if icond .ne x 0 = true then Wp d 268 329 [l0, l1, l2, l3, l4, l5, l6, l7, l8] st h Q else Wp d 268 317 [l0, l1, l2, l3, l4, l5, l6, l7, l8] st h Q := W_if f268_314 rfl
theorem f268_317 : fetch 268 317 = some (.aload_n 3, 1, [], .null) := by decide +kernel
theorem w268_317 : Wp d 268 317 [l0, l1, l2, some (.ref a), l4, l5, l6, l7, l8] st h Q = Wp d 268 318 [l0, l1, l2, some (.ref a), l4, l5, l6, l7, l8] (.ref a :: st) h Q := W_go f268_317 rfl
theorem f268_318 : fetch 268 318 = some (.iconst 0, 1, [], .null) := by decide +kernel
theorem w268_318 : Wp d 268 318 [l0, l1, l2, l3, l4, l5, l6, l7, l8] st h Q = Wp d 268 319 [l0, l1, l2, l3, l4, l5, l6, l7, l8] (.int (0 : Int32) :: st) h Q := W_go f268_318 rfl
theorem f268_319 : fetch 268 319 = some (.laload, 1, [], .null) := by decide +kernel
theorem w268_319 : Wp d 268 319 [l0, l1, l2, l3, l4, l5, l6, l7, l8] (.int x :: .ref a :: st) h Q = lP (h.2 a) x (fun w => Wp d 268 320 [l0, l1, l2, l3, l4, l5, l6, l7, l8] (.long w :: st) h Q) := W_lld f268_319 rfl
theorem f268_320 : fetch 268 320 = some (.iload 6, 2, [], .null) := by decide +kernel
theorem w268_320 : Wp d 268 320 [l0, l1, l2, l3, l4, l5, some (.int x), l7, l8] st h Q = Wp d 268 322 [l0, l1, l2, l3, l4, l5, some (.int x), l7, l8] (.int x :: st) h Q := W_go f268_320 rfl
theorem f268_322 : fetch 268 322 = some (.i2l, 1, [], .null) := by decide +kernel
theorem w268_322 : Wp d 268 322 [l0, l1, l2, l3, l4, l5, l6, l7, l8] (.int x :: st) h Q = Wp d 268 323 [l0, l1, l2, l3, l4, l5, l6, l7, l8] (.long x.toInt64 :: st) h Q := W_go f268_322 rfl
theorem f268_323 : fetch 268 323 = some (.lcmp, 1, [], .null) := by decide +kernel
theorem w268_323 : Wp d 268 323 [l0, l1, l2, l3, l4, l5, l6, l7, l8] (.long y8 :: .long x8 :: st) h Q = Wp d 268 324 [l0, l1, l2, l3, l4, l5, l6, l7, l8] (.int (lg_cmp x8 y8) :: st) h Q := W_go f268_323 rfl
theorem f268_324 : fetch 268 324 = some (.ifCond .eq 5, 3, [], .null) := by decide +kernel
theorem w268_324 : Wp d 268 324 [l0, l1, l2, l3, l4, l5, l6, l7, l8] (.int x :: st) h Q = if icond .eq x 0 = true then Wp d 268 329 [l0, l1, l2, l3, l4, l5, l6, l7, l8] st h Q else Wp d 268 327 [l0, l1, l2, l3, l4, l5, l6, l7, l8] st h Q := W_if f268_324 rfl
theorem f268_327 : fetch 268 327 = some (.iconst 0, 1, [], .null) := by decide +kernel
theorem w268_327 : Wp d 268 327 [l0, l1, l2, l3, l4, l5, l6, l7, l8] st h Q = Wp d 268 328 [l0, l1, l2, l3, l4, l5, l6, l7, l8] (.int (0 : Int32) :: st) h Q := W_go f268_327 rfl
theorem f268_328 : fetch 268 328 = some (.ireturn, 1, [], .null) := by decide +kernel
theorem w268_328 : Wp d 268 328 [l0, l1, l2, l3, l4, l5, l6, l7, l8] [.int x] h Q = (if narrow .boolean (.int x) = .int x then Q (.inl (some (.int x)), h) else False) := W_zret f268_328 hr268
theorem f268_329 : fetch 268 329 = some (.goto 1807, 3, [], .null) := by decide +kernel
theorem w268_329 : Wp d 268 329 [l0, l1, l2, l3, l4, l5, l6, l7, l8] st h Q = Wp d 268 2136 [l0, l1, l2, l3, l4, l5, l6, l7, l8] st h Q := W_go f268_329 rfl
theorem f268_332 : fetch 268 332 = some (.aload_n 1, 1, [], .null) := by decide +kernel
theorem w268_332 : Wp d 268 332 [l0, some (.ref a), l2, l3, l4, l5, l6, l7, l8] st h Q = Wp d 268 333 [l0, some (.ref a), l2, l3, l4, l5, l6, l7, l8] (.ref a :: st) h Q := W_go f268_332 rfl
theorem f268_333 : fetch 268 333 = some (.aload_n 0, 1, [], .null) := by decide +kernel
theorem w268_333 : Wp d 268 333 [some (.ref a), l1, l2, l3, l4, l5, l6, l7, l8] st h Q = Wp d 268 334 [some (.ref a), l1, l2, l3, l4, l5, l6, l7, l8] (.ref a :: st) h Q := W_go f268_333 rfl
theorem f268_334 : fetch 268 334 = some (.iload 4, 2, [], .null) := by decide +kernel
theorem w268_334 : Wp d 268 334 [l0, l1, l2, l3, some (.int x), l5, l6, l7, l8] st h Q = Wp d 268 336 [l0, l1, l2, l3, some (.int x), l5, l6, l7, l8] (.int x :: st) h Q := W_go f268_334 rfl
theorem f268_336 : fetch 268 336 = some (.iconst 1, 1, [], .null) := by decide +kernel
theorem w268_336 : Wp d 268 336 [l0, l1, l2, l3, l4, l5, l6, l7, l8] st h Q = Wp d 268 337 [l0, l1, l2, l3, l4, l5, l6, l7, l8] (.int (1 : Int32) :: st) h Q := W_go f268_336 rfl
theorem f268_337 : fetch 268 337 = some (.iadd, 1, [], .null) := by decide +kernel
theorem w268_337 : Wp d 268 337 [l0, l1, l2, l3, l4, l5, l6, l7, l8] (.int y :: .int x :: st) h Q = Wp d 268 338 [l0, l1, l2, l3, l4, l5, l6, l7, l8] (.int (x + y) :: st) h Q := W_go f268_337 rfl
theorem f268_338 : fetch 268 338 = some (.iaload, 1, [], .null) := by decide +kernel
theorem w268_338 : Wp d 268 338 [l0, l1, l2, l3, l4, l5, l6, l7, l8] (.int x :: .ref a :: st) h Q = aP false (h.2 a) x (fun w => Wp d 268 339 [l0, l1, l2, l3, l4, l5, l6, l7, l8] (.int w :: st) h Q) := W_ald f268_338 rfl
theorem f268_339 : fetch 268 339 = some (.aload_n 3, 1, [], .null) := by decide +kernel
theorem w268_339 : Wp d 268 339 [l0, l1, l2, some (.ref a), l4, l5, l6, l7, l8] st h Q = Wp d 268 340 [l0, l1, l2, some (.ref a), l4, l5, l6, l7, l8] (.ref a :: st) h Q := W_go f268_339 rfl
theorem f268_340 : fetch 268 340 = some (.invokestatic 114, 3, [242, 3, 0, 0, 4063, 1000, 4065, 4064], .null) := by decide +kernel
theorem w268_340 (hp : psum st ≤ 8) : Wp d 268 340 [l0, l1, l2, l3, l4, l5, l6, l7, l8] (v2 :: v1 :: v0 :: st) h Q = Cp d 242 [v0, v1, v2] h (fun o => cK o (fun w h2 => Wp d 268 343 [l0, l1, l2, l3, l4, l5, l6, l7, l8] (w.toList ++ st) h2 Q) (fun _ _ => False)) := (W_invS (st := st) f268_340 rfl rfl (by simp only [List.length_cons]; omega) rfl rfl hp)
theorem f268_343 : fetch 268 343 = some (.istore 5, 2, [], .null) := by decide +kernel
theorem w268_343 : Wp d 268 343 [l0, l1, l2, l3, l4, l5, l6, l7, l8] (.int x :: st) h Q = Wp d 268 345 [l0, l1, l2, l3, kl l4, some (.int x), l6, l7, l8] st h Q := (W_st1 (pc' := 345) (k := 5) f268_343 rfl rfl (by simp only [List.length_cons, List.length_nil]; omega)).trans (by rw [pst1_succ]; rfl)
theorem f268_345 : fetch 268 345 = some (.aload_n 2, 1, [], .null) := by decide +kernel
theorem w268_345 : Wp d 268 345 [l0, l1, some (.ref a), l3, l4, l5, l6, l7, l8] st h Q = Wp d 268 346 [l0, l1, some (.ref a), l3, l4, l5, l6, l7, l8] (.ref a :: st) h Q := W_go f268_345 rfl
theorem f268_346 : fetch 268 346 = some (.aload_n 0, 1, [], .null) := by decide +kernel
theorem w268_346 : Wp d 268 346 [some (.ref a), l1, l2, l3, l4, l5, l6, l7, l8] st h Q = Wp d 268 347 [some (.ref a), l1, l2, l3, l4, l5, l6, l7, l8] (.ref a :: st) h Q := W_go f268_346 rfl
theorem f268_347 : fetch 268 347 = some (.iload 4, 2, [], .null) := by decide +kernel
theorem w268_347 : Wp d 268 347 [l0, l1, l2, l3, some (.int x), l5, l6, l7, l8] st h Q = Wp d 268 349 [l0, l1, l2, l3, some (.int x), l5, l6, l7, l8] (.int x :: st) h Q := W_go f268_347 rfl
theorem f268_349 : fetch 268 349 = some (.iconst 1, 1, [], .null) := by decide +kernel
theorem w268_349 : Wp d 268 349 [l0, l1, l2, l3, l4, l5, l6, l7, l8] st h Q = Wp d 268 350 [l0, l1, l2, l3, l4, l5, l6, l7, l8] (.int (1 : Int32) :: st) h Q := W_go f268_349 rfl
theorem f268_350 : fetch 268 350 = some (.iadd, 1, [], .null) := by decide +kernel
theorem w268_350 : Wp d 268 350 [l0, l1, l2, l3, l4, l5, l6, l7, l8] (.int y :: .int x :: st) h Q = Wp d 268 351 [l0, l1, l2, l3, l4, l5, l6, l7, l8] (.int (x + y) :: st) h Q := W_go f268_350 rfl
theorem f268_351 : fetch 268 351 = some (.iaload, 1, [], .null) := by decide +kernel
theorem w268_351 : Wp d 268 351 [l0, l1, l2, l3, l4, l5, l6, l7, l8] (.int x :: .ref a :: st) h Q = aP false (h.2 a) x (fun w => Wp d 268 352 [l0, l1, l2, l3, l4, l5, l6, l7, l8] (.int w :: st) h Q) := W_ald f268_351 rfl
theorem f268_352 : fetch 268 352 = some (.invokevirtual 117, 3, [182, 2, 11, 0, 6195, 1013, 6198, 6196, 6197], .null) := by decide +kernel
theorem w268_352 (hp : psum st ≤ 8) : Wp d 268 352 [l0, l1, l2, l3, l4, l5, l6, l7, l8] (v1 :: (.ref b) :: st) h Q = rP (h.2 b) 10 (Cp d 182 [(.ref b), v1] h (fun o => cK o (fun w h2 => Wp d 268 355 [l0, l1, l2, l3, l4, l5, l6, l7, l8] (w.toList ++ st) h2 Q) (fun E h2 => Q (.inr E, h2)))) := (W_invV (st := st) f268_352 rfl rfl (by simp only [List.length_cons]; omega) rfl rfl hp).trans (by simp only [hm268, if_true])
theorem f268_355 : fetch 268 355 = some (.istore 6, 2, [], .null) := by decide +kernel
theorem w268_355 : Wp d 268 355 [l0, l1, l2, l3, l4, l5, l6, l7, l8] (.int x :: st) h Q = Wp d 268 357 [l0, l1, l2, l3, l4, kl l5, some (.int x), l7, l8] st h Q := (W_st1 (pc' := 357) (k := 6) f268_355 rfl rfl (by simp only [List.length_cons, List.length_nil]; omega)).trans (by rw [pst1_succ]; rfl)
theorem f268_357 : fetch 268 357 = some (.aload_n 2, 1, [], .null) := by decide +kernel
theorem w268_357 : Wp d 268 357 [l0, l1, some (.ref a), l3, l4, l5, l6, l7, l8] st h Q = Wp d 268 358 [l0, l1, some (.ref a), l3, l4, l5, l6, l7, l8] (.ref a :: st) h Q := W_go f268_357 rfl
theorem f268_358 : fetch 268 358 = some (.invokevirtual 110, 3, [145, 1, 11, 0, 6183, 1013, 6186, 6184, 6185], .null) := by decide +kernel
theorem w268_358 (hp : psum st ≤ 8) : Wp d 268 358 [l0, l1, l2, l3, l4, l5, l6, l7, l8] ((.ref b) :: st) h Q = rP (h.2 b) 10 (Cp d 145 [(.ref b)] h (fun o => cK o (fun w h2 => Wp d 268 361 [l0, l1, l2, l3, l4, l5, l6, l7, l8] (w.toList ++ st) h2 Q) (fun E h2 => Q (.inr E, h2)))) := (W_invV (st := st) f268_358 rfl rfl (by simp only [List.length_cons]; omega) rfl rfl hp).trans (by simp only [hm268, if_true])
theorem f268_361 : fetch 268 361 = some (.iload 5, 2, [], .null) := by decide +kernel
theorem w268_361 : Wp d 268 361 [l0, l1, l2, l3, l4, some (.int x), l6, l7, l8] st h Q = Wp d 268 363 [l0, l1, l2, l3, l4, some (.int x), l6, l7, l8] (.int x :: st) h Q := W_go f268_361 rfl
theorem f268_363 : fetch 268 363 = some (.if_icmp .eq 5, 3, [], .null) := by decide +kernel
theorem w268_363 : Wp d 268 363 [l0, l1, l2, l3, l4, l5, l6, l7, l8] (.int y :: .int x :: st) h Q = if icond .eq x y = true then Wp d 268 368 [l0, l1, l2, l3, l4, l5, l6, l7, l8] st h Q else Wp d 268 366 [l0, l1, l2, l3, l4, l5, l6, l7, l8] st h Q := W_if f268_363 rfl
theorem f268_366 : fetch 268 366 = some (.iconst 0, 1, [], .null) := by decide +kernel
theorem w268_366 : Wp d 268 366 [l0, l1, l2, l3, l4, l5, l6, l7, l8] st h Q = Wp d 268 367 [l0, l1, l2, l3, l4, l5, l6, l7, l8] (.int (0 : Int32) :: st) h Q := W_go f268_366 rfl
theorem f268_367 : fetch 268 367 = some (.ireturn, 1, [], .null) := by decide +kernel
theorem w268_367 : Wp d 268 367 [l0, l1, l2, l3, l4, l5, l6, l7, l8] [.int x] h Q = (if narrow .boolean (.int x) = .int x then Q (.inl (some (.int x)), h) else False) := W_zret f268_367 hr268
theorem f268_368 : fetch 268 368 = some (.iload 5, 2, [], .null) := by decide +kernel
theorem w268_368 : Wp d 268 368 [l0, l1, l2, l3, l4, some (.int x), l6, l7, l8] st h Q = Wp d 268 370 [l0, l1, l2, l3, l4, some (.int x), l6, l7, l8] (.int x :: st) h Q := W_go f268_368 rfl
theorem f268_370 : fetch 268 370 = some (.ifCond .ne 15, 3, [], .null) := by decide +kernel
theorem w268_370 : Wp d 268 370 [l0, l1, l2, l3, l4, l5, l6, l7, l8] (.int x :: st) h Q = if icond .ne x 0 = true then Wp d 268 385 [l0, l1, l2, l3, l4, l5, l6, l7, l8] st h Q else Wp d 268 373 [l0, l1, l2, l3, l4, l5, l6, l7, l8] st h Q := W_if f268_370 rfl
theorem f268_373 : fetch 268 373 = some (.aload_n 3, 1, [], .null) := by decide +kernel
theorem w268_373 : Wp d 268 373 [l0, l1, l2, some (.ref a), l4, l5, l6, l7, l8] st h Q = Wp d 268 374 [l0, l1, l2, some (.ref a), l4, l5, l6, l7, l8] (.ref a :: st) h Q := W_go f268_373 rfl
theorem f268_374 : fetch 268 374 = some (.iconst 0, 1, [], .null) := by decide +kernel
theorem w268_374 : Wp d 268 374 [l0, l1, l2, l3, l4, l5, l6, l7, l8] st h Q = Wp d 268 375 [l0, l1, l2, l3, l4, l5, l6, l7, l8] (.int (0 : Int32) :: st) h Q := W_go f268_374 rfl
theorem f268_375 : fetch 268 375 = some (.laload, 1, [], .null) := by decide +kernel
theorem w268_375 : Wp d 268 375 [l0, l1, l2, l3, l4, l5, l6, l7, l8] (.int x :: .ref a :: st) h Q = lP (h.2 a) x (fun w => Wp d 268 376 [l0, l1, l2, l3, l4, l5, l6, l7, l8] (.long w :: st) h Q) := W_lld f268_375 rfl
theorem f268_376 : fetch 268 376 = some (.iload 6, 2, [], .null) := by decide +kernel
theorem w268_376 : Wp d 268 376 [l0, l1, l2, l3, l4, l5, some (.int x), l7, l8] st h Q = Wp d 268 378 [l0, l1, l2, l3, l4, l5, some (.int x), l7, l8] (.int x :: st) h Q := W_go f268_376 rfl
theorem f268_378 : fetch 268 378 = some (.i2l, 1, [], .null) := by decide +kernel
theorem w268_378 : Wp d 268 378 [l0, l1, l2, l3, l4, l5, l6, l7, l8] (.int x :: st) h Q = Wp d 268 379 [l0, l1, l2, l3, l4, l5, l6, l7, l8] (.long x.toInt64 :: st) h Q := W_go f268_378 rfl
theorem f268_379 : fetch 268 379 = some (.lcmp, 1, [], .null) := by decide +kernel
theorem w268_379 : Wp d 268 379 [l0, l1, l2, l3, l4, l5, l6, l7, l8] (.long y8 :: .long x8 :: st) h Q = Wp d 268 380 [l0, l1, l2, l3, l4, l5, l6, l7, l8] (.int (lg_cmp x8 y8) :: st) h Q := W_go f268_379 rfl
theorem f268_380 : fetch 268 380 = some (.ifCond .eq 5, 3, [], .null) := by decide +kernel
theorem w268_380 : Wp d 268 380 [l0, l1, l2, l3, l4, l5, l6, l7, l8] (.int x :: st) h Q = if icond .eq x 0 = true then Wp d 268 385 [l0, l1, l2, l3, l4, l5, l6, l7, l8] st h Q else Wp d 268 383 [l0, l1, l2, l3, l4, l5, l6, l7, l8] st h Q := W_if f268_380 rfl
theorem f268_383 : fetch 268 383 = some (.iconst 0, 1, [], .null) := by decide +kernel
theorem w268_383 : Wp d 268 383 [l0, l1, l2, l3, l4, l5, l6, l7, l8] st h Q = Wp d 268 384 [l0, l1, l2, l3, l4, l5, l6, l7, l8] (.int (0 : Int32) :: st) h Q := W_go f268_383 rfl
theorem f268_384 : fetch 268 384 = some (.ireturn, 1, [], .null) := by decide +kernel
theorem w268_384 : Wp d 268 384 [l0, l1, l2, l3, l4, l5, l6, l7, l8] [.int x] h Q = (if narrow .boolean (.int x) = .int x then Q (.inl (some (.int x)), h) else False) := W_zret f268_384 hr268
theorem f268_385 : fetch 268 385 = some (.goto 1751, 3, [], .null) := by decide +kernel
theorem w268_385 : Wp d 268 385 [l0, l1, l2, l3, l4, l5, l6, l7, l8] st h Q = Wp d 268 2136 [l0, l1, l2, l3, l4, l5, l6, l7, l8] st h Q := W_go f268_385 rfl
theorem f268_388 : fetch 268 388 = some (.aload_n 1, 1, [], .null) := by decide +kernel
theorem w268_388 : Wp d 268 388 [l0, some (.ref a), l2, l3, l4, l5, l6, l7, l8] st h Q = Wp d 268 389 [l0, some (.ref a), l2, l3, l4, l5, l6, l7, l8] (.ref a :: st) h Q := W_go f268_388 rfl
theorem f268_389 : fetch 268 389 = some (.invokevirtual 118, 3, [71, 1, 8, 0, 2171, 1001, 2174, 2172, 2173], .null) := by decide +kernel
theorem w268_389 (hp : psum st ≤ 8) : Wp d 268 389 [l0, l1, l2, l3, l4, l5, l6, l7, l8] ((.ref b) :: st) h Q = rP (h.2 b) 7 (Cp d 71 [(.ref b)] h (fun o => cK o (fun w h2 => Wp d 268 392 [l0, l1, l2, l3, l4, l5, l6, l7, l8] (w.toList ++ st) h2 Q) (fun E h2 => Q (.inr E, h2)))) := (W_invV (st := st) f268_389 rfl rfl (by simp only [List.length_cons]; omega) rfl rfl hp).trans (by simp only [hm268, if_true])
theorem f268_392 : fetch 268 392 = some (.aload_n 2, 1, [], .null) := by decide +kernel
theorem w268_392 : Wp d 268 392 [l0, l1, some (.ref a), l3, l4, l5, l6, l7, l8] st h Q = Wp d 268 393 [l0, l1, some (.ref a), l3, l4, l5, l6, l7, l8] (.ref a :: st) h Q := W_go f268_392 rfl
theorem f268_393 : fetch 268 393 = some (.invokevirtual 121, 3, [183, 1, 11, 0, 6202, 1013, 6205, 6203, 6204], .null) := by decide +kernel
theorem w268_393 (hp : psum st ≤ 8) : Wp d 268 393 [l0, l1, l2, l3, l4, l5, l6, l7, l8] ((.ref b) :: st) h Q = rP (h.2 b) 10 (Cp d 183 [(.ref b)] h (fun o => cK o (fun w h2 => Wp d 268 396 [l0, l1, l2, l3, l4, l5, l6, l7, l8] (w.toList ++ st) h2 Q) (fun E h2 => Q (.inr E, h2)))) := (W_invV (st := st) f268_393 rfl rfl (by simp only [List.length_cons]; omega) rfl rfl hp).trans (by simp only [hm268, if_true])
theorem f268_396 : fetch 268 396 = some (.if_icmp .eq 1740, 3, [], .null) := by decide +kernel
theorem w268_396 : Wp d 268 396 [l0, l1, l2, l3, l4, l5, l6, l7, l8] (.int y :: .int x :: st) h Q = if icond .eq x y = true then Wp d 268 2136 [l0, l1, l2, l3, l4, l5, l6, l7, l8] st h Q else Wp d 268 399 [l0, l1, l2, l3, l4, l5, l6, l7, l8] st h Q := W_if f268_396 rfl
theorem f268_399 : fetch 268 399 = some (.iconst 0, 1, [], .null) := by decide +kernel
theorem w268_399 : Wp d 268 399 [l0, l1, l2, l3, l4, l5, l6, l7, l8] st h Q = Wp d 268 400 [l0, l1, l2, l3, l4, l5, l6, l7, l8] (.int (0 : Int32) :: st) h Q := W_go f268_399 rfl
theorem f268_400 : fetch 268 400 = some (.ireturn, 1, [], .null) := by decide +kernel
theorem w268_400 : Wp d 268 400 [l0, l1, l2, l3, l4, l5, l6, l7, l8] [.int x] h Q = (if narrow .boolean (.int x) = .int x then Q (.inl (some (.int x)), h) else False) := W_zret f268_400 hr268
theorem f268_401 : fetch 268 401 = some (.aload_n 1, 1, [], .null) := by decide +kernel
theorem w268_401 : Wp d 268 401 [l0, some (.ref a), l2, l3, l4, l5, l6, l7, l8] st h Q = Wp d 268 402 [l0, some (.ref a), l2, l3, l4, l5, l6, l7, l8] (.ref a :: st) h Q := W_go f268_401 rfl
theorem f268_402 : fetch 268 402 = some (.invokevirtual 122, 3, [72, 1, 8, 0, 3134, 1001, 3137, 3135, 3136], .null) := by decide +kernel
theorem w268_402 (hp : psum st ≤ 8) : Wp d 268 402 [l0, l1, l2, l3, l4, l5, l6, l7, l8] ((.ref b) :: st) h Q = rP (h.2 b) 7 (Cp d 72 [(.ref b)] h (fun o => cK o (fun w h2 => Wp d 268 405 [l0, l1, l2, l3, l4, l5, l6, l7, l8] (w.toList ++ st) h2 Q) (fun E h2 => Q (.inr E, h2)))) := (W_invV (st := st) f268_402 rfl rfl (by simp only [List.length_cons]; omega) rfl rfl hp).trans (by simp only [hm268, if_true])
theorem f268_405 : fetch 268 405 = some (.aload_n 2, 1, [], .null) := by decide +kernel
theorem w268_405 : Wp d 268 405 [l0, l1, some (.ref a), l3, l4, l5, l6, l7, l8] st h Q = Wp d 268 406 [l0, l1, some (.ref a), l3, l4, l5, l6, l7, l8] (.ref a :: st) h Q := W_go f268_405 rfl
theorem f268_406 : fetch 268 406 = some (.invokevirtual 125, 3, [184, 1, 11, 0, 7088, 1013, 7091, 7089, 7090], .null) := by decide +kernel
theorem w268_406 (hp : psum st ≤ 8) : Wp d 268 406 [l0, l1, l2, l3, l4, l5, l6, l7, l8] ((.ref b) :: st) h Q = rP (h.2 b) 10 (Cp d 184 [(.ref b)] h (fun o => cK o (fun w h2 => Wp d 268 409 [l0, l1, l2, l3, l4, l5, l6, l7, l8] (w.toList ++ st) h2 Q) (fun E h2 => Q (.inr E, h2)))) := (W_invV (st := st) f268_406 rfl rfl (by simp only [List.length_cons]; omega) rfl rfl hp).trans (by simp only [hm268, if_true])
theorem f268_409 : fetch 268 409 = some (.if_icmp .eq 1727, 3, [], .null) := by decide +kernel
theorem w268_409 : Wp d 268 409 [l0, l1, l2, l3, l4, l5, l6, l7, l8] (.int y :: .int x :: st) h Q = if icond .eq x y = true then Wp d 268 2136 [l0, l1, l2, l3, l4, l5, l6, l7, l8] st h Q else Wp d 268 412 [l0, l1, l2, l3, l4, l5, l6, l7, l8] st h Q := W_if f268_409 rfl
theorem f268_412 : fetch 268 412 = some (.iconst 0, 1, [], .null) := by decide +kernel
theorem w268_412 : Wp d 268 412 [l0, l1, l2, l3, l4, l5, l6, l7, l8] st h Q = Wp d 268 413 [l0, l1, l2, l3, l4, l5, l6, l7, l8] (.int (0 : Int32) :: st) h Q := W_go f268_412 rfl
theorem f268_413 : fetch 268 413 = some (.ireturn, 1, [], .null) := by decide +kernel
theorem w268_413 : Wp d 268 413 [l0, l1, l2, l3, l4, l5, l6, l7, l8] [.int x] h Q = (if narrow .boolean (.int x) = .int x then Q (.inl (some (.int x)), h) else False) := W_zret f268_413 hr268
theorem f268_414 : fetch 268 414 = some (.aload_n 1, 1, [], .null) := by decide +kernel
theorem w268_414 : Wp d 268 414 [l0, some (.ref a), l2, l3, l4, l5, l6, l7, l8] st h Q = Wp d 268 415 [l0, some (.ref a), l2, l3, l4, l5, l6, l7, l8] (.ref a :: st) h Q := W_go f268_414 rfl
theorem f268_415 : fetch 268 415 = some (.aload_n 0, 1, [], .null) := by decide +kernel
theorem w268_415 : Wp d 268 415 [some (.ref a), l1, l2, l3, l4, l5, l6, l7, l8] st h Q = Wp d 268 416 [some (.ref a), l1, l2, l3, l4, l5, l6, l7, l8] (.ref a :: st) h Q := W_go f268_415 rfl
theorem f268_416 : fetch 268 416 = some (.iload 4, 2, [], .null) := by decide +kernel
theorem w268_416 : Wp d 268 416 [l0, l1, l2, l3, some (.int x), l5, l6, l7, l8] st h Q = Wp d 268 418 [l0, l1, l2, l3, some (.int x), l5, l6, l7, l8] (.int x :: st) h Q := W_go f268_416 rfl
theorem f268_418 : fetch 268 418 = some (.iconst 1, 1, [], .null) := by decide +kernel
theorem w268_418 : Wp d 268 418 [l0, l1, l2, l3, l4, l5, l6, l7, l8] st h Q = Wp d 268 419 [l0, l1, l2, l3, l4, l5, l6, l7, l8] (.int (1 : Int32) :: st) h Q := W_go f268_418 rfl
theorem f268_419 : fetch 268 419 = some (.iadd, 1, [], .null) := by decide +kernel
theorem w268_419 : Wp d 268 419 [l0, l1, l2, l3, l4, l5, l6, l7, l8] (.int y :: .int x :: st) h Q = Wp d 268 420 [l0, l1, l2, l3, l4, l5, l6, l7, l8] (.int (x + y) :: st) h Q := W_go f268_419 rfl
theorem f268_420 : fetch 268 420 = some (.iaload, 1, [], .null) := by decide +kernel
theorem w268_420 : Wp d 268 420 [l0, l1, l2, l3, l4, l5, l6, l7, l8] (.int x :: .ref a :: st) h Q = aP false (h.2 a) x (fun w => Wp d 268 421 [l0, l1, l2, l3, l4, l5, l6, l7, l8] (.int w :: st) h Q) := W_ald f268_420 rfl
theorem f268_421 : fetch 268 421 = some (.aload_n 3, 1, [], .null) := by decide +kernel
theorem w268_421 : Wp d 268 421 [l0, l1, l2, some (.ref a), l4, l5, l6, l7, l8] st h Q = Wp d 268 422 [l0, l1, l2, some (.ref a), l4, l5, l6, l7, l8] (.ref a :: st) h Q := W_go f268_421 rfl
theorem f268_422 : fetch 268 422 = some (.invokestatic 126, 3, [243, 3, 0, 0, 4087, 1000, 4089, 4088], .null) := by decide +kernel
theorem w268_422 (hp : psum st ≤ 8) : Wp d 268 422 [l0, l1, l2, l3, l4, l5, l6, l7, l8] (v2 :: v1 :: v0 :: st) h Q = Cp d 243 [v0, v1, v2] h (fun o => cK o (fun w h2 => Wp d 268 425 [l0, l1, l2, l3, l4, l5, l6, l7, l8] (w.toList ++ st) h2 Q) (fun _ _ => False)) := (W_invS (st := st) f268_422 rfl rfl (by simp only [List.length_cons]; omega) rfl rfl hp)
theorem f268_425 : fetch 268 425 = some (.istore 5, 2, [], .null) := by decide +kernel
theorem w268_425 : Wp d 268 425 [l0, l1, l2, l3, l4, l5, l6, l7, l8] (.int x :: st) h Q = Wp d 268 427 [l0, l1, l2, l3, kl l4, some (.int x), l6, l7, l8] st h Q := (W_st1 (pc' := 427) (k := 5) f268_425 rfl rfl (by simp only [List.length_cons, List.length_nil]; omega)).trans (by rw [pst1_succ]; rfl)
theorem f268_427 : fetch 268 427 = some (.aload_n 2, 1, [], .null) := by decide +kernel
theorem w268_427 : Wp d 268 427 [l0, l1, some (.ref a), l3, l4, l5, l6, l7, l8] st h Q = Wp d 268 428 [l0, l1, some (.ref a), l3, l4, l5, l6, l7, l8] (.ref a :: st) h Q := W_go f268_427 rfl
theorem f268_428 : fetch 268 428 = some (.aload_n 0, 1, [], .null) := by decide +kernel
theorem w268_428 : Wp d 268 428 [some (.ref a), l1, l2, l3, l4, l5, l6, l7, l8] st h Q = Wp d 268 429 [some (.ref a), l1, l2, l3, l4, l5, l6, l7, l8] (.ref a :: st) h Q := W_go f268_428 rfl
theorem f268_429 : fetch 268 429 = some (.iload 4, 2, [], .null) := by decide +kernel
theorem w268_429 : Wp d 268 429 [l0, l1, l2, l3, some (.int x), l5, l6, l7, l8] st h Q = Wp d 268 431 [l0, l1, l2, l3, some (.int x), l5, l6, l7, l8] (.int x :: st) h Q := W_go f268_429 rfl
theorem f268_431 : fetch 268 431 = some (.iconst 1, 1, [], .null) := by decide +kernel
theorem w268_431 : Wp d 268 431 [l0, l1, l2, l3, l4, l5, l6, l7, l8] st h Q = Wp d 268 432 [l0, l1, l2, l3, l4, l5, l6, l7, l8] (.int (1 : Int32) :: st) h Q := W_go f268_431 rfl
theorem f268_432 : fetch 268 432 = some (.iadd, 1, [], .null) := by decide +kernel
theorem w268_432 : Wp d 268 432 [l0, l1, l2, l3, l4, l5, l6, l7, l8] (.int y :: .int x :: st) h Q = Wp d 268 433 [l0, l1, l2, l3, l4, l5, l6, l7, l8] (.int (x + y) :: st) h Q := W_go f268_432 rfl
theorem f268_433 : fetch 268 433 = some (.iaload, 1, [], .null) := by decide +kernel
theorem w268_433 : Wp d 268 433 [l0, l1, l2, l3, l4, l5, l6, l7, l8] (.int x :: .ref a :: st) h Q = aP false (h.2 a) x (fun w => Wp d 268 434 [l0, l1, l2, l3, l4, l5, l6, l7, l8] (.int w :: st) h Q) := W_ald f268_433 rfl
theorem f268_434 : fetch 268 434 = some (.invokevirtual 128, 3, [185, 2, 11, 0, 7092, 1013, 7095, 7093, 7094], .null) := by decide +kernel
theorem w268_434 (hp : psum st ≤ 8) : Wp d 268 434 [l0, l1, l2, l3, l4, l5, l6, l7, l8] (v1 :: (.ref b) :: st) h Q = rP (h.2 b) 10 (Cp d 185 [(.ref b), v1] h (fun o => cK o (fun w h2 => Wp d 268 437 [l0, l1, l2, l3, l4, l5, l6, l7, l8] (w.toList ++ st) h2 Q) (fun E h2 => Q (.inr E, h2)))) := (W_invV (st := st) f268_434 rfl rfl (by simp only [List.length_cons]; omega) rfl rfl hp).trans (by simp only [hm268, if_true])
theorem f268_437 : fetch 268 437 = some (.istore 6, 2, [], .null) := by decide +kernel
theorem w268_437 : Wp d 268 437 [l0, l1, l2, l3, l4, l5, l6, l7, l8] (.int x :: st) h Q = Wp d 268 439 [l0, l1, l2, l3, l4, kl l5, some (.int x), l7, l8] st h Q := (W_st1 (pc' := 439) (k := 6) f268_437 rfl rfl (by simp only [List.length_cons, List.length_nil]; omega)).trans (by rw [pst1_succ]; rfl)
theorem f268_439 : fetch 268 439 = some (.aload_n 2, 1, [], .null) := by decide +kernel
theorem w268_439 : Wp d 268 439 [l0, l1, some (.ref a), l3, l4, l5, l6, l7, l8] st h Q = Wp d 268 440 [l0, l1, some (.ref a), l3, l4, l5, l6, l7, l8] (.ref a :: st) h Q := W_go f268_439 rfl
theorem f268_440 : fetch 268 440 = some (.invokevirtual 110, 3, [145, 1, 11, 0, 6183, 1013, 6186, 6184, 6185], .null) := by decide +kernel
theorem w268_440 (hp : psum st ≤ 8) : Wp d 268 440 [l0, l1, l2, l3, l4, l5, l6, l7, l8] ((.ref b) :: st) h Q = rP (h.2 b) 10 (Cp d 145 [(.ref b)] h (fun o => cK o (fun w h2 => Wp d 268 443 [l0, l1, l2, l3, l4, l5, l6, l7, l8] (w.toList ++ st) h2 Q) (fun E h2 => Q (.inr E, h2)))) := (W_invV (st := st) f268_440 rfl rfl (by simp only [List.length_cons]; omega) rfl rfl hp).trans (by simp only [hm268, if_true])
theorem f268_443 : fetch 268 443 = some (.iload 5, 2, [], .null) := by decide +kernel
theorem w268_443 : Wp d 268 443 [l0, l1, l2, l3, l4, some (.int x), l6, l7, l8] st h Q = Wp d 268 445 [l0, l1, l2, l3, l4, some (.int x), l6, l7, l8] (.int x :: st) h Q := W_go f268_443 rfl
theorem f268_445 : fetch 268 445 = some (.if_icmp .eq 5, 3, [], .null) := by decide +kernel
theorem w268_445 : Wp d 268 445 [l0, l1, l2, l3, l4, l5, l6, l7, l8] (.int y :: .int x :: st) h Q = if icond .eq x y = true then Wp d 268 450 [l0, l1, l2, l3, l4, l5, l6, l7, l8] st h Q else Wp d 268 448 [l0, l1, l2, l3, l4, l5, l6, l7, l8] st h Q := W_if f268_445 rfl
theorem f268_448 : fetch 268 448 = some (.iconst 0, 1, [], .null) := by decide +kernel
theorem w268_448 : Wp d 268 448 [l0, l1, l2, l3, l4, l5, l6, l7, l8] st h Q = Wp d 268 449 [l0, l1, l2, l3, l4, l5, l6, l7, l8] (.int (0 : Int32) :: st) h Q := W_go f268_448 rfl
theorem f268_449 : fetch 268 449 = some (.ireturn, 1, [], .null) := by decide +kernel
theorem w268_449 : Wp d 268 449 [l0, l1, l2, l3, l4, l5, l6, l7, l8] [.int x] h Q = (if narrow .boolean (.int x) = .int x then Q (.inl (some (.int x)), h) else False) := W_zret f268_449 hr268
theorem f268_450 : fetch 268 450 = some (.iload 5, 2, [], .null) := by decide +kernel
theorem w268_450 : Wp d 268 450 [l0, l1, l2, l3, l4, some (.int x), l6, l7, l8] st h Q = Wp d 268 452 [l0, l1, l2, l3, l4, some (.int x), l6, l7, l8] (.int x :: st) h Q := W_go f268_450 rfl
theorem f268_452 : fetch 268 452 = some (.ifCond .ne 15, 3, [], .null) := by decide +kernel
theorem w268_452 : Wp d 268 452 [l0, l1, l2, l3, l4, l5, l6, l7, l8] (.int x :: st) h Q = if icond .ne x 0 = true then Wp d 268 467 [l0, l1, l2, l3, l4, l5, l6, l7, l8] st h Q else Wp d 268 455 [l0, l1, l2, l3, l4, l5, l6, l7, l8] st h Q := W_if f268_452 rfl
theorem f268_455 : fetch 268 455 = some (.aload_n 3, 1, [], .null) := by decide +kernel
theorem w268_455 : Wp d 268 455 [l0, l1, l2, some (.ref a), l4, l5, l6, l7, l8] st h Q = Wp d 268 456 [l0, l1, l2, some (.ref a), l4, l5, l6, l7, l8] (.ref a :: st) h Q := W_go f268_455 rfl
theorem f268_456 : fetch 268 456 = some (.iconst 0, 1, [], .null) := by decide +kernel
theorem w268_456 : Wp d 268 456 [l0, l1, l2, l3, l4, l5, l6, l7, l8] st h Q = Wp d 268 457 [l0, l1, l2, l3, l4, l5, l6, l7, l8] (.int (0 : Int32) :: st) h Q := W_go f268_456 rfl
theorem f268_457 : fetch 268 457 = some (.laload, 1, [], .null) := by decide +kernel
theorem w268_457 : Wp d 268 457 [l0, l1, l2, l3, l4, l5, l6, l7, l8] (.int x :: .ref a :: st) h Q = lP (h.2 a) x (fun w => Wp d 268 458 [l0, l1, l2, l3, l4, l5, l6, l7, l8] (.long w :: st) h Q) := W_lld f268_457 rfl
theorem f268_458 : fetch 268 458 = some (.iload 6, 2, [], .null) := by decide +kernel
theorem w268_458 : Wp d 268 458 [l0, l1, l2, l3, l4, l5, some (.int x), l7, l8] st h Q = Wp d 268 460 [l0, l1, l2, l3, l4, l5, some (.int x), l7, l8] (.int x :: st) h Q := W_go f268_458 rfl
theorem f268_460 : fetch 268 460 = some (.i2l, 1, [], .null) := by decide +kernel
theorem w268_460 : Wp d 268 460 [l0, l1, l2, l3, l4, l5, l6, l7, l8] (.int x :: st) h Q = Wp d 268 461 [l0, l1, l2, l3, l4, l5, l6, l7, l8] (.long x.toInt64 :: st) h Q := W_go f268_460 rfl
theorem f268_461 : fetch 268 461 = some (.lcmp, 1, [], .null) := by decide +kernel
theorem w268_461 : Wp d 268 461 [l0, l1, l2, l3, l4, l5, l6, l7, l8] (.long y8 :: .long x8 :: st) h Q = Wp d 268 462 [l0, l1, l2, l3, l4, l5, l6, l7, l8] (.int (lg_cmp x8 y8) :: st) h Q := W_go f268_461 rfl
theorem f268_462 : fetch 268 462 = some (.ifCond .eq 5, 3, [], .null) := by decide +kernel
theorem w268_462 : Wp d 268 462 [l0, l1, l2, l3, l4, l5, l6, l7, l8] (.int x :: st) h Q = if icond .eq x 0 = true then Wp d 268 467 [l0, l1, l2, l3, l4, l5, l6, l7, l8] st h Q else Wp d 268 465 [l0, l1, l2, l3, l4, l5, l6, l7, l8] st h Q := W_if f268_462 rfl
theorem f268_465 : fetch 268 465 = some (.iconst 0, 1, [], .null) := by decide +kernel
theorem w268_465 : Wp d 268 465 [l0, l1, l2, l3, l4, l5, l6, l7, l8] st h Q = Wp d 268 466 [l0, l1, l2, l3, l4, l5, l6, l7, l8] (.int (0 : Int32) :: st) h Q := W_go f268_465 rfl
theorem f268_466 : fetch 268 466 = some (.ireturn, 1, [], .null) := by decide +kernel
theorem w268_466 : Wp d 268 466 [l0, l1, l2, l3, l4, l5, l6, l7, l8] [.int x] h Q = (if narrow .boolean (.int x) = .int x then Q (.inl (some (.int x)), h) else False) := W_zret f268_466 hr268
theorem f268_467 : fetch 268 467 = some (.goto 1669, 3, [], .null) := by decide +kernel
theorem w268_467 : Wp d 268 467 [l0, l1, l2, l3, l4, l5, l6, l7, l8] st h Q = Wp d 268 2136 [l0, l1, l2, l3, l4, l5, l6, l7, l8] st h Q := W_go f268_467 rfl
theorem f268_470 : fetch 268 470 = some (.aload_n 1, 1, [], .null) := by decide +kernel
theorem w268_470 : Wp d 268 470 [l0, some (.ref a), l2, l3, l4, l5, l6, l7, l8] st h Q = Wp d 268 471 [l0, some (.ref a), l2, l3, l4, l5, l6, l7, l8] (.ref a :: st) h Q := W_go f268_470 rfl
theorem f268_471 : fetch 268 471 = some (.aload_n 0, 1, [], .null) := by decide +kernel
theorem w268_471 : Wp d 268 471 [some (.ref a), l1, l2, l3, l4, l5, l6, l7, l8] st h Q = Wp d 268 472 [some (.ref a), l1, l2, l3, l4, l5, l6, l7, l8] (.ref a :: st) h Q := W_go f268_471 rfl
theorem f268_472 : fetch 268 472 = some (.iload 4, 2, [], .null) := by decide +kernel
theorem w268_472 : Wp d 268 472 [l0, l1, l2, l3, some (.int x), l5, l6, l7, l8] st h Q = Wp d 268 474 [l0, l1, l2, l3, some (.int x), l5, l6, l7, l8] (.int x :: st) h Q := W_go f268_472 rfl
theorem f268_474 : fetch 268 474 = some (.iconst 1, 1, [], .null) := by decide +kernel
theorem w268_474 : Wp d 268 474 [l0, l1, l2, l3, l4, l5, l6, l7, l8] st h Q = Wp d 268 475 [l0, l1, l2, l3, l4, l5, l6, l7, l8] (.int (1 : Int32) :: st) h Q := W_go f268_474 rfl
theorem f268_475 : fetch 268 475 = some (.iadd, 1, [], .null) := by decide +kernel
theorem w268_475 : Wp d 268 475 [l0, l1, l2, l3, l4, l5, l6, l7, l8] (.int y :: .int x :: st) h Q = Wp d 268 476 [l0, l1, l2, l3, l4, l5, l6, l7, l8] (.int (x + y) :: st) h Q := W_go f268_475 rfl
theorem f268_476 : fetch 268 476 = some (.iaload, 1, [], .null) := by decide +kernel
theorem w268_476 : Wp d 268 476 [l0, l1, l2, l3, l4, l5, l6, l7, l8] (.int x :: .ref a :: st) h Q = aP false (h.2 a) x (fun w => Wp d 268 477 [l0, l1, l2, l3, l4, l5, l6, l7, l8] (.int w :: st) h Q) := W_ald f268_476 rfl
theorem f268_477 : fetch 268 477 = some (.aload_n 0, 1, [], .null) := by decide +kernel
theorem w268_477 : Wp d 268 477 [some (.ref a), l1, l2, l3, l4, l5, l6, l7, l8] st h Q = Wp d 268 478 [some (.ref a), l1, l2, l3, l4, l5, l6, l7, l8] (.ref a :: st) h Q := W_go f268_477 rfl
theorem f268_478 : fetch 268 478 = some (.iload 4, 2, [], .null) := by decide +kernel
theorem w268_478 : Wp d 268 478 [l0, l1, l2, l3, some (.int x), l5, l6, l7, l8] st h Q = Wp d 268 480 [l0, l1, l2, l3, some (.int x), l5, l6, l7, l8] (.int x :: st) h Q := W_go f268_478 rfl
theorem f268_480 : fetch 268 480 = some (.iconst 2, 1, [], .null) := by decide +kernel
theorem w268_480 : Wp d 268 480 [l0, l1, l2, l3, l4, l5, l6, l7, l8] st h Q = Wp d 268 481 [l0, l1, l2, l3, l4, l5, l6, l7, l8] (.int (2 : Int32) :: st) h Q := W_go f268_480 rfl
theorem f268_481 : fetch 268 481 = some (.iadd, 1, [], .null) := by decide +kernel
theorem w268_481 : Wp d 268 481 [l0, l1, l2, l3, l4, l5, l6, l7, l8] (.int y :: .int x :: st) h Q = Wp d 268 482 [l0, l1, l2, l3, l4, l5, l6, l7, l8] (.int (x + y) :: st) h Q := W_go f268_481 rfl
theorem f268_482 : fetch 268 482 = some (.iaload, 1, [], .null) := by decide +kernel
theorem w268_482 : Wp d 268 482 [l0, l1, l2, l3, l4, l5, l6, l7, l8] (.int x :: .ref a :: st) h Q = aP false (h.2 a) x (fun w => Wp d 268 483 [l0, l1, l2, l3, l4, l5, l6, l7, l8] (.int w :: st) h Q) := W_ald f268_482 rfl
theorem f268_483 : fetch 268 483 = some (.aload_n 3, 1, [], .null) := by decide +kernel
theorem w268_483 : Wp d 268 483 [l0, l1, l2, some (.ref a), l4, l5, l6, l7, l8] st h Q = Wp d 268 484 [l0, l1, l2, some (.ref a), l4, l5, l6, l7, l8] (.ref a :: st) h Q := W_go f268_483 rfl
theorem f268_484 : fetch 268 484 = some (.invokestatic 129, 3, [244, 4, 0, 0, 4097, 1000, 4099, 4098], .null) := by decide +kernel
theorem w268_484 (hp : psum st ≤ 8) : Wp d 268 484 [l0, l1, l2, l3, l4, l5, l6, l7, l8] (v3 :: v2 :: v1 :: v0 :: st) h Q = Cp d 244 [v0, v1, v2, v3] h (fun o => cK o (fun w h2 => Wp d 268 487 [l0, l1, l2, l3, l4, l5, l6, l7, l8] (w.toList ++ st) h2 Q) (fun _ _ => False)) := (W_invS (st := st) f268_484 rfl rfl (by simp only [List.length_cons]; omega) rfl rfl hp)
theorem f268_487 : fetch 268 487 = some (.istore 5, 2, [], .null) := by decide +kernel
theorem w268_487 : Wp d 268 487 [l0, l1, l2, l3, l4, l5, l6, l7, l8] (.int x :: st) h Q = Wp d 268 489 [l0, l1, l2, l3, kl l4, some (.int x), l6, l7, l8] st h Q := (W_st1 (pc' := 489) (k := 5) f268_487 rfl rfl (by simp only [List.length_cons, List.length_nil]; omega)).trans (by rw [pst1_succ]; rfl)
theorem f268_489 : fetch 268 489 = some (.aload_n 2, 1, [], .null) := by decide +kernel
theorem w268_489 : Wp d 268 489 [l0, l1, some (.ref a), l3, l4, l5, l6, l7, l8] st h Q = Wp d 268 490 [l0, l1, some (.ref a), l3, l4, l5, l6, l7, l8] (.ref a :: st) h Q := W_go f268_489 rfl
theorem f268_490 : fetch 268 490 = some (.aload_n 0, 1, [], .null) := by decide +kernel
theorem w268_490 : Wp d 268 490 [some (.ref a), l1, l2, l3, l4, l5, l6, l7, l8] st h Q = Wp d 268 491 [some (.ref a), l1, l2, l3, l4, l5, l6, l7, l8] (.ref a :: st) h Q := W_go f268_490 rfl
theorem f268_491 : fetch 268 491 = some (.iload 4, 2, [], .null) := by decide +kernel
theorem w268_491 : Wp d 268 491 [l0, l1, l2, l3, some (.int x), l5, l6, l7, l8] st h Q = Wp d 268 493 [l0, l1, l2, l3, some (.int x), l5, l6, l7, l8] (.int x :: st) h Q := W_go f268_491 rfl
theorem f268_493 : fetch 268 493 = some (.iconst 1, 1, [], .null) := by decide +kernel
theorem w268_493 : Wp d 268 493 [l0, l1, l2, l3, l4, l5, l6, l7, l8] st h Q = Wp d 268 494 [l0, l1, l2, l3, l4, l5, l6, l7, l8] (.int (1 : Int32) :: st) h Q := W_go f268_493 rfl
theorem f268_494 : fetch 268 494 = some (.iadd, 1, [], .null) := by decide +kernel
theorem w268_494 : Wp d 268 494 [l0, l1, l2, l3, l4, l5, l6, l7, l8] (.int y :: .int x :: st) h Q = Wp d 268 495 [l0, l1, l2, l3, l4, l5, l6, l7, l8] (.int (x + y) :: st) h Q := W_go f268_494 rfl
theorem f268_495 : fetch 268 495 = some (.iaload, 1, [], .null) := by decide +kernel
theorem w268_495 : Wp d 268 495 [l0, l1, l2, l3, l4, l5, l6, l7, l8] (.int x :: .ref a :: st) h Q = aP false (h.2 a) x (fun w => Wp d 268 496 [l0, l1, l2, l3, l4, l5, l6, l7, l8] (.int w :: st) h Q) := W_ald f268_495 rfl
theorem f268_496 : fetch 268 496 = some (.aload_n 0, 1, [], .null) := by decide +kernel
theorem w268_496 : Wp d 268 496 [some (.ref a), l1, l2, l3, l4, l5, l6, l7, l8] st h Q = Wp d 268 497 [some (.ref a), l1, l2, l3, l4, l5, l6, l7, l8] (.ref a :: st) h Q := W_go f268_496 rfl
theorem f268_497 : fetch 268 497 = some (.iload 4, 2, [], .null) := by decide +kernel
theorem w268_497 : Wp d 268 497 [l0, l1, l2, l3, some (.int x), l5, l6, l7, l8] st h Q = Wp d 268 499 [l0, l1, l2, l3, some (.int x), l5, l6, l7, l8] (.int x :: st) h Q := W_go f268_497 rfl
theorem f268_499 : fetch 268 499 = some (.iconst 2, 1, [], .null) := by decide +kernel
theorem w268_499 : Wp d 268 499 [l0, l1, l2, l3, l4, l5, l6, l7, l8] st h Q = Wp d 268 500 [l0, l1, l2, l3, l4, l5, l6, l7, l8] (.int (2 : Int32) :: st) h Q := W_go f268_499 rfl
theorem f268_500 : fetch 268 500 = some (.iadd, 1, [], .null) := by decide +kernel
theorem w268_500 : Wp d 268 500 [l0, l1, l2, l3, l4, l5, l6, l7, l8] (.int y :: .int x :: st) h Q = Wp d 268 501 [l0, l1, l2, l3, l4, l5, l6, l7, l8] (.int (x + y) :: st) h Q := W_go f268_500 rfl
theorem f268_501 : fetch 268 501 = some (.iaload, 1, [], .null) := by decide +kernel
theorem w268_501 : Wp d 268 501 [l0, l1, l2, l3, l4, l5, l6, l7, l8] (.int x :: .ref a :: st) h Q = aP false (h.2 a) x (fun w => Wp d 268 502 [l0, l1, l2, l3, l4, l5, l6, l7, l8] (.int w :: st) h Q) := W_ald f268_501 rfl
theorem f268_502 : fetch 268 502 = some (.invokevirtual 132, 3, [186, 3, 11, 0, 7097, 1013, 7100, 7098, 7099], .null) := by decide +kernel
theorem w268_502 (hp : psum st ≤ 8) : Wp d 268 502 [l0, l1, l2, l3, l4, l5, l6, l7, l8] (v2 :: v1 :: (.ref b) :: st) h Q = rP (h.2 b) 10 (Cp d 186 [(.ref b), v1, v2] h (fun o => cK o (fun w h2 => Wp d 268 505 [l0, l1, l2, l3, l4, l5, l6, l7, l8] (w.toList ++ st) h2 Q) (fun E h2 => Q (.inr E, h2)))) := (W_invV (st := st) f268_502 rfl rfl (by simp only [List.length_cons]; omega) rfl rfl hp).trans (by simp only [hm268, if_true])
theorem f268_505 : fetch 268 505 = some (.istore 6, 2, [], .null) := by decide +kernel
theorem w268_505 : Wp d 268 505 [l0, l1, l2, l3, l4, l5, l6, l7, l8] (.int x :: st) h Q = Wp d 268 507 [l0, l1, l2, l3, l4, kl l5, some (.int x), l7, l8] st h Q := (W_st1 (pc' := 507) (k := 6) f268_505 rfl rfl (by simp only [List.length_cons, List.length_nil]; omega)).trans (by rw [pst1_succ]; rfl)
theorem f268_507 : fetch 268 507 = some (.aload_n 2, 1, [], .null) := by decide +kernel
theorem w268_507 : Wp d 268 507 [l0, l1, some (.ref a), l3, l4, l5, l6, l7, l8] st h Q = Wp d 268 508 [l0, l1, some (.ref a), l3, l4, l5, l6, l7, l8] (.ref a :: st) h Q := W_go f268_507 rfl
theorem f268_508 : fetch 268 508 = some (.invokevirtual 110, 3, [145, 1, 11, 0, 6183, 1013, 6186, 6184, 6185], .null) := by decide +kernel
theorem w268_508 (hp : psum st ≤ 8) : Wp d 268 508 [l0, l1, l2, l3, l4, l5, l6, l7, l8] ((.ref b) :: st) h Q = rP (h.2 b) 10 (Cp d 145 [(.ref b)] h (fun o => cK o (fun w h2 => Wp d 268 511 [l0, l1, l2, l3, l4, l5, l6, l7, l8] (w.toList ++ st) h2 Q) (fun E h2 => Q (.inr E, h2)))) := (W_invV (st := st) f268_508 rfl rfl (by simp only [List.length_cons]; omega) rfl rfl hp).trans (by simp only [hm268, if_true])
theorem f268_511 : fetch 268 511 = some (.iload 5, 2, [], .null) := by decide +kernel
theorem w268_511 : Wp d 268 511 [l0, l1, l2, l3, l4, some (.int x), l6, l7, l8] st h Q = Wp d 268 513 [l0, l1, l2, l3, l4, some (.int x), l6, l7, l8] (.int x :: st) h Q := W_go f268_511 rfl
theorem f268_513 : fetch 268 513 = some (.if_icmp .eq 5, 3, [], .null) := by decide +kernel
theorem w268_513 : Wp d 268 513 [l0, l1, l2, l3, l4, l5, l6, l7, l8] (.int y :: .int x :: st) h Q = if icond .eq x y = true then Wp d 268 518 [l0, l1, l2, l3, l4, l5, l6, l7, l8] st h Q else Wp d 268 516 [l0, l1, l2, l3, l4, l5, l6, l7, l8] st h Q := W_if f268_513 rfl
theorem f268_516 : fetch 268 516 = some (.iconst 0, 1, [], .null) := by decide +kernel
theorem w268_516 : Wp d 268 516 [l0, l1, l2, l3, l4, l5, l6, l7, l8] st h Q = Wp d 268 517 [l0, l1, l2, l3, l4, l5, l6, l7, l8] (.int (0 : Int32) :: st) h Q := W_go f268_516 rfl
theorem f268_517 : fetch 268 517 = some (.ireturn, 1, [], .null) := by decide +kernel
theorem w268_517 : Wp d 268 517 [l0, l1, l2, l3, l4, l5, l6, l7, l8] [.int x] h Q = (if narrow .boolean (.int x) = .int x then Q (.inl (some (.int x)), h) else False) := W_zret f268_517 hr268
theorem f268_518 : fetch 268 518 = some (.iload 5, 2, [], .null) := by decide +kernel
theorem w268_518 : Wp d 268 518 [l0, l1, l2, l3, l4, some (.int x), l6, l7, l8] st h Q = Wp d 268 520 [l0, l1, l2, l3, l4, some (.int x), l6, l7, l8] (.int x :: st) h Q := W_go f268_518 rfl
theorem f268_520 : fetch 268 520 = some (.ifCond .ne 15, 3, [], .null) := by decide +kernel
theorem w268_520 : Wp d 268 520 [l0, l1, l2, l3, l4, l5, l6, l7, l8] (.int x :: st) h Q = if icond .ne x 0 = true then Wp d 268 535 [l0, l1, l2, l3, l4, l5, l6, l7, l8] st h Q else Wp d 268 523 [l0, l1, l2, l3, l4, l5, l6, l7, l8] st h Q := W_if f268_520 rfl
theorem f268_523 : fetch 268 523 = some (.aload_n 3, 1, [], .null) := by decide +kernel
theorem w268_523 : Wp d 268 523 [l0, l1, l2, some (.ref a), l4, l5, l6, l7, l8] st h Q = Wp d 268 524 [l0, l1, l2, some (.ref a), l4, l5, l6, l7, l8] (.ref a :: st) h Q := W_go f268_523 rfl
theorem f268_524 : fetch 268 524 = some (.iconst 0, 1, [], .null) := by decide +kernel
theorem w268_524 : Wp d 268 524 [l0, l1, l2, l3, l4, l5, l6, l7, l8] st h Q = Wp d 268 525 [l0, l1, l2, l3, l4, l5, l6, l7, l8] (.int (0 : Int32) :: st) h Q := W_go f268_524 rfl
theorem f268_525 : fetch 268 525 = some (.laload, 1, [], .null) := by decide +kernel
theorem w268_525 : Wp d 268 525 [l0, l1, l2, l3, l4, l5, l6, l7, l8] (.int x :: .ref a :: st) h Q = lP (h.2 a) x (fun w => Wp d 268 526 [l0, l1, l2, l3, l4, l5, l6, l7, l8] (.long w :: st) h Q) := W_lld f268_525 rfl
theorem f268_526 : fetch 268 526 = some (.iload 6, 2, [], .null) := by decide +kernel
theorem w268_526 : Wp d 268 526 [l0, l1, l2, l3, l4, l5, some (.int x), l7, l8] st h Q = Wp d 268 528 [l0, l1, l2, l3, l4, l5, some (.int x), l7, l8] (.int x :: st) h Q := W_go f268_526 rfl
theorem f268_528 : fetch 268 528 = some (.i2l, 1, [], .null) := by decide +kernel
theorem w268_528 : Wp d 268 528 [l0, l1, l2, l3, l4, l5, l6, l7, l8] (.int x :: st) h Q = Wp d 268 529 [l0, l1, l2, l3, l4, l5, l6, l7, l8] (.long x.toInt64 :: st) h Q := W_go f268_528 rfl
theorem f268_529 : fetch 268 529 = some (.lcmp, 1, [], .null) := by decide +kernel
theorem w268_529 : Wp d 268 529 [l0, l1, l2, l3, l4, l5, l6, l7, l8] (.long y8 :: .long x8 :: st) h Q = Wp d 268 530 [l0, l1, l2, l3, l4, l5, l6, l7, l8] (.int (lg_cmp x8 y8) :: st) h Q := W_go f268_529 rfl
theorem f268_530 : fetch 268 530 = some (.ifCond .eq 5, 3, [], .null) := by decide +kernel
theorem w268_530 : Wp d 268 530 [l0, l1, l2, l3, l4, l5, l6, l7, l8] (.int x :: st) h Q = if icond .eq x 0 = true then Wp d 268 535 [l0, l1, l2, l3, l4, l5, l6, l7, l8] st h Q else Wp d 268 533 [l0, l1, l2, l3, l4, l5, l6, l7, l8] st h Q := W_if f268_530 rfl
theorem f268_533 : fetch 268 533 = some (.iconst 0, 1, [], .null) := by decide +kernel
theorem w268_533 : Wp d 268 533 [l0, l1, l2, l3, l4, l5, l6, l7, l8] st h Q = Wp d 268 534 [l0, l1, l2, l3, l4, l5, l6, l7, l8] (.int (0 : Int32) :: st) h Q := W_go f268_533 rfl
theorem f268_534 : fetch 268 534 = some (.ireturn, 1, [], .null) := by decide +kernel
theorem w268_534 : Wp d 268 534 [l0, l1, l2, l3, l4, l5, l6, l7, l8] [.int x] h Q = (if narrow .boolean (.int x) = .int x then Q (.inl (some (.int x)), h) else False) := W_zret f268_534 hr268
theorem f268_535 : fetch 268 535 = some (.goto 1601, 3, [], .null) := by decide +kernel
theorem w268_535 : Wp d 268 535 [l0, l1, l2, l3, l4, l5, l6, l7, l8] st h Q = Wp d 268 2136 [l0, l1, l2, l3, l4, l5, l6, l7, l8] st h Q := W_go f268_535 rfl
theorem f268_538 : fetch 268 538 = some (.aload_n 1, 1, [], .null) := by decide +kernel
theorem w268_538 : Wp d 268 538 [l0, some (.ref a), l2, l3, l4, l5, l6, l7, l8] st h Q = Wp d 268 539 [l0, some (.ref a), l2, l3, l4, l5, l6, l7, l8] (.ref a :: st) h Q := W_go f268_538 rfl
theorem f268_539 : fetch 268 539 = some (.aload_n 0, 1, [], .null) := by decide +kernel
theorem w268_539 : Wp d 268 539 [some (.ref a), l1, l2, l3, l4, l5, l6, l7, l8] st h Q = Wp d 268 540 [some (.ref a), l1, l2, l3, l4, l5, l6, l7, l8] (.ref a :: st) h Q := W_go f268_539 rfl
theorem f268_540 : fetch 268 540 = some (.iload 4, 2, [], .null) := by decide +kernel
theorem w268_540 : Wp d 268 540 [l0, l1, l2, l3, some (.int x), l5, l6, l7, l8] st h Q = Wp d 268 542 [l0, l1, l2, l3, some (.int x), l5, l6, l7, l8] (.int x :: st) h Q := W_go f268_540 rfl
theorem f268_542 : fetch 268 542 = some (.iconst 1, 1, [], .null) := by decide +kernel
theorem w268_542 : Wp d 268 542 [l0, l1, l2, l3, l4, l5, l6, l7, l8] st h Q = Wp d 268 543 [l0, l1, l2, l3, l4, l5, l6, l7, l8] (.int (1 : Int32) :: st) h Q := W_go f268_542 rfl
theorem f268_543 : fetch 268 543 = some (.iadd, 1, [], .null) := by decide +kernel
theorem w268_543 : Wp d 268 543 [l0, l1, l2, l3, l4, l5, l6, l7, l8] (.int y :: .int x :: st) h Q = Wp d 268 544 [l0, l1, l2, l3, l4, l5, l6, l7, l8] (.int (x + y) :: st) h Q := W_go f268_543 rfl
theorem f268_544 : fetch 268 544 = some (.iaload, 1, [], .null) := by decide +kernel
theorem w268_544 : Wp d 268 544 [l0, l1, l2, l3, l4, l5, l6, l7, l8] (.int x :: .ref a :: st) h Q = aP false (h.2 a) x (fun w => Wp d 268 545 [l0, l1, l2, l3, l4, l5, l6, l7, l8] (.int w :: st) h Q) := W_ald f268_544 rfl
theorem f268_545 : fetch 268 545 = some (.ifCond .eq 7, 3, [], .null) := by decide +kernel
theorem w268_545 : Wp d 268 545 [l0, l1, l2, l3, l4, l5, l6, l7, l8] (.int x :: st) h Q = if icond .eq x 0 = true then Wp d 268 552 [l0, l1, l2, l3, l4, l5, l6, l7, l8] st h Q else Wp d 268 548 [l0, l1, l2, l3, l4, l5, l6, l7, l8] st h Q := W_if f268_545 rfl
theorem f268_548 : fetch 268 548 = some (.iconst 1, 1, [], .null) := by decide +kernel
theorem w268_548 : Wp d 268 548 [l0, l1, l2, l3, l4, l5, l6, l7, l8] st h Q = Wp d 268 549 [l0, l1, l2, l3, l4, l5, l6, l7, l8] (.int (1 : Int32) :: st) h Q := W_go f268_548 rfl
theorem f268_549 : fetch 268 549 = some (.goto 4, 3, [], .null) := by decide +kernel
theorem w268_549 : Wp d 268 549 [l0, l1, l2, l3, l4, l5, l6, l7, l8] st h Q = Wp d 268 553 [l0, l1, l2, l3, l4, l5, l6, l7, l8] st h Q := W_go f268_549 rfl
theorem f268_552 : fetch 268 552 = some (.iconst 0, 1, [], .null) := by decide +kernel
theorem w268_552 : Wp d 268 552 [l0, l1, l2, l3, l4, l5, l6, l7, l8] st h Q = Wp d 268 553 [l0, l1, l2, l3, l4, l5, l6, l7, l8] (.int (0 : Int32) :: st) h Q := W_go f268_552 rfl
theorem f268_553 : fetch 268 553 = some (.invokevirtual 133, 3, [75, 2, 8, 0, 3138, 1001, 3141, 3139, 3140], .null) := by decide +kernel
theorem w268_553 (hp : psum st ≤ 8) : Wp d 268 553 [l0, l1, l2, l3, l4, l5, l6, l7, l8] (v1 :: (.ref b) :: st) h Q = rP (h.2 b) 7 (Cp d 75 [(.ref b), v1] h (fun o => cK o (fun w h2 => Wp d 268 556 [l0, l1, l2, l3, l4, l5, l6, l7, l8] (w.toList ++ st) h2 Q) (fun E h2 => Q (.inr E, h2)))) := (W_invV (st := st) f268_553 rfl rfl (by simp only [List.length_cons]; omega) rfl rfl hp).trans (by simp only [hm268, if_true])
theorem f268_556 : fetch 268 556 = some (.aload_n 2, 1, [], .null) := by decide +kernel
theorem w268_556 : Wp d 268 556 [l0, l1, some (.ref a), l3, l4, l5, l6, l7, l8] st h Q = Wp d 268 557 [l0, l1, some (.ref a), l3, l4, l5, l6, l7, l8] (.ref a :: st) h Q := W_go f268_556 rfl
theorem f268_557 : fetch 268 557 = some (.aload_n 0, 1, [], .null) := by decide +kernel
theorem w268_557 : Wp d 268 557 [some (.ref a), l1, l2, l3, l4, l5, l6, l7, l8] st h Q = Wp d 268 558 [some (.ref a), l1, l2, l3, l4, l5, l6, l7, l8] (.ref a :: st) h Q := W_go f268_557 rfl
theorem f268_558 : fetch 268 558 = some (.iload 4, 2, [], .null) := by decide +kernel
theorem w268_558 : Wp d 268 558 [l0, l1, l2, l3, some (.int x), l5, l6, l7, l8] st h Q = Wp d 268 560 [l0, l1, l2, l3, some (.int x), l5, l6, l7, l8] (.int x :: st) h Q := W_go f268_558 rfl
theorem f268_560 : fetch 268 560 = some (.iconst 1, 1, [], .null) := by decide +kernel
theorem w268_560 : Wp d 268 560 [l0, l1, l2, l3, l4, l5, l6, l7, l8] st h Q = Wp d 268 561 [l0, l1, l2, l3, l4, l5, l6, l7, l8] (.int (1 : Int32) :: st) h Q := W_go f268_560 rfl
theorem f268_561 : fetch 268 561 = some (.iadd, 1, [], .null) := by decide +kernel
theorem w268_561 : Wp d 268 561 [l0, l1, l2, l3, l4, l5, l6, l7, l8] (.int y :: .int x :: st) h Q = Wp d 268 562 [l0, l1, l2, l3, l4, l5, l6, l7, l8] (.int (x + y) :: st) h Q := W_go f268_561 rfl
theorem f268_562 : fetch 268 562 = some (.iaload, 1, [], .null) := by decide +kernel
theorem w268_562 : Wp d 268 562 [l0, l1, l2, l3, l4, l5, l6, l7, l8] (.int x :: .ref a :: st) h Q = aP false (h.2 a) x (fun w => Wp d 268 563 [l0, l1, l2, l3, l4, l5, l6, l7, l8] (.int w :: st) h Q) := W_ald f268_562 rfl
theorem f268_563 : fetch 268 563 = some (.ifCond .eq 7, 3, [], .null) := by decide +kernel
theorem w268_563 : Wp d 268 563 [l0, l1, l2, l3, l4, l5, l6, l7, l8] (.int x :: st) h Q = if icond .eq x 0 = true then Wp d 268 570 [l0, l1, l2, l3, l4, l5, l6, l7, l8] st h Q else Wp d 268 566 [l0, l1, l2, l3, l4, l5, l6, l7, l8] st h Q := W_if f268_563 rfl
theorem f268_566 : fetch 268 566 = some (.iconst 1, 1, [], .null) := by decide +kernel
theorem w268_566 : Wp d 268 566 [l0, l1, l2, l3, l4, l5, l6, l7, l8] st h Q = Wp d 268 567 [l0, l1, l2, l3, l4, l5, l6, l7, l8] (.int (1 : Int32) :: st) h Q := W_go f268_566 rfl
theorem f268_567 : fetch 268 567 = some (.goto 4, 3, [], .null) := by decide +kernel
theorem w268_567 : Wp d 268 567 [l0, l1, l2, l3, l4, l5, l6, l7, l8] st h Q = Wp d 268 571 [l0, l1, l2, l3, l4, l5, l6, l7, l8] st h Q := W_go f268_567 rfl
theorem f268_570 : fetch 268 570 = some (.iconst 0, 1, [], .null) := by decide +kernel
theorem w268_570 : Wp d 268 570 [l0, l1, l2, l3, l4, l5, l6, l7, l8] st h Q = Wp d 268 571 [l0, l1, l2, l3, l4, l5, l6, l7, l8] (.int (0 : Int32) :: st) h Q := W_go f268_570 rfl
theorem f268_571 : fetch 268 571 = some (.invokevirtual 137, 3, [187, 2, 11, 0, 7113, 1013, 7116, 7114, 7115], .null) := by decide +kernel
theorem w268_571 (hp : psum st ≤ 8) : Wp d 268 571 [l0, l1, l2, l3, l4, l5, l6, l7, l8] (v1 :: (.ref b) :: st) h Q = rP (h.2 b) 10 (Cp d 187 [(.ref b), v1] h (fun o => cK o (fun w h2 => Wp d 268 574 [l0, l1, l2, l3, l4, l5, l6, l7, l8] (w.toList ++ st) h2 Q) (fun E h2 => Q (.inr E, h2)))) := (W_invV (st := st) f268_571 rfl rfl (by simp only [List.length_cons]; omega) rfl rfl hp).trans (by simp only [hm268, if_true])
theorem f268_574 : fetch 268 574 = some (.if_icmp .eq 1562, 3, [], .null) := by decide +kernel
theorem w268_574 : Wp d 268 574 [l0, l1, l2, l3, l4, l5, l6, l7, l8] (.int y :: .int x :: st) h Q = if icond .eq x y = true then Wp d 268 2136 [l0, l1, l2, l3, l4, l5, l6, l7, l8] st h Q else Wp d 268 577 [l0, l1, l2, l3, l4, l5, l6, l7, l8] st h Q := W_if f268_574 rfl
theorem f268_577 : fetch 268 577 = some (.iconst 0, 1, [], .null) := by decide +kernel
theorem w268_577 : Wp d 268 577 [l0, l1, l2, l3, l4, l5, l6, l7, l8] st h Q = Wp d 268 578 [l0, l1, l2, l3, l4, l5, l6, l7, l8] (.int (0 : Int32) :: st) h Q := W_go f268_577 rfl
theorem f268_578 : fetch 268 578 = some (.ireturn, 1, [], .null) := by decide +kernel
theorem w268_578 : Wp d 268 578 [l0, l1, l2, l3, l4, l5, l6, l7, l8] [.int x] h Q = (if narrow .boolean (.int x) = .int x then Q (.inl (some (.int x)), h) else False) := W_zret f268_578 hr268
theorem f268_579 : fetch 268 579 = some (.aload_n 1, 1, [], .null) := by decide +kernel
theorem w268_579 : Wp d 268 579 [l0, some (.ref a), l2, l3, l4, l5, l6, l7, l8] st h Q = Wp d 268 580 [l0, some (.ref a), l2, l3, l4, l5, l6, l7, l8] (.ref a :: st) h Q := W_go f268_579 rfl
theorem f268_580 : fetch 268 580 = some (.aload_n 0, 1, [], .null) := by decide +kernel
theorem w268_580 : Wp d 268 580 [some (.ref a), l1, l2, l3, l4, l5, l6, l7, l8] st h Q = Wp d 268 581 [some (.ref a), l1, l2, l3, l4, l5, l6, l7, l8] (.ref a :: st) h Q := W_go f268_580 rfl
theorem f268_581 : fetch 268 581 = some (.iload 4, 2, [], .null) := by decide +kernel
theorem w268_581 : Wp d 268 581 [l0, l1, l2, l3, some (.int x), l5, l6, l7, l8] st h Q = Wp d 268 583 [l0, l1, l2, l3, some (.int x), l5, l6, l7, l8] (.int x :: st) h Q := W_go f268_581 rfl
theorem f268_583 : fetch 268 583 = some (.iconst 1, 1, [], .null) := by decide +kernel
theorem w268_583 : Wp d 268 583 [l0, l1, l2, l3, l4, l5, l6, l7, l8] st h Q = Wp d 268 584 [l0, l1, l2, l3, l4, l5, l6, l7, l8] (.int (1 : Int32) :: st) h Q := W_go f268_583 rfl
theorem f268_584 : fetch 268 584 = some (.iadd, 1, [], .null) := by decide +kernel
theorem w268_584 : Wp d 268 584 [l0, l1, l2, l3, l4, l5, l6, l7, l8] (.int y :: .int x :: st) h Q = Wp d 268 585 [l0, l1, l2, l3, l4, l5, l6, l7, l8] (.int (x + y) :: st) h Q := W_go f268_584 rfl
theorem f268_585 : fetch 268 585 = some (.iaload, 1, [], .null) := by decide +kernel
theorem w268_585 : Wp d 268 585 [l0, l1, l2, l3, l4, l5, l6, l7, l8] (.int x :: .ref a :: st) h Q = aP false (h.2 a) x (fun w => Wp d 268 586 [l0, l1, l2, l3, l4, l5, l6, l7, l8] (.int w :: st) h Q) := W_ald f268_585 rfl
theorem f268_586 : fetch 268 586 = some (.aload_n 3, 1, [], .null) := by decide +kernel
theorem w268_586 : Wp d 268 586 [l0, l1, l2, some (.ref a), l4, l5, l6, l7, l8] st h Q = Wp d 268 587 [l0, l1, l2, some (.ref a), l4, l5, l6, l7, l8] (.ref a :: st) h Q := W_go f268_586 rfl
theorem f268_587 : fetch 268 587 = some (.invokestatic 138, 3, [245, 3, 0, 0, 4135, 1000, 4137, 4136], .null) := by decide +kernel
theorem w268_587 (hp : psum st ≤ 8) : Wp d 268 587 [l0, l1, l2, l3, l4, l5, l6, l7, l8] (v2 :: v1 :: v0 :: st) h Q = Cp d 245 [v0, v1, v2] h (fun o => cK o (fun w h2 => Wp d 268 590 [l0, l1, l2, l3, l4, l5, l6, l7, l8] (w.toList ++ st) h2 Q) (fun _ _ => False)) := (W_invS (st := st) f268_587 rfl rfl (by simp only [List.length_cons]; omega) rfl rfl hp)
theorem f268_590 : fetch 268 590 = some (.istore 5, 2, [], .null) := by decide +kernel
theorem w268_590 : Wp d 268 590 [l0, l1, l2, l3, l4, l5, l6, l7, l8] (.int x :: st) h Q = Wp d 268 592 [l0, l1, l2, l3, kl l4, some (.int x), l6, l7, l8] st h Q := (W_st1 (pc' := 592) (k := 5) f268_590 rfl rfl (by simp only [List.length_cons, List.length_nil]; omega)).trans (by rw [pst1_succ]; rfl)
theorem f268_592 : fetch 268 592 = some (.aload_n 2, 1, [], .null) := by decide +kernel
theorem w268_592 : Wp d 268 592 [l0, l1, some (.ref a), l3, l4, l5, l6, l7, l8] st h Q = Wp d 268 593 [l0, l1, some (.ref a), l3, l4, l5, l6, l7, l8] (.ref a :: st) h Q := W_go f268_592 rfl
theorem f268_593 : fetch 268 593 = some (.aload_n 0, 1, [], .null) := by decide +kernel
theorem w268_593 : Wp d 268 593 [some (.ref a), l1, l2, l3, l4, l5, l6, l7, l8] st h Q = Wp d 268 594 [some (.ref a), l1, l2, l3, l4, l5, l6, l7, l8] (.ref a :: st) h Q := W_go f268_593 rfl
theorem f268_594 : fetch 268 594 = some (.iload 4, 2, [], .null) := by decide +kernel
theorem w268_594 : Wp d 268 594 [l0, l1, l2, l3, some (.int x), l5, l6, l7, l8] st h Q = Wp d 268 596 [l0, l1, l2, l3, some (.int x), l5, l6, l7, l8] (.int x :: st) h Q := W_go f268_594 rfl
theorem f268_596 : fetch 268 596 = some (.iconst 1, 1, [], .null) := by decide +kernel
theorem w268_596 : Wp d 268 596 [l0, l1, l2, l3, l4, l5, l6, l7, l8] st h Q = Wp d 268 597 [l0, l1, l2, l3, l4, l5, l6, l7, l8] (.int (1 : Int32) :: st) h Q := W_go f268_596 rfl
theorem f268_597 : fetch 268 597 = some (.iadd, 1, [], .null) := by decide +kernel
theorem w268_597 : Wp d 268 597 [l0, l1, l2, l3, l4, l5, l6, l7, l8] (.int y :: .int x :: st) h Q = Wp d 268 598 [l0, l1, l2, l3, l4, l5, l6, l7, l8] (.int (x + y) :: st) h Q := W_go f268_597 rfl
theorem f268_598 : fetch 268 598 = some (.iaload, 1, [], .null) := by decide +kernel
theorem w268_598 : Wp d 268 598 [l0, l1, l2, l3, l4, l5, l6, l7, l8] (.int x :: .ref a :: st) h Q = aP false (h.2 a) x (fun w => Wp d 268 599 [l0, l1, l2, l3, l4, l5, l6, l7, l8] (.int w :: st) h Q) := W_ald f268_598 rfl
theorem f268_599 : fetch 268 599 = some (.invokevirtual 140, 3, [188, 2, 11, 0, 7117, 1013, 7120, 7118, 7119], .null) := by decide +kernel
theorem w268_599 (hp : psum st ≤ 8) : Wp d 268 599 [l0, l1, l2, l3, l4, l5, l6, l7, l8] (v1 :: (.ref b) :: st) h Q = rP (h.2 b) 10 (Cp d 188 [(.ref b), v1] h (fun o => cK o (fun w h2 => Wp d 268 602 [l0, l1, l2, l3, l4, l5, l6, l7, l8] (w.toList ++ st) h2 Q) (fun E h2 => Q (.inr E, h2)))) := (W_invV (st := st) f268_599 rfl rfl (by simp only [List.length_cons]; omega) rfl rfl hp).trans (by simp only [hm268, if_true])
theorem f268_602 : fetch 268 602 = some (.istore 6, 2, [], .null) := by decide +kernel
theorem w268_602 : Wp d 268 602 [l0, l1, l2, l3, l4, l5, l6, l7, l8] (.int x :: st) h Q = Wp d 268 604 [l0, l1, l2, l3, l4, kl l5, some (.int x), l7, l8] st h Q := (W_st1 (pc' := 604) (k := 6) f268_602 rfl rfl (by simp only [List.length_cons, List.length_nil]; omega)).trans (by rw [pst1_succ]; rfl)
theorem f268_604 : fetch 268 604 = some (.aload_n 2, 1, [], .null) := by decide +kernel
theorem w268_604 : Wp d 268 604 [l0, l1, some (.ref a), l3, l4, l5, l6, l7, l8] st h Q = Wp d 268 605 [l0, l1, some (.ref a), l3, l4, l5, l6, l7, l8] (.ref a :: st) h Q := W_go f268_604 rfl
theorem f268_605 : fetch 268 605 = some (.invokevirtual 110, 3, [145, 1, 11, 0, 6183, 1013, 6186, 6184, 6185], .null) := by decide +kernel
theorem w268_605 (hp : psum st ≤ 8) : Wp d 268 605 [l0, l1, l2, l3, l4, l5, l6, l7, l8] ((.ref b) :: st) h Q = rP (h.2 b) 10 (Cp d 145 [(.ref b)] h (fun o => cK o (fun w h2 => Wp d 268 608 [l0, l1, l2, l3, l4, l5, l6, l7, l8] (w.toList ++ st) h2 Q) (fun E h2 => Q (.inr E, h2)))) := (W_invV (st := st) f268_605 rfl rfl (by simp only [List.length_cons]; omega) rfl rfl hp).trans (by simp only [hm268, if_true])
theorem f268_608 : fetch 268 608 = some (.iload 5, 2, [], .null) := by decide +kernel
theorem w268_608 : Wp d 268 608 [l0, l1, l2, l3, l4, some (.int x), l6, l7, l8] st h Q = Wp d 268 610 [l0, l1, l2, l3, l4, some (.int x), l6, l7, l8] (.int x :: st) h Q := W_go f268_608 rfl
theorem f268_610 : fetch 268 610 = some (.if_icmp .eq 5, 3, [], .null) := by decide +kernel
theorem w268_610 : Wp d 268 610 [l0, l1, l2, l3, l4, l5, l6, l7, l8] (.int y :: .int x :: st) h Q = if icond .eq x y = true then Wp d 268 615 [l0, l1, l2, l3, l4, l5, l6, l7, l8] st h Q else Wp d 268 613 [l0, l1, l2, l3, l4, l5, l6, l7, l8] st h Q := W_if f268_610 rfl
theorem f268_613 : fetch 268 613 = some (.iconst 0, 1, [], .null) := by decide +kernel
theorem w268_613 : Wp d 268 613 [l0, l1, l2, l3, l4, l5, l6, l7, l8] st h Q = Wp d 268 614 [l0, l1, l2, l3, l4, l5, l6, l7, l8] (.int (0 : Int32) :: st) h Q := W_go f268_613 rfl
theorem f268_614 : fetch 268 614 = some (.ireturn, 1, [], .null) := by decide +kernel
theorem w268_614 : Wp d 268 614 [l0, l1, l2, l3, l4, l5, l6, l7, l8] [.int x] h Q = (if narrow .boolean (.int x) = .int x then Q (.inl (some (.int x)), h) else False) := W_zret f268_614 hr268
theorem f268_615 : fetch 268 615 = some (.iload 5, 2, [], .null) := by decide +kernel
theorem w268_615 : Wp d 268 615 [l0, l1, l2, l3, l4, some (.int x), l6, l7, l8] st h Q = Wp d 268 617 [l0, l1, l2, l3, l4, some (.int x), l6, l7, l8] (.int x :: st) h Q := W_go f268_615 rfl
theorem f268_617 : fetch 268 617 = some (.ifCond .ne 22, 3, [], .null) := by decide +kernel
theorem w268_617 : Wp d 268 617 [l0, l1, l2, l3, l4, l5, l6, l7, l8] (.int x :: st) h Q = if icond .ne x 0 = true then Wp d 268 639 [l0, l1, l2, l3, l4, l5, l6, l7, l8] st h Q else Wp d 268 620 [l0, l1, l2, l3, l4, l5, l6, l7, l8] st h Q := W_if f268_617 rfl
theorem f268_620 : fetch 268 620 = some (.aload_n 3, 1, [], .null) := by decide +kernel
theorem w268_620 : Wp d 268 620 [l0, l1, l2, some (.ref a), l4, l5, l6, l7, l8] st h Q = Wp d 268 621 [l0, l1, l2, some (.ref a), l4, l5, l6, l7, l8] (.ref a :: st) h Q := W_go f268_620 rfl
theorem f268_621 : fetch 268 621 = some (.iconst 0, 1, [], .null) := by decide +kernel
theorem w268_621 : Wp d 268 621 [l0, l1, l2, l3, l4, l5, l6, l7, l8] st h Q = Wp d 268 622 [l0, l1, l2, l3, l4, l5, l6, l7, l8] (.int (0 : Int32) :: st) h Q := W_go f268_621 rfl
theorem f268_622 : fetch 268 622 = some (.laload, 1, [], .null) := by decide +kernel
theorem w268_622 : Wp d 268 622 [l0, l1, l2, l3, l4, l5, l6, l7, l8] (.int x :: .ref a :: st) h Q = lP (h.2 a) x (fun w => Wp d 268 623 [l0, l1, l2, l3, l4, l5, l6, l7, l8] (.long w :: st) h Q) := W_lld f268_622 rfl
theorem f268_623 : fetch 268 623 = some (.iload 6, 2, [], .null) := by decide +kernel
theorem w268_623 : Wp d 268 623 [l0, l1, l2, l3, l4, l5, some (.int x), l7, l8] st h Q = Wp d 268 625 [l0, l1, l2, l3, l4, l5, some (.int x), l7, l8] (.int x :: st) h Q := W_go f268_623 rfl
theorem f268_625 : fetch 268 625 = some (.ifCond .eq 7, 3, [], .null) := by decide +kernel
theorem w268_625 : Wp d 268 625 [l0, l1, l2, l3, l4, l5, l6, l7, l8] (.int x :: st) h Q = if icond .eq x 0 = true then Wp d 268 632 [l0, l1, l2, l3, l4, l5, l6, l7, l8] st h Q else Wp d 268 628 [l0, l1, l2, l3, l4, l5, l6, l7, l8] st h Q := W_if f268_625 rfl
theorem f268_628 : fetch 268 628 = some (.lconst 1, 1, [], .null) := by decide +kernel
theorem w268_628 : Wp d 268 628 [l0, l1, l2, l3, l4, l5, l6, l7, l8] st h Q = Wp d 268 629 [l0, l1, l2, l3, l4, l5, l6, l7, l8] (.long (1 : Int64) :: st) h Q := W_go f268_628 rfl
theorem f268_629 : fetch 268 629 = some (.goto 4, 3, [], .null) := by decide +kernel
theorem w268_629 : Wp d 268 629 [l0, l1, l2, l3, l4, l5, l6, l7, l8] st h Q = Wp d 268 633 [l0, l1, l2, l3, l4, l5, l6, l7, l8] st h Q := W_go f268_629 rfl
theorem f268_632 : fetch 268 632 = some (.lconst 0, 1, [], .null) := by decide +kernel
theorem w268_632 : Wp d 268 632 [l0, l1, l2, l3, l4, l5, l6, l7, l8] st h Q = Wp d 268 633 [l0, l1, l2, l3, l4, l5, l6, l7, l8] (.long (0 : Int64) :: st) h Q := W_go f268_632 rfl
theorem f268_633 : fetch 268 633 = some (.lcmp, 1, [], .null) := by decide +kernel
theorem w268_633 : Wp d 268 633 [l0, l1, l2, l3, l4, l5, l6, l7, l8] (.long y8 :: .long x8 :: st) h Q = Wp d 268 634 [l0, l1, l2, l3, l4, l5, l6, l7, l8] (.int (lg_cmp x8 y8) :: st) h Q := W_go f268_633 rfl
theorem f268_634 : fetch 268 634 = some (.ifCond .eq 5, 3, [], .null) := by decide +kernel
theorem w268_634 : Wp d 268 634 [l0, l1, l2, l3, l4, l5, l6, l7, l8] (.int x :: st) h Q = if icond .eq x 0 = true then Wp d 268 639 [l0, l1, l2, l3, l4, l5, l6, l7, l8] st h Q else Wp d 268 637 [l0, l1, l2, l3, l4, l5, l6, l7, l8] st h Q := W_if f268_634 rfl
theorem f268_637 : fetch 268 637 = some (.iconst 0, 1, [], .null) := by decide +kernel
theorem w268_637 : Wp d 268 637 [l0, l1, l2, l3, l4, l5, l6, l7, l8] st h Q = Wp d 268 638 [l0, l1, l2, l3, l4, l5, l6, l7, l8] (.int (0 : Int32) :: st) h Q := W_go f268_637 rfl
theorem f268_638 : fetch 268 638 = some (.ireturn, 1, [], .null) := by decide +kernel
theorem w268_638 : Wp d 268 638 [l0, l1, l2, l3, l4, l5, l6, l7, l8] [.int x] h Q = (if narrow .boolean (.int x) = .int x then Q (.inl (some (.int x)), h) else False) := W_zret f268_638 hr268
theorem f268_639 : fetch 268 639 = some (.goto 1497, 3, [], .null) := by decide +kernel
theorem w268_639 : Wp d 268 639 [l0, l1, l2, l3, l4, l5, l6, l7, l8] st h Q = Wp d 268 2136 [l0, l1, l2, l3, l4, l5, l6, l7, l8] st h Q := W_go f268_639 rfl
theorem f268_642 : fetch 268 642 = some (.aload_n 1, 1, [], .null) := by decide +kernel
theorem w268_642 : Wp d 268 642 [l0, some (.ref a), l2, l3, l4, l5, l6, l7, l8] st h Q = Wp d 268 643 [l0, some (.ref a), l2, l3, l4, l5, l6, l7, l8] (.ref a :: st) h Q := W_go f268_642 rfl
theorem f268_643 : fetch 268 643 = some (.aload_n 0, 1, [], .null) := by decide +kernel
theorem w268_643 : Wp d 268 643 [some (.ref a), l1, l2, l3, l4, l5, l6, l7, l8] st h Q = Wp d 268 644 [some (.ref a), l1, l2, l3, l4, l5, l6, l7, l8] (.ref a :: st) h Q := W_go f268_643 rfl
theorem f268_644 : fetch 268 644 = some (.iload 4, 2, [], .null) := by decide +kernel
theorem w268_644 : Wp d 268 644 [l0, l1, l2, l3, some (.int x), l5, l6, l7, l8] st h Q = Wp d 268 646 [l0, l1, l2, l3, some (.int x), l5, l6, l7, l8] (.int x :: st) h Q := W_go f268_644 rfl
theorem f268_646 : fetch 268 646 = some (.iconst 1, 1, [], .null) := by decide +kernel
theorem w268_646 : Wp d 268 646 [l0, l1, l2, l3, l4, l5, l6, l7, l8] st h Q = Wp d 268 647 [l0, l1, l2, l3, l4, l5, l6, l7, l8] (.int (1 : Int32) :: st) h Q := W_go f268_646 rfl
theorem f268_647 : fetch 268 647 = some (.iadd, 1, [], .null) := by decide +kernel
theorem w268_647 : Wp d 268 647 [l0, l1, l2, l3, l4, l5, l6, l7, l8] (.int y :: .int x :: st) h Q = Wp d 268 648 [l0, l1, l2, l3, l4, l5, l6, l7, l8] (.int (x + y) :: st) h Q := W_go f268_647 rfl
theorem f268_648 : fetch 268 648 = some (.iaload, 1, [], .null) := by decide +kernel
theorem w268_648 : Wp d 268 648 [l0, l1, l2, l3, l4, l5, l6, l7, l8] (.int x :: .ref a :: st) h Q = aP false (h.2 a) x (fun w => Wp d 268 649 [l0, l1, l2, l3, l4, l5, l6, l7, l8] (.int w :: st) h Q) := W_ald f268_648 rfl
theorem f268_649 : fetch 268 649 = some (.aload_n 3, 1, [], .null) := by decide +kernel
theorem w268_649 : Wp d 268 649 [l0, l1, l2, some (.ref a), l4, l5, l6, l7, l8] st h Q = Wp d 268 650 [l0, l1, l2, some (.ref a), l4, l5, l6, l7, l8] (.ref a :: st) h Q := W_go f268_649 rfl
theorem f268_650 : fetch 268 650 = some (.invokestatic 141, 3, [246, 3, 0, 0, 4151, 1000, 4153, 4152], .null) := by decide +kernel
theorem w268_650 (hp : psum st ≤ 8) : Wp d 268 650 [l0, l1, l2, l3, l4, l5, l6, l7, l8] (v2 :: v1 :: v0 :: st) h Q = Cp d 246 [v0, v1, v2] h (fun o => cK o (fun w h2 => Wp d 268 653 [l0, l1, l2, l3, l4, l5, l6, l7, l8] (w.toList ++ st) h2 Q) (fun _ _ => False)) := (W_invS (st := st) f268_650 rfl rfl (by simp only [List.length_cons]; omega) rfl rfl hp)
theorem f268_653 : fetch 268 653 = some (.istore 5, 2, [], .null) := by decide +kernel
theorem w268_653 : Wp d 268 653 [l0, l1, l2, l3, l4, l5, l6, l7, l8] (.int x :: st) h Q = Wp d 268 655 [l0, l1, l2, l3, kl l4, some (.int x), l6, l7, l8] st h Q := (W_st1 (pc' := 655) (k := 5) f268_653 rfl rfl (by simp only [List.length_cons, List.length_nil]; omega)).trans (by rw [pst1_succ]; rfl)
theorem f268_655 : fetch 268 655 = some (.aload_n 2, 1, [], .null) := by decide +kernel
theorem w268_655 : Wp d 268 655 [l0, l1, some (.ref a), l3, l4, l5, l6, l7, l8] st h Q = Wp d 268 656 [l0, l1, some (.ref a), l3, l4, l5, l6, l7, l8] (.ref a :: st) h Q := W_go f268_655 rfl
theorem f268_656 : fetch 268 656 = some (.aload_n 0, 1, [], .null) := by decide +kernel
theorem w268_656 : Wp d 268 656 [some (.ref a), l1, l2, l3, l4, l5, l6, l7, l8] st h Q = Wp d 268 657 [some (.ref a), l1, l2, l3, l4, l5, l6, l7, l8] (.ref a :: st) h Q := W_go f268_656 rfl
theorem f268_657 : fetch 268 657 = some (.iload 4, 2, [], .null) := by decide +kernel
theorem w268_657 : Wp d 268 657 [l0, l1, l2, l3, some (.int x), l5, l6, l7, l8] st h Q = Wp d 268 659 [l0, l1, l2, l3, some (.int x), l5, l6, l7, l8] (.int x :: st) h Q := W_go f268_657 rfl
theorem f268_659 : fetch 268 659 = some (.iconst 1, 1, [], .null) := by decide +kernel
theorem w268_659 : Wp d 268 659 [l0, l1, l2, l3, l4, l5, l6, l7, l8] st h Q = Wp d 268 660 [l0, l1, l2, l3, l4, l5, l6, l7, l8] (.int (1 : Int32) :: st) h Q := W_go f268_659 rfl
theorem f268_660 : fetch 268 660 = some (.iadd, 1, [], .null) := by decide +kernel
theorem w268_660 : Wp d 268 660 [l0, l1, l2, l3, l4, l5, l6, l7, l8] (.int y :: .int x :: st) h Q = Wp d 268 661 [l0, l1, l2, l3, l4, l5, l6, l7, l8] (.int (x + y) :: st) h Q := W_go f268_660 rfl
theorem f268_661 : fetch 268 661 = some (.iaload, 1, [], .null) := by decide +kernel
theorem w268_661 : Wp d 268 661 [l0, l1, l2, l3, l4, l5, l6, l7, l8] (.int x :: .ref a :: st) h Q = aP false (h.2 a) x (fun w => Wp d 268 662 [l0, l1, l2, l3, l4, l5, l6, l7, l8] (.int w :: st) h Q) := W_ald f268_661 rfl
theorem f268_662 : fetch 268 662 = some (.invokevirtual 143, 3, [189, 2, 11, 0, 7133, 1013, 7136, 7134, 7135], .null) := by decide +kernel
theorem w268_662 (hp : psum st ≤ 8) : Wp d 268 662 [l0, l1, l2, l3, l4, l5, l6, l7, l8] (v1 :: (.ref b) :: st) h Q = rP (h.2 b) 10 (Cp d 189 [(.ref b), v1] h (fun o => cK o (fun w h2 => Wp d 268 665 [l0, l1, l2, l3, l4, l5, l6, l7, l8] (w.toList ++ st) h2 Q) (fun E h2 => Q (.inr E, h2)))) := (W_invV (st := st) f268_662 rfl rfl (by simp only [List.length_cons]; omega) rfl rfl hp).trans (by simp only [hm268, if_true])
theorem f268_665 : fetch 268 665 = some (.istore 6, 2, [], .null) := by decide +kernel
theorem w268_665 : Wp d 268 665 [l0, l1, l2, l3, l4, l5, l6, l7, l8] (.int x :: st) h Q = Wp d 268 667 [l0, l1, l2, l3, l4, kl l5, some (.int x), l7, l8] st h Q := (W_st1 (pc' := 667) (k := 6) f268_665 rfl rfl (by simp only [List.length_cons, List.length_nil]; omega)).trans (by rw [pst1_succ]; rfl)
theorem f268_667 : fetch 268 667 = some (.aload_n 2, 1, [], .null) := by decide +kernel
theorem w268_667 : Wp d 268 667 [l0, l1, some (.ref a), l3, l4, l5, l6, l7, l8] st h Q = Wp d 268 668 [l0, l1, some (.ref a), l3, l4, l5, l6, l7, l8] (.ref a :: st) h Q := W_go f268_667 rfl
theorem f268_668 : fetch 268 668 = some (.invokevirtual 110, 3, [145, 1, 11, 0, 6183, 1013, 6186, 6184, 6185], .null) := by decide +kernel
theorem w268_668 (hp : psum st ≤ 8) : Wp d 268 668 [l0, l1, l2, l3, l4, l5, l6, l7, l8] ((.ref b) :: st) h Q = rP (h.2 b) 10 (Cp d 145 [(.ref b)] h (fun o => cK o (fun w h2 => Wp d 268 671 [l0, l1, l2, l3, l4, l5, l6, l7, l8] (w.toList ++ st) h2 Q) (fun E h2 => Q (.inr E, h2)))) := (W_invV (st := st) f268_668 rfl rfl (by simp only [List.length_cons]; omega) rfl rfl hp).trans (by simp only [hm268, if_true])
theorem f268_671 : fetch 268 671 = some (.iload 5, 2, [], .null) := by decide +kernel
theorem w268_671 : Wp d 268 671 [l0, l1, l2, l3, l4, some (.int x), l6, l7, l8] st h Q = Wp d 268 673 [l0, l1, l2, l3, l4, some (.int x), l6, l7, l8] (.int x :: st) h Q := W_go f268_671 rfl
theorem f268_673 : fetch 268 673 = some (.if_icmp .eq 5, 3, [], .null) := by decide +kernel
theorem w268_673 : Wp d 268 673 [l0, l1, l2, l3, l4, l5, l6, l7, l8] (.int y :: .int x :: st) h Q = if icond .eq x y = true then Wp d 268 678 [l0, l1, l2, l3, l4, l5, l6, l7, l8] st h Q else Wp d 268 676 [l0, l1, l2, l3, l4, l5, l6, l7, l8] st h Q := W_if f268_673 rfl
theorem f268_676 : fetch 268 676 = some (.iconst 0, 1, [], .null) := by decide +kernel
theorem w268_676 : Wp d 268 676 [l0, l1, l2, l3, l4, l5, l6, l7, l8] st h Q = Wp d 268 677 [l0, l1, l2, l3, l4, l5, l6, l7, l8] (.int (0 : Int32) :: st) h Q := W_go f268_676 rfl
theorem f268_677 : fetch 268 677 = some (.ireturn, 1, [], .null) := by decide +kernel
theorem w268_677 : Wp d 268 677 [l0, l1, l2, l3, l4, l5, l6, l7, l8] [.int x] h Q = (if narrow .boolean (.int x) = .int x then Q (.inl (some (.int x)), h) else False) := W_zret f268_677 hr268
theorem f268_678 : fetch 268 678 = some (.iload 5, 2, [], .null) := by decide +kernel
theorem w268_678 : Wp d 268 678 [l0, l1, l2, l3, l4, some (.int x), l6, l7, l8] st h Q = Wp d 268 680 [l0, l1, l2, l3, l4, some (.int x), l6, l7, l8] (.int x :: st) h Q := W_go f268_678 rfl
theorem f268_680 : fetch 268 680 = some (.ifCond .ne 22, 3, [], .null) := by decide +kernel
theorem w268_680 : Wp d 268 680 [l0, l1, l2, l3, l4, l5, l6, l7, l8] (.int x :: st) h Q = if icond .ne x 0 = true then Wp d 268 702 [l0, l1, l2, l3, l4, l5, l6, l7, l8] st h Q else Wp d 268 683 [l0, l1, l2, l3, l4, l5, l6, l7, l8] st h Q := W_if f268_680 rfl
theorem f268_683 : fetch 268 683 = some (.aload_n 3, 1, [], .null) := by decide +kernel
theorem w268_683 : Wp d 268 683 [l0, l1, l2, some (.ref a), l4, l5, l6, l7, l8] st h Q = Wp d 268 684 [l0, l1, l2, some (.ref a), l4, l5, l6, l7, l8] (.ref a :: st) h Q := W_go f268_683 rfl
theorem f268_684 : fetch 268 684 = some (.iconst 0, 1, [], .null) := by decide +kernel
theorem w268_684 : Wp d 268 684 [l0, l1, l2, l3, l4, l5, l6, l7, l8] st h Q = Wp d 268 685 [l0, l1, l2, l3, l4, l5, l6, l7, l8] (.int (0 : Int32) :: st) h Q := W_go f268_684 rfl
theorem f268_685 : fetch 268 685 = some (.laload, 1, [], .null) := by decide +kernel
theorem w268_685 : Wp d 268 685 [l0, l1, l2, l3, l4, l5, l6, l7, l8] (.int x :: .ref a :: st) h Q = lP (h.2 a) x (fun w => Wp d 268 686 [l0, l1, l2, l3, l4, l5, l6, l7, l8] (.long w :: st) h Q) := W_lld f268_685 rfl
theorem f268_686 : fetch 268 686 = some (.iload 6, 2, [], .null) := by decide +kernel
theorem w268_686 : Wp d 268 686 [l0, l1, l2, l3, l4, l5, some (.int x), l7, l8] st h Q = Wp d 268 688 [l0, l1, l2, l3, l4, l5, some (.int x), l7, l8] (.int x :: st) h Q := W_go f268_686 rfl
theorem f268_688 : fetch 268 688 = some (.ifCond .eq 7, 3, [], .null) := by decide +kernel
theorem w268_688 : Wp d 268 688 [l0, l1, l2, l3, l4, l5, l6, l7, l8] (.int x :: st) h Q = if icond .eq x 0 = true then Wp d 268 695 [l0, l1, l2, l3, l4, l5, l6, l7, l8] st h Q else Wp d 268 691 [l0, l1, l2, l3, l4, l5, l6, l7, l8] st h Q := W_if f268_688 rfl
theorem f268_691 : fetch 268 691 = some (.lconst 1, 1, [], .null) := by decide +kernel
theorem w268_691 : Wp d 268 691 [l0, l1, l2, l3, l4, l5, l6, l7, l8] st h Q = Wp d 268 692 [l0, l1, l2, l3, l4, l5, l6, l7, l8] (.long (1 : Int64) :: st) h Q := W_go f268_691 rfl
theorem f268_692 : fetch 268 692 = some (.goto 4, 3, [], .null) := by decide +kernel
theorem w268_692 : Wp d 268 692 [l0, l1, l2, l3, l4, l5, l6, l7, l8] st h Q = Wp d 268 696 [l0, l1, l2, l3, l4, l5, l6, l7, l8] st h Q := W_go f268_692 rfl
theorem f268_695 : fetch 268 695 = some (.lconst 0, 1, [], .null) := by decide +kernel
theorem w268_695 : Wp d 268 695 [l0, l1, l2, l3, l4, l5, l6, l7, l8] st h Q = Wp d 268 696 [l0, l1, l2, l3, l4, l5, l6, l7, l8] (.long (0 : Int64) :: st) h Q := W_go f268_695 rfl
theorem f268_696 : fetch 268 696 = some (.lcmp, 1, [], .null) := by decide +kernel
theorem w268_696 : Wp d 268 696 [l0, l1, l2, l3, l4, l5, l6, l7, l8] (.long y8 :: .long x8 :: st) h Q = Wp d 268 697 [l0, l1, l2, l3, l4, l5, l6, l7, l8] (.int (lg_cmp x8 y8) :: st) h Q := W_go f268_696 rfl
theorem f268_697 : fetch 268 697 = some (.ifCond .eq 5, 3, [], .null) := by decide +kernel
theorem w268_697 : Wp d 268 697 [l0, l1, l2, l3, l4, l5, l6, l7, l8] (.int x :: st) h Q = if icond .eq x 0 = true then Wp d 268 702 [l0, l1, l2, l3, l4, l5, l6, l7, l8] st h Q else Wp d 268 700 [l0, l1, l2, l3, l4, l5, l6, l7, l8] st h Q := W_if f268_697 rfl
theorem f268_700 : fetch 268 700 = some (.iconst 0, 1, [], .null) := by decide +kernel
theorem w268_700 : Wp d 268 700 [l0, l1, l2, l3, l4, l5, l6, l7, l8] st h Q = Wp d 268 701 [l0, l1, l2, l3, l4, l5, l6, l7, l8] (.int (0 : Int32) :: st) h Q := W_go f268_700 rfl
theorem f268_701 : fetch 268 701 = some (.ireturn, 1, [], .null) := by decide +kernel
theorem w268_701 : Wp d 268 701 [l0, l1, l2, l3, l4, l5, l6, l7, l8] [.int x] h Q = (if narrow .boolean (.int x) = .int x then Q (.inl (some (.int x)), h) else False) := W_zret f268_701 hr268
theorem f268_702 : fetch 268 702 = some (.goto 1434, 3, [], .null) := by decide +kernel
theorem w268_702 : Wp d 268 702 [l0, l1, l2, l3, l4, l5, l6, l7, l8] st h Q = Wp d 268 2136 [l0, l1, l2, l3, l4, l5, l6, l7, l8] st h Q := W_go f268_702 rfl
theorem f268_705 : fetch 268 705 = some (.aload_n 1, 1, [], .null) := by decide +kernel
theorem w268_705 : Wp d 268 705 [l0, some (.ref a), l2, l3, l4, l5, l6, l7, l8] st h Q = Wp d 268 706 [l0, some (.ref a), l2, l3, l4, l5, l6, l7, l8] (.ref a :: st) h Q := W_go f268_705 rfl
theorem f268_706 : fetch 268 706 = some (.aload_n 0, 1, [], .null) := by decide +kernel
theorem w268_706 : Wp d 268 706 [some (.ref a), l1, l2, l3, l4, l5, l6, l7, l8] st h Q = Wp d 268 707 [some (.ref a), l1, l2, l3, l4, l5, l6, l7, l8] (.ref a :: st) h Q := W_go f268_706 rfl
theorem f268_707 : fetch 268 707 = some (.iload 4, 2, [], .null) := by decide +kernel
theorem w268_707 : Wp d 268 707 [l0, l1, l2, l3, some (.int x), l5, l6, l7, l8] st h Q = Wp d 268 709 [l0, l1, l2, l3, some (.int x), l5, l6, l7, l8] (.int x :: st) h Q := W_go f268_707 rfl
theorem f268_709 : fetch 268 709 = some (.iconst 1, 1, [], .null) := by decide +kernel
theorem w268_709 : Wp d 268 709 [l0, l1, l2, l3, l4, l5, l6, l7, l8] st h Q = Wp d 268 710 [l0, l1, l2, l3, l4, l5, l6, l7, l8] (.int (1 : Int32) :: st) h Q := W_go f268_709 rfl
theorem f268_710 : fetch 268 710 = some (.iadd, 1, [], .null) := by decide +kernel
theorem w268_710 : Wp d 268 710 [l0, l1, l2, l3, l4, l5, l6, l7, l8] (.int y :: .int x :: st) h Q = Wp d 268 711 [l0, l1, l2, l3, l4, l5, l6, l7, l8] (.int (x + y) :: st) h Q := W_go f268_710 rfl
theorem f268_711 : fetch 268 711 = some (.iaload, 1, [], .null) := by decide +kernel
theorem w268_711 : Wp d 268 711 [l0, l1, l2, l3, l4, l5, l6, l7, l8] (.int x :: .ref a :: st) h Q = aP false (h.2 a) x (fun w => Wp d 268 712 [l0, l1, l2, l3, l4, l5, l6, l7, l8] (.int w :: st) h Q) := W_ald f268_711 rfl
theorem f268_712 : fetch 268 712 = some (.aload_n 0, 1, [], .null) := by decide +kernel
theorem w268_712 : Wp d 268 712 [some (.ref a), l1, l2, l3, l4, l5, l6, l7, l8] st h Q = Wp d 268 713 [some (.ref a), l1, l2, l3, l4, l5, l6, l7, l8] (.ref a :: st) h Q := W_go f268_712 rfl
theorem f268_713 : fetch 268 713 = some (.iload 4, 2, [], .null) := by decide +kernel
theorem w268_713 : Wp d 268 713 [l0, l1, l2, l3, some (.int x), l5, l6, l7, l8] st h Q = Wp d 268 715 [l0, l1, l2, l3, some (.int x), l5, l6, l7, l8] (.int x :: st) h Q := W_go f268_713 rfl
theorem f268_715 : fetch 268 715 = some (.iconst 2, 1, [], .null) := by decide +kernel
theorem w268_715 : Wp d 268 715 [l0, l1, l2, l3, l4, l5, l6, l7, l8] st h Q = Wp d 268 716 [l0, l1, l2, l3, l4, l5, l6, l7, l8] (.int (2 : Int32) :: st) h Q := W_go f268_715 rfl
theorem f268_716 : fetch 268 716 = some (.iadd, 1, [], .null) := by decide +kernel
theorem w268_716 : Wp d 268 716 [l0, l1, l2, l3, l4, l5, l6, l7, l8] (.int y :: .int x :: st) h Q = Wp d 268 717 [l0, l1, l2, l3, l4, l5, l6, l7, l8] (.int (x + y) :: st) h Q := W_go f268_716 rfl
theorem f268_717 : fetch 268 717 = some (.iaload, 1, [], .null) := by decide +kernel
theorem w268_717 : Wp d 268 717 [l0, l1, l2, l3, l4, l5, l6, l7, l8] (.int x :: .ref a :: st) h Q = aP false (h.2 a) x (fun w => Wp d 268 718 [l0, l1, l2, l3, l4, l5, l6, l7, l8] (.int w :: st) h Q) := W_ald f268_717 rfl
theorem f268_718 : fetch 268 718 = some (.aload_n 3, 1, [], .null) := by decide +kernel
theorem w268_718 : Wp d 268 718 [l0, l1, l2, some (.ref a), l4, l5, l6, l7, l8] st h Q = Wp d 268 719 [l0, l1, l2, some (.ref a), l4, l5, l6, l7, l8] (.ref a :: st) h Q := W_go f268_718 rfl
theorem f268_719 : fetch 268 719 = some (.invokestatic 144, 3, [247, 4, 0, 0, 4158, 1000, 4160, 4159], .null) := by decide +kernel
theorem w268_719 (hp : psum st ≤ 8) : Wp d 268 719 [l0, l1, l2, l3, l4, l5, l6, l7, l8] (v3 :: v2 :: v1 :: v0 :: st) h Q = Cp d 247 [v0, v1, v2, v3] h (fun o => cK o (fun w h2 => Wp d 268 722 [l0, l1, l2, l3, l4, l5, l6, l7, l8] (w.toList ++ st) h2 Q) (fun _ _ => False)) := (W_invS (st := st) f268_719 rfl rfl (by simp only [List.length_cons]; omega) rfl rfl hp)
theorem f268_722 : fetch 268 722 = some (.istore 5, 2, [], .null) := by decide +kernel
theorem w268_722 : Wp d 268 722 [l0, l1, l2, l3, l4, l5, l6, l7, l8] (.int x :: st) h Q = Wp d 268 724 [l0, l1, l2, l3, kl l4, some (.int x), l6, l7, l8] st h Q := (W_st1 (pc' := 724) (k := 5) f268_722 rfl rfl (by simp only [List.length_cons, List.length_nil]; omega)).trans (by rw [pst1_succ]; rfl)
theorem f268_724 : fetch 268 724 = some (.aload_n 2, 1, [], .null) := by decide +kernel
theorem w268_724 : Wp d 268 724 [l0, l1, some (.ref a), l3, l4, l5, l6, l7, l8] st h Q = Wp d 268 725 [l0, l1, some (.ref a), l3, l4, l5, l6, l7, l8] (.ref a :: st) h Q := W_go f268_724 rfl
theorem f268_725 : fetch 268 725 = some (.aload_n 0, 1, [], .null) := by decide +kernel
theorem w268_725 : Wp d 268 725 [some (.ref a), l1, l2, l3, l4, l5, l6, l7, l8] st h Q = Wp d 268 726 [some (.ref a), l1, l2, l3, l4, l5, l6, l7, l8] (.ref a :: st) h Q := W_go f268_725 rfl
theorem f268_726 : fetch 268 726 = some (.iload 4, 2, [], .null) := by decide +kernel
theorem w268_726 : Wp d 268 726 [l0, l1, l2, l3, some (.int x), l5, l6, l7, l8] st h Q = Wp d 268 728 [l0, l1, l2, l3, some (.int x), l5, l6, l7, l8] (.int x :: st) h Q := W_go f268_726 rfl
theorem f268_728 : fetch 268 728 = some (.iconst 1, 1, [], .null) := by decide +kernel
theorem w268_728 : Wp d 268 728 [l0, l1, l2, l3, l4, l5, l6, l7, l8] st h Q = Wp d 268 729 [l0, l1, l2, l3, l4, l5, l6, l7, l8] (.int (1 : Int32) :: st) h Q := W_go f268_728 rfl
theorem f268_729 : fetch 268 729 = some (.iadd, 1, [], .null) := by decide +kernel
theorem w268_729 : Wp d 268 729 [l0, l1, l2, l3, l4, l5, l6, l7, l8] (.int y :: .int x :: st) h Q = Wp d 268 730 [l0, l1, l2, l3, l4, l5, l6, l7, l8] (.int (x + y) :: st) h Q := W_go f268_729 rfl
theorem f268_730 : fetch 268 730 = some (.iaload, 1, [], .null) := by decide +kernel
theorem w268_730 : Wp d 268 730 [l0, l1, l2, l3, l4, l5, l6, l7, l8] (.int x :: .ref a :: st) h Q = aP false (h.2 a) x (fun w => Wp d 268 731 [l0, l1, l2, l3, l4, l5, l6, l7, l8] (.int w :: st) h Q) := W_ald f268_730 rfl
theorem f268_731 : fetch 268 731 = some (.aload_n 0, 1, [], .null) := by decide +kernel
theorem w268_731 : Wp d 268 731 [some (.ref a), l1, l2, l3, l4, l5, l6, l7, l8] st h Q = Wp d 268 732 [some (.ref a), l1, l2, l3, l4, l5, l6, l7, l8] (.ref a :: st) h Q := W_go f268_731 rfl
theorem f268_732 : fetch 268 732 = some (.iload 4, 2, [], .null) := by decide +kernel
theorem w268_732 : Wp d 268 732 [l0, l1, l2, l3, some (.int x), l5, l6, l7, l8] st h Q = Wp d 268 734 [l0, l1, l2, l3, some (.int x), l5, l6, l7, l8] (.int x :: st) h Q := W_go f268_732 rfl
theorem f268_734 : fetch 268 734 = some (.iconst 2, 1, [], .null) := by decide +kernel
theorem w268_734 : Wp d 268 734 [l0, l1, l2, l3, l4, l5, l6, l7, l8] st h Q = Wp d 268 735 [l0, l1, l2, l3, l4, l5, l6, l7, l8] (.int (2 : Int32) :: st) h Q := W_go f268_734 rfl
theorem f268_735 : fetch 268 735 = some (.iadd, 1, [], .null) := by decide +kernel
theorem w268_735 : Wp d 268 735 [l0, l1, l2, l3, l4, l5, l6, l7, l8] (.int y :: .int x :: st) h Q = Wp d 268 736 [l0, l1, l2, l3, l4, l5, l6, l7, l8] (.int (x + y) :: st) h Q := W_go f268_735 rfl
theorem f268_736 : fetch 268 736 = some (.iaload, 1, [], .null) := by decide +kernel
theorem w268_736 : Wp d 268 736 [l0, l1, l2, l3, l4, l5, l6, l7, l8] (.int x :: .ref a :: st) h Q = aP false (h.2 a) x (fun w => Wp d 268 737 [l0, l1, l2, l3, l4, l5, l6, l7, l8] (.int w :: st) h Q) := W_ald f268_736 rfl
theorem f268_737 : fetch 268 737 = some (.invokevirtual 146, 3, [190, 3, 11, 0, 7137, 1013, 7140, 7138, 7139], .null) := by decide +kernel
theorem w268_737 (hp : psum st ≤ 8) : Wp d 268 737 [l0, l1, l2, l3, l4, l5, l6, l7, l8] (v2 :: v1 :: (.ref b) :: st) h Q = rP (h.2 b) 10 (Cp d 190 [(.ref b), v1, v2] h (fun o => cK o (fun w h2 => Wp d 268 740 [l0, l1, l2, l3, l4, l5, l6, l7, l8] (w.toList ++ st) h2 Q) (fun E h2 => Q (.inr E, h2)))) := (W_invV (st := st) f268_737 rfl rfl (by simp only [List.length_cons]; omega) rfl rfl hp).trans (by simp only [hm268, if_true])
theorem f268_740 : fetch 268 740 = some (.istore 6, 2, [], .null) := by decide +kernel
theorem w268_740 : Wp d 268 740 [l0, l1, l2, l3, l4, l5, l6, l7, l8] (.int x :: st) h Q = Wp d 268 742 [l0, l1, l2, l3, l4, kl l5, some (.int x), l7, l8] st h Q := (W_st1 (pc' := 742) (k := 6) f268_740 rfl rfl (by simp only [List.length_cons, List.length_nil]; omega)).trans (by rw [pst1_succ]; rfl)
theorem f268_742 : fetch 268 742 = some (.aload_n 2, 1, [], .null) := by decide +kernel
theorem w268_742 : Wp d 268 742 [l0, l1, some (.ref a), l3, l4, l5, l6, l7, l8] st h Q = Wp d 268 743 [l0, l1, some (.ref a), l3, l4, l5, l6, l7, l8] (.ref a :: st) h Q := W_go f268_742 rfl
theorem f268_743 : fetch 268 743 = some (.invokevirtual 110, 3, [145, 1, 11, 0, 6183, 1013, 6186, 6184, 6185], .null) := by decide +kernel
theorem w268_743 (hp : psum st ≤ 8) : Wp d 268 743 [l0, l1, l2, l3, l4, l5, l6, l7, l8] ((.ref b) :: st) h Q = rP (h.2 b) 10 (Cp d 145 [(.ref b)] h (fun o => cK o (fun w h2 => Wp d 268 746 [l0, l1, l2, l3, l4, l5, l6, l7, l8] (w.toList ++ st) h2 Q) (fun E h2 => Q (.inr E, h2)))) := (W_invV (st := st) f268_743 rfl rfl (by simp only [List.length_cons]; omega) rfl rfl hp).trans (by simp only [hm268, if_true])
theorem f268_746 : fetch 268 746 = some (.iload 5, 2, [], .null) := by decide +kernel
theorem w268_746 : Wp d 268 746 [l0, l1, l2, l3, l4, some (.int x), l6, l7, l8] st h Q = Wp d 268 748 [l0, l1, l2, l3, l4, some (.int x), l6, l7, l8] (.int x :: st) h Q := W_go f268_746 rfl
theorem f268_748 : fetch 268 748 = some (.if_icmp .eq 5, 3, [], .null) := by decide +kernel
theorem w268_748 : Wp d 268 748 [l0, l1, l2, l3, l4, l5, l6, l7, l8] (.int y :: .int x :: st) h Q = if icond .eq x y = true then Wp d 268 753 [l0, l1, l2, l3, l4, l5, l6, l7, l8] st h Q else Wp d 268 751 [l0, l1, l2, l3, l4, l5, l6, l7, l8] st h Q := W_if f268_748 rfl
theorem f268_751 : fetch 268 751 = some (.iconst 0, 1, [], .null) := by decide +kernel
theorem w268_751 : Wp d 268 751 [l0, l1, l2, l3, l4, l5, l6, l7, l8] st h Q = Wp d 268 752 [l0, l1, l2, l3, l4, l5, l6, l7, l8] (.int (0 : Int32) :: st) h Q := W_go f268_751 rfl
theorem f268_752 : fetch 268 752 = some (.ireturn, 1, [], .null) := by decide +kernel
theorem w268_752 : Wp d 268 752 [l0, l1, l2, l3, l4, l5, l6, l7, l8] [.int x] h Q = (if narrow .boolean (.int x) = .int x then Q (.inl (some (.int x)), h) else False) := W_zret f268_752 hr268
theorem f268_753 : fetch 268 753 = some (.iload 5, 2, [], .null) := by decide +kernel
theorem w268_753 : Wp d 268 753 [l0, l1, l2, l3, l4, some (.int x), l6, l7, l8] st h Q = Wp d 268 755 [l0, l1, l2, l3, l4, some (.int x), l6, l7, l8] (.int x :: st) h Q := W_go f268_753 rfl
theorem f268_755 : fetch 268 755 = some (.ifCond .ne 15, 3, [], .null) := by decide +kernel
theorem w268_755 : Wp d 268 755 [l0, l1, l2, l3, l4, l5, l6, l7, l8] (.int x :: st) h Q = if icond .ne x 0 = true then Wp d 268 770 [l0, l1, l2, l3, l4, l5, l6, l7, l8] st h Q else Wp d 268 758 [l0, l1, l2, l3, l4, l5, l6, l7, l8] st h Q := W_if f268_755 rfl
theorem f268_758 : fetch 268 758 = some (.aload_n 3, 1, [], .null) := by decide +kernel
theorem w268_758 : Wp d 268 758 [l0, l1, l2, some (.ref a), l4, l5, l6, l7, l8] st h Q = Wp d 268 759 [l0, l1, l2, some (.ref a), l4, l5, l6, l7, l8] (.ref a :: st) h Q := W_go f268_758 rfl
theorem f268_759 : fetch 268 759 = some (.iconst 0, 1, [], .null) := by decide +kernel
theorem w268_759 : Wp d 268 759 [l0, l1, l2, l3, l4, l5, l6, l7, l8] st h Q = Wp d 268 760 [l0, l1, l2, l3, l4, l5, l6, l7, l8] (.int (0 : Int32) :: st) h Q := W_go f268_759 rfl
theorem f268_760 : fetch 268 760 = some (.laload, 1, [], .null) := by decide +kernel
theorem w268_760 : Wp d 268 760 [l0, l1, l2, l3, l4, l5, l6, l7, l8] (.int x :: .ref a :: st) h Q = lP (h.2 a) x (fun w => Wp d 268 761 [l0, l1, l2, l3, l4, l5, l6, l7, l8] (.long w :: st) h Q) := W_lld f268_760 rfl
theorem f268_761 : fetch 268 761 = some (.iload 6, 2, [], .null) := by decide +kernel
theorem w268_761 : Wp d 268 761 [l0, l1, l2, l3, l4, l5, some (.int x), l7, l8] st h Q = Wp d 268 763 [l0, l1, l2, l3, l4, l5, some (.int x), l7, l8] (.int x :: st) h Q := W_go f268_761 rfl
theorem f268_763 : fetch 268 763 = some (.i2l, 1, [], .null) := by decide +kernel
theorem w268_763 : Wp d 268 763 [l0, l1, l2, l3, l4, l5, l6, l7, l8] (.int x :: st) h Q = Wp d 268 764 [l0, l1, l2, l3, l4, l5, l6, l7, l8] (.long x.toInt64 :: st) h Q := W_go f268_763 rfl
theorem f268_764 : fetch 268 764 = some (.lcmp, 1, [], .null) := by decide +kernel
theorem w268_764 : Wp d 268 764 [l0, l1, l2, l3, l4, l5, l6, l7, l8] (.long y8 :: .long x8 :: st) h Q = Wp d 268 765 [l0, l1, l2, l3, l4, l5, l6, l7, l8] (.int (lg_cmp x8 y8) :: st) h Q := W_go f268_764 rfl
theorem f268_765 : fetch 268 765 = some (.ifCond .eq 5, 3, [], .null) := by decide +kernel
theorem w268_765 : Wp d 268 765 [l0, l1, l2, l3, l4, l5, l6, l7, l8] (.int x :: st) h Q = if icond .eq x 0 = true then Wp d 268 770 [l0, l1, l2, l3, l4, l5, l6, l7, l8] st h Q else Wp d 268 768 [l0, l1, l2, l3, l4, l5, l6, l7, l8] st h Q := W_if f268_765 rfl
theorem f268_768 : fetch 268 768 = some (.iconst 0, 1, [], .null) := by decide +kernel
theorem w268_768 : Wp d 268 768 [l0, l1, l2, l3, l4, l5, l6, l7, l8] st h Q = Wp d 268 769 [l0, l1, l2, l3, l4, l5, l6, l7, l8] (.int (0 : Int32) :: st) h Q := W_go f268_768 rfl
theorem f268_769 : fetch 268 769 = some (.ireturn, 1, [], .null) := by decide +kernel
theorem w268_769 : Wp d 268 769 [l0, l1, l2, l3, l4, l5, l6, l7, l8] [.int x] h Q = (if narrow .boolean (.int x) = .int x then Q (.inl (some (.int x)), h) else False) := W_zret f268_769 hr268
theorem f268_770 : fetch 268 770 = some (.goto 1366, 3, [], .null) := by decide +kernel
theorem w268_770 : Wp d 268 770 [l0, l1, l2, l3, l4, l5, l6, l7, l8] st h Q = Wp d 268 2136 [l0, l1, l2, l3, l4, l5, l6, l7, l8] st h Q := W_go f268_770 rfl
theorem f268_773 : fetch 268 773 = some (.aload_n 1, 1, [], .null) := by decide +kernel
theorem w268_773 : Wp d 268 773 [l0, some (.ref a), l2, l3, l4, l5, l6, l7, l8] st h Q = Wp d 268 774 [l0, some (.ref a), l2, l3, l4, l5, l6, l7, l8] (.ref a :: st) h Q := W_go f268_773 rfl
theorem f268_774 : fetch 268 774 = some (.aload_n 0, 1, [], .null) := by decide +kernel
theorem w268_774 : Wp d 268 774 [some (.ref a), l1, l2, l3, l4, l5, l6, l7, l8] st h Q = Wp d 268 775 [some (.ref a), l1, l2, l3, l4, l5, l6, l7, l8] (.ref a :: st) h Q := W_go f268_774 rfl
theorem f268_775 : fetch 268 775 = some (.iload 4, 2, [], .null) := by decide +kernel
theorem w268_775 : Wp d 268 775 [l0, l1, l2, l3, some (.int x), l5, l6, l7, l8] st h Q = Wp d 268 777 [l0, l1, l2, l3, some (.int x), l5, l6, l7, l8] (.int x :: st) h Q := W_go f268_775 rfl
theorem f268_777 : fetch 268 777 = some (.iconst 1, 1, [], .null) := by decide +kernel
theorem w268_777 : Wp d 268 777 [l0, l1, l2, l3, l4, l5, l6, l7, l8] st h Q = Wp d 268 778 [l0, l1, l2, l3, l4, l5, l6, l7, l8] (.int (1 : Int32) :: st) h Q := W_go f268_777 rfl
theorem f268_778 : fetch 268 778 = some (.iadd, 1, [], .null) := by decide +kernel
theorem w268_778 : Wp d 268 778 [l0, l1, l2, l3, l4, l5, l6, l7, l8] (.int y :: .int x :: st) h Q = Wp d 268 779 [l0, l1, l2, l3, l4, l5, l6, l7, l8] (.int (x + y) :: st) h Q := W_go f268_778 rfl
theorem f268_779 : fetch 268 779 = some (.iaload, 1, [], .null) := by decide +kernel
theorem w268_779 : Wp d 268 779 [l0, l1, l2, l3, l4, l5, l6, l7, l8] (.int x :: .ref a :: st) h Q = aP false (h.2 a) x (fun w => Wp d 268 780 [l0, l1, l2, l3, l4, l5, l6, l7, l8] (.int w :: st) h Q) := W_ald f268_779 rfl
theorem f268_780 : fetch 268 780 = some (.aload_n 3, 1, [], .null) := by decide +kernel
theorem w268_780 : Wp d 268 780 [l0, l1, l2, some (.ref a), l4, l5, l6, l7, l8] st h Q = Wp d 268 781 [l0, l1, l2, some (.ref a), l4, l5, l6, l7, l8] (.ref a :: st) h Q := W_go f268_780 rfl
theorem f268_781 : fetch 268 781 = some (.invokestatic 147, 3, [248, 3, 0, 0, 4167, 1000, 4169, 4168], .null) := by decide +kernel
theorem w268_781 (hp : psum st ≤ 8) : Wp d 268 781 [l0, l1, l2, l3, l4, l5, l6, l7, l8] (v2 :: v1 :: v0 :: st) h Q = Cp d 248 [v0, v1, v2] h (fun o => cK o (fun w h2 => Wp d 268 784 [l0, l1, l2, l3, l4, l5, l6, l7, l8] (w.toList ++ st) h2 Q) (fun _ _ => False)) := (W_invS (st := st) f268_781 rfl rfl (by simp only [List.length_cons]; omega) rfl rfl hp)
theorem f268_784 : fetch 268 784 = some (.istore 5, 2, [], .null) := by decide +kernel
theorem w268_784 : Wp d 268 784 [l0, l1, l2, l3, l4, l5, l6, l7, l8] (.int x :: st) h Q = Wp d 268 786 [l0, l1, l2, l3, kl l4, some (.int x), l6, l7, l8] st h Q := (W_st1 (pc' := 786) (k := 5) f268_784 rfl rfl (by simp only [List.length_cons, List.length_nil]; omega)).trans (by rw [pst1_succ]; rfl)
theorem f268_786 : fetch 268 786 = some (.aload_n 2, 1, [], .null) := by decide +kernel
theorem w268_786 : Wp d 268 786 [l0, l1, some (.ref a), l3, l4, l5, l6, l7, l8] st h Q = Wp d 268 787 [l0, l1, some (.ref a), l3, l4, l5, l6, l7, l8] (.ref a :: st) h Q := W_go f268_786 rfl
theorem f268_787 : fetch 268 787 = some (.aload_n 0, 1, [], .null) := by decide +kernel
theorem w268_787 : Wp d 268 787 [some (.ref a), l1, l2, l3, l4, l5, l6, l7, l8] st h Q = Wp d 268 788 [some (.ref a), l1, l2, l3, l4, l5, l6, l7, l8] (.ref a :: st) h Q := W_go f268_787 rfl
theorem f268_788 : fetch 268 788 = some (.iload 4, 2, [], .null) := by decide +kernel
theorem w268_788 : Wp d 268 788 [l0, l1, l2, l3, some (.int x), l5, l6, l7, l8] st h Q = Wp d 268 790 [l0, l1, l2, l3, some (.int x), l5, l6, l7, l8] (.int x :: st) h Q := W_go f268_788 rfl
theorem f268_790 : fetch 268 790 = some (.iconst 1, 1, [], .null) := by decide +kernel
theorem w268_790 : Wp d 268 790 [l0, l1, l2, l3, l4, l5, l6, l7, l8] st h Q = Wp d 268 791 [l0, l1, l2, l3, l4, l5, l6, l7, l8] (.int (1 : Int32) :: st) h Q := W_go f268_790 rfl
theorem f268_791 : fetch 268 791 = some (.iadd, 1, [], .null) := by decide +kernel
theorem w268_791 : Wp d 268 791 [l0, l1, l2, l3, l4, l5, l6, l7, l8] (.int y :: .int x :: st) h Q = Wp d 268 792 [l0, l1, l2, l3, l4, l5, l6, l7, l8] (.int (x + y) :: st) h Q := W_go f268_791 rfl
theorem f268_792 : fetch 268 792 = some (.iaload, 1, [], .null) := by decide +kernel
theorem w268_792 : Wp d 268 792 [l0, l1, l2, l3, l4, l5, l6, l7, l8] (.int x :: .ref a :: st) h Q = aP false (h.2 a) x (fun w => Wp d 268 793 [l0, l1, l2, l3, l4, l5, l6, l7, l8] (.int w :: st) h Q) := W_ald f268_792 rfl
theorem f268_793 : fetch 268 793 = some (.invokevirtual 149, 3, [191, 2, 11, 0, 7142, 1013, 7145, 7143, 7144], .null) := by decide +kernel
theorem w268_793 (hp : psum st ≤ 8) : Wp d 268 793 [l0, l1, l2, l3, l4, l5, l6, l7, l8] (v1 :: (.ref b) :: st) h Q = rP (h.2 b) 10 (Cp d 191 [(.ref b), v1] h (fun o => cK o (fun w h2 => Wp d 268 796 [l0, l1, l2, l3, l4, l5, l6, l7, l8] (w.toList ++ st) h2 Q) (fun E h2 => Q (.inr E, h2)))) := (W_invV (st := st) f268_793 rfl rfl (by simp only [List.length_cons]; omega) rfl rfl hp).trans (by simp only [hm268, if_true])
theorem f268_796 : fetch 268 796 = some (.istore 6, 2, [], .null) := by decide +kernel
theorem w268_796 : Wp d 268 796 [l0, l1, l2, l3, l4, l5, l6, l7, l8] (.int x :: st) h Q = Wp d 268 798 [l0, l1, l2, l3, l4, kl l5, some (.int x), l7, l8] st h Q := (W_st1 (pc' := 798) (k := 6) f268_796 rfl rfl (by simp only [List.length_cons, List.length_nil]; omega)).trans (by rw [pst1_succ]; rfl)
theorem f268_798 : fetch 268 798 = some (.aload_n 2, 1, [], .null) := by decide +kernel
theorem w268_798 : Wp d 268 798 [l0, l1, some (.ref a), l3, l4, l5, l6, l7, l8] st h Q = Wp d 268 799 [l0, l1, some (.ref a), l3, l4, l5, l6, l7, l8] (.ref a :: st) h Q := W_go f268_798 rfl
theorem f268_799 : fetch 268 799 = some (.invokevirtual 110, 3, [145, 1, 11, 0, 6183, 1013, 6186, 6184, 6185], .null) := by decide +kernel
theorem w268_799 (hp : psum st ≤ 8) : Wp d 268 799 [l0, l1, l2, l3, l4, l5, l6, l7, l8] ((.ref b) :: st) h Q = rP (h.2 b) 10 (Cp d 145 [(.ref b)] h (fun o => cK o (fun w h2 => Wp d 268 802 [l0, l1, l2, l3, l4, l5, l6, l7, l8] (w.toList ++ st) h2 Q) (fun E h2 => Q (.inr E, h2)))) := (W_invV (st := st) f268_799 rfl rfl (by simp only [List.length_cons]; omega) rfl rfl hp).trans (by simp only [hm268, if_true])
theorem f268_802 : fetch 268 802 = some (.iload 5, 2, [], .null) := by decide +kernel
theorem w268_802 : Wp d 268 802 [l0, l1, l2, l3, l4, some (.int x), l6, l7, l8] st h Q = Wp d 268 804 [l0, l1, l2, l3, l4, some (.int x), l6, l7, l8] (.int x :: st) h Q := W_go f268_802 rfl
theorem f268_804 : fetch 268 804 = some (.if_icmp .eq 5, 3, [], .null) := by decide +kernel
theorem w268_804 : Wp d 268 804 [l0, l1, l2, l3, l4, l5, l6, l7, l8] (.int y :: .int x :: st) h Q = if icond .eq x y = true then Wp d 268 809 [l0, l1, l2, l3, l4, l5, l6, l7, l8] st h Q else Wp d 268 807 [l0, l1, l2, l3, l4, l5, l6, l7, l8] st h Q := W_if f268_804 rfl
theorem f268_807 : fetch 268 807 = some (.iconst 0, 1, [], .null) := by decide +kernel
theorem w268_807 : Wp d 268 807 [l0, l1, l2, l3, l4, l5, l6, l7, l8] st h Q = Wp d 268 808 [l0, l1, l2, l3, l4, l5, l6, l7, l8] (.int (0 : Int32) :: st) h Q := W_go f268_807 rfl
theorem f268_808 : fetch 268 808 = some (.ireturn, 1, [], .null) := by decide +kernel
theorem w268_808 : Wp d 268 808 [l0, l1, l2, l3, l4, l5, l6, l7, l8] [.int x] h Q = (if narrow .boolean (.int x) = .int x then Q (.inl (some (.int x)), h) else False) := W_zret f268_808 hr268
theorem f268_809 : fetch 268 809 = some (.iload 5, 2, [], .null) := by decide +kernel
theorem w268_809 : Wp d 268 809 [l0, l1, l2, l3, l4, some (.int x), l6, l7, l8] st h Q = Wp d 268 811 [l0, l1, l2, l3, l4, some (.int x), l6, l7, l8] (.int x :: st) h Q := W_go f268_809 rfl
theorem f268_811 : fetch 268 811 = some (.ifCond .ne 15, 3, [], .null) := by decide +kernel
theorem w268_811 : Wp d 268 811 [l0, l1, l2, l3, l4, l5, l6, l7, l8] (.int x :: st) h Q = if icond .ne x 0 = true then Wp d 268 826 [l0, l1, l2, l3, l4, l5, l6, l7, l8] st h Q else Wp d 268 814 [l0, l1, l2, l3, l4, l5, l6, l7, l8] st h Q := W_if f268_811 rfl
theorem f268_814 : fetch 268 814 = some (.aload_n 3, 1, [], .null) := by decide +kernel
theorem w268_814 : Wp d 268 814 [l0, l1, l2, some (.ref a), l4, l5, l6, l7, l8] st h Q = Wp d 268 815 [l0, l1, l2, some (.ref a), l4, l5, l6, l7, l8] (.ref a :: st) h Q := W_go f268_814 rfl
theorem f268_815 : fetch 268 815 = some (.iconst 0, 1, [], .null) := by decide +kernel
theorem w268_815 : Wp d 268 815 [l0, l1, l2, l3, l4, l5, l6, l7, l8] st h Q = Wp d 268 816 [l0, l1, l2, l3, l4, l5, l6, l7, l8] (.int (0 : Int32) :: st) h Q := W_go f268_815 rfl
theorem f268_816 : fetch 268 816 = some (.laload, 1, [], .null) := by decide +kernel
theorem w268_816 : Wp d 268 816 [l0, l1, l2, l3, l4, l5, l6, l7, l8] (.int x :: .ref a :: st) h Q = lP (h.2 a) x (fun w => Wp d 268 817 [l0, l1, l2, l3, l4, l5, l6, l7, l8] (.long w :: st) h Q) := W_lld f268_816 rfl
theorem f268_817 : fetch 268 817 = some (.iload 6, 2, [], .null) := by decide +kernel
theorem w268_817 : Wp d 268 817 [l0, l1, l2, l3, l4, l5, some (.int x), l7, l8] st h Q = Wp d 268 819 [l0, l1, l2, l3, l4, l5, some (.int x), l7, l8] (.int x :: st) h Q := W_go f268_817 rfl
theorem f268_819 : fetch 268 819 = some (.i2l, 1, [], .null) := by decide +kernel
theorem w268_819 : Wp d 268 819 [l0, l1, l2, l3, l4, l5, l6, l7, l8] (.int x :: st) h Q = Wp d 268 820 [l0, l1, l2, l3, l4, l5, l6, l7, l8] (.long x.toInt64 :: st) h Q := W_go f268_819 rfl
theorem f268_820 : fetch 268 820 = some (.lcmp, 1, [], .null) := by decide +kernel
theorem w268_820 : Wp d 268 820 [l0, l1, l2, l3, l4, l5, l6, l7, l8] (.long y8 :: .long x8 :: st) h Q = Wp d 268 821 [l0, l1, l2, l3, l4, l5, l6, l7, l8] (.int (lg_cmp x8 y8) :: st) h Q := W_go f268_820 rfl
theorem f268_821 : fetch 268 821 = some (.ifCond .eq 5, 3, [], .null) := by decide +kernel
theorem w268_821 : Wp d 268 821 [l0, l1, l2, l3, l4, l5, l6, l7, l8] (.int x :: st) h Q = if icond .eq x 0 = true then Wp d 268 826 [l0, l1, l2, l3, l4, l5, l6, l7, l8] st h Q else Wp d 268 824 [l0, l1, l2, l3, l4, l5, l6, l7, l8] st h Q := W_if f268_821 rfl
theorem f268_824 : fetch 268 824 = some (.iconst 0, 1, [], .null) := by decide +kernel
theorem w268_824 : Wp d 268 824 [l0, l1, l2, l3, l4, l5, l6, l7, l8] st h Q = Wp d 268 825 [l0, l1, l2, l3, l4, l5, l6, l7, l8] (.int (0 : Int32) :: st) h Q := W_go f268_824 rfl
theorem f268_825 : fetch 268 825 = some (.ireturn, 1, [], .null) := by decide +kernel
theorem w268_825 : Wp d 268 825 [l0, l1, l2, l3, l4, l5, l6, l7, l8] [.int x] h Q = (if narrow .boolean (.int x) = .int x then Q (.inl (some (.int x)), h) else False) := W_zret f268_825 hr268
theorem f268_826 : fetch 268 826 = some (.goto 1310, 3, [], .null) := by decide +kernel
theorem w268_826 : Wp d 268 826 [l0, l1, l2, l3, l4, l5, l6, l7, l8] st h Q = Wp d 268 2136 [l0, l1, l2, l3, l4, l5, l6, l7, l8] st h Q := W_go f268_826 rfl
theorem f268_829 : fetch 268 829 = some (.aload_n 1, 1, [], .null) := by decide +kernel
theorem w268_829 : Wp d 268 829 [l0, some (.ref a), l2, l3, l4, l5, l6, l7, l8] st h Q = Wp d 268 830 [l0, some (.ref a), l2, l3, l4, l5, l6, l7, l8] (.ref a :: st) h Q := W_go f268_829 rfl
theorem f268_830 : fetch 268 830 = some (.aload_n 0, 1, [], .null) := by decide +kernel
theorem w268_830 : Wp d 268 830 [some (.ref a), l1, l2, l3, l4, l5, l6, l7, l8] st h Q = Wp d 268 831 [some (.ref a), l1, l2, l3, l4, l5, l6, l7, l8] (.ref a :: st) h Q := W_go f268_830 rfl
theorem f268_831 : fetch 268 831 = some (.iload 4, 2, [], .null) := by decide +kernel
theorem w268_831 : Wp d 268 831 [l0, l1, l2, l3, some (.int x), l5, l6, l7, l8] st h Q = Wp d 268 833 [l0, l1, l2, l3, some (.int x), l5, l6, l7, l8] (.int x :: st) h Q := W_go f268_831 rfl
theorem f268_833 : fetch 268 833 = some (.iconst 1, 1, [], .null) := by decide +kernel
theorem w268_833 : Wp d 268 833 [l0, l1, l2, l3, l4, l5, l6, l7, l8] st h Q = Wp d 268 834 [l0, l1, l2, l3, l4, l5, l6, l7, l8] (.int (1 : Int32) :: st) h Q := W_go f268_833 rfl
theorem f268_834 : fetch 268 834 = some (.iadd, 1, [], .null) := by decide +kernel
theorem w268_834 : Wp d 268 834 [l0, l1, l2, l3, l4, l5, l6, l7, l8] (.int y :: .int x :: st) h Q = Wp d 268 835 [l0, l1, l2, l3, l4, l5, l6, l7, l8] (.int (x + y) :: st) h Q := W_go f268_834 rfl
theorem f268_835 : fetch 268 835 = some (.iaload, 1, [], .null) := by decide +kernel
theorem w268_835 : Wp d 268 835 [l0, l1, l2, l3, l4, l5, l6, l7, l8] (.int x :: .ref a :: st) h Q = aP false (h.2 a) x (fun w => Wp d 268 836 [l0, l1, l2, l3, l4, l5, l6, l7, l8] (.int w :: st) h Q) := W_ald f268_835 rfl
theorem f268_836 : fetch 268 836 = some (.aload_n 3, 1, [], .null) := by decide +kernel
theorem w268_836 : Wp d 268 836 [l0, l1, l2, some (.ref a), l4, l5, l6, l7, l8] st h Q = Wp d 268 837 [l0, l1, l2, some (.ref a), l4, l5, l6, l7, l8] (.ref a :: st) h Q := W_go f268_836 rfl
theorem f268_837 : fetch 268 837 = some (.invokestatic 150, 3, [249, 3, 0, 0, 4174, 1000, 4176, 4175], .null) := by decide +kernel
theorem w268_837 (hp : psum st ≤ 8) : Wp d 268 837 [l0, l1, l2, l3, l4, l5, l6, l7, l8] (v2 :: v1 :: v0 :: st) h Q = Cp d 249 [v0, v1, v2] h (fun o => cK o (fun w h2 => Wp d 268 840 [l0, l1, l2, l3, l4, l5, l6, l7, l8] (w.toList ++ st) h2 Q) (fun _ _ => False)) := (W_invS (st := st) f268_837 rfl rfl (by simp only [List.length_cons]; omega) rfl rfl hp)
theorem f268_840 : fetch 268 840 = some (.istore 5, 2, [], .null) := by decide +kernel
theorem w268_840 : Wp d 268 840 [l0, l1, l2, l3, l4, l5, l6, l7, l8] (.int x :: st) h Q = Wp d 268 842 [l0, l1, l2, l3, kl l4, some (.int x), l6, l7, l8] st h Q := (W_st1 (pc' := 842) (k := 5) f268_840 rfl rfl (by simp only [List.length_cons, List.length_nil]; omega)).trans (by rw [pst1_succ]; rfl)
theorem f268_842 : fetch 268 842 = some (.aload_n 2, 1, [], .null) := by decide +kernel
theorem w268_842 : Wp d 268 842 [l0, l1, some (.ref a), l3, l4, l5, l6, l7, l8] st h Q = Wp d 268 843 [l0, l1, some (.ref a), l3, l4, l5, l6, l7, l8] (.ref a :: st) h Q := W_go f268_842 rfl
theorem f268_843 : fetch 268 843 = some (.aload_n 0, 1, [], .null) := by decide +kernel
theorem w268_843 : Wp d 268 843 [some (.ref a), l1, l2, l3, l4, l5, l6, l7, l8] st h Q = Wp d 268 844 [some (.ref a), l1, l2, l3, l4, l5, l6, l7, l8] (.ref a :: st) h Q := W_go f268_843 rfl
theorem f268_844 : fetch 268 844 = some (.iload 4, 2, [], .null) := by decide +kernel
theorem w268_844 : Wp d 268 844 [l0, l1, l2, l3, some (.int x), l5, l6, l7, l8] st h Q = Wp d 268 846 [l0, l1, l2, l3, some (.int x), l5, l6, l7, l8] (.int x :: st) h Q := W_go f268_844 rfl
theorem f268_846 : fetch 268 846 = some (.iconst 1, 1, [], .null) := by decide +kernel
theorem w268_846 : Wp d 268 846 [l0, l1, l2, l3, l4, l5, l6, l7, l8] st h Q = Wp d 268 847 [l0, l1, l2, l3, l4, l5, l6, l7, l8] (.int (1 : Int32) :: st) h Q := W_go f268_846 rfl
theorem f268_847 : fetch 268 847 = some (.iadd, 1, [], .null) := by decide +kernel
theorem w268_847 : Wp d 268 847 [l0, l1, l2, l3, l4, l5, l6, l7, l8] (.int y :: .int x :: st) h Q = Wp d 268 848 [l0, l1, l2, l3, l4, l5, l6, l7, l8] (.int (x + y) :: st) h Q := W_go f268_847 rfl
theorem f268_848 : fetch 268 848 = some (.iaload, 1, [], .null) := by decide +kernel
theorem w268_848 : Wp d 268 848 [l0, l1, l2, l3, l4, l5, l6, l7, l8] (.int x :: .ref a :: st) h Q = aP false (h.2 a) x (fun w => Wp d 268 849 [l0, l1, l2, l3, l4, l5, l6, l7, l8] (.int w :: st) h Q) := W_ald f268_848 rfl
theorem f268_849 : fetch 268 849 = some (.invokevirtual 152, 3, [192, 2, 11, 0, 7146, 1013, 7149, 7147, 7148], .null) := by decide +kernel
theorem w268_849 (hp : psum st ≤ 8) : Wp d 268 849 [l0, l1, l2, l3, l4, l5, l6, l7, l8] (v1 :: (.ref b) :: st) h Q = rP (h.2 b) 10 (Cp d 192 [(.ref b), v1] h (fun o => cK o (fun w h2 => Wp d 268 852 [l0, l1, l2, l3, l4, l5, l6, l7, l8] (w.toList ++ st) h2 Q) (fun E h2 => Q (.inr E, h2)))) := (W_invV (st := st) f268_849 rfl rfl (by simp only [List.length_cons]; omega) rfl rfl hp).trans (by simp only [hm268, if_true])
theorem f268_852 : fetch 268 852 = some (.istore 6, 2, [], .null) := by decide +kernel
theorem w268_852 : Wp d 268 852 [l0, l1, l2, l3, l4, l5, l6, l7, l8] (.int x :: st) h Q = Wp d 268 854 [l0, l1, l2, l3, l4, kl l5, some (.int x), l7, l8] st h Q := (W_st1 (pc' := 854) (k := 6) f268_852 rfl rfl (by simp only [List.length_cons, List.length_nil]; omega)).trans (by rw [pst1_succ]; rfl)
theorem f268_854 : fetch 268 854 = some (.aload_n 2, 1, [], .null) := by decide +kernel
theorem w268_854 : Wp d 268 854 [l0, l1, some (.ref a), l3, l4, l5, l6, l7, l8] st h Q = Wp d 268 855 [l0, l1, some (.ref a), l3, l4, l5, l6, l7, l8] (.ref a :: st) h Q := W_go f268_854 rfl
theorem f268_855 : fetch 268 855 = some (.invokevirtual 110, 3, [145, 1, 11, 0, 6183, 1013, 6186, 6184, 6185], .null) := by decide +kernel
theorem w268_855 (hp : psum st ≤ 8) : Wp d 268 855 [l0, l1, l2, l3, l4, l5, l6, l7, l8] ((.ref b) :: st) h Q = rP (h.2 b) 10 (Cp d 145 [(.ref b)] h (fun o => cK o (fun w h2 => Wp d 268 858 [l0, l1, l2, l3, l4, l5, l6, l7, l8] (w.toList ++ st) h2 Q) (fun E h2 => Q (.inr E, h2)))) := (W_invV (st := st) f268_855 rfl rfl (by simp only [List.length_cons]; omega) rfl rfl hp).trans (by simp only [hm268, if_true])
theorem f268_858 : fetch 268 858 = some (.iload 5, 2, [], .null) := by decide +kernel
theorem w268_858 : Wp d 268 858 [l0, l1, l2, l3, l4, some (.int x), l6, l7, l8] st h Q = Wp d 268 860 [l0, l1, l2, l3, l4, some (.int x), l6, l7, l8] (.int x :: st) h Q := W_go f268_858 rfl
theorem f268_860 : fetch 268 860 = some (.if_icmp .eq 5, 3, [], .null) := by decide +kernel
theorem w268_860 : Wp d 268 860 [l0, l1, l2, l3, l4, l5, l6, l7, l8] (.int y :: .int x :: st) h Q = if icond .eq x y = true then Wp d 268 865 [l0, l1, l2, l3, l4, l5, l6, l7, l8] st h Q else Wp d 268 863 [l0, l1, l2, l3, l4, l5, l6, l7, l8] st h Q := W_if f268_860 rfl
theorem f268_863 : fetch 268 863 = some (.iconst 0, 1, [], .null) := by decide +kernel
theorem w268_863 : Wp d 268 863 [l0, l1, l2, l3, l4, l5, l6, l7, l8] st h Q = Wp d 268 864 [l0, l1, l2, l3, l4, l5, l6, l7, l8] (.int (0 : Int32) :: st) h Q := W_go f268_863 rfl
theorem f268_864 : fetch 268 864 = some (.ireturn, 1, [], .null) := by decide +kernel
theorem w268_864 : Wp d 268 864 [l0, l1, l2, l3, l4, l5, l6, l7, l8] [.int x] h Q = (if narrow .boolean (.int x) = .int x then Q (.inl (some (.int x)), h) else False) := W_zret f268_864 hr268
theorem f268_865 : fetch 268 865 = some (.iload 5, 2, [], .null) := by decide +kernel
theorem w268_865 : Wp d 268 865 [l0, l1, l2, l3, l4, some (.int x), l6, l7, l8] st h Q = Wp d 268 867 [l0, l1, l2, l3, l4, some (.int x), l6, l7, l8] (.int x :: st) h Q := W_go f268_865 rfl
theorem f268_867 : fetch 268 867 = some (.ifCond .ne 15, 3, [], .null) := by decide +kernel
theorem w268_867 : Wp d 268 867 [l0, l1, l2, l3, l4, l5, l6, l7, l8] (.int x :: st) h Q = if icond .ne x 0 = true then Wp d 268 882 [l0, l1, l2, l3, l4, l5, l6, l7, l8] st h Q else Wp d 268 870 [l0, l1, l2, l3, l4, l5, l6, l7, l8] st h Q := W_if f268_867 rfl
theorem f268_870 : fetch 268 870 = some (.aload_n 3, 1, [], .null) := by decide +kernel
theorem w268_870 : Wp d 268 870 [l0, l1, l2, some (.ref a), l4, l5, l6, l7, l8] st h Q = Wp d 268 871 [l0, l1, l2, some (.ref a), l4, l5, l6, l7, l8] (.ref a :: st) h Q := W_go f268_870 rfl
theorem f268_871 : fetch 268 871 = some (.iconst 0, 1, [], .null) := by decide +kernel
theorem w268_871 : Wp d 268 871 [l0, l1, l2, l3, l4, l5, l6, l7, l8] st h Q = Wp d 268 872 [l0, l1, l2, l3, l4, l5, l6, l7, l8] (.int (0 : Int32) :: st) h Q := W_go f268_871 rfl
theorem f268_872 : fetch 268 872 = some (.laload, 1, [], .null) := by decide +kernel
theorem w268_872 : Wp d 268 872 [l0, l1, l2, l3, l4, l5, l6, l7, l8] (.int x :: .ref a :: st) h Q = lP (h.2 a) x (fun w => Wp d 268 873 [l0, l1, l2, l3, l4, l5, l6, l7, l8] (.long w :: st) h Q) := W_lld f268_872 rfl
theorem f268_873 : fetch 268 873 = some (.iload 6, 2, [], .null) := by decide +kernel
theorem w268_873 : Wp d 268 873 [l0, l1, l2, l3, l4, l5, some (.int x), l7, l8] st h Q = Wp d 268 875 [l0, l1, l2, l3, l4, l5, some (.int x), l7, l8] (.int x :: st) h Q := W_go f268_873 rfl
theorem f268_875 : fetch 268 875 = some (.i2l, 1, [], .null) := by decide +kernel
theorem w268_875 : Wp d 268 875 [l0, l1, l2, l3, l4, l5, l6, l7, l8] (.int x :: st) h Q = Wp d 268 876 [l0, l1, l2, l3, l4, l5, l6, l7, l8] (.long x.toInt64 :: st) h Q := W_go f268_875 rfl
theorem f268_876 : fetch 268 876 = some (.lcmp, 1, [], .null) := by decide +kernel
theorem w268_876 : Wp d 268 876 [l0, l1, l2, l3, l4, l5, l6, l7, l8] (.long y8 :: .long x8 :: st) h Q = Wp d 268 877 [l0, l1, l2, l3, l4, l5, l6, l7, l8] (.int (lg_cmp x8 y8) :: st) h Q := W_go f268_876 rfl
theorem f268_877 : fetch 268 877 = some (.ifCond .eq 5, 3, [], .null) := by decide +kernel
theorem w268_877 : Wp d 268 877 [l0, l1, l2, l3, l4, l5, l6, l7, l8] (.int x :: st) h Q = if icond .eq x 0 = true then Wp d 268 882 [l0, l1, l2, l3, l4, l5, l6, l7, l8] st h Q else Wp d 268 880 [l0, l1, l2, l3, l4, l5, l6, l7, l8] st h Q := W_if f268_877 rfl
theorem f268_880 : fetch 268 880 = some (.iconst 0, 1, [], .null) := by decide +kernel
theorem w268_880 : Wp d 268 880 [l0, l1, l2, l3, l4, l5, l6, l7, l8] st h Q = Wp d 268 881 [l0, l1, l2, l3, l4, l5, l6, l7, l8] (.int (0 : Int32) :: st) h Q := W_go f268_880 rfl
theorem f268_881 : fetch 268 881 = some (.ireturn, 1, [], .null) := by decide +kernel
theorem w268_881 : Wp d 268 881 [l0, l1, l2, l3, l4, l5, l6, l7, l8] [.int x] h Q = (if narrow .boolean (.int x) = .int x then Q (.inl (some (.int x)), h) else False) := W_zret f268_881 hr268
theorem f268_882 : fetch 268 882 = some (.goto 1254, 3, [], .null) := by decide +kernel
theorem w268_882 : Wp d 268 882 [l0, l1, l2, l3, l4, l5, l6, l7, l8] st h Q = Wp d 268 2136 [l0, l1, l2, l3, l4, l5, l6, l7, l8] st h Q := W_go f268_882 rfl
theorem f268_885 : fetch 268 885 = some (.aload_n 1, 1, [], .null) := by decide +kernel
theorem w268_885 : Wp d 268 885 [l0, some (.ref a), l2, l3, l4, l5, l6, l7, l8] st h Q = Wp d 268 886 [l0, some (.ref a), l2, l3, l4, l5, l6, l7, l8] (.ref a :: st) h Q := W_go f268_885 rfl
theorem f268_886 : fetch 268 886 = some (.aload_n 0, 1, [], .null) := by decide +kernel
theorem w268_886 : Wp d 268 886 [some (.ref a), l1, l2, l3, l4, l5, l6, l7, l8] st h Q = Wp d 268 887 [some (.ref a), l1, l2, l3, l4, l5, l6, l7, l8] (.ref a :: st) h Q := W_go f268_886 rfl
theorem f268_887 : fetch 268 887 = some (.iload 4, 2, [], .null) := by decide +kernel
theorem w268_887 : Wp d 268 887 [l0, l1, l2, l3, some (.int x), l5, l6, l7, l8] st h Q = Wp d 268 889 [l0, l1, l2, l3, some (.int x), l5, l6, l7, l8] (.int x :: st) h Q := W_go f268_887 rfl
theorem f268_889 : fetch 268 889 = some (.iconst 1, 1, [], .null) := by decide +kernel
theorem w268_889 : Wp d 268 889 [l0, l1, l2, l3, l4, l5, l6, l7, l8] st h Q = Wp d 268 890 [l0, l1, l2, l3, l4, l5, l6, l7, l8] (.int (1 : Int32) :: st) h Q := W_go f268_889 rfl
theorem f268_890 : fetch 268 890 = some (.iadd, 1, [], .null) := by decide +kernel
theorem w268_890 : Wp d 268 890 [l0, l1, l2, l3, l4, l5, l6, l7, l8] (.int y :: .int x :: st) h Q = Wp d 268 891 [l0, l1, l2, l3, l4, l5, l6, l7, l8] (.int (x + y) :: st) h Q := W_go f268_890 rfl
theorem f268_891 : fetch 268 891 = some (.iaload, 1, [], .null) := by decide +kernel
theorem w268_891 : Wp d 268 891 [l0, l1, l2, l3, l4, l5, l6, l7, l8] (.int x :: .ref a :: st) h Q = aP false (h.2 a) x (fun w => Wp d 268 892 [l0, l1, l2, l3, l4, l5, l6, l7, l8] (.int w :: st) h Q) := W_ald f268_891 rfl
theorem f268_892 : fetch 268 892 = some (.aload_n 3, 1, [], .null) := by decide +kernel
theorem w268_892 : Wp d 268 892 [l0, l1, l2, some (.ref a), l4, l5, l6, l7, l8] st h Q = Wp d 268 893 [l0, l1, l2, some (.ref a), l4, l5, l6, l7, l8] (.ref a :: st) h Q := W_go f268_892 rfl
theorem f268_893 : fetch 268 893 = some (.invokestatic 153, 3, [250, 3, 0, 0, 5016, 1000, 5018, 5017], .null) := by decide +kernel
theorem w268_893 (hp : psum st ≤ 8) : Wp d 268 893 [l0, l1, l2, l3, l4, l5, l6, l7, l8] (v2 :: v1 :: v0 :: st) h Q = Cp d 250 [v0, v1, v2] h (fun o => cK o (fun w h2 => Wp d 268 896 [l0, l1, l2, l3, l4, l5, l6, l7, l8] (w.toList ++ st) h2 Q) (fun _ _ => False)) := (W_invS (st := st) f268_893 rfl rfl (by simp only [List.length_cons]; omega) rfl rfl hp)
theorem f268_896 : fetch 268 896 = some (.istore 5, 2, [], .null) := by decide +kernel
theorem w268_896 : Wp d 268 896 [l0, l1, l2, l3, l4, l5, l6, l7, l8] (.int x :: st) h Q = Wp d 268 898 [l0, l1, l2, l3, kl l4, some (.int x), l6, l7, l8] st h Q := (W_st1 (pc' := 898) (k := 5) f268_896 rfl rfl (by simp only [List.length_cons, List.length_nil]; omega)).trans (by rw [pst1_succ]; rfl)
theorem f268_898 : fetch 268 898 = some (.aload_n 2, 1, [], .null) := by decide +kernel
theorem w268_898 : Wp d 268 898 [l0, l1, some (.ref a), l3, l4, l5, l6, l7, l8] st h Q = Wp d 268 899 [l0, l1, some (.ref a), l3, l4, l5, l6, l7, l8] (.ref a :: st) h Q := W_go f268_898 rfl
theorem f268_899 : fetch 268 899 = some (.aload_n 0, 1, [], .null) := by decide +kernel
theorem w268_899 : Wp d 268 899 [some (.ref a), l1, l2, l3, l4, l5, l6, l7, l8] st h Q = Wp d 268 900 [some (.ref a), l1, l2, l3, l4, l5, l6, l7, l8] (.ref a :: st) h Q := W_go f268_899 rfl
theorem f268_900 : fetch 268 900 = some (.iload 4, 2, [], .null) := by decide +kernel
theorem w268_900 : Wp d 268 900 [l0, l1, l2, l3, some (.int x), l5, l6, l7, l8] st h Q = Wp d 268 902 [l0, l1, l2, l3, some (.int x), l5, l6, l7, l8] (.int x :: st) h Q := W_go f268_900 rfl
theorem f268_902 : fetch 268 902 = some (.iconst 1, 1, [], .null) := by decide +kernel
theorem w268_902 : Wp d 268 902 [l0, l1, l2, l3, l4, l5, l6, l7, l8] st h Q = Wp d 268 903 [l0, l1, l2, l3, l4, l5, l6, l7, l8] (.int (1 : Int32) :: st) h Q := W_go f268_902 rfl
theorem f268_903 : fetch 268 903 = some (.iadd, 1, [], .null) := by decide +kernel
theorem w268_903 : Wp d 268 903 [l0, l1, l2, l3, l4, l5, l6, l7, l8] (.int y :: .int x :: st) h Q = Wp d 268 904 [l0, l1, l2, l3, l4, l5, l6, l7, l8] (.int (x + y) :: st) h Q := W_go f268_903 rfl
theorem f268_904 : fetch 268 904 = some (.iaload, 1, [], .null) := by decide +kernel
theorem w268_904 : Wp d 268 904 [l0, l1, l2, l3, l4, l5, l6, l7, l8] (.int x :: .ref a :: st) h Q = aP false (h.2 a) x (fun w => Wp d 268 905 [l0, l1, l2, l3, l4, l5, l6, l7, l8] (.int w :: st) h Q) := W_ald f268_904 rfl
theorem f268_905 : fetch 268 905 = some (.invokevirtual 155, 3, [193, 2, 11, 0, 7219, 1013, 7222, 7220, 7221], .null) := by decide +kernel
theorem w268_905 (hp : psum st ≤ 8) : Wp d 268 905 [l0, l1, l2, l3, l4, l5, l6, l7, l8] (v1 :: (.ref b) :: st) h Q = rP (h.2 b) 10 (Cp d 193 [(.ref b), v1] h (fun o => cK o (fun w h2 => Wp d 268 908 [l0, l1, l2, l3, l4, l5, l6, l7, l8] (w.toList ++ st) h2 Q) (fun E h2 => Q (.inr E, h2)))) := (W_invV (st := st) f268_905 rfl rfl (by simp only [List.length_cons]; omega) rfl rfl hp).trans (by simp only [hm268, if_true])
theorem f268_908 : fetch 268 908 = some (.istore 6, 2, [], .null) := by decide +kernel
theorem w268_908 : Wp d 268 908 [l0, l1, l2, l3, l4, l5, l6, l7, l8] (.int x :: st) h Q = Wp d 268 910 [l0, l1, l2, l3, l4, kl l5, some (.int x), l7, l8] st h Q := (W_st1 (pc' := 910) (k := 6) f268_908 rfl rfl (by simp only [List.length_cons, List.length_nil]; omega)).trans (by rw [pst1_succ]; rfl)
theorem f268_910 : fetch 268 910 = some (.aload_n 2, 1, [], .null) := by decide +kernel
theorem w268_910 : Wp d 268 910 [l0, l1, some (.ref a), l3, l4, l5, l6, l7, l8] st h Q = Wp d 268 911 [l0, l1, some (.ref a), l3, l4, l5, l6, l7, l8] (.ref a :: st) h Q := W_go f268_910 rfl
theorem f268_911 : fetch 268 911 = some (.invokevirtual 110, 3, [145, 1, 11, 0, 6183, 1013, 6186, 6184, 6185], .null) := by decide +kernel
theorem w268_911 (hp : psum st ≤ 8) : Wp d 268 911 [l0, l1, l2, l3, l4, l5, l6, l7, l8] ((.ref b) :: st) h Q = rP (h.2 b) 10 (Cp d 145 [(.ref b)] h (fun o => cK o (fun w h2 => Wp d 268 914 [l0, l1, l2, l3, l4, l5, l6, l7, l8] (w.toList ++ st) h2 Q) (fun E h2 => Q (.inr E, h2)))) := (W_invV (st := st) f268_911 rfl rfl (by simp only [List.length_cons]; omega) rfl rfl hp).trans (by simp only [hm268, if_true])
theorem f268_914 : fetch 268 914 = some (.iload 5, 2, [], .null) := by decide +kernel
theorem w268_914 : Wp d 268 914 [l0, l1, l2, l3, l4, some (.int x), l6, l7, l8] st h Q = Wp d 268 916 [l0, l1, l2, l3, l4, some (.int x), l6, l7, l8] (.int x :: st) h Q := W_go f268_914 rfl
theorem f268_916 : fetch 268 916 = some (.if_icmp .eq 5, 3, [], .null) := by decide +kernel
theorem w268_916 : Wp d 268 916 [l0, l1, l2, l3, l4, l5, l6, l7, l8] (.int y :: .int x :: st) h Q = if icond .eq x y = true then Wp d 268 921 [l0, l1, l2, l3, l4, l5, l6, l7, l8] st h Q else Wp d 268 919 [l0, l1, l2, l3, l4, l5, l6, l7, l8] st h Q := W_if f268_916 rfl
theorem f268_919 : fetch 268 919 = some (.iconst 0, 1, [], .null) := by decide +kernel
theorem w268_919 : Wp d 268 919 [l0, l1, l2, l3, l4, l5, l6, l7, l8] st h Q = Wp d 268 920 [l0, l1, l2, l3, l4, l5, l6, l7, l8] (.int (0 : Int32) :: st) h Q := W_go f268_919 rfl
theorem f268_920 : fetch 268 920 = some (.ireturn, 1, [], .null) := by decide +kernel
theorem w268_920 : Wp d 268 920 [l0, l1, l2, l3, l4, l5, l6, l7, l8] [.int x] h Q = (if narrow .boolean (.int x) = .int x then Q (.inl (some (.int x)), h) else False) := W_zret f268_920 hr268
theorem f268_921 : fetch 268 921 = some (.iload 5, 2, [], .null) := by decide +kernel
theorem w268_921 : Wp d 268 921 [l0, l1, l2, l3, l4, some (.int x), l6, l7, l8] st h Q = Wp d 268 923 [l0, l1, l2, l3, l4, some (.int x), l6, l7, l8] (.int x :: st) h Q := W_go f268_921 rfl
theorem f268_923 : fetch 268 923 = some (.ifCond .ne 15, 3, [], .null) := by decide +kernel
theorem w268_923 : Wp d 268 923 [l0, l1, l2, l3, l4, l5, l6, l7, l8] (.int x :: st) h Q = if icond .ne x 0 = true then Wp d 268 938 [l0, l1, l2, l3, l4, l5, l6, l7, l8] st h Q else Wp d 268 926 [l0, l1, l2, l3, l4, l5, l6, l7, l8] st h Q := W_if f268_923 rfl
theorem f268_926 : fetch 268 926 = some (.aload_n 3, 1, [], .null) := by decide +kernel
theorem w268_926 : Wp d 268 926 [l0, l1, l2, some (.ref a), l4, l5, l6, l7, l8] st h Q = Wp d 268 927 [l0, l1, l2, some (.ref a), l4, l5, l6, l7, l8] (.ref a :: st) h Q := W_go f268_926 rfl
theorem f268_927 : fetch 268 927 = some (.iconst 0, 1, [], .null) := by decide +kernel
theorem w268_927 : Wp d 268 927 [l0, l1, l2, l3, l4, l5, l6, l7, l8] st h Q = Wp d 268 928 [l0, l1, l2, l3, l4, l5, l6, l7, l8] (.int (0 : Int32) :: st) h Q := W_go f268_927 rfl
theorem f268_928 : fetch 268 928 = some (.laload, 1, [], .null) := by decide +kernel
theorem w268_928 : Wp d 268 928 [l0, l1, l2, l3, l4, l5, l6, l7, l8] (.int x :: .ref a :: st) h Q = lP (h.2 a) x (fun w => Wp d 268 929 [l0, l1, l2, l3, l4, l5, l6, l7, l8] (.long w :: st) h Q) := W_lld f268_928 rfl
theorem f268_929 : fetch 268 929 = some (.iload 6, 2, [], .null) := by decide +kernel
theorem w268_929 : Wp d 268 929 [l0, l1, l2, l3, l4, l5, some (.int x), l7, l8] st h Q = Wp d 268 931 [l0, l1, l2, l3, l4, l5, some (.int x), l7, l8] (.int x :: st) h Q := W_go f268_929 rfl
theorem f268_931 : fetch 268 931 = some (.i2l, 1, [], .null) := by decide +kernel
theorem w268_931 : Wp d 268 931 [l0, l1, l2, l3, l4, l5, l6, l7, l8] (.int x :: st) h Q = Wp d 268 932 [l0, l1, l2, l3, l4, l5, l6, l7, l8] (.long x.toInt64 :: st) h Q := W_go f268_931 rfl
theorem f268_932 : fetch 268 932 = some (.lcmp, 1, [], .null) := by decide +kernel
theorem w268_932 : Wp d 268 932 [l0, l1, l2, l3, l4, l5, l6, l7, l8] (.long y8 :: .long x8 :: st) h Q = Wp d 268 933 [l0, l1, l2, l3, l4, l5, l6, l7, l8] (.int (lg_cmp x8 y8) :: st) h Q := W_go f268_932 rfl
theorem f268_933 : fetch 268 933 = some (.ifCond .eq 5, 3, [], .null) := by decide +kernel
theorem w268_933 : Wp d 268 933 [l0, l1, l2, l3, l4, l5, l6, l7, l8] (.int x :: st) h Q = if icond .eq x 0 = true then Wp d 268 938 [l0, l1, l2, l3, l4, l5, l6, l7, l8] st h Q else Wp d 268 936 [l0, l1, l2, l3, l4, l5, l6, l7, l8] st h Q := W_if f268_933 rfl
theorem f268_936 : fetch 268 936 = some (.iconst 0, 1, [], .null) := by decide +kernel
theorem w268_936 : Wp d 268 936 [l0, l1, l2, l3, l4, l5, l6, l7, l8] st h Q = Wp d 268 937 [l0, l1, l2, l3, l4, l5, l6, l7, l8] (.int (0 : Int32) :: st) h Q := W_go f268_936 rfl
theorem f268_937 : fetch 268 937 = some (.ireturn, 1, [], .null) := by decide +kernel
theorem w268_937 : Wp d 268 937 [l0, l1, l2, l3, l4, l5, l6, l7, l8] [.int x] h Q = (if narrow .boolean (.int x) = .int x then Q (.inl (some (.int x)), h) else False) := W_zret f268_937 hr268
theorem f268_938 : fetch 268 938 = some (.goto 1198, 3, [], .null) := by decide +kernel
theorem w268_938 : Wp d 268 938 [l0, l1, l2, l3, l4, l5, l6, l7, l8] st h Q = Wp d 268 2136 [l0, l1, l2, l3, l4, l5, l6, l7, l8] st h Q := W_go f268_938 rfl
theorem f268_941 : fetch 268 941 = some (.aload_n 1, 1, [], .null) := by decide +kernel
theorem w268_941 : Wp d 268 941 [l0, some (.ref a), l2, l3, l4, l5, l6, l7, l8] st h Q = Wp d 268 942 [l0, some (.ref a), l2, l3, l4, l5, l6, l7, l8] (.ref a :: st) h Q := W_go f268_941 rfl
theorem f268_942 : fetch 268 942 = some (.invokevirtual 156, 3, [82, 1, 8, 0, 3142, 1001, 3145, 3143, 3144], .null) := by decide +kernel
theorem w268_942 (hp : psum st ≤ 8) : Wp d 268 942 [l0, l1, l2, l3, l4, l5, l6, l7, l8] ((.ref b) :: st) h Q = rP (h.2 b) 7 (Cp d 82 [(.ref b)] h (fun o => cK o (fun w h2 => Wp d 268 945 [l0, l1, l2, l3, l4, l5, l6, l7, l8] (w.toList ++ st) h2 Q) (fun E h2 => Q (.inr E, h2)))) := (W_invV (st := st) f268_942 rfl rfl (by simp only [List.length_cons]; omega) rfl rfl hp).trans (by simp only [hm268, if_true])
theorem f268_945 : fetch 268 945 = some (.aload_n 2, 1, [], .null) := by decide +kernel
theorem w268_945 : Wp d 268 945 [l0, l1, some (.ref a), l3, l4, l5, l6, l7, l8] st h Q = Wp d 268 946 [l0, l1, some (.ref a), l3, l4, l5, l6, l7, l8] (.ref a :: st) h Q := W_go f268_945 rfl
theorem f268_946 : fetch 268 946 = some (.invokevirtual 159, 3, [194, 1, 11, 0, 7223, 1013, 7226, 7224, 7225], .null) := by decide +kernel
theorem w268_946 (hp : psum st ≤ 8) : Wp d 268 946 [l0, l1, l2, l3, l4, l5, l6, l7, l8] ((.ref b) :: st) h Q = rP (h.2 b) 10 (Cp d 194 [(.ref b)] h (fun o => cK o (fun w h2 => Wp d 268 949 [l0, l1, l2, l3, l4, l5, l6, l7, l8] (w.toList ++ st) h2 Q) (fun E h2 => Q (.inr E, h2)))) := (W_invV (st := st) f268_946 rfl rfl (by simp only [List.length_cons]; omega) rfl rfl hp).trans (by simp only [hm268, if_true])
theorem f268_949 : fetch 268 949 = some (.if_icmp .eq 1187, 3, [], .null) := by decide +kernel
theorem w268_949 : Wp d 268 949 [l0, l1, l2, l3, l4, l5, l6, l7, l8] (.int y :: .int x :: st) h Q = if icond .eq x y = true then Wp d 268 2136 [l0, l1, l2, l3, l4, l5, l6, l7, l8] st h Q else Wp d 268 952 [l0, l1, l2, l3, l4, l5, l6, l7, l8] st h Q := W_if f268_949 rfl
theorem f268_952 : fetch 268 952 = some (.iconst 0, 1, [], .null) := by decide +kernel
theorem w268_952 : Wp d 268 952 [l0, l1, l2, l3, l4, l5, l6, l7, l8] st h Q = Wp d 268 953 [l0, l1, l2, l3, l4, l5, l6, l7, l8] (.int (0 : Int32) :: st) h Q := W_go f268_952 rfl
theorem f268_953 : fetch 268 953 = some (.ireturn, 1, [], .null) := by decide +kernel
theorem w268_953 : Wp d 268 953 [l0, l1, l2, l3, l4, l5, l6, l7, l8] [.int x] h Q = (if narrow .boolean (.int x) = .int x then Q (.inl (some (.int x)), h) else False) := W_zret f268_953 hr268
theorem f268_954 : fetch 268 954 = some (.aload_n 1, 1, [], .null) := by decide +kernel
theorem w268_954 : Wp d 268 954 [l0, some (.ref a), l2, l3, l4, l5, l6, l7, l8] st h Q = Wp d 268 955 [l0, some (.ref a), l2, l3, l4, l5, l6, l7, l8] (.ref a :: st) h Q := W_go f268_954 rfl
theorem f268_955 : fetch 268 955 = some (.invokevirtual 160, 3, [83, 1, 8, 0, 3146, 1001, 3149, 3147, 3148], .null) := by decide +kernel
theorem w268_955 (hp : psum st ≤ 8) : Wp d 268 955 [l0, l1, l2, l3, l4, l5, l6, l7, l8] ((.ref b) :: st) h Q = rP (h.2 b) 7 (Cp d 83 [(.ref b)] h (fun o => cK o (fun w h2 => Wp d 268 958 [l0, l1, l2, l3, l4, l5, l6, l7, l8] (w.toList ++ st) h2 Q) (fun E h2 => Q (.inr E, h2)))) := (W_invV (st := st) f268_955 rfl rfl (by simp only [List.length_cons]; omega) rfl rfl hp).trans (by simp only [hm268, if_true])
theorem f268_958 : fetch 268 958 = some (.aload_n 2, 1, [], .null) := by decide +kernel
theorem w268_958 : Wp d 268 958 [l0, l1, some (.ref a), l3, l4, l5, l6, l7, l8] st h Q = Wp d 268 959 [l0, l1, some (.ref a), l3, l4, l5, l6, l7, l8] (.ref a :: st) h Q := W_go f268_958 rfl
theorem f268_959 : fetch 268 959 = some (.invokevirtual 163, 3, [195, 1, 11, 0, 7227, 1013, 7230, 7228, 7229], .null) := by decide +kernel
theorem w268_959 (hp : psum st ≤ 8) : Wp d 268 959 [l0, l1, l2, l3, l4, l5, l6, l7, l8] ((.ref b) :: st) h Q = rP (h.2 b) 10 (Cp d 195 [(.ref b)] h (fun o => cK o (fun w h2 => Wp d 268 962 [l0, l1, l2, l3, l4, l5, l6, l7, l8] (w.toList ++ st) h2 Q) (fun E h2 => Q (.inr E, h2)))) := (W_invV (st := st) f268_959 rfl rfl (by simp only [List.length_cons]; omega) rfl rfl hp).trans (by simp only [hm268, if_true])
theorem f268_962 : fetch 268 962 = some (.if_icmp .eq 1174, 3, [], .null) := by decide +kernel
theorem w268_962 : Wp d 268 962 [l0, l1, l2, l3, l4, l5, l6, l7, l8] (.int y :: .int x :: st) h Q = if icond .eq x y = true then Wp d 268 2136 [l0, l1, l2, l3, l4, l5, l6, l7, l8] st h Q else Wp d 268 965 [l0, l1, l2, l3, l4, l5, l6, l7, l8] st h Q := W_if f268_962 rfl
theorem f268_965 : fetch 268 965 = some (.iconst 0, 1, [], .null) := by decide +kernel
theorem w268_965 : Wp d 268 965 [l0, l1, l2, l3, l4, l5, l6, l7, l8] st h Q = Wp d 268 966 [l0, l1, l2, l3, l4, l5, l6, l7, l8] (.int (0 : Int32) :: st) h Q := W_go f268_965 rfl
theorem f268_966 : fetch 268 966 = some (.ireturn, 1, [], .null) := by decide +kernel
theorem w268_966 : Wp d 268 966 [l0, l1, l2, l3, l4, l5, l6, l7, l8] [.int x] h Q = (if narrow .boolean (.int x) = .int x then Q (.inl (some (.int x)), h) else False) := W_zret f268_966 hr268
theorem f268_967 : fetch 268 967 = some (.aload_n 1, 1, [], .null) := by decide +kernel
theorem w268_967 : Wp d 268 967 [l0, some (.ref a), l2, l3, l4, l5, l6, l7, l8] st h Q = Wp d 268 968 [l0, some (.ref a), l2, l3, l4, l5, l6, l7, l8] (.ref a :: st) h Q := W_go f268_967 rfl
theorem f268_968 : fetch 268 968 = some (.invokevirtual 164, 3, [84, 1, 8, 0, 3150, 1001, 3153, 3151, 3152], .null) := by decide +kernel
theorem w268_968 (hp : psum st ≤ 8) : Wp d 268 968 [l0, l1, l2, l3, l4, l5, l6, l7, l8] ((.ref b) :: st) h Q = rP (h.2 b) 7 (Cp d 84 [(.ref b)] h (fun o => cK o (fun w h2 => Wp d 268 971 [l0, l1, l2, l3, l4, l5, l6, l7, l8] (w.toList ++ st) h2 Q) (fun E h2 => Q (.inr E, h2)))) := (W_invV (st := st) f268_968 rfl rfl (by simp only [List.length_cons]; omega) rfl rfl hp).trans (by simp only [hm268, if_true])
theorem f268_971 : fetch 268 971 = some (.aload_n 2, 1, [], .null) := by decide +kernel
theorem w268_971 : Wp d 268 971 [l0, l1, some (.ref a), l3, l4, l5, l6, l7, l8] st h Q = Wp d 268 972 [l0, l1, some (.ref a), l3, l4, l5, l6, l7, l8] (.ref a :: st) h Q := W_go f268_971 rfl
theorem f268_972 : fetch 268 972 = some (.invokevirtual 167, 3, [196, 1, 11, 0, 7231, 1013, 7234, 7232, 7233], .null) := by decide +kernel
theorem w268_972 (hp : psum st ≤ 8) : Wp d 268 972 [l0, l1, l2, l3, l4, l5, l6, l7, l8] ((.ref b) :: st) h Q = rP (h.2 b) 10 (Cp d 196 [(.ref b)] h (fun o => cK o (fun w h2 => Wp d 268 975 [l0, l1, l2, l3, l4, l5, l6, l7, l8] (w.toList ++ st) h2 Q) (fun E h2 => Q (.inr E, h2)))) := (W_invV (st := st) f268_972 rfl rfl (by simp only [List.length_cons]; omega) rfl rfl hp).trans (by simp only [hm268, if_true])
theorem f268_975 : fetch 268 975 = some (.if_icmp .eq 1161, 3, [], .null) := by decide +kernel
theorem w268_975 : Wp d 268 975 [l0, l1, l2, l3, l4, l5, l6, l7, l8] (.int y :: .int x :: st) h Q = if icond .eq x y = true then Wp d 268 2136 [l0, l1, l2, l3, l4, l5, l6, l7, l8] st h Q else Wp d 268 978 [l0, l1, l2, l3, l4, l5, l6, l7, l8] st h Q := W_if f268_975 rfl
theorem f268_978 : fetch 268 978 = some (.iconst 0, 1, [], .null) := by decide +kernel
theorem w268_978 : Wp d 268 978 [l0, l1, l2, l3, l4, l5, l6, l7, l8] st h Q = Wp d 268 979 [l0, l1, l2, l3, l4, l5, l6, l7, l8] (.int (0 : Int32) :: st) h Q := W_go f268_978 rfl
theorem f268_979 : fetch 268 979 = some (.ireturn, 1, [], .null) := by decide +kernel
theorem w268_979 : Wp d 268 979 [l0, l1, l2, l3, l4, l5, l6, l7, l8] [.int x] h Q = (if narrow .boolean (.int x) = .int x then Q (.inl (some (.int x)), h) else False) := W_zret f268_979 hr268
theorem f268_980 : fetch 268 980 = some (.aload_n 1, 1, [], .null) := by decide +kernel
theorem w268_980 : Wp d 268 980 [l0, some (.ref a), l2, l3, l4, l5, l6, l7, l8] st h Q = Wp d 268 981 [l0, some (.ref a), l2, l3, l4, l5, l6, l7, l8] (.ref a :: st) h Q := W_go f268_980 rfl
theorem f268_981 : fetch 268 981 = some (.aload_n 0, 1, [], .null) := by decide +kernel
theorem w268_981 : Wp d 268 981 [some (.ref a), l1, l2, l3, l4, l5, l6, l7, l8] st h Q = Wp d 268 982 [some (.ref a), l1, l2, l3, l4, l5, l6, l7, l8] (.ref a :: st) h Q := W_go f268_981 rfl
theorem f268_982 : fetch 268 982 = some (.iload 4, 2, [], .null) := by decide +kernel
theorem w268_982 : Wp d 268 982 [l0, l1, l2, l3, some (.int x), l5, l6, l7, l8] st h Q = Wp d 268 984 [l0, l1, l2, l3, some (.int x), l5, l6, l7, l8] (.int x :: st) h Q := W_go f268_982 rfl
theorem f268_984 : fetch 268 984 = some (.iconst 1, 1, [], .null) := by decide +kernel
theorem w268_984 : Wp d 268 984 [l0, l1, l2, l3, l4, l5, l6, l7, l8] st h Q = Wp d 268 985 [l0, l1, l2, l3, l4, l5, l6, l7, l8] (.int (1 : Int32) :: st) h Q := W_go f268_984 rfl
theorem f268_985 : fetch 268 985 = some (.iadd, 1, [], .null) := by decide +kernel
theorem w268_985 : Wp d 268 985 [l0, l1, l2, l3, l4, l5, l6, l7, l8] (.int y :: .int x :: st) h Q = Wp d 268 986 [l0, l1, l2, l3, l4, l5, l6, l7, l8] (.int (x + y) :: st) h Q := W_go f268_985 rfl
theorem f268_986 : fetch 268 986 = some (.iaload, 1, [], .null) := by decide +kernel
theorem w268_986 : Wp d 268 986 [l0, l1, l2, l3, l4, l5, l6, l7, l8] (.int x :: .ref a :: st) h Q = aP false (h.2 a) x (fun w => Wp d 268 987 [l0, l1, l2, l3, l4, l5, l6, l7, l8] (.int w :: st) h Q) := W_ald f268_986 rfl
theorem f268_987 : fetch 268 987 = some (.aload_n 3, 1, [], .null) := by decide +kernel
theorem w268_987 : Wp d 268 987 [l0, l1, l2, some (.ref a), l4, l5, l6, l7, l8] st h Q = Wp d 268 988 [l0, l1, l2, some (.ref a), l4, l5, l6, l7, l8] (.ref a :: st) h Q := W_go f268_987 rfl
theorem f268_988 : fetch 268 988 = some (.invokestatic 168, 3, [251, 3, 0, 0, 5024, 1000, 5026, 5025], .null) := by decide +kernel
theorem w268_988 (hp : psum st ≤ 8) : Wp d 268 988 [l0, l1, l2, l3, l4, l5, l6, l7, l8] (v2 :: v1 :: v0 :: st) h Q = Cp d 251 [v0, v1, v2] h (fun o => cK o (fun w h2 => Wp d 268 991 [l0, l1, l2, l3, l4, l5, l6, l7, l8] (w.toList ++ st) h2 Q) (fun _ _ => False)) := (W_invS (st := st) f268_988 rfl rfl (by simp only [List.length_cons]; omega) rfl rfl hp)
theorem f268_991 : fetch 268 991 = some (.istore 5, 2, [], .null) := by decide +kernel
theorem w268_991 : Wp d 268 991 [l0, l1, l2, l3, l4, l5, l6, l7, l8] (.int x :: st) h Q = Wp d 268 993 [l0, l1, l2, l3, kl l4, some (.int x), l6, l7, l8] st h Q := (W_st1 (pc' := 993) (k := 5) f268_991 rfl rfl (by simp only [List.length_cons, List.length_nil]; omega)).trans (by rw [pst1_succ]; rfl)
theorem f268_993 : fetch 268 993 = some (.aload_n 2, 1, [], .null) := by decide +kernel
theorem w268_993 : Wp d 268 993 [l0, l1, some (.ref a), l3, l4, l5, l6, l7, l8] st h Q = Wp d 268 994 [l0, l1, some (.ref a), l3, l4, l5, l6, l7, l8] (.ref a :: st) h Q := W_go f268_993 rfl
theorem f268_994 : fetch 268 994 = some (.aload_n 0, 1, [], .null) := by decide +kernel
theorem w268_994 : Wp d 268 994 [some (.ref a), l1, l2, l3, l4, l5, l6, l7, l8] st h Q = Wp d 268 995 [some (.ref a), l1, l2, l3, l4, l5, l6, l7, l8] (.ref a :: st) h Q := W_go f268_994 rfl
theorem f268_995 : fetch 268 995 = some (.iload 4, 2, [], .null) := by decide +kernel
theorem w268_995 : Wp d 268 995 [l0, l1, l2, l3, some (.int x), l5, l6, l7, l8] st h Q = Wp d 268 997 [l0, l1, l2, l3, some (.int x), l5, l6, l7, l8] (.int x :: st) h Q := W_go f268_995 rfl
theorem f268_997 : fetch 268 997 = some (.iconst 1, 1, [], .null) := by decide +kernel
theorem w268_997 : Wp d 268 997 [l0, l1, l2, l3, l4, l5, l6, l7, l8] st h Q = Wp d 268 998 [l0, l1, l2, l3, l4, l5, l6, l7, l8] (.int (1 : Int32) :: st) h Q := W_go f268_997 rfl
theorem f268_998 : fetch 268 998 = some (.iadd, 1, [], .null) := by decide +kernel
theorem w268_998 : Wp d 268 998 [l0, l1, l2, l3, l4, l5, l6, l7, l8] (.int y :: .int x :: st) h Q = Wp d 268 999 [l0, l1, l2, l3, l4, l5, l6, l7, l8] (.int (x + y) :: st) h Q := W_go f268_998 rfl
theorem f268_999 : fetch 268 999 = some (.iaload, 1, [], .null) := by decide +kernel
theorem w268_999 : Wp d 268 999 [l0, l1, l2, l3, l4, l5, l6, l7, l8] (.int x :: .ref a :: st) h Q = aP false (h.2 a) x (fun w => Wp d 268 1000 [l0, l1, l2, l3, l4, l5, l6, l7, l8] (.int w :: st) h Q) := W_ald f268_999 rfl
theorem f268_1000 : fetch 268 1000 = some (.invokevirtual 170, 3, [197, 2, 11, 0, 7235, 1013, 7238, 7236, 7237], .null) := by decide +kernel
theorem w268_1000 (hp : psum st ≤ 8) : Wp d 268 1000 [l0, l1, l2, l3, l4, l5, l6, l7, l8] (v1 :: (.ref b) :: st) h Q = rP (h.2 b) 10 (Cp d 197 [(.ref b), v1] h (fun o => cK o (fun w h2 => Wp d 268 1003 [l0, l1, l2, l3, l4, l5, l6, l7, l8] (w.toList ++ st) h2 Q) (fun E h2 => Q (.inr E, h2)))) := (W_invV (st := st) f268_1000 rfl rfl (by simp only [List.length_cons]; omega) rfl rfl hp).trans (by simp only [hm268, if_true])
theorem f268_1003 : fetch 268 1003 = some (.istore 6, 2, [], .null) := by decide +kernel
theorem w268_1003 : Wp d 268 1003 [l0, l1, l2, l3, l4, l5, l6, l7, l8] (.int x :: st) h Q = Wp d 268 1005 [l0, l1, l2, l3, l4, kl l5, some (.int x), l7, l8] st h Q := (W_st1 (pc' := 1005) (k := 6) f268_1003 rfl rfl (by simp only [List.length_cons, List.length_nil]; omega)).trans (by rw [pst1_succ]; rfl)
theorem f268_1005 : fetch 268 1005 = some (.aload_n 2, 1, [], .null) := by decide +kernel
theorem w268_1005 : Wp d 268 1005 [l0, l1, some (.ref a), l3, l4, l5, l6, l7, l8] st h Q = Wp d 268 1006 [l0, l1, some (.ref a), l3, l4, l5, l6, l7, l8] (.ref a :: st) h Q := W_go f268_1005 rfl
theorem f268_1006 : fetch 268 1006 = some (.invokevirtual 110, 3, [145, 1, 11, 0, 6183, 1013, 6186, 6184, 6185], .null) := by decide +kernel
theorem w268_1006 (hp : psum st ≤ 8) : Wp d 268 1006 [l0, l1, l2, l3, l4, l5, l6, l7, l8] ((.ref b) :: st) h Q = rP (h.2 b) 10 (Cp d 145 [(.ref b)] h (fun o => cK o (fun w h2 => Wp d 268 1009 [l0, l1, l2, l3, l4, l5, l6, l7, l8] (w.toList ++ st) h2 Q) (fun E h2 => Q (.inr E, h2)))) := (W_invV (st := st) f268_1006 rfl rfl (by simp only [List.length_cons]; omega) rfl rfl hp).trans (by simp only [hm268, if_true])
theorem f268_1009 : fetch 268 1009 = some (.iload 5, 2, [], .null) := by decide +kernel
theorem w268_1009 : Wp d 268 1009 [l0, l1, l2, l3, l4, some (.int x), l6, l7, l8] st h Q = Wp d 268 1011 [l0, l1, l2, l3, l4, some (.int x), l6, l7, l8] (.int x :: st) h Q := W_go f268_1009 rfl
theorem f268_1011 : fetch 268 1011 = some (.if_icmp .eq 5, 3, [], .null) := by decide +kernel
theorem w268_1011 : Wp d 268 1011 [l0, l1, l2, l3, l4, l5, l6, l7, l8] (.int y :: .int x :: st) h Q = if icond .eq x y = true then Wp d 268 1016 [l0, l1, l2, l3, l4, l5, l6, l7, l8] st h Q else Wp d 268 1014 [l0, l1, l2, l3, l4, l5, l6, l7, l8] st h Q := W_if f268_1011 rfl
theorem f268_1014 : fetch 268 1014 = some (.iconst 0, 1, [], .null) := by decide +kernel
theorem w268_1014 : Wp d 268 1014 [l0, l1, l2, l3, l4, l5, l6, l7, l8] st h Q = Wp d 268 1015 [l0, l1, l2, l3, l4, l5, l6, l7, l8] (.int (0 : Int32) :: st) h Q := W_go f268_1014 rfl
theorem f268_1015 : fetch 268 1015 = some (.ireturn, 1, [], .null) := by decide +kernel
theorem w268_1015 : Wp d 268 1015 [l0, l1, l2, l3, l4, l5, l6, l7, l8] [.int x] h Q = (if narrow .boolean (.int x) = .int x then Q (.inl (some (.int x)), h) else False) := W_zret f268_1015 hr268
theorem f268_1016 : fetch 268 1016 = some (.iload 5, 2, [], .null) := by decide +kernel
theorem w268_1016 : Wp d 268 1016 [l0, l1, l2, l3, l4, some (.int x), l6, l7, l8] st h Q = Wp d 268 1018 [l0, l1, l2, l3, l4, some (.int x), l6, l7, l8] (.int x :: st) h Q := W_go f268_1016 rfl
theorem f268_1018 : fetch 268 1018 = some (.ifCond .ne 15, 3, [], .null) := by decide +kernel
theorem w268_1018 : Wp d 268 1018 [l0, l1, l2, l3, l4, l5, l6, l7, l8] (.int x :: st) h Q = if icond .ne x 0 = true then Wp d 268 1033 [l0, l1, l2, l3, l4, l5, l6, l7, l8] st h Q else Wp d 268 1021 [l0, l1, l2, l3, l4, l5, l6, l7, l8] st h Q := W_if f268_1018 rfl
theorem f268_1021 : fetch 268 1021 = some (.aload_n 3, 1, [], .null) := by decide +kernel
theorem w268_1021 : Wp d 268 1021 [l0, l1, l2, some (.ref a), l4, l5, l6, l7, l8] st h Q = Wp d 268 1022 [l0, l1, l2, some (.ref a), l4, l5, l6, l7, l8] (.ref a :: st) h Q := W_go f268_1021 rfl
theorem f268_1022 : fetch 268 1022 = some (.iconst 0, 1, [], .null) := by decide +kernel
theorem w268_1022 : Wp d 268 1022 [l0, l1, l2, l3, l4, l5, l6, l7, l8] st h Q = Wp d 268 1023 [l0, l1, l2, l3, l4, l5, l6, l7, l8] (.int (0 : Int32) :: st) h Q := W_go f268_1022 rfl
theorem f268_1023 : fetch 268 1023 = some (.laload, 1, [], .null) := by decide +kernel
theorem w268_1023 : Wp d 268 1023 [l0, l1, l2, l3, l4, l5, l6, l7, l8] (.int x :: .ref a :: st) h Q = lP (h.2 a) x (fun w => Wp d 268 1024 [l0, l1, l2, l3, l4, l5, l6, l7, l8] (.long w :: st) h Q) := W_lld f268_1023 rfl
theorem f268_1024 : fetch 268 1024 = some (.iload 6, 2, [], .null) := by decide +kernel
theorem w268_1024 : Wp d 268 1024 [l0, l1, l2, l3, l4, l5, some (.int x), l7, l8] st h Q = Wp d 268 1026 [l0, l1, l2, l3, l4, l5, some (.int x), l7, l8] (.int x :: st) h Q := W_go f268_1024 rfl
theorem f268_1026 : fetch 268 1026 = some (.i2l, 1, [], .null) := by decide +kernel
theorem w268_1026 : Wp d 268 1026 [l0, l1, l2, l3, l4, l5, l6, l7, l8] (.int x :: st) h Q = Wp d 268 1027 [l0, l1, l2, l3, l4, l5, l6, l7, l8] (.long x.toInt64 :: st) h Q := W_go f268_1026 rfl
theorem f268_1027 : fetch 268 1027 = some (.lcmp, 1, [], .null) := by decide +kernel
theorem w268_1027 : Wp d 268 1027 [l0, l1, l2, l3, l4, l5, l6, l7, l8] (.long y8 :: .long x8 :: st) h Q = Wp d 268 1028 [l0, l1, l2, l3, l4, l5, l6, l7, l8] (.int (lg_cmp x8 y8) :: st) h Q := W_go f268_1027 rfl
theorem f268_1028 : fetch 268 1028 = some (.ifCond .eq 5, 3, [], .null) := by decide +kernel
theorem w268_1028 : Wp d 268 1028 [l0, l1, l2, l3, l4, l5, l6, l7, l8] (.int x :: st) h Q = if icond .eq x 0 = true then Wp d 268 1033 [l0, l1, l2, l3, l4, l5, l6, l7, l8] st h Q else Wp d 268 1031 [l0, l1, l2, l3, l4, l5, l6, l7, l8] st h Q := W_if f268_1028 rfl
theorem f268_1031 : fetch 268 1031 = some (.iconst 0, 1, [], .null) := by decide +kernel
theorem w268_1031 : Wp d 268 1031 [l0, l1, l2, l3, l4, l5, l6, l7, l8] st h Q = Wp d 268 1032 [l0, l1, l2, l3, l4, l5, l6, l7, l8] (.int (0 : Int32) :: st) h Q := W_go f268_1031 rfl
theorem f268_1032 : fetch 268 1032 = some (.ireturn, 1, [], .null) := by decide +kernel
theorem w268_1032 : Wp d 268 1032 [l0, l1, l2, l3, l4, l5, l6, l7, l8] [.int x] h Q = (if narrow .boolean (.int x) = .int x then Q (.inl (some (.int x)), h) else False) := W_zret f268_1032 hr268
theorem f268_1033 : fetch 268 1033 = some (.goto 1103, 3, [], .null) := by decide +kernel
theorem w268_1033 : Wp d 268 1033 [l0, l1, l2, l3, l4, l5, l6, l7, l8] st h Q = Wp d 268 2136 [l0, l1, l2, l3, l4, l5, l6, l7, l8] st h Q := W_go f268_1033 rfl
theorem f268_1036 : fetch 268 1036 = some (.aload_n 1, 1, [], .null) := by decide +kernel
theorem w268_1036 : Wp d 268 1036 [l0, some (.ref a), l2, l3, l4, l5, l6, l7, l8] st h Q = Wp d 268 1037 [l0, some (.ref a), l2, l3, l4, l5, l6, l7, l8] (.ref a :: st) h Q := W_go f268_1036 rfl
theorem f268_1037 : fetch 268 1037 = some (.aload_n 0, 1, [], .null) := by decide +kernel
theorem w268_1037 : Wp d 268 1037 [some (.ref a), l1, l2, l3, l4, l5, l6, l7, l8] st h Q = Wp d 268 1038 [some (.ref a), l1, l2, l3, l4, l5, l6, l7, l8] (.ref a :: st) h Q := W_go f268_1037 rfl
theorem f268_1038 : fetch 268 1038 = some (.iload 4, 2, [], .null) := by decide +kernel
theorem w268_1038 : Wp d 268 1038 [l0, l1, l2, l3, some (.int x), l5, l6, l7, l8] st h Q = Wp d 268 1040 [l0, l1, l2, l3, some (.int x), l5, l6, l7, l8] (.int x :: st) h Q := W_go f268_1038 rfl
theorem f268_1040 : fetch 268 1040 = some (.iconst 1, 1, [], .null) := by decide +kernel
theorem w268_1040 : Wp d 268 1040 [l0, l1, l2, l3, l4, l5, l6, l7, l8] st h Q = Wp d 268 1041 [l0, l1, l2, l3, l4, l5, l6, l7, l8] (.int (1 : Int32) :: st) h Q := W_go f268_1040 rfl
theorem f268_1041 : fetch 268 1041 = some (.iadd, 1, [], .null) := by decide +kernel
theorem w268_1041 : Wp d 268 1041 [l0, l1, l2, l3, l4, l5, l6, l7, l8] (.int y :: .int x :: st) h Q = Wp d 268 1042 [l0, l1, l2, l3, l4, l5, l6, l7, l8] (.int (x + y) :: st) h Q := W_go f268_1041 rfl
theorem f268_1042 : fetch 268 1042 = some (.iaload, 1, [], .null) := by decide +kernel
theorem w268_1042 : Wp d 268 1042 [l0, l1, l2, l3, l4, l5, l6, l7, l8] (.int x :: .ref a :: st) h Q = aP false (h.2 a) x (fun w => Wp d 268 1043 [l0, l1, l2, l3, l4, l5, l6, l7, l8] (.int w :: st) h Q) := W_ald f268_1042 rfl
theorem f268_1043 : fetch 268 1043 = some (.aload_n 3, 1, [], .null) := by decide +kernel
theorem w268_1043 : Wp d 268 1043 [l0, l1, l2, some (.ref a), l4, l5, l6, l7, l8] st h Q = Wp d 268 1044 [l0, l1, l2, some (.ref a), l4, l5, l6, l7, l8] (.ref a :: st) h Q := W_go f268_1043 rfl
theorem f268_1044 : fetch 268 1044 = some (.invokestatic 171, 3, [252, 3, 0, 0, 5031, 1000, 5033, 5032], .null) := by decide +kernel
theorem w268_1044 (hp : psum st ≤ 8) : Wp d 268 1044 [l0, l1, l2, l3, l4, l5, l6, l7, l8] (v2 :: v1 :: v0 :: st) h Q = Cp d 252 [v0, v1, v2] h (fun o => cK o (fun w h2 => Wp d 268 1047 [l0, l1, l2, l3, l4, l5, l6, l7, l8] (w.toList ++ st) h2 Q) (fun _ _ => False)) := (W_invS (st := st) f268_1044 rfl rfl (by simp only [List.length_cons]; omega) rfl rfl hp)
theorem f268_1047 : fetch 268 1047 = some (.istore 5, 2, [], .null) := by decide +kernel
theorem w268_1047 : Wp d 268 1047 [l0, l1, l2, l3, l4, l5, l6, l7, l8] (.int x :: st) h Q = Wp d 268 1049 [l0, l1, l2, l3, kl l4, some (.int x), l6, l7, l8] st h Q := (W_st1 (pc' := 1049) (k := 5) f268_1047 rfl rfl (by simp only [List.length_cons, List.length_nil]; omega)).trans (by rw [pst1_succ]; rfl)
theorem f268_1049 : fetch 268 1049 = some (.aload_n 2, 1, [], .null) := by decide +kernel
theorem w268_1049 : Wp d 268 1049 [l0, l1, some (.ref a), l3, l4, l5, l6, l7, l8] st h Q = Wp d 268 1050 [l0, l1, some (.ref a), l3, l4, l5, l6, l7, l8] (.ref a :: st) h Q := W_go f268_1049 rfl
theorem f268_1050 : fetch 268 1050 = some (.aload_n 0, 1, [], .null) := by decide +kernel
theorem w268_1050 : Wp d 268 1050 [some (.ref a), l1, l2, l3, l4, l5, l6, l7, l8] st h Q = Wp d 268 1051 [some (.ref a), l1, l2, l3, l4, l5, l6, l7, l8] (.ref a :: st) h Q := W_go f268_1050 rfl
theorem f268_1051 : fetch 268 1051 = some (.iload 4, 2, [], .null) := by decide +kernel
theorem w268_1051 : Wp d 268 1051 [l0, l1, l2, l3, some (.int x), l5, l6, l7, l8] st h Q = Wp d 268 1053 [l0, l1, l2, l3, some (.int x), l5, l6, l7, l8] (.int x :: st) h Q := W_go f268_1051 rfl
theorem f268_1053 : fetch 268 1053 = some (.iconst 1, 1, [], .null) := by decide +kernel
theorem w268_1053 : Wp d 268 1053 [l0, l1, l2, l3, l4, l5, l6, l7, l8] st h Q = Wp d 268 1054 [l0, l1, l2, l3, l4, l5, l6, l7, l8] (.int (1 : Int32) :: st) h Q := W_go f268_1053 rfl
theorem f268_1054 : fetch 268 1054 = some (.iadd, 1, [], .null) := by decide +kernel
theorem w268_1054 : Wp d 268 1054 [l0, l1, l2, l3, l4, l5, l6, l7, l8] (.int y :: .int x :: st) h Q = Wp d 268 1055 [l0, l1, l2, l3, l4, l5, l6, l7, l8] (.int (x + y) :: st) h Q := W_go f268_1054 rfl
theorem f268_1055 : fetch 268 1055 = some (.iaload, 1, [], .null) := by decide +kernel
theorem w268_1055 : Wp d 268 1055 [l0, l1, l2, l3, l4, l5, l6, l7, l8] (.int x :: .ref a :: st) h Q = aP false (h.2 a) x (fun w => Wp d 268 1056 [l0, l1, l2, l3, l4, l5, l6, l7, l8] (.int w :: st) h Q) := W_ald f268_1055 rfl
theorem f268_1056 : fetch 268 1056 = some (.invokevirtual 173, 3, [198, 2, 11, 0, 7239, 1013, 8002, 8000, 8001], .null) := by decide +kernel
theorem w268_1056 (hp : psum st ≤ 8) : Wp d 268 1056 [l0, l1, l2, l3, l4, l5, l6, l7, l8] (v1 :: (.ref b) :: st) h Q = rP (h.2 b) 10 (Cp d 198 [(.ref b), v1] h (fun o => cK o (fun w h2 => Wp d 268 1059 [l0, l1, l2, l3, l4, l5, l6, l7, l8] (w.toList ++ st) h2 Q) (fun E h2 => Q (.inr E, h2)))) := (W_invV (st := st) f268_1056 rfl rfl (by simp only [List.length_cons]; omega) rfl rfl hp).trans (by simp only [hm268, if_true])
theorem f268_1059 : fetch 268 1059 = some (.istore 6, 2, [], .null) := by decide +kernel
theorem w268_1059 : Wp d 268 1059 [l0, l1, l2, l3, l4, l5, l6, l7, l8] (.int x :: st) h Q = Wp d 268 1061 [l0, l1, l2, l3, l4, kl l5, some (.int x), l7, l8] st h Q := (W_st1 (pc' := 1061) (k := 6) f268_1059 rfl rfl (by simp only [List.length_cons, List.length_nil]; omega)).trans (by rw [pst1_succ]; rfl)
theorem f268_1061 : fetch 268 1061 = some (.aload_n 2, 1, [], .null) := by decide +kernel
theorem w268_1061 : Wp d 268 1061 [l0, l1, some (.ref a), l3, l4, l5, l6, l7, l8] st h Q = Wp d 268 1062 [l0, l1, some (.ref a), l3, l4, l5, l6, l7, l8] (.ref a :: st) h Q := W_go f268_1061 rfl
theorem f268_1062 : fetch 268 1062 = some (.invokevirtual 110, 3, [145, 1, 11, 0, 6183, 1013, 6186, 6184, 6185], .null) := by decide +kernel
theorem w268_1062 (hp : psum st ≤ 8) : Wp d 268 1062 [l0, l1, l2, l3, l4, l5, l6, l7, l8] ((.ref b) :: st) h Q = rP (h.2 b) 10 (Cp d 145 [(.ref b)] h (fun o => cK o (fun w h2 => Wp d 268 1065 [l0, l1, l2, l3, l4, l5, l6, l7, l8] (w.toList ++ st) h2 Q) (fun E h2 => Q (.inr E, h2)))) := (W_invV (st := st) f268_1062 rfl rfl (by simp only [List.length_cons]; omega) rfl rfl hp).trans (by simp only [hm268, if_true])
theorem f268_1065 : fetch 268 1065 = some (.iload 5, 2, [], .null) := by decide +kernel
theorem w268_1065 : Wp d 268 1065 [l0, l1, l2, l3, l4, some (.int x), l6, l7, l8] st h Q = Wp d 268 1067 [l0, l1, l2, l3, l4, some (.int x), l6, l7, l8] (.int x :: st) h Q := W_go f268_1065 rfl
theorem f268_1067 : fetch 268 1067 = some (.if_icmp .eq 5, 3, [], .null) := by decide +kernel
theorem w268_1067 : Wp d 268 1067 [l0, l1, l2, l3, l4, l5, l6, l7, l8] (.int y :: .int x :: st) h Q = if icond .eq x y = true then Wp d 268 1072 [l0, l1, l2, l3, l4, l5, l6, l7, l8] st h Q else Wp d 268 1070 [l0, l1, l2, l3, l4, l5, l6, l7, l8] st h Q := W_if f268_1067 rfl
theorem f268_1070 : fetch 268 1070 = some (.iconst 0, 1, [], .null) := by decide +kernel
theorem w268_1070 : Wp d 268 1070 [l0, l1, l2, l3, l4, l5, l6, l7, l8] st h Q = Wp d 268 1071 [l0, l1, l2, l3, l4, l5, l6, l7, l8] (.int (0 : Int32) :: st) h Q := W_go f268_1070 rfl
theorem f268_1071 : fetch 268 1071 = some (.ireturn, 1, [], .null) := by decide +kernel
theorem w268_1071 : Wp d 268 1071 [l0, l1, l2, l3, l4, l5, l6, l7, l8] [.int x] h Q = (if narrow .boolean (.int x) = .int x then Q (.inl (some (.int x)), h) else False) := W_zret f268_1071 hr268
theorem f268_1072 : fetch 268 1072 = some (.iload 5, 2, [], .null) := by decide +kernel
theorem w268_1072 : Wp d 268 1072 [l0, l1, l2, l3, l4, some (.int x), l6, l7, l8] st h Q = Wp d 268 1074 [l0, l1, l2, l3, l4, some (.int x), l6, l7, l8] (.int x :: st) h Q := W_go f268_1072 rfl
theorem f268_1074 : fetch 268 1074 = some (.ifCond .ne 15, 3, [], .null) := by decide +kernel
theorem w268_1074 : Wp d 268 1074 [l0, l1, l2, l3, l4, l5, l6, l7, l8] (.int x :: st) h Q = if icond .ne x 0 = true then Wp d 268 1089 [l0, l1, l2, l3, l4, l5, l6, l7, l8] st h Q else Wp d 268 1077 [l0, l1, l2, l3, l4, l5, l6, l7, l8] st h Q := W_if f268_1074 rfl
theorem f268_1077 : fetch 268 1077 = some (.aload_n 3, 1, [], .null) := by decide +kernel
theorem w268_1077 : Wp d 268 1077 [l0, l1, l2, some (.ref a), l4, l5, l6, l7, l8] st h Q = Wp d 268 1078 [l0, l1, l2, some (.ref a), l4, l5, l6, l7, l8] (.ref a :: st) h Q := W_go f268_1077 rfl
theorem f268_1078 : fetch 268 1078 = some (.iconst 0, 1, [], .null) := by decide +kernel
theorem w268_1078 : Wp d 268 1078 [l0, l1, l2, l3, l4, l5, l6, l7, l8] st h Q = Wp d 268 1079 [l0, l1, l2, l3, l4, l5, l6, l7, l8] (.int (0 : Int32) :: st) h Q := W_go f268_1078 rfl
theorem f268_1079 : fetch 268 1079 = some (.laload, 1, [], .null) := by decide +kernel
theorem w268_1079 : Wp d 268 1079 [l0, l1, l2, l3, l4, l5, l6, l7, l8] (.int x :: .ref a :: st) h Q = lP (h.2 a) x (fun w => Wp d 268 1080 [l0, l1, l2, l3, l4, l5, l6, l7, l8] (.long w :: st) h Q) := W_lld f268_1079 rfl
theorem f268_1080 : fetch 268 1080 = some (.iload 6, 2, [], .null) := by decide +kernel
theorem w268_1080 : Wp d 268 1080 [l0, l1, l2, l3, l4, l5, some (.int x), l7, l8] st h Q = Wp d 268 1082 [l0, l1, l2, l3, l4, l5, some (.int x), l7, l8] (.int x :: st) h Q := W_go f268_1080 rfl
theorem f268_1082 : fetch 268 1082 = some (.i2l, 1, [], .null) := by decide +kernel
theorem w268_1082 : Wp d 268 1082 [l0, l1, l2, l3, l4, l5, l6, l7, l8] (.int x :: st) h Q = Wp d 268 1083 [l0, l1, l2, l3, l4, l5, l6, l7, l8] (.long x.toInt64 :: st) h Q := W_go f268_1082 rfl
theorem f268_1083 : fetch 268 1083 = some (.lcmp, 1, [], .null) := by decide +kernel
theorem w268_1083 : Wp d 268 1083 [l0, l1, l2, l3, l4, l5, l6, l7, l8] (.long y8 :: .long x8 :: st) h Q = Wp d 268 1084 [l0, l1, l2, l3, l4, l5, l6, l7, l8] (.int (lg_cmp x8 y8) :: st) h Q := W_go f268_1083 rfl
theorem f268_1084 : fetch 268 1084 = some (.ifCond .eq 5, 3, [], .null) := by decide +kernel
theorem w268_1084 : Wp d 268 1084 [l0, l1, l2, l3, l4, l5, l6, l7, l8] (.int x :: st) h Q = if icond .eq x 0 = true then Wp d 268 1089 [l0, l1, l2, l3, l4, l5, l6, l7, l8] st h Q else Wp d 268 1087 [l0, l1, l2, l3, l4, l5, l6, l7, l8] st h Q := W_if f268_1084 rfl
theorem f268_1087 : fetch 268 1087 = some (.iconst 0, 1, [], .null) := by decide +kernel
theorem w268_1087 : Wp d 268 1087 [l0, l1, l2, l3, l4, l5, l6, l7, l8] st h Q = Wp d 268 1088 [l0, l1, l2, l3, l4, l5, l6, l7, l8] (.int (0 : Int32) :: st) h Q := W_go f268_1087 rfl
theorem f268_1088 : fetch 268 1088 = some (.ireturn, 1, [], .null) := by decide +kernel
theorem w268_1088 : Wp d 268 1088 [l0, l1, l2, l3, l4, l5, l6, l7, l8] [.int x] h Q = (if narrow .boolean (.int x) = .int x then Q (.inl (some (.int x)), h) else False) := W_zret f268_1088 hr268
theorem f268_1089 : fetch 268 1089 = some (.goto 1047, 3, [], .null) := by decide +kernel
theorem w268_1089 : Wp d 268 1089 [l0, l1, l2, l3, l4, l5, l6, l7, l8] st h Q = Wp d 268 2136 [l0, l1, l2, l3, l4, l5, l6, l7, l8] st h Q := W_go f268_1089 rfl
theorem f268_1092 : fetch 268 1092 = some (.aload_n 1, 1, [], .null) := by decide +kernel
theorem w268_1092 : Wp d 268 1092 [l0, some (.ref a), l2, l3, l4, l5, l6, l7, l8] st h Q = Wp d 268 1093 [l0, some (.ref a), l2, l3, l4, l5, l6, l7, l8] (.ref a :: st) h Q := W_go f268_1092 rfl
theorem f268_1093 : fetch 268 1093 = some (.aload_n 0, 1, [], .null) := by decide +kernel
theorem w268_1093 : Wp d 268 1093 [some (.ref a), l1, l2, l3, l4, l5, l6, l7, l8] st h Q = Wp d 268 1094 [some (.ref a), l1, l2, l3, l4, l5, l6, l7, l8] (.ref a :: st) h Q := W_go f268_1093 rfl
theorem f268_1094 : fetch 268 1094 = some (.iload 4, 2, [], .null) := by decide +kernel
theorem w268_1094 : Wp d 268 1094 [l0, l1, l2, l3, some (.int x), l5, l6, l7, l8] st h Q = Wp d 268 1096 [l0, l1, l2, l3, some (.int x), l5, l6, l7, l8] (.int x :: st) h Q := W_go f268_1094 rfl
theorem f268_1096 : fetch 268 1096 = some (.iconst 1, 1, [], .null) := by decide +kernel
theorem w268_1096 : Wp d 268 1096 [l0, l1, l2, l3, l4, l5, l6, l7, l8] st h Q = Wp d 268 1097 [l0, l1, l2, l3, l4, l5, l6, l7, l8] (.int (1 : Int32) :: st) h Q := W_go f268_1096 rfl
theorem f268_1097 : fetch 268 1097 = some (.iadd, 1, [], .null) := by decide +kernel
theorem w268_1097 : Wp d 268 1097 [l0, l1, l2, l3, l4, l5, l6, l7, l8] (.int y :: .int x :: st) h Q = Wp d 268 1098 [l0, l1, l2, l3, l4, l5, l6, l7, l8] (.int (x + y) :: st) h Q := W_go f268_1097 rfl
theorem f268_1098 : fetch 268 1098 = some (.iaload, 1, [], .null) := by decide +kernel
theorem w268_1098 : Wp d 268 1098 [l0, l1, l2, l3, l4, l5, l6, l7, l8] (.int x :: .ref a :: st) h Q = aP false (h.2 a) x (fun w => Wp d 268 1099 [l0, l1, l2, l3, l4, l5, l6, l7, l8] (.int w :: st) h Q) := W_ald f268_1098 rfl
theorem f268_1099 : fetch 268 1099 = some (.aload_n 3, 1, [], .null) := by decide +kernel
theorem w268_1099 : Wp d 268 1099 [l0, l1, l2, some (.ref a), l4, l5, l6, l7, l8] st h Q = Wp d 268 1100 [l0, l1, l2, some (.ref a), l4, l5, l6, l7, l8] (.ref a :: st) h Q := W_go f268_1099 rfl
theorem f268_1100 : fetch 268 1100 = some (.invokestatic 174, 3, [253, 3, 0, 0, 5038, 1000, 5040, 5039], .null) := by decide +kernel
theorem w268_1100 (hp : psum st ≤ 8) : Wp d 268 1100 [l0, l1, l2, l3, l4, l5, l6, l7, l8] (v2 :: v1 :: v0 :: st) h Q = Cp d 253 [v0, v1, v2] h (fun o => cK o (fun w h2 => Wp d 268 1103 [l0, l1, l2, l3, l4, l5, l6, l7, l8] (w.toList ++ st) h2 Q) (fun _ _ => False)) := (W_invS (st := st) f268_1100 rfl rfl (by simp only [List.length_cons]; omega) rfl rfl hp)
theorem f268_1103 : fetch 268 1103 = some (.istore 5, 2, [], .null) := by decide +kernel
theorem w268_1103 : Wp d 268 1103 [l0, l1, l2, l3, l4, l5, l6, l7, l8] (.int x :: st) h Q = Wp d 268 1105 [l0, l1, l2, l3, kl l4, some (.int x), l6, l7, l8] st h Q := (W_st1 (pc' := 1105) (k := 5) f268_1103 rfl rfl (by simp only [List.length_cons, List.length_nil]; omega)).trans (by rw [pst1_succ]; rfl)
theorem f268_1105 : fetch 268 1105 = some (.aload_n 2, 1, [], .null) := by decide +kernel
theorem w268_1105 : Wp d 268 1105 [l0, l1, some (.ref a), l3, l4, l5, l6, l7, l8] st h Q = Wp d 268 1106 [l0, l1, some (.ref a), l3, l4, l5, l6, l7, l8] (.ref a :: st) h Q := W_go f268_1105 rfl
theorem f268_1106 : fetch 268 1106 = some (.aload_n 0, 1, [], .null) := by decide +kernel
theorem w268_1106 : Wp d 268 1106 [some (.ref a), l1, l2, l3, l4, l5, l6, l7, l8] st h Q = Wp d 268 1107 [some (.ref a), l1, l2, l3, l4, l5, l6, l7, l8] (.ref a :: st) h Q := W_go f268_1106 rfl
theorem f268_1107 : fetch 268 1107 = some (.iload 4, 2, [], .null) := by decide +kernel
theorem w268_1107 : Wp d 268 1107 [l0, l1, l2, l3, some (.int x), l5, l6, l7, l8] st h Q = Wp d 268 1109 [l0, l1, l2, l3, some (.int x), l5, l6, l7, l8] (.int x :: st) h Q := W_go f268_1107 rfl
theorem f268_1109 : fetch 268 1109 = some (.iconst 1, 1, [], .null) := by decide +kernel
theorem w268_1109 : Wp d 268 1109 [l0, l1, l2, l3, l4, l5, l6, l7, l8] st h Q = Wp d 268 1110 [l0, l1, l2, l3, l4, l5, l6, l7, l8] (.int (1 : Int32) :: st) h Q := W_go f268_1109 rfl
theorem f268_1110 : fetch 268 1110 = some (.iadd, 1, [], .null) := by decide +kernel
theorem w268_1110 : Wp d 268 1110 [l0, l1, l2, l3, l4, l5, l6, l7, l8] (.int y :: .int x :: st) h Q = Wp d 268 1111 [l0, l1, l2, l3, l4, l5, l6, l7, l8] (.int (x + y) :: st) h Q := W_go f268_1110 rfl
theorem f268_1111 : fetch 268 1111 = some (.iaload, 1, [], .null) := by decide +kernel
theorem w268_1111 : Wp d 268 1111 [l0, l1, l2, l3, l4, l5, l6, l7, l8] (.int x :: .ref a :: st) h Q = aP false (h.2 a) x (fun w => Wp d 268 1112 [l0, l1, l2, l3, l4, l5, l6, l7, l8] (.int w :: st) h Q) := W_ald f268_1111 rfl
theorem f268_1112 : fetch 268 1112 = some (.invokevirtual 176, 3, [199, 2, 11, 0, 8003, 1013, 8006, 8004, 8005], .null) := by decide +kernel
theorem w268_1112 (hp : psum st ≤ 8) : Wp d 268 1112 [l0, l1, l2, l3, l4, l5, l6, l7, l8] (v1 :: (.ref b) :: st) h Q = rP (h.2 b) 10 (Cp d 199 [(.ref b), v1] h (fun o => cK o (fun w h2 => Wp d 268 1115 [l0, l1, l2, l3, l4, l5, l6, l7, l8] (w.toList ++ st) h2 Q) (fun E h2 => Q (.inr E, h2)))) := (W_invV (st := st) f268_1112 rfl rfl (by simp only [List.length_cons]; omega) rfl rfl hp).trans (by simp only [hm268, if_true])
theorem f268_1115 : fetch 268 1115 = some (.istore 6, 2, [], .null) := by decide +kernel
theorem w268_1115 : Wp d 268 1115 [l0, l1, l2, l3, l4, l5, l6, l7, l8] (.int x :: st) h Q = Wp d 268 1117 [l0, l1, l2, l3, l4, kl l5, some (.int x), l7, l8] st h Q := (W_st1 (pc' := 1117) (k := 6) f268_1115 rfl rfl (by simp only [List.length_cons, List.length_nil]; omega)).trans (by rw [pst1_succ]; rfl)
theorem f268_1117 : fetch 268 1117 = some (.aload_n 2, 1, [], .null) := by decide +kernel
theorem w268_1117 : Wp d 268 1117 [l0, l1, some (.ref a), l3, l4, l5, l6, l7, l8] st h Q = Wp d 268 1118 [l0, l1, some (.ref a), l3, l4, l5, l6, l7, l8] (.ref a :: st) h Q := W_go f268_1117 rfl
theorem f268_1118 : fetch 268 1118 = some (.invokevirtual 110, 3, [145, 1, 11, 0, 6183, 1013, 6186, 6184, 6185], .null) := by decide +kernel
theorem w268_1118 (hp : psum st ≤ 8) : Wp d 268 1118 [l0, l1, l2, l3, l4, l5, l6, l7, l8] ((.ref b) :: st) h Q = rP (h.2 b) 10 (Cp d 145 [(.ref b)] h (fun o => cK o (fun w h2 => Wp d 268 1121 [l0, l1, l2, l3, l4, l5, l6, l7, l8] (w.toList ++ st) h2 Q) (fun E h2 => Q (.inr E, h2)))) := (W_invV (st := st) f268_1118 rfl rfl (by simp only [List.length_cons]; omega) rfl rfl hp).trans (by simp only [hm268, if_true])
theorem f268_1121 : fetch 268 1121 = some (.iload 5, 2, [], .null) := by decide +kernel
theorem w268_1121 : Wp d 268 1121 [l0, l1, l2, l3, l4, some (.int x), l6, l7, l8] st h Q = Wp d 268 1123 [l0, l1, l2, l3, l4, some (.int x), l6, l7, l8] (.int x :: st) h Q := W_go f268_1121 rfl
theorem f268_1123 : fetch 268 1123 = some (.if_icmp .eq 5, 3, [], .null) := by decide +kernel
theorem w268_1123 : Wp d 268 1123 [l0, l1, l2, l3, l4, l5, l6, l7, l8] (.int y :: .int x :: st) h Q = if icond .eq x y = true then Wp d 268 1128 [l0, l1, l2, l3, l4, l5, l6, l7, l8] st h Q else Wp d 268 1126 [l0, l1, l2, l3, l4, l5, l6, l7, l8] st h Q := W_if f268_1123 rfl
theorem f268_1126 : fetch 268 1126 = some (.iconst 0, 1, [], .null) := by decide +kernel
theorem w268_1126 : Wp d 268 1126 [l0, l1, l2, l3, l4, l5, l6, l7, l8] st h Q = Wp d 268 1127 [l0, l1, l2, l3, l4, l5, l6, l7, l8] (.int (0 : Int32) :: st) h Q := W_go f268_1126 rfl
theorem f268_1127 : fetch 268 1127 = some (.ireturn, 1, [], .null) := by decide +kernel
theorem w268_1127 : Wp d 268 1127 [l0, l1, l2, l3, l4, l5, l6, l7, l8] [.int x] h Q = (if narrow .boolean (.int x) = .int x then Q (.inl (some (.int x)), h) else False) := W_zret f268_1127 hr268
theorem f268_1128 : fetch 268 1128 = some (.iload 5, 2, [], .null) := by decide +kernel
theorem w268_1128 : Wp d 268 1128 [l0, l1, l2, l3, l4, some (.int x), l6, l7, l8] st h Q = Wp d 268 1130 [l0, l1, l2, l3, l4, some (.int x), l6, l7, l8] (.int x :: st) h Q := W_go f268_1128 rfl
theorem f268_1130 : fetch 268 1130 = some (.ifCond .ne 15, 3, [], .null) := by decide +kernel
theorem w268_1130 : Wp d 268 1130 [l0, l1, l2, l3, l4, l5, l6, l7, l8] (.int x :: st) h Q = if icond .ne x 0 = true then Wp d 268 1145 [l0, l1, l2, l3, l4, l5, l6, l7, l8] st h Q else Wp d 268 1133 [l0, l1, l2, l3, l4, l5, l6, l7, l8] st h Q := W_if f268_1130 rfl
theorem f268_1133 : fetch 268 1133 = some (.aload_n 3, 1, [], .null) := by decide +kernel
theorem w268_1133 : Wp d 268 1133 [l0, l1, l2, some (.ref a), l4, l5, l6, l7, l8] st h Q = Wp d 268 1134 [l0, l1, l2, some (.ref a), l4, l5, l6, l7, l8] (.ref a :: st) h Q := W_go f268_1133 rfl
theorem f268_1134 : fetch 268 1134 = some (.iconst 0, 1, [], .null) := by decide +kernel
theorem w268_1134 : Wp d 268 1134 [l0, l1, l2, l3, l4, l5, l6, l7, l8] st h Q = Wp d 268 1135 [l0, l1, l2, l3, l4, l5, l6, l7, l8] (.int (0 : Int32) :: st) h Q := W_go f268_1134 rfl
theorem f268_1135 : fetch 268 1135 = some (.laload, 1, [], .null) := by decide +kernel
theorem w268_1135 : Wp d 268 1135 [l0, l1, l2, l3, l4, l5, l6, l7, l8] (.int x :: .ref a :: st) h Q = lP (h.2 a) x (fun w => Wp d 268 1136 [l0, l1, l2, l3, l4, l5, l6, l7, l8] (.long w :: st) h Q) := W_lld f268_1135 rfl
theorem f268_1136 : fetch 268 1136 = some (.iload 6, 2, [], .null) := by decide +kernel
theorem w268_1136 : Wp d 268 1136 [l0, l1, l2, l3, l4, l5, some (.int x), l7, l8] st h Q = Wp d 268 1138 [l0, l1, l2, l3, l4, l5, some (.int x), l7, l8] (.int x :: st) h Q := W_go f268_1136 rfl
theorem f268_1138 : fetch 268 1138 = some (.i2l, 1, [], .null) := by decide +kernel
theorem w268_1138 : Wp d 268 1138 [l0, l1, l2, l3, l4, l5, l6, l7, l8] (.int x :: st) h Q = Wp d 268 1139 [l0, l1, l2, l3, l4, l5, l6, l7, l8] (.long x.toInt64 :: st) h Q := W_go f268_1138 rfl
theorem f268_1139 : fetch 268 1139 = some (.lcmp, 1, [], .null) := by decide +kernel
theorem w268_1139 : Wp d 268 1139 [l0, l1, l2, l3, l4, l5, l6, l7, l8] (.long y8 :: .long x8 :: st) h Q = Wp d 268 1140 [l0, l1, l2, l3, l4, l5, l6, l7, l8] (.int (lg_cmp x8 y8) :: st) h Q := W_go f268_1139 rfl
theorem f268_1140 : fetch 268 1140 = some (.ifCond .eq 5, 3, [], .null) := by decide +kernel
theorem w268_1140 : Wp d 268 1140 [l0, l1, l2, l3, l4, l5, l6, l7, l8] (.int x :: st) h Q = if icond .eq x 0 = true then Wp d 268 1145 [l0, l1, l2, l3, l4, l5, l6, l7, l8] st h Q else Wp d 268 1143 [l0, l1, l2, l3, l4, l5, l6, l7, l8] st h Q := W_if f268_1140 rfl
theorem f268_1143 : fetch 268 1143 = some (.iconst 0, 1, [], .null) := by decide +kernel
theorem w268_1143 : Wp d 268 1143 [l0, l1, l2, l3, l4, l5, l6, l7, l8] st h Q = Wp d 268 1144 [l0, l1, l2, l3, l4, l5, l6, l7, l8] (.int (0 : Int32) :: st) h Q := W_go f268_1143 rfl
theorem f268_1144 : fetch 268 1144 = some (.ireturn, 1, [], .null) := by decide +kernel
theorem w268_1144 : Wp d 268 1144 [l0, l1, l2, l3, l4, l5, l6, l7, l8] [.int x] h Q = (if narrow .boolean (.int x) = .int x then Q (.inl (some (.int x)), h) else False) := W_zret f268_1144 hr268
theorem f268_1145 : fetch 268 1145 = some (.goto 991, 3, [], .null) := by decide +kernel
theorem w268_1145 : Wp d 268 1145 [l0, l1, l2, l3, l4, l5, l6, l7, l8] st h Q = Wp d 268 2136 [l0, l1, l2, l3, l4, l5, l6, l7, l8] st h Q := W_go f268_1145 rfl
theorem f268_1148 : fetch 268 1148 = some (.aload_n 1, 1, [], .null) := by decide +kernel
theorem w268_1148 : Wp d 268 1148 [l0, some (.ref a), l2, l3, l4, l5, l6, l7, l8] st h Q = Wp d 268 1149 [l0, some (.ref a), l2, l3, l4, l5, l6, l7, l8] (.ref a :: st) h Q := W_go f268_1148 rfl
theorem f268_1149 : fetch 268 1149 = some (.aload_n 0, 1, [], .null) := by decide +kernel
theorem w268_1149 : Wp d 268 1149 [some (.ref a), l1, l2, l3, l4, l5, l6, l7, l8] st h Q = Wp d 268 1150 [some (.ref a), l1, l2, l3, l4, l5, l6, l7, l8] (.ref a :: st) h Q := W_go f268_1149 rfl
theorem f268_1150 : fetch 268 1150 = some (.iload 4, 2, [], .null) := by decide +kernel
theorem w268_1150 : Wp d 268 1150 [l0, l1, l2, l3, some (.int x), l5, l6, l7, l8] st h Q = Wp d 268 1152 [l0, l1, l2, l3, some (.int x), l5, l6, l7, l8] (.int x :: st) h Q := W_go f268_1150 rfl
theorem f268_1152 : fetch 268 1152 = some (.iconst 1, 1, [], .null) := by decide +kernel
theorem w268_1152 : Wp d 268 1152 [l0, l1, l2, l3, l4, l5, l6, l7, l8] st h Q = Wp d 268 1153 [l0, l1, l2, l3, l4, l5, l6, l7, l8] (.int (1 : Int32) :: st) h Q := W_go f268_1152 rfl
theorem f268_1153 : fetch 268 1153 = some (.iadd, 1, [], .null) := by decide +kernel
theorem w268_1153 : Wp d 268 1153 [l0, l1, l2, l3, l4, l5, l6, l7, l8] (.int y :: .int x :: st) h Q = Wp d 268 1154 [l0, l1, l2, l3, l4, l5, l6, l7, l8] (.int (x + y) :: st) h Q := W_go f268_1153 rfl
theorem f268_1154 : fetch 268 1154 = some (.iaload, 1, [], .null) := by decide +kernel
theorem w268_1154 : Wp d 268 1154 [l0, l1, l2, l3, l4, l5, l6, l7, l8] (.int x :: .ref a :: st) h Q = aP false (h.2 a) x (fun w => Wp d 268 1155 [l0, l1, l2, l3, l4, l5, l6, l7, l8] (.int w :: st) h Q) := W_ald f268_1154 rfl
theorem f268_1155 : fetch 268 1155 = some (.aload_n 3, 1, [], .null) := by decide +kernel
theorem w268_1155 : Wp d 268 1155 [l0, l1, l2, some (.ref a), l4, l5, l6, l7, l8] st h Q = Wp d 268 1156 [l0, l1, l2, some (.ref a), l4, l5, l6, l7, l8] (.ref a :: st) h Q := W_go f268_1155 rfl
theorem f268_1156 : fetch 268 1156 = some (.invokestatic 177, 3, [254, 3, 0, 0, 5045, 1000, 5047, 5046], .null) := by decide +kernel
theorem w268_1156 (hp : psum st ≤ 8) : Wp d 268 1156 [l0, l1, l2, l3, l4, l5, l6, l7, l8] (v2 :: v1 :: v0 :: st) h Q = Cp d 254 [v0, v1, v2] h (fun o => cK o (fun w h2 => Wp d 268 1159 [l0, l1, l2, l3, l4, l5, l6, l7, l8] (w.toList ++ st) h2 Q) (fun _ _ => False)) := (W_invS (st := st) f268_1156 rfl rfl (by simp only [List.length_cons]; omega) rfl rfl hp)
theorem f268_1159 : fetch 268 1159 = some (.istore 5, 2, [], .null) := by decide +kernel
theorem w268_1159 : Wp d 268 1159 [l0, l1, l2, l3, l4, l5, l6, l7, l8] (.int x :: st) h Q = Wp d 268 1161 [l0, l1, l2, l3, kl l4, some (.int x), l6, l7, l8] st h Q := (W_st1 (pc' := 1161) (k := 5) f268_1159 rfl rfl (by simp only [List.length_cons, List.length_nil]; omega)).trans (by rw [pst1_succ]; rfl)
theorem f268_1161 : fetch 268 1161 = some (.aload_n 2, 1, [], .null) := by decide +kernel
theorem w268_1161 : Wp d 268 1161 [l0, l1, some (.ref a), l3, l4, l5, l6, l7, l8] st h Q = Wp d 268 1162 [l0, l1, some (.ref a), l3, l4, l5, l6, l7, l8] (.ref a :: st) h Q := W_go f268_1161 rfl
theorem f268_1162 : fetch 268 1162 = some (.aload_n 0, 1, [], .null) := by decide +kernel
theorem w268_1162 : Wp d 268 1162 [some (.ref a), l1, l2, l3, l4, l5, l6, l7, l8] st h Q = Wp d 268 1163 [some (.ref a), l1, l2, l3, l4, l5, l6, l7, l8] (.ref a :: st) h Q := W_go f268_1162 rfl
theorem f268_1163 : fetch 268 1163 = some (.iload 4, 2, [], .null) := by decide +kernel
theorem w268_1163 : Wp d 268 1163 [l0, l1, l2, l3, some (.int x), l5, l6, l7, l8] st h Q = Wp d 268 1165 [l0, l1, l2, l3, some (.int x), l5, l6, l7, l8] (.int x :: st) h Q := W_go f268_1163 rfl
theorem f268_1165 : fetch 268 1165 = some (.iconst 1, 1, [], .null) := by decide +kernel
theorem w268_1165 : Wp d 268 1165 [l0, l1, l2, l3, l4, l5, l6, l7, l8] st h Q = Wp d 268 1166 [l0, l1, l2, l3, l4, l5, l6, l7, l8] (.int (1 : Int32) :: st) h Q := W_go f268_1165 rfl
theorem f268_1166 : fetch 268 1166 = some (.iadd, 1, [], .null) := by decide +kernel
theorem w268_1166 : Wp d 268 1166 [l0, l1, l2, l3, l4, l5, l6, l7, l8] (.int y :: .int x :: st) h Q = Wp d 268 1167 [l0, l1, l2, l3, l4, l5, l6, l7, l8] (.int (x + y) :: st) h Q := W_go f268_1166 rfl
theorem f268_1167 : fetch 268 1167 = some (.iaload, 1, [], .null) := by decide +kernel
theorem w268_1167 : Wp d 268 1167 [l0, l1, l2, l3, l4, l5, l6, l7, l8] (.int x :: .ref a :: st) h Q = aP false (h.2 a) x (fun w => Wp d 268 1168 [l0, l1, l2, l3, l4, l5, l6, l7, l8] (.int w :: st) h Q) := W_ald f268_1167 rfl
theorem f268_1168 : fetch 268 1168 = some (.invokevirtual 179, 3, [200, 2, 11, 0, 8007, 1013, 8010, 8008, 8009], .null) := by decide +kernel
theorem w268_1168 (hp : psum st ≤ 8) : Wp d 268 1168 [l0, l1, l2, l3, l4, l5, l6, l7, l8] (v1 :: (.ref b) :: st) h Q = rP (h.2 b) 10 (Cp d 200 [(.ref b), v1] h (fun o => cK o (fun w h2 => Wp d 268 1171 [l0, l1, l2, l3, l4, l5, l6, l7, l8] (w.toList ++ st) h2 Q) (fun E h2 => Q (.inr E, h2)))) := (W_invV (st := st) f268_1168 rfl rfl (by simp only [List.length_cons]; omega) rfl rfl hp).trans (by simp only [hm268, if_true])
theorem f268_1171 : fetch 268 1171 = some (.istore 6, 2, [], .null) := by decide +kernel
theorem w268_1171 : Wp d 268 1171 [l0, l1, l2, l3, l4, l5, l6, l7, l8] (.int x :: st) h Q = Wp d 268 1173 [l0, l1, l2, l3, l4, kl l5, some (.int x), l7, l8] st h Q := (W_st1 (pc' := 1173) (k := 6) f268_1171 rfl rfl (by simp only [List.length_cons, List.length_nil]; omega)).trans (by rw [pst1_succ]; rfl)
theorem f268_1173 : fetch 268 1173 = some (.aload_n 2, 1, [], .null) := by decide +kernel
theorem w268_1173 : Wp d 268 1173 [l0, l1, some (.ref a), l3, l4, l5, l6, l7, l8] st h Q = Wp d 268 1174 [l0, l1, some (.ref a), l3, l4, l5, l6, l7, l8] (.ref a :: st) h Q := W_go f268_1173 rfl
theorem f268_1174 : fetch 268 1174 = some (.invokevirtual 110, 3, [145, 1, 11, 0, 6183, 1013, 6186, 6184, 6185], .null) := by decide +kernel
theorem w268_1174 (hp : psum st ≤ 8) : Wp d 268 1174 [l0, l1, l2, l3, l4, l5, l6, l7, l8] ((.ref b) :: st) h Q = rP (h.2 b) 10 (Cp d 145 [(.ref b)] h (fun o => cK o (fun w h2 => Wp d 268 1177 [l0, l1, l2, l3, l4, l5, l6, l7, l8] (w.toList ++ st) h2 Q) (fun E h2 => Q (.inr E, h2)))) := (W_invV (st := st) f268_1174 rfl rfl (by simp only [List.length_cons]; omega) rfl rfl hp).trans (by simp only [hm268, if_true])
theorem f268_1177 : fetch 268 1177 = some (.iload 5, 2, [], .null) := by decide +kernel
theorem w268_1177 : Wp d 268 1177 [l0, l1, l2, l3, l4, some (.int x), l6, l7, l8] st h Q = Wp d 268 1179 [l0, l1, l2, l3, l4, some (.int x), l6, l7, l8] (.int x :: st) h Q := W_go f268_1177 rfl
theorem f268_1179 : fetch 268 1179 = some (.if_icmp .eq 5, 3, [], .null) := by decide +kernel
theorem w268_1179 : Wp d 268 1179 [l0, l1, l2, l3, l4, l5, l6, l7, l8] (.int y :: .int x :: st) h Q = if icond .eq x y = true then Wp d 268 1184 [l0, l1, l2, l3, l4, l5, l6, l7, l8] st h Q else Wp d 268 1182 [l0, l1, l2, l3, l4, l5, l6, l7, l8] st h Q := W_if f268_1179 rfl
theorem f268_1182 : fetch 268 1182 = some (.iconst 0, 1, [], .null) := by decide +kernel
theorem w268_1182 : Wp d 268 1182 [l0, l1, l2, l3, l4, l5, l6, l7, l8] st h Q = Wp d 268 1183 [l0, l1, l2, l3, l4, l5, l6, l7, l8] (.int (0 : Int32) :: st) h Q := W_go f268_1182 rfl
theorem f268_1183 : fetch 268 1183 = some (.ireturn, 1, [], .null) := by decide +kernel
theorem w268_1183 : Wp d 268 1183 [l0, l1, l2, l3, l4, l5, l6, l7, l8] [.int x] h Q = (if narrow .boolean (.int x) = .int x then Q (.inl (some (.int x)), h) else False) := W_zret f268_1183 hr268
theorem f268_1184 : fetch 268 1184 = some (.iload 5, 2, [], .null) := by decide +kernel
theorem w268_1184 : Wp d 268 1184 [l0, l1, l2, l3, l4, some (.int x), l6, l7, l8] st h Q = Wp d 268 1186 [l0, l1, l2, l3, l4, some (.int x), l6, l7, l8] (.int x :: st) h Q := W_go f268_1184 rfl
theorem f268_1186 : fetch 268 1186 = some (.ifCond .ne 15, 3, [], .null) := by decide +kernel
theorem w268_1186 : Wp d 268 1186 [l0, l1, l2, l3, l4, l5, l6, l7, l8] (.int x :: st) h Q = if icond .ne x 0 = true then Wp d 268 1201 [l0, l1, l2, l3, l4, l5, l6, l7, l8] st h Q else Wp d 268 1189 [l0, l1, l2, l3, l4, l5, l6, l7, l8] st h Q := W_if f268_1186 rfl
theorem f268_1189 : fetch 268 1189 = some (.aload_n 3, 1, [], .null) := by decide +kernel
theorem w268_1189 : Wp d 268 1189 [l0, l1, l2, some (.ref a), l4, l5, l6, l7, l8] st h Q = Wp d 268 1190 [l0, l1, l2, some (.ref a), l4, l5, l6, l7, l8] (.ref a :: st) h Q := W_go f268_1189 rfl
theorem f268_1190 : fetch 268 1190 = some (.iconst 0, 1, [], .null) := by decide +kernel
theorem w268_1190 : Wp d 268 1190 [l0, l1, l2, l3, l4, l5, l6, l7, l8] st h Q = Wp d 268 1191 [l0, l1, l2, l3, l4, l5, l6, l7, l8] (.int (0 : Int32) :: st) h Q := W_go f268_1190 rfl
theorem f268_1191 : fetch 268 1191 = some (.laload, 1, [], .null) := by decide +kernel
theorem w268_1191 : Wp d 268 1191 [l0, l1, l2, l3, l4, l5, l6, l7, l8] (.int x :: .ref a :: st) h Q = lP (h.2 a) x (fun w => Wp d 268 1192 [l0, l1, l2, l3, l4, l5, l6, l7, l8] (.long w :: st) h Q) := W_lld f268_1191 rfl
theorem f268_1192 : fetch 268 1192 = some (.iload 6, 2, [], .null) := by decide +kernel
theorem w268_1192 : Wp d 268 1192 [l0, l1, l2, l3, l4, l5, some (.int x), l7, l8] st h Q = Wp d 268 1194 [l0, l1, l2, l3, l4, l5, some (.int x), l7, l8] (.int x :: st) h Q := W_go f268_1192 rfl
theorem f268_1194 : fetch 268 1194 = some (.i2l, 1, [], .null) := by decide +kernel
theorem w268_1194 : Wp d 268 1194 [l0, l1, l2, l3, l4, l5, l6, l7, l8] (.int x :: st) h Q = Wp d 268 1195 [l0, l1, l2, l3, l4, l5, l6, l7, l8] (.long x.toInt64 :: st) h Q := W_go f268_1194 rfl
theorem f268_1195 : fetch 268 1195 = some (.lcmp, 1, [], .null) := by decide +kernel
theorem w268_1195 : Wp d 268 1195 [l0, l1, l2, l3, l4, l5, l6, l7, l8] (.long y8 :: .long x8 :: st) h Q = Wp d 268 1196 [l0, l1, l2, l3, l4, l5, l6, l7, l8] (.int (lg_cmp x8 y8) :: st) h Q := W_go f268_1195 rfl
theorem f268_1196 : fetch 268 1196 = some (.ifCond .eq 5, 3, [], .null) := by decide +kernel
theorem w268_1196 : Wp d 268 1196 [l0, l1, l2, l3, l4, l5, l6, l7, l8] (.int x :: st) h Q = if icond .eq x 0 = true then Wp d 268 1201 [l0, l1, l2, l3, l4, l5, l6, l7, l8] st h Q else Wp d 268 1199 [l0, l1, l2, l3, l4, l5, l6, l7, l8] st h Q := W_if f268_1196 rfl
theorem f268_1199 : fetch 268 1199 = some (.iconst 0, 1, [], .null) := by decide +kernel
theorem w268_1199 : Wp d 268 1199 [l0, l1, l2, l3, l4, l5, l6, l7, l8] st h Q = Wp d 268 1200 [l0, l1, l2, l3, l4, l5, l6, l7, l8] (.int (0 : Int32) :: st) h Q := W_go f268_1199 rfl
theorem f268_1200 : fetch 268 1200 = some (.ireturn, 1, [], .null) := by decide +kernel
theorem w268_1200 : Wp d 268 1200 [l0, l1, l2, l3, l4, l5, l6, l7, l8] [.int x] h Q = (if narrow .boolean (.int x) = .int x then Q (.inl (some (.int x)), h) else False) := W_zret f268_1200 hr268
theorem f268_1201 : fetch 268 1201 = some (.goto 935, 3, [], .null) := by decide +kernel
theorem w268_1201 : Wp d 268 1201 [l0, l1, l2, l3, l4, l5, l6, l7, l8] st h Q = Wp d 268 2136 [l0, l1, l2, l3, l4, l5, l6, l7, l8] st h Q := W_go f268_1201 rfl
theorem f268_1204 : fetch 268 1204 = some (.aload_n 1, 1, [], .null) := by decide +kernel
theorem w268_1204 : Wp d 268 1204 [l0, some (.ref a), l2, l3, l4, l5, l6, l7, l8] st h Q = Wp d 268 1205 [l0, some (.ref a), l2, l3, l4, l5, l6, l7, l8] (.ref a :: st) h Q := W_go f268_1204 rfl
theorem f268_1205 : fetch 268 1205 = some (.aload_n 0, 1, [], .null) := by decide +kernel
theorem w268_1205 : Wp d 268 1205 [some (.ref a), l1, l2, l3, l4, l5, l6, l7, l8] st h Q = Wp d 268 1206 [some (.ref a), l1, l2, l3, l4, l5, l6, l7, l8] (.ref a :: st) h Q := W_go f268_1205 rfl
theorem f268_1206 : fetch 268 1206 = some (.iload 4, 2, [], .null) := by decide +kernel
theorem w268_1206 : Wp d 268 1206 [l0, l1, l2, l3, some (.int x), l5, l6, l7, l8] st h Q = Wp d 268 1208 [l0, l1, l2, l3, some (.int x), l5, l6, l7, l8] (.int x :: st) h Q := W_go f268_1206 rfl
theorem f268_1208 : fetch 268 1208 = some (.iconst 1, 1, [], .null) := by decide +kernel
theorem w268_1208 : Wp d 268 1208 [l0, l1, l2, l3, l4, l5, l6, l7, l8] st h Q = Wp d 268 1209 [l0, l1, l2, l3, l4, l5, l6, l7, l8] (.int (1 : Int32) :: st) h Q := W_go f268_1208 rfl
theorem f268_1209 : fetch 268 1209 = some (.iadd, 1, [], .null) := by decide +kernel
theorem w268_1209 : Wp d 268 1209 [l0, l1, l2, l3, l4, l5, l6, l7, l8] (.int y :: .int x :: st) h Q = Wp d 268 1210 [l0, l1, l2, l3, l4, l5, l6, l7, l8] (.int (x + y) :: st) h Q := W_go f268_1209 rfl
theorem f268_1210 : fetch 268 1210 = some (.iaload, 1, [], .null) := by decide +kernel
theorem w268_1210 : Wp d 268 1210 [l0, l1, l2, l3, l4, l5, l6, l7, l8] (.int x :: .ref a :: st) h Q = aP false (h.2 a) x (fun w => Wp d 268 1211 [l0, l1, l2, l3, l4, l5, l6, l7, l8] (.int w :: st) h Q) := W_ald f268_1210 rfl
theorem f268_1211 : fetch 268 1211 = some (.aload_n 3, 1, [], .null) := by decide +kernel
theorem w268_1211 : Wp d 268 1211 [l0, l1, l2, some (.ref a), l4, l5, l6, l7, l8] st h Q = Wp d 268 1212 [l0, l1, l2, some (.ref a), l4, l5, l6, l7, l8] (.ref a :: st) h Q := W_go f268_1211 rfl
theorem f268_1212 : fetch 268 1212 = some (.invokestatic 180, 3, [255, 3, 0, 0, 5052, 1000, 5054, 5053], .null) := by decide +kernel
theorem w268_1212 (hp : psum st ≤ 8) : Wp d 268 1212 [l0, l1, l2, l3, l4, l5, l6, l7, l8] (v2 :: v1 :: v0 :: st) h Q = Cp d 255 [v0, v1, v2] h (fun o => cK o (fun w h2 => Wp d 268 1215 [l0, l1, l2, l3, l4, l5, l6, l7, l8] (w.toList ++ st) h2 Q) (fun _ _ => False)) := (W_invS (st := st) f268_1212 rfl rfl (by simp only [List.length_cons]; omega) rfl rfl hp)
theorem f268_1215 : fetch 268 1215 = some (.istore 5, 2, [], .null) := by decide +kernel
theorem w268_1215 : Wp d 268 1215 [l0, l1, l2, l3, l4, l5, l6, l7, l8] (.int x :: st) h Q = Wp d 268 1217 [l0, l1, l2, l3, kl l4, some (.int x), l6, l7, l8] st h Q := (W_st1 (pc' := 1217) (k := 5) f268_1215 rfl rfl (by simp only [List.length_cons, List.length_nil]; omega)).trans (by rw [pst1_succ]; rfl)
theorem f268_1217 : fetch 268 1217 = some (.aload_n 2, 1, [], .null) := by decide +kernel
theorem w268_1217 : Wp d 268 1217 [l0, l1, some (.ref a), l3, l4, l5, l6, l7, l8] st h Q = Wp d 268 1218 [l0, l1, some (.ref a), l3, l4, l5, l6, l7, l8] (.ref a :: st) h Q := W_go f268_1217 rfl
theorem f268_1218 : fetch 268 1218 = some (.aload_n 0, 1, [], .null) := by decide +kernel
theorem w268_1218 : Wp d 268 1218 [some (.ref a), l1, l2, l3, l4, l5, l6, l7, l8] st h Q = Wp d 268 1219 [some (.ref a), l1, l2, l3, l4, l5, l6, l7, l8] (.ref a :: st) h Q := W_go f268_1218 rfl
theorem f268_1219 : fetch 268 1219 = some (.iload 4, 2, [], .null) := by decide +kernel
theorem w268_1219 : Wp d 268 1219 [l0, l1, l2, l3, some (.int x), l5, l6, l7, l8] st h Q = Wp d 268 1221 [l0, l1, l2, l3, some (.int x), l5, l6, l7, l8] (.int x :: st) h Q := W_go f268_1219 rfl
theorem f268_1221 : fetch 268 1221 = some (.iconst 1, 1, [], .null) := by decide +kernel
theorem w268_1221 : Wp d 268 1221 [l0, l1, l2, l3, l4, l5, l6, l7, l8] st h Q = Wp d 268 1222 [l0, l1, l2, l3, l4, l5, l6, l7, l8] (.int (1 : Int32) :: st) h Q := W_go f268_1221 rfl
theorem f268_1222 : fetch 268 1222 = some (.iadd, 1, [], .null) := by decide +kernel
theorem w268_1222 : Wp d 268 1222 [l0, l1, l2, l3, l4, l5, l6, l7, l8] (.int y :: .int x :: st) h Q = Wp d 268 1223 [l0, l1, l2, l3, l4, l5, l6, l7, l8] (.int (x + y) :: st) h Q := W_go f268_1222 rfl
theorem f268_1223 : fetch 268 1223 = some (.iaload, 1, [], .null) := by decide +kernel
theorem w268_1223 : Wp d 268 1223 [l0, l1, l2, l3, l4, l5, l6, l7, l8] (.int x :: .ref a :: st) h Q = aP false (h.2 a) x (fun w => Wp d 268 1224 [l0, l1, l2, l3, l4, l5, l6, l7, l8] (.int w :: st) h Q) := W_ald f268_1223 rfl
theorem f268_1224 : fetch 268 1224 = some (.invokevirtual 182, 3, [201, 2, 11, 0, 8011, 1013, 8014, 8012, 8013], .null) := by decide +kernel
theorem w268_1224 (hp : psum st ≤ 8) : Wp d 268 1224 [l0, l1, l2, l3, l4, l5, l6, l7, l8] (v1 :: (.ref b) :: st) h Q = rP (h.2 b) 10 (Cp d 201 [(.ref b), v1] h (fun o => cK o (fun w h2 => Wp d 268 1227 [l0, l1, l2, l3, l4, l5, l6, l7, l8] (w.toList ++ st) h2 Q) (fun E h2 => Q (.inr E, h2)))) := (W_invV (st := st) f268_1224 rfl rfl (by simp only [List.length_cons]; omega) rfl rfl hp).trans (by simp only [hm268, if_true])
theorem f268_1227 : fetch 268 1227 = some (.istore 6, 2, [], .null) := by decide +kernel
theorem w268_1227 : Wp d 268 1227 [l0, l1, l2, l3, l4, l5, l6, l7, l8] (.int x :: st) h Q = Wp d 268 1229 [l0, l1, l2, l3, l4, kl l5, some (.int x), l7, l8] st h Q := (W_st1 (pc' := 1229) (k := 6) f268_1227 rfl rfl (by simp only [List.length_cons, List.length_nil]; omega)).trans (by rw [pst1_succ]; rfl)
theorem f268_1229 : fetch 268 1229 = some (.aload_n 2, 1, [], .null) := by decide +kernel
theorem w268_1229 : Wp d 268 1229 [l0, l1, some (.ref a), l3, l4, l5, l6, l7, l8] st h Q = Wp d 268 1230 [l0, l1, some (.ref a), l3, l4, l5, l6, l7, l8] (.ref a :: st) h Q := W_go f268_1229 rfl
theorem f268_1230 : fetch 268 1230 = some (.invokevirtual 110, 3, [145, 1, 11, 0, 6183, 1013, 6186, 6184, 6185], .null) := by decide +kernel
theorem w268_1230 (hp : psum st ≤ 8) : Wp d 268 1230 [l0, l1, l2, l3, l4, l5, l6, l7, l8] ((.ref b) :: st) h Q = rP (h.2 b) 10 (Cp d 145 [(.ref b)] h (fun o => cK o (fun w h2 => Wp d 268 1233 [l0, l1, l2, l3, l4, l5, l6, l7, l8] (w.toList ++ st) h2 Q) (fun E h2 => Q (.inr E, h2)))) := (W_invV (st := st) f268_1230 rfl rfl (by simp only [List.length_cons]; omega) rfl rfl hp).trans (by simp only [hm268, if_true])
theorem f268_1233 : fetch 268 1233 = some (.iload 5, 2, [], .null) := by decide +kernel
theorem w268_1233 : Wp d 268 1233 [l0, l1, l2, l3, l4, some (.int x), l6, l7, l8] st h Q = Wp d 268 1235 [l0, l1, l2, l3, l4, some (.int x), l6, l7, l8] (.int x :: st) h Q := W_go f268_1233 rfl
theorem f268_1235 : fetch 268 1235 = some (.if_icmp .eq 5, 3, [], .null) := by decide +kernel
theorem w268_1235 : Wp d 268 1235 [l0, l1, l2, l3, l4, l5, l6, l7, l8] (.int y :: .int x :: st) h Q = if icond .eq x y = true then Wp d 268 1240 [l0, l1, l2, l3, l4, l5, l6, l7, l8] st h Q else Wp d 268 1238 [l0, l1, l2, l3, l4, l5, l6, l7, l8] st h Q := W_if f268_1235 rfl
theorem f268_1238 : fetch 268 1238 = some (.iconst 0, 1, [], .null) := by decide +kernel
theorem w268_1238 : Wp d 268 1238 [l0, l1, l2, l3, l4, l5, l6, l7, l8] st h Q = Wp d 268 1239 [l0, l1, l2, l3, l4, l5, l6, l7, l8] (.int (0 : Int32) :: st) h Q := W_go f268_1238 rfl
theorem f268_1239 : fetch 268 1239 = some (.ireturn, 1, [], .null) := by decide +kernel
theorem w268_1239 : Wp d 268 1239 [l0, l1, l2, l3, l4, l5, l6, l7, l8] [.int x] h Q = (if narrow .boolean (.int x) = .int x then Q (.inl (some (.int x)), h) else False) := W_zret f268_1239 hr268
theorem f268_1240 : fetch 268 1240 = some (.iload 5, 2, [], .null) := by decide +kernel
theorem w268_1240 : Wp d 268 1240 [l0, l1, l2, l3, l4, some (.int x), l6, l7, l8] st h Q = Wp d 268 1242 [l0, l1, l2, l3, l4, some (.int x), l6, l7, l8] (.int x :: st) h Q := W_go f268_1240 rfl
theorem f268_1242 : fetch 268 1242 = some (.ifCond .ne 22, 3, [], .null) := by decide +kernel
theorem w268_1242 : Wp d 268 1242 [l0, l1, l2, l3, l4, l5, l6, l7, l8] (.int x :: st) h Q = if icond .ne x 0 = true then Wp d 268 1264 [l0, l1, l2, l3, l4, l5, l6, l7, l8] st h Q else Wp d 268 1245 [l0, l1, l2, l3, l4, l5, l6, l7, l8] st h Q := W_if f268_1242 rfl
theorem f268_1245 : fetch 268 1245 = some (.aload_n 3, 1, [], .null) := by decide +kernel
theorem w268_1245 : Wp d 268 1245 [l0, l1, l2, some (.ref a), l4, l5, l6, l7, l8] st h Q = Wp d 268 1246 [l0, l1, l2, some (.ref a), l4, l5, l6, l7, l8] (.ref a :: st) h Q := W_go f268_1245 rfl
theorem f268_1246 : fetch 268 1246 = some (.iconst 0, 1, [], .null) := by decide +kernel
theorem w268_1246 : Wp d 268 1246 [l0, l1, l2, l3, l4, l5, l6, l7, l8] st h Q = Wp d 268 1247 [l0, l1, l2, l3, l4, l5, l6, l7, l8] (.int (0 : Int32) :: st) h Q := W_go f268_1246 rfl
theorem f268_1247 : fetch 268 1247 = some (.laload, 1, [], .null) := by decide +kernel
theorem w268_1247 : Wp d 268 1247 [l0, l1, l2, l3, l4, l5, l6, l7, l8] (.int x :: .ref a :: st) h Q = lP (h.2 a) x (fun w => Wp d 268 1248 [l0, l1, l2, l3, l4, l5, l6, l7, l8] (.long w :: st) h Q) := W_lld f268_1247 rfl
theorem f268_1248 : fetch 268 1248 = some (.iload 6, 2, [], .null) := by decide +kernel
theorem w268_1248 : Wp d 268 1248 [l0, l1, l2, l3, l4, l5, some (.int x), l7, l8] st h Q = Wp d 268 1250 [l0, l1, l2, l3, l4, l5, some (.int x), l7, l8] (.int x :: st) h Q := W_go f268_1248 rfl
theorem f268_1250 : fetch 268 1250 = some (.ifCond .eq 7, 3, [], .null) := by decide +kernel
theorem w268_1250 : Wp d 268 1250 [l0, l1, l2, l3, l4, l5, l6, l7, l8] (.int x :: st) h Q = if icond .eq x 0 = true then Wp d 268 1257 [l0, l1, l2, l3, l4, l5, l6, l7, l8] st h Q else Wp d 268 1253 [l0, l1, l2, l3, l4, l5, l6, l7, l8] st h Q := W_if f268_1250 rfl
theorem f268_1253 : fetch 268 1253 = some (.lconst 1, 1, [], .null) := by decide +kernel
theorem w268_1253 : Wp d 268 1253 [l0, l1, l2, l3, l4, l5, l6, l7, l8] st h Q = Wp d 268 1254 [l0, l1, l2, l3, l4, l5, l6, l7, l8] (.long (1 : Int64) :: st) h Q := W_go f268_1253 rfl
theorem f268_1254 : fetch 268 1254 = some (.goto 4, 3, [], .null) := by decide +kernel
theorem w268_1254 : Wp d 268 1254 [l0, l1, l2, l3, l4, l5, l6, l7, l8] st h Q = Wp d 268 1258 [l0, l1, l2, l3, l4, l5, l6, l7, l8] st h Q := W_go f268_1254 rfl
theorem f268_1257 : fetch 268 1257 = some (.lconst 0, 1, [], .null) := by decide +kernel
theorem w268_1257 : Wp d 268 1257 [l0, l1, l2, l3, l4, l5, l6, l7, l8] st h Q = Wp d 268 1258 [l0, l1, l2, l3, l4, l5, l6, l7, l8] (.long (0 : Int64) :: st) h Q := W_go f268_1257 rfl
theorem f268_1258 : fetch 268 1258 = some (.lcmp, 1, [], .null) := by decide +kernel
theorem w268_1258 : Wp d 268 1258 [l0, l1, l2, l3, l4, l5, l6, l7, l8] (.long y8 :: .long x8 :: st) h Q = Wp d 268 1259 [l0, l1, l2, l3, l4, l5, l6, l7, l8] (.int (lg_cmp x8 y8) :: st) h Q := W_go f268_1258 rfl
theorem f268_1259 : fetch 268 1259 = some (.ifCond .eq 5, 3, [], .null) := by decide +kernel
theorem w268_1259 : Wp d 268 1259 [l0, l1, l2, l3, l4, l5, l6, l7, l8] (.int x :: st) h Q = if icond .eq x 0 = true then Wp d 268 1264 [l0, l1, l2, l3, l4, l5, l6, l7, l8] st h Q else Wp d 268 1262 [l0, l1, l2, l3, l4, l5, l6, l7, l8] st h Q := W_if f268_1259 rfl
theorem f268_1262 : fetch 268 1262 = some (.iconst 0, 1, [], .null) := by decide +kernel
theorem w268_1262 : Wp d 268 1262 [l0, l1, l2, l3, l4, l5, l6, l7, l8] st h Q = Wp d 268 1263 [l0, l1, l2, l3, l4, l5, l6, l7, l8] (.int (0 : Int32) :: st) h Q := W_go f268_1262 rfl
theorem f268_1263 : fetch 268 1263 = some (.ireturn, 1, [], .null) := by decide +kernel
theorem w268_1263 : Wp d 268 1263 [l0, l1, l2, l3, l4, l5, l6, l7, l8] [.int x] h Q = (if narrow .boolean (.int x) = .int x then Q (.inl (some (.int x)), h) else False) := W_zret f268_1263 hr268
theorem f268_1264 : fetch 268 1264 = some (.goto 872, 3, [], .null) := by decide +kernel
theorem w268_1264 : Wp d 268 1264 [l0, l1, l2, l3, l4, l5, l6, l7, l8] st h Q = Wp d 268 2136 [l0, l1, l2, l3, l4, l5, l6, l7, l8] st h Q := W_go f268_1264 rfl
theorem f268_1267 : fetch 268 1267 = some (.aload_n 1, 1, [], .null) := by decide +kernel
theorem w268_1267 : Wp d 268 1267 [l0, some (.ref a), l2, l3, l4, l5, l6, l7, l8] st h Q = Wp d 268 1268 [l0, some (.ref a), l2, l3, l4, l5, l6, l7, l8] (.ref a :: st) h Q := W_go f268_1267 rfl
theorem f268_1268 : fetch 268 1268 = some (.aload_n 0, 1, [], .null) := by decide +kernel
theorem w268_1268 : Wp d 268 1268 [some (.ref a), l1, l2, l3, l4, l5, l6, l7, l8] st h Q = Wp d 268 1269 [some (.ref a), l1, l2, l3, l4, l5, l6, l7, l8] (.ref a :: st) h Q := W_go f268_1268 rfl
theorem f268_1269 : fetch 268 1269 = some (.iload 4, 2, [], .null) := by decide +kernel
theorem w268_1269 : Wp d 268 1269 [l0, l1, l2, l3, some (.int x), l5, l6, l7, l8] st h Q = Wp d 268 1271 [l0, l1, l2, l3, some (.int x), l5, l6, l7, l8] (.int x :: st) h Q := W_go f268_1269 rfl
theorem f268_1271 : fetch 268 1271 = some (.iconst 1, 1, [], .null) := by decide +kernel
theorem w268_1271 : Wp d 268 1271 [l0, l1, l2, l3, l4, l5, l6, l7, l8] st h Q = Wp d 268 1272 [l0, l1, l2, l3, l4, l5, l6, l7, l8] (.int (1 : Int32) :: st) h Q := W_go f268_1271 rfl
theorem f268_1272 : fetch 268 1272 = some (.iadd, 1, [], .null) := by decide +kernel
theorem w268_1272 : Wp d 268 1272 [l0, l1, l2, l3, l4, l5, l6, l7, l8] (.int y :: .int x :: st) h Q = Wp d 268 1273 [l0, l1, l2, l3, l4, l5, l6, l7, l8] (.int (x + y) :: st) h Q := W_go f268_1272 rfl
theorem f268_1273 : fetch 268 1273 = some (.iaload, 1, [], .null) := by decide +kernel
theorem w268_1273 : Wp d 268 1273 [l0, l1, l2, l3, l4, l5, l6, l7, l8] (.int x :: .ref a :: st) h Q = aP false (h.2 a) x (fun w => Wp d 268 1274 [l0, l1, l2, l3, l4, l5, l6, l7, l8] (.int w :: st) h Q) := W_ald f268_1273 rfl
theorem f268_1274 : fetch 268 1274 = some (.aload_n 3, 1, [], .null) := by decide +kernel
theorem w268_1274 : Wp d 268 1274 [l0, l1, l2, some (.ref a), l4, l5, l6, l7, l8] st h Q = Wp d 268 1275 [l0, l1, l2, some (.ref a), l4, l5, l6, l7, l8] (.ref a :: st) h Q := W_go f268_1274 rfl
theorem f268_1275 : fetch 268 1275 = some (.invokestatic 183, 3, [256, 3, 0, 0, 5059, 1000, 5061, 5060], .null) := by decide +kernel
theorem w268_1275 (hp : psum st ≤ 8) : Wp d 268 1275 [l0, l1, l2, l3, l4, l5, l6, l7, l8] (v2 :: v1 :: v0 :: st) h Q = Cp d 256 [v0, v1, v2] h (fun o => cK o (fun w h2 => Wp d 268 1278 [l0, l1, l2, l3, l4, l5, l6, l7, l8] (w.toList ++ st) h2 Q) (fun _ _ => False)) := (W_invS (st := st) f268_1275 rfl rfl (by simp only [List.length_cons]; omega) rfl rfl hp)
theorem f268_1278 : fetch 268 1278 = some (.istore 5, 2, [], .null) := by decide +kernel
theorem w268_1278 : Wp d 268 1278 [l0, l1, l2, l3, l4, l5, l6, l7, l8] (.int x :: st) h Q = Wp d 268 1280 [l0, l1, l2, l3, kl l4, some (.int x), l6, l7, l8] st h Q := (W_st1 (pc' := 1280) (k := 5) f268_1278 rfl rfl (by simp only [List.length_cons, List.length_nil]; omega)).trans (by rw [pst1_succ]; rfl)
theorem f268_1280 : fetch 268 1280 = some (.aload_n 2, 1, [], .null) := by decide +kernel
theorem w268_1280 : Wp d 268 1280 [l0, l1, some (.ref a), l3, l4, l5, l6, l7, l8] st h Q = Wp d 268 1281 [l0, l1, some (.ref a), l3, l4, l5, l6, l7, l8] (.ref a :: st) h Q := W_go f268_1280 rfl
theorem f268_1281 : fetch 268 1281 = some (.aload_n 0, 1, [], .null) := by decide +kernel
theorem w268_1281 : Wp d 268 1281 [some (.ref a), l1, l2, l3, l4, l5, l6, l7, l8] st h Q = Wp d 268 1282 [some (.ref a), l1, l2, l3, l4, l5, l6, l7, l8] (.ref a :: st) h Q := W_go f268_1281 rfl
theorem f268_1282 : fetch 268 1282 = some (.iload 4, 2, [], .null) := by decide +kernel
theorem w268_1282 : Wp d 268 1282 [l0, l1, l2, l3, some (.int x), l5, l6, l7, l8] st h Q = Wp d 268 1284 [l0, l1, l2, l3, some (.int x), l5, l6, l7, l8] (.int x :: st) h Q := W_go f268_1282 rfl
theorem f268_1284 : fetch 268 1284 = some (.iconst 1, 1, [], .null) := by decide +kernel
theorem w268_1284 : Wp d 268 1284 [l0, l1, l2, l3, l4, l5, l6, l7, l8] st h Q = Wp d 268 1285 [l0, l1, l2, l3, l4, l5, l6, l7, l8] (.int (1 : Int32) :: st) h Q := W_go f268_1284 rfl
theorem f268_1285 : fetch 268 1285 = some (.iadd, 1, [], .null) := by decide +kernel
theorem w268_1285 : Wp d 268 1285 [l0, l1, l2, l3, l4, l5, l6, l7, l8] (.int y :: .int x :: st) h Q = Wp d 268 1286 [l0, l1, l2, l3, l4, l5, l6, l7, l8] (.int (x + y) :: st) h Q := W_go f268_1285 rfl
theorem f268_1286 : fetch 268 1286 = some (.iaload, 1, [], .null) := by decide +kernel
theorem w268_1286 : Wp d 268 1286 [l0, l1, l2, l3, l4, l5, l6, l7, l8] (.int x :: .ref a :: st) h Q = aP false (h.2 a) x (fun w => Wp d 268 1287 [l0, l1, l2, l3, l4, l5, l6, l7, l8] (.int w :: st) h Q) := W_ald f268_1286 rfl
theorem f268_1287 : fetch 268 1287 = some (.invokevirtual 185, 3, [202, 2, 11, 0, 8015, 1013, 8018, 8016, 8017], .null) := by decide +kernel
theorem w268_1287 (hp : psum st ≤ 8) : Wp d 268 1287 [l0, l1, l2, l3, l4, l5, l6, l7, l8] (v1 :: (.ref b) :: st) h Q = rP (h.2 b) 10 (Cp d 202 [(.ref b), v1] h (fun o => cK o (fun w h2 => Wp d 268 1290 [l0, l1, l2, l3, l4, l5, l6, l7, l8] (w.toList ++ st) h2 Q) (fun E h2 => Q (.inr E, h2)))) := (W_invV (st := st) f268_1287 rfl rfl (by simp only [List.length_cons]; omega) rfl rfl hp).trans (by simp only [hm268, if_true])
theorem f268_1290 : fetch 268 1290 = some (.istore 6, 2, [], .null) := by decide +kernel
theorem w268_1290 : Wp d 268 1290 [l0, l1, l2, l3, l4, l5, l6, l7, l8] (.int x :: st) h Q = Wp d 268 1292 [l0, l1, l2, l3, l4, kl l5, some (.int x), l7, l8] st h Q := (W_st1 (pc' := 1292) (k := 6) f268_1290 rfl rfl (by simp only [List.length_cons, List.length_nil]; omega)).trans (by rw [pst1_succ]; rfl)
theorem f268_1292 : fetch 268 1292 = some (.aload_n 2, 1, [], .null) := by decide +kernel
theorem w268_1292 : Wp d 268 1292 [l0, l1, some (.ref a), l3, l4, l5, l6, l7, l8] st h Q = Wp d 268 1293 [l0, l1, some (.ref a), l3, l4, l5, l6, l7, l8] (.ref a :: st) h Q := W_go f268_1292 rfl
theorem f268_1293 : fetch 268 1293 = some (.invokevirtual 110, 3, [145, 1, 11, 0, 6183, 1013, 6186, 6184, 6185], .null) := by decide +kernel
theorem w268_1293 (hp : psum st ≤ 8) : Wp d 268 1293 [l0, l1, l2, l3, l4, l5, l6, l7, l8] ((.ref b) :: st) h Q = rP (h.2 b) 10 (Cp d 145 [(.ref b)] h (fun o => cK o (fun w h2 => Wp d 268 1296 [l0, l1, l2, l3, l4, l5, l6, l7, l8] (w.toList ++ st) h2 Q) (fun E h2 => Q (.inr E, h2)))) := (W_invV (st := st) f268_1293 rfl rfl (by simp only [List.length_cons]; omega) rfl rfl hp).trans (by simp only [hm268, if_true])
theorem f268_1296 : fetch 268 1296 = some (.iload 5, 2, [], .null) := by decide +kernel
theorem w268_1296 : Wp d 268 1296 [l0, l1, l2, l3, l4, some (.int x), l6, l7, l8] st h Q = Wp d 268 1298 [l0, l1, l2, l3, l4, some (.int x), l6, l7, l8] (.int x :: st) h Q := W_go f268_1296 rfl
theorem f268_1298 : fetch 268 1298 = some (.if_icmp .eq 5, 3, [], .null) := by decide +kernel
theorem w268_1298 : Wp d 268 1298 [l0, l1, l2, l3, l4, l5, l6, l7, l8] (.int y :: .int x :: st) h Q = if icond .eq x y = true then Wp d 268 1303 [l0, l1, l2, l3, l4, l5, l6, l7, l8] st h Q else Wp d 268 1301 [l0, l1, l2, l3, l4, l5, l6, l7, l8] st h Q := W_if f268_1298 rfl
theorem f268_1301 : fetch 268 1301 = some (.iconst 0, 1, [], .null) := by decide +kernel
theorem w268_1301 : Wp d 268 1301 [l0, l1, l2, l3, l4, l5, l6, l7, l8] st h Q = Wp d 268 1302 [l0, l1, l2, l3, l4, l5, l6, l7, l8] (.int (0 : Int32) :: st) h Q := W_go f268_1301 rfl
theorem f268_1302 : fetch 268 1302 = some (.ireturn, 1, [], .null) := by decide +kernel
theorem w268_1302 : Wp d 268 1302 [l0, l1, l2, l3, l4, l5, l6, l7, l8] [.int x] h Q = (if narrow .boolean (.int x) = .int x then Q (.inl (some (.int x)), h) else False) := W_zret f268_1302 hr268
theorem f268_1303 : fetch 268 1303 = some (.iload 5, 2, [], .null) := by decide +kernel
theorem w268_1303 : Wp d 268 1303 [l0, l1, l2, l3, l4, some (.int x), l6, l7, l8] st h Q = Wp d 268 1305 [l0, l1, l2, l3, l4, some (.int x), l6, l7, l8] (.int x :: st) h Q := W_go f268_1303 rfl
theorem f268_1305 : fetch 268 1305 = some (.ifCond .ne 15, 3, [], .null) := by decide +kernel
theorem w268_1305 : Wp d 268 1305 [l0, l1, l2, l3, l4, l5, l6, l7, l8] (.int x :: st) h Q = if icond .ne x 0 = true then Wp d 268 1320 [l0, l1, l2, l3, l4, l5, l6, l7, l8] st h Q else Wp d 268 1308 [l0, l1, l2, l3, l4, l5, l6, l7, l8] st h Q := W_if f268_1305 rfl
theorem f268_1308 : fetch 268 1308 = some (.aload_n 3, 1, [], .null) := by decide +kernel
theorem w268_1308 : Wp d 268 1308 [l0, l1, l2, some (.ref a), l4, l5, l6, l7, l8] st h Q = Wp d 268 1309 [l0, l1, l2, some (.ref a), l4, l5, l6, l7, l8] (.ref a :: st) h Q := W_go f268_1308 rfl
theorem f268_1309 : fetch 268 1309 = some (.iconst 0, 1, [], .null) := by decide +kernel
theorem w268_1309 : Wp d 268 1309 [l0, l1, l2, l3, l4, l5, l6, l7, l8] st h Q = Wp d 268 1310 [l0, l1, l2, l3, l4, l5, l6, l7, l8] (.int (0 : Int32) :: st) h Q := W_go f268_1309 rfl
theorem f268_1310 : fetch 268 1310 = some (.laload, 1, [], .null) := by decide +kernel
theorem w268_1310 : Wp d 268 1310 [l0, l1, l2, l3, l4, l5, l6, l7, l8] (.int x :: .ref a :: st) h Q = lP (h.2 a) x (fun w => Wp d 268 1311 [l0, l1, l2, l3, l4, l5, l6, l7, l8] (.long w :: st) h Q) := W_lld f268_1310 rfl
theorem f268_1311 : fetch 268 1311 = some (.iload 6, 2, [], .null) := by decide +kernel
theorem w268_1311 : Wp d 268 1311 [l0, l1, l2, l3, l4, l5, some (.int x), l7, l8] st h Q = Wp d 268 1313 [l0, l1, l2, l3, l4, l5, some (.int x), l7, l8] (.int x :: st) h Q := W_go f268_1311 rfl
theorem f268_1313 : fetch 268 1313 = some (.i2l, 1, [], .null) := by decide +kernel
theorem w268_1313 : Wp d 268 1313 [l0, l1, l2, l3, l4, l5, l6, l7, l8] (.int x :: st) h Q = Wp d 268 1314 [l0, l1, l2, l3, l4, l5, l6, l7, l8] (.long x.toInt64 :: st) h Q := W_go f268_1313 rfl
theorem f268_1314 : fetch 268 1314 = some (.lcmp, 1, [], .null) := by decide +kernel
theorem w268_1314 : Wp d 268 1314 [l0, l1, l2, l3, l4, l5, l6, l7, l8] (.long y8 :: .long x8 :: st) h Q = Wp d 268 1315 [l0, l1, l2, l3, l4, l5, l6, l7, l8] (.int (lg_cmp x8 y8) :: st) h Q := W_go f268_1314 rfl
theorem f268_1315 : fetch 268 1315 = some (.ifCond .eq 5, 3, [], .null) := by decide +kernel
theorem w268_1315 : Wp d 268 1315 [l0, l1, l2, l3, l4, l5, l6, l7, l8] (.int x :: st) h Q = if icond .eq x 0 = true then Wp d 268 1320 [l0, l1, l2, l3, l4, l5, l6, l7, l8] st h Q else Wp d 268 1318 [l0, l1, l2, l3, l4, l5, l6, l7, l8] st h Q := W_if f268_1315 rfl
theorem f268_1318 : fetch 268 1318 = some (.iconst 0, 1, [], .null) := by decide +kernel
theorem w268_1318 : Wp d 268 1318 [l0, l1, l2, l3, l4, l5, l6, l7, l8] st h Q = Wp d 268 1319 [l0, l1, l2, l3, l4, l5, l6, l7, l8] (.int (0 : Int32) :: st) h Q := W_go f268_1318 rfl
theorem f268_1319 : fetch 268 1319 = some (.ireturn, 1, [], .null) := by decide +kernel
theorem w268_1319 : Wp d 268 1319 [l0, l1, l2, l3, l4, l5, l6, l7, l8] [.int x] h Q = (if narrow .boolean (.int x) = .int x then Q (.inl (some (.int x)), h) else False) := W_zret f268_1319 hr268
theorem f268_1320 : fetch 268 1320 = some (.goto 816, 3, [], .null) := by decide +kernel
theorem w268_1320 : Wp d 268 1320 [l0, l1, l2, l3, l4, l5, l6, l7, l8] st h Q = Wp d 268 2136 [l0, l1, l2, l3, l4, l5, l6, l7, l8] st h Q := W_go f268_1320 rfl
theorem f268_1323 : fetch 268 1323 = some (.aload_n 1, 1, [], .null) := by decide +kernel
theorem w268_1323 : Wp d 268 1323 [l0, some (.ref a), l2, l3, l4, l5, l6, l7, l8] st h Q = Wp d 268 1324 [l0, some (.ref a), l2, l3, l4, l5, l6, l7, l8] (.ref a :: st) h Q := W_go f268_1323 rfl
theorem f268_1324 : fetch 268 1324 = some (.invokevirtual 186, 3, [91, 1, 8, 0, 3154, 1001, 3157, 3155, 3156], .null) := by decide +kernel
theorem w268_1324 (hp : psum st ≤ 8) : Wp d 268 1324 [l0, l1, l2, l3, l4, l5, l6, l7, l8] ((.ref b) :: st) h Q = rP (h.2 b) 7 (Cp d 91 [(.ref b)] h (fun o => cK o (fun w h2 => Wp d 268 1327 [l0, l1, l2, l3, l4, l5, l6, l7, l8] (w.toList ++ st) h2 Q) (fun E h2 => Q (.inr E, h2)))) := (W_invV (st := st) f268_1324 rfl rfl (by simp only [List.length_cons]; omega) rfl rfl hp).trans (by simp only [hm268, if_true])
theorem f268_1327 : fetch 268 1327 = some (.aload_n 2, 1, [], .null) := by decide +kernel
theorem w268_1327 : Wp d 268 1327 [l0, l1, some (.ref a), l3, l4, l5, l6, l7, l8] st h Q = Wp d 268 1328 [l0, l1, some (.ref a), l3, l4, l5, l6, l7, l8] (.ref a :: st) h Q := W_go f268_1327 rfl
theorem f268_1328 : fetch 268 1328 = some (.invokevirtual 189, 3, [204, 1, 11, 0, 8019, 1013, 8022, 8020, 8021], .null) := by decide +kernel
theorem w268_1328 (hp : psum st ≤ 8) : Wp d 268 1328 [l0, l1, l2, l3, l4, l5, l6, l7, l8] ((.ref b) :: st) h Q = rP (h.2 b) 10 (Cp d 204 [(.ref b)] h (fun o => cK o (fun w h2 => Wp d 268 1331 [l0, l1, l2, l3, l4, l5, l6, l7, l8] (w.toList ++ st) h2 Q) (fun E h2 => Q (.inr E, h2)))) := (W_invV (st := st) f268_1328 rfl rfl (by simp only [List.length_cons]; omega) rfl rfl hp).trans (by simp only [hm268, if_true])
theorem f268_1331 : fetch 268 1331 = some (.if_icmp .eq 805, 3, [], .null) := by decide +kernel
theorem w268_1331 : Wp d 268 1331 [l0, l1, l2, l3, l4, l5, l6, l7, l8] (.int y :: .int x :: st) h Q = if icond .eq x y = true then Wp d 268 2136 [l0, l1, l2, l3, l4, l5, l6, l7, l8] st h Q else Wp d 268 1334 [l0, l1, l2, l3, l4, l5, l6, l7, l8] st h Q := W_if f268_1331 rfl
theorem f268_1334 : fetch 268 1334 = some (.iconst 0, 1, [], .null) := by decide +kernel
theorem w268_1334 : Wp d 268 1334 [l0, l1, l2, l3, l4, l5, l6, l7, l8] st h Q = Wp d 268 1335 [l0, l1, l2, l3, l4, l5, l6, l7, l8] (.int (0 : Int32) :: st) h Q := W_go f268_1334 rfl
theorem f268_1335 : fetch 268 1335 = some (.ireturn, 1, [], .null) := by decide +kernel
theorem w268_1335 : Wp d 268 1335 [l0, l1, l2, l3, l4, l5, l6, l7, l8] [.int x] h Q = (if narrow .boolean (.int x) = .int x then Q (.inl (some (.int x)), h) else False) := W_zret f268_1335 hr268
theorem f268_1336 : fetch 268 1336 = some (.aload_n 1, 1, [], .null) := by decide +kernel
theorem w268_1336 : Wp d 268 1336 [l0, some (.ref a), l2, l3, l4, l5, l6, l7, l8] st h Q = Wp d 268 1337 [l0, some (.ref a), l2, l3, l4, l5, l6, l7, l8] (.ref a :: st) h Q := W_go f268_1336 rfl
theorem f268_1337 : fetch 268 1337 = some (.invokevirtual 190, 3, [92, 1, 8, 0, 3158, 1001, 3161, 3159, 3160], .null) := by decide +kernel
theorem w268_1337 (hp : psum st ≤ 8) : Wp d 268 1337 [l0, l1, l2, l3, l4, l5, l6, l7, l8] ((.ref b) :: st) h Q = rP (h.2 b) 7 (Cp d 92 [(.ref b)] h (fun o => cK o (fun w h2 => Wp d 268 1340 [l0, l1, l2, l3, l4, l5, l6, l7, l8] (w.toList ++ st) h2 Q) (fun E h2 => Q (.inr E, h2)))) := (W_invV (st := st) f268_1337 rfl rfl (by simp only [List.length_cons]; omega) rfl rfl hp).trans (by simp only [hm268, if_true])
theorem f268_1340 : fetch 268 1340 = some (.aload_n 2, 1, [], .null) := by decide +kernel
theorem w268_1340 : Wp d 268 1340 [l0, l1, some (.ref a), l3, l4, l5, l6, l7, l8] st h Q = Wp d 268 1341 [l0, l1, some (.ref a), l3, l4, l5, l6, l7, l8] (.ref a :: st) h Q := W_go f268_1340 rfl
theorem f268_1341 : fetch 268 1341 = some (.invokevirtual 193, 3, [205, 1, 11, 0, 8027, 1013, 8030, 8028, 8029], .null) := by decide +kernel
theorem w268_1341 (hp : psum st ≤ 8) : Wp d 268 1341 [l0, l1, l2, l3, l4, l5, l6, l7, l8] ((.ref b) :: st) h Q = rP (h.2 b) 10 (Cp d 205 [(.ref b)] h (fun o => cK o (fun w h2 => Wp d 268 1344 [l0, l1, l2, l3, l4, l5, l6, l7, l8] (w.toList ++ st) h2 Q) (fun E h2 => Q (.inr E, h2)))) := (W_invV (st := st) f268_1341 rfl rfl (by simp only [List.length_cons]; omega) rfl rfl hp).trans (by simp only [hm268, if_true])
theorem f268_1344 : fetch 268 1344 = some (.if_icmp .eq 792, 3, [], .null) := by decide +kernel
theorem w268_1344 : Wp d 268 1344 [l0, l1, l2, l3, l4, l5, l6, l7, l8] (.int y :: .int x :: st) h Q = if icond .eq x y = true then Wp d 268 2136 [l0, l1, l2, l3, l4, l5, l6, l7, l8] st h Q else Wp d 268 1347 [l0, l1, l2, l3, l4, l5, l6, l7, l8] st h Q := W_if f268_1344 rfl
theorem f268_1347 : fetch 268 1347 = some (.iconst 0, 1, [], .null) := by decide +kernel
theorem w268_1347 : Wp d 268 1347 [l0, l1, l2, l3, l4, l5, l6, l7, l8] st h Q = Wp d 268 1348 [l0, l1, l2, l3, l4, l5, l6, l7, l8] (.int (0 : Int32) :: st) h Q := W_go f268_1347 rfl
theorem f268_1348 : fetch 268 1348 = some (.ireturn, 1, [], .null) := by decide +kernel
theorem w268_1348 : Wp d 268 1348 [l0, l1, l2, l3, l4, l5, l6, l7, l8] [.int x] h Q = (if narrow .boolean (.int x) = .int x then Q (.inl (some (.int x)), h) else False) := W_zret f268_1348 hr268
theorem f268_1349 : fetch 268 1349 = some (.aload_n 1, 1, [], .null) := by decide +kernel
theorem w268_1349 : Wp d 268 1349 [l0, some (.ref a), l2, l3, l4, l5, l6, l7, l8] st h Q = Wp d 268 1350 [l0, some (.ref a), l2, l3, l4, l5, l6, l7, l8] (.ref a :: st) h Q := W_go f268_1349 rfl
theorem f268_1350 : fetch 268 1350 = some (.invokevirtual 194, 3, [93, 1, 8, 0, 3162, 1001, 3165, 3163, 3164], .null) := by decide +kernel
theorem w268_1350 (hp : psum st ≤ 8) : Wp d 268 1350 [l0, l1, l2, l3, l4, l5, l6, l7, l8] ((.ref b) :: st) h Q = rP (h.2 b) 7 (Cp d 93 [(.ref b)] h (fun o => cK o (fun w h2 => Wp d 268 1353 [l0, l1, l2, l3, l4, l5, l6, l7, l8] (w.toList ++ st) h2 Q) (fun E h2 => Q (.inr E, h2)))) := (W_invV (st := st) f268_1350 rfl rfl (by simp only [List.length_cons]; omega) rfl rfl hp).trans (by simp only [hm268, if_true])
theorem f268_1353 : fetch 268 1353 = some (.aload_n 2, 1, [], .null) := by decide +kernel
theorem w268_1353 : Wp d 268 1353 [l0, l1, some (.ref a), l3, l4, l5, l6, l7, l8] st h Q = Wp d 268 1354 [l0, l1, some (.ref a), l3, l4, l5, l6, l7, l8] (.ref a :: st) h Q := W_go f268_1353 rfl
theorem f268_1354 : fetch 268 1354 = some (.invokevirtual 197, 3, [206, 1, 11, 0, 8031, 1013, 8034, 8032, 8033], .null) := by decide +kernel
theorem w268_1354 (hp : psum st ≤ 8) : Wp d 268 1354 [l0, l1, l2, l3, l4, l5, l6, l7, l8] ((.ref b) :: st) h Q = rP (h.2 b) 10 (Cp d 206 [(.ref b)] h (fun o => cK o (fun w h2 => Wp d 268 1357 [l0, l1, l2, l3, l4, l5, l6, l7, l8] (w.toList ++ st) h2 Q) (fun E h2 => Q (.inr E, h2)))) := (W_invV (st := st) f268_1354 rfl rfl (by simp only [List.length_cons]; omega) rfl rfl hp).trans (by simp only [hm268, if_true])
theorem f268_1357 : fetch 268 1357 = some (.if_icmp .eq 779, 3, [], .null) := by decide +kernel
theorem w268_1357 : Wp d 268 1357 [l0, l1, l2, l3, l4, l5, l6, l7, l8] (.int y :: .int x :: st) h Q = if icond .eq x y = true then Wp d 268 2136 [l0, l1, l2, l3, l4, l5, l6, l7, l8] st h Q else Wp d 268 1360 [l0, l1, l2, l3, l4, l5, l6, l7, l8] st h Q := W_if f268_1357 rfl
theorem f268_1360 : fetch 268 1360 = some (.iconst 0, 1, [], .null) := by decide +kernel
theorem w268_1360 : Wp d 268 1360 [l0, l1, l2, l3, l4, l5, l6, l7, l8] st h Q = Wp d 268 1361 [l0, l1, l2, l3, l4, l5, l6, l7, l8] (.int (0 : Int32) :: st) h Q := W_go f268_1360 rfl
theorem f268_1361 : fetch 268 1361 = some (.ireturn, 1, [], .null) := by decide +kernel
theorem w268_1361 : Wp d 268 1361 [l0, l1, l2, l3, l4, l5, l6, l7, l8] [.int x] h Q = (if narrow .boolean (.int x) = .int x then Q (.inl (some (.int x)), h) else False) := W_zret f268_1361 hr268
theorem f268_1362 : fetch 268 1362 = some (.aload_n 1, 1, [], .null) := by decide +kernel
theorem w268_1362 : Wp d 268 1362 [l0, some (.ref a), l2, l3, l4, l5, l6, l7, l8] st h Q = Wp d 268 1363 [l0, some (.ref a), l2, l3, l4, l5, l6, l7, l8] (.ref a :: st) h Q := W_go f268_1362 rfl
theorem f268_1363 : fetch 268 1363 = some (.invokevirtual 198, 3, [94, 1, 8, 0, 3166, 1001, 3169, 3167, 3168], .null) := by decide +kernel
theorem w268_1363 (hp : psum st ≤ 8) : Wp d 268 1363 [l0, l1, l2, l3, l4, l5, l6, l7, l8] ((.ref b) :: st) h Q = rP (h.2 b) 7 (Cp d 94 [(.ref b)] h (fun o => cK o (fun w h2 => Wp d 268 1366 [l0, l1, l2, l3, l4, l5, l6, l7, l8] (w.toList ++ st) h2 Q) (fun E h2 => Q (.inr E, h2)))) := (W_invV (st := st) f268_1363 rfl rfl (by simp only [List.length_cons]; omega) rfl rfl hp).trans (by simp only [hm268, if_true])
theorem f268_1366 : fetch 268 1366 = some (.aload_n 2, 1, [], .null) := by decide +kernel
theorem w268_1366 : Wp d 268 1366 [l0, l1, some (.ref a), l3, l4, l5, l6, l7, l8] st h Q = Wp d 268 1367 [l0, l1, some (.ref a), l3, l4, l5, l6, l7, l8] (.ref a :: st) h Q := W_go f268_1366 rfl
theorem f268_1367 : fetch 268 1367 = some (.invokevirtual 201, 3, [207, 1, 11, 0, 8035, 1013, 8038, 8036, 8037], .null) := by decide +kernel
theorem w268_1367 (hp : psum st ≤ 8) : Wp d 268 1367 [l0, l1, l2, l3, l4, l5, l6, l7, l8] ((.ref b) :: st) h Q = rP (h.2 b) 10 (Cp d 207 [(.ref b)] h (fun o => cK o (fun w h2 => Wp d 268 1370 [l0, l1, l2, l3, l4, l5, l6, l7, l8] (w.toList ++ st) h2 Q) (fun E h2 => Q (.inr E, h2)))) := (W_invV (st := st) f268_1367 rfl rfl (by simp only [List.length_cons]; omega) rfl rfl hp).trans (by simp only [hm268, if_true])
theorem f268_1370 : fetch 268 1370 = some (.if_icmp .eq 766, 3, [], .null) := by decide +kernel
theorem w268_1370 : Wp d 268 1370 [l0, l1, l2, l3, l4, l5, l6, l7, l8] (.int y :: .int x :: st) h Q = if icond .eq x y = true then Wp d 268 2136 [l0, l1, l2, l3, l4, l5, l6, l7, l8] st h Q else Wp d 268 1373 [l0, l1, l2, l3, l4, l5, l6, l7, l8] st h Q := W_if f268_1370 rfl
theorem f268_1373 : fetch 268 1373 = some (.iconst 0, 1, [], .null) := by decide +kernel
theorem w268_1373 : Wp d 268 1373 [l0, l1, l2, l3, l4, l5, l6, l7, l8] st h Q = Wp d 268 1374 [l0, l1, l2, l3, l4, l5, l6, l7, l8] (.int (0 : Int32) :: st) h Q := W_go f268_1373 rfl
theorem f268_1374 : fetch 268 1374 = some (.ireturn, 1, [], .null) := by decide +kernel
theorem w268_1374 : Wp d 268 1374 [l0, l1, l2, l3, l4, l5, l6, l7, l8] [.int x] h Q = (if narrow .boolean (.int x) = .int x then Q (.inl (some (.int x)), h) else False) := W_zret f268_1374 hr268
theorem f268_1375 : fetch 268 1375 = some (.aload_n 1, 1, [], .null) := by decide +kernel
theorem w268_1375 : Wp d 268 1375 [l0, some (.ref a), l2, l3, l4, l5, l6, l7, l8] st h Q = Wp d 268 1376 [l0, some (.ref a), l2, l3, l4, l5, l6, l7, l8] (.ref a :: st) h Q := W_go f268_1375 rfl
theorem f268_1376 : fetch 268 1376 = some (.invokevirtual 202, 3, [95, 1, 8, 0, 3170, 1001, 3173, 3171, 3172], .null) := by decide +kernel
theorem w268_1376 (hp : psum st ≤ 8) : Wp d 268 1376 [l0, l1, l2, l3, l4, l5, l6, l7, l8] ((.ref b) :: st) h Q = rP (h.2 b) 7 (Cp d 95 [(.ref b)] h (fun o => cK o (fun w h2 => Wp d 268 1379 [l0, l1, l2, l3, l4, l5, l6, l7, l8] (w.toList ++ st) h2 Q) (fun E h2 => Q (.inr E, h2)))) := (W_invV (st := st) f268_1376 rfl rfl (by simp only [List.length_cons]; omega) rfl rfl hp).trans (by simp only [hm268, if_true])
theorem f268_1379 : fetch 268 1379 = some (.aload_n 2, 1, [], .null) := by decide +kernel
theorem w268_1379 : Wp d 268 1379 [l0, l1, some (.ref a), l3, l4, l5, l6, l7, l8] st h Q = Wp d 268 1380 [l0, l1, some (.ref a), l3, l4, l5, l6, l7, l8] (.ref a :: st) h Q := W_go f268_1379 rfl
theorem f268_1380 : fetch 268 1380 = some (.invokevirtual 205, 3, [208, 1, 11, 0, 8039, 1013, 8042, 8040, 8041], .null) := by decide +kernel
theorem w268_1380 (hp : psum st ≤ 8) : Wp d 268 1380 [l0, l1, l2, l3, l4, l5, l6, l7, l8] ((.ref b) :: st) h Q = rP (h.2 b) 10 (Cp d 208 [(.ref b)] h (fun o => cK o (fun w h2 => Wp d 268 1383 [l0, l1, l2, l3, l4, l5, l6, l7, l8] (w.toList ++ st) h2 Q) (fun E h2 => Q (.inr E, h2)))) := (W_invV (st := st) f268_1380 rfl rfl (by simp only [List.length_cons]; omega) rfl rfl hp).trans (by simp only [hm268, if_true])
theorem f268_1383 : fetch 268 1383 = some (.if_icmp .eq 753, 3, [], .null) := by decide +kernel
theorem w268_1383 : Wp d 268 1383 [l0, l1, l2, l3, l4, l5, l6, l7, l8] (.int y :: .int x :: st) h Q = if icond .eq x y = true then Wp d 268 2136 [l0, l1, l2, l3, l4, l5, l6, l7, l8] st h Q else Wp d 268 1386 [l0, l1, l2, l3, l4, l5, l6, l7, l8] st h Q := W_if f268_1383 rfl
theorem f268_1386 : fetch 268 1386 = some (.iconst 0, 1, [], .null) := by decide +kernel
theorem w268_1386 : Wp d 268 1386 [l0, l1, l2, l3, l4, l5, l6, l7, l8] st h Q = Wp d 268 1387 [l0, l1, l2, l3, l4, l5, l6, l7, l8] (.int (0 : Int32) :: st) h Q := W_go f268_1386 rfl
theorem f268_1387 : fetch 268 1387 = some (.ireturn, 1, [], .null) := by decide +kernel
theorem w268_1387 : Wp d 268 1387 [l0, l1, l2, l3, l4, l5, l6, l7, l8] [.int x] h Q = (if narrow .boolean (.int x) = .int x then Q (.inl (some (.int x)), h) else False) := W_zret f268_1387 hr268
theorem f268_1388 : fetch 268 1388 = some (.aload_n 1, 1, [], .null) := by decide +kernel
theorem w268_1388 : Wp d 268 1388 [l0, some (.ref a), l2, l3, l4, l5, l6, l7, l8] st h Q = Wp d 268 1389 [l0, some (.ref a), l2, l3, l4, l5, l6, l7, l8] (.ref a :: st) h Q := W_go f268_1388 rfl
theorem f268_1389 : fetch 268 1389 = some (.invokevirtual 206, 3, [96, 1, 8, 0, 3177, 1001, 3180, 3178, 3179], .null) := by decide +kernel
theorem w268_1389 (hp : psum st ≤ 8) : Wp d 268 1389 [l0, l1, l2, l3, l4, l5, l6, l7, l8] ((.ref b) :: st) h Q = rP (h.2 b) 7 (Cp d 96 [(.ref b)] h (fun o => cK o (fun w h2 => Wp d 268 1392 [l0, l1, l2, l3, l4, l5, l6, l7, l8] (w.toList ++ st) h2 Q) (fun E h2 => Q (.inr E, h2)))) := (W_invV (st := st) f268_1389 rfl rfl (by simp only [List.length_cons]; omega) rfl rfl hp).trans (by simp only [hm268, if_true])
theorem f268_1392 : fetch 268 1392 = some (.aload_n 2, 1, [], .null) := by decide +kernel
theorem w268_1392 : Wp d 268 1392 [l0, l1, some (.ref a), l3, l4, l5, l6, l7, l8] st h Q = Wp d 268 1393 [l0, l1, some (.ref a), l3, l4, l5, l6, l7, l8] (.ref a :: st) h Q := W_go f268_1392 rfl
theorem f268_1393 : fetch 268 1393 = some (.invokevirtual 210, 3, [209, 1, 11, 0, 8044, 1013, 8047, 8045, 8046], .null) := by decide +kernel
theorem w268_1393 (hp : psum st ≤ 8) : Wp d 268 1393 [l0, l1, l2, l3, l4, l5, l6, l7, l8] ((.ref b) :: st) h Q = rP (h.2 b) 10 (Cp d 209 [(.ref b)] h (fun o => cK o (fun w h2 => Wp d 268 1396 [l0, l1, l2, l3, l4, l5, l6, l7, l8] (w.toList ++ st) h2 Q) (fun E h2 => Q (.inr E, h2)))) := (W_invV (st := st) f268_1393 rfl rfl (by simp only [List.length_cons]; omega) rfl rfl hp).trans (by simp only [hm268, if_true])
theorem f268_1396 : fetch 268 1396 = some (.if_icmp .eq 740, 3, [], .null) := by decide +kernel
theorem w268_1396 : Wp d 268 1396 [l0, l1, l2, l3, l4, l5, l6, l7, l8] (.int y :: .int x :: st) h Q = if icond .eq x y = true then Wp d 268 2136 [l0, l1, l2, l3, l4, l5, l6, l7, l8] st h Q else Wp d 268 1399 [l0, l1, l2, l3, l4, l5, l6, l7, l8] st h Q := W_if f268_1396 rfl
theorem f268_1399 : fetch 268 1399 = some (.iconst 0, 1, [], .null) := by decide +kernel
theorem w268_1399 : Wp d 268 1399 [l0, l1, l2, l3, l4, l5, l6, l7, l8] st h Q = Wp d 268 1400 [l0, l1, l2, l3, l4, l5, l6, l7, l8] (.int (0 : Int32) :: st) h Q := W_go f268_1399 rfl
theorem f268_1400 : fetch 268 1400 = some (.ireturn, 1, [], .null) := by decide +kernel
theorem w268_1400 : Wp d 268 1400 [l0, l1, l2, l3, l4, l5, l6, l7, l8] [.int x] h Q = (if narrow .boolean (.int x) = .int x then Q (.inl (some (.int x)), h) else False) := W_zret f268_1400 hr268
theorem f268_1401 : fetch 268 1401 = some (.aload_n 1, 1, [], .null) := by decide +kernel
theorem w268_1401 : Wp d 268 1401 [l0, some (.ref a), l2, l3, l4, l5, l6, l7, l8] st h Q = Wp d 268 1402 [l0, some (.ref a), l2, l3, l4, l5, l6, l7, l8] (.ref a :: st) h Q := W_go f268_1401 rfl
theorem f268_1402 : fetch 268 1402 = some (.invokevirtual 211, 3, [97, 1, 8, 0, 3186, 1001, 3189, 3187, 3188], .null) := by decide +kernel
theorem w268_1402 (hp : psum st ≤ 8) : Wp d 268 1402 [l0, l1, l2, l3, l4, l5, l6, l7, l8] ((.ref b) :: st) h Q = rP (h.2 b) 7 (Cp d 97 [(.ref b)] h (fun o => cK o (fun w h2 => Wp d 268 1405 [l0, l1, l2, l3, l4, l5, l6, l7, l8] (w.toList ++ st) h2 Q) (fun E h2 => Q (.inr E, h2)))) := (W_invV (st := st) f268_1402 rfl rfl (by simp only [List.length_cons]; omega) rfl rfl hp).trans (by simp only [hm268, if_true])
theorem f268_1405 : fetch 268 1405 = some (.aload_n 2, 1, [], .null) := by decide +kernel
theorem w268_1405 : Wp d 268 1405 [l0, l1, some (.ref a), l3, l4, l5, l6, l7, l8] st h Q = Wp d 268 1406 [l0, l1, some (.ref a), l3, l4, l5, l6, l7, l8] (.ref a :: st) h Q := W_go f268_1405 rfl
theorem f268_1406 : fetch 268 1406 = some (.invokevirtual 214, 3, [210, 1, 11, 0, 8049, 1013, 8052, 8050, 8051], .null) := by decide +kernel
theorem w268_1406 (hp : psum st ≤ 8) : Wp d 268 1406 [l0, l1, l2, l3, l4, l5, l6, l7, l8] ((.ref b) :: st) h Q = rP (h.2 b) 10 (Cp d 210 [(.ref b)] h (fun o => cK o (fun w h2 => Wp d 268 1409 [l0, l1, l2, l3, l4, l5, l6, l7, l8] (w.toList ++ st) h2 Q) (fun E h2 => Q (.inr E, h2)))) := (W_invV (st := st) f268_1406 rfl rfl (by simp only [List.length_cons]; omega) rfl rfl hp).trans (by simp only [hm268, if_true])
theorem f268_1409 : fetch 268 1409 = some (.if_icmp .eq 727, 3, [], .null) := by decide +kernel
theorem w268_1409 : Wp d 268 1409 [l0, l1, l2, l3, l4, l5, l6, l7, l8] (.int y :: .int x :: st) h Q = if icond .eq x y = true then Wp d 268 2136 [l0, l1, l2, l3, l4, l5, l6, l7, l8] st h Q else Wp d 268 1412 [l0, l1, l2, l3, l4, l5, l6, l7, l8] st h Q := W_if f268_1409 rfl
theorem f268_1412 : fetch 268 1412 = some (.iconst 0, 1, [], .null) := by decide +kernel
theorem w268_1412 : Wp d 268 1412 [l0, l1, l2, l3, l4, l5, l6, l7, l8] st h Q = Wp d 268 1413 [l0, l1, l2, l3, l4, l5, l6, l7, l8] (.int (0 : Int32) :: st) h Q := W_go f268_1412 rfl
theorem f268_1413 : fetch 268 1413 = some (.ireturn, 1, [], .null) := by decide +kernel
theorem w268_1413 : Wp d 268 1413 [l0, l1, l2, l3, l4, l5, l6, l7, l8] [.int x] h Q = (if narrow .boolean (.int x) = .int x then Q (.inl (some (.int x)), h) else False) := W_zret f268_1413 hr268
theorem f268_1414 : fetch 268 1414 = some (.aload_n 1, 1, [], .null) := by decide +kernel
theorem w268_1414 : Wp d 268 1414 [l0, some (.ref a), l2, l3, l4, l5, l6, l7, l8] st h Q = Wp d 268 1415 [l0, some (.ref a), l2, l3, l4, l5, l6, l7, l8] (.ref a :: st) h Q := W_go f268_1414 rfl
theorem f268_1415 : fetch 268 1415 = some (.aload_n 0, 1, [], .null) := by decide +kernel
theorem w268_1415 : Wp d 268 1415 [some (.ref a), l1, l2, l3, l4, l5, l6, l7, l8] st h Q = Wp d 268 1416 [some (.ref a), l1, l2, l3, l4, l5, l6, l7, l8] (.ref a :: st) h Q := W_go f268_1415 rfl
theorem f268_1416 : fetch 268 1416 = some (.iload 4, 2, [], .null) := by decide +kernel
theorem w268_1416 : Wp d 268 1416 [l0, l1, l2, l3, some (.int x), l5, l6, l7, l8] st h Q = Wp d 268 1418 [l0, l1, l2, l3, some (.int x), l5, l6, l7, l8] (.int x :: st) h Q := W_go f268_1416 rfl
theorem f268_1418 : fetch 268 1418 = some (.iconst 1, 1, [], .null) := by decide +kernel
theorem w268_1418 : Wp d 268 1418 [l0, l1, l2, l3, l4, l5, l6, l7, l8] st h Q = Wp d 268 1419 [l0, l1, l2, l3, l4, l5, l6, l7, l8] (.int (1 : Int32) :: st) h Q := W_go f268_1418 rfl
theorem f268_1419 : fetch 268 1419 = some (.iadd, 1, [], .null) := by decide +kernel
theorem w268_1419 : Wp d 268 1419 [l0, l1, l2, l3, l4, l5, l6, l7, l8] (.int y :: .int x :: st) h Q = Wp d 268 1420 [l0, l1, l2, l3, l4, l5, l6, l7, l8] (.int (x + y) :: st) h Q := W_go f268_1419 rfl
theorem f268_1420 : fetch 268 1420 = some (.iaload, 1, [], .null) := by decide +kernel
theorem w268_1420 : Wp d 268 1420 [l0, l1, l2, l3, l4, l5, l6, l7, l8] (.int x :: .ref a :: st) h Q = aP false (h.2 a) x (fun w => Wp d 268 1421 [l0, l1, l2, l3, l4, l5, l6, l7, l8] (.int w :: st) h Q) := W_ald f268_1420 rfl
theorem f268_1421 : fetch 268 1421 = some (.aload_n 3, 1, [], .null) := by decide +kernel
theorem w268_1421 : Wp d 268 1421 [l0, l1, l2, some (.ref a), l4, l5, l6, l7, l8] st h Q = Wp d 268 1422 [l0, l1, l2, some (.ref a), l4, l5, l6, l7, l8] (.ref a :: st) h Q := W_go f268_1421 rfl
theorem f268_1422 : fetch 268 1422 = some (.invokestatic 215, 3, [257, 3, 0, 0, 5066, 1000, 5068, 5067], .null) := by decide +kernel
theorem w268_1422 (hp : psum st ≤ 8) : Wp d 268 1422 [l0, l1, l2, l3, l4, l5, l6, l7, l8] (v2 :: v1 :: v0 :: st) h Q = Cp d 257 [v0, v1, v2] h (fun o => cK o (fun w h2 => Wp d 268 1425 [l0, l1, l2, l3, l4, l5, l6, l7, l8] (w.toList ++ st) h2 Q) (fun _ _ => False)) := (W_invS (st := st) f268_1422 rfl rfl (by simp only [List.length_cons]; omega) rfl rfl hp)
theorem f268_1425 : fetch 268 1425 = some (.istore 5, 2, [], .null) := by decide +kernel
theorem w268_1425 : Wp d 268 1425 [l0, l1, l2, l3, l4, l5, l6, l7, l8] (.int x :: st) h Q = Wp d 268 1427 [l0, l1, l2, l3, kl l4, some (.int x), l6, l7, l8] st h Q := (W_st1 (pc' := 1427) (k := 5) f268_1425 rfl rfl (by simp only [List.length_cons, List.length_nil]; omega)).trans (by rw [pst1_succ]; rfl)
theorem f268_1427 : fetch 268 1427 = some (.aload_n 2, 1, [], .null) := by decide +kernel
theorem w268_1427 : Wp d 268 1427 [l0, l1, some (.ref a), l3, l4, l5, l6, l7, l8] st h Q = Wp d 268 1428 [l0, l1, some (.ref a), l3, l4, l5, l6, l7, l8] (.ref a :: st) h Q := W_go f268_1427 rfl
theorem f268_1428 : fetch 268 1428 = some (.aload_n 0, 1, [], .null) := by decide +kernel
theorem w268_1428 : Wp d 268 1428 [some (.ref a), l1, l2, l3, l4, l5, l6, l7, l8] st h Q = Wp d 268 1429 [some (.ref a), l1, l2, l3, l4, l5, l6, l7, l8] (.ref a :: st) h Q := W_go f268_1428 rfl
theorem f268_1429 : fetch 268 1429 = some (.iload 4, 2, [], .null) := by decide +kernel
theorem w268_1429 : Wp d 268 1429 [l0, l1, l2, l3, some (.int x), l5, l6, l7, l8] st h Q = Wp d 268 1431 [l0, l1, l2, l3, some (.int x), l5, l6, l7, l8] (.int x :: st) h Q := W_go f268_1429 rfl
theorem f268_1431 : fetch 268 1431 = some (.iconst 1, 1, [], .null) := by decide +kernel
theorem w268_1431 : Wp d 268 1431 [l0, l1, l2, l3, l4, l5, l6, l7, l8] st h Q = Wp d 268 1432 [l0, l1, l2, l3, l4, l5, l6, l7, l8] (.int (1 : Int32) :: st) h Q := W_go f268_1431 rfl
theorem f268_1432 : fetch 268 1432 = some (.iadd, 1, [], .null) := by decide +kernel
theorem w268_1432 : Wp d 268 1432 [l0, l1, l2, l3, l4, l5, l6, l7, l8] (.int y :: .int x :: st) h Q = Wp d 268 1433 [l0, l1, l2, l3, l4, l5, l6, l7, l8] (.int (x + y) :: st) h Q := W_go f268_1432 rfl
theorem f268_1433 : fetch 268 1433 = some (.iaload, 1, [], .null) := by decide +kernel
theorem w268_1433 : Wp d 268 1433 [l0, l1, l2, l3, l4, l5, l6, l7, l8] (.int x :: .ref a :: st) h Q = aP false (h.2 a) x (fun w => Wp d 268 1434 [l0, l1, l2, l3, l4, l5, l6, l7, l8] (.int w :: st) h Q) := W_ald f268_1433 rfl
theorem f268_1434 : fetch 268 1434 = some (.invokevirtual 217, 3, [211, 2, 11, 0, 8053, 1013, 8056, 8054, 8055], .null) := by decide +kernel
theorem w268_1434 (hp : psum st ≤ 8) : Wp d 268 1434 [l0, l1, l2, l3, l4, l5, l6, l7, l8] (v1 :: (.ref b) :: st) h Q = rP (h.2 b) 10 (Cp d 211 [(.ref b), v1] h (fun o => cK o (fun w h2 => Wp d 268 1437 [l0, l1, l2, l3, l4, l5, l6, l7, l8] (w.toList ++ st) h2 Q) (fun E h2 => Q (.inr E, h2)))) := (W_invV (st := st) f268_1434 rfl rfl (by simp only [List.length_cons]; omega) rfl rfl hp).trans (by simp only [hm268, if_true])
theorem f268_1437 : fetch 268 1437 = some (.istore 6, 2, [], .null) := by decide +kernel
theorem w268_1437 : Wp d 268 1437 [l0, l1, l2, l3, l4, l5, l6, l7, l8] (.int x :: st) h Q = Wp d 268 1439 [l0, l1, l2, l3, l4, kl l5, some (.int x), l7, l8] st h Q := (W_st1 (pc' := 1439) (k := 6) f268_1437 rfl rfl (by simp only [List.length_cons, List.length_nil]; omega)).trans (by rw [pst1_succ]; rfl)
theorem f268_1439 : fetch 268 1439 = some (.aload_n 2, 1, [], .null) := by decide +kernel
theorem w268_1439 : Wp d 268 1439 [l0, l1, some (.ref a), l3, l4, l5, l6, l7, l8] st h Q = Wp d 268 1440 [l0, l1, some (.ref a), l3, l4, l5, l6, l7, l8] (.ref a :: st) h Q := W_go f268_1439 rfl
theorem f268_1440 : fetch 268 1440 = some (.invokevirtual 110, 3, [145, 1, 11, 0, 6183, 1013, 6186, 6184, 6185], .null) := by decide +kernel
theorem w268_1440 (hp : psum st ≤ 8) : Wp d 268 1440 [l0, l1, l2, l3, l4, l5, l6, l7, l8] ((.ref b) :: st) h Q = rP (h.2 b) 10 (Cp d 145 [(.ref b)] h (fun o => cK o (fun w h2 => Wp d 268 1443 [l0, l1, l2, l3, l4, l5, l6, l7, l8] (w.toList ++ st) h2 Q) (fun E h2 => Q (.inr E, h2)))) := (W_invV (st := st) f268_1440 rfl rfl (by simp only [List.length_cons]; omega) rfl rfl hp).trans (by simp only [hm268, if_true])
theorem f268_1443 : fetch 268 1443 = some (.iload 5, 2, [], .null) := by decide +kernel
theorem w268_1443 : Wp d 268 1443 [l0, l1, l2, l3, l4, some (.int x), l6, l7, l8] st h Q = Wp d 268 1445 [l0, l1, l2, l3, l4, some (.int x), l6, l7, l8] (.int x :: st) h Q := W_go f268_1443 rfl
theorem f268_1445 : fetch 268 1445 = some (.if_icmp .eq 5, 3, [], .null) := by decide +kernel
theorem w268_1445 : Wp d 268 1445 [l0, l1, l2, l3, l4, l5, l6, l7, l8] (.int y :: .int x :: st) h Q = if icond .eq x y = true then Wp d 268 1450 [l0, l1, l2, l3, l4, l5, l6, l7, l8] st h Q else Wp d 268 1448 [l0, l1, l2, l3, l4, l5, l6, l7, l8] st h Q := W_if f268_1445 rfl
theorem f268_1448 : fetch 268 1448 = some (.iconst 0, 1, [], .null) := by decide +kernel
theorem w268_1448 : Wp d 268 1448 [l0, l1, l2, l3, l4, l5, l6, l7, l8] st h Q = Wp d 268 1449 [l0, l1, l2, l3, l4, l5, l6, l7, l8] (.int (0 : Int32) :: st) h Q := W_go f268_1448 rfl
theorem f268_1449 : fetch 268 1449 = some (.ireturn, 1, [], .null) := by decide +kernel
theorem w268_1449 : Wp d 268 1449 [l0, l1, l2, l3, l4, l5, l6, l7, l8] [.int x] h Q = (if narrow .boolean (.int x) = .int x then Q (.inl (some (.int x)), h) else False) := W_zret f268_1449 hr268
theorem f268_1450 : fetch 268 1450 = some (.iload 5, 2, [], .null) := by decide +kernel
theorem w268_1450 : Wp d 268 1450 [l0, l1, l2, l3, l4, some (.int x), l6, l7, l8] st h Q = Wp d 268 1452 [l0, l1, l2, l3, l4, some (.int x), l6, l7, l8] (.int x :: st) h Q := W_go f268_1450 rfl
theorem f268_1452 : fetch 268 1452 = some (.ifCond .ne 15, 3, [], .null) := by decide +kernel
theorem w268_1452 : Wp d 268 1452 [l0, l1, l2, l3, l4, l5, l6, l7, l8] (.int x :: st) h Q = if icond .ne x 0 = true then Wp d 268 1467 [l0, l1, l2, l3, l4, l5, l6, l7, l8] st h Q else Wp d 268 1455 [l0, l1, l2, l3, l4, l5, l6, l7, l8] st h Q := W_if f268_1452 rfl
theorem f268_1455 : fetch 268 1455 = some (.aload_n 3, 1, [], .null) := by decide +kernel
theorem w268_1455 : Wp d 268 1455 [l0, l1, l2, some (.ref a), l4, l5, l6, l7, l8] st h Q = Wp d 268 1456 [l0, l1, l2, some (.ref a), l4, l5, l6, l7, l8] (.ref a :: st) h Q := W_go f268_1455 rfl
theorem f268_1456 : fetch 268 1456 = some (.iconst 0, 1, [], .null) := by decide +kernel
theorem w268_1456 : Wp d 268 1456 [l0, l1, l2, l3, l4, l5, l6, l7, l8] st h Q = Wp d 268 1457 [l0, l1, l2, l3, l4, l5, l6, l7, l8] (.int (0 : Int32) :: st) h Q := W_go f268_1456 rfl
theorem f268_1457 : fetch 268 1457 = some (.laload, 1, [], .null) := by decide +kernel
theorem w268_1457 : Wp d 268 1457 [l0, l1, l2, l3, l4, l5, l6, l7, l8] (.int x :: .ref a :: st) h Q = lP (h.2 a) x (fun w => Wp d 268 1458 [l0, l1, l2, l3, l4, l5, l6, l7, l8] (.long w :: st) h Q) := W_lld f268_1457 rfl
theorem f268_1458 : fetch 268 1458 = some (.iload 6, 2, [], .null) := by decide +kernel
theorem w268_1458 : Wp d 268 1458 [l0, l1, l2, l3, l4, l5, some (.int x), l7, l8] st h Q = Wp d 268 1460 [l0, l1, l2, l3, l4, l5, some (.int x), l7, l8] (.int x :: st) h Q := W_go f268_1458 rfl
theorem f268_1460 : fetch 268 1460 = some (.i2l, 1, [], .null) := by decide +kernel
theorem w268_1460 : Wp d 268 1460 [l0, l1, l2, l3, l4, l5, l6, l7, l8] (.int x :: st) h Q = Wp d 268 1461 [l0, l1, l2, l3, l4, l5, l6, l7, l8] (.long x.toInt64 :: st) h Q := W_go f268_1460 rfl
theorem f268_1461 : fetch 268 1461 = some (.lcmp, 1, [], .null) := by decide +kernel
theorem w268_1461 : Wp d 268 1461 [l0, l1, l2, l3, l4, l5, l6, l7, l8] (.long y8 :: .long x8 :: st) h Q = Wp d 268 1462 [l0, l1, l2, l3, l4, l5, l6, l7, l8] (.int (lg_cmp x8 y8) :: st) h Q := W_go f268_1461 rfl
theorem f268_1462 : fetch 268 1462 = some (.ifCond .eq 5, 3, [], .null) := by decide +kernel
theorem w268_1462 : Wp d 268 1462 [l0, l1, l2, l3, l4, l5, l6, l7, l8] (.int x :: st) h Q = if icond .eq x 0 = true then Wp d 268 1467 [l0, l1, l2, l3, l4, l5, l6, l7, l8] st h Q else Wp d 268 1465 [l0, l1, l2, l3, l4, l5, l6, l7, l8] st h Q := W_if f268_1462 rfl
theorem f268_1465 : fetch 268 1465 = some (.iconst 0, 1, [], .null) := by decide +kernel
theorem w268_1465 : Wp d 268 1465 [l0, l1, l2, l3, l4, l5, l6, l7, l8] st h Q = Wp d 268 1466 [l0, l1, l2, l3, l4, l5, l6, l7, l8] (.int (0 : Int32) :: st) h Q := W_go f268_1465 rfl
theorem f268_1466 : fetch 268 1466 = some (.ireturn, 1, [], .null) := by decide +kernel
theorem w268_1466 : Wp d 268 1466 [l0, l1, l2, l3, l4, l5, l6, l7, l8] [.int x] h Q = (if narrow .boolean (.int x) = .int x then Q (.inl (some (.int x)), h) else False) := W_zret f268_1466 hr268
theorem f268_1467 : fetch 268 1467 = some (.goto 669, 3, [], .null) := by decide +kernel
theorem w268_1467 : Wp d 268 1467 [l0, l1, l2, l3, l4, l5, l6, l7, l8] st h Q = Wp d 268 2136 [l0, l1, l2, l3, l4, l5, l6, l7, l8] st h Q := W_go f268_1467 rfl
theorem f268_1470 : fetch 268 1470 = some (.aload_n 1, 1, [], .null) := by decide +kernel
theorem w268_1470 : Wp d 268 1470 [l0, some (.ref a), l2, l3, l4, l5, l6, l7, l8] st h Q = Wp d 268 1471 [l0, some (.ref a), l2, l3, l4, l5, l6, l7, l8] (.ref a :: st) h Q := W_go f268_1470 rfl
theorem f268_1471 : fetch 268 1471 = some (.aload_n 0, 1, [], .null) := by decide +kernel
theorem w268_1471 : Wp d 268 1471 [some (.ref a), l1, l2, l3, l4, l5, l6, l7, l8] st h Q = Wp d 268 1472 [some (.ref a), l1, l2, l3, l4, l5, l6, l7, l8] (.ref a :: st) h Q := W_go f268_1471 rfl
theorem f268_1472 : fetch 268 1472 = some (.iload 4, 2, [], .null) := by decide +kernel
theorem w268_1472 : Wp d 268 1472 [l0, l1, l2, l3, some (.int x), l5, l6, l7, l8] st h Q = Wp d 268 1474 [l0, l1, l2, l3, some (.int x), l5, l6, l7, l8] (.int x :: st) h Q := W_go f268_1472 rfl
theorem f268_1474 : fetch 268 1474 = some (.iconst 1, 1, [], .null) := by decide +kernel
theorem w268_1474 : Wp d 268 1474 [l0, l1, l2, l3, l4, l5, l6, l7, l8] st h Q = Wp d 268 1475 [l0, l1, l2, l3, l4, l5, l6, l7, l8] (.int (1 : Int32) :: st) h Q := W_go f268_1474 rfl
theorem f268_1475 : fetch 268 1475 = some (.iadd, 1, [], .null) := by decide +kernel
theorem w268_1475 : Wp d 268 1475 [l0, l1, l2, l3, l4, l5, l6, l7, l8] (.int y :: .int x :: st) h Q = Wp d 268 1476 [l0, l1, l2, l3, l4, l5, l6, l7, l8] (.int (x + y) :: st) h Q := W_go f268_1475 rfl
theorem f268_1476 : fetch 268 1476 = some (.iaload, 1, [], .null) := by decide +kernel
theorem w268_1476 : Wp d 268 1476 [l0, l1, l2, l3, l4, l5, l6, l7, l8] (.int x :: .ref a :: st) h Q = aP false (h.2 a) x (fun w => Wp d 268 1477 [l0, l1, l2, l3, l4, l5, l6, l7, l8] (.int w :: st) h Q) := W_ald f268_1476 rfl
theorem f268_1477 : fetch 268 1477 = some (.aload_n 3, 1, [], .null) := by decide +kernel
theorem w268_1477 : Wp d 268 1477 [l0, l1, l2, some (.ref a), l4, l5, l6, l7, l8] st h Q = Wp d 268 1478 [l0, l1, l2, some (.ref a), l4, l5, l6, l7, l8] (.ref a :: st) h Q := W_go f268_1477 rfl
theorem f268_1478 : fetch 268 1478 = some (.invokestatic 218, 3, [258, 3, 0, 0, 5073, 1000, 5075, 5074], .null) := by decide +kernel
theorem w268_1478 (hp : psum st ≤ 8) : Wp d 268 1478 [l0, l1, l2, l3, l4, l5, l6, l7, l8] (v2 :: v1 :: v0 :: st) h Q = Cp d 258 [v0, v1, v2] h (fun o => cK o (fun w h2 => Wp d 268 1481 [l0, l1, l2, l3, l4, l5, l6, l7, l8] (w.toList ++ st) h2 Q) (fun _ _ => False)) := (W_invS (st := st) f268_1478 rfl rfl (by simp only [List.length_cons]; omega) rfl rfl hp)
theorem f268_1481 : fetch 268 1481 = some (.istore 5, 2, [], .null) := by decide +kernel
theorem w268_1481 : Wp d 268 1481 [l0, l1, l2, l3, l4, l5, l6, l7, l8] (.int x :: st) h Q = Wp d 268 1483 [l0, l1, l2, l3, kl l4, some (.int x), l6, l7, l8] st h Q := (W_st1 (pc' := 1483) (k := 5) f268_1481 rfl rfl (by simp only [List.length_cons, List.length_nil]; omega)).trans (by rw [pst1_succ]; rfl)
theorem f268_1483 : fetch 268 1483 = some (.aload_n 2, 1, [], .null) := by decide +kernel
theorem w268_1483 : Wp d 268 1483 [l0, l1, some (.ref a), l3, l4, l5, l6, l7, l8] st h Q = Wp d 268 1484 [l0, l1, some (.ref a), l3, l4, l5, l6, l7, l8] (.ref a :: st) h Q := W_go f268_1483 rfl
theorem f268_1484 : fetch 268 1484 = some (.aload_n 0, 1, [], .null) := by decide +kernel
theorem w268_1484 : Wp d 268 1484 [some (.ref a), l1, l2, l3, l4, l5, l6, l7, l8] st h Q = Wp d 268 1485 [some (.ref a), l1, l2, l3, l4, l5, l6, l7, l8] (.ref a :: st) h Q := W_go f268_1484 rfl
theorem f268_1485 : fetch 268 1485 = some (.iload 4, 2, [], .null) := by decide +kernel
theorem w268_1485 : Wp d 268 1485 [l0, l1, l2, l3, some (.int x), l5, l6, l7, l8] st h Q = Wp d 268 1487 [l0, l1, l2, l3, some (.int x), l5, l6, l7, l8] (.int x :: st) h Q := W_go f268_1485 rfl
theorem f268_1487 : fetch 268 1487 = some (.iconst 1, 1, [], .null) := by decide +kernel
theorem w268_1487 : Wp d 268 1487 [l0, l1, l2, l3, l4, l5, l6, l7, l8] st h Q = Wp d 268 1488 [l0, l1, l2, l3, l4, l5, l6, l7, l8] (.int (1 : Int32) :: st) h Q := W_go f268_1487 rfl
theorem f268_1488 : fetch 268 1488 = some (.iadd, 1, [], .null) := by decide +kernel
theorem w268_1488 : Wp d 268 1488 [l0, l1, l2, l3, l4, l5, l6, l7, l8] (.int y :: .int x :: st) h Q = Wp d 268 1489 [l0, l1, l2, l3, l4, l5, l6, l7, l8] (.int (x + y) :: st) h Q := W_go f268_1488 rfl
theorem f268_1489 : fetch 268 1489 = some (.iaload, 1, [], .null) := by decide +kernel
theorem w268_1489 : Wp d 268 1489 [l0, l1, l2, l3, l4, l5, l6, l7, l8] (.int x :: .ref a :: st) h Q = aP false (h.2 a) x (fun w => Wp d 268 1490 [l0, l1, l2, l3, l4, l5, l6, l7, l8] (.int w :: st) h Q) := W_ald f268_1489 rfl
theorem f268_1490 : fetch 268 1490 = some (.invokevirtual 220, 3, [212, 2, 11, 0, 8057, 1013, 8060, 8058, 8059], .null) := by decide +kernel
theorem w268_1490 (hp : psum st ≤ 8) : Wp d 268 1490 [l0, l1, l2, l3, l4, l5, l6, l7, l8] (v1 :: (.ref b) :: st) h Q = rP (h.2 b) 10 (Cp d 212 [(.ref b), v1] h (fun o => cK o (fun w h2 => Wp d 268 1493 [l0, l1, l2, l3, l4, l5, l6, l7, l8] (w.toList ++ st) h2 Q) (fun E h2 => Q (.inr E, h2)))) := (W_invV (st := st) f268_1490 rfl rfl (by simp only [List.length_cons]; omega) rfl rfl hp).trans (by simp only [hm268, if_true])
theorem f268_1493 : fetch 268 1493 = some (.istore 6, 2, [], .null) := by decide +kernel
theorem w268_1493 : Wp d 268 1493 [l0, l1, l2, l3, l4, l5, l6, l7, l8] (.int x :: st) h Q = Wp d 268 1495 [l0, l1, l2, l3, l4, kl l5, some (.int x), l7, l8] st h Q := (W_st1 (pc' := 1495) (k := 6) f268_1493 rfl rfl (by simp only [List.length_cons, List.length_nil]; omega)).trans (by rw [pst1_succ]; rfl)
theorem f268_1495 : fetch 268 1495 = some (.aload_n 2, 1, [], .null) := by decide +kernel
theorem w268_1495 : Wp d 268 1495 [l0, l1, some (.ref a), l3, l4, l5, l6, l7, l8] st h Q = Wp d 268 1496 [l0, l1, some (.ref a), l3, l4, l5, l6, l7, l8] (.ref a :: st) h Q := W_go f268_1495 rfl
theorem f268_1496 : fetch 268 1496 = some (.invokevirtual 110, 3, [145, 1, 11, 0, 6183, 1013, 6186, 6184, 6185], .null) := by decide +kernel
theorem w268_1496 (hp : psum st ≤ 8) : Wp d 268 1496 [l0, l1, l2, l3, l4, l5, l6, l7, l8] ((.ref b) :: st) h Q = rP (h.2 b) 10 (Cp d 145 [(.ref b)] h (fun o => cK o (fun w h2 => Wp d 268 1499 [l0, l1, l2, l3, l4, l5, l6, l7, l8] (w.toList ++ st) h2 Q) (fun E h2 => Q (.inr E, h2)))) := (W_invV (st := st) f268_1496 rfl rfl (by simp only [List.length_cons]; omega) rfl rfl hp).trans (by simp only [hm268, if_true])
theorem f268_1499 : fetch 268 1499 = some (.iload 5, 2, [], .null) := by decide +kernel
theorem w268_1499 : Wp d 268 1499 [l0, l1, l2, l3, l4, some (.int x), l6, l7, l8] st h Q = Wp d 268 1501 [l0, l1, l2, l3, l4, some (.int x), l6, l7, l8] (.int x :: st) h Q := W_go f268_1499 rfl
theorem f268_1501 : fetch 268 1501 = some (.if_icmp .eq 5, 3, [], .null) := by decide +kernel
theorem w268_1501 : Wp d 268 1501 [l0, l1, l2, l3, l4, l5, l6, l7, l8] (.int y :: .int x :: st) h Q = if icond .eq x y = true then Wp d 268 1506 [l0, l1, l2, l3, l4, l5, l6, l7, l8] st h Q else Wp d 268 1504 [l0, l1, l2, l3, l4, l5, l6, l7, l8] st h Q := W_if f268_1501 rfl
theorem f268_1504 : fetch 268 1504 = some (.iconst 0, 1, [], .null) := by decide +kernel
theorem w268_1504 : Wp d 268 1504 [l0, l1, l2, l3, l4, l5, l6, l7, l8] st h Q = Wp d 268 1505 [l0, l1, l2, l3, l4, l5, l6, l7, l8] (.int (0 : Int32) :: st) h Q := W_go f268_1504 rfl
theorem f268_1505 : fetch 268 1505 = some (.ireturn, 1, [], .null) := by decide +kernel
theorem w268_1505 : Wp d 268 1505 [l0, l1, l2, l3, l4, l5, l6, l7, l8] [.int x] h Q = (if narrow .boolean (.int x) = .int x then Q (.inl (some (.int x)), h) else False) := W_zret f268_1505 hr268
theorem f268_1506 : fetch 268 1506 = some (.iload 5, 2, [], .null) := by decide +kernel
theorem w268_1506 : Wp d 268 1506 [l0, l1, l2, l3, l4, some (.int x), l6, l7, l8] st h Q = Wp d 268 1508 [l0, l1, l2, l3, l4, some (.int x), l6, l7, l8] (.int x :: st) h Q := W_go f268_1506 rfl
theorem f268_1508 : fetch 268 1508 = some (.ifCond .ne 15, 3, [], .null) := by decide +kernel
theorem w268_1508 : Wp d 268 1508 [l0, l1, l2, l3, l4, l5, l6, l7, l8] (.int x :: st) h Q = if icond .ne x 0 = true then Wp d 268 1523 [l0, l1, l2, l3, l4, l5, l6, l7, l8] st h Q else Wp d 268 1511 [l0, l1, l2, l3, l4, l5, l6, l7, l8] st h Q := W_if f268_1508 rfl
theorem f268_1511 : fetch 268 1511 = some (.aload_n 3, 1, [], .null) := by decide +kernel
theorem w268_1511 : Wp d 268 1511 [l0, l1, l2, some (.ref a), l4, l5, l6, l7, l8] st h Q = Wp d 268 1512 [l0, l1, l2, some (.ref a), l4, l5, l6, l7, l8] (.ref a :: st) h Q := W_go f268_1511 rfl
theorem f268_1512 : fetch 268 1512 = some (.iconst 0, 1, [], .null) := by decide +kernel
theorem w268_1512 : Wp d 268 1512 [l0, l1, l2, l3, l4, l5, l6, l7, l8] st h Q = Wp d 268 1513 [l0, l1, l2, l3, l4, l5, l6, l7, l8] (.int (0 : Int32) :: st) h Q := W_go f268_1512 rfl
theorem f268_1513 : fetch 268 1513 = some (.laload, 1, [], .null) := by decide +kernel
theorem w268_1513 : Wp d 268 1513 [l0, l1, l2, l3, l4, l5, l6, l7, l8] (.int x :: .ref a :: st) h Q = lP (h.2 a) x (fun w => Wp d 268 1514 [l0, l1, l2, l3, l4, l5, l6, l7, l8] (.long w :: st) h Q) := W_lld f268_1513 rfl
theorem f268_1514 : fetch 268 1514 = some (.iload 6, 2, [], .null) := by decide +kernel
theorem w268_1514 : Wp d 268 1514 [l0, l1, l2, l3, l4, l5, some (.int x), l7, l8] st h Q = Wp d 268 1516 [l0, l1, l2, l3, l4, l5, some (.int x), l7, l8] (.int x :: st) h Q := W_go f268_1514 rfl
theorem f268_1516 : fetch 268 1516 = some (.i2l, 1, [], .null) := by decide +kernel
theorem w268_1516 : Wp d 268 1516 [l0, l1, l2, l3, l4, l5, l6, l7, l8] (.int x :: st) h Q = Wp d 268 1517 [l0, l1, l2, l3, l4, l5, l6, l7, l8] (.long x.toInt64 :: st) h Q := W_go f268_1516 rfl
theorem f268_1517 : fetch 268 1517 = some (.lcmp, 1, [], .null) := by decide +kernel
theorem w268_1517 : Wp d 268 1517 [l0, l1, l2, l3, l4, l5, l6, l7, l8] (.long y8 :: .long x8 :: st) h Q = Wp d 268 1518 [l0, l1, l2, l3, l4, l5, l6, l7, l8] (.int (lg_cmp x8 y8) :: st) h Q := W_go f268_1517 rfl
theorem f268_1518 : fetch 268 1518 = some (.ifCond .eq 5, 3, [], .null) := by decide +kernel
theorem w268_1518 : Wp d 268 1518 [l0, l1, l2, l3, l4, l5, l6, l7, l8] (.int x :: st) h Q = if icond .eq x 0 = true then Wp d 268 1523 [l0, l1, l2, l3, l4, l5, l6, l7, l8] st h Q else Wp d 268 1521 [l0, l1, l2, l3, l4, l5, l6, l7, l8] st h Q := W_if f268_1518 rfl
theorem f268_1521 : fetch 268 1521 = some (.iconst 0, 1, [], .null) := by decide +kernel
theorem w268_1521 : Wp d 268 1521 [l0, l1, l2, l3, l4, l5, l6, l7, l8] st h Q = Wp d 268 1522 [l0, l1, l2, l3, l4, l5, l6, l7, l8] (.int (0 : Int32) :: st) h Q := W_go f268_1521 rfl
theorem f268_1522 : fetch 268 1522 = some (.ireturn, 1, [], .null) := by decide +kernel
theorem w268_1522 : Wp d 268 1522 [l0, l1, l2, l3, l4, l5, l6, l7, l8] [.int x] h Q = (if narrow .boolean (.int x) = .int x then Q (.inl (some (.int x)), h) else False) := W_zret f268_1522 hr268
theorem f268_1523 : fetch 268 1523 = some (.goto 613, 3, [], .null) := by decide +kernel
theorem w268_1523 : Wp d 268 1523 [l0, l1, l2, l3, l4, l5, l6, l7, l8] st h Q = Wp d 268 2136 [l0, l1, l2, l3, l4, l5, l6, l7, l8] st h Q := W_go f268_1523 rfl
theorem f268_1526 : fetch 268 1526 = some (.aload_n 1, 1, [], .null) := by decide +kernel
theorem w268_1526 : Wp d 268 1526 [l0, some (.ref a), l2, l3, l4, l5, l6, l7, l8] st h Q = Wp d 268 1527 [l0, some (.ref a), l2, l3, l4, l5, l6, l7, l8] (.ref a :: st) h Q := W_go f268_1526 rfl
theorem f268_1527 : fetch 268 1527 = some (.aload_n 0, 1, [], .null) := by decide +kernel
theorem w268_1527 : Wp d 268 1527 [some (.ref a), l1, l2, l3, l4, l5, l6, l7, l8] st h Q = Wp d 268 1528 [some (.ref a), l1, l2, l3, l4, l5, l6, l7, l8] (.ref a :: st) h Q := W_go f268_1527 rfl
theorem f268_1528 : fetch 268 1528 = some (.iload 4, 2, [], .null) := by decide +kernel
theorem w268_1528 : Wp d 268 1528 [l0, l1, l2, l3, some (.int x), l5, l6, l7, l8] st h Q = Wp d 268 1530 [l0, l1, l2, l3, some (.int x), l5, l6, l7, l8] (.int x :: st) h Q := W_go f268_1528 rfl
theorem f268_1530 : fetch 268 1530 = some (.iconst 1, 1, [], .null) := by decide +kernel
theorem w268_1530 : Wp d 268 1530 [l0, l1, l2, l3, l4, l5, l6, l7, l8] st h Q = Wp d 268 1531 [l0, l1, l2, l3, l4, l5, l6, l7, l8] (.int (1 : Int32) :: st) h Q := W_go f268_1530 rfl
theorem f268_1531 : fetch 268 1531 = some (.iadd, 1, [], .null) := by decide +kernel
theorem w268_1531 : Wp d 268 1531 [l0, l1, l2, l3, l4, l5, l6, l7, l8] (.int y :: .int x :: st) h Q = Wp d 268 1532 [l0, l1, l2, l3, l4, l5, l6, l7, l8] (.int (x + y) :: st) h Q := W_go f268_1531 rfl
theorem f268_1532 : fetch 268 1532 = some (.iaload, 1, [], .null) := by decide +kernel
theorem w268_1532 : Wp d 268 1532 [l0, l1, l2, l3, l4, l5, l6, l7, l8] (.int x :: .ref a :: st) h Q = aP false (h.2 a) x (fun w => Wp d 268 1533 [l0, l1, l2, l3, l4, l5, l6, l7, l8] (.int w :: st) h Q) := W_ald f268_1532 rfl
theorem f268_1533 : fetch 268 1533 = some (.aload_n 3, 1, [], .null) := by decide +kernel
theorem w268_1533 : Wp d 268 1533 [l0, l1, l2, some (.ref a), l4, l5, l6, l7, l8] st h Q = Wp d 268 1534 [l0, l1, l2, some (.ref a), l4, l5, l6, l7, l8] (.ref a :: st) h Q := W_go f268_1533 rfl
theorem f268_1534 : fetch 268 1534 = some (.invokestatic 221, 3, [259, 3, 0, 0, 5080, 1000, 5082, 5081], .null) := by decide +kernel
theorem w268_1534 (hp : psum st ≤ 8) : Wp d 268 1534 [l0, l1, l2, l3, l4, l5, l6, l7, l8] (v2 :: v1 :: v0 :: st) h Q = Cp d 259 [v0, v1, v2] h (fun o => cK o (fun w h2 => Wp d 268 1537 [l0, l1, l2, l3, l4, l5, l6, l7, l8] (w.toList ++ st) h2 Q) (fun _ _ => False)) := (W_invS (st := st) f268_1534 rfl rfl (by simp only [List.length_cons]; omega) rfl rfl hp)
theorem f268_1537 : fetch 268 1537 = some (.istore 5, 2, [], .null) := by decide +kernel
theorem w268_1537 : Wp d 268 1537 [l0, l1, l2, l3, l4, l5, l6, l7, l8] (.int x :: st) h Q = Wp d 268 1539 [l0, l1, l2, l3, kl l4, some (.int x), l6, l7, l8] st h Q := (W_st1 (pc' := 1539) (k := 5) f268_1537 rfl rfl (by simp only [List.length_cons, List.length_nil]; omega)).trans (by rw [pst1_succ]; rfl)
theorem f268_1539 : fetch 268 1539 = some (.aload_n 2, 1, [], .null) := by decide +kernel
theorem w268_1539 : Wp d 268 1539 [l0, l1, some (.ref a), l3, l4, l5, l6, l7, l8] st h Q = Wp d 268 1540 [l0, l1, some (.ref a), l3, l4, l5, l6, l7, l8] (.ref a :: st) h Q := W_go f268_1539 rfl
theorem f268_1540 : fetch 268 1540 = some (.aload_n 0, 1, [], .null) := by decide +kernel
theorem w268_1540 : Wp d 268 1540 [some (.ref a), l1, l2, l3, l4, l5, l6, l7, l8] st h Q = Wp d 268 1541 [some (.ref a), l1, l2, l3, l4, l5, l6, l7, l8] (.ref a :: st) h Q := W_go f268_1540 rfl
theorem f268_1541 : fetch 268 1541 = some (.iload 4, 2, [], .null) := by decide +kernel
theorem w268_1541 : Wp d 268 1541 [l0, l1, l2, l3, some (.int x), l5, l6, l7, l8] st h Q = Wp d 268 1543 [l0, l1, l2, l3, some (.int x), l5, l6, l7, l8] (.int x :: st) h Q := W_go f268_1541 rfl
theorem f268_1543 : fetch 268 1543 = some (.iconst 1, 1, [], .null) := by decide +kernel
theorem w268_1543 : Wp d 268 1543 [l0, l1, l2, l3, l4, l5, l6, l7, l8] st h Q = Wp d 268 1544 [l0, l1, l2, l3, l4, l5, l6, l7, l8] (.int (1 : Int32) :: st) h Q := W_go f268_1543 rfl
theorem f268_1544 : fetch 268 1544 = some (.iadd, 1, [], .null) := by decide +kernel
theorem w268_1544 : Wp d 268 1544 [l0, l1, l2, l3, l4, l5, l6, l7, l8] (.int y :: .int x :: st) h Q = Wp d 268 1545 [l0, l1, l2, l3, l4, l5, l6, l7, l8] (.int (x + y) :: st) h Q := W_go f268_1544 rfl
theorem f268_1545 : fetch 268 1545 = some (.iaload, 1, [], .null) := by decide +kernel
theorem w268_1545 : Wp d 268 1545 [l0, l1, l2, l3, l4, l5, l6, l7, l8] (.int x :: .ref a :: st) h Q = aP false (h.2 a) x (fun w => Wp d 268 1546 [l0, l1, l2, l3, l4, l5, l6, l7, l8] (.int w :: st) h Q) := W_ald f268_1545 rfl
theorem f268_1546 : fetch 268 1546 = some (.invokevirtual 223, 3, [213, 2, 11, 0, 8061, 1013, 8064, 8062, 8063], .null) := by decide +kernel
theorem w268_1546 (hp : psum st ≤ 8) : Wp d 268 1546 [l0, l1, l2, l3, l4, l5, l6, l7, l8] (v1 :: (.ref b) :: st) h Q = rP (h.2 b) 10 (Cp d 213 [(.ref b), v1] h (fun o => cK o (fun w h2 => Wp d 268 1549 [l0, l1, l2, l3, l4, l5, l6, l7, l8] (w.toList ++ st) h2 Q) (fun E h2 => Q (.inr E, h2)))) := (W_invV (st := st) f268_1546 rfl rfl (by simp only [List.length_cons]; omega) rfl rfl hp).trans (by simp only [hm268, if_true])
theorem f268_1549 : fetch 268 1549 = some (.istore 6, 2, [], .null) := by decide +kernel
theorem w268_1549 : Wp d 268 1549 [l0, l1, l2, l3, l4, l5, l6, l7, l8] (.int x :: st) h Q = Wp d 268 1551 [l0, l1, l2, l3, l4, kl l5, some (.int x), l7, l8] st h Q := (W_st1 (pc' := 1551) (k := 6) f268_1549 rfl rfl (by simp only [List.length_cons, List.length_nil]; omega)).trans (by rw [pst1_succ]; rfl)
theorem f268_1551 : fetch 268 1551 = some (.aload_n 2, 1, [], .null) := by decide +kernel
theorem w268_1551 : Wp d 268 1551 [l0, l1, some (.ref a), l3, l4, l5, l6, l7, l8] st h Q = Wp d 268 1552 [l0, l1, some (.ref a), l3, l4, l5, l6, l7, l8] (.ref a :: st) h Q := W_go f268_1551 rfl
theorem f268_1552 : fetch 268 1552 = some (.invokevirtual 110, 3, [145, 1, 11, 0, 6183, 1013, 6186, 6184, 6185], .null) := by decide +kernel
theorem w268_1552 (hp : psum st ≤ 8) : Wp d 268 1552 [l0, l1, l2, l3, l4, l5, l6, l7, l8] ((.ref b) :: st) h Q = rP (h.2 b) 10 (Cp d 145 [(.ref b)] h (fun o => cK o (fun w h2 => Wp d 268 1555 [l0, l1, l2, l3, l4, l5, l6, l7, l8] (w.toList ++ st) h2 Q) (fun E h2 => Q (.inr E, h2)))) := (W_invV (st := st) f268_1552 rfl rfl (by simp only [List.length_cons]; omega) rfl rfl hp).trans (by simp only [hm268, if_true])
theorem f268_1555 : fetch 268 1555 = some (.iload 5, 2, [], .null) := by decide +kernel
theorem w268_1555 : Wp d 268 1555 [l0, l1, l2, l3, l4, some (.int x), l6, l7, l8] st h Q = Wp d 268 1557 [l0, l1, l2, l3, l4, some (.int x), l6, l7, l8] (.int x :: st) h Q := W_go f268_1555 rfl
theorem f268_1557 : fetch 268 1557 = some (.if_icmp .eq 5, 3, [], .null) := by decide +kernel
theorem w268_1557 : Wp d 268 1557 [l0, l1, l2, l3, l4, l5, l6, l7, l8] (.int y :: .int x :: st) h Q = if icond .eq x y = true then Wp d 268 1562 [l0, l1, l2, l3, l4, l5, l6, l7, l8] st h Q else Wp d 268 1560 [l0, l1, l2, l3, l4, l5, l6, l7, l8] st h Q := W_if f268_1557 rfl
theorem f268_1560 : fetch 268 1560 = some (.iconst 0, 1, [], .null) := by decide +kernel
theorem w268_1560 : Wp d 268 1560 [l0, l1, l2, l3, l4, l5, l6, l7, l8] st h Q = Wp d 268 1561 [l0, l1, l2, l3, l4, l5, l6, l7, l8] (.int (0 : Int32) :: st) h Q := W_go f268_1560 rfl
theorem f268_1561 : fetch 268 1561 = some (.ireturn, 1, [], .null) := by decide +kernel
theorem w268_1561 : Wp d 268 1561 [l0, l1, l2, l3, l4, l5, l6, l7, l8] [.int x] h Q = (if narrow .boolean (.int x) = .int x then Q (.inl (some (.int x)), h) else False) := W_zret f268_1561 hr268
theorem f268_1562 : fetch 268 1562 = some (.iload 5, 2, [], .null) := by decide +kernel
theorem w268_1562 : Wp d 268 1562 [l0, l1, l2, l3, l4, some (.int x), l6, l7, l8] st h Q = Wp d 268 1564 [l0, l1, l2, l3, l4, some (.int x), l6, l7, l8] (.int x :: st) h Q := W_go f268_1562 rfl
theorem f268_1564 : fetch 268 1564 = some (.ifCond .ne 22, 3, [], .null) := by decide +kernel
theorem w268_1564 : Wp d 268 1564 [l0, l1, l2, l3, l4, l5, l6, l7, l8] (.int x :: st) h Q = if icond .ne x 0 = true then Wp d 268 1586 [l0, l1, l2, l3, l4, l5, l6, l7, l8] st h Q else Wp d 268 1567 [l0, l1, l2, l3, l4, l5, l6, l7, l8] st h Q := W_if f268_1564 rfl
theorem f268_1567 : fetch 268 1567 = some (.aload_n 3, 1, [], .null) := by decide +kernel
theorem w268_1567 : Wp d 268 1567 [l0, l1, l2, some (.ref a), l4, l5, l6, l7, l8] st h Q = Wp d 268 1568 [l0, l1, l2, some (.ref a), l4, l5, l6, l7, l8] (.ref a :: st) h Q := W_go f268_1567 rfl
theorem f268_1568 : fetch 268 1568 = some (.iconst 0, 1, [], .null) := by decide +kernel
theorem w268_1568 : Wp d 268 1568 [l0, l1, l2, l3, l4, l5, l6, l7, l8] st h Q = Wp d 268 1569 [l0, l1, l2, l3, l4, l5, l6, l7, l8] (.int (0 : Int32) :: st) h Q := W_go f268_1568 rfl
theorem f268_1569 : fetch 268 1569 = some (.laload, 1, [], .null) := by decide +kernel
theorem w268_1569 : Wp d 268 1569 [l0, l1, l2, l3, l4, l5, l6, l7, l8] (.int x :: .ref a :: st) h Q = lP (h.2 a) x (fun w => Wp d 268 1570 [l0, l1, l2, l3, l4, l5, l6, l7, l8] (.long w :: st) h Q) := W_lld f268_1569 rfl
theorem f268_1570 : fetch 268 1570 = some (.iload 6, 2, [], .null) := by decide +kernel
theorem w268_1570 : Wp d 268 1570 [l0, l1, l2, l3, l4, l5, some (.int x), l7, l8] st h Q = Wp d 268 1572 [l0, l1, l2, l3, l4, l5, some (.int x), l7, l8] (.int x :: st) h Q := W_go f268_1570 rfl
theorem f268_1572 : fetch 268 1572 = some (.ifCond .eq 7, 3, [], .null) := by decide +kernel
theorem w268_1572 : Wp d 268 1572 [l0, l1, l2, l3, l4, l5, l6, l7, l8] (.int x :: st) h Q = if icond .eq x 0 = true then Wp d 268 1579 [l0, l1, l2, l3, l4, l5, l6, l7, l8] st h Q else Wp d 268 1575 [l0, l1, l2, l3, l4, l5, l6, l7, l8] st h Q := W_if f268_1572 rfl
theorem f268_1575 : fetch 268 1575 = some (.lconst 1, 1, [], .null) := by decide +kernel
theorem w268_1575 : Wp d 268 1575 [l0, l1, l2, l3, l4, l5, l6, l7, l8] st h Q = Wp d 268 1576 [l0, l1, l2, l3, l4, l5, l6, l7, l8] (.long (1 : Int64) :: st) h Q := W_go f268_1575 rfl
theorem f268_1576 : fetch 268 1576 = some (.goto 4, 3, [], .null) := by decide +kernel
theorem w268_1576 : Wp d 268 1576 [l0, l1, l2, l3, l4, l5, l6, l7, l8] st h Q = Wp d 268 1580 [l0, l1, l2, l3, l4, l5, l6, l7, l8] st h Q := W_go f268_1576 rfl
theorem f268_1579 : fetch 268 1579 = some (.lconst 0, 1, [], .null) := by decide +kernel
theorem w268_1579 : Wp d 268 1579 [l0, l1, l2, l3, l4, l5, l6, l7, l8] st h Q = Wp d 268 1580 [l0, l1, l2, l3, l4, l5, l6, l7, l8] (.long (0 : Int64) :: st) h Q := W_go f268_1579 rfl
theorem f268_1580 : fetch 268 1580 = some (.lcmp, 1, [], .null) := by decide +kernel
theorem w268_1580 : Wp d 268 1580 [l0, l1, l2, l3, l4, l5, l6, l7, l8] (.long y8 :: .long x8 :: st) h Q = Wp d 268 1581 [l0, l1, l2, l3, l4, l5, l6, l7, l8] (.int (lg_cmp x8 y8) :: st) h Q := W_go f268_1580 rfl
theorem f268_1581 : fetch 268 1581 = some (.ifCond .eq 5, 3, [], .null) := by decide +kernel
theorem w268_1581 : Wp d 268 1581 [l0, l1, l2, l3, l4, l5, l6, l7, l8] (.int x :: st) h Q = if icond .eq x 0 = true then Wp d 268 1586 [l0, l1, l2, l3, l4, l5, l6, l7, l8] st h Q else Wp d 268 1584 [l0, l1, l2, l3, l4, l5, l6, l7, l8] st h Q := W_if f268_1581 rfl
theorem f268_1584 : fetch 268 1584 = some (.iconst 0, 1, [], .null) := by decide +kernel
theorem w268_1584 : Wp d 268 1584 [l0, l1, l2, l3, l4, l5, l6, l7, l8] st h Q = Wp d 268 1585 [l0, l1, l2, l3, l4, l5, l6, l7, l8] (.int (0 : Int32) :: st) h Q := W_go f268_1584 rfl
theorem f268_1585 : fetch 268 1585 = some (.ireturn, 1, [], .null) := by decide +kernel
theorem w268_1585 : Wp d 268 1585 [l0, l1, l2, l3, l4, l5, l6, l7, l8] [.int x] h Q = (if narrow .boolean (.int x) = .int x then Q (.inl (some (.int x)), h) else False) := W_zret f268_1585 hr268
theorem f268_1586 : fetch 268 1586 = some (.goto 550, 3, [], .null) := by decide +kernel
theorem w268_1586 : Wp d 268 1586 [l0, l1, l2, l3, l4, l5, l6, l7, l8] st h Q = Wp d 268 2136 [l0, l1, l2, l3, l4, l5, l6, l7, l8] st h Q := W_go f268_1586 rfl
theorem f268_1589 : fetch 268 1589 = some (.aload_n 1, 1, [], .null) := by decide +kernel
theorem w268_1589 : Wp d 268 1589 [l0, some (.ref a), l2, l3, l4, l5, l6, l7, l8] st h Q = Wp d 268 1590 [l0, some (.ref a), l2, l3, l4, l5, l6, l7, l8] (.ref a :: st) h Q := W_go f268_1589 rfl
theorem f268_1590 : fetch 268 1590 = some (.aload_n 0, 1, [], .null) := by decide +kernel
theorem w268_1590 : Wp d 268 1590 [some (.ref a), l1, l2, l3, l4, l5, l6, l7, l8] st h Q = Wp d 268 1591 [some (.ref a), l1, l2, l3, l4, l5, l6, l7, l8] (.ref a :: st) h Q := W_go f268_1590 rfl
theorem f268_1591 : fetch 268 1591 = some (.iload 4, 2, [], .null) := by decide +kernel
theorem w268_1591 : Wp d 268 1591 [l0, l1, l2, l3, some (.int x), l5, l6, l7, l8] st h Q = Wp d 268 1593 [l0, l1, l2, l3, some (.int x), l5, l6, l7, l8] (.int x :: st) h Q := W_go f268_1591 rfl
theorem f268_1593 : fetch 268 1593 = some (.iconst 1, 1, [], .null) := by decide +kernel
theorem w268_1593 : Wp d 268 1593 [l0, l1, l2, l3, l4, l5, l6, l7, l8] st h Q = Wp d 268 1594 [l0, l1, l2, l3, l4, l5, l6, l7, l8] (.int (1 : Int32) :: st) h Q := W_go f268_1593 rfl
theorem f268_1594 : fetch 268 1594 = some (.iadd, 1, [], .null) := by decide +kernel
theorem w268_1594 : Wp d 268 1594 [l0, l1, l2, l3, l4, l5, l6, l7, l8] (.int y :: .int x :: st) h Q = Wp d 268 1595 [l0, l1, l2, l3, l4, l5, l6, l7, l8] (.int (x + y) :: st) h Q := W_go f268_1594 rfl
theorem f268_1595 : fetch 268 1595 = some (.iaload, 1, [], .null) := by decide +kernel
theorem w268_1595 : Wp d 268 1595 [l0, l1, l2, l3, l4, l5, l6, l7, l8] (.int x :: .ref a :: st) h Q = aP false (h.2 a) x (fun w => Wp d 268 1596 [l0, l1, l2, l3, l4, l5, l6, l7, l8] (.int w :: st) h Q) := W_ald f268_1595 rfl
theorem f268_1596 : fetch 268 1596 = some (.aload_n 3, 1, [], .null) := by decide +kernel
theorem w268_1596 : Wp d 268 1596 [l0, l1, l2, some (.ref a), l4, l5, l6, l7, l8] st h Q = Wp d 268 1597 [l0, l1, l2, some (.ref a), l4, l5, l6, l7, l8] (.ref a :: st) h Q := W_go f268_1596 rfl
theorem f268_1597 : fetch 268 1597 = some (.invokestatic 224, 3, [260, 3, 0, 0, 5087, 1000, 5089, 5088], .null) := by decide +kernel
theorem w268_1597 (hp : psum st ≤ 8) : Wp d 268 1597 [l0, l1, l2, l3, l4, l5, l6, l7, l8] (v2 :: v1 :: v0 :: st) h Q = Cp d 260 [v0, v1, v2] h (fun o => cK o (fun w h2 => Wp d 268 1600 [l0, l1, l2, l3, l4, l5, l6, l7, l8] (w.toList ++ st) h2 Q) (fun _ _ => False)) := (W_invS (st := st) f268_1597 rfl rfl (by simp only [List.length_cons]; omega) rfl rfl hp)
theorem f268_1600 : fetch 268 1600 = some (.istore 5, 2, [], .null) := by decide +kernel
theorem w268_1600 : Wp d 268 1600 [l0, l1, l2, l3, l4, l5, l6, l7, l8] (.int x :: st) h Q = Wp d 268 1602 [l0, l1, l2, l3, kl l4, some (.int x), l6, l7, l8] st h Q := (W_st1 (pc' := 1602) (k := 5) f268_1600 rfl rfl (by simp only [List.length_cons, List.length_nil]; omega)).trans (by rw [pst1_succ]; rfl)
theorem f268_1602 : fetch 268 1602 = some (.aload_n 2, 1, [], .null) := by decide +kernel
theorem w268_1602 : Wp d 268 1602 [l0, l1, some (.ref a), l3, l4, l5, l6, l7, l8] st h Q = Wp d 268 1603 [l0, l1, some (.ref a), l3, l4, l5, l6, l7, l8] (.ref a :: st) h Q := W_go f268_1602 rfl
theorem f268_1603 : fetch 268 1603 = some (.aload_n 0, 1, [], .null) := by decide +kernel
theorem w268_1603 : Wp d 268 1603 [some (.ref a), l1, l2, l3, l4, l5, l6, l7, l8] st h Q = Wp d 268 1604 [some (.ref a), l1, l2, l3, l4, l5, l6, l7, l8] (.ref a :: st) h Q := W_go f268_1603 rfl
theorem f268_1604 : fetch 268 1604 = some (.iload 4, 2, [], .null) := by decide +kernel
theorem w268_1604 : Wp d 268 1604 [l0, l1, l2, l3, some (.int x), l5, l6, l7, l8] st h Q = Wp d 268 1606 [l0, l1, l2, l3, some (.int x), l5, l6, l7, l8] (.int x :: st) h Q := W_go f268_1604 rfl
theorem f268_1606 : fetch 268 1606 = some (.iconst 1, 1, [], .null) := by decide +kernel
theorem w268_1606 : Wp d 268 1606 [l0, l1, l2, l3, l4, l5, l6, l7, l8] st h Q = Wp d 268 1607 [l0, l1, l2, l3, l4, l5, l6, l7, l8] (.int (1 : Int32) :: st) h Q := W_go f268_1606 rfl
theorem f268_1607 : fetch 268 1607 = some (.iadd, 1, [], .null) := by decide +kernel
theorem w268_1607 : Wp d 268 1607 [l0, l1, l2, l3, l4, l5, l6, l7, l8] (.int y :: .int x :: st) h Q = Wp d 268 1608 [l0, l1, l2, l3, l4, l5, l6, l7, l8] (.int (x + y) :: st) h Q := W_go f268_1607 rfl
theorem f268_1608 : fetch 268 1608 = some (.iaload, 1, [], .null) := by decide +kernel
theorem w268_1608 : Wp d 268 1608 [l0, l1, l2, l3, l4, l5, l6, l7, l8] (.int x :: .ref a :: st) h Q = aP false (h.2 a) x (fun w => Wp d 268 1609 [l0, l1, l2, l3, l4, l5, l6, l7, l8] (.int w :: st) h Q) := W_ald f268_1608 rfl
theorem f268_1609 : fetch 268 1609 = some (.invokevirtual 226, 3, [214, 2, 11, 0, 8065, 1013, 8068, 8066, 8067], .null) := by decide +kernel
theorem w268_1609 (hp : psum st ≤ 8) : Wp d 268 1609 [l0, l1, l2, l3, l4, l5, l6, l7, l8] (v1 :: (.ref b) :: st) h Q = rP (h.2 b) 10 (Cp d 214 [(.ref b), v1] h (fun o => cK o (fun w h2 => Wp d 268 1612 [l0, l1, l2, l3, l4, l5, l6, l7, l8] (w.toList ++ st) h2 Q) (fun E h2 => Q (.inr E, h2)))) := (W_invV (st := st) f268_1609 rfl rfl (by simp only [List.length_cons]; omega) rfl rfl hp).trans (by simp only [hm268, if_true])
theorem f268_1612 : fetch 268 1612 = some (.istore 6, 2, [], .null) := by decide +kernel
theorem w268_1612 : Wp d 268 1612 [l0, l1, l2, l3, l4, l5, l6, l7, l8] (.int x :: st) h Q = Wp d 268 1614 [l0, l1, l2, l3, l4, kl l5, some (.int x), l7, l8] st h Q := (W_st1 (pc' := 1614) (k := 6) f268_1612 rfl rfl (by simp only [List.length_cons, List.length_nil]; omega)).trans (by rw [pst1_succ]; rfl)
theorem f268_1614 : fetch 268 1614 = some (.aload_n 2, 1, [], .null) := by decide +kernel
theorem w268_1614 : Wp d 268 1614 [l0, l1, some (.ref a), l3, l4, l5, l6, l7, l8] st h Q = Wp d 268 1615 [l0, l1, some (.ref a), l3, l4, l5, l6, l7, l8] (.ref a :: st) h Q := W_go f268_1614 rfl
theorem f268_1615 : fetch 268 1615 = some (.invokevirtual 110, 3, [145, 1, 11, 0, 6183, 1013, 6186, 6184, 6185], .null) := by decide +kernel
theorem w268_1615 (hp : psum st ≤ 8) : Wp d 268 1615 [l0, l1, l2, l3, l4, l5, l6, l7, l8] ((.ref b) :: st) h Q = rP (h.2 b) 10 (Cp d 145 [(.ref b)] h (fun o => cK o (fun w h2 => Wp d 268 1618 [l0, l1, l2, l3, l4, l5, l6, l7, l8] (w.toList ++ st) h2 Q) (fun E h2 => Q (.inr E, h2)))) := (W_invV (st := st) f268_1615 rfl rfl (by simp only [List.length_cons]; omega) rfl rfl hp).trans (by simp only [hm268, if_true])
theorem f268_1618 : fetch 268 1618 = some (.iload 5, 2, [], .null) := by decide +kernel
theorem w268_1618 : Wp d 268 1618 [l0, l1, l2, l3, l4, some (.int x), l6, l7, l8] st h Q = Wp d 268 1620 [l0, l1, l2, l3, l4, some (.int x), l6, l7, l8] (.int x :: st) h Q := W_go f268_1618 rfl
theorem f268_1620 : fetch 268 1620 = some (.if_icmp .eq 5, 3, [], .null) := by decide +kernel
theorem w268_1620 : Wp d 268 1620 [l0, l1, l2, l3, l4, l5, l6, l7, l8] (.int y :: .int x :: st) h Q = if icond .eq x y = true then Wp d 268 1625 [l0, l1, l2, l3, l4, l5, l6, l7, l8] st h Q else Wp d 268 1623 [l0, l1, l2, l3, l4, l5, l6, l7, l8] st h Q := W_if f268_1620 rfl
theorem f268_1623 : fetch 268 1623 = some (.iconst 0, 1, [], .null) := by decide +kernel
theorem w268_1623 : Wp d 268 1623 [l0, l1, l2, l3, l4, l5, l6, l7, l8] st h Q = Wp d 268 1624 [l0, l1, l2, l3, l4, l5, l6, l7, l8] (.int (0 : Int32) :: st) h Q := W_go f268_1623 rfl
theorem f268_1624 : fetch 268 1624 = some (.ireturn, 1, [], .null) := by decide +kernel
theorem w268_1624 : Wp d 268 1624 [l0, l1, l2, l3, l4, l5, l6, l7, l8] [.int x] h Q = (if narrow .boolean (.int x) = .int x then Q (.inl (some (.int x)), h) else False) := W_zret f268_1624 hr268
theorem f268_1625 : fetch 268 1625 = some (.iload 5, 2, [], .null) := by decide +kernel
theorem w268_1625 : Wp d 268 1625 [l0, l1, l2, l3, l4, some (.int x), l6, l7, l8] st h Q = Wp d 268 1627 [l0, l1, l2, l3, l4, some (.int x), l6, l7, l8] (.int x :: st) h Q := W_go f268_1625 rfl
theorem f268_1627 : fetch 268 1627 = some (.ifCond .ne 15, 3, [], .null) := by decide +kernel
theorem w268_1627 : Wp d 268 1627 [l0, l1, l2, l3, l4, l5, l6, l7, l8] (.int x :: st) h Q = if icond .ne x 0 = true then Wp d 268 1642 [l0, l1, l2, l3, l4, l5, l6, l7, l8] st h Q else Wp d 268 1630 [l0, l1, l2, l3, l4, l5, l6, l7, l8] st h Q := W_if f268_1627 rfl
theorem f268_1630 : fetch 268 1630 = some (.aload_n 3, 1, [], .null) := by decide +kernel
theorem w268_1630 : Wp d 268 1630 [l0, l1, l2, some (.ref a), l4, l5, l6, l7, l8] st h Q = Wp d 268 1631 [l0, l1, l2, some (.ref a), l4, l5, l6, l7, l8] (.ref a :: st) h Q := W_go f268_1630 rfl
theorem f268_1631 : fetch 268 1631 = some (.iconst 0, 1, [], .null) := by decide +kernel
theorem w268_1631 : Wp d 268 1631 [l0, l1, l2, l3, l4, l5, l6, l7, l8] st h Q = Wp d 268 1632 [l0, l1, l2, l3, l4, l5, l6, l7, l8] (.int (0 : Int32) :: st) h Q := W_go f268_1631 rfl
theorem f268_1632 : fetch 268 1632 = some (.laload, 1, [], .null) := by decide +kernel
theorem w268_1632 : Wp d 268 1632 [l0, l1, l2, l3, l4, l5, l6, l7, l8] (.int x :: .ref a :: st) h Q = lP (h.2 a) x (fun w => Wp d 268 1633 [l0, l1, l2, l3, l4, l5, l6, l7, l8] (.long w :: st) h Q) := W_lld f268_1632 rfl
theorem f268_1633 : fetch 268 1633 = some (.iload 6, 2, [], .null) := by decide +kernel
theorem w268_1633 : Wp d 268 1633 [l0, l1, l2, l3, l4, l5, some (.int x), l7, l8] st h Q = Wp d 268 1635 [l0, l1, l2, l3, l4, l5, some (.int x), l7, l8] (.int x :: st) h Q := W_go f268_1633 rfl
theorem f268_1635 : fetch 268 1635 = some (.i2l, 1, [], .null) := by decide +kernel
theorem w268_1635 : Wp d 268 1635 [l0, l1, l2, l3, l4, l5, l6, l7, l8] (.int x :: st) h Q = Wp d 268 1636 [l0, l1, l2, l3, l4, l5, l6, l7, l8] (.long x.toInt64 :: st) h Q := W_go f268_1635 rfl
theorem f268_1636 : fetch 268 1636 = some (.lcmp, 1, [], .null) := by decide +kernel
theorem w268_1636 : Wp d 268 1636 [l0, l1, l2, l3, l4, l5, l6, l7, l8] (.long y8 :: .long x8 :: st) h Q = Wp d 268 1637 [l0, l1, l2, l3, l4, l5, l6, l7, l8] (.int (lg_cmp x8 y8) :: st) h Q := W_go f268_1636 rfl
theorem f268_1637 : fetch 268 1637 = some (.ifCond .eq 5, 3, [], .null) := by decide +kernel
theorem w268_1637 : Wp d 268 1637 [l0, l1, l2, l3, l4, l5, l6, l7, l8] (.int x :: st) h Q = if icond .eq x 0 = true then Wp d 268 1642 [l0, l1, l2, l3, l4, l5, l6, l7, l8] st h Q else Wp d 268 1640 [l0, l1, l2, l3, l4, l5, l6, l7, l8] st h Q := W_if f268_1637 rfl
theorem f268_1640 : fetch 268 1640 = some (.iconst 0, 1, [], .null) := by decide +kernel
theorem w268_1640 : Wp d 268 1640 [l0, l1, l2, l3, l4, l5, l6, l7, l8] st h Q = Wp d 268 1641 [l0, l1, l2, l3, l4, l5, l6, l7, l8] (.int (0 : Int32) :: st) h Q := W_go f268_1640 rfl
theorem f268_1641 : fetch 268 1641 = some (.ireturn, 1, [], .null) := by decide +kernel
theorem w268_1641 : Wp d 268 1641 [l0, l1, l2, l3, l4, l5, l6, l7, l8] [.int x] h Q = (if narrow .boolean (.int x) = .int x then Q (.inl (some (.int x)), h) else False) := W_zret f268_1641 hr268
theorem f268_1642 : fetch 268 1642 = some (.goto 494, 3, [], .null) := by decide +kernel
theorem w268_1642 : Wp d 268 1642 [l0, l1, l2, l3, l4, l5, l6, l7, l8] st h Q = Wp d 268 2136 [l0, l1, l2, l3, l4, l5, l6, l7, l8] st h Q := W_go f268_1642 rfl
theorem f268_1645 : fetch 268 1645 = some (.aload_n 1, 1, [], .null) := by decide +kernel
theorem w268_1645 : Wp d 268 1645 [l0, some (.ref a), l2, l3, l4, l5, l6, l7, l8] st h Q = Wp d 268 1646 [l0, some (.ref a), l2, l3, l4, l5, l6, l7, l8] (.ref a :: st) h Q := W_go f268_1645 rfl
theorem f268_1646 : fetch 268 1646 = some (.aload_n 0, 1, [], .null) := by decide +kernel
theorem w268_1646 : Wp d 268 1646 [some (.ref a), l1, l2, l3, l4, l5, l6, l7, l8] st h Q = Wp d 268 1647 [some (.ref a), l1, l2, l3, l4, l5, l6, l7, l8] (.ref a :: st) h Q := W_go f268_1646 rfl
theorem f268_1647 : fetch 268 1647 = some (.iload 4, 2, [], .null) := by decide +kernel
theorem w268_1647 : Wp d 268 1647 [l0, l1, l2, l3, some (.int x), l5, l6, l7, l8] st h Q = Wp d 268 1649 [l0, l1, l2, l3, some (.int x), l5, l6, l7, l8] (.int x :: st) h Q := W_go f268_1647 rfl
theorem f268_1649 : fetch 268 1649 = some (.iconst 1, 1, [], .null) := by decide +kernel
theorem w268_1649 : Wp d 268 1649 [l0, l1, l2, l3, l4, l5, l6, l7, l8] st h Q = Wp d 268 1650 [l0, l1, l2, l3, l4, l5, l6, l7, l8] (.int (1 : Int32) :: st) h Q := W_go f268_1649 rfl
theorem f268_1650 : fetch 268 1650 = some (.iadd, 1, [], .null) := by decide +kernel
theorem w268_1650 : Wp d 268 1650 [l0, l1, l2, l3, l4, l5, l6, l7, l8] (.int y :: .int x :: st) h Q = Wp d 268 1651 [l0, l1, l2, l3, l4, l5, l6, l7, l8] (.int (x + y) :: st) h Q := W_go f268_1650 rfl
theorem f268_1651 : fetch 268 1651 = some (.iaload, 1, [], .null) := by decide +kernel
theorem w268_1651 : Wp d 268 1651 [l0, l1, l2, l3, l4, l5, l6, l7, l8] (.int x :: .ref a :: st) h Q = aP false (h.2 a) x (fun w => Wp d 268 1652 [l0, l1, l2, l3, l4, l5, l6, l7, l8] (.int w :: st) h Q) := W_ald f268_1651 rfl
theorem f268_1652 : fetch 268 1652 = some (.aload_n 3, 1, [], .null) := by decide +kernel
theorem w268_1652 : Wp d 268 1652 [l0, l1, l2, some (.ref a), l4, l5, l6, l7, l8] st h Q = Wp d 268 1653 [l0, l1, l2, some (.ref a), l4, l5, l6, l7, l8] (.ref a :: st) h Q := W_go f268_1652 rfl
theorem f268_1653 : fetch 268 1653 = some (.invokestatic 227, 3, [261, 3, 0, 0, 5095, 1000, 5097, 5096], .null) := by decide +kernel
theorem w268_1653 (hp : psum st ≤ 8) : Wp d 268 1653 [l0, l1, l2, l3, l4, l5, l6, l7, l8] (v2 :: v1 :: v0 :: st) h Q = Cp d 261 [v0, v1, v2] h (fun o => cK o (fun w h2 => Wp d 268 1656 [l0, l1, l2, l3, l4, l5, l6, l7, l8] (w.toList ++ st) h2 Q) (fun _ _ => False)) := (W_invS (st := st) f268_1653 rfl rfl (by simp only [List.length_cons]; omega) rfl rfl hp)
theorem f268_1656 : fetch 268 1656 = some (.istore 5, 2, [], .null) := by decide +kernel
theorem w268_1656 : Wp d 268 1656 [l0, l1, l2, l3, l4, l5, l6, l7, l8] (.int x :: st) h Q = Wp d 268 1658 [l0, l1, l2, l3, kl l4, some (.int x), l6, l7, l8] st h Q := (W_st1 (pc' := 1658) (k := 5) f268_1656 rfl rfl (by simp only [List.length_cons, List.length_nil]; omega)).trans (by rw [pst1_succ]; rfl)
theorem f268_1658 : fetch 268 1658 = some (.aload_n 2, 1, [], .null) := by decide +kernel
theorem w268_1658 : Wp d 268 1658 [l0, l1, some (.ref a), l3, l4, l5, l6, l7, l8] st h Q = Wp d 268 1659 [l0, l1, some (.ref a), l3, l4, l5, l6, l7, l8] (.ref a :: st) h Q := W_go f268_1658 rfl
theorem f268_1659 : fetch 268 1659 = some (.aload_n 0, 1, [], .null) := by decide +kernel
theorem w268_1659 : Wp d 268 1659 [some (.ref a), l1, l2, l3, l4, l5, l6, l7, l8] st h Q = Wp d 268 1660 [some (.ref a), l1, l2, l3, l4, l5, l6, l7, l8] (.ref a :: st) h Q := W_go f268_1659 rfl
theorem f268_1660 : fetch 268 1660 = some (.iload 4, 2, [], .null) := by decide +kernel
theorem w268_1660 : Wp d 268 1660 [l0, l1, l2, l3, some (.int x), l5, l6, l7, l8] st h Q = Wp d 268 1662 [l0, l1, l2, l3, some (.int x), l5, l6, l7, l8] (.int x :: st) h Q := W_go f268_1660 rfl
theorem f268_1662 : fetch 268 1662 = some (.iconst 1, 1, [], .null) := by decide +kernel
theorem w268_1662 : Wp d 268 1662 [l0, l1, l2, l3, l4, l5, l6, l7, l8] st h Q = Wp d 268 1663 [l0, l1, l2, l3, l4, l5, l6, l7, l8] (.int (1 : Int32) :: st) h Q := W_go f268_1662 rfl
theorem f268_1663 : fetch 268 1663 = some (.iadd, 1, [], .null) := by decide +kernel
theorem w268_1663 : Wp d 268 1663 [l0, l1, l2, l3, l4, l5, l6, l7, l8] (.int y :: .int x :: st) h Q = Wp d 268 1664 [l0, l1, l2, l3, l4, l5, l6, l7, l8] (.int (x + y) :: st) h Q := W_go f268_1663 rfl
theorem f268_1664 : fetch 268 1664 = some (.iaload, 1, [], .null) := by decide +kernel
theorem w268_1664 : Wp d 268 1664 [l0, l1, l2, l3, l4, l5, l6, l7, l8] (.int x :: .ref a :: st) h Q = aP false (h.2 a) x (fun w => Wp d 268 1665 [l0, l1, l2, l3, l4, l5, l6, l7, l8] (.int w :: st) h Q) := W_ald f268_1664 rfl
theorem f268_1665 : fetch 268 1665 = some (.invokevirtual 229, 3, [216, 2, 11, 0, 8069, 1013, 8072, 8070, 8071], .null) := by decide +kernel
theorem w268_1665 (hp : psum st ≤ 8) : Wp d 268 1665 [l0, l1, l2, l3, l4, l5, l6, l7, l8] (v1 :: (.ref b) :: st) h Q = rP (h.2 b) 10 (Cp d 216 [(.ref b), v1] h (fun o => cK o (fun w h2 => Wp d 268 1668 [l0, l1, l2, l3, l4, l5, l6, l7, l8] (w.toList ++ st) h2 Q) (fun E h2 => Q (.inr E, h2)))) := (W_invV (st := st) f268_1665 rfl rfl (by simp only [List.length_cons]; omega) rfl rfl hp).trans (by simp only [hm268, if_true])
theorem f268_1668 : fetch 268 1668 = some (.istore 6, 2, [], .null) := by decide +kernel
theorem w268_1668 : Wp d 268 1668 [l0, l1, l2, l3, l4, l5, l6, l7, l8] (.int x :: st) h Q = Wp d 268 1670 [l0, l1, l2, l3, l4, kl l5, some (.int x), l7, l8] st h Q := (W_st1 (pc' := 1670) (k := 6) f268_1668 rfl rfl (by simp only [List.length_cons, List.length_nil]; omega)).trans (by rw [pst1_succ]; rfl)
theorem f268_1670 : fetch 268 1670 = some (.aload_n 2, 1, [], .null) := by decide +kernel
theorem w268_1670 : Wp d 268 1670 [l0, l1, some (.ref a), l3, l4, l5, l6, l7, l8] st h Q = Wp d 268 1671 [l0, l1, some (.ref a), l3, l4, l5, l6, l7, l8] (.ref a :: st) h Q := W_go f268_1670 rfl
theorem f268_1671 : fetch 268 1671 = some (.invokevirtual 110, 3, [145, 1, 11, 0, 6183, 1013, 6186, 6184, 6185], .null) := by decide +kernel
theorem w268_1671 (hp : psum st ≤ 8) : Wp d 268 1671 [l0, l1, l2, l3, l4, l5, l6, l7, l8] ((.ref b) :: st) h Q = rP (h.2 b) 10 (Cp d 145 [(.ref b)] h (fun o => cK o (fun w h2 => Wp d 268 1674 [l0, l1, l2, l3, l4, l5, l6, l7, l8] (w.toList ++ st) h2 Q) (fun E h2 => Q (.inr E, h2)))) := (W_invV (st := st) f268_1671 rfl rfl (by simp only [List.length_cons]; omega) rfl rfl hp).trans (by simp only [hm268, if_true])
theorem f268_1674 : fetch 268 1674 = some (.iload 5, 2, [], .null) := by decide +kernel
theorem w268_1674 : Wp d 268 1674 [l0, l1, l2, l3, l4, some (.int x), l6, l7, l8] st h Q = Wp d 268 1676 [l0, l1, l2, l3, l4, some (.int x), l6, l7, l8] (.int x :: st) h Q := W_go f268_1674 rfl
theorem f268_1676 : fetch 268 1676 = some (.if_icmp .eq 5, 3, [], .null) := by decide +kernel
theorem w268_1676 : Wp d 268 1676 [l0, l1, l2, l3, l4, l5, l6, l7, l8] (.int y :: .int x :: st) h Q = if icond .eq x y = true then Wp d 268 1681 [l0, l1, l2, l3, l4, l5, l6, l7, l8] st h Q else Wp d 268 1679 [l0, l1, l2, l3, l4, l5, l6, l7, l8] st h Q := W_if f268_1676 rfl
theorem f268_1679 : fetch 268 1679 = some (.iconst 0, 1, [], .null) := by decide +kernel
theorem w268_1679 : Wp d 268 1679 [l0, l1, l2, l3, l4, l5, l6, l7, l8] st h Q = Wp d 268 1680 [l0, l1, l2, l3, l4, l5, l6, l7, l8] (.int (0 : Int32) :: st) h Q := W_go f268_1679 rfl
theorem f268_1680 : fetch 268 1680 = some (.ireturn, 1, [], .null) := by decide +kernel
theorem w268_1680 : Wp d 268 1680 [l0, l1, l2, l3, l4, l5, l6, l7, l8] [.int x] h Q = (if narrow .boolean (.int x) = .int x then Q (.inl (some (.int x)), h) else False) := W_zret f268_1680 hr268
theorem f268_1681 : fetch 268 1681 = some (.iload 5, 2, [], .null) := by decide +kernel
theorem w268_1681 : Wp d 268 1681 [l0, l1, l2, l3, l4, some (.int x), l6, l7, l8] st h Q = Wp d 268 1683 [l0, l1, l2, l3, l4, some (.int x), l6, l7, l8] (.int x :: st) h Q := W_go f268_1681 rfl
theorem f268_1683 : fetch 268 1683 = some (.ifCond .ne 22, 3, [], .null) := by decide +kernel
theorem w268_1683 : Wp d 268 1683 [l0, l1, l2, l3, l4, l5, l6, l7, l8] (.int x :: st) h Q = if icond .ne x 0 = true then Wp d 268 1705 [l0, l1, l2, l3, l4, l5, l6, l7, l8] st h Q else Wp d 268 1686 [l0, l1, l2, l3, l4, l5, l6, l7, l8] st h Q := W_if f268_1683 rfl
theorem f268_1686 : fetch 268 1686 = some (.aload_n 3, 1, [], .null) := by decide +kernel
theorem w268_1686 : Wp d 268 1686 [l0, l1, l2, some (.ref a), l4, l5, l6, l7, l8] st h Q = Wp d 268 1687 [l0, l1, l2, some (.ref a), l4, l5, l6, l7, l8] (.ref a :: st) h Q := W_go f268_1686 rfl
theorem f268_1687 : fetch 268 1687 = some (.iconst 0, 1, [], .null) := by decide +kernel
theorem w268_1687 : Wp d 268 1687 [l0, l1, l2, l3, l4, l5, l6, l7, l8] st h Q = Wp d 268 1688 [l0, l1, l2, l3, l4, l5, l6, l7, l8] (.int (0 : Int32) :: st) h Q := W_go f268_1687 rfl
theorem f268_1688 : fetch 268 1688 = some (.laload, 1, [], .null) := by decide +kernel
theorem w268_1688 : Wp d 268 1688 [l0, l1, l2, l3, l4, l5, l6, l7, l8] (.int x :: .ref a :: st) h Q = lP (h.2 a) x (fun w => Wp d 268 1689 [l0, l1, l2, l3, l4, l5, l6, l7, l8] (.long w :: st) h Q) := W_lld f268_1688 rfl
theorem f268_1689 : fetch 268 1689 = some (.iload 6, 2, [], .null) := by decide +kernel
theorem w268_1689 : Wp d 268 1689 [l0, l1, l2, l3, l4, l5, some (.int x), l7, l8] st h Q = Wp d 268 1691 [l0, l1, l2, l3, l4, l5, some (.int x), l7, l8] (.int x :: st) h Q := W_go f268_1689 rfl
theorem f268_1691 : fetch 268 1691 = some (.ifCond .eq 7, 3, [], .null) := by decide +kernel
theorem w268_1691 : Wp d 268 1691 [l0, l1, l2, l3, l4, l5, l6, l7, l8] (.int x :: st) h Q = if icond .eq x 0 = true then Wp d 268 1698 [l0, l1, l2, l3, l4, l5, l6, l7, l8] st h Q else Wp d 268 1694 [l0, l1, l2, l3, l4, l5, l6, l7, l8] st h Q := W_if f268_1691 rfl
theorem f268_1694 : fetch 268 1694 = some (.lconst 1, 1, [], .null) := by decide +kernel
theorem w268_1694 : Wp d 268 1694 [l0, l1, l2, l3, l4, l5, l6, l7, l8] st h Q = Wp d 268 1695 [l0, l1, l2, l3, l4, l5, l6, l7, l8] (.long (1 : Int64) :: st) h Q := W_go f268_1694 rfl
theorem f268_1695 : fetch 268 1695 = some (.goto 4, 3, [], .null) := by decide +kernel
theorem w268_1695 : Wp d 268 1695 [l0, l1, l2, l3, l4, l5, l6, l7, l8] st h Q = Wp d 268 1699 [l0, l1, l2, l3, l4, l5, l6, l7, l8] st h Q := W_go f268_1695 rfl
theorem f268_1698 : fetch 268 1698 = some (.lconst 0, 1, [], .null) := by decide +kernel
theorem w268_1698 : Wp d 268 1698 [l0, l1, l2, l3, l4, l5, l6, l7, l8] st h Q = Wp d 268 1699 [l0, l1, l2, l3, l4, l5, l6, l7, l8] (.long (0 : Int64) :: st) h Q := W_go f268_1698 rfl
theorem f268_1699 : fetch 268 1699 = some (.lcmp, 1, [], .null) := by decide +kernel
theorem w268_1699 : Wp d 268 1699 [l0, l1, l2, l3, l4, l5, l6, l7, l8] (.long y8 :: .long x8 :: st) h Q = Wp d 268 1700 [l0, l1, l2, l3, l4, l5, l6, l7, l8] (.int (lg_cmp x8 y8) :: st) h Q := W_go f268_1699 rfl
theorem f268_1700 : fetch 268 1700 = some (.ifCond .eq 5, 3, [], .null) := by decide +kernel
theorem w268_1700 : Wp d 268 1700 [l0, l1, l2, l3, l4, l5, l6, l7, l8] (.int x :: st) h Q = if icond .eq x 0 = true then Wp d 268 1705 [l0, l1, l2, l3, l4, l5, l6, l7, l8] st h Q else Wp d 268 1703 [l0, l1, l2, l3, l4, l5, l6, l7, l8] st h Q := W_if f268_1700 rfl
theorem f268_1703 : fetch 268 1703 = some (.iconst 0, 1, [], .null) := by decide +kernel
theorem w268_1703 : Wp d 268 1703 [l0, l1, l2, l3, l4, l5, l6, l7, l8] st h Q = Wp d 268 1704 [l0, l1, l2, l3, l4, l5, l6, l7, l8] (.int (0 : Int32) :: st) h Q := W_go f268_1703 rfl
theorem f268_1704 : fetch 268 1704 = some (.ireturn, 1, [], .null) := by decide +kernel
theorem w268_1704 : Wp d 268 1704 [l0, l1, l2, l3, l4, l5, l6, l7, l8] [.int x] h Q = (if narrow .boolean (.int x) = .int x then Q (.inl (some (.int x)), h) else False) := W_zret f268_1704 hr268
theorem f268_1705 : fetch 268 1705 = some (.goto 431, 3, [], .null) := by decide +kernel
theorem w268_1705 : Wp d 268 1705 [l0, l1, l2, l3, l4, l5, l6, l7, l8] st h Q = Wp d 268 2136 [l0, l1, l2, l3, l4, l5, l6, l7, l8] st h Q := W_go f268_1705 rfl
theorem f268_1708 : fetch 268 1708 = some (.aload_n 1, 1, [], .null) := by decide +kernel
theorem w268_1708 : Wp d 268 1708 [l0, some (.ref a), l2, l3, l4, l5, l6, l7, l8] st h Q = Wp d 268 1709 [l0, some (.ref a), l2, l3, l4, l5, l6, l7, l8] (.ref a :: st) h Q := W_go f268_1708 rfl
theorem f268_1709 : fetch 268 1709 = some (.aload_n 0, 1, [], .null) := by decide +kernel
theorem w268_1709 : Wp d 268 1709 [some (.ref a), l1, l2, l3, l4, l5, l6, l7, l8] st h Q = Wp d 268 1710 [some (.ref a), l1, l2, l3, l4, l5, l6, l7, l8] (.ref a :: st) h Q := W_go f268_1709 rfl
theorem f268_1710 : fetch 268 1710 = some (.iload 4, 2, [], .null) := by decide +kernel
theorem w268_1710 : Wp d 268 1710 [l0, l1, l2, l3, some (.int x), l5, l6, l7, l8] st h Q = Wp d 268 1712 [l0, l1, l2, l3, some (.int x), l5, l6, l7, l8] (.int x :: st) h Q := W_go f268_1710 rfl
theorem f268_1712 : fetch 268 1712 = some (.iconst 1, 1, [], .null) := by decide +kernel
theorem w268_1712 : Wp d 268 1712 [l0, l1, l2, l3, l4, l5, l6, l7, l8] st h Q = Wp d 268 1713 [l0, l1, l2, l3, l4, l5, l6, l7, l8] (.int (1 : Int32) :: st) h Q := W_go f268_1712 rfl
theorem f268_1713 : fetch 268 1713 = some (.iadd, 1, [], .null) := by decide +kernel
theorem w268_1713 : Wp d 268 1713 [l0, l1, l2, l3, l4, l5, l6, l7, l8] (.int y :: .int x :: st) h Q = Wp d 268 1714 [l0, l1, l2, l3, l4, l5, l6, l7, l8] (.int (x + y) :: st) h Q := W_go f268_1713 rfl
theorem f268_1714 : fetch 268 1714 = some (.iaload, 1, [], .null) := by decide +kernel
theorem w268_1714 : Wp d 268 1714 [l0, l1, l2, l3, l4, l5, l6, l7, l8] (.int x :: .ref a :: st) h Q = aP false (h.2 a) x (fun w => Wp d 268 1715 [l0, l1, l2, l3, l4, l5, l6, l7, l8] (.int w :: st) h Q) := W_ald f268_1714 rfl
theorem f268_1715 : fetch 268 1715 = some (.aload_n 3, 1, [], .null) := by decide +kernel
theorem w268_1715 : Wp d 268 1715 [l0, l1, l2, some (.ref a), l4, l5, l6, l7, l8] st h Q = Wp d 268 1716 [l0, l1, l2, some (.ref a), l4, l5, l6, l7, l8] (.ref a :: st) h Q := W_go f268_1715 rfl
theorem f268_1716 : fetch 268 1716 = some (.invokestatic 230, 3, [262, 3, 0, 0, 5103, 1000, 5105, 5104], .null) := by decide +kernel
theorem w268_1716 (hp : psum st ≤ 8) : Wp d 268 1716 [l0, l1, l2, l3, l4, l5, l6, l7, l8] (v2 :: v1 :: v0 :: st) h Q = Cp d 262 [v0, v1, v2] h (fun o => cK o (fun w h2 => Wp d 268 1719 [l0, l1, l2, l3, l4, l5, l6, l7, l8] (w.toList ++ st) h2 Q) (fun _ _ => False)) := (W_invS (st := st) f268_1716 rfl rfl (by simp only [List.length_cons]; omega) rfl rfl hp)
theorem f268_1719 : fetch 268 1719 = some (.istore 5, 2, [], .null) := by decide +kernel
theorem w268_1719 : Wp d 268 1719 [l0, l1, l2, l3, l4, l5, l6, l7, l8] (.int x :: st) h Q = Wp d 268 1721 [l0, l1, l2, l3, kl l4, some (.int x), l6, l7, l8] st h Q := (W_st1 (pc' := 1721) (k := 5) f268_1719 rfl rfl (by simp only [List.length_cons, List.length_nil]; omega)).trans (by rw [pst1_succ]; rfl)
theorem f268_1721 : fetch 268 1721 = some (.aload_n 2, 1, [], .null) := by decide +kernel
theorem w268_1721 : Wp d 268 1721 [l0, l1, some (.ref a), l3, l4, l5, l6, l7, l8] st h Q = Wp d 268 1722 [l0, l1, some (.ref a), l3, l4, l5, l6, l7, l8] (.ref a :: st) h Q := W_go f268_1721 rfl
theorem f268_1722 : fetch 268 1722 = some (.aload_n 0, 1, [], .null) := by decide +kernel
theorem w268_1722 : Wp d 268 1722 [some (.ref a), l1, l2, l3, l4, l5, l6, l7, l8] st h Q = Wp d 268 1723 [some (.ref a), l1, l2, l3, l4, l5, l6, l7, l8] (.ref a :: st) h Q := W_go f268_1722 rfl
theorem f268_1723 : fetch 268 1723 = some (.iload 4, 2, [], .null) := by decide +kernel
theorem w268_1723 : Wp d 268 1723 [l0, l1, l2, l3, some (.int x), l5, l6, l7, l8] st h Q = Wp d 268 1725 [l0, l1, l2, l3, some (.int x), l5, l6, l7, l8] (.int x :: st) h Q := W_go f268_1723 rfl
theorem f268_1725 : fetch 268 1725 = some (.iconst 1, 1, [], .null) := by decide +kernel
theorem w268_1725 : Wp d 268 1725 [l0, l1, l2, l3, l4, l5, l6, l7, l8] st h Q = Wp d 268 1726 [l0, l1, l2, l3, l4, l5, l6, l7, l8] (.int (1 : Int32) :: st) h Q := W_go f268_1725 rfl
theorem f268_1726 : fetch 268 1726 = some (.iadd, 1, [], .null) := by decide +kernel
theorem w268_1726 : Wp d 268 1726 [l0, l1, l2, l3, l4, l5, l6, l7, l8] (.int y :: .int x :: st) h Q = Wp d 268 1727 [l0, l1, l2, l3, l4, l5, l6, l7, l8] (.int (x + y) :: st) h Q := W_go f268_1726 rfl
theorem f268_1727 : fetch 268 1727 = some (.iaload, 1, [], .null) := by decide +kernel
theorem w268_1727 : Wp d 268 1727 [l0, l1, l2, l3, l4, l5, l6, l7, l8] (.int x :: .ref a :: st) h Q = aP false (h.2 a) x (fun w => Wp d 268 1728 [l0, l1, l2, l3, l4, l5, l6, l7, l8] (.int w :: st) h Q) := W_ald f268_1727 rfl
theorem f268_1728 : fetch 268 1728 = some (.invokevirtual 232, 3, [217, 2, 11, 0, 8077, 1013, 8080, 8078, 8079], .null) := by decide +kernel
theorem w268_1728 (hp : psum st ≤ 8) : Wp d 268 1728 [l0, l1, l2, l3, l4, l5, l6, l7, l8] (v1 :: (.ref b) :: st) h Q = rP (h.2 b) 10 (Cp d 217 [(.ref b), v1] h (fun o => cK o (fun w h2 => Wp d 268 1731 [l0, l1, l2, l3, l4, l5, l6, l7, l8] (w.toList ++ st) h2 Q) (fun E h2 => Q (.inr E, h2)))) := (W_invV (st := st) f268_1728 rfl rfl (by simp only [List.length_cons]; omega) rfl rfl hp).trans (by simp only [hm268, if_true])
theorem f268_1731 : fetch 268 1731 = some (.istore 6, 2, [], .null) := by decide +kernel
theorem w268_1731 : Wp d 268 1731 [l0, l1, l2, l3, l4, l5, l6, l7, l8] (.int x :: st) h Q = Wp d 268 1733 [l0, l1, l2, l3, l4, kl l5, some (.int x), l7, l8] st h Q := (W_st1 (pc' := 1733) (k := 6) f268_1731 rfl rfl (by simp only [List.length_cons, List.length_nil]; omega)).trans (by rw [pst1_succ]; rfl)
theorem f268_1733 : fetch 268 1733 = some (.aload_n 2, 1, [], .null) := by decide +kernel
theorem w268_1733 : Wp d 268 1733 [l0, l1, some (.ref a), l3, l4, l5, l6, l7, l8] st h Q = Wp d 268 1734 [l0, l1, some (.ref a), l3, l4, l5, l6, l7, l8] (.ref a :: st) h Q := W_go f268_1733 rfl
theorem f268_1734 : fetch 268 1734 = some (.invokevirtual 110, 3, [145, 1, 11, 0, 6183, 1013, 6186, 6184, 6185], .null) := by decide +kernel
theorem w268_1734 (hp : psum st ≤ 8) : Wp d 268 1734 [l0, l1, l2, l3, l4, l5, l6, l7, l8] ((.ref b) :: st) h Q = rP (h.2 b) 10 (Cp d 145 [(.ref b)] h (fun o => cK o (fun w h2 => Wp d 268 1737 [l0, l1, l2, l3, l4, l5, l6, l7, l8] (w.toList ++ st) h2 Q) (fun E h2 => Q (.inr E, h2)))) := (W_invV (st := st) f268_1734 rfl rfl (by simp only [List.length_cons]; omega) rfl rfl hp).trans (by simp only [hm268, if_true])
theorem f268_1737 : fetch 268 1737 = some (.iload 5, 2, [], .null) := by decide +kernel
theorem w268_1737 : Wp d 268 1737 [l0, l1, l2, l3, l4, some (.int x), l6, l7, l8] st h Q = Wp d 268 1739 [l0, l1, l2, l3, l4, some (.int x), l6, l7, l8] (.int x :: st) h Q := W_go f268_1737 rfl
theorem f268_1739 : fetch 268 1739 = some (.if_icmp .eq 5, 3, [], .null) := by decide +kernel
theorem w268_1739 : Wp d 268 1739 [l0, l1, l2, l3, l4, l5, l6, l7, l8] (.int y :: .int x :: st) h Q = if icond .eq x y = true then Wp d 268 1744 [l0, l1, l2, l3, l4, l5, l6, l7, l8] st h Q else Wp d 268 1742 [l0, l1, l2, l3, l4, l5, l6, l7, l8] st h Q := W_if f268_1739 rfl
theorem f268_1742 : fetch 268 1742 = some (.iconst 0, 1, [], .null) := by decide +kernel
theorem w268_1742 : Wp d 268 1742 [l0, l1, l2, l3, l4, l5, l6, l7, l8] st h Q = Wp d 268 1743 [l0, l1, l2, l3, l4, l5, l6, l7, l8] (.int (0 : Int32) :: st) h Q := W_go f268_1742 rfl
theorem f268_1743 : fetch 268 1743 = some (.ireturn, 1, [], .null) := by decide +kernel
theorem w268_1743 : Wp d 268 1743 [l0, l1, l2, l3, l4, l5, l6, l7, l8] [.int x] h Q = (if narrow .boolean (.int x) = .int x then Q (.inl (some (.int x)), h) else False) := W_zret f268_1743 hr268
theorem f268_1744 : fetch 268 1744 = some (.iload 5, 2, [], .null) := by decide +kernel
theorem w268_1744 : Wp d 268 1744 [l0, l1, l2, l3, l4, some (.int x), l6, l7, l8] st h Q = Wp d 268 1746 [l0, l1, l2, l3, l4, some (.int x), l6, l7, l8] (.int x :: st) h Q := W_go f268_1744 rfl
theorem f268_1746 : fetch 268 1746 = some (.ifCond .ne 15, 3, [], .null) := by decide +kernel
theorem w268_1746 : Wp d 268 1746 [l0, l1, l2, l3, l4, l5, l6, l7, l8] (.int x :: st) h Q = if icond .ne x 0 = true then Wp d 268 1761 [l0, l1, l2, l3, l4, l5, l6, l7, l8] st h Q else Wp d 268 1749 [l0, l1, l2, l3, l4, l5, l6, l7, l8] st h Q := W_if f268_1746 rfl
theorem f268_1749 : fetch 268 1749 = some (.aload_n 3, 1, [], .null) := by decide +kernel
theorem w268_1749 : Wp d 268 1749 [l0, l1, l2, some (.ref a), l4, l5, l6, l7, l8] st h Q = Wp d 268 1750 [l0, l1, l2, some (.ref a), l4, l5, l6, l7, l8] (.ref a :: st) h Q := W_go f268_1749 rfl
theorem f268_1750 : fetch 268 1750 = some (.iconst 0, 1, [], .null) := by decide +kernel
theorem w268_1750 : Wp d 268 1750 [l0, l1, l2, l3, l4, l5, l6, l7, l8] st h Q = Wp d 268 1751 [l0, l1, l2, l3, l4, l5, l6, l7, l8] (.int (0 : Int32) :: st) h Q := W_go f268_1750 rfl
theorem f268_1751 : fetch 268 1751 = some (.laload, 1, [], .null) := by decide +kernel
theorem w268_1751 : Wp d 268 1751 [l0, l1, l2, l3, l4, l5, l6, l7, l8] (.int x :: .ref a :: st) h Q = lP (h.2 a) x (fun w => Wp d 268 1752 [l0, l1, l2, l3, l4, l5, l6, l7, l8] (.long w :: st) h Q) := W_lld f268_1751 rfl
theorem f268_1752 : fetch 268 1752 = some (.iload 6, 2, [], .null) := by decide +kernel
theorem w268_1752 : Wp d 268 1752 [l0, l1, l2, l3, l4, l5, some (.int x), l7, l8] st h Q = Wp d 268 1754 [l0, l1, l2, l3, l4, l5, some (.int x), l7, l8] (.int x :: st) h Q := W_go f268_1752 rfl
theorem f268_1754 : fetch 268 1754 = some (.i2l, 1, [], .null) := by decide +kernel
theorem w268_1754 : Wp d 268 1754 [l0, l1, l2, l3, l4, l5, l6, l7, l8] (.int x :: st) h Q = Wp d 268 1755 [l0, l1, l2, l3, l4, l5, l6, l7, l8] (.long x.toInt64 :: st) h Q := W_go f268_1754 rfl
theorem f268_1755 : fetch 268 1755 = some (.lcmp, 1, [], .null) := by decide +kernel
theorem w268_1755 : Wp d 268 1755 [l0, l1, l2, l3, l4, l5, l6, l7, l8] (.long y8 :: .long x8 :: st) h Q = Wp d 268 1756 [l0, l1, l2, l3, l4, l5, l6, l7, l8] (.int (lg_cmp x8 y8) :: st) h Q := W_go f268_1755 rfl
theorem f268_1756 : fetch 268 1756 = some (.ifCond .eq 5, 3, [], .null) := by decide +kernel
theorem w268_1756 : Wp d 268 1756 [l0, l1, l2, l3, l4, l5, l6, l7, l8] (.int x :: st) h Q = if icond .eq x 0 = true then Wp d 268 1761 [l0, l1, l2, l3, l4, l5, l6, l7, l8] st h Q else Wp d 268 1759 [l0, l1, l2, l3, l4, l5, l6, l7, l8] st h Q := W_if f268_1756 rfl
theorem f268_1759 : fetch 268 1759 = some (.iconst 0, 1, [], .null) := by decide +kernel
theorem w268_1759 : Wp d 268 1759 [l0, l1, l2, l3, l4, l5, l6, l7, l8] st h Q = Wp d 268 1760 [l0, l1, l2, l3, l4, l5, l6, l7, l8] (.int (0 : Int32) :: st) h Q := W_go f268_1759 rfl
theorem f268_1760 : fetch 268 1760 = some (.ireturn, 1, [], .null) := by decide +kernel
theorem w268_1760 : Wp d 268 1760 [l0, l1, l2, l3, l4, l5, l6, l7, l8] [.int x] h Q = (if narrow .boolean (.int x) = .int x then Q (.inl (some (.int x)), h) else False) := W_zret f268_1760 hr268
theorem f268_1761 : fetch 268 1761 = some (.goto 375, 3, [], .null) := by decide +kernel
theorem w268_1761 : Wp d 268 1761 [l0, l1, l2, l3, l4, l5, l6, l7, l8] st h Q = Wp d 268 2136 [l0, l1, l2, l3, l4, l5, l6, l7, l8] st h Q := W_go f268_1761 rfl
theorem f268_1764 : fetch 268 1764 = some (.aload_n 1, 1, [], .null) := by decide +kernel
theorem w268_1764 : Wp d 268 1764 [l0, some (.ref a), l2, l3, l4, l5, l6, l7, l8] st h Q = Wp d 268 1765 [l0, some (.ref a), l2, l3, l4, l5, l6, l7, l8] (.ref a :: st) h Q := W_go f268_1764 rfl
theorem f268_1765 : fetch 268 1765 = some (.aload_n 0, 1, [], .null) := by decide +kernel
theorem w268_1765 : Wp d 268 1765 [some (.ref a), l1, l2, l3, l4, l5, l6, l7, l8] st h Q = Wp d 268 1766 [some (.ref a), l1, l2, l3, l4, l5, l6, l7, l8] (.ref a :: st) h Q := W_go f268_1765 rfl
theorem f268_1766 : fetch 268 1766 = some (.iload 4, 2, [], .null) := by decide +kernel
theorem w268_1766 : Wp d 268 1766 [l0, l1, l2, l3, some (.int x), l5, l6, l7, l8] st h Q = Wp d 268 1768 [l0, l1, l2, l3, some (.int x), l5, l6, l7, l8] (.int x :: st) h Q := W_go f268_1766 rfl
theorem f268_1768 : fetch 268 1768 = some (.iconst 1, 1, [], .null) := by decide +kernel
theorem w268_1768 : Wp d 268 1768 [l0, l1, l2, l3, l4, l5, l6, l7, l8] st h Q = Wp d 268 1769 [l0, l1, l2, l3, l4, l5, l6, l7, l8] (.int (1 : Int32) :: st) h Q := W_go f268_1768 rfl
theorem f268_1769 : fetch 268 1769 = some (.iadd, 1, [], .null) := by decide +kernel
theorem w268_1769 : Wp d 268 1769 [l0, l1, l2, l3, l4, l5, l6, l7, l8] (.int y :: .int x :: st) h Q = Wp d 268 1770 [l0, l1, l2, l3, l4, l5, l6, l7, l8] (.int (x + y) :: st) h Q := W_go f268_1769 rfl
theorem f268_1770 : fetch 268 1770 = some (.iaload, 1, [], .null) := by decide +kernel
theorem w268_1770 : Wp d 268 1770 [l0, l1, l2, l3, l4, l5, l6, l7, l8] (.int x :: .ref a :: st) h Q = aP false (h.2 a) x (fun w => Wp d 268 1771 [l0, l1, l2, l3, l4, l5, l6, l7, l8] (.int w :: st) h Q) := W_ald f268_1770 rfl
theorem f268_1771 : fetch 268 1771 = some (.aload_n 3, 1, [], .null) := by decide +kernel
theorem w268_1771 : Wp d 268 1771 [l0, l1, l2, some (.ref a), l4, l5, l6, l7, l8] st h Q = Wp d 268 1772 [l0, l1, l2, some (.ref a), l4, l5, l6, l7, l8] (.ref a :: st) h Q := W_go f268_1771 rfl
theorem f268_1772 : fetch 268 1772 = some (.invokestatic 233, 3, [263, 3, 0, 0, 5110, 1000, 5112, 5111], .null) := by decide +kernel
theorem w268_1772 (hp : psum st ≤ 8) : Wp d 268 1772 [l0, l1, l2, l3, l4, l5, l6, l7, l8] (v2 :: v1 :: v0 :: st) h Q = Cp d 263 [v0, v1, v2] h (fun o => cK o (fun w h2 => Wp d 268 1775 [l0, l1, l2, l3, l4, l5, l6, l7, l8] (w.toList ++ st) h2 Q) (fun _ _ => False)) := (W_invS (st := st) f268_1772 rfl rfl (by simp only [List.length_cons]; omega) rfl rfl hp)
theorem f268_1775 : fetch 268 1775 = some (.istore 5, 2, [], .null) := by decide +kernel
theorem w268_1775 : Wp d 268 1775 [l0, l1, l2, l3, l4, l5, l6, l7, l8] (.int x :: st) h Q = Wp d 268 1777 [l0, l1, l2, l3, kl l4, some (.int x), l6, l7, l8] st h Q := (W_st1 (pc' := 1777) (k := 5) f268_1775 rfl rfl (by simp only [List.length_cons, List.length_nil]; omega)).trans (by rw [pst1_succ]; rfl)
theorem f268_1777 : fetch 268 1777 = some (.aload_n 2, 1, [], .null) := by decide +kernel
theorem w268_1777 : Wp d 268 1777 [l0, l1, some (.ref a), l3, l4, l5, l6, l7, l8] st h Q = Wp d 268 1778 [l0, l1, some (.ref a), l3, l4, l5, l6, l7, l8] (.ref a :: st) h Q := W_go f268_1777 rfl
theorem f268_1778 : fetch 268 1778 = some (.aload_n 0, 1, [], .null) := by decide +kernel
theorem w268_1778 : Wp d 268 1778 [some (.ref a), l1, l2, l3, l4, l5, l6, l7, l8] st h Q = Wp d 268 1779 [some (.ref a), l1, l2, l3, l4, l5, l6, l7, l8] (.ref a :: st) h Q := W_go f268_1778 rfl
theorem f268_1779 : fetch 268 1779 = some (.iload 4, 2, [], .null) := by decide +kernel
theorem w268_1779 : Wp d 268 1779 [l0, l1, l2, l3, some (.int x), l5, l6, l7, l8] st h Q = Wp d 268 1781 [l0, l1, l2, l3, some (.int x), l5, l6, l7, l8] (.int x :: st) h Q := W_go f268_1779 rfl
theorem f268_1781 : fetch 268 1781 = some (.iconst 1, 1, [], .null) := by decide +kernel
theorem w268_1781 : Wp d 268 1781 [l0, l1, l2, l3, l4, l5, l6, l7, l8] st h Q = Wp d 268 1782 [l0, l1, l2, l3, l4, l5, l6, l7, l8] (.int (1 : Int32) :: st) h Q := W_go f268_1781 rfl
theorem f268_1782 : fetch 268 1782 = some (.iadd, 1, [], .null) := by decide +kernel
theorem w268_1782 : Wp d 268 1782 [l0, l1, l2, l3, l4, l5, l6, l7, l8] (.int y :: .int x :: st) h Q = Wp d 268 1783 [l0, l1, l2, l3, l4, l5, l6, l7, l8] (.int (x + y) :: st) h Q := W_go f268_1782 rfl
theorem f268_1783 : fetch 268 1783 = some (.iaload, 1, [], .null) := by decide +kernel
theorem w268_1783 : Wp d 268 1783 [l0, l1, l2, l3, l4, l5, l6, l7, l8] (.int x :: .ref a :: st) h Q = aP false (h.2 a) x (fun w => Wp d 268 1784 [l0, l1, l2, l3, l4, l5, l6, l7, l8] (.int w :: st) h Q) := W_ald f268_1783 rfl
theorem f268_1784 : fetch 268 1784 = some (.invokevirtual 235, 3, [218, 2, 11, 0, 8081, 1013, 8084, 8082, 8083], .null) := by decide +kernel
theorem w268_1784 (hp : psum st ≤ 8) : Wp d 268 1784 [l0, l1, l2, l3, l4, l5, l6, l7, l8] (v1 :: (.ref b) :: st) h Q = rP (h.2 b) 10 (Cp d 218 [(.ref b), v1] h (fun o => cK o (fun w h2 => Wp d 268 1787 [l0, l1, l2, l3, l4, l5, l6, l7, l8] (w.toList ++ st) h2 Q) (fun E h2 => Q (.inr E, h2)))) := (W_invV (st := st) f268_1784 rfl rfl (by simp only [List.length_cons]; omega) rfl rfl hp).trans (by simp only [hm268, if_true])
theorem f268_1787 : fetch 268 1787 = some (.istore 6, 2, [], .null) := by decide +kernel
theorem w268_1787 : Wp d 268 1787 [l0, l1, l2, l3, l4, l5, l6, l7, l8] (.int x :: st) h Q = Wp d 268 1789 [l0, l1, l2, l3, l4, kl l5, some (.int x), l7, l8] st h Q := (W_st1 (pc' := 1789) (k := 6) f268_1787 rfl rfl (by simp only [List.length_cons, List.length_nil]; omega)).trans (by rw [pst1_succ]; rfl)
theorem f268_1789 : fetch 268 1789 = some (.aload_n 2, 1, [], .null) := by decide +kernel
theorem w268_1789 : Wp d 268 1789 [l0, l1, some (.ref a), l3, l4, l5, l6, l7, l8] st h Q = Wp d 268 1790 [l0, l1, some (.ref a), l3, l4, l5, l6, l7, l8] (.ref a :: st) h Q := W_go f268_1789 rfl
theorem f268_1790 : fetch 268 1790 = some (.invokevirtual 110, 3, [145, 1, 11, 0, 6183, 1013, 6186, 6184, 6185], .null) := by decide +kernel
theorem w268_1790 (hp : psum st ≤ 8) : Wp d 268 1790 [l0, l1, l2, l3, l4, l5, l6, l7, l8] ((.ref b) :: st) h Q = rP (h.2 b) 10 (Cp d 145 [(.ref b)] h (fun o => cK o (fun w h2 => Wp d 268 1793 [l0, l1, l2, l3, l4, l5, l6, l7, l8] (w.toList ++ st) h2 Q) (fun E h2 => Q (.inr E, h2)))) := (W_invV (st := st) f268_1790 rfl rfl (by simp only [List.length_cons]; omega) rfl rfl hp).trans (by simp only [hm268, if_true])
theorem f268_1793 : fetch 268 1793 = some (.iload 5, 2, [], .null) := by decide +kernel
theorem w268_1793 : Wp d 268 1793 [l0, l1, l2, l3, l4, some (.int x), l6, l7, l8] st h Q = Wp d 268 1795 [l0, l1, l2, l3, l4, some (.int x), l6, l7, l8] (.int x :: st) h Q := W_go f268_1793 rfl
theorem f268_1795 : fetch 268 1795 = some (.if_icmp .eq 5, 3, [], .null) := by decide +kernel
theorem w268_1795 : Wp d 268 1795 [l0, l1, l2, l3, l4, l5, l6, l7, l8] (.int y :: .int x :: st) h Q = if icond .eq x y = true then Wp d 268 1800 [l0, l1, l2, l3, l4, l5, l6, l7, l8] st h Q else Wp d 268 1798 [l0, l1, l2, l3, l4, l5, l6, l7, l8] st h Q := W_if f268_1795 rfl
theorem f268_1798 : fetch 268 1798 = some (.iconst 0, 1, [], .null) := by decide +kernel
theorem w268_1798 : Wp d 268 1798 [l0, l1, l2, l3, l4, l5, l6, l7, l8] st h Q = Wp d 268 1799 [l0, l1, l2, l3, l4, l5, l6, l7, l8] (.int (0 : Int32) :: st) h Q := W_go f268_1798 rfl
theorem f268_1799 : fetch 268 1799 = some (.ireturn, 1, [], .null) := by decide +kernel
theorem w268_1799 : Wp d 268 1799 [l0, l1, l2, l3, l4, l5, l6, l7, l8] [.int x] h Q = (if narrow .boolean (.int x) = .int x then Q (.inl (some (.int x)), h) else False) := W_zret f268_1799 hr268
theorem f268_1800 : fetch 268 1800 = some (.iload 5, 2, [], .null) := by decide +kernel
theorem w268_1800 : Wp d 268 1800 [l0, l1, l2, l3, l4, some (.int x), l6, l7, l8] st h Q = Wp d 268 1802 [l0, l1, l2, l3, l4, some (.int x), l6, l7, l8] (.int x :: st) h Q := W_go f268_1800 rfl
theorem f268_1802 : fetch 268 1802 = some (.ifCond .ne 15, 3, [], .null) := by decide +kernel
theorem w268_1802 : Wp d 268 1802 [l0, l1, l2, l3, l4, l5, l6, l7, l8] (.int x :: st) h Q = if icond .ne x 0 = true then Wp d 268 1817 [l0, l1, l2, l3, l4, l5, l6, l7, l8] st h Q else Wp d 268 1805 [l0, l1, l2, l3, l4, l5, l6, l7, l8] st h Q := W_if f268_1802 rfl
theorem f268_1805 : fetch 268 1805 = some (.aload_n 3, 1, [], .null) := by decide +kernel
theorem w268_1805 : Wp d 268 1805 [l0, l1, l2, some (.ref a), l4, l5, l6, l7, l8] st h Q = Wp d 268 1806 [l0, l1, l2, some (.ref a), l4, l5, l6, l7, l8] (.ref a :: st) h Q := W_go f268_1805 rfl
theorem f268_1806 : fetch 268 1806 = some (.iconst 0, 1, [], .null) := by decide +kernel
theorem w268_1806 : Wp d 268 1806 [l0, l1, l2, l3, l4, l5, l6, l7, l8] st h Q = Wp d 268 1807 [l0, l1, l2, l3, l4, l5, l6, l7, l8] (.int (0 : Int32) :: st) h Q := W_go f268_1806 rfl
theorem f268_1807 : fetch 268 1807 = some (.laload, 1, [], .null) := by decide +kernel
theorem w268_1807 : Wp d 268 1807 [l0, l1, l2, l3, l4, l5, l6, l7, l8] (.int x :: .ref a :: st) h Q = lP (h.2 a) x (fun w => Wp d 268 1808 [l0, l1, l2, l3, l4, l5, l6, l7, l8] (.long w :: st) h Q) := W_lld f268_1807 rfl
theorem f268_1808 : fetch 268 1808 = some (.iload 6, 2, [], .null) := by decide +kernel
theorem w268_1808 : Wp d 268 1808 [l0, l1, l2, l3, l4, l5, some (.int x), l7, l8] st h Q = Wp d 268 1810 [l0, l1, l2, l3, l4, l5, some (.int x), l7, l8] (.int x :: st) h Q := W_go f268_1808 rfl
theorem f268_1810 : fetch 268 1810 = some (.i2l, 1, [], .null) := by decide +kernel
theorem w268_1810 : Wp d 268 1810 [l0, l1, l2, l3, l4, l5, l6, l7, l8] (.int x :: st) h Q = Wp d 268 1811 [l0, l1, l2, l3, l4, l5, l6, l7, l8] (.long x.toInt64 :: st) h Q := W_go f268_1810 rfl
theorem f268_1811 : fetch 268 1811 = some (.lcmp, 1, [], .null) := by decide +kernel
theorem w268_1811 : Wp d 268 1811 [l0, l1, l2, l3, l4, l5, l6, l7, l8] (.long y8 :: .long x8 :: st) h Q = Wp d 268 1812 [l0, l1, l2, l3, l4, l5, l6, l7, l8] (.int (lg_cmp x8 y8) :: st) h Q := W_go f268_1811 rfl
theorem f268_1812 : fetch 268 1812 = some (.ifCond .eq 5, 3, [], .null) := by decide +kernel
theorem w268_1812 : Wp d 268 1812 [l0, l1, l2, l3, l4, l5, l6, l7, l8] (.int x :: st) h Q = if icond .eq x 0 = true then Wp d 268 1817 [l0, l1, l2, l3, l4, l5, l6, l7, l8] st h Q else Wp d 268 1815 [l0, l1, l2, l3, l4, l5, l6, l7, l8] st h Q := W_if f268_1812 rfl
theorem f268_1815 : fetch 268 1815 = some (.iconst 0, 1, [], .null) := by decide +kernel
theorem w268_1815 : Wp d 268 1815 [l0, l1, l2, l3, l4, l5, l6, l7, l8] st h Q = Wp d 268 1816 [l0, l1, l2, l3, l4, l5, l6, l7, l8] (.int (0 : Int32) :: st) h Q := W_go f268_1815 rfl
theorem f268_1816 : fetch 268 1816 = some (.ireturn, 1, [], .null) := by decide +kernel
theorem w268_1816 : Wp d 268 1816 [l0, l1, l2, l3, l4, l5, l6, l7, l8] [.int x] h Q = (if narrow .boolean (.int x) = .int x then Q (.inl (some (.int x)), h) else False) := W_zret f268_1816 hr268
theorem f268_1817 : fetch 268 1817 = some (.goto 319, 3, [], .null) := by decide +kernel
theorem w268_1817 : Wp d 268 1817 [l0, l1, l2, l3, l4, l5, l6, l7, l8] st h Q = Wp d 268 2136 [l0, l1, l2, l3, l4, l5, l6, l7, l8] st h Q := W_go f268_1817 rfl
theorem f268_1820 : fetch 268 1820 = some (.aload_n 1, 1, [], .null) := by decide +kernel
theorem w268_1820 : Wp d 268 1820 [l0, some (.ref a), l2, l3, l4, l5, l6, l7, l8] st h Q = Wp d 268 1821 [l0, some (.ref a), l2, l3, l4, l5, l6, l7, l8] (.ref a :: st) h Q := W_go f268_1820 rfl
theorem f268_1821 : fetch 268 1821 = some (.aload_n 0, 1, [], .null) := by decide +kernel
theorem w268_1821 : Wp d 268 1821 [some (.ref a), l1, l2, l3, l4, l5, l6, l7, l8] st h Q = Wp d 268 1822 [some (.ref a), l1, l2, l3, l4, l5, l6, l7, l8] (.ref a :: st) h Q := W_go f268_1821 rfl
theorem f268_1822 : fetch 268 1822 = some (.iload 4, 2, [], .null) := by decide +kernel
theorem w268_1822 : Wp d 268 1822 [l0, l1, l2, l3, some (.int x), l5, l6, l7, l8] st h Q = Wp d 268 1824 [l0, l1, l2, l3, some (.int x), l5, l6, l7, l8] (.int x :: st) h Q := W_go f268_1822 rfl
theorem f268_1824 : fetch 268 1824 = some (.iconst 1, 1, [], .null) := by decide +kernel
theorem w268_1824 : Wp d 268 1824 [l0, l1, l2, l3, l4, l5, l6, l7, l8] st h Q = Wp d 268 1825 [l0, l1, l2, l3, l4, l5, l6, l7, l8] (.int (1 : Int32) :: st) h Q := W_go f268_1824 rfl
theorem f268_1825 : fetch 268 1825 = some (.iadd, 1, [], .null) := by decide +kernel
theorem w268_1825 : Wp d 268 1825 [l0, l1, l2, l3, l4, l5, l6, l7, l8] (.int y :: .int x :: st) h Q = Wp d 268 1826 [l0, l1, l2, l3, l4, l5, l6, l7, l8] (.int (x + y) :: st) h Q := W_go f268_1825 rfl
theorem f268_1826 : fetch 268 1826 = some (.iaload, 1, [], .null) := by decide +kernel
theorem w268_1826 : Wp d 268 1826 [l0, l1, l2, l3, l4, l5, l6, l7, l8] (.int x :: .ref a :: st) h Q = aP false (h.2 a) x (fun w => Wp d 268 1827 [l0, l1, l2, l3, l4, l5, l6, l7, l8] (.int w :: st) h Q) := W_ald f268_1826 rfl
theorem f268_1827 : fetch 268 1827 = some (.aload_n 0, 1, [], .null) := by decide +kernel
theorem w268_1827 : Wp d 268 1827 [some (.ref a), l1, l2, l3, l4, l5, l6, l7, l8] st h Q = Wp d 268 1828 [some (.ref a), l1, l2, l3, l4, l5, l6, l7, l8] (.ref a :: st) h Q := W_go f268_1827 rfl
theorem f268_1828 : fetch 268 1828 = some (.iload 4, 2, [], .null) := by decide +kernel
theorem w268_1828 : Wp d 268 1828 [l0, l1, l2, l3, some (.int x), l5, l6, l7, l8] st h Q = Wp d 268 1830 [l0, l1, l2, l3, some (.int x), l5, l6, l7, l8] (.int x :: st) h Q := W_go f268_1828 rfl
theorem f268_1830 : fetch 268 1830 = some (.iconst 2, 1, [], .null) := by decide +kernel
theorem w268_1830 : Wp d 268 1830 [l0, l1, l2, l3, l4, l5, l6, l7, l8] st h Q = Wp d 268 1831 [l0, l1, l2, l3, l4, l5, l6, l7, l8] (.int (2 : Int32) :: st) h Q := W_go f268_1830 rfl
theorem f268_1831 : fetch 268 1831 = some (.iadd, 1, [], .null) := by decide +kernel
theorem w268_1831 : Wp d 268 1831 [l0, l1, l2, l3, l4, l5, l6, l7, l8] (.int y :: .int x :: st) h Q = Wp d 268 1832 [l0, l1, l2, l3, l4, l5, l6, l7, l8] (.int (x + y) :: st) h Q := W_go f268_1831 rfl
theorem f268_1832 : fetch 268 1832 = some (.iaload, 1, [], .null) := by decide +kernel
theorem w268_1832 : Wp d 268 1832 [l0, l1, l2, l3, l4, l5, l6, l7, l8] (.int x :: .ref a :: st) h Q = aP false (h.2 a) x (fun w => Wp d 268 1833 [l0, l1, l2, l3, l4, l5, l6, l7, l8] (.int w :: st) h Q) := W_ald f268_1832 rfl
theorem f268_1833 : fetch 268 1833 = some (.aload_n 3, 1, [], .null) := by decide +kernel
theorem w268_1833 : Wp d 268 1833 [l0, l1, l2, some (.ref a), l4, l5, l6, l7, l8] st h Q = Wp d 268 1834 [l0, l1, l2, some (.ref a), l4, l5, l6, l7, l8] (.ref a :: st) h Q := W_go f268_1833 rfl
theorem f268_1834 : fetch 268 1834 = some (.invokestatic 236, 3, [264, 4, 0, 0, 5117, 1000, 5119, 5118], .null) := by decide +kernel
theorem w268_1834 (hp : psum st ≤ 8) : Wp d 268 1834 [l0, l1, l2, l3, l4, l5, l6, l7, l8] (v3 :: v2 :: v1 :: v0 :: st) h Q = Cp d 264 [v0, v1, v2, v3] h (fun o => cK o (fun w h2 => Wp d 268 1837 [l0, l1, l2, l3, l4, l5, l6, l7, l8] (w.toList ++ st) h2 Q) (fun _ _ => False)) := (W_invS (st := st) f268_1834 rfl rfl (by simp only [List.length_cons]; omega) rfl rfl hp)
theorem f268_1837 : fetch 268 1837 = some (.istore 5, 2, [], .null) := by decide +kernel
theorem w268_1837 : Wp d 268 1837 [l0, l1, l2, l3, l4, l5, l6, l7, l8] (.int x :: st) h Q = Wp d 268 1839 [l0, l1, l2, l3, kl l4, some (.int x), l6, l7, l8] st h Q := (W_st1 (pc' := 1839) (k := 5) f268_1837 rfl rfl (by simp only [List.length_cons, List.length_nil]; omega)).trans (by rw [pst1_succ]; rfl)
theorem f268_1839 : fetch 268 1839 = some (.aload_n 2, 1, [], .null) := by decide +kernel
theorem w268_1839 : Wp d 268 1839 [l0, l1, some (.ref a), l3, l4, l5, l6, l7, l8] st h Q = Wp d 268 1840 [l0, l1, some (.ref a), l3, l4, l5, l6, l7, l8] (.ref a :: st) h Q := W_go f268_1839 rfl
theorem f268_1840 : fetch 268 1840 = some (.aload_n 0, 1, [], .null) := by decide +kernel
theorem w268_1840 : Wp d 268 1840 [some (.ref a), l1, l2, l3, l4, l5, l6, l7, l8] st h Q = Wp d 268 1841 [some (.ref a), l1, l2, l3, l4, l5, l6, l7, l8] (.ref a :: st) h Q := W_go f268_1840 rfl
theorem f268_1841 : fetch 268 1841 = some (.iload 4, 2, [], .null) := by decide +kernel
theorem w268_1841 : Wp d 268 1841 [l0, l1, l2, l3, some (.int x), l5, l6, l7, l8] st h Q = Wp d 268 1843 [l0, l1, l2, l3, some (.int x), l5, l6, l7, l8] (.int x :: st) h Q := W_go f268_1841 rfl
theorem f268_1843 : fetch 268 1843 = some (.iconst 1, 1, [], .null) := by decide +kernel
theorem w268_1843 : Wp d 268 1843 [l0, l1, l2, l3, l4, l5, l6, l7, l8] st h Q = Wp d 268 1844 [l0, l1, l2, l3, l4, l5, l6, l7, l8] (.int (1 : Int32) :: st) h Q := W_go f268_1843 rfl
theorem f268_1844 : fetch 268 1844 = some (.iadd, 1, [], .null) := by decide +kernel
theorem w268_1844 : Wp d 268 1844 [l0, l1, l2, l3, l4, l5, l6, l7, l8] (.int y :: .int x :: st) h Q = Wp d 268 1845 [l0, l1, l2, l3, l4, l5, l6, l7, l8] (.int (x + y) :: st) h Q := W_go f268_1844 rfl
theorem f268_1845 : fetch 268 1845 = some (.iaload, 1, [], .null) := by decide +kernel
theorem w268_1845 : Wp d 268 1845 [l0, l1, l2, l3, l4, l5, l6, l7, l8] (.int x :: .ref a :: st) h Q = aP false (h.2 a) x (fun w => Wp d 268 1846 [l0, l1, l2, l3, l4, l5, l6, l7, l8] (.int w :: st) h Q) := W_ald f268_1845 rfl
theorem f268_1846 : fetch 268 1846 = some (.aload_n 0, 1, [], .null) := by decide +kernel
theorem w268_1846 : Wp d 268 1846 [some (.ref a), l1, l2, l3, l4, l5, l6, l7, l8] st h Q = Wp d 268 1847 [some (.ref a), l1, l2, l3, l4, l5, l6, l7, l8] (.ref a :: st) h Q := W_go f268_1846 rfl
theorem f268_1847 : fetch 268 1847 = some (.iload 4, 2, [], .null) := by decide +kernel
theorem w268_1847 : Wp d 268 1847 [l0, l1, l2, l3, some (.int x), l5, l6, l7, l8] st h Q = Wp d 268 1849 [l0, l1, l2, l3, some (.int x), l5, l6, l7, l8] (.int x :: st) h Q := W_go f268_1847 rfl
theorem f268_1849 : fetch 268 1849 = some (.iconst 2, 1, [], .null) := by decide +kernel
theorem w268_1849 : Wp d 268 1849 [l0, l1, l2, l3, l4, l5, l6, l7, l8] st h Q = Wp d 268 1850 [l0, l1, l2, l3, l4, l5, l6, l7, l8] (.int (2 : Int32) :: st) h Q := W_go f268_1849 rfl
theorem f268_1850 : fetch 268 1850 = some (.iadd, 1, [], .null) := by decide +kernel
theorem w268_1850 : Wp d 268 1850 [l0, l1, l2, l3, l4, l5, l6, l7, l8] (.int y :: .int x :: st) h Q = Wp d 268 1851 [l0, l1, l2, l3, l4, l5, l6, l7, l8] (.int (x + y) :: st) h Q := W_go f268_1850 rfl
theorem f268_1851 : fetch 268 1851 = some (.iaload, 1, [], .null) := by decide +kernel
theorem w268_1851 : Wp d 268 1851 [l0, l1, l2, l3, l4, l5, l6, l7, l8] (.int x :: .ref a :: st) h Q = aP false (h.2 a) x (fun w => Wp d 268 1852 [l0, l1, l2, l3, l4, l5, l6, l7, l8] (.int w :: st) h Q) := W_ald f268_1851 rfl
theorem f268_1852 : fetch 268 1852 = some (.invokevirtual 238, 3, [221, 3, 11, 0, 8085, 1013, 8088, 8086, 8087], .null) := by decide +kernel
theorem w268_1852 (hp : psum st ≤ 8) : Wp d 268 1852 [l0, l1, l2, l3, l4, l5, l6, l7, l8] (v2 :: v1 :: (.ref b) :: st) h Q = rP (h.2 b) 10 (Cp d 221 [(.ref b), v1, v2] h (fun o => cK o (fun w h2 => Wp d 268 1855 [l0, l1, l2, l3, l4, l5, l6, l7, l8] (w.toList ++ st) h2 Q) (fun E h2 => Q (.inr E, h2)))) := (W_invV (st := st) f268_1852 rfl rfl (by simp only [List.length_cons]; omega) rfl rfl hp).trans (by simp only [hm268, if_true])
theorem f268_1855 : fetch 268 1855 = some (.istore 6, 2, [], .null) := by decide +kernel
theorem w268_1855 : Wp d 268 1855 [l0, l1, l2, l3, l4, l5, l6, l7, l8] (.int x :: st) h Q = Wp d 268 1857 [l0, l1, l2, l3, l4, kl l5, some (.int x), l7, l8] st h Q := (W_st1 (pc' := 1857) (k := 6) f268_1855 rfl rfl (by simp only [List.length_cons, List.length_nil]; omega)).trans (by rw [pst1_succ]; rfl)
theorem f268_1857 : fetch 268 1857 = some (.aload_n 2, 1, [], .null) := by decide +kernel
theorem w268_1857 : Wp d 268 1857 [l0, l1, some (.ref a), l3, l4, l5, l6, l7, l8] st h Q = Wp d 268 1858 [l0, l1, some (.ref a), l3, l4, l5, l6, l7, l8] (.ref a :: st) h Q := W_go f268_1857 rfl
theorem f268_1858 : fetch 268 1858 = some (.invokevirtual 110, 3, [145, 1, 11, 0, 6183, 1013, 6186, 6184, 6185], .null) := by decide +kernel
theorem w268_1858 (hp : psum st ≤ 8) : Wp d 268 1858 [l0, l1, l2, l3, l4, l5, l6, l7, l8] ((.ref b) :: st) h Q = rP (h.2 b) 10 (Cp d 145 [(.ref b)] h (fun o => cK o (fun w h2 => Wp d 268 1861 [l0, l1, l2, l3, l4, l5, l6, l7, l8] (w.toList ++ st) h2 Q) (fun E h2 => Q (.inr E, h2)))) := (W_invV (st := st) f268_1858 rfl rfl (by simp only [List.length_cons]; omega) rfl rfl hp).trans (by simp only [hm268, if_true])
theorem f268_1861 : fetch 268 1861 = some (.iload 5, 2, [], .null) := by decide +kernel
theorem w268_1861 : Wp d 268 1861 [l0, l1, l2, l3, l4, some (.int x), l6, l7, l8] st h Q = Wp d 268 1863 [l0, l1, l2, l3, l4, some (.int x), l6, l7, l8] (.int x :: st) h Q := W_go f268_1861 rfl
theorem f268_1863 : fetch 268 1863 = some (.if_icmp .eq 5, 3, [], .null) := by decide +kernel
theorem w268_1863 : Wp d 268 1863 [l0, l1, l2, l3, l4, l5, l6, l7, l8] (.int y :: .int x :: st) h Q = if icond .eq x y = true then Wp d 268 1868 [l0, l1, l2, l3, l4, l5, l6, l7, l8] st h Q else Wp d 268 1866 [l0, l1, l2, l3, l4, l5, l6, l7, l8] st h Q := W_if f268_1863 rfl
theorem f268_1866 : fetch 268 1866 = some (.iconst 0, 1, [], .null) := by decide +kernel
theorem w268_1866 : Wp d 268 1866 [l0, l1, l2, l3, l4, l5, l6, l7, l8] st h Q = Wp d 268 1867 [l0, l1, l2, l3, l4, l5, l6, l7, l8] (.int (0 : Int32) :: st) h Q := W_go f268_1866 rfl
theorem f268_1867 : fetch 268 1867 = some (.ireturn, 1, [], .null) := by decide +kernel
theorem w268_1867 : Wp d 268 1867 [l0, l1, l2, l3, l4, l5, l6, l7, l8] [.int x] h Q = (if narrow .boolean (.int x) = .int x then Q (.inl (some (.int x)), h) else False) := W_zret f268_1867 hr268
theorem f268_1868 : fetch 268 1868 = some (.iload 5, 2, [], .null) := by decide +kernel
theorem w268_1868 : Wp d 268 1868 [l0, l1, l2, l3, l4, some (.int x), l6, l7, l8] st h Q = Wp d 268 1870 [l0, l1, l2, l3, l4, some (.int x), l6, l7, l8] (.int x :: st) h Q := W_go f268_1868 rfl
theorem f268_1870 : fetch 268 1870 = some (.ifCond .ne 15, 3, [], .null) := by decide +kernel
theorem w268_1870 : Wp d 268 1870 [l0, l1, l2, l3, l4, l5, l6, l7, l8] (.int x :: st) h Q = if icond .ne x 0 = true then Wp d 268 1885 [l0, l1, l2, l3, l4, l5, l6, l7, l8] st h Q else Wp d 268 1873 [l0, l1, l2, l3, l4, l5, l6, l7, l8] st h Q := W_if f268_1870 rfl
theorem f268_1873 : fetch 268 1873 = some (.aload_n 3, 1, [], .null) := by decide +kernel
theorem w268_1873 : Wp d 268 1873 [l0, l1, l2, some (.ref a), l4, l5, l6, l7, l8] st h Q = Wp d 268 1874 [l0, l1, l2, some (.ref a), l4, l5, l6, l7, l8] (.ref a :: st) h Q := W_go f268_1873 rfl
theorem f268_1874 : fetch 268 1874 = some (.iconst 0, 1, [], .null) := by decide +kernel
theorem w268_1874 : Wp d 268 1874 [l0, l1, l2, l3, l4, l5, l6, l7, l8] st h Q = Wp d 268 1875 [l0, l1, l2, l3, l4, l5, l6, l7, l8] (.int (0 : Int32) :: st) h Q := W_go f268_1874 rfl
theorem f268_1875 : fetch 268 1875 = some (.laload, 1, [], .null) := by decide +kernel
theorem w268_1875 : Wp d 268 1875 [l0, l1, l2, l3, l4, l5, l6, l7, l8] (.int x :: .ref a :: st) h Q = lP (h.2 a) x (fun w => Wp d 268 1876 [l0, l1, l2, l3, l4, l5, l6, l7, l8] (.long w :: st) h Q) := W_lld f268_1875 rfl
theorem f268_1876 : fetch 268 1876 = some (.iload 6, 2, [], .null) := by decide +kernel
theorem w268_1876 : Wp d 268 1876 [l0, l1, l2, l3, l4, l5, some (.int x), l7, l8] st h Q = Wp d 268 1878 [l0, l1, l2, l3, l4, l5, some (.int x), l7, l8] (.int x :: st) h Q := W_go f268_1876 rfl
theorem f268_1878 : fetch 268 1878 = some (.i2l, 1, [], .null) := by decide +kernel
theorem w268_1878 : Wp d 268 1878 [l0, l1, l2, l3, l4, l5, l6, l7, l8] (.int x :: st) h Q = Wp d 268 1879 [l0, l1, l2, l3, l4, l5, l6, l7, l8] (.long x.toInt64 :: st) h Q := W_go f268_1878 rfl
theorem f268_1879 : fetch 268 1879 = some (.lcmp, 1, [], .null) := by decide +kernel
theorem w268_1879 : Wp d 268 1879 [l0, l1, l2, l3, l4, l5, l6, l7, l8] (.long y8 :: .long x8 :: st) h Q = Wp d 268 1880 [l0, l1, l2, l3, l4, l5, l6, l7, l8] (.int (lg_cmp x8 y8) :: st) h Q := W_go f268_1879 rfl
theorem f268_1880 : fetch 268 1880 = some (.ifCond .eq 5, 3, [], .null) := by decide +kernel
theorem w268_1880 : Wp d 268 1880 [l0, l1, l2, l3, l4, l5, l6, l7, l8] (.int x :: st) h Q = if icond .eq x 0 = true then Wp d 268 1885 [l0, l1, l2, l3, l4, l5, l6, l7, l8] st h Q else Wp d 268 1883 [l0, l1, l2, l3, l4, l5, l6, l7, l8] st h Q := W_if f268_1880 rfl
theorem f268_1883 : fetch 268 1883 = some (.iconst 0, 1, [], .null) := by decide +kernel
theorem w268_1883 : Wp d 268 1883 [l0, l1, l2, l3, l4, l5, l6, l7, l8] st h Q = Wp d 268 1884 [l0, l1, l2, l3, l4, l5, l6, l7, l8] (.int (0 : Int32) :: st) h Q := W_go f268_1883 rfl
theorem f268_1884 : fetch 268 1884 = some (.ireturn, 1, [], .null) := by decide +kernel
theorem w268_1884 : Wp d 268 1884 [l0, l1, l2, l3, l4, l5, l6, l7, l8] [.int x] h Q = (if narrow .boolean (.int x) = .int x then Q (.inl (some (.int x)), h) else False) := W_zret f268_1884 hr268
theorem f268_1885 : fetch 268 1885 = some (.goto 251, 3, [], .null) := by decide +kernel
theorem w268_1885 : Wp d 268 1885 [l0, l1, l2, l3, l4, l5, l6, l7, l8] st h Q = Wp d 268 2136 [l0, l1, l2, l3, l4, l5, l6, l7, l8] st h Q := W_go f268_1885 rfl
theorem f268_1888 : fetch 268 1888 = some (.aload_n 1, 1, [], .null) := by decide +kernel
theorem w268_1888 : Wp d 268 1888 [l0, some (.ref a), l2, l3, l4, l5, l6, l7, l8] st h Q = Wp d 268 1889 [l0, some (.ref a), l2, l3, l4, l5, l6, l7, l8] (.ref a :: st) h Q := W_go f268_1888 rfl
theorem f268_1889 : fetch 268 1889 = some (.aload_n 0, 1, [], .null) := by decide +kernel
theorem w268_1889 : Wp d 268 1889 [some (.ref a), l1, l2, l3, l4, l5, l6, l7, l8] st h Q = Wp d 268 1890 [some (.ref a), l1, l2, l3, l4, l5, l6, l7, l8] (.ref a :: st) h Q := W_go f268_1889 rfl
theorem f268_1890 : fetch 268 1890 = some (.iload 4, 2, [], .null) := by decide +kernel
theorem w268_1890 : Wp d 268 1890 [l0, l1, l2, l3, some (.int x), l5, l6, l7, l8] st h Q = Wp d 268 1892 [l0, l1, l2, l3, some (.int x), l5, l6, l7, l8] (.int x :: st) h Q := W_go f268_1890 rfl
theorem f268_1892 : fetch 268 1892 = some (.iconst 1, 1, [], .null) := by decide +kernel
theorem w268_1892 : Wp d 268 1892 [l0, l1, l2, l3, l4, l5, l6, l7, l8] st h Q = Wp d 268 1893 [l0, l1, l2, l3, l4, l5, l6, l7, l8] (.int (1 : Int32) :: st) h Q := W_go f268_1892 rfl
theorem f268_1893 : fetch 268 1893 = some (.iadd, 1, [], .null) := by decide +kernel
theorem w268_1893 : Wp d 268 1893 [l0, l1, l2, l3, l4, l5, l6, l7, l8] (.int y :: .int x :: st) h Q = Wp d 268 1894 [l0, l1, l2, l3, l4, l5, l6, l7, l8] (.int (x + y) :: st) h Q := W_go f268_1893 rfl
theorem f268_1894 : fetch 268 1894 = some (.iaload, 1, [], .null) := by decide +kernel
theorem w268_1894 : Wp d 268 1894 [l0, l1, l2, l3, l4, l5, l6, l7, l8] (.int x :: .ref a :: st) h Q = aP false (h.2 a) x (fun w => Wp d 268 1895 [l0, l1, l2, l3, l4, l5, l6, l7, l8] (.int w :: st) h Q) := W_ald f268_1894 rfl
theorem f268_1895 : fetch 268 1895 = some (.aload_n 3, 1, [], .null) := by decide +kernel
theorem w268_1895 : Wp d 268 1895 [l0, l1, l2, some (.ref a), l4, l5, l6, l7, l8] st h Q = Wp d 268 1896 [l0, l1, l2, some (.ref a), l4, l5, l6, l7, l8] (.ref a :: st) h Q := W_go f268_1895 rfl
theorem f268_1896 : fetch 268 1896 = some (.invokestatic 239, 3, [265, 3, 0, 0, 5126, 1000, 5128, 5127], .null) := by decide +kernel
theorem w268_1896 (hp : psum st ≤ 8) : Wp d 268 1896 [l0, l1, l2, l3, l4, l5, l6, l7, l8] (v2 :: v1 :: v0 :: st) h Q = Cp d 265 [v0, v1, v2] h (fun o => cK o (fun w h2 => Wp d 268 1899 [l0, l1, l2, l3, l4, l5, l6, l7, l8] (w.toList ++ st) h2 Q) (fun _ _ => False)) := (W_invS (st := st) f268_1896 rfl rfl (by simp only [List.length_cons]; omega) rfl rfl hp)
theorem f268_1899 : fetch 268 1899 = some (.istore 5, 2, [], .null) := by decide +kernel
theorem w268_1899 : Wp d 268 1899 [l0, l1, l2, l3, l4, l5, l6, l7, l8] (.int x :: st) h Q = Wp d 268 1901 [l0, l1, l2, l3, kl l4, some (.int x), l6, l7, l8] st h Q := (W_st1 (pc' := 1901) (k := 5) f268_1899 rfl rfl (by simp only [List.length_cons, List.length_nil]; omega)).trans (by rw [pst1_succ]; rfl)
theorem f268_1901 : fetch 268 1901 = some (.aload_n 2, 1, [], .null) := by decide +kernel
theorem w268_1901 : Wp d 268 1901 [l0, l1, some (.ref a), l3, l4, l5, l6, l7, l8] st h Q = Wp d 268 1902 [l0, l1, some (.ref a), l3, l4, l5, l6, l7, l8] (.ref a :: st) h Q := W_go f268_1901 rfl
theorem f268_1902 : fetch 268 1902 = some (.aload_n 0, 1, [], .null) := by decide +kernel
theorem w268_1902 : Wp d 268 1902 [some (.ref a), l1, l2, l3, l4, l5, l6, l7, l8] st h Q = Wp d 268 1903 [some (.ref a), l1, l2, l3, l4, l5, l6, l7, l8] (.ref a :: st) h Q := W_go f268_1902 rfl
theorem f268_1903 : fetch 268 1903 = some (.iload 4, 2, [], .null) := by decide +kernel
theorem w268_1903 : Wp d 268 1903 [l0, l1, l2, l3, some (.int x), l5, l6, l7, l8] st h Q = Wp d 268 1905 [l0, l1, l2, l3, some (.int x), l5, l6, l7, l8] (.int x :: st) h Q := W_go f268_1903 rfl
theorem f268_1905 : fetch 268 1905 = some (.iconst 1, 1, [], .null) := by decide +kernel
theorem w268_1905 : Wp d 268 1905 [l0, l1, l2, l3, l4, l5, l6, l7, l8] st h Q = Wp d 268 1906 [l0, l1, l2, l3, l4, l5, l6, l7, l8] (.int (1 : Int32) :: st) h Q := W_go f268_1905 rfl
theorem f268_1906 : fetch 268 1906 = some (.iadd, 1, [], .null) := by decide +kernel
theorem w268_1906 : Wp d 268 1906 [l0, l1, l2, l3, l4, l5, l6, l7, l8] (.int y :: .int x :: st) h Q = Wp d 268 1907 [l0, l1, l2, l3, l4, l5, l6, l7, l8] (.int (x + y) :: st) h Q := W_go f268_1906 rfl
theorem f268_1907 : fetch 268 1907 = some (.iaload, 1, [], .null) := by decide +kernel
theorem w268_1907 : Wp d 268 1907 [l0, l1, l2, l3, l4, l5, l6, l7, l8] (.int x :: .ref a :: st) h Q = aP false (h.2 a) x (fun w => Wp d 268 1908 [l0, l1, l2, l3, l4, l5, l6, l7, l8] (.int w :: st) h Q) := W_ald f268_1907 rfl
theorem f268_1908 : fetch 268 1908 = some (.invokevirtual 241, 3, [222, 2, 11, 0, 8097, 1013, 8100, 8098, 8099], .null) := by decide +kernel
theorem w268_1908 (hp : psum st ≤ 8) : Wp d 268 1908 [l0, l1, l2, l3, l4, l5, l6, l7, l8] (v1 :: (.ref b) :: st) h Q = rP (h.2 b) 10 (Cp d 222 [(.ref b), v1] h (fun o => cK o (fun w h2 => Wp d 268 1911 [l0, l1, l2, l3, l4, l5, l6, l7, l8] (w.toList ++ st) h2 Q) (fun E h2 => Q (.inr E, h2)))) := (W_invV (st := st) f268_1908 rfl rfl (by simp only [List.length_cons]; omega) rfl rfl hp).trans (by simp only [hm268, if_true])
theorem f268_1911 : fetch 268 1911 = some (.istore 6, 2, [], .null) := by decide +kernel
theorem w268_1911 : Wp d 268 1911 [l0, l1, l2, l3, l4, l5, l6, l7, l8] (.int x :: st) h Q = Wp d 268 1913 [l0, l1, l2, l3, l4, kl l5, some (.int x), l7, l8] st h Q := (W_st1 (pc' := 1913) (k := 6) f268_1911 rfl rfl (by simp only [List.length_cons, List.length_nil]; omega)).trans (by rw [pst1_succ]; rfl)
theorem f268_1913 : fetch 268 1913 = some (.aload_n 2, 1, [], .null) := by decide +kernel
theorem w268_1913 : Wp d 268 1913 [l0, l1, some (.ref a), l3, l4, l5, l6, l7, l8] st h Q = Wp d 268 1914 [l0, l1, some (.ref a), l3, l4, l5, l6, l7, l8] (.ref a :: st) h Q := W_go f268_1913 rfl
theorem f268_1914 : fetch 268 1914 = some (.invokevirtual 110, 3, [145, 1, 11, 0, 6183, 1013, 6186, 6184, 6185], .null) := by decide +kernel
theorem w268_1914 (hp : psum st ≤ 8) : Wp d 268 1914 [l0, l1, l2, l3, l4, l5, l6, l7, l8] ((.ref b) :: st) h Q = rP (h.2 b) 10 (Cp d 145 [(.ref b)] h (fun o => cK o (fun w h2 => Wp d 268 1917 [l0, l1, l2, l3, l4, l5, l6, l7, l8] (w.toList ++ st) h2 Q) (fun E h2 => Q (.inr E, h2)))) := (W_invV (st := st) f268_1914 rfl rfl (by simp only [List.length_cons]; omega) rfl rfl hp).trans (by simp only [hm268, if_true])
theorem f268_1917 : fetch 268 1917 = some (.iload 5, 2, [], .null) := by decide +kernel
theorem w268_1917 : Wp d 268 1917 [l0, l1, l2, l3, l4, some (.int x), l6, l7, l8] st h Q = Wp d 268 1919 [l0, l1, l2, l3, l4, some (.int x), l6, l7, l8] (.int x :: st) h Q := W_go f268_1917 rfl
theorem f268_1919 : fetch 268 1919 = some (.if_icmp .eq 5, 3, [], .null) := by decide +kernel
theorem w268_1919 : Wp d 268 1919 [l0, l1, l2, l3, l4, l5, l6, l7, l8] (.int y :: .int x :: st) h Q = if icond .eq x y = true then Wp d 268 1924 [l0, l1, l2, l3, l4, l5, l6, l7, l8] st h Q else Wp d 268 1922 [l0, l1, l2, l3, l4, l5, l6, l7, l8] st h Q := W_if f268_1919 rfl
theorem f268_1922 : fetch 268 1922 = some (.iconst 0, 1, [], .null) := by decide +kernel
theorem w268_1922 : Wp d 268 1922 [l0, l1, l2, l3, l4, l5, l6, l7, l8] st h Q = Wp d 268 1923 [l0, l1, l2, l3, l4, l5, l6, l7, l8] (.int (0 : Int32) :: st) h Q := W_go f268_1922 rfl
theorem f268_1923 : fetch 268 1923 = some (.ireturn, 1, [], .null) := by decide +kernel
theorem w268_1923 : Wp d 268 1923 [l0, l1, l2, l3, l4, l5, l6, l7, l8] [.int x] h Q = (if narrow .boolean (.int x) = .int x then Q (.inl (some (.int x)), h) else False) := W_zret f268_1923 hr268
theorem f268_1924 : fetch 268 1924 = some (.iload 5, 2, [], .null) := by decide +kernel
theorem w268_1924 : Wp d 268 1924 [l0, l1, l2, l3, l4, some (.int x), l6, l7, l8] st h Q = Wp d 268 1926 [l0, l1, l2, l3, l4, some (.int x), l6, l7, l8] (.int x :: st) h Q := W_go f268_1924 rfl
theorem f268_1926 : fetch 268 1926 = some (.ifCond .ne 15, 3, [], .null) := by decide +kernel
theorem w268_1926 : Wp d 268 1926 [l0, l1, l2, l3, l4, l5, l6, l7, l8] (.int x :: st) h Q = if icond .ne x 0 = true then Wp d 268 1941 [l0, l1, l2, l3, l4, l5, l6, l7, l8] st h Q else Wp d 268 1929 [l0, l1, l2, l3, l4, l5, l6, l7, l8] st h Q := W_if f268_1926 rfl
theorem f268_1929 : fetch 268 1929 = some (.aload_n 3, 1, [], .null) := by decide +kernel
theorem w268_1929 : Wp d 268 1929 [l0, l1, l2, some (.ref a), l4, l5, l6, l7, l8] st h Q = Wp d 268 1930 [l0, l1, l2, some (.ref a), l4, l5, l6, l7, l8] (.ref a :: st) h Q := W_go f268_1929 rfl
theorem f268_1930 : fetch 268 1930 = some (.iconst 0, 1, [], .null) := by decide +kernel
theorem w268_1930 : Wp d 268 1930 [l0, l1, l2, l3, l4, l5, l6, l7, l8] st h Q = Wp d 268 1931 [l0, l1, l2, l3, l4, l5, l6, l7, l8] (.int (0 : Int32) :: st) h Q := W_go f268_1930 rfl
theorem f268_1931 : fetch 268 1931 = some (.laload, 1, [], .null) := by decide +kernel
theorem w268_1931 : Wp d 268 1931 [l0, l1, l2, l3, l4, l5, l6, l7, l8] (.int x :: .ref a :: st) h Q = lP (h.2 a) x (fun w => Wp d 268 1932 [l0, l1, l2, l3, l4, l5, l6, l7, l8] (.long w :: st) h Q) := W_lld f268_1931 rfl
theorem f268_1932 : fetch 268 1932 = some (.iload 6, 2, [], .null) := by decide +kernel
theorem w268_1932 : Wp d 268 1932 [l0, l1, l2, l3, l4, l5, some (.int x), l7, l8] st h Q = Wp d 268 1934 [l0, l1, l2, l3, l4, l5, some (.int x), l7, l8] (.int x :: st) h Q := W_go f268_1932 rfl
theorem f268_1934 : fetch 268 1934 = some (.i2l, 1, [], .null) := by decide +kernel
theorem w268_1934 : Wp d 268 1934 [l0, l1, l2, l3, l4, l5, l6, l7, l8] (.int x :: st) h Q = Wp d 268 1935 [l0, l1, l2, l3, l4, l5, l6, l7, l8] (.long x.toInt64 :: st) h Q := W_go f268_1934 rfl
theorem f268_1935 : fetch 268 1935 = some (.lcmp, 1, [], .null) := by decide +kernel
theorem w268_1935 : Wp d 268 1935 [l0, l1, l2, l3, l4, l5, l6, l7, l8] (.long y8 :: .long x8 :: st) h Q = Wp d 268 1936 [l0, l1, l2, l3, l4, l5, l6, l7, l8] (.int (lg_cmp x8 y8) :: st) h Q := W_go f268_1935 rfl
theorem f268_1936 : fetch 268 1936 = some (.ifCond .eq 5, 3, [], .null) := by decide +kernel
theorem w268_1936 : Wp d 268 1936 [l0, l1, l2, l3, l4, l5, l6, l7, l8] (.int x :: st) h Q = if icond .eq x 0 = true then Wp d 268 1941 [l0, l1, l2, l3, l4, l5, l6, l7, l8] st h Q else Wp d 268 1939 [l0, l1, l2, l3, l4, l5, l6, l7, l8] st h Q := W_if f268_1936 rfl
theorem f268_1939 : fetch 268 1939 = some (.iconst 0, 1, [], .null) := by decide +kernel
theorem w268_1939 : Wp d 268 1939 [l0, l1, l2, l3, l4, l5, l6, l7, l8] st h Q = Wp d 268 1940 [l0, l1, l2, l3, l4, l5, l6, l7, l8] (.int (0 : Int32) :: st) h Q := W_go f268_1939 rfl
theorem f268_1940 : fetch 268 1940 = some (.ireturn, 1, [], .null) := by decide +kernel
theorem w268_1940 : Wp d 268 1940 [l0, l1, l2, l3, l4, l5, l6, l7, l8] [.int x] h Q = (if narrow .boolean (.int x) = .int x then Q (.inl (some (.int x)), h) else False) := W_zret f268_1940 hr268
theorem f268_1941 : fetch 268 1941 = some (.goto 195, 3, [], .null) := by decide +kernel
theorem w268_1941 : Wp d 268 1941 [l0, l1, l2, l3, l4, l5, l6, l7, l8] st h Q = Wp d 268 2136 [l0, l1, l2, l3, l4, l5, l6, l7, l8] st h Q := W_go f268_1941 rfl
theorem f268_1944 : fetch 268 1944 = some (.aload_n 1, 1, [], .null) := by decide +kernel
theorem w268_1944 : Wp d 268 1944 [l0, some (.ref a), l2, l3, l4, l5, l6, l7, l8] st h Q = Wp d 268 1945 [l0, some (.ref a), l2, l3, l4, l5, l6, l7, l8] (.ref a :: st) h Q := W_go f268_1944 rfl
theorem f268_1945 : fetch 268 1945 = some (.aload_n 0, 1, [], .null) := by decide +kernel
theorem w268_1945 : Wp d 268 1945 [some (.ref a), l1, l2, l3, l4, l5, l6, l7, l8] st h Q = Wp d 268 1946 [some (.ref a), l1, l2, l3, l4, l5, l6, l7, l8] (.ref a :: st) h Q := W_go f268_1945 rfl
theorem f268_1946 : fetch 268 1946 = some (.iload 4, 2, [], .null) := by decide +kernel
theorem w268_1946 : Wp d 268 1946 [l0, l1, l2, l3, some (.int x), l5, l6, l7, l8] st h Q = Wp d 268 1948 [l0, l1, l2, l3, some (.int x), l5, l6, l7, l8] (.int x :: st) h Q := W_go f268_1946 rfl
theorem f268_1948 : fetch 268 1948 = some (.iconst 1, 1, [], .null) := by decide +kernel
theorem w268_1948 : Wp d 268 1948 [l0, l1, l2, l3, l4, l5, l6, l7, l8] st h Q = Wp d 268 1949 [l0, l1, l2, l3, l4, l5, l6, l7, l8] (.int (1 : Int32) :: st) h Q := W_go f268_1948 rfl
theorem f268_1949 : fetch 268 1949 = some (.iadd, 1, [], .null) := by decide +kernel
theorem w268_1949 : Wp d 268 1949 [l0, l1, l2, l3, l4, l5, l6, l7, l8] (.int y :: .int x :: st) h Q = Wp d 268 1950 [l0, l1, l2, l3, l4, l5, l6, l7, l8] (.int (x + y) :: st) h Q := W_go f268_1949 rfl
theorem f268_1950 : fetch 268 1950 = some (.iaload, 1, [], .null) := by decide +kernel
theorem w268_1950 : Wp d 268 1950 [l0, l1, l2, l3, l4, l5, l6, l7, l8] (.int x :: .ref a :: st) h Q = aP false (h.2 a) x (fun w => Wp d 268 1951 [l0, l1, l2, l3, l4, l5, l6, l7, l8] (.int w :: st) h Q) := W_ald f268_1950 rfl
theorem f268_1951 : fetch 268 1951 = some (.aload_n 3, 1, [], .null) := by decide +kernel
theorem w268_1951 : Wp d 268 1951 [l0, l1, l2, some (.ref a), l4, l5, l6, l7, l8] st h Q = Wp d 268 1952 [l0, l1, l2, some (.ref a), l4, l5, l6, l7, l8] (.ref a :: st) h Q := W_go f268_1951 rfl
theorem f268_1952 : fetch 268 1952 = some (.invokestatic 242, 3, [266, 3, 0, 0, 5145, 1000, 5147, 5146], .null) := by decide +kernel
theorem w268_1952 (hp : psum st ≤ 8) : Wp d 268 1952 [l0, l1, l2, l3, l4, l5, l6, l7, l8] (v2 :: v1 :: v0 :: st) h Q = Cp d 266 [v0, v1, v2] h (fun o => cK o (fun w h2 => Wp d 268 1955 [l0, l1, l2, l3, l4, l5, l6, l7, l8] (w.toList ++ st) h2 Q) (fun _ _ => False)) := (W_invS (st := st) f268_1952 rfl rfl (by simp only [List.length_cons]; omega) rfl rfl hp)
theorem f268_1955 : fetch 268 1955 = some (.istore 5, 2, [], .null) := by decide +kernel
theorem w268_1955 : Wp d 268 1955 [l0, l1, l2, l3, l4, l5, l6, l7, l8] (.int x :: st) h Q = Wp d 268 1957 [l0, l1, l2, l3, kl l4, some (.int x), l6, l7, l8] st h Q := (W_st1 (pc' := 1957) (k := 5) f268_1955 rfl rfl (by simp only [List.length_cons, List.length_nil]; omega)).trans (by rw [pst1_succ]; rfl)
theorem f268_1957 : fetch 268 1957 = some (.aload_n 2, 1, [], .null) := by decide +kernel
theorem w268_1957 : Wp d 268 1957 [l0, l1, some (.ref a), l3, l4, l5, l6, l7, l8] st h Q = Wp d 268 1958 [l0, l1, some (.ref a), l3, l4, l5, l6, l7, l8] (.ref a :: st) h Q := W_go f268_1957 rfl
theorem f268_1958 : fetch 268 1958 = some (.aload_n 0, 1, [], .null) := by decide +kernel
theorem w268_1958 : Wp d 268 1958 [some (.ref a), l1, l2, l3, l4, l5, l6, l7, l8] st h Q = Wp d 268 1959 [some (.ref a), l1, l2, l3, l4, l5, l6, l7, l8] (.ref a :: st) h Q := W_go f268_1958 rfl
theorem f268_1959 : fetch 268 1959 = some (.iload 4, 2, [], .null) := by decide +kernel
theorem w268_1959 : Wp d 268 1959 [l0, l1, l2, l3, some (.int x), l5, l6, l7, l8] st h Q = Wp d 268 1961 [l0, l1, l2, l3, some (.int x), l5, l6, l7, l8] (.int x :: st) h Q := W_go f268_1959 rfl
theorem f268_1961 : fetch 268 1961 = some (.iconst 1, 1, [], .null) := by decide +kernel
theorem w268_1961 : Wp d 268 1961 [l0, l1, l2, l3, l4, l5, l6, l7, l8] st h Q = Wp d 268 1962 [l0, l1, l2, l3, l4, l5, l6, l7, l8] (.int (1 : Int32) :: st) h Q := W_go f268_1961 rfl
theorem f268_1962 : fetch 268 1962 = some (.iadd, 1, [], .null) := by decide +kernel
theorem w268_1962 : Wp d 268 1962 [l0, l1, l2, l3, l4, l5, l6, l7, l8] (.int y :: .int x :: st) h Q = Wp d 268 1963 [l0, l1, l2, l3, l4, l5, l6, l7, l8] (.int (x + y) :: st) h Q := W_go f268_1962 rfl
theorem f268_1963 : fetch 268 1963 = some (.iaload, 1, [], .null) := by decide +kernel
theorem w268_1963 : Wp d 268 1963 [l0, l1, l2, l3, l4, l5, l6, l7, l8] (.int x :: .ref a :: st) h Q = aP false (h.2 a) x (fun w => Wp d 268 1964 [l0, l1, l2, l3, l4, l5, l6, l7, l8] (.int w :: st) h Q) := W_ald f268_1963 rfl
theorem f268_1964 : fetch 268 1964 = some (.invokevirtual 244, 3, [223, 2, 11, 0, 8113, 1013, 8116, 8114, 8115], .null) := by decide +kernel
theorem w268_1964 (hp : psum st ≤ 8) : Wp d 268 1964 [l0, l1, l2, l3, l4, l5, l6, l7, l8] (v1 :: (.ref b) :: st) h Q = rP (h.2 b) 10 (Cp d 223 [(.ref b), v1] h (fun o => cK o (fun w h2 => Wp d 268 1967 [l0, l1, l2, l3, l4, l5, l6, l7, l8] (w.toList ++ st) h2 Q) (fun E h2 => Q (.inr E, h2)))) := (W_invV (st := st) f268_1964 rfl rfl (by simp only [List.length_cons]; omega) rfl rfl hp).trans (by simp only [hm268, if_true])
theorem f268_1967 : fetch 268 1967 = some (.istore 6, 2, [], .null) := by decide +kernel
theorem w268_1967 : Wp d 268 1967 [l0, l1, l2, l3, l4, l5, l6, l7, l8] (.int x :: st) h Q = Wp d 268 1969 [l0, l1, l2, l3, l4, kl l5, some (.int x), l7, l8] st h Q := (W_st1 (pc' := 1969) (k := 6) f268_1967 rfl rfl (by simp only [List.length_cons, List.length_nil]; omega)).trans (by rw [pst1_succ]; rfl)
theorem f268_1969 : fetch 268 1969 = some (.aload_n 2, 1, [], .null) := by decide +kernel
theorem w268_1969 : Wp d 268 1969 [l0, l1, some (.ref a), l3, l4, l5, l6, l7, l8] st h Q = Wp d 268 1970 [l0, l1, some (.ref a), l3, l4, l5, l6, l7, l8] (.ref a :: st) h Q := W_go f268_1969 rfl
theorem f268_1970 : fetch 268 1970 = some (.invokevirtual 110, 3, [145, 1, 11, 0, 6183, 1013, 6186, 6184, 6185], .null) := by decide +kernel
theorem w268_1970 (hp : psum st ≤ 8) : Wp d 268 1970 [l0, l1, l2, l3, l4, l5, l6, l7, l8] ((.ref b) :: st) h Q = rP (h.2 b) 10 (Cp d 145 [(.ref b)] h (fun o => cK o (fun w h2 => Wp d 268 1973 [l0, l1, l2, l3, l4, l5, l6, l7, l8] (w.toList ++ st) h2 Q) (fun E h2 => Q (.inr E, h2)))) := (W_invV (st := st) f268_1970 rfl rfl (by simp only [List.length_cons]; omega) rfl rfl hp).trans (by simp only [hm268, if_true])
theorem f268_1973 : fetch 268 1973 = some (.iload 5, 2, [], .null) := by decide +kernel
theorem w268_1973 : Wp d 268 1973 [l0, l1, l2, l3, l4, some (.int x), l6, l7, l8] st h Q = Wp d 268 1975 [l0, l1, l2, l3, l4, some (.int x), l6, l7, l8] (.int x :: st) h Q := W_go f268_1973 rfl
theorem f268_1975 : fetch 268 1975 = some (.if_icmp .eq 5, 3, [], .null) := by decide +kernel
theorem w268_1975 : Wp d 268 1975 [l0, l1, l2, l3, l4, l5, l6, l7, l8] (.int y :: .int x :: st) h Q = if icond .eq x y = true then Wp d 268 1980 [l0, l1, l2, l3, l4, l5, l6, l7, l8] st h Q else Wp d 268 1978 [l0, l1, l2, l3, l4, l5, l6, l7, l8] st h Q := W_if f268_1975 rfl
theorem f268_1978 : fetch 268 1978 = some (.iconst 0, 1, [], .null) := by decide +kernel
theorem w268_1978 : Wp d 268 1978 [l0, l1, l2, l3, l4, l5, l6, l7, l8] st h Q = Wp d 268 1979 [l0, l1, l2, l3, l4, l5, l6, l7, l8] (.int (0 : Int32) :: st) h Q := W_go f268_1978 rfl
theorem f268_1979 : fetch 268 1979 = some (.ireturn, 1, [], .null) := by decide +kernel
theorem w268_1979 : Wp d 268 1979 [l0, l1, l2, l3, l4, l5, l6, l7, l8] [.int x] h Q = (if narrow .boolean (.int x) = .int x then Q (.inl (some (.int x)), h) else False) := W_zret f268_1979 hr268
theorem f268_1980 : fetch 268 1980 = some (.iload 5, 2, [], .null) := by decide +kernel
theorem w268_1980 : Wp d 268 1980 [l0, l1, l2, l3, l4, some (.int x), l6, l7, l8] st h Q = Wp d 268 1982 [l0, l1, l2, l3, l4, some (.int x), l6, l7, l8] (.int x :: st) h Q := W_go f268_1980 rfl
theorem f268_1982 : fetch 268 1982 = some (.ifCond .ne 15, 3, [], .null) := by decide +kernel
theorem w268_1982 : Wp d 268 1982 [l0, l1, l2, l3, l4, l5, l6, l7, l8] (.int x :: st) h Q = if icond .ne x 0 = true then Wp d 268 1997 [l0, l1, l2, l3, l4, l5, l6, l7, l8] st h Q else Wp d 268 1985 [l0, l1, l2, l3, l4, l5, l6, l7, l8] st h Q := W_if f268_1982 rfl
theorem f268_1985 : fetch 268 1985 = some (.aload_n 3, 1, [], .null) := by decide +kernel
theorem w268_1985 : Wp d 268 1985 [l0, l1, l2, some (.ref a), l4, l5, l6, l7, l8] st h Q = Wp d 268 1986 [l0, l1, l2, some (.ref a), l4, l5, l6, l7, l8] (.ref a :: st) h Q := W_go f268_1985 rfl
theorem f268_1986 : fetch 268 1986 = some (.iconst 0, 1, [], .null) := by decide +kernel
theorem w268_1986 : Wp d 268 1986 [l0, l1, l2, l3, l4, l5, l6, l7, l8] st h Q = Wp d 268 1987 [l0, l1, l2, l3, l4, l5, l6, l7, l8] (.int (0 : Int32) :: st) h Q := W_go f268_1986 rfl
theorem f268_1987 : fetch 268 1987 = some (.laload, 1, [], .null) := by decide +kernel
theorem w268_1987 : Wp d 268 1987 [l0, l1, l2, l3, l4, l5, l6, l7, l8] (.int x :: .ref a :: st) h Q = lP (h.2 a) x (fun w => Wp d 268 1988 [l0, l1, l2, l3, l4, l5, l6, l7, l8] (.long w :: st) h Q) := W_lld f268_1987 rfl
theorem f268_1988 : fetch 268 1988 = some (.iload 6, 2, [], .null) := by decide +kernel
theorem w268_1988 : Wp d 268 1988 [l0, l1, l2, l3, l4, l5, some (.int x), l7, l8] st h Q = Wp d 268 1990 [l0, l1, l2, l3, l4, l5, some (.int x), l7, l8] (.int x :: st) h Q := W_go f268_1988 rfl
theorem f268_1990 : fetch 268 1990 = some (.i2l, 1, [], .null) := by decide +kernel
theorem w268_1990 : Wp d 268 1990 [l0, l1, l2, l3, l4, l5, l6, l7, l8] (.int x :: st) h Q = Wp d 268 1991 [l0, l1, l2, l3, l4, l5, l6, l7, l8] (.long x.toInt64 :: st) h Q := W_go f268_1990 rfl
theorem f268_1991 : fetch 268 1991 = some (.lcmp, 1, [], .null) := by decide +kernel
theorem w268_1991 : Wp d 268 1991 [l0, l1, l2, l3, l4, l5, l6, l7, l8] (.long y8 :: .long x8 :: st) h Q = Wp d 268 1992 [l0, l1, l2, l3, l4, l5, l6, l7, l8] (.int (lg_cmp x8 y8) :: st) h Q := W_go f268_1991 rfl
theorem f268_1992 : fetch 268 1992 = some (.ifCond .eq 5, 3, [], .null) := by decide +kernel
theorem w268_1992 : Wp d 268 1992 [l0, l1, l2, l3, l4, l5, l6, l7, l8] (.int x :: st) h Q = if icond .eq x 0 = true then Wp d 268 1997 [l0, l1, l2, l3, l4, l5, l6, l7, l8] st h Q else Wp d 268 1995 [l0, l1, l2, l3, l4, l5, l6, l7, l8] st h Q := W_if f268_1992 rfl
theorem f268_1995 : fetch 268 1995 = some (.iconst 0, 1, [], .null) := by decide +kernel
theorem w268_1995 : Wp d 268 1995 [l0, l1, l2, l3, l4, l5, l6, l7, l8] st h Q = Wp d 268 1996 [l0, l1, l2, l3, l4, l5, l6, l7, l8] (.int (0 : Int32) :: st) h Q := W_go f268_1995 rfl
theorem f268_1996 : fetch 268 1996 = some (.ireturn, 1, [], .null) := by decide +kernel
theorem w268_1996 : Wp d 268 1996 [l0, l1, l2, l3, l4, l5, l6, l7, l8] [.int x] h Q = (if narrow .boolean (.int x) = .int x then Q (.inl (some (.int x)), h) else False) := W_zret f268_1996 hr268
theorem f268_1997 : fetch 268 1997 = some (.goto 139, 3, [], .null) := by decide +kernel
theorem w268_1997 : Wp d 268 1997 [l0, l1, l2, l3, l4, l5, l6, l7, l8] st h Q = Wp d 268 2136 [l0, l1, l2, l3, l4, l5, l6, l7, l8] st h Q := W_go f268_1997 rfl
theorem f268_2000 : fetch 268 2000 = some (.aload_n 1, 1, [], .null) := by decide +kernel
theorem w268_2000 : Wp d 268 2000 [l0, some (.ref a), l2, l3, l4, l5, l6, l7, l8] st h Q = Wp d 268 2001 [l0, some (.ref a), l2, l3, l4, l5, l6, l7, l8] (.ref a :: st) h Q := W_go f268_2000 rfl
theorem f268_2001 : fetch 268 2001 = some (.invokevirtual 245, 3, [108, 1, 8, 0, 3190, 1001, 3193, 3191, 3192], .null) := by decide +kernel
theorem w268_2001 (hp : psum st ≤ 8) : Wp d 268 2001 [l0, l1, l2, l3, l4, l5, l6, l7, l8] ((.ref b) :: st) h Q = rP (h.2 b) 7 (Cp d 108 [(.ref b)] h (fun o => cK o (fun w h2 => Wp d 268 2004 [l0, l1, l2, l3, l4, l5, l6, l7, l8] (w.toList ++ st) h2 Q) (fun E h2 => Q (.inr E, h2)))) := (W_invV (st := st) f268_2001 rfl rfl (by simp only [List.length_cons]; omega) rfl rfl hp).trans (by simp only [hm268, if_true])
theorem f268_2004 : fetch 268 2004 = some (.aload_n 2, 1, [], .null) := by decide +kernel
theorem w268_2004 : Wp d 268 2004 [l0, l1, some (.ref a), l3, l4, l5, l6, l7, l8] st h Q = Wp d 268 2005 [l0, l1, some (.ref a), l3, l4, l5, l6, l7, l8] (.ref a :: st) h Q := W_go f268_2004 rfl
theorem f268_2005 : fetch 268 2005 = some (.invokevirtual 248, 3, [224, 1, 11, 0, 8117, 1013, 8120, 8118, 8119], .null) := by decide +kernel
theorem w268_2005 (hp : psum st ≤ 8) : Wp d 268 2005 [l0, l1, l2, l3, l4, l5, l6, l7, l8] ((.ref b) :: st) h Q = rP (h.2 b) 10 (Cp d 224 [(.ref b)] h (fun o => cK o (fun w h2 => Wp d 268 2008 [l0, l1, l2, l3, l4, l5, l6, l7, l8] (w.toList ++ st) h2 Q) (fun E h2 => Q (.inr E, h2)))) := (W_invV (st := st) f268_2005 rfl rfl (by simp only [List.length_cons]; omega) rfl rfl hp).trans (by simp only [hm268, if_true])
theorem f268_2008 : fetch 268 2008 = some (.if_icmp .eq 128, 3, [], .null) := by decide +kernel
theorem w268_2008 : Wp d 268 2008 [l0, l1, l2, l3, l4, l5, l6, l7, l8] (.int y :: .int x :: st) h Q = if icond .eq x y = true then Wp d 268 2136 [l0, l1, l2, l3, l4, l5, l6, l7, l8] st h Q else Wp d 268 2011 [l0, l1, l2, l3, l4, l5, l6, l7, l8] st h Q := W_if f268_2008 rfl
theorem f268_2011 : fetch 268 2011 = some (.iconst 0, 1, [], .null) := by decide +kernel
theorem w268_2011 : Wp d 268 2011 [l0, l1, l2, l3, l4, l5, l6, l7, l8] st h Q = Wp d 268 2012 [l0, l1, l2, l3, l4, l5, l6, l7, l8] (.int (0 : Int32) :: st) h Q := W_go f268_2011 rfl
theorem f268_2012 : fetch 268 2012 = some (.ireturn, 1, [], .null) := by decide +kernel
theorem w268_2012 : Wp d 268 2012 [l0, l1, l2, l3, l4, l5, l6, l7, l8] [.int x] h Q = (if narrow .boolean (.int x) = .int x then Q (.inl (some (.int x)), h) else False) := W_zret f268_2012 hr268
theorem f268_2013 : fetch 268 2013 = some (.aload_n 1, 1, [], .null) := by decide +kernel
theorem w268_2013 : Wp d 268 2013 [l0, some (.ref a), l2, l3, l4, l5, l6, l7, l8] st h Q = Wp d 268 2014 [l0, some (.ref a), l2, l3, l4, l5, l6, l7, l8] (.ref a :: st) h Q := W_go f268_2013 rfl
theorem f268_2014 : fetch 268 2014 = some (.aload_n 0, 1, [], .null) := by decide +kernel
theorem w268_2014 : Wp d 268 2014 [some (.ref a), l1, l2, l3, l4, l5, l6, l7, l8] st h Q = Wp d 268 2015 [some (.ref a), l1, l2, l3, l4, l5, l6, l7, l8] (.ref a :: st) h Q := W_go f268_2014 rfl
theorem f268_2015 : fetch 268 2015 = some (.iload 4, 2, [], .null) := by decide +kernel
theorem w268_2015 : Wp d 268 2015 [l0, l1, l2, l3, some (.int x), l5, l6, l7, l8] st h Q = Wp d 268 2017 [l0, l1, l2, l3, some (.int x), l5, l6, l7, l8] (.int x :: st) h Q := W_go f268_2015 rfl
theorem f268_2017 : fetch 268 2017 = some (.iconst 1, 1, [], .null) := by decide +kernel
theorem w268_2017 : Wp d 268 2017 [l0, l1, l2, l3, l4, l5, l6, l7, l8] st h Q = Wp d 268 2018 [l0, l1, l2, l3, l4, l5, l6, l7, l8] (.int (1 : Int32) :: st) h Q := W_go f268_2017 rfl
theorem f268_2018 : fetch 268 2018 = some (.iadd, 1, [], .null) := by decide +kernel
theorem w268_2018 : Wp d 268 2018 [l0, l1, l2, l3, l4, l5, l6, l7, l8] (.int y :: .int x :: st) h Q = Wp d 268 2019 [l0, l1, l2, l3, l4, l5, l6, l7, l8] (.int (x + y) :: st) h Q := W_go f268_2018 rfl
theorem f268_2019 : fetch 268 2019 = some (.iaload, 1, [], .null) := by decide +kernel
theorem w268_2019 : Wp d 268 2019 [l0, l1, l2, l3, l4, l5, l6, l7, l8] (.int x :: .ref a :: st) h Q = aP false (h.2 a) x (fun w => Wp d 268 2020 [l0, l1, l2, l3, l4, l5, l6, l7, l8] (.int w :: st) h Q) := W_ald f268_2019 rfl
theorem f268_2020 : fetch 268 2020 = some (.aload_n 0, 1, [], .null) := by decide +kernel
theorem w268_2020 : Wp d 268 2020 [some (.ref a), l1, l2, l3, l4, l5, l6, l7, l8] st h Q = Wp d 268 2021 [some (.ref a), l1, l2, l3, l4, l5, l6, l7, l8] (.ref a :: st) h Q := W_go f268_2020 rfl
theorem f268_2021 : fetch 268 2021 = some (.iload 4, 2, [], .null) := by decide +kernel
theorem w268_2021 : Wp d 268 2021 [l0, l1, l2, l3, some (.int x), l5, l6, l7, l8] st h Q = Wp d 268 2023 [l0, l1, l2, l3, some (.int x), l5, l6, l7, l8] (.int x :: st) h Q := W_go f268_2021 rfl
theorem f268_2023 : fetch 268 2023 = some (.iconst 2, 1, [], .null) := by decide +kernel
theorem w268_2023 : Wp d 268 2023 [l0, l1, l2, l3, l4, l5, l6, l7, l8] st h Q = Wp d 268 2024 [l0, l1, l2, l3, l4, l5, l6, l7, l8] (.int (2 : Int32) :: st) h Q := W_go f268_2023 rfl
theorem f268_2024 : fetch 268 2024 = some (.iadd, 1, [], .null) := by decide +kernel
theorem w268_2024 : Wp d 268 2024 [l0, l1, l2, l3, l4, l5, l6, l7, l8] (.int y :: .int x :: st) h Q = Wp d 268 2025 [l0, l1, l2, l3, l4, l5, l6, l7, l8] (.int (x + y) :: st) h Q := W_go f268_2024 rfl
theorem f268_2025 : fetch 268 2025 = some (.iaload, 1, [], .null) := by decide +kernel
theorem w268_2025 : Wp d 268 2025 [l0, l1, l2, l3, l4, l5, l6, l7, l8] (.int x :: .ref a :: st) h Q = aP false (h.2 a) x (fun w => Wp d 268 2026 [l0, l1, l2, l3, l4, l5, l6, l7, l8] (.int w :: st) h Q) := W_ald f268_2025 rfl
theorem f268_2026 : fetch 268 2026 = some (.aload_n 3, 1, [], .null) := by decide +kernel
theorem w268_2026 : Wp d 268 2026 [l0, l1, l2, some (.ref a), l4, l5, l6, l7, l8] st h Q = Wp d 268 2027 [l0, l1, l2, some (.ref a), l4, l5, l6, l7, l8] (.ref a :: st) h Q := W_go f268_2026 rfl
theorem f268_2027 : fetch 268 2027 = some (.invokestatic 249, 3, [267, 4, 0, 0, 5153, 1000, 5155, 5154], .null) := by decide +kernel
theorem w268_2027 (hp : psum st ≤ 8) : Wp d 268 2027 [l0, l1, l2, l3, l4, l5, l6, l7, l8] (v3 :: v2 :: v1 :: v0 :: st) h Q = Cp d 267 [v0, v1, v2, v3] h (fun o => cK o (fun w h2 => Wp d 268 2030 [l0, l1, l2, l3, l4, l5, l6, l7, l8] (w.toList ++ st) h2 Q) (fun _ _ => False)) := (W_invS (st := st) f268_2027 rfl rfl (by simp only [List.length_cons]; omega) rfl rfl hp)
theorem f268_2030 : fetch 268 2030 = some (.istore 5, 2, [], .null) := by decide +kernel
theorem w268_2030 : Wp d 268 2030 [l0, l1, l2, l3, l4, l5, l6, l7, l8] (.int x :: st) h Q = Wp d 268 2032 [l0, l1, l2, l3, kl l4, some (.int x), l6, l7, l8] st h Q := (W_st1 (pc' := 2032) (k := 5) f268_2030 rfl rfl (by simp only [List.length_cons, List.length_nil]; omega)).trans (by rw [pst1_succ]; rfl)
theorem f268_2032 : fetch 268 2032 = some (.aload_n 2, 1, [], .null) := by decide +kernel
theorem w268_2032 : Wp d 268 2032 [l0, l1, some (.ref a), l3, l4, l5, l6, l7, l8] st h Q = Wp d 268 2033 [l0, l1, some (.ref a), l3, l4, l5, l6, l7, l8] (.ref a :: st) h Q := W_go f268_2032 rfl
theorem f268_2033 : fetch 268 2033 = some (.aload_n 0, 1, [], .null) := by decide +kernel
theorem w268_2033 : Wp d 268 2033 [some (.ref a), l1, l2, l3, l4, l5, l6, l7, l8] st h Q = Wp d 268 2034 [some (.ref a), l1, l2, l3, l4, l5, l6, l7, l8] (.ref a :: st) h Q := W_go f268_2033 rfl
theorem f268_2034 : fetch 268 2034 = some (.iload 4, 2, [], .null) := by decide +kernel
theorem w268_2034 : Wp d 268 2034 [l0, l1, l2, l3, some (.int x), l5, l6, l7, l8] st h Q = Wp d 268 2036 [l0, l1, l2, l3, some (.int x), l5, l6, l7, l8] (.int x :: st) h Q := W_go f268_2034 rfl
theorem f268_2036 : fetch 268 2036 = some (.iconst 1, 1, [], .null) := by decide +kernel
theorem w268_2036 : Wp d 268 2036 [l0, l1, l2, l3, l4, l5, l6, l7, l8] st h Q = Wp d 268 2037 [l0, l1, l2, l3, l4, l5, l6, l7, l8] (.int (1 : Int32) :: st) h Q := W_go f268_2036 rfl
theorem f268_2037 : fetch 268 2037 = some (.iadd, 1, [], .null) := by decide +kernel
theorem w268_2037 : Wp d 268 2037 [l0, l1, l2, l3, l4, l5, l6, l7, l8] (.int y :: .int x :: st) h Q = Wp d 268 2038 [l0, l1, l2, l3, l4, l5, l6, l7, l8] (.int (x + y) :: st) h Q := W_go f268_2037 rfl
theorem f268_2038 : fetch 268 2038 = some (.iaload, 1, [], .null) := by decide +kernel
theorem w268_2038 : Wp d 268 2038 [l0, l1, l2, l3, l4, l5, l6, l7, l8] (.int x :: .ref a :: st) h Q = aP false (h.2 a) x (fun w => Wp d 268 2039 [l0, l1, l2, l3, l4, l5, l6, l7, l8] (.int w :: st) h Q) := W_ald f268_2038 rfl
theorem f268_2039 : fetch 268 2039 = some (.aload_n 0, 1, [], .null) := by decide +kernel
theorem w268_2039 : Wp d 268 2039 [some (.ref a), l1, l2, l3, l4, l5, l6, l7, l8] st h Q = Wp d 268 2040 [some (.ref a), l1, l2, l3, l4, l5, l6, l7, l8] (.ref a :: st) h Q := W_go f268_2039 rfl
theorem f268_2040 : fetch 268 2040 = some (.iload 4, 2, [], .null) := by decide +kernel
theorem w268_2040 : Wp d 268 2040 [l0, l1, l2, l3, some (.int x), l5, l6, l7, l8] st h Q = Wp d 268 2042 [l0, l1, l2, l3, some (.int x), l5, l6, l7, l8] (.int x :: st) h Q := W_go f268_2040 rfl
theorem f268_2042 : fetch 268 2042 = some (.iconst 2, 1, [], .null) := by decide +kernel
theorem w268_2042 : Wp d 268 2042 [l0, l1, l2, l3, l4, l5, l6, l7, l8] st h Q = Wp d 268 2043 [l0, l1, l2, l3, l4, l5, l6, l7, l8] (.int (2 : Int32) :: st) h Q := W_go f268_2042 rfl
theorem f268_2043 : fetch 268 2043 = some (.iadd, 1, [], .null) := by decide +kernel
theorem w268_2043 : Wp d 268 2043 [l0, l1, l2, l3, l4, l5, l6, l7, l8] (.int y :: .int x :: st) h Q = Wp d 268 2044 [l0, l1, l2, l3, l4, l5, l6, l7, l8] (.int (x + y) :: st) h Q := W_go f268_2043 rfl
theorem f268_2044 : fetch 268 2044 = some (.iaload, 1, [], .null) := by decide +kernel
theorem w268_2044 : Wp d 268 2044 [l0, l1, l2, l3, l4, l5, l6, l7, l8] (.int x :: .ref a :: st) h Q = aP false (h.2 a) x (fun w => Wp d 268 2045 [l0, l1, l2, l3, l4, l5, l6, l7, l8] (.int w :: st) h Q) := W_ald f268_2044 rfl
theorem f268_2045 : fetch 268 2045 = some (.invokevirtual 251, 3, [225, 3, 11, 0, 8121, 1013, 8124, 8122, 8123], .null) := by decide +kernel
theorem w268_2045 (hp : psum st ≤ 8) : Wp d 268 2045 [l0, l1, l2, l3, l4, l5, l6, l7, l8] (v2 :: v1 :: (.ref b) :: st) h Q = rP (h.2 b) 10 (Cp d 225 [(.ref b), v1, v2] h (fun o => cK o (fun w h2 => Wp d 268 2048 [l0, l1, l2, l3, l4, l5, l6, l7, l8] (w.toList ++ st) h2 Q) (fun E h2 => Q (.inr E, h2)))) := (W_invV (st := st) f268_2045 rfl rfl (by simp only [List.length_cons]; omega) rfl rfl hp).trans (by simp only [hm268, if_true])
theorem f268_2048 : fetch 268 2048 = some (.istore 6, 2, [], .null) := by decide +kernel
theorem w268_2048 : Wp d 268 2048 [l0, l1, l2, l3, l4, l5, l6, l7, l8] (.int x :: st) h Q = Wp d 268 2050 [l0, l1, l2, l3, l4, kl l5, some (.int x), l7, l8] st h Q := (W_st1 (pc' := 2050) (k := 6) f268_2048 rfl rfl (by simp only [List.length_cons, List.length_nil]; omega)).trans (by rw [pst1_succ]; rfl)
theorem f268_2050 : fetch 268 2050 = some (.aload_n 2, 1, [], .null) := by decide +kernel
theorem w268_2050 : Wp d 268 2050 [l0, l1, some (.ref a), l3, l4, l5, l6, l7, l8] st h Q = Wp d 268 2051 [l0, l1, some (.ref a), l3, l4, l5, l6, l7, l8] (.ref a :: st) h Q := W_go f268_2050 rfl
theorem f268_2051 : fetch 268 2051 = some (.invokevirtual 110, 3, [145, 1, 11, 0, 6183, 1013, 6186, 6184, 6185], .null) := by decide +kernel
theorem w268_2051 (hp : psum st ≤ 8) : Wp d 268 2051 [l0, l1, l2, l3, l4, l5, l6, l7, l8] ((.ref b) :: st) h Q = rP (h.2 b) 10 (Cp d 145 [(.ref b)] h (fun o => cK o (fun w h2 => Wp d 268 2054 [l0, l1, l2, l3, l4, l5, l6, l7, l8] (w.toList ++ st) h2 Q) (fun E h2 => Q (.inr E, h2)))) := (W_invV (st := st) f268_2051 rfl rfl (by simp only [List.length_cons]; omega) rfl rfl hp).trans (by simp only [hm268, if_true])
theorem f268_2054 : fetch 268 2054 = some (.iload 5, 2, [], .null) := by decide +kernel
theorem w268_2054 : Wp d 268 2054 [l0, l1, l2, l3, l4, some (.int x), l6, l7, l8] st h Q = Wp d 268 2056 [l0, l1, l2, l3, l4, some (.int x), l6, l7, l8] (.int x :: st) h Q := W_go f268_2054 rfl
theorem f268_2056 : fetch 268 2056 = some (.if_icmp .eq 5, 3, [], .null) := by decide +kernel
theorem w268_2056 : Wp d 268 2056 [l0, l1, l2, l3, l4, l5, l6, l7, l8] (.int y :: .int x :: st) h Q = if icond .eq x y = true then Wp d 268 2061 [l0, l1, l2, l3, l4, l5, l6, l7, l8] st h Q else Wp d 268 2059 [l0, l1, l2, l3, l4, l5, l6, l7, l8] st h Q := W_if f268_2056 rfl
theorem f268_2059 : fetch 268 2059 = some (.iconst 0, 1, [], .null) := by decide +kernel
theorem w268_2059 : Wp d 268 2059 [l0, l1, l2, l3, l4, l5, l6, l7, l8] st h Q = Wp d 268 2060 [l0, l1, l2, l3, l4, l5, l6, l7, l8] (.int (0 : Int32) :: st) h Q := W_go f268_2059 rfl
theorem f268_2060 : fetch 268 2060 = some (.ireturn, 1, [], .null) := by decide +kernel
theorem w268_2060 : Wp d 268 2060 [l0, l1, l2, l3, l4, l5, l6, l7, l8] [.int x] h Q = (if narrow .boolean (.int x) = .int x then Q (.inl (some (.int x)), h) else False) := W_zret f268_2060 hr268
theorem f268_2061 : fetch 268 2061 = some (.iload 5, 2, [], .null) := by decide +kernel
theorem w268_2061 : Wp d 268 2061 [l0, l1, l2, l3, l4, some (.int x), l6, l7, l8] st h Q = Wp d 268 2063 [l0, l1, l2, l3, l4, some (.int x), l6, l7, l8] (.int x :: st) h Q := W_go f268_2061 rfl
theorem f268_2063 : fetch 268 2063 = some (.ifCond .ne 15, 3, [], .null) := by decide +kernel
theorem w268_2063 : Wp d 268 2063 [l0, l1, l2, l3, l4, l5, l6, l7, l8] (.int x :: st) h Q = if icond .ne x 0 = true then Wp d 268 2078 [l0, l1, l2, l3, l4, l5, l6, l7, l8] st h Q else Wp d 268 2066 [l0, l1, l2, l3, l4, l5, l6, l7, l8] st h Q := W_if f268_2063 rfl
theorem f268_2066 : fetch 268 2066 = some (.aload_n 3, 1, [], .null) := by decide +kernel
theorem w268_2066 : Wp d 268 2066 [l0, l1, l2, some (.ref a), l4, l5, l6, l7, l8] st h Q = Wp d 268 2067 [l0, l1, l2, some (.ref a), l4, l5, l6, l7, l8] (.ref a :: st) h Q := W_go f268_2066 rfl
theorem f268_2067 : fetch 268 2067 = some (.iconst 0, 1, [], .null) := by decide +kernel
theorem w268_2067 : Wp d 268 2067 [l0, l1, l2, l3, l4, l5, l6, l7, l8] st h Q = Wp d 268 2068 [l0, l1, l2, l3, l4, l5, l6, l7, l8] (.int (0 : Int32) :: st) h Q := W_go f268_2067 rfl
theorem f268_2068 : fetch 268 2068 = some (.laload, 1, [], .null) := by decide +kernel
theorem w268_2068 : Wp d 268 2068 [l0, l1, l2, l3, l4, l5, l6, l7, l8] (.int x :: .ref a :: st) h Q = lP (h.2 a) x (fun w => Wp d 268 2069 [l0, l1, l2, l3, l4, l5, l6, l7, l8] (.long w :: st) h Q) := W_lld f268_2068 rfl
theorem f268_2069 : fetch 268 2069 = some (.iload 6, 2, [], .null) := by decide +kernel
theorem w268_2069 : Wp d 268 2069 [l0, l1, l2, l3, l4, l5, some (.int x), l7, l8] st h Q = Wp d 268 2071 [l0, l1, l2, l3, l4, l5, some (.int x), l7, l8] (.int x :: st) h Q := W_go f268_2069 rfl
theorem f268_2071 : fetch 268 2071 = some (.i2l, 1, [], .null) := by decide +kernel
theorem w268_2071 : Wp d 268 2071 [l0, l1, l2, l3, l4, l5, l6, l7, l8] (.int x :: st) h Q = Wp d 268 2072 [l0, l1, l2, l3, l4, l5, l6, l7, l8] (.long x.toInt64 :: st) h Q := W_go f268_2071 rfl
theorem f268_2072 : fetch 268 2072 = some (.lcmp, 1, [], .null) := by decide +kernel
theorem w268_2072 : Wp d 268 2072 [l0, l1, l2, l3, l4, l5, l6, l7, l8] (.long y8 :: .long x8 :: st) h Q = Wp d 268 2073 [l0, l1, l2, l3, l4, l5, l6, l7, l8] (.int (lg_cmp x8 y8) :: st) h Q := W_go f268_2072 rfl
theorem f268_2073 : fetch 268 2073 = some (.ifCond .eq 5, 3, [], .null) := by decide +kernel
theorem w268_2073 : Wp d 268 2073 [l0, l1, l2, l3, l4, l5, l6, l7, l8] (.int x :: st) h Q = if icond .eq x 0 = true then Wp d 268 2078 [l0, l1, l2, l3, l4, l5, l6, l7, l8] st h Q else Wp d 268 2076 [l0, l1, l2, l3, l4, l5, l6, l7, l8] st h Q := W_if f268_2073 rfl
theorem f268_2076 : fetch 268 2076 = some (.iconst 0, 1, [], .null) := by decide +kernel
theorem w268_2076 : Wp d 268 2076 [l0, l1, l2, l3, l4, l5, l6, l7, l8] st h Q = Wp d 268 2077 [l0, l1, l2, l3, l4, l5, l6, l7, l8] (.int (0 : Int32) :: st) h Q := W_go f268_2076 rfl
theorem f268_2077 : fetch 268 2077 = some (.ireturn, 1, [], .null) := by decide +kernel
theorem w268_2077 : Wp d 268 2077 [l0, l1, l2, l3, l4, l5, l6, l7, l8] [.int x] h Q = (if narrow .boolean (.int x) = .int x then Q (.inl (some (.int x)), h) else False) := W_zret f268_2077 hr268
theorem f268_2078 : fetch 268 2078 = some (.goto 58, 3, [], .null) := by decide +kernel
theorem w268_2078 : Wp d 268 2078 [l0, l1, l2, l3, l4, l5, l6, l7, l8] st h Q = Wp d 268 2136 [l0, l1, l2, l3, l4, l5, l6, l7, l8] st h Q := W_go f268_2078 rfl
theorem f268_2081 : fetch 268 2081 = some (.aload_n 1, 1, [], .null) := by decide +kernel
theorem w268_2081 : Wp d 268 2081 [l0, some (.ref a), l2, l3, l4, l5, l6, l7, l8] st h Q = Wp d 268 2082 [l0, some (.ref a), l2, l3, l4, l5, l6, l7, l8] (.ref a :: st) h Q := W_go f268_2081 rfl
theorem f268_2082 : fetch 268 2082 = some (.invokevirtual 252, 3, [110, 1, 8, 0, 3194, 1001, 3197, 3195, 3196], .null) := by decide +kernel
theorem w268_2082 (hp : psum st ≤ 8) : Wp d 268 2082 [l0, l1, l2, l3, l4, l5, l6, l7, l8] ((.ref b) :: st) h Q = rP (h.2 b) 7 (Cp d 110 [(.ref b)] h (fun o => cK o (fun w h2 => Wp d 268 2085 [l0, l1, l2, l3, l4, l5, l6, l7, l8] (w.toList ++ st) h2 Q) (fun E h2 => Q (.inr E, h2)))) := (W_invV (st := st) f268_2082 rfl rfl (by simp only [List.length_cons]; omega) rfl rfl hp).trans (by simp only [hm268, if_true])
theorem f268_2085 : fetch 268 2085 = some (.dstore 5, 2, [], .null) := by decide +kernel
theorem w268_2085 : Wp d 268 2085 [l0, l1, l2, l3, l4, l5, l6, l7, l8] (.double xd :: st) h Q = Wp d 268 2087 [l0, l1, l2, l3, kl l4, some (.double xd), none, l7, l8] st h Q := (W_st2 (pc' := 2087) (k := 5) f268_2085 rfl rfl (by simp only [List.length_cons, List.length_nil]; omega)).trans (by rw [pst2_succ]; rfl)
theorem f268_2087 : fetch 268 2087 = some (.aload_n 2, 1, [], .null) := by decide +kernel
theorem w268_2087 : Wp d 268 2087 [l0, l1, some (.ref a), l3, l4, l5, l6, l7, l8] st h Q = Wp d 268 2088 [l0, l1, some (.ref a), l3, l4, l5, l6, l7, l8] (.ref a :: st) h Q := W_go f268_2087 rfl
theorem f268_2088 : fetch 268 2088 = some (.invokevirtual 256, 3, [226, 1, 11, 0, 8125, 1013, 8128, 8126, 8127], .null) := by decide +kernel
theorem w268_2088 (hp : psum st ≤ 8) : Wp d 268 2088 [l0, l1, l2, l3, l4, l5, l6, l7, l8] ((.ref b) :: st) h Q = rP (h.2 b) 10 (Cp d 226 [(.ref b)] h (fun o => cK o (fun w h2 => Wp d 268 2091 [l0, l1, l2, l3, l4, l5, l6, l7, l8] (w.toList ++ st) h2 Q) (fun E h2 => Q (.inr E, h2)))) := (W_invV (st := st) f268_2088 rfl rfl (by simp only [List.length_cons]; omega) rfl rfl hp).trans (by simp only [hm268, if_true])
theorem f268_2091 : fetch 268 2091 = some (.dstore 7, 2, [], .null) := by decide +kernel
theorem w268_2091 : Wp d 268 2091 [l0, l1, l2, l3, l4, l5, l6, l7, l8] (.double xd :: st) h Q = Wp d 268 2093 [l0, l1, l2, l3, l4, l5, kl l6, some (.double xd), none] st h Q := (W_st2 (pc' := 2093) (k := 7) f268_2091 rfl rfl (by simp only [List.length_cons, List.length_nil]; omega)).trans (by rw [pst2_succ]; rfl)
theorem f268_2093 : fetch 268 2093 = some (.dload 5, 2, [], .null) := by decide +kernel
theorem w268_2093 : Wp d 268 2093 [l0, l1, l2, l3, l4, some (.double xd), l6, l7, l8] st h Q = Wp d 268 2095 [l0, l1, l2, l3, l4, some (.double xd), l6, l7, l8] (.double xd :: st) h Q := W_go f268_2093 rfl
theorem f268_2095 : fetch 268 2095 = some (.dload 7, 2, [], .null) := by decide +kernel
theorem w268_2095 : Wp d 268 2095 [l0, l1, l2, l3, l4, l5, l6, some (.double xd), l8] st h Q = Wp d 268 2097 [l0, l1, l2, l3, l4, l5, l6, some (.double xd), l8] (.double xd :: st) h Q := W_go f268_2095 rfl
theorem f268_2097 : fetch 268 2097 = some (.dcmp .l, 1, [], .null) := by decide +kernel
theorem w268_2097 : Wp d 268 2097 [l0, l1, l2, l3, l4, l5, l6, l7, l8] (.double yd :: .double xd :: st) h Q = Wp d 268 2098 [l0, l1, l2, l3, l4, l5, l6, l7, l8] (.int (Op.cmpValue (FP.dcmp xd yd) .l) :: st) h Q := W_go f268_2097 rfl
theorem f268_2098 : fetch 268 2098 = some (.ifCond .eq 21, 3, [], .null) := by decide +kernel
theorem w268_2098 : Wp d 268 2098 [l0, l1, l2, l3, l4, l5, l6, l7, l8] (.int x :: st) h Q = if icond .eq x 0 = true then Wp d 268 2119 [l0, l1, l2, l3, l4, l5, l6, l7, l8] st h Q else Wp d 268 2101 [l0, l1, l2, l3, l4, l5, l6, l7, l8] st h Q := W_if f268_2098 rfl
theorem f268_2101 : fetch 268 2101 = some (.dload 5, 2, [], .null) := by decide +kernel
theorem w268_2101 : Wp d 268 2101 [l0, l1, l2, l3, l4, some (.double xd), l6, l7, l8] st h Q = Wp d 268 2103 [l0, l1, l2, l3, l4, some (.double xd), l6, l7, l8] (.double xd :: st) h Q := W_go f268_2101 rfl
theorem f268_2103 : fetch 268 2103 = some (.dload 5, 2, [], .null) := by decide +kernel
theorem w268_2103 : Wp d 268 2103 [l0, l1, l2, l3, l4, some (.double xd), l6, l7, l8] st h Q = Wp d 268 2105 [l0, l1, l2, l3, l4, some (.double xd), l6, l7, l8] (.double xd :: st) h Q := W_go f268_2103 rfl
theorem f268_2105 : fetch 268 2105 = some (.dcmp .l, 1, [], .null) := by decide +kernel
theorem w268_2105 : Wp d 268 2105 [l0, l1, l2, l3, l4, l5, l6, l7, l8] (.double yd :: .double xd :: st) h Q = Wp d 268 2106 [l0, l1, l2, l3, l4, l5, l6, l7, l8] (.int (Op.cmpValue (FP.dcmp xd yd) .l) :: st) h Q := W_go f268_2105 rfl
theorem f268_2106 : fetch 268 2106 = some (.ifCond .eq 11, 3, [], .null) := by decide +kernel
theorem w268_2106 : Wp d 268 2106 [l0, l1, l2, l3, l4, l5, l6, l7, l8] (.int x :: st) h Q = if icond .eq x 0 = true then Wp d 268 2117 [l0, l1, l2, l3, l4, l5, l6, l7, l8] st h Q else Wp d 268 2109 [l0, l1, l2, l3, l4, l5, l6, l7, l8] st h Q := W_if f268_2106 rfl
theorem f268_2109 : fetch 268 2109 = some (.dload 7, 2, [], .null) := by decide +kernel
theorem w268_2109 : Wp d 268 2109 [l0, l1, l2, l3, l4, l5, l6, some (.double xd), l8] st h Q = Wp d 268 2111 [l0, l1, l2, l3, l4, l5, l6, some (.double xd), l8] (.double xd :: st) h Q := W_go f268_2109 rfl
theorem f268_2111 : fetch 268 2111 = some (.dload 7, 2, [], .null) := by decide +kernel
theorem w268_2111 : Wp d 268 2111 [l0, l1, l2, l3, l4, l5, l6, some (.double xd), l8] st h Q = Wp d 268 2113 [l0, l1, l2, l3, l4, l5, l6, some (.double xd), l8] (.double xd :: st) h Q := W_go f268_2111 rfl
theorem f268_2113 : fetch 268 2113 = some (.dcmp .l, 1, [], .null) := by decide +kernel
theorem w268_2113 : Wp d 268 2113 [l0, l1, l2, l3, l4, l5, l6, l7, l8] (.double yd :: .double xd :: st) h Q = Wp d 268 2114 [l0, l1, l2, l3, l4, l5, l6, l7, l8] (.int (Op.cmpValue (FP.dcmp xd yd) .l) :: st) h Q := W_go f268_2113 rfl
theorem f268_2114 : fetch 268 2114 = some (.ifCond .ne 5, 3, [], .null) := by decide +kernel
theorem w268_2114 : Wp d 268 2114 [l0, l1, l2, l3, l4, l5, l6, l7, l8] (.int x :: st) h Q = if icond .ne x 0 = true then Wp d 268 2119 [l0, l1, l2, l3, l4, l5, l6, l7, l8] st h Q else Wp d 268 2117 [l0, l1, l2, l3, l4, l5, l6, l7, l8] st h Q := W_if f268_2114 rfl
theorem f268_2117 : fetch 268 2117 = some (.iconst 0, 1, [], .null) := by decide +kernel
theorem w268_2117 : Wp d 268 2117 [l0, l1, l2, l3, l4, l5, l6, l7, l8] st h Q = Wp d 268 2118 [l0, l1, l2, l3, l4, l5, l6, l7, l8] (.int (0 : Int32) :: st) h Q := W_go f268_2117 rfl
theorem f268_2118 : fetch 268 2118 = some (.ireturn, 1, [], .null) := by decide +kernel
theorem w268_2118 : Wp d 268 2118 [l0, l1, l2, l3, l4, l5, l6, l7, l8] [.int x] h Q = (if narrow .boolean (.int x) = .int x then Q (.inl (some (.int x)), h) else False) := W_zret f268_2118 hr268
theorem f268_2119 : fetch 268 2119 = some (.goto 17, 3, [], .null) := by decide +kernel
theorem w268_2119 : Wp d 268 2119 [l0, l1, l2, l3, l4, l5, l6, l7, l8] st h Q = Wp d 268 2136 [l0, l1, l2, l3, l4, l5, l6, l7, l8] st h Q := W_go f268_2119 rfl
theorem f268_2122 : fetch 268 2122 = some (.aload_n 1, 1, [], .null) := by decide +kernel
theorem w268_2122 : Wp d 268 2122 [l0, some (.ref a), l2, l3, l4, l5, l6, l7, l8] st h Q = Wp d 268 2123 [l0, some (.ref a), l2, l3, l4, l5, l6, l7, l8] (.ref a :: st) h Q := W_go f268_2122 rfl
theorem f268_2123 : fetch 268 2123 = some (.invokevirtual 257, 3, [111, 1, 8, 0, 3198, 1001, 3201, 3199, 3200], .null) := by decide +kernel
theorem w268_2123 (hp : psum st ≤ 8) : Wp d 268 2123 [l0, l1, l2, l3, l4, l5, l6, l7, l8] ((.ref b) :: st) h Q = rP (h.2 b) 7 (Cp d 111 [(.ref b)] h (fun o => cK o (fun w h2 => Wp d 268 2126 [l0, l1, l2, l3, l4, l5, l6, l7, l8] (w.toList ++ st) h2 Q) (fun E h2 => Q (.inr E, h2)))) := (W_invV (st := st) f268_2123 rfl rfl (by simp only [List.length_cons]; omega) rfl rfl hp).trans (by simp only [hm268, if_true])
theorem f268_2126 : fetch 268 2126 = some (.aload_n 2, 1, [], .null) := by decide +kernel
theorem w268_2126 : Wp d 268 2126 [l0, l1, some (.ref a), l3, l4, l5, l6, l7, l8] st h Q = Wp d 268 2127 [l0, l1, some (.ref a), l3, l4, l5, l6, l7, l8] (.ref a :: st) h Q := W_go f268_2126 rfl
theorem f268_2127 : fetch 268 2127 = some (.invokevirtual 261, 3, [228, 1, 11, 0, 8129, 1013, 8132, 8130, 8131], .null) := by decide +kernel
theorem w268_2127 (hp : psum st ≤ 8) : Wp d 268 2127 [l0, l1, l2, l3, l4, l5, l6, l7, l8] ((.ref b) :: st) h Q = rP (h.2 b) 10 (Cp d 228 [(.ref b)] h (fun o => cK o (fun w h2 => Wp d 268 2130 [l0, l1, l2, l3, l4, l5, l6, l7, l8] (w.toList ++ st) h2 Q) (fun E h2 => Q (.inr E, h2)))) := (W_invV (st := st) f268_2127 rfl rfl (by simp only [List.length_cons]; omega) rfl rfl hp).trans (by simp only [hm268, if_true])
theorem f268_2130 : fetch 268 2130 = some (.lcmp, 1, [], .null) := by decide +kernel
theorem w268_2130 : Wp d 268 2130 [l0, l1, l2, l3, l4, l5, l6, l7, l8] (.long y8 :: .long x8 :: st) h Q = Wp d 268 2131 [l0, l1, l2, l3, l4, l5, l6, l7, l8] (.int (lg_cmp x8 y8) :: st) h Q := W_go f268_2130 rfl
theorem f268_2131 : fetch 268 2131 = some (.ifCond .eq 5, 3, [], .null) := by decide +kernel
theorem w268_2131 : Wp d 268 2131 [l0, l1, l2, l3, l4, l5, l6, l7, l8] (.int x :: st) h Q = if icond .eq x 0 = true then Wp d 268 2136 [l0, l1, l2, l3, l4, l5, l6, l7, l8] st h Q else Wp d 268 2134 [l0, l1, l2, l3, l4, l5, l6, l7, l8] st h Q := W_if f268_2131 rfl
theorem f268_2134 : fetch 268 2134 = some (.iconst 0, 1, [], .null) := by decide +kernel
theorem w268_2134 : Wp d 268 2134 [l0, l1, l2, l3, l4, l5, l6, l7, l8] st h Q = Wp d 268 2135 [l0, l1, l2, l3, l4, l5, l6, l7, l8] (.int (0 : Int32) :: st) h Q := W_go f268_2134 rfl
theorem f268_2135 : fetch 268 2135 = some (.ireturn, 1, [], .null) := by decide +kernel
theorem w268_2135 : Wp d 268 2135 [l0, l1, l2, l3, l4, l5, l6, l7, l8] [.int x] h Q = (if narrow .boolean (.int x) = .int x then Q (.inl (some (.int x)), h) else False) := W_zret f268_2135 hr268
theorem f268_2136 : fetch 268 2136 = some (.iinc 4 6, 3, [], .null) := by decide +kernel
theorem w268_2136 : Wp d 268 2136 [l0, l1, l2, l3, some (.int x), l5, l6, l7, l8] st h Q = Wp d 268 2139 [l0, l1, l2, kl l3, some (.int (x + (6 : Int32))), l5, l6, l7, l8] st h Q := (W_iinc (y := (6 : Int32)) f268_2136 rfl (by simp only [List.length_cons, List.length_nil]; omega) (by decide)).trans (by rw [pst1_succ]; rfl)
theorem f268_2139 : fetch 268 2139 = some (.goto (-2116), 3, [], .null) := by decide +kernel
theorem w268_2139 : Wp d 268 2139 [l0, l1, l2, l3, l4, l5, l6, l7, l8] st h Q = Wp d 268 23 [l0, l1, l2, l3, l4, l5, l6, l7, l8] st h Q := W_go f268_2139 rfl
theorem f268_2142 : fetch 268 2142 = some (.iconst 1, 1, [], .null) := by decide +kernel
theorem w268_2142 : Wp d 268 2142 [l0, l1, l2, l3, l4, l5, l6, l7, l8] st h Q = Wp d 268 2143 [l0, l1, l2, l3, l4, l5, l6, l7, l8] (.int (1 : Int32) :: st) h Q := W_go f268_2142 rfl
theorem f268_2143 : fetch 268 2143 = some (.ireturn, 1, [], .null) := by decide +kernel
theorem w268_2143 : Wp d 268 2143 [l0, l1, l2, l3, l4, l5, l6, l7, l8] [.int x] h Q = (if narrow .boolean (.int x) = .int x then Q (.inl (some (.int x)), h) else False) := W_zret f268_2143 hr268
end ROWS240
