section ROWS200
variable {d : Nat} {h : PH} {Q : PO → Prop} {st : List Value} {x y n sp dp : Int32} {x8 y8 : Int64} {xd yd : UInt64} {a b : Nat} {v v0 v1 v2 v3 v4 v5 v6 v7 v8 v9 : Value} {l0 l1 l2 l3 l4 l5 l6 l7 l8 l9 l10 l11 l12 l13 l14 l15 l16 l17 l18 l19 l20 l21 l22 l23 : Option Value}
theorem hm200 : mhs 200 = [] := by decide +kernel
theorem hr200 : mret 200 = (some .int) := by decide +kernel
theorem f200_0 : fetch 200 0 = some (.aload_n 0, 1, [], .null) := by decide +kernel
theorem w200_0 : Wp d 200 0 [some (.ref a), l1] st h Q = Wp d 200 1 [some (.ref a), l1] (.ref a :: st) h Q := W_go f200_0 rfl
theorem f200_1 : fetch 200 1 = some (.iconst 0, 1, [], .null) := by decide +kernel
theorem w200_1 : Wp d 200 1 [l0, l1] st h Q = Wp d 200 2 [l0, l1] (.int (0 : Int32) :: st) h Q := W_go f200_1 rfl
theorem f200_2 : fetch 200 2 = some (.putfield 57, 3, [10, 0, 6131, 0], .null) := by decide +kernel
theorem w200_2 : Wp d 200 2 [l0, l1] (v :: .ref a :: st) h Q = pP (h.2 a) 10 0 (ftOf 10 0) v a (fun c => Wp d 200 5 [l0, l1] st (hset h a c) Q) := W_put f200_2 (by rfl)
theorem f200_5 : fetch 200 5 = some (.aload_n 0, 1, [], .null) := by decide +kernel
theorem w200_5 : Wp d 200 5 [some (.ref a), l1] st h Q = Wp d 200 6 [some (.ref a), l1] (.ref a :: st) h Q := W_go f200_5 rfl
theorem f200_6 : fetch 200 6 = some (.iload_n 1, 1, [], .null) := by decide +kernel
theorem w200_6 : Wp d 200 6 [l0, some (.int x)] st h Q = Wp d 200 7 [l0, some (.int x)] (.int x :: st) h Q := W_go f200_6 rfl
theorem f200_7 : fetch 200 7 = some (.invokevirtual 272, 3, [149, 2, 11, 0, 7121, 1013, 7124, 7123, 66], .null) := by decide +kernel
theorem w200_7 (hp : psum st ≤ 8) : Wp d 200 7 [l0, l1] (v1 :: (.ref b) :: st) h Q = rP (h.2 b) 10 (Cp d 149 [(.ref b), v1] h (fun o => cK o (fun w h2 => Wp d 200 10 [l0, l1] (w.toList ++ st) h2 Q) (fun E h2 => Q (.inr E, h2)))) := (W_invV (st := st) f200_7 rfl rfl (by simp only [List.length_cons]; omega) rfl rfl hp).trans (by simp only [hm200, if_true])
theorem f200_10 : fetch 200 10 = some (.ifCond .eq 15, 3, [], .null) := by decide +kernel
theorem w200_10 : Wp d 200 10 [l0, l1] (.int x :: st) h Q = if icond .eq x 0 = true then Wp d 200 25 [l0, l1] st h Q else Wp d 200 13 [l0, l1] st h Q := W_if f200_10 rfl
theorem f200_13 : fetch 200 13 = some (.aload_n 0, 1, [], .null) := by decide +kernel
theorem w200_13 : Wp d 200 13 [some (.ref a), l1] st h Q = Wp d 200 14 [some (.ref a), l1] (.ref a :: st) h Q := W_go f200_13 rfl
theorem f200_14 : fetch 200 14 = some (.getfield 47, 3, [10, 14, 6148, 0], .null) := by decide +kernel
theorem w200_14 : Wp d 200 14 [l0, l1] (.ref a :: st) h Q = gP (h.2 a) 10 14 (fun w => Wp d 200 17 [l0, l1] (w :: st) h Q) := W_get f200_14 rfl
theorem f200_17 : fetch 200 17 = some (.getfield 293, 3, [9, 5, 6049, 1], .null) := by decide +kernel
theorem w200_17 : Wp d 200 17 [l0, l1] (.ref a :: st) h Q = gP (h.2 a) 9 5 (fun w => Wp d 200 20 [l0, l1] (w :: st) h Q) := W_get f200_17 rfl
theorem f200_20 : fetch 200 20 = some (.iload_n 1, 1, [], .null) := by decide +kernel
theorem w200_20 : Wp d 200 20 [l0, some (.int x)] st h Q = Wp d 200 21 [l0, some (.int x)] (.int x :: st) h Q := W_go f200_20 rfl
theorem f200_21 : fetch 200 21 = some (.iaload, 1, [], .null) := by decide +kernel
theorem w200_21 : Wp d 200 21 [l0, l1] (.int x :: .ref a :: st) h Q = aP false (h.2 a) x (fun w => Wp d 200 22 [l0, l1] (.int w :: st) h Q) := W_ald f200_21 rfl
theorem f200_22 : fetch 200 22 = some (.goto 8, 3, [], .null) := by decide +kernel
theorem w200_22 : Wp d 200 22 [l0, l1] st h Q = Wp d 200 30 [l0, l1] st h Q := W_go f200_22 rfl
theorem f200_25 : fetch 200 25 = some (.aload_n 0, 1, [], .null) := by decide +kernel
theorem w200_25 : Wp d 200 25 [some (.ref a), l1] st h Q = Wp d 200 26 [some (.ref a), l1] (.ref a :: st) h Q := W_go f200_25 rfl
theorem f200_26 : fetch 200 26 = some (.iconst 1, 1, [], .null) := by decide +kernel
theorem w200_26 : Wp d 200 26 [l0, l1] st h Q = Wp d 200 27 [l0, l1] (.int (1 : Int32) :: st) h Q := W_go f200_26 rfl
theorem f200_27 : fetch 200 27 = some (.invokevirtual 249, 3, [146, 2, 11, 0, 6191, 1013, 6194, 6193, 35], .null) := by decide +kernel
theorem w200_27 (hp : psum st ≤ 8) : Wp d 200 27 [l0, l1] (v1 :: (.ref b) :: st) h Q = rP (h.2 b) 10 (Cp d 146 [(.ref b), v1] h (fun o => cK o (fun w h2 => Wp d 200 30 [l0, l1] (w.toList ++ st) h2 Q) (fun E h2 => Q (.inr E, h2)))) := (W_invV (st := st) f200_27 rfl rfl (by simp only [List.length_cons]; omega) rfl rfl hp).trans (by simp only [hm200, if_true])
theorem f200_30 : fetch 200 30 = some (.ireturn, 1, [], .null) := by decide +kernel
theorem w200_30 : Wp d 200 30 [l0, l1] [.int x] h Q = Q (.inl (some (.int x)), h) := W_iret f200_30 hr200
theorem hm201 : mhs 201 = [] := by decide +kernel
theorem hr201 : mret 201 = (some .boolean) := by decide +kernel
theorem f201_0 : fetch 201 0 = some (.aload_n 0, 1, [], .null) := by decide +kernel
theorem w201_0 : Wp d 201 0 [some (.ref a), l1] st h Q = Wp d 201 1 [some (.ref a), l1] (.ref a :: st) h Q := W_go f201_0 rfl
theorem f201_1 : fetch 201 1 = some (.iconst 0, 1, [], .null) := by decide +kernel
theorem w201_1 : Wp d 201 1 [l0, l1] st h Q = Wp d 201 2 [l0, l1] (.int (0 : Int32) :: st) h Q := W_go f201_1 rfl
theorem f201_2 : fetch 201 2 = some (.putfield 57, 3, [10, 0, 6131, 0], .null) := by decide +kernel
theorem w201_2 : Wp d 201 2 [l0, l1] (v :: .ref a :: st) h Q = pP (h.2 a) 10 0 (ftOf 10 0) v a (fun c => Wp d 201 5 [l0, l1] st (hset h a c) Q) := W_put f201_2 (by rfl)
theorem f201_5 : fetch 201 5 = some (.aload_n 0, 1, [], .null) := by decide +kernel
theorem w201_5 : Wp d 201 5 [some (.ref a), l1] st h Q = Wp d 201 6 [some (.ref a), l1] (.ref a :: st) h Q := W_go f201_5 rfl
theorem f201_6 : fetch 201 6 = some (.iload_n 1, 1, [], .null) := by decide +kernel
theorem w201_6 : Wp d 201 6 [l0, some (.int x)] st h Q = Wp d 201 7 [l0, some (.int x)] (.int x :: st) h Q := W_go f201_6 rfl
theorem f201_7 : fetch 201 7 = some (.invokevirtual 272, 3, [149, 2, 11, 0, 7121, 1013, 7124, 7123, 66], .null) := by decide +kernel
theorem w201_7 (hp : psum st ≤ 8) : Wp d 201 7 [l0, l1] (v1 :: (.ref b) :: st) h Q = rP (h.2 b) 10 (Cp d 149 [(.ref b), v1] h (fun o => cK o (fun w h2 => Wp d 201 10 [l0, l1] (w.toList ++ st) h2 Q) (fun E h2 => Q (.inr E, h2)))) := (W_invV (st := st) f201_7 rfl rfl (by simp only [List.length_cons]; omega) rfl rfl hp).trans (by simp only [hm201, if_true])
theorem f201_10 : fetch 201 10 = some (.ifCond .eq 15, 3, [], .null) := by decide +kernel
theorem w201_10 : Wp d 201 10 [l0, l1] (.int x :: st) h Q = if icond .eq x 0 = true then Wp d 201 25 [l0, l1] st h Q else Wp d 201 13 [l0, l1] st h Q := W_if f201_10 rfl
theorem f201_13 : fetch 201 13 = some (.aload_n 0, 1, [], .null) := by decide +kernel
theorem w201_13 : Wp d 201 13 [some (.ref a), l1] st h Q = Wp d 201 14 [some (.ref a), l1] (.ref a :: st) h Q := W_go f201_13 rfl
theorem f201_14 : fetch 201 14 = some (.getfield 47, 3, [10, 14, 6148, 0], .null) := by decide +kernel
theorem w201_14 : Wp d 201 14 [l0, l1] (.ref a :: st) h Q = gP (h.2 a) 10 14 (fun w => Wp d 201 17 [l0, l1] (w :: st) h Q) := W_get f201_14 rfl
theorem f201_17 : fetch 201 17 = some (.getfield 281, 3, [9, 8, 6054, 1], .null) := by decide +kernel
theorem w201_17 : Wp d 201 17 [l0, l1] (.ref a :: st) h Q = gP (h.2 a) 9 8 (fun w => Wp d 201 20 [l0, l1] (w :: st) h Q) := W_get f201_17 rfl
theorem f201_20 : fetch 201 20 = some (.iload_n 1, 1, [], .null) := by decide +kernel
theorem w201_20 : Wp d 201 20 [l0, some (.int x)] st h Q = Wp d 201 21 [l0, some (.int x)] (.int x :: st) h Q := W_go f201_20 rfl
theorem f201_21 : fetch 201 21 = some (.baload, 1, [], .null) := by decide +kernel
theorem w201_21 : Wp d 201 21 [l0, l1] (.int x :: .ref a :: st) h Q = aP true (h.2 a) x (fun w => Wp d 201 22 [l0, l1] (.int w :: st) h Q) := W_ald f201_21 rfl
theorem f201_22 : fetch 201 22 = some (.goto 8, 3, [], .null) := by decide +kernel
theorem w201_22 : Wp d 201 22 [l0, l1] st h Q = Wp d 201 30 [l0, l1] st h Q := W_go f201_22 rfl
theorem f201_25 : fetch 201 25 = some (.aload_n 0, 1, [], .null) := by decide +kernel
theorem w201_25 : Wp d 201 25 [some (.ref a), l1] st h Q = Wp d 201 26 [some (.ref a), l1] (.ref a :: st) h Q := W_go f201_25 rfl
theorem f201_26 : fetch 201 26 = some (.iconst 1, 1, [], .null) := by decide +kernel
theorem w201_26 : Wp d 201 26 [l0, l1] st h Q = Wp d 201 27 [l0, l1] (.int (1 : Int32) :: st) h Q := W_go f201_26 rfl
theorem f201_27 : fetch 201 27 = some (.invokevirtual 278, 3, [147, 2, 11, 0, 7129, 1013, 7132, 7131, 67], .null) := by decide +kernel
theorem w201_27 (hp : psum st ≤ 8) : Wp d 201 27 [l0, l1] (v1 :: (.ref b) :: st) h Q = rP (h.2 b) 10 (Cp d 147 [(.ref b), v1] h (fun o => cK o (fun w h2 => Wp d 201 30 [l0, l1] (w.toList ++ st) h2 Q) (fun E h2 => Q (.inr E, h2)))) := (W_invV (st := st) f201_27 rfl rfl (by simp only [List.length_cons]; omega) rfl rfl hp).trans (by simp only [hm201, if_true])
theorem f201_30 : fetch 201 30 = some (.ireturn, 1, [], .null) := by decide +kernel
theorem w201_30 : Wp d 201 30 [l0, l1] [.int x] h Q = (if narrow .boolean (.int x) = .int x then Q (.inl (some (.int x)), h) else False) := W_zret f201_30 hr201
theorem hm202 : mhs 202 = [] := by decide +kernel
theorem hr202 : mret 202 = (some .int) := by decide +kernel
theorem f202_0 : fetch 202 0 = some (.aload_n 0, 1, [], .null) := by decide +kernel
theorem w202_0 : Wp d 202 0 [some (.ref a), l1] st h Q = Wp d 202 1 [some (.ref a), l1] (.ref a :: st) h Q := W_go f202_0 rfl
theorem f202_1 : fetch 202 1 = some (.iconst 0, 1, [], .null) := by decide +kernel
theorem w202_1 : Wp d 202 1 [l0, l1] st h Q = Wp d 202 2 [l0, l1] (.int (0 : Int32) :: st) h Q := W_go f202_1 rfl
theorem f202_2 : fetch 202 2 = some (.putfield 57, 3, [10, 0, 6131, 0], .null) := by decide +kernel
theorem w202_2 : Wp d 202 2 [l0, l1] (v :: .ref a :: st) h Q = pP (h.2 a) 10 0 (ftOf 10 0) v a (fun c => Wp d 202 5 [l0, l1] st (hset h a c) Q) := W_put f202_2 (by rfl)
theorem f202_5 : fetch 202 5 = some (.aload_n 0, 1, [], .null) := by decide +kernel
theorem w202_5 : Wp d 202 5 [some (.ref a), l1] st h Q = Wp d 202 6 [some (.ref a), l1] (.ref a :: st) h Q := W_go f202_5 rfl
theorem f202_6 : fetch 202 6 = some (.iload_n 1, 1, [], .null) := by decide +kernel
theorem w202_6 : Wp d 202 6 [l0, some (.int x)] st h Q = Wp d 202 7 [l0, some (.int x)] (.int x :: st) h Q := W_go f202_6 rfl
theorem f202_7 : fetch 202 7 = some (.invokevirtual 272, 3, [149, 2, 11, 0, 7121, 1013, 7124, 7123, 66], .null) := by decide +kernel
theorem w202_7 (hp : psum st ≤ 8) : Wp d 202 7 [l0, l1] (v1 :: (.ref b) :: st) h Q = rP (h.2 b) 10 (Cp d 149 [(.ref b), v1] h (fun o => cK o (fun w h2 => Wp d 202 10 [l0, l1] (w.toList ++ st) h2 Q) (fun E h2 => Q (.inr E, h2)))) := (W_invV (st := st) f202_7 rfl rfl (by simp only [List.length_cons]; omega) rfl rfl hp).trans (by simp only [hm202, if_true])
theorem f202_10 : fetch 202 10 = some (.ifCond .eq 15, 3, [], .null) := by decide +kernel
theorem w202_10 : Wp d 202 10 [l0, l1] (.int x :: st) h Q = if icond .eq x 0 = true then Wp d 202 25 [l0, l1] st h Q else Wp d 202 13 [l0, l1] st h Q := W_if f202_10 rfl
theorem f202_13 : fetch 202 13 = some (.aload_n 0, 1, [], .null) := by decide +kernel
theorem w202_13 : Wp d 202 13 [some (.ref a), l1] st h Q = Wp d 202 14 [some (.ref a), l1] (.ref a :: st) h Q := W_go f202_13 rfl
theorem f202_14 : fetch 202 14 = some (.getfield 47, 3, [10, 14, 6148, 0], .null) := by decide +kernel
theorem w202_14 : Wp d 202 14 [l0, l1] (.ref a :: st) h Q = gP (h.2 a) 10 14 (fun w => Wp d 202 17 [l0, l1] (w :: st) h Q) := W_get f202_14 rfl
theorem f202_17 : fetch 202 17 = some (.getfield 299, 3, [9, 7, 6052, 1], .null) := by decide +kernel
theorem w202_17 : Wp d 202 17 [l0, l1] (.ref a :: st) h Q = gP (h.2 a) 9 7 (fun w => Wp d 202 20 [l0, l1] (w :: st) h Q) := W_get f202_17 rfl
theorem f202_20 : fetch 202 20 = some (.iload_n 1, 1, [], .null) := by decide +kernel
theorem w202_20 : Wp d 202 20 [l0, some (.int x)] st h Q = Wp d 202 21 [l0, some (.int x)] (.int x :: st) h Q := W_go f202_20 rfl
theorem f202_21 : fetch 202 21 = some (.iaload, 1, [], .null) := by decide +kernel
theorem w202_21 : Wp d 202 21 [l0, l1] (.int x :: .ref a :: st) h Q = aP false (h.2 a) x (fun w => Wp d 202 22 [l0, l1] (.int w :: st) h Q) := W_ald f202_21 rfl
theorem f202_22 : fetch 202 22 = some (.goto 8, 3, [], .null) := by decide +kernel
theorem w202_22 : Wp d 202 22 [l0, l1] st h Q = Wp d 202 30 [l0, l1] st h Q := W_go f202_22 rfl
theorem f202_25 : fetch 202 25 = some (.aload_n 0, 1, [], .null) := by decide +kernel
theorem w202_25 : Wp d 202 25 [some (.ref a), l1] st h Q = Wp d 202 26 [some (.ref a), l1] (.ref a :: st) h Q := W_go f202_25 rfl
theorem f202_26 : fetch 202 26 = some (.iconst 1, 1, [], .null) := by decide +kernel
theorem w202_26 : Wp d 202 26 [l0, l1] st h Q = Wp d 202 27 [l0, l1] (.int (1 : Int32) :: st) h Q := W_go f202_26 rfl
theorem f202_27 : fetch 202 27 = some (.invokevirtual 249, 3, [146, 2, 11, 0, 6191, 1013, 6194, 6193, 35], .null) := by decide +kernel
theorem w202_27 (hp : psum st ≤ 8) : Wp d 202 27 [l0, l1] (v1 :: (.ref b) :: st) h Q = rP (h.2 b) 10 (Cp d 146 [(.ref b), v1] h (fun o => cK o (fun w h2 => Wp d 202 30 [l0, l1] (w.toList ++ st) h2 Q) (fun E h2 => Q (.inr E, h2)))) := (W_invV (st := st) f202_27 rfl rfl (by simp only [List.length_cons]; omega) rfl rfl hp).trans (by simp only [hm202, if_true])
theorem f202_30 : fetch 202 30 = some (.ireturn, 1, [], .null) := by decide +kernel
theorem w202_30 : Wp d 202 30 [l0, l1] [.int x] h Q = Q (.inl (some (.int x)), h) := W_iret f202_30 hr202
theorem hm203 : mhs 203 = [] := by decide +kernel
theorem hr203 : mret 203 = (some .int) := by decide +kernel
theorem f203_0 : fetch 203 0 = some (.iconst 0, 1, [], .null) := by decide +kernel
theorem w203_0 : Wp d 203 0 [l0, l1, l2] st h Q = Wp d 203 1 [l0, l1, l2] (.int (0 : Int32) :: st) h Q := W_go f203_0 rfl
theorem f203_1 : fetch 203 1 = some (.istore_n 1, 1, [], .null) := by decide +kernel
theorem w203_1 : Wp d 203 1 [l0, l1, l2] (.int x :: st) h Q = Wp d 203 2 [kl l0, some (.int x), l2] st h Q := (W_st1 (pc' := 2) (k := 1) f203_1 rfl rfl (by simp only [List.length_cons, List.length_nil]; omega)).trans (by rw [pst1_succ]; rfl)
theorem f203_2 : fetch 203 2 = some (.iconst 0, 1, [], .null) := by decide +kernel
theorem w203_2 : Wp d 203 2 [l0, l1, l2] st h Q = Wp d 203 3 [l0, l1, l2] (.int (0 : Int32) :: st) h Q := W_go f203_2 rfl
theorem f203_3 : fetch 203 3 = some (.istore_n 2, 1, [], .null) := by decide +kernel
theorem w203_3 : Wp d 203 3 [l0, l1, l2] (.int x :: st) h Q = Wp d 203 4 [l0, kl l1, some (.int x)] st h Q := (W_st1 (pc' := 4) (k := 2) f203_3 rfl rfl (by simp only [List.length_cons, List.length_nil]; omega)).trans (by rw [pst1_succ]; rfl)
theorem f203_4 : fetch 203 4 = some (.iload_n 2, 1, [], .null) := by decide +kernel
theorem w203_4 : Wp d 203 4 [l0, l1, some (.int x)] st h Q = Wp d 203 5 [l0, l1, some (.int x)] (.int x :: st) h Q := W_go f203_4 rfl
theorem f203_5 : fetch 203 5 = some (.aload_n 0, 1, [], .null) := by decide +kernel
theorem w203_5 : Wp d 203 5 [some (.ref a), l1, l2] st h Q = Wp d 203 6 [some (.ref a), l1, l2] (.ref a :: st) h Q := W_go f203_5 rfl
theorem f203_6 : fetch 203 6 = some (.getfield 32, 3, [10, 10, 6141, 0], .null) := by decide +kernel
theorem w203_6 : Wp d 203 6 [l0, l1, l2] (.ref a :: st) h Q = gP (h.2 a) 10 10 (fun w => Wp d 203 9 [l0, l1, l2] (w :: st) h Q) := W_get f203_6 rfl
theorem f203_9 : fetch 203 9 = some (.getfield 60, 3, [8, 0, 5174, 1], .null) := by decide +kernel
theorem w203_9 : Wp d 203 9 [l0, l1, l2] (.ref a :: st) h Q = gP (h.2 a) 8 0 (fun w => Wp d 203 12 [l0, l1, l2] (w :: st) h Q) := W_get f203_9 rfl
theorem f203_12 : fetch 203 12 = some (.if_icmp .ge 29, 3, [], .null) := by decide +kernel
theorem w203_12 : Wp d 203 12 [l0, l1, l2] (.int y :: .int x :: st) h Q = if icond .ge x y = true then Wp d 203 41 [l0, l1, l2] st h Q else Wp d 203 15 [l0, l1, l2] st h Q := W_if f203_12 rfl
theorem f203_15 : fetch 203 15 = some (.iload_n 1, 1, [], .null) := by decide +kernel
theorem w203_15 : Wp d 203 15 [l0, some (.int x), l2] st h Q = Wp d 203 16 [l0, some (.int x), l2] (.int x :: st) h Q := W_go f203_15 rfl
theorem f203_16 : fetch 203 16 = some (.aload_n 0, 1, [], .null) := by decide +kernel
theorem w203_16 : Wp d 203 16 [some (.ref a), l1, l2] st h Q = Wp d 203 17 [some (.ref a), l1, l2] (.ref a :: st) h Q := W_go f203_16 rfl
theorem f203_17 : fetch 203 17 = some (.getfield 47, 3, [10, 14, 6148, 0], .null) := by decide +kernel
theorem w203_17 : Wp d 203 17 [l0, l1, l2] (.ref a :: st) h Q = gP (h.2 a) 10 14 (fun w => Wp d 203 20 [l0, l1, l2] (w :: st) h Q) := W_get f203_17 rfl
theorem f203_20 : fetch 203 20 = some (.getfield 281, 3, [9, 8, 6054, 1], .null) := by decide +kernel
theorem w203_20 : Wp d 203 20 [l0, l1, l2] (.ref a :: st) h Q = gP (h.2 a) 9 8 (fun w => Wp d 203 23 [l0, l1, l2] (w :: st) h Q) := W_get f203_20 rfl
theorem f203_23 : fetch 203 23 = some (.iload_n 2, 1, [], .null) := by decide +kernel
theorem w203_23 : Wp d 203 23 [l0, l1, some (.int x)] st h Q = Wp d 203 24 [l0, l1, some (.int x)] (.int x :: st) h Q := W_go f203_23 rfl
theorem f203_24 : fetch 203 24 = some (.baload, 1, [], .null) := by decide +kernel
theorem w203_24 : Wp d 203 24 [l0, l1, l2] (.int x :: .ref a :: st) h Q = aP true (h.2 a) x (fun w => Wp d 203 25 [l0, l1, l2] (.int w :: st) h Q) := W_ald f203_24 rfl
theorem f203_25 : fetch 203 25 = some (.ifCond .eq 7, 3, [], .null) := by decide +kernel
theorem w203_25 : Wp d 203 25 [l0, l1, l2] (.int x :: st) h Q = if icond .eq x 0 = true then Wp d 203 32 [l0, l1, l2] st h Q else Wp d 203 28 [l0, l1, l2] st h Q := W_if f203_25 rfl
theorem f203_28 : fetch 203 28 = some (.iconst 1, 1, [], .null) := by decide +kernel
theorem w203_28 : Wp d 203 28 [l0, l1, l2] st h Q = Wp d 203 29 [l0, l1, l2] (.int (1 : Int32) :: st) h Q := W_go f203_28 rfl
theorem f203_29 : fetch 203 29 = some (.goto 4, 3, [], .null) := by decide +kernel
theorem w203_29 : Wp d 203 29 [l0, l1, l2] st h Q = Wp d 203 33 [l0, l1, l2] st h Q := W_go f203_29 rfl
theorem f203_32 : fetch 203 32 = some (.iconst 0, 1, [], .null) := by decide +kernel
theorem w203_32 : Wp d 203 32 [l0, l1, l2] st h Q = Wp d 203 33 [l0, l1, l2] (.int (0 : Int32) :: st) h Q := W_go f203_32 rfl
theorem f203_33 : fetch 203 33 = some (.iadd, 1, [], .null) := by decide +kernel
theorem w203_33 : Wp d 203 33 [l0, l1, l2] (.int y :: .int x :: st) h Q = Wp d 203 34 [l0, l1, l2] (.int (x + y) :: st) h Q := W_go f203_33 rfl
theorem f203_34 : fetch 203 34 = some (.istore_n 1, 1, [], .null) := by decide +kernel
theorem w203_34 : Wp d 203 34 [l0, l1, l2] (.int x :: st) h Q = Wp d 203 35 [kl l0, some (.int x), l2] st h Q := (W_st1 (pc' := 35) (k := 1) f203_34 rfl rfl (by simp only [List.length_cons, List.length_nil]; omega)).trans (by rw [pst1_succ]; rfl)
theorem f203_35 : fetch 203 35 = some (.iinc 2 1, 3, [], .null) := by decide +kernel
theorem w203_35 : Wp d 203 35 [l0, l1, some (.int x)] st h Q = Wp d 203 38 [l0, kl l1, some (.int (x + (1 : Int32)))] st h Q := (W_iinc (y := (1 : Int32)) f203_35 rfl (by simp only [List.length_cons, List.length_nil]; omega) (by decide)).trans (by rw [pst1_succ]; rfl)
theorem f203_38 : fetch 203 38 = some (.goto (-34), 3, [], .null) := by decide +kernel
theorem w203_38 : Wp d 203 38 [l0, l1, l2] st h Q = Wp d 203 4 [l0, l1, l2] st h Q := W_go f203_38 rfl
theorem f203_41 : fetch 203 41 = some (.iload_n 1, 1, [], .null) := by decide +kernel
theorem w203_41 : Wp d 203 41 [l0, some (.int x), l2] st h Q = Wp d 203 42 [l0, some (.int x), l2] (.int x :: st) h Q := W_go f203_41 rfl
theorem f203_42 : fetch 203 42 = some (.ireturn, 1, [], .null) := by decide +kernel
theorem w203_42 : Wp d 203 42 [l0, l1, l2] [.int x] h Q = Q (.inl (some (.int x)), h) := W_iret f203_42 hr203
theorem hm204 : mhs 204 = [] := by decide +kernel
theorem hr204 : mret 204 = (some .int) := by decide +kernel
theorem f204_0 : fetch 204 0 = some (.aload_n 0, 1, [], .null) := by decide +kernel
theorem w204_0 : Wp d 204 0 [some (.ref a)] st h Q = Wp d 204 1 [some (.ref a)] (.ref a :: st) h Q := W_go f204_0 rfl
theorem f204_1 : fetch 204 1 = some (.iconst 0, 1, [], .null) := by decide +kernel
theorem w204_1 : Wp d 204 1 [l0] st h Q = Wp d 204 2 [l0] (.int (0 : Int32) :: st) h Q := W_go f204_1 rfl
theorem f204_2 : fetch 204 2 = some (.putfield 57, 3, [10, 0, 6131, 0], .null) := by decide +kernel
theorem w204_2 : Wp d 204 2 [l0] (v :: .ref a :: st) h Q = pP (h.2 a) 10 0 (ftOf 10 0) v a (fun c => Wp d 204 5 [l0] st (hset h a c) Q) := W_put f204_2 (by rfl)
theorem f204_5 : fetch 204 5 = some (.aload_n 0, 1, [], .null) := by decide +kernel
theorem w204_5 : Wp d 204 5 [some (.ref a)] st h Q = Wp d 204 6 [some (.ref a)] (.ref a :: st) h Q := W_go f204_5 rfl
theorem f204_6 : fetch 204 6 = some (.invokevirtual 302, 3, [203, 1, 11, 0, 8023, 1013, 8026, 8025, 79], .null) := by decide +kernel
theorem w204_6 (hp : psum st ≤ 8) : Wp d 204 6 [l0] ((.ref b) :: st) h Q = rP (h.2 b) 10 (Cp d 203 [(.ref b)] h (fun o => cK o (fun w h2 => Wp d 204 9 [l0] (w.toList ++ st) h2 Q) (fun E h2 => Q (.inr E, h2)))) := (W_invV (st := st) f204_6 rfl rfl (by simp only [List.length_cons]; omega) rfl rfl hp).trans (by simp only [hm204, if_true])
theorem f204_9 : fetch 204 9 = some (.ireturn, 1, [], .null) := by decide +kernel
theorem w204_9 : Wp d 204 9 [l0] [.int x] h Q = Q (.inl (some (.int x)), h) := W_iret f204_9 hr204
theorem hm205 : mhs 205 = [] := by decide +kernel
theorem hr205 : mret 205 = (some .int) := by decide +kernel
theorem f205_0 : fetch 205 0 = some (.aload_n 0, 1, [], .null) := by decide +kernel
theorem w205_0 : Wp d 205 0 [some (.ref a)] st h Q = Wp d 205 1 [some (.ref a)] (.ref a :: st) h Q := W_go f205_0 rfl
theorem f205_1 : fetch 205 1 = some (.iconst 0, 1, [], .null) := by decide +kernel
theorem w205_1 : Wp d 205 1 [l0] st h Q = Wp d 205 2 [l0] (.int (0 : Int32) :: st) h Q := W_go f205_1 rfl
theorem f205_2 : fetch 205 2 = some (.putfield 57, 3, [10, 0, 6131, 0], .null) := by decide +kernel
theorem w205_2 : Wp d 205 2 [l0] (v :: .ref a :: st) h Q = pP (h.2 a) 10 0 (ftOf 10 0) v a (fun c => Wp d 205 5 [l0] st (hset h a c) Q) := W_put f205_2 (by rfl)
theorem f205_5 : fetch 205 5 = some (.aload_n 0, 1, [], .null) := by decide +kernel
theorem w205_5 : Wp d 205 5 [some (.ref a)] st h Q = Wp d 205 6 [some (.ref a)] (.ref a :: st) h Q := W_go f205_5 rfl
theorem f205_6 : fetch 205 6 = some (.getfield 47, 3, [10, 14, 6148, 0], .null) := by decide +kernel
theorem w205_6 : Wp d 205 6 [l0] (.ref a :: st) h Q = gP (h.2 a) 10 14 (fun w => Wp d 205 9 [l0] (w :: st) h Q) := W_get f205_6 rfl
theorem f205_9 : fetch 205 9 = some (.getfield 305, 3, [9, 3, 6045, 1], .null) := by decide +kernel
theorem w205_9 : Wp d 205 9 [l0] (.ref a :: st) h Q = gP (h.2 a) 9 3 (fun w => Wp d 205 12 [l0] (w :: st) h Q) := W_get f205_9 rfl
theorem f205_12 : fetch 205 12 = some (.ireturn, 1, [], .null) := by decide +kernel
theorem w205_12 : Wp d 205 12 [l0] [.int x] h Q = Q (.inl (some (.int x)), h) := W_iret f205_12 hr205
theorem hm206 : mhs 206 = [] := by decide +kernel
theorem hr206 : mret 206 = (some .int) := by decide +kernel
theorem f206_0 : fetch 206 0 = some (.aload_n 0, 1, [], .null) := by decide +kernel
theorem w206_0 : Wp d 206 0 [some (.ref a)] st h Q = Wp d 206 1 [some (.ref a)] (.ref a :: st) h Q := W_go f206_0 rfl
theorem f206_1 : fetch 206 1 = some (.iconst 0, 1, [], .null) := by decide +kernel
theorem w206_1 : Wp d 206 1 [l0] st h Q = Wp d 206 2 [l0] (.int (0 : Int32) :: st) h Q := W_go f206_1 rfl
theorem f206_2 : fetch 206 2 = some (.putfield 57, 3, [10, 0, 6131, 0], .null) := by decide +kernel
theorem w206_2 : Wp d 206 2 [l0] (v :: .ref a :: st) h Q = pP (h.2 a) 10 0 (ftOf 10 0) v a (fun c => Wp d 206 5 [l0] st (hset h a c) Q) := W_put f206_2 (by rfl)
theorem f206_5 : fetch 206 5 = some (.aload_n 0, 1, [], .null) := by decide +kernel
theorem w206_5 : Wp d 206 5 [some (.ref a)] st h Q = Wp d 206 6 [some (.ref a)] (.ref a :: st) h Q := W_go f206_5 rfl
theorem f206_6 : fetch 206 6 = some (.getfield 47, 3, [10, 14, 6148, 0], .null) := by decide +kernel
theorem w206_6 : Wp d 206 6 [l0] (.ref a :: st) h Q = gP (h.2 a) 10 14 (fun w => Wp d 206 9 [l0] (w :: st) h Q) := W_get f206_6 rfl
theorem f206_9 : fetch 206 9 = some (.getfield 308, 3, [9, 0, 6039, 1], .null) := by decide +kernel
theorem w206_9 : Wp d 206 9 [l0] (.ref a :: st) h Q = gP (h.2 a) 9 0 (fun w => Wp d 206 12 [l0] (w :: st) h Q) := W_get f206_9 rfl
theorem f206_12 : fetch 206 12 = some (.ireturn, 1, [], .null) := by decide +kernel
theorem w206_12 : Wp d 206 12 [l0] [.int x] h Q = Q (.inl (some (.int x)), h) := W_iret f206_12 hr206
theorem hm207 : mhs 207 = [] := by decide +kernel
theorem hr207 : mret 207 = (some .int) := by decide +kernel
theorem f207_0 : fetch 207 0 = some (.aload_n 0, 1, [], .null) := by decide +kernel
theorem w207_0 : Wp d 207 0 [some (.ref a)] st h Q = Wp d 207 1 [some (.ref a)] (.ref a :: st) h Q := W_go f207_0 rfl
theorem f207_1 : fetch 207 1 = some (.iconst 0, 1, [], .null) := by decide +kernel
theorem w207_1 : Wp d 207 1 [l0] st h Q = Wp d 207 2 [l0] (.int (0 : Int32) :: st) h Q := W_go f207_1 rfl
theorem f207_2 : fetch 207 2 = some (.putfield 57, 3, [10, 0, 6131, 0], .null) := by decide +kernel
theorem w207_2 : Wp d 207 2 [l0] (v :: .ref a :: st) h Q = pP (h.2 a) 10 0 (ftOf 10 0) v a (fun c => Wp d 207 5 [l0] st (hset h a c) Q) := W_put f207_2 (by rfl)
theorem f207_5 : fetch 207 5 = some (.aload_n 0, 1, [], .null) := by decide +kernel
theorem w207_5 : Wp d 207 5 [some (.ref a)] st h Q = Wp d 207 6 [some (.ref a)] (.ref a :: st) h Q := W_go f207_5 rfl
theorem f207_6 : fetch 207 6 = some (.getfield 47, 3, [10, 14, 6148, 0], .null) := by decide +kernel
theorem w207_6 : Wp d 207 6 [l0] (.ref a :: st) h Q = gP (h.2 a) 10 14 (fun w => Wp d 207 9 [l0] (w :: st) h Q) := W_get f207_6 rfl
theorem f207_9 : fetch 207 9 = some (.getfield 311, 3, [9, 1, 6041, 1], .null) := by decide +kernel
theorem w207_9 : Wp d 207 9 [l0] (.ref a :: st) h Q = gP (h.2 a) 9 1 (fun w => Wp d 207 12 [l0] (w :: st) h Q) := W_get f207_9 rfl
theorem f207_12 : fetch 207 12 = some (.ireturn, 1, [], .null) := by decide +kernel
theorem w207_12 : Wp d 207 12 [l0] [.int x] h Q = Q (.inl (some (.int x)), h) := W_iret f207_12 hr207
theorem hm208 : mhs 208 = [] := by decide +kernel
theorem hr208 : mret 208 = (some .int) := by decide +kernel
theorem f208_0 : fetch 208 0 = some (.aload_n 0, 1, [], .null) := by decide +kernel
theorem w208_0 : Wp d 208 0 [some (.ref a)] st h Q = Wp d 208 1 [some (.ref a)] (.ref a :: st) h Q := W_go f208_0 rfl
theorem f208_1 : fetch 208 1 = some (.iconst 0, 1, [], .null) := by decide +kernel
theorem w208_1 : Wp d 208 1 [l0] st h Q = Wp d 208 2 [l0] (.int (0 : Int32) :: st) h Q := W_go f208_1 rfl
theorem f208_2 : fetch 208 2 = some (.putfield 57, 3, [10, 0, 6131, 0], .null) := by decide +kernel
theorem w208_2 : Wp d 208 2 [l0] (v :: .ref a :: st) h Q = pP (h.2 a) 10 0 (ftOf 10 0) v a (fun c => Wp d 208 5 [l0] st (hset h a c) Q) := W_put f208_2 (by rfl)
theorem f208_5 : fetch 208 5 = some (.aload_n 0, 1, [], .null) := by decide +kernel
theorem w208_5 : Wp d 208 5 [some (.ref a)] st h Q = Wp d 208 6 [some (.ref a)] (.ref a :: st) h Q := W_go f208_5 rfl
theorem f208_6 : fetch 208 6 = some (.getfield 47, 3, [10, 14, 6148, 0], .null) := by decide +kernel
theorem w208_6 : Wp d 208 6 [l0] (.ref a :: st) h Q = gP (h.2 a) 10 14 (fun w => Wp d 208 9 [l0] (w :: st) h Q) := W_get f208_6 rfl
theorem f208_9 : fetch 208 9 = some (.invokevirtual 314, 3, [127, 1, 10, 0, 8043, 1015, 7165, 7163, 7164], .null) := by decide +kernel
theorem w208_9 (hp : psum st ≤ 8) : Wp d 208 9 [l0] ((.ref b) :: st) h Q = rP (h.2 b) 9 (Cp d 127 [(.ref b)] h (fun o => cK o (fun w h2 => Wp d 208 12 [l0] (w.toList ++ st) h2 Q) (fun E h2 => Q (.inr E, h2)))) := (W_invV (st := st) f208_9 rfl rfl (by simp only [List.length_cons]; omega) rfl rfl hp).trans (by simp only [hm208, if_true])
theorem f208_12 : fetch 208 12 = some (.ireturn, 1, [], .null) := by decide +kernel
theorem w208_12 : Wp d 208 12 [l0] [.int x] h Q = Q (.inl (some (.int x)), h) := W_iret f208_12 hr208
theorem hm209 : mhs 209 = [] := by decide +kernel
theorem hr209 : mret 209 = (some .boolean) := by decide +kernel
theorem f209_0 : fetch 209 0 = some (.aload_n 0, 1, [], .null) := by decide +kernel
theorem w209_0 : Wp d 209 0 [some (.ref a)] st h Q = Wp d 209 1 [some (.ref a)] (.ref a :: st) h Q := W_go f209_0 rfl
theorem f209_1 : fetch 209 1 = some (.iconst 0, 1, [], .null) := by decide +kernel
theorem w209_1 : Wp d 209 1 [l0] st h Q = Wp d 209 2 [l0] (.int (0 : Int32) :: st) h Q := W_go f209_1 rfl
theorem f209_2 : fetch 209 2 = some (.putfield 57, 3, [10, 0, 6131, 0], .null) := by decide +kernel
theorem w209_2 : Wp d 209 2 [l0] (v :: .ref a :: st) h Q = pP (h.2 a) 10 0 (ftOf 10 0) v a (fun c => Wp d 209 5 [l0] st (hset h a c) Q) := W_put f209_2 (by rfl)
theorem f209_5 : fetch 209 5 = some (.aload_n 0, 1, [], .null) := by decide +kernel
theorem w209_5 : Wp d 209 5 [some (.ref a)] st h Q = Wp d 209 6 [some (.ref a)] (.ref a :: st) h Q := W_go f209_5 rfl
theorem f209_6 : fetch 209 6 = some (.getfield 47, 3, [10, 14, 6148, 0], .null) := by decide +kernel
theorem w209_6 : Wp d 209 6 [l0] (.ref a :: st) h Q = gP (h.2 a) 10 14 (fun w => Wp d 209 9 [l0] (w :: st) h Q) := W_get f209_6 rfl
theorem f209_9 : fetch 209 9 = some (.invokevirtual 317, 3, [128, 1, 10, 0, 8048, 1015, 7161, 7159, 7160], .null) := by decide +kernel
theorem w209_9 (hp : psum st ≤ 8) : Wp d 209 9 [l0] ((.ref b) :: st) h Q = rP (h.2 b) 9 (Cp d 128 [(.ref b)] h (fun o => cK o (fun w h2 => Wp d 209 12 [l0] (w.toList ++ st) h2 Q) (fun E h2 => Q (.inr E, h2)))) := (W_invV (st := st) f209_9 rfl rfl (by simp only [List.length_cons]; omega) rfl rfl hp).trans (by simp only [hm209, if_true])
theorem f209_12 : fetch 209 12 = some (.ireturn, 1, [], .null) := by decide +kernel
theorem w209_12 : Wp d 209 12 [l0] [.int x] h Q = (if narrow .boolean (.int x) = .int x then Q (.inl (some (.int x)), h) else False) := W_zret f209_12 hr209
theorem hm210 : mhs 210 = [] := by decide +kernel
theorem hr210 : mret 210 = (some .int) := by decide +kernel
theorem f210_0 : fetch 210 0 = some (.aload_n 0, 1, [], .null) := by decide +kernel
theorem w210_0 : Wp d 210 0 [some (.ref a)] st h Q = Wp d 210 1 [some (.ref a)] (.ref a :: st) h Q := W_go f210_0 rfl
theorem f210_1 : fetch 210 1 = some (.iconst 0, 1, [], .null) := by decide +kernel
theorem w210_1 : Wp d 210 1 [l0] st h Q = Wp d 210 2 [l0] (.int (0 : Int32) :: st) h Q := W_go f210_1 rfl
theorem f210_2 : fetch 210 2 = some (.putfield 57, 3, [10, 0, 6131, 0], .null) := by decide +kernel
theorem w210_2 : Wp d 210 2 [l0] (v :: .ref a :: st) h Q = pP (h.2 a) 10 0 (ftOf 10 0) v a (fun c => Wp d 210 5 [l0] st (hset h a c) Q) := W_put f210_2 (by rfl)
theorem f210_5 : fetch 210 5 = some (.aload_n 0, 1, [], .null) := by decide +kernel
theorem w210_5 : Wp d 210 5 [some (.ref a)] st h Q = Wp d 210 6 [some (.ref a)] (.ref a :: st) h Q := W_go f210_5 rfl
theorem f210_6 : fetch 210 6 = some (.getfield 67, 3, [10, 12, 6145, 0], .null) := by decide +kernel
theorem w210_6 : Wp d 210 6 [l0] (.ref a :: st) h Q = gP (h.2 a) 10 12 (fun w => Wp d 210 9 [l0] (w :: st) h Q) := W_get f210_6 rfl
theorem f210_9 : fetch 210 9 = some (.ireturn, 1, [], .null) := by decide +kernel
theorem w210_9 : Wp d 210 9 [l0] [.int x] h Q = Q (.inl (some (.int x)), h) := W_iret f210_9 hr210
theorem hm211 : mhs 211 = [] := by decide +kernel
theorem hr211 : mret 211 = (some .int) := by decide +kernel
theorem f211_0 : fetch 211 0 = some (.aload_n 0, 1, [], .null) := by decide +kernel
theorem w211_0 : Wp d 211 0 [some (.ref a), l1] st h Q = Wp d 211 1 [some (.ref a), l1] (.ref a :: st) h Q := W_go f211_0 rfl
theorem f211_1 : fetch 211 1 = some (.iconst 0, 1, [], .null) := by decide +kernel
theorem w211_1 : Wp d 211 1 [l0, l1] st h Q = Wp d 211 2 [l0, l1] (.int (0 : Int32) :: st) h Q := W_go f211_1 rfl
theorem f211_2 : fetch 211 2 = some (.putfield 57, 3, [10, 0, 6131, 0], .null) := by decide +kernel
theorem w211_2 : Wp d 211 2 [l0, l1] (v :: .ref a :: st) h Q = pP (h.2 a) 10 0 (ftOf 10 0) v a (fun c => Wp d 211 5 [l0, l1] st (hset h a c) Q) := W_put f211_2 (by rfl)
theorem f211_5 : fetch 211 5 = some (.aload_n 0, 1, [], .null) := by decide +kernel
theorem w211_5 : Wp d 211 5 [some (.ref a), l1] st h Q = Wp d 211 6 [some (.ref a), l1] (.ref a :: st) h Q := W_go f211_5 rfl
theorem f211_6 : fetch 211 6 = some (.iload_n 1, 1, [], .null) := by decide +kernel
theorem w211_6 : Wp d 211 6 [l0, some (.int x)] st h Q = Wp d 211 7 [l0, some (.int x)] (.int x :: st) h Q := W_go f211_6 rfl
theorem f211_7 : fetch 211 7 = some (.invokevirtual 259, 3, [150, 2, 11, 0, 7101, 1013, 7104, 7103, 64], .null) := by decide +kernel
theorem w211_7 (hp : psum st ≤ 8) : Wp d 211 7 [l0, l1] (v1 :: (.ref b) :: st) h Q = rP (h.2 b) 10 (Cp d 150 [(.ref b), v1] h (fun o => cK o (fun w h2 => Wp d 211 10 [l0, l1] (w.toList ++ st) h2 Q) (fun E h2 => Q (.inr E, h2)))) := (W_invV (st := st) f211_7 rfl rfl (by simp only [List.length_cons]; omega) rfl rfl hp).trans (by simp only [hm211, if_true])
theorem f211_10 : fetch 211 10 = some (.ifCond .eq 15, 3, [], .null) := by decide +kernel
theorem w211_10 : Wp d 211 10 [l0, l1] (.int x :: st) h Q = if icond .eq x 0 = true then Wp d 211 25 [l0, l1] st h Q else Wp d 211 13 [l0, l1] st h Q := W_if f211_10 rfl
theorem f211_13 : fetch 211 13 = some (.aload_n 0, 1, [], .null) := by decide +kernel
theorem w211_13 : Wp d 211 13 [some (.ref a), l1] st h Q = Wp d 211 14 [some (.ref a), l1] (.ref a :: st) h Q := W_go f211_13 rfl
theorem f211_14 : fetch 211 14 = some (.getfield 47, 3, [10, 14, 6148, 0], .null) := by decide +kernel
theorem w211_14 : Wp d 211 14 [l0, l1] (.ref a :: st) h Q = gP (h.2 a) 10 14 (fun w => Wp d 211 17 [l0, l1] (w :: st) h Q) := W_get f211_14 rfl
theorem f211_17 : fetch 211 17 = some (.getfield 320, 3, [9, 10, 6058, 1], .null) := by decide +kernel
theorem w211_17 : Wp d 211 17 [l0, l1] (.ref a :: st) h Q = gP (h.2 a) 9 10 (fun w => Wp d 211 20 [l0, l1] (w :: st) h Q) := W_get f211_17 rfl
theorem f211_20 : fetch 211 20 = some (.iload_n 1, 1, [], .null) := by decide +kernel
theorem w211_20 : Wp d 211 20 [l0, some (.int x)] st h Q = Wp d 211 21 [l0, some (.int x)] (.int x :: st) h Q := W_go f211_20 rfl
theorem f211_21 : fetch 211 21 = some (.iaload, 1, [], .null) := by decide +kernel
theorem w211_21 : Wp d 211 21 [l0, l1] (.int x :: .ref a :: st) h Q = aP false (h.2 a) x (fun w => Wp d 211 22 [l0, l1] (.int w :: st) h Q) := W_ald f211_21 rfl
theorem f211_22 : fetch 211 22 = some (.goto 8, 3, [], .null) := by decide +kernel
theorem w211_22 : Wp d 211 22 [l0, l1] st h Q = Wp d 211 30 [l0, l1] st h Q := W_go f211_22 rfl
theorem f211_25 : fetch 211 25 = some (.aload_n 0, 1, [], .null) := by decide +kernel
theorem w211_25 : Wp d 211 25 [some (.ref a), l1] st h Q = Wp d 211 26 [some (.ref a), l1] (.ref a :: st) h Q := W_go f211_25 rfl
theorem f211_26 : fetch 211 26 = some (.iconst 1, 1, [], .null) := by decide +kernel
theorem w211_26 : Wp d 211 26 [l0, l1] st h Q = Wp d 211 27 [l0, l1] (.int (1 : Int32) :: st) h Q := W_go f211_26 rfl
theorem f211_27 : fetch 211 27 = some (.invokevirtual 249, 3, [146, 2, 11, 0, 6191, 1013, 6194, 6193, 35], .null) := by decide +kernel
theorem w211_27 (hp : psum st ≤ 8) : Wp d 211 27 [l0, l1] (v1 :: (.ref b) :: st) h Q = rP (h.2 b) 10 (Cp d 146 [(.ref b), v1] h (fun o => cK o (fun w h2 => Wp d 211 30 [l0, l1] (w.toList ++ st) h2 Q) (fun E h2 => Q (.inr E, h2)))) := (W_invV (st := st) f211_27 rfl rfl (by simp only [List.length_cons]; omega) rfl rfl hp).trans (by simp only [hm211, if_true])
theorem f211_30 : fetch 211 30 = some (.ireturn, 1, [], .null) := by decide +kernel
theorem w211_30 : Wp d 211 30 [l0, l1] [.int x] h Q = Q (.inl (some (.int x)), h) := W_iret f211_30 hr211
theorem hm212 : mhs 212 = [] := by decide +kernel
theorem hr212 : mret 212 = (some .int) := by decide +kernel
theorem f212_0 : fetch 212 0 = some (.aload_n 0, 1, [], .null) := by decide +kernel
theorem w212_0 : Wp d 212 0 [some (.ref a), l1] st h Q = Wp d 212 1 [some (.ref a), l1] (.ref a :: st) h Q := W_go f212_0 rfl
theorem f212_1 : fetch 212 1 = some (.iconst 0, 1, [], .null) := by decide +kernel
theorem w212_1 : Wp d 212 1 [l0, l1] st h Q = Wp d 212 2 [l0, l1] (.int (0 : Int32) :: st) h Q := W_go f212_1 rfl
theorem f212_2 : fetch 212 2 = some (.putfield 57, 3, [10, 0, 6131, 0], .null) := by decide +kernel
theorem w212_2 : Wp d 212 2 [l0, l1] (v :: .ref a :: st) h Q = pP (h.2 a) 10 0 (ftOf 10 0) v a (fun c => Wp d 212 5 [l0, l1] st (hset h a c) Q) := W_put f212_2 (by rfl)
theorem f212_5 : fetch 212 5 = some (.aload_n 0, 1, [], .null) := by decide +kernel
theorem w212_5 : Wp d 212 5 [some (.ref a), l1] st h Q = Wp d 212 6 [some (.ref a), l1] (.ref a :: st) h Q := W_go f212_5 rfl
theorem f212_6 : fetch 212 6 = some (.iload_n 1, 1, [], .null) := by decide +kernel
theorem w212_6 : Wp d 212 6 [l0, some (.int x)] st h Q = Wp d 212 7 [l0, some (.int x)] (.int x :: st) h Q := W_go f212_6 rfl
theorem f212_7 : fetch 212 7 = some (.invokevirtual 259, 3, [150, 2, 11, 0, 7101, 1013, 7104, 7103, 64], .null) := by decide +kernel
theorem w212_7 (hp : psum st ≤ 8) : Wp d 212 7 [l0, l1] (v1 :: (.ref b) :: st) h Q = rP (h.2 b) 10 (Cp d 150 [(.ref b), v1] h (fun o => cK o (fun w h2 => Wp d 212 10 [l0, l1] (w.toList ++ st) h2 Q) (fun E h2 => Q (.inr E, h2)))) := (W_invV (st := st) f212_7 rfl rfl (by simp only [List.length_cons]; omega) rfl rfl hp).trans (by simp only [hm212, if_true])
theorem f212_10 : fetch 212 10 = some (.ifCond .eq 15, 3, [], .null) := by decide +kernel
theorem w212_10 : Wp d 212 10 [l0, l1] (.int x :: st) h Q = if icond .eq x 0 = true then Wp d 212 25 [l0, l1] st h Q else Wp d 212 13 [l0, l1] st h Q := W_if f212_10 rfl
theorem f212_13 : fetch 212 13 = some (.aload_n 0, 1, [], .null) := by decide +kernel
theorem w212_13 : Wp d 212 13 [some (.ref a), l1] st h Q = Wp d 212 14 [some (.ref a), l1] (.ref a :: st) h Q := W_go f212_13 rfl
theorem f212_14 : fetch 212 14 = some (.getfield 47, 3, [10, 14, 6148, 0], .null) := by decide +kernel
theorem w212_14 : Wp d 212 14 [l0, l1] (.ref a :: st) h Q = gP (h.2 a) 10 14 (fun w => Wp d 212 17 [l0, l1] (w :: st) h Q) := W_get f212_14 rfl
theorem f212_17 : fetch 212 17 = some (.getfield 323, 3, [9, 9, 6056, 1], .null) := by decide +kernel
theorem w212_17 : Wp d 212 17 [l0, l1] (.ref a :: st) h Q = gP (h.2 a) 9 9 (fun w => Wp d 212 20 [l0, l1] (w :: st) h Q) := W_get f212_17 rfl
theorem f212_20 : fetch 212 20 = some (.iload_n 1, 1, [], .null) := by decide +kernel
theorem w212_20 : Wp d 212 20 [l0, some (.int x)] st h Q = Wp d 212 21 [l0, some (.int x)] (.int x :: st) h Q := W_go f212_20 rfl
theorem f212_21 : fetch 212 21 = some (.iaload, 1, [], .null) := by decide +kernel
theorem w212_21 : Wp d 212 21 [l0, l1] (.int x :: .ref a :: st) h Q = aP false (h.2 a) x (fun w => Wp d 212 22 [l0, l1] (.int w :: st) h Q) := W_ald f212_21 rfl
theorem f212_22 : fetch 212 22 = some (.goto 8, 3, [], .null) := by decide +kernel
theorem w212_22 : Wp d 212 22 [l0, l1] st h Q = Wp d 212 30 [l0, l1] st h Q := W_go f212_22 rfl
theorem f212_25 : fetch 212 25 = some (.aload_n 0, 1, [], .null) := by decide +kernel
theorem w212_25 : Wp d 212 25 [some (.ref a), l1] st h Q = Wp d 212 26 [some (.ref a), l1] (.ref a :: st) h Q := W_go f212_25 rfl
theorem f212_26 : fetch 212 26 = some (.iconst 1, 1, [], .null) := by decide +kernel
theorem w212_26 : Wp d 212 26 [l0, l1] st h Q = Wp d 212 27 [l0, l1] (.int (1 : Int32) :: st) h Q := W_go f212_26 rfl
theorem f212_27 : fetch 212 27 = some (.invokevirtual 249, 3, [146, 2, 11, 0, 6191, 1013, 6194, 6193, 35], .null) := by decide +kernel
theorem w212_27 (hp : psum st ≤ 8) : Wp d 212 27 [l0, l1] (v1 :: (.ref b) :: st) h Q = rP (h.2 b) 10 (Cp d 146 [(.ref b), v1] h (fun o => cK o (fun w h2 => Wp d 212 30 [l0, l1] (w.toList ++ st) h2 Q) (fun E h2 => Q (.inr E, h2)))) := (W_invV (st := st) f212_27 rfl rfl (by simp only [List.length_cons]; omega) rfl rfl hp).trans (by simp only [hm212, if_true])
theorem f212_30 : fetch 212 30 = some (.ireturn, 1, [], .null) := by decide +kernel
theorem w212_30 : Wp d 212 30 [l0, l1] [.int x] h Q = Q (.inl (some (.int x)), h) := W_iret f212_30 hr212
theorem hm213 : mhs 213 = [] := by decide +kernel
theorem hr213 : mret 213 = (some .boolean) := by decide +kernel
theorem f213_0 : fetch 213 0 = some (.aload_n 0, 1, [], .null) := by decide +kernel
theorem w213_0 : Wp d 213 0 [some (.ref a), l1] st h Q = Wp d 213 1 [some (.ref a), l1] (.ref a :: st) h Q := W_go f213_0 rfl
theorem f213_1 : fetch 213 1 = some (.iconst 0, 1, [], .null) := by decide +kernel
theorem w213_1 : Wp d 213 1 [l0, l1] st h Q = Wp d 213 2 [l0, l1] (.int (0 : Int32) :: st) h Q := W_go f213_1 rfl
theorem f213_2 : fetch 213 2 = some (.putfield 57, 3, [10, 0, 6131, 0], .null) := by decide +kernel
theorem w213_2 : Wp d 213 2 [l0, l1] (v :: .ref a :: st) h Q = pP (h.2 a) 10 0 (ftOf 10 0) v a (fun c => Wp d 213 5 [l0, l1] st (hset h a c) Q) := W_put f213_2 (by rfl)
theorem f213_5 : fetch 213 5 = some (.aload_n 0, 1, [], .null) := by decide +kernel
theorem w213_5 : Wp d 213 5 [some (.ref a), l1] st h Q = Wp d 213 6 [some (.ref a), l1] (.ref a :: st) h Q := W_go f213_5 rfl
theorem f213_6 : fetch 213 6 = some (.iload_n 1, 1, [], .null) := by decide +kernel
theorem w213_6 : Wp d 213 6 [l0, some (.int x)] st h Q = Wp d 213 7 [l0, some (.int x)] (.int x :: st) h Q := W_go f213_6 rfl
theorem f213_7 : fetch 213 7 = some (.invokevirtual 259, 3, [150, 2, 11, 0, 7101, 1013, 7104, 7103, 64], .null) := by decide +kernel
theorem w213_7 (hp : psum st ≤ 8) : Wp d 213 7 [l0, l1] (v1 :: (.ref b) :: st) h Q = rP (h.2 b) 10 (Cp d 150 [(.ref b), v1] h (fun o => cK o (fun w h2 => Wp d 213 10 [l0, l1] (w.toList ++ st) h2 Q) (fun E h2 => Q (.inr E, h2)))) := (W_invV (st := st) f213_7 rfl rfl (by simp only [List.length_cons]; omega) rfl rfl hp).trans (by simp only [hm213, if_true])
theorem f213_10 : fetch 213 10 = some (.ifCond .eq 24, 3, [], .null) := by decide +kernel
theorem w213_10 : Wp d 213 10 [l0, l1] (.int x :: st) h Q = if icond .eq x 0 = true then Wp d 213 34 [l0, l1] st h Q else Wp d 213 13 [l0, l1] st h Q := W_if f213_10 rfl
theorem f213_13 : fetch 213 13 = some (.aload_n 0, 1, [], .null) := by decide +kernel
theorem w213_13 : Wp d 213 13 [some (.ref a), l1] st h Q = Wp d 213 14 [some (.ref a), l1] (.ref a :: st) h Q := W_go f213_13 rfl
theorem f213_14 : fetch 213 14 = some (.getfield 47, 3, [10, 14, 6148, 0], .null) := by decide +kernel
theorem w213_14 : Wp d 213 14 [l0, l1] (.ref a :: st) h Q = gP (h.2 a) 10 14 (fun w => Wp d 213 17 [l0, l1] (w :: st) h Q) := W_get f213_14 rfl
theorem f213_17 : fetch 213 17 = some (.getfield 262, 3, [9, 11, 6060, 1], .null) := by decide +kernel
theorem w213_17 : Wp d 213 17 [l0, l1] (.ref a :: st) h Q = gP (h.2 a) 9 11 (fun w => Wp d 213 20 [l0, l1] (w :: st) h Q) := W_get f213_17 rfl
theorem f213_20 : fetch 213 20 = some (.iload_n 1, 1, [], .null) := by decide +kernel
theorem w213_20 : Wp d 213 20 [l0, some (.int x)] st h Q = Wp d 213 21 [l0, some (.int x)] (.int x :: st) h Q := W_go f213_20 rfl
theorem f213_21 : fetch 213 21 = some (.iaload, 1, [], .null) := by decide +kernel
theorem w213_21 : Wp d 213 21 [l0, l1] (.int x :: .ref a :: st) h Q = aP false (h.2 a) x (fun w => Wp d 213 22 [l0, l1] (.int w :: st) h Q) := W_ald f213_21 rfl
theorem f213_22 : fetch 213 22 = some (.iconst (-1), 1, [], .null) := by decide +kernel
theorem w213_22 : Wp d 213 22 [l0, l1] st h Q = Wp d 213 23 [l0, l1] (.int (-1 : Int32) :: st) h Q := W_go f213_22 rfl
theorem f213_23 : fetch 213 23 = some (.if_icmp .eq 7, 3, [], .null) := by decide +kernel
theorem w213_23 : Wp d 213 23 [l0, l1] (.int y :: .int x :: st) h Q = if icond .eq x y = true then Wp d 213 30 [l0, l1] st h Q else Wp d 213 26 [l0, l1] st h Q := W_if f213_23 rfl
theorem f213_26 : fetch 213 26 = some (.iconst 1, 1, [], .null) := by decide +kernel
theorem w213_26 : Wp d 213 26 [l0, l1] st h Q = Wp d 213 27 [l0, l1] (.int (1 : Int32) :: st) h Q := W_go f213_26 rfl
theorem f213_27 : fetch 213 27 = some (.goto 12, 3, [], .null) := by decide +kernel
theorem w213_27 : Wp d 213 27 [l0, l1] st h Q = Wp d 213 39 [l0, l1] st h Q := W_go f213_27 rfl
theorem f213_30 : fetch 213 30 = some (.iconst 0, 1, [], .null) := by decide +kernel
theorem w213_30 : Wp d 213 30 [l0, l1] st h Q = Wp d 213 31 [l0, l1] (.int (0 : Int32) :: st) h Q := W_go f213_30 rfl
theorem f213_31 : fetch 213 31 = some (.goto 8, 3, [], .null) := by decide +kernel
theorem w213_31 : Wp d 213 31 [l0, l1] st h Q = Wp d 213 39 [l0, l1] st h Q := W_go f213_31 rfl
theorem f213_34 : fetch 213 34 = some (.aload_n 0, 1, [], .null) := by decide +kernel
theorem w213_34 : Wp d 213 34 [some (.ref a), l1] st h Q = Wp d 213 35 [some (.ref a), l1] (.ref a :: st) h Q := W_go f213_34 rfl
theorem f213_35 : fetch 213 35 = some (.iconst 1, 1, [], .null) := by decide +kernel
theorem w213_35 : Wp d 213 35 [l0, l1] st h Q = Wp d 213 36 [l0, l1] (.int (1 : Int32) :: st) h Q := W_go f213_35 rfl
theorem f213_36 : fetch 213 36 = some (.invokevirtual 278, 3, [147, 2, 11, 0, 7129, 1013, 7132, 7131, 67], .null) := by decide +kernel
theorem w213_36 (hp : psum st ≤ 8) : Wp d 213 36 [l0, l1] (v1 :: (.ref b) :: st) h Q = rP (h.2 b) 10 (Cp d 147 [(.ref b), v1] h (fun o => cK o (fun w h2 => Wp d 213 39 [l0, l1] (w.toList ++ st) h2 Q) (fun E h2 => Q (.inr E, h2)))) := (W_invV (st := st) f213_36 rfl rfl (by simp only [List.length_cons]; omega) rfl rfl hp).trans (by simp only [hm213, if_true])
theorem f213_39 : fetch 213 39 = some (.ireturn, 1, [], .null) := by decide +kernel
theorem w213_39 : Wp d 213 39 [l0, l1] [.int x] h Q = (if narrow .boolean (.int x) = .int x then Q (.inl (some (.int x)), h) else False) := W_zret f213_39 hr213
theorem hm214 : mhs 214 = [] := by decide +kernel
theorem hr214 : mret 214 = (some .int) := by decide +kernel
theorem f214_0 : fetch 214 0 = some (.aload_n 0, 1, [], .null) := by decide +kernel
theorem w214_0 : Wp d 214 0 [some (.ref a), l1] st h Q = Wp d 214 1 [some (.ref a), l1] (.ref a :: st) h Q := W_go f214_0 rfl
theorem f214_1 : fetch 214 1 = some (.iconst 0, 1, [], .null) := by decide +kernel
theorem w214_1 : Wp d 214 1 [l0, l1] st h Q = Wp d 214 2 [l0, l1] (.int (0 : Int32) :: st) h Q := W_go f214_1 rfl
theorem f214_2 : fetch 214 2 = some (.putfield 57, 3, [10, 0, 6131, 0], .null) := by decide +kernel
theorem w214_2 : Wp d 214 2 [l0, l1] (v :: .ref a :: st) h Q = pP (h.2 a) 10 0 (ftOf 10 0) v a (fun c => Wp d 214 5 [l0, l1] st (hset h a c) Q) := W_put f214_2 (by rfl)
theorem f214_5 : fetch 214 5 = some (.aload_n 0, 1, [], .null) := by decide +kernel
theorem w214_5 : Wp d 214 5 [some (.ref a), l1] st h Q = Wp d 214 6 [some (.ref a), l1] (.ref a :: st) h Q := W_go f214_5 rfl
theorem f214_6 : fetch 214 6 = some (.iload_n 1, 1, [], .null) := by decide +kernel
theorem w214_6 : Wp d 214 6 [l0, some (.int x)] st h Q = Wp d 214 7 [l0, some (.int x)] (.int x :: st) h Q := W_go f214_6 rfl
theorem f214_7 : fetch 214 7 = some (.invokevirtual 259, 3, [150, 2, 11, 0, 7101, 1013, 7104, 7103, 64], .null) := by decide +kernel
theorem w214_7 (hp : psum st ≤ 8) : Wp d 214 7 [l0, l1] (v1 :: (.ref b) :: st) h Q = rP (h.2 b) 10 (Cp d 150 [(.ref b), v1] h (fun o => cK o (fun w h2 => Wp d 214 10 [l0, l1] (w.toList ++ st) h2 Q) (fun E h2 => Q (.inr E, h2)))) := (W_invV (st := st) f214_7 rfl rfl (by simp only [List.length_cons]; omega) rfl rfl hp).trans (by simp only [hm214, if_true])
theorem f214_10 : fetch 214 10 = some (.ifCond .ne 9, 3, [], .null) := by decide +kernel
theorem w214_10 : Wp d 214 10 [l0, l1] (.int x :: st) h Q = if icond .ne x 0 = true then Wp d 214 19 [l0, l1] st h Q else Wp d 214 13 [l0, l1] st h Q := W_if f214_10 rfl
theorem f214_13 : fetch 214 13 = some (.aload_n 0, 1, [], .null) := by decide +kernel
theorem w214_13 : Wp d 214 13 [some (.ref a), l1] st h Q = Wp d 214 14 [some (.ref a), l1] (.ref a :: st) h Q := W_go f214_13 rfl
theorem f214_14 : fetch 214 14 = some (.iconst 1, 1, [], .null) := by decide +kernel
theorem w214_14 : Wp d 214 14 [l0, l1] st h Q = Wp d 214 15 [l0, l1] (.int (1 : Int32) :: st) h Q := W_go f214_14 rfl
theorem f214_15 : fetch 214 15 = some (.invokevirtual 249, 3, [146, 2, 11, 0, 6191, 1013, 6194, 6193, 35], .null) := by decide +kernel
theorem w214_15 (hp : psum st ≤ 8) : Wp d 214 15 [l0, l1] (v1 :: (.ref b) :: st) h Q = rP (h.2 b) 10 (Cp d 146 [(.ref b), v1] h (fun o => cK o (fun w h2 => Wp d 214 18 [l0, l1] (w.toList ++ st) h2 Q) (fun E h2 => Q (.inr E, h2)))) := (W_invV (st := st) f214_15 rfl rfl (by simp only [List.length_cons]; omega) rfl rfl hp).trans (by simp only [hm214, if_true])
theorem f214_18 : fetch 214 18 = some (.ireturn, 1, [], .null) := by decide +kernel
theorem w214_18 : Wp d 214 18 [l0, l1] [.int x] h Q = Q (.inl (some (.int x)), h) := W_iret f214_18 hr214
theorem f214_19 : fetch 214 19 = some (.aload_n 0, 1, [], .null) := by decide +kernel
theorem w214_19 : Wp d 214 19 [some (.ref a), l1] st h Q = Wp d 214 20 [some (.ref a), l1] (.ref a :: st) h Q := W_go f214_19 rfl
theorem f214_20 : fetch 214 20 = some (.getfield 47, 3, [10, 14, 6148, 0], .null) := by decide +kernel
theorem w214_20 : Wp d 214 20 [l0, l1] (.ref a :: st) h Q = gP (h.2 a) 10 14 (fun w => Wp d 214 23 [l0, l1] (w :: st) h Q) := W_get f214_20 rfl
theorem f214_23 : fetch 214 23 = some (.getfield 262, 3, [9, 11, 6060, 1], .null) := by decide +kernel
theorem w214_23 : Wp d 214 23 [l0, l1] (.ref a :: st) h Q = gP (h.2 a) 9 11 (fun w => Wp d 214 26 [l0, l1] (w :: st) h Q) := W_get f214_23 rfl
theorem f214_26 : fetch 214 26 = some (.iload_n 1, 1, [], .null) := by decide +kernel
theorem w214_26 : Wp d 214 26 [l0, some (.int x)] st h Q = Wp d 214 27 [l0, some (.int x)] (.int x :: st) h Q := W_go f214_26 rfl
theorem f214_27 : fetch 214 27 = some (.iaload, 1, [], .null) := by decide +kernel
theorem w214_27 : Wp d 214 27 [l0, l1] (.int x :: .ref a :: st) h Q = aP false (h.2 a) x (fun w => Wp d 214 28 [l0, l1] (.int w :: st) h Q) := W_ald f214_27 rfl
theorem f214_28 : fetch 214 28 = some (.iconst (-1), 1, [], .null) := by decide +kernel
theorem w214_28 : Wp d 214 28 [l0, l1] st h Q = Wp d 214 29 [l0, l1] (.int (-1 : Int32) :: st) h Q := W_go f214_28 rfl
theorem f214_29 : fetch 214 29 = some (.if_icmp .ne 11, 3, [], .null) := by decide +kernel
theorem w214_29 : Wp d 214 29 [l0, l1] (.int y :: .int x :: st) h Q = if icond .ne x y = true then Wp d 214 40 [l0, l1] st h Q else Wp d 214 32 [l0, l1] st h Q := W_if f214_29 rfl
theorem f214_32 : fetch 214 32 = some (.aload_n 0, 1, [], .null) := by decide +kernel
theorem w214_32 : Wp d 214 32 [some (.ref a), l1] st h Q = Wp d 214 33 [some (.ref a), l1] (.ref a :: st) h Q := W_go f214_32 rfl
theorem f214_33 : fetch 214 33 = some (.iconst 2, 1, [], .null) := by decide +kernel
theorem w214_33 : Wp d 214 33 [l0, l1] st h Q = Wp d 214 34 [l0, l1] (.int (2 : Int32) :: st) h Q := W_go f214_33 rfl
theorem f214_34 : fetch 214 34 = some (.invokevirtual 249, 3, [146, 2, 11, 0, 6191, 1013, 6194, 6193, 35], .null) := by decide +kernel
theorem w214_34 (hp : psum st ≤ 8) : Wp d 214 34 [l0, l1] (v1 :: (.ref b) :: st) h Q = rP (h.2 b) 10 (Cp d 146 [(.ref b), v1] h (fun o => cK o (fun w h2 => Wp d 214 37 [l0, l1] (w.toList ++ st) h2 Q) (fun E h2 => Q (.inr E, h2)))) := (W_invV (st := st) f214_34 rfl rfl (by simp only [List.length_cons]; omega) rfl rfl hp).trans (by simp only [hm214, if_true])
theorem f214_37 : fetch 214 37 = some (.goto 12, 3, [], .null) := by decide +kernel
theorem w214_37 : Wp d 214 37 [l0, l1] st h Q = Wp d 214 49 [l0, l1] st h Q := W_go f214_37 rfl
theorem f214_40 : fetch 214 40 = some (.aload_n 0, 1, [], .null) := by decide +kernel
theorem w214_40 : Wp d 214 40 [some (.ref a), l1] st h Q = Wp d 214 41 [some (.ref a), l1] (.ref a :: st) h Q := W_go f214_40 rfl
theorem f214_41 : fetch 214 41 = some (.getfield 47, 3, [10, 14, 6148, 0], .null) := by decide +kernel
theorem w214_41 : Wp d 214 41 [l0, l1] (.ref a :: st) h Q = gP (h.2 a) 10 14 (fun w => Wp d 214 44 [l0, l1] (w :: st) h Q) := W_get f214_41 rfl
theorem f214_44 : fetch 214 44 = some (.getfield 262, 3, [9, 11, 6060, 1], .null) := by decide +kernel
theorem w214_44 : Wp d 214 44 [l0, l1] (.ref a :: st) h Q = gP (h.2 a) 9 11 (fun w => Wp d 214 47 [l0, l1] (w :: st) h Q) := W_get f214_44 rfl
theorem f214_47 : fetch 214 47 = some (.iload_n 1, 1, [], .null) := by decide +kernel
theorem w214_47 : Wp d 214 47 [l0, some (.int x)] st h Q = Wp d 214 48 [l0, some (.int x)] (.int x :: st) h Q := W_go f214_47 rfl
theorem f214_48 : fetch 214 48 = some (.iaload, 1, [], .null) := by decide +kernel
theorem w214_48 : Wp d 214 48 [l0, l1] (.int x :: .ref a :: st) h Q = aP false (h.2 a) x (fun w => Wp d 214 49 [l0, l1] (.int w :: st) h Q) := W_ald f214_48 rfl
theorem f214_49 : fetch 214 49 = some (.ireturn, 1, [], .null) := by decide +kernel
theorem w214_49 : Wp d 214 49 [l0, l1] [.int x] h Q = Q (.inl (some (.int x)), h) := W_iret f214_49 hr214
theorem hm215 : mhs 215 = [] := by decide +kernel
theorem hr215 : mret 215 = (some .boolean) := by decide +kernel
theorem f215_0 : fetch 215 0 = some (.aload_n 0, 1, [], .null) := by decide +kernel
theorem w215_0 : Wp d 215 0 [some (.ref a), l1] st h Q = Wp d 215 1 [some (.ref a), l1] (.ref a :: st) h Q := W_go f215_0 rfl
theorem f215_1 : fetch 215 1 = some (.getfield 47, 3, [10, 14, 6148, 0], .null) := by decide +kernel
theorem w215_1 : Wp d 215 1 [l0, l1] (.ref a :: st) h Q = gP (h.2 a) 10 14 (fun w => Wp d 215 4 [l0, l1] (w :: st) h Q) := W_get f215_1 rfl
theorem f215_4 : fetch 215 4 = some (.getfield 326, 3, [9, 12, 6062, 1], .null) := by decide +kernel
theorem w215_4 : Wp d 215 4 [l0, l1] (.ref a :: st) h Q = gP (h.2 a) 9 12 (fun w => Wp d 215 7 [l0, l1] (w :: st) h Q) := W_get f215_4 rfl
theorem f215_7 : fetch 215 7 = some (.iload_n 1, 1, [], .null) := by decide +kernel
theorem w215_7 : Wp d 215 7 [l0, some (.int x)] st h Q = Wp d 215 8 [l0, some (.int x)] (.int x :: st) h Q := W_go f215_7 rfl
theorem f215_8 : fetch 215 8 = some (.iaload, 1, [], .null) := by decide +kernel
theorem w215_8 : Wp d 215 8 [l0, l1] (.int x :: .ref a :: st) h Q = aP false (h.2 a) x (fun w => Wp d 215 9 [l0, l1] (.int w :: st) h Q) := W_ald f215_8 rfl
theorem f215_9 : fetch 215 9 = some (.iconst (-1), 1, [], .null) := by decide +kernel
theorem w215_9 : Wp d 215 9 [l0, l1] st h Q = Wp d 215 10 [l0, l1] (.int (-1 : Int32) :: st) h Q := W_go f215_9 rfl
theorem f215_10 : fetch 215 10 = some (.if_icmp .ne 19, 3, [], .null) := by decide +kernel
theorem w215_10 : Wp d 215 10 [l0, l1] (.int y :: .int x :: st) h Q = if icond .ne x y = true then Wp d 215 29 [l0, l1] st h Q else Wp d 215 13 [l0, l1] st h Q := W_if f215_10 rfl
theorem f215_13 : fetch 215 13 = some (.aload_n 0, 1, [], .null) := by decide +kernel
theorem w215_13 : Wp d 215 13 [some (.ref a), l1] st h Q = Wp d 215 14 [some (.ref a), l1] (.ref a :: st) h Q := W_go f215_13 rfl
theorem f215_14 : fetch 215 14 = some (.getfield 47, 3, [10, 14, 6148, 0], .null) := by decide +kernel
theorem w215_14 : Wp d 215 14 [l0, l1] (.ref a :: st) h Q = gP (h.2 a) 10 14 (fun w => Wp d 215 17 [l0, l1] (w :: st) h Q) := W_get f215_14 rfl
theorem f215_17 : fetch 215 17 = some (.getfield 329, 3, [9, 16, 6070, 1], .null) := by decide +kernel
theorem w215_17 : Wp d 215 17 [l0, l1] (.ref a :: st) h Q = gP (h.2 a) 9 16 (fun w => Wp d 215 20 [l0, l1] (w :: st) h Q) := W_get f215_17 rfl
theorem f215_20 : fetch 215 20 = some (.iload_n 1, 1, [], .null) := by decide +kernel
theorem w215_20 : Wp d 215 20 [l0, some (.int x)] st h Q = Wp d 215 21 [l0, some (.int x)] (.int x :: st) h Q := W_go f215_20 rfl
theorem f215_21 : fetch 215 21 = some (.iaload, 1, [], .null) := by decide +kernel
theorem w215_21 : Wp d 215 21 [l0, l1] (.int x :: .ref a :: st) h Q = aP false (h.2 a) x (fun w => Wp d 215 22 [l0, l1] (.int w :: st) h Q) := W_ald f215_21 rfl
theorem f215_22 : fetch 215 22 = some (.ifCond .ne 7, 3, [], .null) := by decide +kernel
theorem w215_22 : Wp d 215 22 [l0, l1] (.int x :: st) h Q = if icond .ne x 0 = true then Wp d 215 29 [l0, l1] st h Q else Wp d 215 25 [l0, l1] st h Q := W_if f215_22 rfl
theorem f215_25 : fetch 215 25 = some (.iconst 1, 1, [], .null) := by decide +kernel
theorem w215_25 : Wp d 215 25 [l0, l1] st h Q = Wp d 215 26 [l0, l1] (.int (1 : Int32) :: st) h Q := W_go f215_25 rfl
theorem f215_26 : fetch 215 26 = some (.goto 4, 3, [], .null) := by decide +kernel
theorem w215_26 : Wp d 215 26 [l0, l1] st h Q = Wp d 215 30 [l0, l1] st h Q := W_go f215_26 rfl
theorem f215_29 : fetch 215 29 = some (.iconst 0, 1, [], .null) := by decide +kernel
theorem w215_29 : Wp d 215 29 [l0, l1] st h Q = Wp d 215 30 [l0, l1] (.int (0 : Int32) :: st) h Q := W_go f215_29 rfl
theorem f215_30 : fetch 215 30 = some (.ireturn, 1, [], .null) := by decide +kernel
theorem w215_30 : Wp d 215 30 [l0, l1] [.int x] h Q = (if narrow .boolean (.int x) = .int x then Q (.inl (some (.int x)), h) else False) := W_zret f215_30 hr215
theorem hm216 : mhs 216 = [] := by decide +kernel
theorem hr216 : mret 216 = (some .boolean) := by decide +kernel
theorem f216_0 : fetch 216 0 = some (.aload_n 0, 1, [], .null) := by decide +kernel
theorem w216_0 : Wp d 216 0 [some (.ref a), l1] st h Q = Wp d 216 1 [some (.ref a), l1] (.ref a :: st) h Q := W_go f216_0 rfl
theorem f216_1 : fetch 216 1 = some (.iconst 0, 1, [], .null) := by decide +kernel
theorem w216_1 : Wp d 216 1 [l0, l1] st h Q = Wp d 216 2 [l0, l1] (.int (0 : Int32) :: st) h Q := W_go f216_1 rfl
theorem f216_2 : fetch 216 2 = some (.putfield 57, 3, [10, 0, 6131, 0], .null) := by decide +kernel
theorem w216_2 : Wp d 216 2 [l0, l1] (v :: .ref a :: st) h Q = pP (h.2 a) 10 0 (ftOf 10 0) v a (fun c => Wp d 216 5 [l0, l1] st (hset h a c) Q) := W_put f216_2 (by rfl)
theorem f216_5 : fetch 216 5 = some (.aload_n 0, 1, [], .null) := by decide +kernel
theorem w216_5 : Wp d 216 5 [some (.ref a), l1] st h Q = Wp d 216 6 [some (.ref a), l1] (.ref a :: st) h Q := W_go f216_5 rfl
theorem f216_6 : fetch 216 6 = some (.iload_n 1, 1, [], .null) := by decide +kernel
theorem w216_6 : Wp d 216 6 [l0, some (.int x)] st h Q = Wp d 216 7 [l0, some (.int x)] (.int x :: st) h Q := W_go f216_6 rfl
theorem f216_7 : fetch 216 7 = some (.invokevirtual 259, 3, [150, 2, 11, 0, 7101, 1013, 7104, 7103, 64], .null) := by decide +kernel
theorem w216_7 (hp : psum st ≤ 8) : Wp d 216 7 [l0, l1] (v1 :: (.ref b) :: st) h Q = rP (h.2 b) 10 (Cp d 150 [(.ref b), v1] h (fun o => cK o (fun w h2 => Wp d 216 10 [l0, l1] (w.toList ++ st) h2 Q) (fun E h2 => Q (.inr E, h2)))) := (W_invV (st := st) f216_7 rfl rfl (by simp only [List.length_cons]; omega) rfl rfl hp).trans (by simp only [hm216, if_true])
theorem f216_10 : fetch 216 10 = some (.ifCond .eq 11, 3, [], .null) := by decide +kernel
theorem w216_10 : Wp d 216 10 [l0, l1] (.int x :: st) h Q = if icond .eq x 0 = true then Wp d 216 21 [l0, l1] st h Q else Wp d 216 13 [l0, l1] st h Q := W_if f216_10 rfl
theorem f216_13 : fetch 216 13 = some (.aload_n 0, 1, [], .null) := by decide +kernel
theorem w216_13 : Wp d 216 13 [some (.ref a), l1] st h Q = Wp d 216 14 [some (.ref a), l1] (.ref a :: st) h Q := W_go f216_13 rfl
theorem f216_14 : fetch 216 14 = some (.iload_n 1, 1, [], .null) := by decide +kernel
theorem w216_14 : Wp d 216 14 [l0, some (.int x)] st h Q = Wp d 216 15 [l0, some (.int x)] (.int x :: st) h Q := W_go f216_14 rfl
theorem f216_15 : fetch 216 15 = some (.invokevirtual 331, 3, [215, 2, 11, 0, 8073, 1013, 8076, 8075, 80], .null) := by decide +kernel
theorem w216_15 (hp : psum st ≤ 8) : Wp d 216 15 [l0, l1] (v1 :: (.ref b) :: st) h Q = rP (h.2 b) 10 (Cp d 215 [(.ref b), v1] h (fun o => cK o (fun w h2 => Wp d 216 18 [l0, l1] (w.toList ++ st) h2 Q) (fun E h2 => Q (.inr E, h2)))) := (W_invV (st := st) f216_15 rfl rfl (by simp only [List.length_cons]; omega) rfl rfl hp).trans (by simp only [hm216, if_true])
theorem f216_18 : fetch 216 18 = some (.goto 8, 3, [], .null) := by decide +kernel
theorem w216_18 : Wp d 216 18 [l0, l1] st h Q = Wp d 216 26 [l0, l1] st h Q := W_go f216_18 rfl
theorem f216_21 : fetch 216 21 = some (.aload_n 0, 1, [], .null) := by decide +kernel
theorem w216_21 : Wp d 216 21 [some (.ref a), l1] st h Q = Wp d 216 22 [some (.ref a), l1] (.ref a :: st) h Q := W_go f216_21 rfl
theorem f216_22 : fetch 216 22 = some (.iconst 1, 1, [], .null) := by decide +kernel
theorem w216_22 : Wp d 216 22 [l0, l1] st h Q = Wp d 216 23 [l0, l1] (.int (1 : Int32) :: st) h Q := W_go f216_22 rfl
theorem f216_23 : fetch 216 23 = some (.invokevirtual 278, 3, [147, 2, 11, 0, 7129, 1013, 7132, 7131, 67], .null) := by decide +kernel
theorem w216_23 (hp : psum st ≤ 8) : Wp d 216 23 [l0, l1] (v1 :: (.ref b) :: st) h Q = rP (h.2 b) 10 (Cp d 147 [(.ref b), v1] h (fun o => cK o (fun w h2 => Wp d 216 26 [l0, l1] (w.toList ++ st) h2 Q) (fun E h2 => Q (.inr E, h2)))) := (W_invV (st := st) f216_23 rfl rfl (by simp only [List.length_cons]; omega) rfl rfl hp).trans (by simp only [hm216, if_true])
theorem f216_26 : fetch 216 26 = some (.ireturn, 1, [], .null) := by decide +kernel
theorem w216_26 : Wp d 216 26 [l0, l1] [.int x] h Q = (if narrow .boolean (.int x) = .int x then Q (.inl (some (.int x)), h) else False) := W_zret f216_26 hr216
theorem hm217 : mhs 217 = [] := by decide +kernel
theorem hr217 : mret 217 = (some .int) := by decide +kernel
theorem f217_0 : fetch 217 0 = some (.aload_n 0, 1, [], .null) := by decide +kernel
theorem w217_0 : Wp d 217 0 [some (.ref a), l1] st h Q = Wp d 217 1 [some (.ref a), l1] (.ref a :: st) h Q := W_go f217_0 rfl
theorem f217_1 : fetch 217 1 = some (.iconst 0, 1, [], .null) := by decide +kernel
theorem w217_1 : Wp d 217 1 [l0, l1] st h Q = Wp d 217 2 [l0, l1] (.int (0 : Int32) :: st) h Q := W_go f217_1 rfl
theorem f217_2 : fetch 217 2 = some (.putfield 57, 3, [10, 0, 6131, 0], .null) := by decide +kernel
theorem w217_2 : Wp d 217 2 [l0, l1] (v :: .ref a :: st) h Q = pP (h.2 a) 10 0 (ftOf 10 0) v a (fun c => Wp d 217 5 [l0, l1] st (hset h a c) Q) := W_put f217_2 (by rfl)
theorem f217_5 : fetch 217 5 = some (.aload_n 0, 1, [], .null) := by decide +kernel
theorem w217_5 : Wp d 217 5 [some (.ref a), l1] st h Q = Wp d 217 6 [some (.ref a), l1] (.ref a :: st) h Q := W_go f217_5 rfl
theorem f217_6 : fetch 217 6 = some (.iload_n 1, 1, [], .null) := by decide +kernel
theorem w217_6 : Wp d 217 6 [l0, some (.int x)] st h Q = Wp d 217 7 [l0, some (.int x)] (.int x :: st) h Q := W_go f217_6 rfl
theorem f217_7 : fetch 217 7 = some (.invokevirtual 259, 3, [150, 2, 11, 0, 7101, 1013, 7104, 7103, 64], .null) := by decide +kernel
theorem w217_7 (hp : psum st ≤ 8) : Wp d 217 7 [l0, l1] (v1 :: (.ref b) :: st) h Q = rP (h.2 b) 10 (Cp d 150 [(.ref b), v1] h (fun o => cK o (fun w h2 => Wp d 217 10 [l0, l1] (w.toList ++ st) h2 Q) (fun E h2 => Q (.inr E, h2)))) := (W_invV (st := st) f217_7 rfl rfl (by simp only [List.length_cons]; omega) rfl rfl hp).trans (by simp only [hm217, if_true])
theorem f217_10 : fetch 217 10 = some (.ifCond .eq 15, 3, [], .null) := by decide +kernel
theorem w217_10 : Wp d 217 10 [l0, l1] (.int x :: st) h Q = if icond .eq x 0 = true then Wp d 217 25 [l0, l1] st h Q else Wp d 217 13 [l0, l1] st h Q := W_if f217_10 rfl
theorem f217_13 : fetch 217 13 = some (.aload_n 0, 1, [], .null) := by decide +kernel
theorem w217_13 : Wp d 217 13 [some (.ref a), l1] st h Q = Wp d 217 14 [some (.ref a), l1] (.ref a :: st) h Q := W_go f217_13 rfl
theorem f217_14 : fetch 217 14 = some (.getfield 47, 3, [10, 14, 6148, 0], .null) := by decide +kernel
theorem w217_14 : Wp d 217 14 [l0, l1] (.ref a :: st) h Q = gP (h.2 a) 10 14 (fun w => Wp d 217 17 [l0, l1] (w :: st) h Q) := W_get f217_14 rfl
theorem f217_17 : fetch 217 17 = some (.getfield 334, 3, [9, 13, 6064, 1], .null) := by decide +kernel
theorem w217_17 : Wp d 217 17 [l0, l1] (.ref a :: st) h Q = gP (h.2 a) 9 13 (fun w => Wp d 217 20 [l0, l1] (w :: st) h Q) := W_get f217_17 rfl
theorem f217_20 : fetch 217 20 = some (.iload_n 1, 1, [], .null) := by decide +kernel
theorem w217_20 : Wp d 217 20 [l0, some (.int x)] st h Q = Wp d 217 21 [l0, some (.int x)] (.int x :: st) h Q := W_go f217_20 rfl
theorem f217_21 : fetch 217 21 = some (.iaload, 1, [], .null) := by decide +kernel
theorem w217_21 : Wp d 217 21 [l0, l1] (.int x :: .ref a :: st) h Q = aP false (h.2 a) x (fun w => Wp d 217 22 [l0, l1] (.int w :: st) h Q) := W_ald f217_21 rfl
theorem f217_22 : fetch 217 22 = some (.goto 8, 3, [], .null) := by decide +kernel
theorem w217_22 : Wp d 217 22 [l0, l1] st h Q = Wp d 217 30 [l0, l1] st h Q := W_go f217_22 rfl
theorem f217_25 : fetch 217 25 = some (.aload_n 0, 1, [], .null) := by decide +kernel
theorem w217_25 : Wp d 217 25 [some (.ref a), l1] st h Q = Wp d 217 26 [some (.ref a), l1] (.ref a :: st) h Q := W_go f217_25 rfl
theorem f217_26 : fetch 217 26 = some (.iconst 1, 1, [], .null) := by decide +kernel
theorem w217_26 : Wp d 217 26 [l0, l1] st h Q = Wp d 217 27 [l0, l1] (.int (1 : Int32) :: st) h Q := W_go f217_26 rfl
theorem f217_27 : fetch 217 27 = some (.invokevirtual 249, 3, [146, 2, 11, 0, 6191, 1013, 6194, 6193, 35], .null) := by decide +kernel
theorem w217_27 (hp : psum st ≤ 8) : Wp d 217 27 [l0, l1] (v1 :: (.ref b) :: st) h Q = rP (h.2 b) 10 (Cp d 146 [(.ref b), v1] h (fun o => cK o (fun w h2 => Wp d 217 30 [l0, l1] (w.toList ++ st) h2 Q) (fun E h2 => Q (.inr E, h2)))) := (W_invV (st := st) f217_27 rfl rfl (by simp only [List.length_cons]; omega) rfl rfl hp).trans (by simp only [hm217, if_true])
theorem f217_30 : fetch 217 30 = some (.ireturn, 1, [], .null) := by decide +kernel
theorem w217_30 : Wp d 217 30 [l0, l1] [.int x] h Q = Q (.inl (some (.int x)), h) := W_iret f217_30 hr217
theorem hm218 : mhs 218 = [] := by decide +kernel
theorem hr218 : mret 218 = (some .int) := by decide +kernel
theorem f218_0 : fetch 218 0 = some (.aload_n 0, 1, [], .null) := by decide +kernel
theorem w218_0 : Wp d 218 0 [some (.ref a), l1] st h Q = Wp d 218 1 [some (.ref a), l1] (.ref a :: st) h Q := W_go f218_0 rfl
theorem f218_1 : fetch 218 1 = some (.iconst 0, 1, [], .null) := by decide +kernel
theorem w218_1 : Wp d 218 1 [l0, l1] st h Q = Wp d 218 2 [l0, l1] (.int (0 : Int32) :: st) h Q := W_go f218_1 rfl
theorem f218_2 : fetch 218 2 = some (.putfield 57, 3, [10, 0, 6131, 0], .null) := by decide +kernel
theorem w218_2 : Wp d 218 2 [l0, l1] (v :: .ref a :: st) h Q = pP (h.2 a) 10 0 (ftOf 10 0) v a (fun c => Wp d 218 5 [l0, l1] st (hset h a c) Q) := W_put f218_2 (by rfl)
theorem f218_5 : fetch 218 5 = some (.aload_n 0, 1, [], .null) := by decide +kernel
theorem w218_5 : Wp d 218 5 [some (.ref a), l1] st h Q = Wp d 218 6 [some (.ref a), l1] (.ref a :: st) h Q := W_go f218_5 rfl
theorem f218_6 : fetch 218 6 = some (.iload_n 1, 1, [], .null) := by decide +kernel
theorem w218_6 : Wp d 218 6 [l0, some (.int x)] st h Q = Wp d 218 7 [l0, some (.int x)] (.int x :: st) h Q := W_go f218_6 rfl
theorem f218_7 : fetch 218 7 = some (.invokevirtual 259, 3, [150, 2, 11, 0, 7101, 1013, 7104, 7103, 64], .null) := by decide +kernel
theorem w218_7 (hp : psum st ≤ 8) : Wp d 218 7 [l0, l1] (v1 :: (.ref b) :: st) h Q = rP (h.2 b) 10 (Cp d 150 [(.ref b), v1] h (fun o => cK o (fun w h2 => Wp d 218 10 [l0, l1] (w.toList ++ st) h2 Q) (fun E h2 => Q (.inr E, h2)))) := (W_invV (st := st) f218_7 rfl rfl (by simp only [List.length_cons]; omega) rfl rfl hp).trans (by simp only [hm218, if_true])
theorem f218_10 : fetch 218 10 = some (.ifCond .eq 15, 3, [], .null) := by decide +kernel
theorem w218_10 : Wp d 218 10 [l0, l1] (.int x :: st) h Q = if icond .eq x 0 = true then Wp d 218 25 [l0, l1] st h Q else Wp d 218 13 [l0, l1] st h Q := W_if f218_10 rfl
theorem f218_13 : fetch 218 13 = some (.aload_n 0, 1, [], .null) := by decide +kernel
theorem w218_13 : Wp d 218 13 [some (.ref a), l1] st h Q = Wp d 218 14 [some (.ref a), l1] (.ref a :: st) h Q := W_go f218_13 rfl
theorem f218_14 : fetch 218 14 = some (.getfield 47, 3, [10, 14, 6148, 0], .null) := by decide +kernel
theorem w218_14 : Wp d 218 14 [l0, l1] (.ref a :: st) h Q = gP (h.2 a) 10 14 (fun w => Wp d 218 17 [l0, l1] (w :: st) h Q) := W_get f218_14 rfl
theorem f218_17 : fetch 218 17 = some (.getfield 337, 3, [9, 14, 6066, 1], .null) := by decide +kernel
theorem w218_17 : Wp d 218 17 [l0, l1] (.ref a :: st) h Q = gP (h.2 a) 9 14 (fun w => Wp d 218 20 [l0, l1] (w :: st) h Q) := W_get f218_17 rfl
theorem f218_20 : fetch 218 20 = some (.iload_n 1, 1, [], .null) := by decide +kernel
theorem w218_20 : Wp d 218 20 [l0, some (.int x)] st h Q = Wp d 218 21 [l0, some (.int x)] (.int x :: st) h Q := W_go f218_20 rfl
theorem f218_21 : fetch 218 21 = some (.iaload, 1, [], .null) := by decide +kernel
theorem w218_21 : Wp d 218 21 [l0, l1] (.int x :: .ref a :: st) h Q = aP false (h.2 a) x (fun w => Wp d 218 22 [l0, l1] (.int w :: st) h Q) := W_ald f218_21 rfl
theorem f218_22 : fetch 218 22 = some (.goto 8, 3, [], .null) := by decide +kernel
theorem w218_22 : Wp d 218 22 [l0, l1] st h Q = Wp d 218 30 [l0, l1] st h Q := W_go f218_22 rfl
theorem f218_25 : fetch 218 25 = some (.aload_n 0, 1, [], .null) := by decide +kernel
theorem w218_25 : Wp d 218 25 [some (.ref a), l1] st h Q = Wp d 218 26 [some (.ref a), l1] (.ref a :: st) h Q := W_go f218_25 rfl
theorem f218_26 : fetch 218 26 = some (.iconst 1, 1, [], .null) := by decide +kernel
theorem w218_26 : Wp d 218 26 [l0, l1] st h Q = Wp d 218 27 [l0, l1] (.int (1 : Int32) :: st) h Q := W_go f218_26 rfl
theorem f218_27 : fetch 218 27 = some (.invokevirtual 249, 3, [146, 2, 11, 0, 6191, 1013, 6194, 6193, 35], .null) := by decide +kernel
theorem w218_27 (hp : psum st ≤ 8) : Wp d 218 27 [l0, l1] (v1 :: (.ref b) :: st) h Q = rP (h.2 b) 10 (Cp d 146 [(.ref b), v1] h (fun o => cK o (fun w h2 => Wp d 218 30 [l0, l1] (w.toList ++ st) h2 Q) (fun E h2 => Q (.inr E, h2)))) := (W_invV (st := st) f218_27 rfl rfl (by simp only [List.length_cons]; omega) rfl rfl hp).trans (by simp only [hm218, if_true])
theorem f218_30 : fetch 218 30 = some (.ireturn, 1, [], .null) := by decide +kernel
theorem w218_30 : Wp d 218 30 [l0, l1] [.int x] h Q = Q (.inl (some (.int x)), h) := W_iret f218_30 hr218
theorem hm219 : mhs 219 = [] := by decide +kernel
theorem hr219 : mret 219 = (some .int) := by decide +kernel
theorem f219_0 : fetch 219 0 = some (.bipush 20, 2, [], .null) := by decide +kernel
theorem w219_0 : Wp d 219 0 [l0, l1] st h Q = Wp d 219 2 [l0, l1] (.int (20 : Int32) :: st) h Q := W_go f219_0 rfl
theorem f219_2 : fetch 219 2 = some (.aload_n 0, 1, [], .null) := by decide +kernel
theorem w219_2 : Wp d 219 2 [some (.ref a), l1] st h Q = Wp d 219 3 [some (.ref a), l1] (.ref a :: st) h Q := W_go f219_2 rfl
theorem f219_3 : fetch 219 3 = some (.getfield 47, 3, [10, 14, 6148, 0], .null) := by decide +kernel
theorem w219_3 : Wp d 219 3 [l0, l1] (.ref a :: st) h Q = gP (h.2 a) 10 14 (fun w => Wp d 219 6 [l0, l1] (w :: st) h Q) := W_get f219_3 rfl
theorem f219_6 : fetch 219 6 = some (.getfield 337, 3, [9, 14, 6066, 1], .null) := by decide +kernel
theorem w219_6 : Wp d 219 6 [l0, l1] (.ref a :: st) h Q = gP (h.2 a) 9 14 (fun w => Wp d 219 9 [l0, l1] (w :: st) h Q) := W_get f219_6 rfl
theorem f219_9 : fetch 219 9 = some (.iload_n 1, 1, [], .null) := by decide +kernel
theorem w219_9 : Wp d 219 9 [l0, some (.int x)] st h Q = Wp d 219 10 [l0, some (.int x)] (.int x :: st) h Q := W_go f219_9 rfl
theorem f219_10 : fetch 219 10 = some (.iaload, 1, [], .null) := by decide +kernel
theorem w219_10 : Wp d 219 10 [l0, l1] (.int x :: .ref a :: st) h Q = aP false (h.2 a) x (fun w => Wp d 219 11 [l0, l1] (.int w :: st) h Q) := W_ald f219_10 rfl
theorem f219_11 : fetch 219 11 = some (.invokestatic 288, 3, [9997, 2, 7141, 3004, 1021, 3005], .null) := by decide +kernel
theorem w219_11 (hp : psum st ≤ 8) : Wp d 219 11 [l0, l1] (.int y :: .int x :: st) h Q = Wp d 219 14 [l0, l1] (.int (if y < x then y else x) :: st) h Q := W_go f219_11 (by simp only [pstep, pmath, if_pos hp]; rfl)
theorem f219_14 : fetch 219 14 = some (.ireturn, 1, [], .null) := by decide +kernel
theorem w219_14 : Wp d 219 14 [l0, l1] [.int x] h Q = Q (.inl (some (.int x)), h) := W_iret f219_14 hr219
theorem hm220 : mhs 220 = [] := by decide +kernel
theorem hr220 : mret 220 = (some .int) := by decide +kernel
theorem f220_0 : fetch 220 0 = some (.aload_n 0, 1, [], .null) := by decide +kernel
theorem w220_0 : Wp d 220 0 [some (.ref a), l1, l2] st h Q = Wp d 220 1 [some (.ref a), l1, l2] (.ref a :: st) h Q := W_go f220_0 rfl
theorem f220_1 : fetch 220 1 = some (.getfield 47, 3, [10, 14, 6148, 0], .null) := by decide +kernel
theorem w220_1 : Wp d 220 1 [l0, l1, l2] (.ref a :: st) h Q = gP (h.2 a) 10 14 (fun w => Wp d 220 4 [l0, l1, l2] (w :: st) h Q) := W_get f220_1 rfl
theorem f220_4 : fetch 220 4 = some (.getfield 340, 3, [9, 15, 6068, 1], .null) := by decide +kernel
theorem w220_4 : Wp d 220 4 [l0, l1, l2] (.ref a :: st) h Q = gP (h.2 a) 9 15 (fun w => Wp d 220 7 [l0, l1, l2] (w :: st) h Q) := W_get f220_4 rfl
theorem f220_7 : fetch 220 7 = some (.bipush 20, 2, [], .null) := by decide +kernel
theorem w220_7 : Wp d 220 7 [l0, l1, l2] st h Q = Wp d 220 9 [l0, l1, l2] (.int (20 : Int32) :: st) h Q := W_go f220_7 rfl
theorem f220_9 : fetch 220 9 = some (.iload_n 1, 1, [], .null) := by decide +kernel
theorem w220_9 : Wp d 220 9 [l0, some (.int x), l2] st h Q = Wp d 220 10 [l0, some (.int x), l2] (.int x :: st) h Q := W_go f220_9 rfl
theorem f220_10 : fetch 220 10 = some (.imul, 1, [], .null) := by decide +kernel
theorem w220_10 : Wp d 220 10 [l0, l1, l2] (.int y :: .int x :: st) h Q = Wp d 220 11 [l0, l1, l2] (.int (x * y) :: st) h Q := W_go f220_10 rfl
theorem f220_11 : fetch 220 11 = some (.aload_n 0, 1, [], .null) := by decide +kernel
theorem w220_11 : Wp d 220 11 [some (.ref a), l1, l2] st h Q = Wp d 220 12 [some (.ref a), l1, l2] (.ref a :: st) h Q := W_go f220_11 rfl
theorem f220_12 : fetch 220 12 = some (.getfield 47, 3, [10, 14, 6148, 0], .null) := by decide +kernel
theorem w220_12 : Wp d 220 12 [l0, l1, l2] (.ref a :: st) h Q = gP (h.2 a) 10 14 (fun w => Wp d 220 15 [l0, l1, l2] (w :: st) h Q) := W_get f220_12 rfl
theorem f220_15 : fetch 220 15 = some (.getfield 337, 3, [9, 14, 6066, 1], .null) := by decide +kernel
theorem w220_15 : Wp d 220 15 [l0, l1, l2] (.ref a :: st) h Q = gP (h.2 a) 9 14 (fun w => Wp d 220 18 [l0, l1, l2] (w :: st) h Q) := W_get f220_15 rfl
theorem f220_18 : fetch 220 18 = some (.iload_n 1, 1, [], .null) := by decide +kernel
theorem w220_18 : Wp d 220 18 [l0, some (.int x), l2] st h Q = Wp d 220 19 [l0, some (.int x), l2] (.int x :: st) h Q := W_go f220_18 rfl
theorem f220_19 : fetch 220 19 = some (.iaload, 1, [], .null) := by decide +kernel
theorem w220_19 : Wp d 220 19 [l0, l1, l2] (.int x :: .ref a :: st) h Q = aP false (h.2 a) x (fun w => Wp d 220 20 [l0, l1, l2] (.int w :: st) h Q) := W_ald f220_19 rfl
theorem f220_20 : fetch 220 20 = some (.iconst 1, 1, [], .null) := by decide +kernel
theorem w220_20 : Wp d 220 20 [l0, l1, l2] st h Q = Wp d 220 21 [l0, l1, l2] (.int (1 : Int32) :: st) h Q := W_go f220_20 rfl
theorem f220_21 : fetch 220 21 = some (.isub, 1, [], .null) := by decide +kernel
theorem w220_21 : Wp d 220 21 [l0, l1, l2] (.int y :: .int x :: st) h Q = Wp d 220 22 [l0, l1, l2] (.int (x - y) :: st) h Q := W_go f220_21 rfl
theorem f220_22 : fetch 220 22 = some (.iload_n 2, 1, [], .null) := by decide +kernel
theorem w220_22 : Wp d 220 22 [l0, l1, some (.int x)] st h Q = Wp d 220 23 [l0, l1, some (.int x)] (.int x :: st) h Q := W_go f220_22 rfl
theorem f220_23 : fetch 220 23 = some (.isub, 1, [], .null) := by decide +kernel
theorem w220_23 : Wp d 220 23 [l0, l1, l2] (.int y :: .int x :: st) h Q = Wp d 220 24 [l0, l1, l2] (.int (x - y) :: st) h Q := W_go f220_23 rfl
theorem f220_24 : fetch 220 24 = some (.bipush 20, 2, [], .null) := by decide +kernel
theorem w220_24 : Wp d 220 24 [l0, l1, l2] st h Q = Wp d 220 26 [l0, l1, l2] (.int (20 : Int32) :: st) h Q := W_go f220_24 rfl
theorem f220_26 : fetch 220 26 = some (.irem, 1, [], .null) := by decide +kernel
theorem w220_26 (hy : y ≠ 0) : Wp d 220 26 [l0, l1, l2] (.int y :: .int x :: st) h Q = Wp d 220 27 [l0, l1, l2] (.int (x - x / y * y) :: st) h Q := W_go f220_26 (by simp only [pstep, pint2, if_neg hy, pgo])
theorem f220_27 : fetch 220 27 = some (.iadd, 1, [], .null) := by decide +kernel
theorem w220_27 : Wp d 220 27 [l0, l1, l2] (.int y :: .int x :: st) h Q = Wp d 220 28 [l0, l1, l2] (.int (x + y) :: st) h Q := W_go f220_27 rfl
theorem f220_28 : fetch 220 28 = some (.iaload, 1, [], .null) := by decide +kernel
theorem w220_28 : Wp d 220 28 [l0, l1, l2] (.int x :: .ref a :: st) h Q = aP false (h.2 a) x (fun w => Wp d 220 29 [l0, l1, l2] (.int w :: st) h Q) := W_ald f220_28 rfl
theorem f220_29 : fetch 220 29 = some (.ireturn, 1, [], .null) := by decide +kernel
theorem w220_29 : Wp d 220 29 [l0, l1, l2] [.int x] h Q = Q (.inl (some (.int x)), h) := W_iret f220_29 hr220
theorem hm221 : mhs 221 = [] := by decide +kernel
theorem hr221 : mret 221 = (some .int) := by decide +kernel
theorem f221_0 : fetch 221 0 = some (.aload_n 0, 1, [], .null) := by decide +kernel
theorem w221_0 : Wp d 221 0 [some (.ref a), l1, l2] st h Q = Wp d 221 1 [some (.ref a), l1, l2] (.ref a :: st) h Q := W_go f221_0 rfl
theorem f221_1 : fetch 221 1 = some (.iconst 0, 1, [], .null) := by decide +kernel
theorem w221_1 : Wp d 221 1 [l0, l1, l2] st h Q = Wp d 221 2 [l0, l1, l2] (.int (0 : Int32) :: st) h Q := W_go f221_1 rfl
theorem f221_2 : fetch 221 2 = some (.putfield 57, 3, [10, 0, 6131, 0], .null) := by decide +kernel
theorem w221_2 : Wp d 221 2 [l0, l1, l2] (v :: .ref a :: st) h Q = pP (h.2 a) 10 0 (ftOf 10 0) v a (fun c => Wp d 221 5 [l0, l1, l2] st (hset h a c) Q) := W_put f221_2 (by rfl)
theorem f221_5 : fetch 221 5 = some (.aload_n 0, 1, [], .null) := by decide +kernel
theorem w221_5 : Wp d 221 5 [some (.ref a), l1, l2] st h Q = Wp d 221 6 [some (.ref a), l1, l2] (.ref a :: st) h Q := W_go f221_5 rfl
theorem f221_6 : fetch 221 6 = some (.iload_n 1, 1, [], .null) := by decide +kernel
theorem w221_6 : Wp d 221 6 [l0, some (.int x), l2] st h Q = Wp d 221 7 [l0, some (.int x), l2] (.int x :: st) h Q := W_go f221_6 rfl
theorem f221_7 : fetch 221 7 = some (.invokevirtual 259, 3, [150, 2, 11, 0, 7101, 1013, 7104, 7103, 64], .null) := by decide +kernel
theorem w221_7 (hp : psum st ≤ 8) : Wp d 221 7 [l0, l1, l2] (v1 :: (.ref b) :: st) h Q = rP (h.2 b) 10 (Cp d 150 [(.ref b), v1] h (fun o => cK o (fun w h2 => Wp d 221 10 [l0, l1, l2] (w.toList ++ st) h2 Q) (fun E h2 => Q (.inr E, h2)))) := (W_invV (st := st) f221_7 rfl rfl (by simp only [List.length_cons]; omega) rfl rfl hp).trans (by simp only [hm221, if_true])
theorem f221_10 : fetch 221 10 = some (.ifCond .eq 27, 3, [], .null) := by decide +kernel
theorem w221_10 : Wp d 221 10 [l0, l1, l2] (.int x :: st) h Q = if icond .eq x 0 = true then Wp d 221 37 [l0, l1, l2] st h Q else Wp d 221 13 [l0, l1, l2] st h Q := W_if f221_10 rfl
theorem f221_13 : fetch 221 13 = some (.iload_n 2, 1, [], .null) := by decide +kernel
theorem w221_13 : Wp d 221 13 [l0, l1, some (.int x)] st h Q = Wp d 221 14 [l0, l1, some (.int x)] (.int x :: st) h Q := W_go f221_13 rfl
theorem f221_14 : fetch 221 14 = some (.iconst 0, 1, [], .null) := by decide +kernel
theorem w221_14 : Wp d 221 14 [l0, l1, l2] st h Q = Wp d 221 15 [l0, l1, l2] (.int (0 : Int32) :: st) h Q := W_go f221_14 rfl
theorem f221_15 : fetch 221 15 = some (.aload_n 0, 1, [], .null) := by decide +kernel
theorem w221_15 : Wp d 221 15 [some (.ref a), l1, l2] st h Q = Wp d 221 16 [some (.ref a), l1, l2] (.ref a :: st) h Q := W_go f221_15 rfl
theorem f221_16 : fetch 221 16 = some (.iload_n 1, 1, [], .null) := by decide +kernel
theorem w221_16 : Wp d 221 16 [l0, some (.int x), l2] st h Q = Wp d 221 17 [l0, some (.int x), l2] (.int x :: st) h Q := W_go f221_16 rfl
theorem f221_17 : fetch 221 17 = some (.invokevirtual 343, 3, [219, 2, 11, 0, 8089, 1013, 8092, 8091, 81], .null) := by decide +kernel
theorem w221_17 (hp : psum st ≤ 8) : Wp d 221 17 [l0, l1, l2] (v1 :: (.ref b) :: st) h Q = rP (h.2 b) 10 (Cp d 219 [(.ref b), v1] h (fun o => cK o (fun w h2 => Wp d 221 20 [l0, l1, l2] (w.toList ++ st) h2 Q) (fun E h2 => Q (.inr E, h2)))) := (W_invV (st := st) f221_17 rfl rfl (by simp only [List.length_cons]; omega) rfl rfl hp).trans (by simp only [hm221, if_true])
theorem f221_20 : fetch 221 20 = some (.iconst 1, 1, [], .null) := by decide +kernel
theorem w221_20 : Wp d 221 20 [l0, l1, l2] st h Q = Wp d 221 21 [l0, l1, l2] (.int (1 : Int32) :: st) h Q := W_go f221_20 rfl
theorem f221_21 : fetch 221 21 = some (.isub, 1, [], .null) := by decide +kernel
theorem w221_21 : Wp d 221 21 [l0, l1, l2] (.int y :: .int x :: st) h Q = Wp d 221 22 [l0, l1, l2] (.int (x - y) :: st) h Q := W_go f221_21 rfl
theorem f221_22 : fetch 221 22 = some (.invokestatic 63, 3, [148, 3, 0, 0, 6199, 1013, 6201, 6200], .null) := by decide +kernel
theorem w221_22 (hp : psum st ≤ 8) : Wp d 221 22 [l0, l1, l2] (v2 :: v1 :: v0 :: st) h Q = Cp d 148 [v0, v1, v2] h (fun o => cK o (fun w h2 => Wp d 221 25 [l0, l1, l2] (w.toList ++ st) h2 Q) (fun _ _ => False)) := (W_invS (st := st) f221_22 rfl rfl (by simp only [List.length_cons]; omega) rfl rfl hp)
theorem f221_25 : fetch 221 25 = some (.ifCond .eq 12, 3, [], .null) := by decide +kernel
theorem w221_25 : Wp d 221 25 [l0, l1, l2] (.int x :: st) h Q = if icond .eq x 0 = true then Wp d 221 37 [l0, l1, l2] st h Q else Wp d 221 28 [l0, l1, l2] st h Q := W_if f221_25 rfl
theorem f221_28 : fetch 221 28 = some (.aload_n 0, 1, [], .null) := by decide +kernel
theorem w221_28 : Wp d 221 28 [some (.ref a), l1, l2] st h Q = Wp d 221 29 [some (.ref a), l1, l2] (.ref a :: st) h Q := W_go f221_28 rfl
theorem f221_29 : fetch 221 29 = some (.iload_n 1, 1, [], .null) := by decide +kernel
theorem w221_29 : Wp d 221 29 [l0, some (.int x), l2] st h Q = Wp d 221 30 [l0, some (.int x), l2] (.int x :: st) h Q := W_go f221_29 rfl
theorem f221_30 : fetch 221 30 = some (.iload_n 2, 1, [], .null) := by decide +kernel
theorem w221_30 : Wp d 221 30 [l0, l1, some (.int x)] st h Q = Wp d 221 31 [l0, l1, some (.int x)] (.int x :: st) h Q := W_go f221_30 rfl
theorem f221_31 : fetch 221 31 = some (.invokevirtual 346, 3, [220, 3, 11, 0, 8093, 1013, 8096, 8095, 82], .null) := by decide +kernel
theorem w221_31 (hp : psum st ≤ 8) : Wp d 221 31 [l0, l1, l2] (v2 :: v1 :: (.ref b) :: st) h Q = rP (h.2 b) 10 (Cp d 220 [(.ref b), v1, v2] h (fun o => cK o (fun w h2 => Wp d 221 34 [l0, l1, l2] (w.toList ++ st) h2 Q) (fun E h2 => Q (.inr E, h2)))) := (W_invV (st := st) f221_31 rfl rfl (by simp only [List.length_cons]; omega) rfl rfl hp).trans (by simp only [hm221, if_true])
theorem f221_34 : fetch 221 34 = some (.goto 8, 3, [], .null) := by decide +kernel
theorem w221_34 : Wp d 221 34 [l0, l1, l2] st h Q = Wp d 221 42 [l0, l1, l2] st h Q := W_go f221_34 rfl
theorem f221_37 : fetch 221 37 = some (.aload_n 0, 1, [], .null) := by decide +kernel
theorem w221_37 : Wp d 221 37 [some (.ref a), l1, l2] st h Q = Wp d 221 38 [some (.ref a), l1, l2] (.ref a :: st) h Q := W_go f221_37 rfl
theorem f221_38 : fetch 221 38 = some (.iconst 1, 1, [], .null) := by decide +kernel
theorem w221_38 : Wp d 221 38 [l0, l1, l2] st h Q = Wp d 221 39 [l0, l1, l2] (.int (1 : Int32) :: st) h Q := W_go f221_38 rfl
theorem f221_39 : fetch 221 39 = some (.invokevirtual 249, 3, [146, 2, 11, 0, 6191, 1013, 6194, 6193, 35], .null) := by decide +kernel
theorem w221_39 (hp : psum st ≤ 8) : Wp d 221 39 [l0, l1, l2] (v1 :: (.ref b) :: st) h Q = rP (h.2 b) 10 (Cp d 146 [(.ref b), v1] h (fun o => cK o (fun w h2 => Wp d 221 42 [l0, l1, l2] (w.toList ++ st) h2 Q) (fun E h2 => Q (.inr E, h2)))) := (W_invV (st := st) f221_39 rfl rfl (by simp only [List.length_cons]; omega) rfl rfl hp).trans (by simp only [hm221, if_true])
theorem f221_42 : fetch 221 42 = some (.ireturn, 1, [], .null) := by decide +kernel
theorem w221_42 : Wp d 221 42 [l0, l1, l2] [.int x] h Q = Q (.inl (some (.int x)), h) := W_iret f221_42 hr221
theorem hm222 : mhs 222 = [] := by decide +kernel
theorem hr222 : mret 222 = (some .int) := by decide +kernel
theorem f222_0 : fetch 222 0 = some (.aload_n 0, 1, [], .null) := by decide +kernel
theorem w222_0 : Wp d 222 0 [some (.ref a), l1, l2] st h Q = Wp d 222 1 [some (.ref a), l1, l2] (.ref a :: st) h Q := W_go f222_0 rfl
theorem f222_1 : fetch 222 1 = some (.iconst 0, 1, [], .null) := by decide +kernel
theorem w222_1 : Wp d 222 1 [l0, l1, l2] st h Q = Wp d 222 2 [l0, l1, l2] (.int (0 : Int32) :: st) h Q := W_go f222_1 rfl
theorem f222_2 : fetch 222 2 = some (.putfield 57, 3, [10, 0, 6131, 0], .null) := by decide +kernel
theorem w222_2 : Wp d 222 2 [l0, l1, l2] (v :: .ref a :: st) h Q = pP (h.2 a) 10 0 (ftOf 10 0) v a (fun c => Wp d 222 5 [l0, l1, l2] st (hset h a c) Q) := W_put f222_2 (by rfl)
theorem f222_5 : fetch 222 5 = some (.aload_n 0, 1, [], .null) := by decide +kernel
theorem w222_5 : Wp d 222 5 [some (.ref a), l1, l2] st h Q = Wp d 222 6 [some (.ref a), l1, l2] (.ref a :: st) h Q := W_go f222_5 rfl
theorem f222_6 : fetch 222 6 = some (.iload_n 1, 1, [], .null) := by decide +kernel
theorem w222_6 : Wp d 222 6 [l0, some (.int x), l2] st h Q = Wp d 222 7 [l0, some (.int x), l2] (.int x :: st) h Q := W_go f222_6 rfl
theorem f222_7 : fetch 222 7 = some (.invokevirtual 272, 3, [149, 2, 11, 0, 7121, 1013, 7124, 7123, 66], .null) := by decide +kernel
theorem w222_7 (hp : psum st ≤ 8) : Wp d 222 7 [l0, l1, l2] (v1 :: (.ref b) :: st) h Q = rP (h.2 b) 10 (Cp d 149 [(.ref b), v1] h (fun o => cK o (fun w h2 => Wp d 222 10 [l0, l1, l2] (w.toList ++ st) h2 Q) (fun E h2 => Q (.inr E, h2)))) := (W_invV (st := st) f222_7 rfl rfl (by simp only [List.length_cons]; omega) rfl rfl hp).trans (by simp only [hm222, if_true])
theorem f222_10 : fetch 222 10 = some (.ifCond .ne 9, 3, [], .null) := by decide +kernel
theorem w222_10 : Wp d 222 10 [l0, l1, l2] (.int x :: st) h Q = if icond .ne x 0 = true then Wp d 222 19 [l0, l1, l2] st h Q else Wp d 222 13 [l0, l1, l2] st h Q := W_if f222_10 rfl
theorem f222_13 : fetch 222 13 = some (.aload_n 0, 1, [], .null) := by decide +kernel
theorem w222_13 : Wp d 222 13 [some (.ref a), l1, l2] st h Q = Wp d 222 14 [some (.ref a), l1, l2] (.ref a :: st) h Q := W_go f222_13 rfl
theorem f222_14 : fetch 222 14 = some (.iconst 1, 1, [], .null) := by decide +kernel
theorem w222_14 : Wp d 222 14 [l0, l1, l2] st h Q = Wp d 222 15 [l0, l1, l2] (.int (1 : Int32) :: st) h Q := W_go f222_14 rfl
theorem f222_15 : fetch 222 15 = some (.invokevirtual 249, 3, [146, 2, 11, 0, 6191, 1013, 6194, 6193, 35], .null) := by decide +kernel
theorem w222_15 (hp : psum st ≤ 8) : Wp d 222 15 [l0, l1, l2] (v1 :: (.ref b) :: st) h Q = rP (h.2 b) 10 (Cp d 146 [(.ref b), v1] h (fun o => cK o (fun w h2 => Wp d 222 18 [l0, l1, l2] (w.toList ++ st) h2 Q) (fun E h2 => Q (.inr E, h2)))) := (W_invV (st := st) f222_15 rfl rfl (by simp only [List.length_cons]; omega) rfl rfl hp).trans (by simp only [hm222, if_true])
theorem f222_18 : fetch 222 18 = some (.ireturn, 1, [], .null) := by decide +kernel
theorem w222_18 : Wp d 222 18 [l0, l1, l2] [.int x] h Q = Q (.inl (some (.int x)), h) := W_iret f222_18 hr222
theorem f222_19 : fetch 222 19 = some (.aload_n 0, 1, [], .null) := by decide +kernel
theorem w222_19 : Wp d 222 19 [some (.ref a), l1, l2] st h Q = Wp d 222 20 [some (.ref a), l1, l2] (.ref a :: st) h Q := W_go f222_19 rfl
theorem f222_20 : fetch 222 20 = some (.getfield 51, 3, [10, 15, 6149, 0], .null) := by decide +kernel
theorem w222_20 : Wp d 222 20 [l0, l1, l2] (.ref a :: st) h Q = gP (h.2 a) 10 15 (fun w => Wp d 222 23 [l0, l1, l2] (w :: st) h Q) := W_get f222_20 rfl
theorem f222_23 : fetch 222 23 = some (.aload_n 0, 1, [], .null) := by decide +kernel
theorem w222_23 : Wp d 222 23 [some (.ref a), l1, l2] st h Q = Wp d 222 24 [some (.ref a), l1, l2] (.ref a :: st) h Q := W_go f222_23 rfl
theorem f222_24 : fetch 222 24 = some (.getfield 47, 3, [10, 14, 6148, 0], .null) := by decide +kernel
theorem w222_24 : Wp d 222 24 [l0, l1, l2] (.ref a :: st) h Q = gP (h.2 a) 10 14 (fun w => Wp d 222 27 [l0, l1, l2] (w :: st) h Q) := W_get f222_24 rfl
theorem f222_27 : fetch 222 27 = some (.invokevirtual 348, 3, [122, 2, 10, 0, 8101, 1015, 8104, 8102, 8103], .null) := by decide +kernel
theorem w222_27 (hp : psum st ≤ 8) : Wp d 222 27 [l0, l1, l2] (v1 :: (.ref b) :: st) h Q = rP (h.2 b) 9 (Cp d 122 [(.ref b), v1] h (fun o => cK o (fun w h2 => Wp d 222 30 [l0, l1, l2] (w.toList ++ st) h2 Q) (fun E h2 => Q (.inr E, h2)))) := (W_invV (st := st) f222_27 rfl rfl (by simp only [List.length_cons]; omega) rfl rfl hp).trans (by simp only [hm222, if_true])
theorem f222_30 : fetch 222 30 = some (.pop, 1, [], .null) := by decide +kernel
theorem w222_30i : Wp d 222 30 [l0, l1, l2] (.int x :: st) h Q = Wp d 222 31 [l0, l1, l2] st h Q := W_go f222_30 rfl
theorem w222_30 : Wp d 222 30 [l0, l1, l2] (.ref a :: st) h Q = Wp d 222 31 [l0, l1, l2] st h Q := W_go f222_30 rfl
theorem f222_31 : fetch 222 31 = some (.iconst 0, 1, [], .null) := by decide +kernel
theorem w222_31 : Wp d 222 31 [l0, l1, l2] st h Q = Wp d 222 32 [l0, l1, l2] (.int (0 : Int32) :: st) h Q := W_go f222_31 rfl
theorem f222_32 : fetch 222 32 = some (.istore_n 2, 1, [], .null) := by decide +kernel
theorem w222_32 : Wp d 222 32 [l0, l1, l2] (.int x :: st) h Q = Wp d 222 33 [l0, kl l1, some (.int x)] st h Q := (W_st1 (pc' := 33) (k := 2) f222_32 rfl rfl (by simp only [List.length_cons, List.length_nil]; omega)).trans (by rw [pst1_succ]; rfl)
theorem f222_33 : fetch 222 33 = some (.iload_n 2, 1, [], .null) := by decide +kernel
theorem w222_33 : Wp d 222 33 [l0, l1, some (.int x)] st h Q = Wp d 222 34 [l0, l1, some (.int x)] (.int x :: st) h Q := W_go f222_33 rfl
theorem f222_34 : fetch 222 34 = some (.bipush 80, 2, [], .null) := by decide +kernel
theorem w222_34 : Wp d 222 34 [l0, l1, l2] st h Q = Wp d 222 36 [l0, l1, l2] (.int (80 : Int32) :: st) h Q := W_go f222_34 rfl
theorem f222_36 : fetch 222 36 = some (.if_icmp .gt 31, 3, [], .null) := by decide +kernel
theorem w222_36 : Wp d 222 36 [l0, l1, l2] (.int y :: .int x :: st) h Q = if icond .gt x y = true then Wp d 222 67 [l0, l1, l2] st h Q else Wp d 222 39 [l0, l1, l2] st h Q := W_if f222_36 rfl
theorem f222_39 : fetch 222 39 = some (.aload_n 0, 1, [], .null) := by decide +kernel
theorem w222_39 : Wp d 222 39 [some (.ref a), l1, l2] st h Q = Wp d 222 40 [some (.ref a), l1, l2] (.ref a :: st) h Q := W_go f222_39 rfl
theorem f222_40 : fetch 222 40 = some (.getfield 51, 3, [10, 15, 6149, 0], .null) := by decide +kernel
theorem w222_40 : Wp d 222 40 [l0, l1, l2] (.ref a :: st) h Q = gP (h.2 a) 10 15 (fun w => Wp d 222 43 [l0, l1, l2] (w :: st) h Q) := W_get f222_40 rfl
theorem f222_43 : fetch 222 43 = some (.getfield 281, 3, [9, 8, 6054, 1], .null) := by decide +kernel
theorem w222_43 : Wp d 222 43 [l0, l1, l2] (.ref a :: st) h Q = gP (h.2 a) 9 8 (fun w => Wp d 222 46 [l0, l1, l2] (w :: st) h Q) := W_get f222_43 rfl
theorem f222_46 : fetch 222 46 = some (.iload_n 1, 1, [], .null) := by decide +kernel
theorem w222_46 : Wp d 222 46 [l0, some (.int x), l2] st h Q = Wp d 222 47 [l0, some (.int x), l2] (.int x :: st) h Q := W_go f222_46 rfl
theorem f222_47 : fetch 222 47 = some (.baload, 1, [], .null) := by decide +kernel
theorem w222_47 : Wp d 222 47 [l0, l1, l2] (.int x :: .ref a :: st) h Q = aP true (h.2 a) x (fun w => Wp d 222 48 [l0, l1, l2] (.int w :: st) h Q) := W_ald f222_47 rfl
theorem f222_48 : fetch 222 48 = some (.ifCond .eq 5, 3, [], .null) := by decide +kernel
theorem w222_48 : Wp d 222 48 [l0, l1, l2] (.int x :: st) h Q = if icond .eq x 0 = true then Wp d 222 53 [l0, l1, l2] st h Q else Wp d 222 51 [l0, l1, l2] st h Q := W_if f222_48 rfl
theorem f222_51 : fetch 222 51 = some (.iload_n 2, 1, [], .null) := by decide +kernel
theorem w222_51 : Wp d 222 51 [l0, l1, some (.int x)] st h Q = Wp d 222 52 [l0, l1, some (.int x)] (.int x :: st) h Q := W_go f222_51 rfl
theorem f222_52 : fetch 222 52 = some (.ireturn, 1, [], .null) := by decide +kernel
theorem w222_52 : Wp d 222 52 [l0, l1, l2] [.int x] h Q = Q (.inl (some (.int x)), h) := W_iret f222_52 hr222
theorem f222_53 : fetch 222 53 = some (.aload_n 0, 1, [], .null) := by decide +kernel
theorem w222_53 : Wp d 222 53 [some (.ref a), l1, l2] st h Q = Wp d 222 54 [some (.ref a), l1, l2] (.ref a :: st) h Q := W_go f222_53 rfl
theorem f222_54 : fetch 222 54 = some (.getfield 51, 3, [10, 15, 6149, 0], .null) := by decide +kernel
theorem w222_54 : Wp d 222 54 [l0, l1, l2] (.ref a :: st) h Q = gP (h.2 a) 10 15 (fun w => Wp d 222 57 [l0, l1, l2] (w :: st) h Q) := W_get f222_54 rfl
theorem f222_57 : fetch 222 57 = some (.invokevirtual 352, 3, [142, 1, 10, 0, 8112, 1015, 7157, 7155, 7156], .null) := by decide +kernel
theorem w222_57 (hp : psum st ≤ 8) : Wp d 222 57 [l0, l1, l2] ((.ref b) :: st) h Q = rP (h.2 b) 9 (Cp d 142 [(.ref b)] h (fun o => cK o (fun w h2 => Wp d 222 60 [l0, l1, l2] (w.toList ++ st) h2 Q) (fun E h2 => Q (.inr E, h2)))) := (W_invV (st := st) f222_57 rfl rfl (by simp only [List.length_cons]; omega) rfl rfl hp).trans (by simp only [hm222, if_true])
theorem f222_60 : fetch 222 60 = some (.pop, 1, [], .null) := by decide +kernel
theorem w222_60i : Wp d 222 60 [l0, l1, l2] (.int x :: st) h Q = Wp d 222 61 [l0, l1, l2] st h Q := W_go f222_60 rfl
theorem w222_60 : Wp d 222 60 [l0, l1, l2] (.ref a :: st) h Q = Wp d 222 61 [l0, l1, l2] st h Q := W_go f222_60 rfl
theorem f222_61 : fetch 222 61 = some (.iinc 2 1, 3, [], .null) := by decide +kernel
theorem w222_61 : Wp d 222 61 [l0, l1, some (.int x)] st h Q = Wp d 222 64 [l0, kl l1, some (.int (x + (1 : Int32)))] st h Q := (W_iinc (y := (1 : Int32)) f222_61 rfl (by simp only [List.length_cons, List.length_nil]; omega) (by decide)).trans (by rw [pst1_succ]; rfl)
theorem f222_64 : fetch 222 64 = some (.goto (-31), 3, [], .null) := by decide +kernel
theorem w222_64 : Wp d 222 64 [l0, l1, l2] st h Q = Wp d 222 33 [l0, l1, l2] st h Q := W_go f222_64 rfl
theorem f222_67 : fetch 222 67 = some (.iconst (-1), 1, [], .null) := by decide +kernel
theorem w222_67 : Wp d 222 67 [l0, l1, l2] st h Q = Wp d 222 68 [l0, l1, l2] (.int (-1 : Int32) :: st) h Q := W_go f222_67 rfl
theorem f222_68 : fetch 222 68 = some (.ireturn, 1, [], .null) := by decide +kernel
theorem w222_68 : Wp d 222 68 [l0, l1, l2] [.int x] h Q = Q (.inl (some (.int x)), h) := W_iret f222_68 hr222
theorem hm223 : mhs 223 = [] := by decide +kernel
theorem hr223 : mret 223 = (some .int) := by decide +kernel
theorem f223_0 : fetch 223 0 = some (.aload_n 0, 1, [], .null) := by decide +kernel
theorem w223_0 : Wp d 223 0 [some (.ref a), l1] st h Q = Wp d 223 1 [some (.ref a), l1] (.ref a :: st) h Q := W_go f223_0 rfl
theorem f223_1 : fetch 223 1 = some (.iconst 0, 1, [], .null) := by decide +kernel
theorem w223_1 : Wp d 223 1 [l0, l1] st h Q = Wp d 223 2 [l0, l1] (.int (0 : Int32) :: st) h Q := W_go f223_1 rfl
theorem f223_2 : fetch 223 2 = some (.putfield 57, 3, [10, 0, 6131, 0], .null) := by decide +kernel
theorem w223_2 : Wp d 223 2 [l0, l1] (v :: .ref a :: st) h Q = pP (h.2 a) 10 0 (ftOf 10 0) v a (fun c => Wp d 223 5 [l0, l1] st (hset h a c) Q) := W_put f223_2 (by rfl)
theorem f223_5 : fetch 223 5 = some (.iload_n 1, 1, [], .null) := by decide +kernel
theorem w223_5 : Wp d 223 5 [l0, some (.int x)] st h Q = Wp d 223 6 [l0, some (.int x)] (.int x :: st) h Q := W_go f223_5 rfl
theorem f223_6 : fetch 223 6 = some (.iconst 1, 1, [], .null) := by decide +kernel
theorem w223_6 : Wp d 223 6 [l0, l1] st h Q = Wp d 223 7 [l0, l1] (.int (1 : Int32) :: st) h Q := W_go f223_6 rfl
theorem f223_7 : fetch 223 7 = some (.bipush 80, 2, [], .null) := by decide +kernel
theorem w223_7 : Wp d 223 7 [l0, l1] st h Q = Wp d 223 9 [l0, l1] (.int (80 : Int32) :: st) h Q := W_go f223_7 rfl
theorem f223_9 : fetch 223 9 = some (.invokestatic 63, 3, [148, 3, 0, 0, 6199, 1013, 6201, 6200], .null) := by decide +kernel
theorem w223_9 (hp : psum st ≤ 8) : Wp d 223 9 [l0, l1] (v2 :: v1 :: v0 :: st) h Q = Cp d 148 [v0, v1, v2] h (fun o => cK o (fun w h2 => Wp d 223 12 [l0, l1] (w.toList ++ st) h2 Q) (fun _ _ => False)) := (W_invS (st := st) f223_9 rfl rfl (by simp only [List.length_cons]; omega) rfl rfl hp)
theorem f223_12 : fetch 223 12 = some (.ifCond .eq 21, 3, [], .null) := by decide +kernel
theorem w223_12 : Wp d 223 12 [l0, l1] (.int x :: st) h Q = if icond .eq x 0 = true then Wp d 223 33 [l0, l1] st h Q else Wp d 223 15 [l0, l1] st h Q := W_if f223_12 rfl
theorem f223_15 : fetch 223 15 = some (.aload_n 0, 1, [], .null) := by decide +kernel
theorem w223_15 : Wp d 223 15 [some (.ref a), l1] st h Q = Wp d 223 16 [some (.ref a), l1] (.ref a :: st) h Q := W_go f223_15 rfl
theorem f223_16 : fetch 223 16 = some (.getfield 51, 3, [10, 15, 6149, 0], .null) := by decide +kernel
theorem w223_16 : Wp d 223 16 [l0, l1] (.ref a :: st) h Q = gP (h.2 a) 10 15 (fun w => Wp d 223 19 [l0, l1] (w :: st) h Q) := W_get f223_16 rfl
theorem f223_19 : fetch 223 19 = some (.aload_n 0, 1, [], .null) := by decide +kernel
theorem w223_19 : Wp d 223 19 [some (.ref a), l1] st h Q = Wp d 223 20 [some (.ref a), l1] (.ref a :: st) h Q := W_go f223_19 rfl
theorem f223_20 : fetch 223 20 = some (.getfield 47, 3, [10, 14, 6148, 0], .null) := by decide +kernel
theorem w223_20 : Wp d 223 20 [l0, l1] (.ref a :: st) h Q = gP (h.2 a) 10 14 (fun w => Wp d 223 23 [l0, l1] (w :: st) h Q) := W_get f223_20 rfl
theorem f223_23 : fetch 223 23 = some (.invokevirtual 348, 3, [122, 2, 10, 0, 8101, 1015, 8104, 8102, 8103], .null) := by decide +kernel
theorem w223_23 (hp : psum st ≤ 8) : Wp d 223 23 [l0, l1] (v1 :: (.ref b) :: st) h Q = rP (h.2 b) 9 (Cp d 122 [(.ref b), v1] h (fun o => cK o (fun w h2 => Wp d 223 26 [l0, l1] (w.toList ++ st) h2 Q) (fun E h2 => Q (.inr E, h2)))) := (W_invV (st := st) f223_23 rfl rfl (by simp only [List.length_cons]; omega) rfl rfl hp).trans (by simp only [hm223, if_true])
theorem f223_26 : fetch 223 26 = some (.iload_n 1, 1, [], .null) := by decide +kernel
theorem w223_26 : Wp d 223 26 [l0, some (.int x)] st h Q = Wp d 223 27 [l0, some (.int x)] (.int x :: st) h Q := W_go f223_26 rfl
theorem f223_27 : fetch 223 27 = some (.invokevirtual 296, 3, [143, 2, 10, 0, 7150, 1015, 7153, 7151, 7152], .null) := by decide +kernel
theorem w223_27 (hp : psum st ≤ 8) : Wp d 223 27 [l0, l1] (v1 :: (.ref b) :: st) h Q = rP (h.2 b) 9 (Cp d 143 [(.ref b), v1] h (fun o => cK o (fun w h2 => Wp d 223 30 [l0, l1] (w.toList ++ st) h2 Q) (fun E h2 => Q (.inr E, h2)))) := (W_invV (st := st) f223_27 rfl rfl (by simp only [List.length_cons]; omega) rfl rfl hp).trans (by simp only [hm223, if_true])
theorem f223_30 : fetch 223 30 = some (.goto 8, 3, [], .null) := by decide +kernel
theorem w223_30 : Wp d 223 30 [l0, l1] st h Q = Wp d 223 38 [l0, l1] st h Q := W_go f223_30 rfl
theorem f223_33 : fetch 223 33 = some (.aload_n 0, 1, [], .null) := by decide +kernel
theorem w223_33 : Wp d 223 33 [some (.ref a), l1] st h Q = Wp d 223 34 [some (.ref a), l1] (.ref a :: st) h Q := W_go f223_33 rfl
theorem f223_34 : fetch 223 34 = some (.iconst 1, 1, [], .null) := by decide +kernel
theorem w223_34 : Wp d 223 34 [l0, l1] st h Q = Wp d 223 35 [l0, l1] (.int (1 : Int32) :: st) h Q := W_go f223_34 rfl
theorem f223_35 : fetch 223 35 = some (.invokevirtual 249, 3, [146, 2, 11, 0, 6191, 1013, 6194, 6193, 35], .null) := by decide +kernel
theorem w223_35 (hp : psum st ≤ 8) : Wp d 223 35 [l0, l1] (v1 :: (.ref b) :: st) h Q = rP (h.2 b) 10 (Cp d 146 [(.ref b), v1] h (fun o => cK o (fun w h2 => Wp d 223 38 [l0, l1] (w.toList ++ st) h2 Q) (fun E h2 => Q (.inr E, h2)))) := (W_invV (st := st) f223_35 rfl rfl (by simp only [List.length_cons]; omega) rfl rfl hp).trans (by simp only [hm223, if_true])
theorem f223_38 : fetch 223 38 = some (.ireturn, 1, [], .null) := by decide +kernel
theorem w223_38 : Wp d 223 38 [l0, l1] [.int x] h Q = Q (.inl (some (.int x)), h) := W_iret f223_38 hr223
theorem hm224 : mhs 224 = [] := by decide +kernel
theorem hr224 : mret 224 = (some .int) := by decide +kernel
theorem f224_0 : fetch 224 0 = some (.aload_n 0, 1, [], .null) := by decide +kernel
theorem w224_0 : Wp d 224 0 [some (.ref a)] st h Q = Wp d 224 1 [some (.ref a)] (.ref a :: st) h Q := W_go f224_0 rfl
theorem f224_1 : fetch 224 1 = some (.iconst 0, 1, [], .null) := by decide +kernel
theorem w224_1 : Wp d 224 1 [l0] st h Q = Wp d 224 2 [l0] (.int (0 : Int32) :: st) h Q := W_go f224_1 rfl
theorem f224_2 : fetch 224 2 = some (.putfield 57, 3, [10, 0, 6131, 0], .null) := by decide +kernel
theorem w224_2 : Wp d 224 2 [l0] (v :: .ref a :: st) h Q = pP (h.2 a) 10 0 (ftOf 10 0) v a (fun c => Wp d 224 5 [l0] st (hset h a c) Q) := W_put f224_2 (by rfl)
theorem f224_5 : fetch 224 5 = some (.aload_n 0, 1, [], .null) := by decide +kernel
theorem w224_5 : Wp d 224 5 [some (.ref a)] st h Q = Wp d 224 6 [some (.ref a)] (.ref a :: st) h Q := W_go f224_5 rfl
theorem f224_6 : fetch 224 6 = some (.getfield 51, 3, [10, 15, 6149, 0], .null) := by decide +kernel
theorem w224_6 : Wp d 224 6 [l0] (.ref a :: st) h Q = gP (h.2 a) 10 15 (fun w => Wp d 224 9 [l0] (w :: st) h Q) := W_get f224_6 rfl
theorem f224_9 : fetch 224 9 = some (.aload_n 0, 1, [], .null) := by decide +kernel
theorem w224_9 : Wp d 224 9 [some (.ref a)] st h Q = Wp d 224 10 [some (.ref a)] (.ref a :: st) h Q := W_go f224_9 rfl
theorem f224_10 : fetch 224 10 = some (.getfield 47, 3, [10, 14, 6148, 0], .null) := by decide +kernel
theorem w224_10 : Wp d 224 10 [l0] (.ref a :: st) h Q = gP (h.2 a) 10 14 (fun w => Wp d 224 13 [l0] (w :: st) h Q) := W_get f224_10 rfl
theorem f224_13 : fetch 224 13 = some (.invokevirtual 348, 3, [122, 2, 10, 0, 8101, 1015, 8104, 8102, 8103], .null) := by decide +kernel
theorem w224_13 (hp : psum st ≤ 8) : Wp d 224 13 [l0] (v1 :: (.ref b) :: st) h Q = rP (h.2 b) 9 (Cp d 122 [(.ref b), v1] h (fun o => cK o (fun w h2 => Wp d 224 16 [l0] (w.toList ++ st) h2 Q) (fun E h2 => Q (.inr E, h2)))) := (W_invV (st := st) f224_13 rfl rfl (by simp only [List.length_cons]; omega) rfl rfl hp).trans (by simp only [hm224, if_true])
theorem f224_16 : fetch 224 16 = some (.pop, 1, [], .null) := by decide +kernel
theorem w224_16i : Wp d 224 16 [l0] (.int x :: st) h Q = Wp d 224 17 [l0] st h Q := W_go f224_16 rfl
theorem w224_16 : Wp d 224 16 [l0] (.ref a :: st) h Q = Wp d 224 17 [l0] st h Q := W_go f224_16 rfl
theorem f224_17 : fetch 224 17 = some (.aload_n 0, 1, [], .null) := by decide +kernel
theorem w224_17 : Wp d 224 17 [some (.ref a)] st h Q = Wp d 224 18 [some (.ref a)] (.ref a :: st) h Q := W_go f224_17 rfl
theorem f224_18 : fetch 224 18 = some (.getfield 51, 3, [10, 15, 6149, 0], .null) := by decide +kernel
theorem w224_18 : Wp d 224 18 [l0] (.ref a :: st) h Q = gP (h.2 a) 10 15 (fun w => Wp d 224 21 [l0] (w :: st) h Q) := W_get f224_18 rfl
theorem f224_21 : fetch 224 21 = some (.invokevirtual 314, 3, [127, 1, 10, 0, 8043, 1015, 7165, 7163, 7164], .null) := by decide +kernel
theorem w224_21 (hp : psum st ≤ 8) : Wp d 224 21 [l0] ((.ref b) :: st) h Q = rP (h.2 b) 9 (Cp d 127 [(.ref b)] h (fun o => cK o (fun w h2 => Wp d 224 24 [l0] (w.toList ++ st) h2 Q) (fun E h2 => Q (.inr E, h2)))) := (W_invV (st := st) f224_21 rfl rfl (by simp only [List.length_cons]; omega) rfl rfl hp).trans (by simp only [hm224, if_true])
theorem f224_24 : fetch 224 24 = some (.bipush 11, 2, [], .null) := by decide +kernel
theorem w224_24 : Wp d 224 24 [l0] st h Q = Wp d 224 26 [l0] (.int (11 : Int32) :: st) h Q := W_go f224_24 rfl
theorem f224_26 : fetch 224 26 = some (.if_icmp .ge 19, 3, [], .null) := by decide +kernel
theorem w224_26 : Wp d 224 26 [l0] (.int y :: .int x :: st) h Q = if icond .ge x y = true then Wp d 224 45 [l0] st h Q else Wp d 224 29 [l0] st h Q := W_if f224_26 rfl
theorem f224_29 : fetch 224 29 = some (.aload_n 0, 1, [], .null) := by decide +kernel
theorem w224_29 : Wp d 224 29 [some (.ref a)] st h Q = Wp d 224 30 [some (.ref a)] (.ref a :: st) h Q := W_go f224_29 rfl
theorem f224_30 : fetch 224 30 = some (.getfield 51, 3, [10, 15, 6149, 0], .null) := by decide +kernel
theorem w224_30 : Wp d 224 30 [l0] (.ref a :: st) h Q = gP (h.2 a) 10 15 (fun w => Wp d 224 33 [l0] (w :: st) h Q) := W_get f224_30 rfl
theorem f224_33 : fetch 224 33 = some (.dup, 1, [], .null) := by decide +kernel
theorem w224_33i : Wp d 224 33 [l0] (.int x :: st) h Q = Wp d 224 34 [l0] (.int x :: .int x :: st) h Q := W_go f224_33 rfl
theorem w224_33 : Wp d 224 33 [l0] (.ref a :: st) h Q = Wp d 224 34 [l0] (.ref a :: .ref a :: st) h Q := W_go f224_33 rfl
theorem f224_34 : fetch 224 34 = some (.getfield 308, 3, [9, 0, 6039, 1], .null) := by decide +kernel
theorem w224_34 : Wp d 224 34 [l0] (.ref a :: st) h Q = gP (h.2 a) 9 0 (fun w => Wp d 224 37 [l0] (w :: st) h Q) := W_get f224_34 rfl
theorem f224_37 : fetch 224 37 = some (.iconst 1, 1, [], .null) := by decide +kernel
theorem w224_37 : Wp d 224 37 [l0] st h Q = Wp d 224 38 [l0] (.int (1 : Int32) :: st) h Q := W_go f224_37 rfl
theorem f224_38 : fetch 224 38 = some (.iadd, 1, [], .null) := by decide +kernel
theorem w224_38 : Wp d 224 38 [l0] (.int y :: .int x :: st) h Q = Wp d 224 39 [l0] (.int (x + y) :: st) h Q := W_go f224_38 rfl
theorem f224_39 : fetch 224 39 = some (.putfield 308, 3, [9, 0, 6039, 1], .null) := by decide +kernel
theorem w224_39 : Wp d 224 39 [l0] (v :: .ref a :: st) h Q = pP (h.2 a) 9 0 (ftOf 9 0) v a (fun c => Wp d 224 42 [l0] st (hset h a c) Q) := W_put f224_39 (by rfl)
theorem f224_42 : fetch 224 42 = some (.goto (-25), 3, [], .null) := by decide +kernel
theorem w224_42 : Wp d 224 42 [l0] st h Q = Wp d 224 17 [l0] st h Q := W_go f224_42 rfl
theorem f224_45 : fetch 224 45 = some (.aload_n 0, 1, [], .null) := by decide +kernel
theorem w224_45 : Wp d 224 45 [some (.ref a)] st h Q = Wp d 224 46 [some (.ref a)] (.ref a :: st) h Q := W_go f224_45 rfl
theorem f224_46 : fetch 224 46 = some (.getfield 51, 3, [10, 15, 6149, 0], .null) := by decide +kernel
theorem w224_46 : Wp d 224 46 [l0] (.ref a :: st) h Q = gP (h.2 a) 10 15 (fun w => Wp d 224 49 [l0] (w :: st) h Q) := W_get f224_46 rfl
theorem f224_49 : fetch 224 49 = some (.getfield 308, 3, [9, 0, 6039, 1], .null) := by decide +kernel
theorem w224_49 : Wp d 224 49 [l0] (.ref a :: st) h Q = gP (h.2 a) 9 0 (fun w => Wp d 224 52 [l0] (w :: st) h Q) := W_get f224_49 rfl
theorem f224_52 : fetch 224 52 = some (.aload_n 0, 1, [], .null) := by decide +kernel
theorem w224_52 : Wp d 224 52 [some (.ref a)] st h Q = Wp d 224 53 [some (.ref a)] (.ref a :: st) h Q := W_go f224_52 rfl
theorem f224_53 : fetch 224 53 = some (.getfield 47, 3, [10, 14, 6148, 0], .null) := by decide +kernel
theorem w224_53 : Wp d 224 53 [l0] (.ref a :: st) h Q = gP (h.2 a) 10 14 (fun w => Wp d 224 56 [l0] (w :: st) h Q) := W_get f224_53 rfl
theorem f224_56 : fetch 224 56 = some (.getfield 308, 3, [9, 0, 6039, 1], .null) := by decide +kernel
theorem w224_56 : Wp d 224 56 [l0] (.ref a :: st) h Q = gP (h.2 a) 9 0 (fun w => Wp d 224 59 [l0] (w :: st) h Q) := W_get f224_56 rfl
theorem f224_59 : fetch 224 59 = some (.isub, 1, [], .null) := by decide +kernel
theorem w224_59 : Wp d 224 59 [l0] (.int y :: .int x :: st) h Q = Wp d 224 60 [l0] (.int (x - y) :: st) h Q := W_go f224_59 rfl
theorem f224_60 : fetch 224 60 = some (.ireturn, 1, [], .null) := by decide +kernel
theorem w224_60 : Wp d 224 60 [l0] [.int x] h Q = Q (.inl (some (.int x)), h) := W_iret f224_60 hr224
theorem hm225 : mhs 225 = [] := by decide +kernel
theorem hr225 : mret 225 = (some .int) := by decide +kernel
theorem f225_0 : fetch 225 0 = some (.aload_n 0, 1, [], .null) := by decide +kernel
theorem w225_0 : Wp d 225 0 [some (.ref a), l1, l2, l3, l4, l5, l6] st h Q = Wp d 225 1 [some (.ref a), l1, l2, l3, l4, l5, l6] (.ref a :: st) h Q := W_go f225_0 rfl
theorem f225_1 : fetch 225 1 = some (.iconst 0, 1, [], .null) := by decide +kernel
theorem w225_1 : Wp d 225 1 [l0, l1, l2, l3, l4, l5, l6] st h Q = Wp d 225 2 [l0, l1, l2, l3, l4, l5, l6] (.int (0 : Int32) :: st) h Q := W_go f225_1 rfl
theorem f225_2 : fetch 225 2 = some (.putfield 57, 3, [10, 0, 6131, 0], .null) := by decide +kernel
theorem w225_2 : Wp d 225 2 [l0, l1, l2, l3, l4, l5, l6] (v :: .ref a :: st) h Q = pP (h.2 a) 10 0 (ftOf 10 0) v a (fun c => Wp d 225 5 [l0, l1, l2, l3, l4, l5, l6] st (hset h a c) Q) := W_put f225_2 (by rfl)
theorem f225_5 : fetch 225 5 = some (.aload_n 0, 1, [], .null) := by decide +kernel
theorem w225_5 : Wp d 225 5 [some (.ref a), l1, l2, l3, l4, l5, l6] st h Q = Wp d 225 6 [some (.ref a), l1, l2, l3, l4, l5, l6] (.ref a :: st) h Q := W_go f225_5 rfl
theorem f225_6 : fetch 225 6 = some (.iload_n 1, 1, [], .null) := by decide +kernel
theorem w225_6 : Wp d 225 6 [l0, some (.int x), l2, l3, l4, l5, l6] st h Q = Wp d 225 7 [l0, some (.int x), l2, l3, l4, l5, l6] (.int x :: st) h Q := W_go f225_6 rfl
theorem f225_7 : fetch 225 7 = some (.invokevirtual 259, 3, [150, 2, 11, 0, 7101, 1013, 7104, 7103, 64], .null) := by decide +kernel
theorem w225_7 (hp : psum st ≤ 8) : Wp d 225 7 [l0, l1, l2, l3, l4, l5, l6] (v1 :: (.ref b) :: st) h Q = rP (h.2 b) 10 (Cp d 150 [(.ref b), v1] h (fun o => cK o (fun w h2 => Wp d 225 10 [l0, l1, l2, l3, l4, l5, l6] (w.toList ++ st) h2 Q) (fun E h2 => Q (.inr E, h2)))) := (W_invV (st := st) f225_7 rfl rfl (by simp only [List.length_cons]; omega) rfl rfl hp).trans (by simp only [hm225, if_true])
theorem f225_10 : fetch 225 10 = some (.ifCond .ne 9, 3, [], .null) := by decide +kernel
theorem w225_10 : Wp d 225 10 [l0, l1, l2, l3, l4, l5, l6] (.int x :: st) h Q = if icond .ne x 0 = true then Wp d 225 19 [l0, l1, l2, l3, l4, l5, l6] st h Q else Wp d 225 13 [l0, l1, l2, l3, l4, l5, l6] st h Q := W_if f225_10 rfl
theorem f225_13 : fetch 225 13 = some (.aload_n 0, 1, [], .null) := by decide +kernel
theorem w225_13 : Wp d 225 13 [some (.ref a), l1, l2, l3, l4, l5, l6] st h Q = Wp d 225 14 [some (.ref a), l1, l2, l3, l4, l5, l6] (.ref a :: st) h Q := W_go f225_13 rfl
theorem f225_14 : fetch 225 14 = some (.iconst 1, 1, [], .null) := by decide +kernel
theorem w225_14 : Wp d 225 14 [l0, l1, l2, l3, l4, l5, l6] st h Q = Wp d 225 15 [l0, l1, l2, l3, l4, l5, l6] (.int (1 : Int32) :: st) h Q := W_go f225_14 rfl
theorem f225_15 : fetch 225 15 = some (.invokevirtual 249, 3, [146, 2, 11, 0, 6191, 1013, 6194, 6193, 35], .null) := by decide +kernel
theorem w225_15 (hp : psum st ≤ 8) : Wp d 225 15 [l0, l1, l2, l3, l4, l5, l6] (v1 :: (.ref b) :: st) h Q = rP (h.2 b) 10 (Cp d 146 [(.ref b), v1] h (fun o => cK o (fun w h2 => Wp d 225 18 [l0, l1, l2, l3, l4, l5, l6] (w.toList ++ st) h2 Q) (fun E h2 => Q (.inr E, h2)))) := (W_invV (st := st) f225_15 rfl rfl (by simp only [List.length_cons]; omega) rfl rfl hp).trans (by simp only [hm225, if_true])
theorem f225_18 : fetch 225 18 = some (.ireturn, 1, [], .null) := by decide +kernel
theorem w225_18 : Wp d 225 18 [l0, l1, l2, l3, l4, l5, l6] [.int x] h Q = Q (.inl (some (.int x)), h) := W_iret f225_18 hr225
theorem f225_19 : fetch 225 19 = some (.iload_n 2, 1, [], .null) := by decide +kernel
theorem w225_19 : Wp d 225 19 [l0, l1, some (.int x), l3, l4, l5, l6] st h Q = Wp d 225 20 [l0, l1, some (.int x), l3, l4, l5, l6] (.int x :: st) h Q := W_go f225_19 rfl
theorem f225_20 : fetch 225 20 = some (.iconst 1, 1, [], .null) := by decide +kernel
theorem w225_20 : Wp d 225 20 [l0, l1, l2, l3, l4, l5, l6] st h Q = Wp d 225 21 [l0, l1, l2, l3, l4, l5, l6] (.int (1 : Int32) :: st) h Q := W_go f225_20 rfl
theorem f225_21 : fetch 225 21 = some (.bipush 40, 2, [], .null) := by decide +kernel
theorem w225_21 : Wp d 225 21 [l0, l1, l2, l3, l4, l5, l6] st h Q = Wp d 225 23 [l0, l1, l2, l3, l4, l5, l6] (.int (40 : Int32) :: st) h Q := W_go f225_21 rfl
theorem f225_23 : fetch 225 23 = some (.invokestatic 63, 3, [148, 3, 0, 0, 6199, 1013, 6201, 6200], .null) := by decide +kernel
theorem w225_23 (hp : psum st ≤ 8) : Wp d 225 23 [l0, l1, l2, l3, l4, l5, l6] (v2 :: v1 :: v0 :: st) h Q = Cp d 148 [v0, v1, v2] h (fun o => cK o (fun w h2 => Wp d 225 26 [l0, l1, l2, l3, l4, l5, l6] (w.toList ++ st) h2 Q) (fun _ _ => False)) := (W_invS (st := st) f225_23 rfl rfl (by simp only [List.length_cons]; omega) rfl rfl hp)
theorem f225_26 : fetch 225 26 = some (.ifCond .ne 9, 3, [], .null) := by decide +kernel
theorem w225_26 : Wp d 225 26 [l0, l1, l2, l3, l4, l5, l6] (.int x :: st) h Q = if icond .ne x 0 = true then Wp d 225 35 [l0, l1, l2, l3, l4, l5, l6] st h Q else Wp d 225 29 [l0, l1, l2, l3, l4, l5, l6] st h Q := W_if f225_26 rfl
theorem f225_29 : fetch 225 29 = some (.aload_n 0, 1, [], .null) := by decide +kernel
theorem w225_29 : Wp d 225 29 [some (.ref a), l1, l2, l3, l4, l5, l6] st h Q = Wp d 225 30 [some (.ref a), l1, l2, l3, l4, l5, l6] (.ref a :: st) h Q := W_go f225_29 rfl
theorem f225_30 : fetch 225 30 = some (.iconst 2, 1, [], .null) := by decide +kernel
theorem w225_30 : Wp d 225 30 [l0, l1, l2, l3, l4, l5, l6] st h Q = Wp d 225 31 [l0, l1, l2, l3, l4, l5, l6] (.int (2 : Int32) :: st) h Q := W_go f225_30 rfl
theorem f225_31 : fetch 225 31 = some (.invokevirtual 249, 3, [146, 2, 11, 0, 6191, 1013, 6194, 6193, 35], .null) := by decide +kernel
theorem w225_31 (hp : psum st ≤ 8) : Wp d 225 31 [l0, l1, l2, l3, l4, l5, l6] (v1 :: (.ref b) :: st) h Q = rP (h.2 b) 10 (Cp d 146 [(.ref b), v1] h (fun o => cK o (fun w h2 => Wp d 225 34 [l0, l1, l2, l3, l4, l5, l6] (w.toList ++ st) h2 Q) (fun E h2 => Q (.inr E, h2)))) := (W_invV (st := st) f225_31 rfl rfl (by simp only [List.length_cons]; omega) rfl rfl hp).trans (by simp only [hm225, if_true])
theorem f225_34 : fetch 225 34 = some (.ireturn, 1, [], .null) := by decide +kernel
theorem w225_34 : Wp d 225 34 [l0, l1, l2, l3, l4, l5, l6] [.int x] h Q = Q (.inl (some (.int x)), h) := W_iret f225_34 hr225
theorem f225_35 : fetch 225 35 = some (.aload_n 0, 1, [], .null) := by decide +kernel
theorem w225_35 : Wp d 225 35 [some (.ref a), l1, l2, l3, l4, l5, l6] st h Q = Wp d 225 36 [some (.ref a), l1, l2, l3, l4, l5, l6] (.ref a :: st) h Q := W_go f225_35 rfl
theorem f225_36 : fetch 225 36 = some (.getfield 32, 3, [10, 10, 6141, 0], .null) := by decide +kernel
theorem w225_36 : Wp d 225 36 [l0, l1, l2, l3, l4, l5, l6] (.ref a :: st) h Q = gP (h.2 a) 10 10 (fun w => Wp d 225 39 [l0, l1, l2, l3, l4, l5, l6] (w :: st) h Q) := W_get f225_36 rfl
theorem f225_39 : fetch 225 39 = some (.getfield 213, 3, [8, 1, 5176, 1], .null) := by decide +kernel
theorem w225_39 : Wp d 225 39 [l0, l1, l2, l3, l4, l5, l6] (.ref a :: st) h Q = gP (h.2 a) 8 1 (fun w => Wp d 225 42 [l0, l1, l2, l3, l4, l5, l6] (w :: st) h Q) := W_get f225_39 rfl
theorem f225_42 : fetch 225 42 = some (.ifCond .ne 9, 3, [], .null) := by decide +kernel
theorem w225_42 : Wp d 225 42 [l0, l1, l2, l3, l4, l5, l6] (.int x :: st) h Q = if icond .ne x 0 = true then Wp d 225 51 [l0, l1, l2, l3, l4, l5, l6] st h Q else Wp d 225 45 [l0, l1, l2, l3, l4, l5, l6] st h Q := W_if f225_42 rfl
theorem f225_45 : fetch 225 45 = some (.aload_n 0, 1, [], .null) := by decide +kernel
theorem w225_45 : Wp d 225 45 [some (.ref a), l1, l2, l3, l4, l5, l6] st h Q = Wp d 225 46 [some (.ref a), l1, l2, l3, l4, l5, l6] (.ref a :: st) h Q := W_go f225_45 rfl
theorem f225_46 : fetch 225 46 = some (.iconst 3, 1, [], .null) := by decide +kernel
theorem w225_46 : Wp d 225 46 [l0, l1, l2, l3, l4, l5, l6] st h Q = Wp d 225 47 [l0, l1, l2, l3, l4, l5, l6] (.int (3 : Int32) :: st) h Q := W_go f225_46 rfl
theorem f225_47 : fetch 225 47 = some (.invokevirtual 249, 3, [146, 2, 11, 0, 6191, 1013, 6194, 6193, 35], .null) := by decide +kernel
theorem w225_47 (hp : psum st ≤ 8) : Wp d 225 47 [l0, l1, l2, l3, l4, l5, l6] (v1 :: (.ref b) :: st) h Q = rP (h.2 b) 10 (Cp d 146 [(.ref b), v1] h (fun o => cK o (fun w h2 => Wp d 225 50 [l0, l1, l2, l3, l4, l5, l6] (w.toList ++ st) h2 Q) (fun E h2 => Q (.inr E, h2)))) := (W_invV (st := st) f225_47 rfl rfl (by simp only [List.length_cons]; omega) rfl rfl hp).trans (by simp only [hm225, if_true])
theorem f225_50 : fetch 225 50 = some (.ireturn, 1, [], .null) := by decide +kernel
theorem w225_50 : Wp d 225 50 [l0, l1, l2, l3, l4, l5, l6] [.int x] h Q = Q (.inl (some (.int x)), h) := W_iret f225_50 hr225
theorem f225_51 : fetch 225 51 = some (.iconst (-1), 1, [], .null) := by decide +kernel
theorem w225_51 : Wp d 225 51 [l0, l1, l2, l3, l4, l5, l6] st h Q = Wp d 225 52 [l0, l1, l2, l3, l4, l5, l6] (.int (-1 : Int32) :: st) h Q := W_go f225_51 rfl
theorem f225_52 : fetch 225 52 = some (.istore_n 3, 1, [], .null) := by decide +kernel
theorem w225_52 : Wp d 225 52 [l0, l1, l2, l3, l4, l5, l6] (.int x :: st) h Q = Wp d 225 53 [l0, l1, kl l2, some (.int x), l4, l5, l6] st h Q := (W_st1 (pc' := 53) (k := 3) f225_52 rfl rfl (by simp only [List.length_cons, List.length_nil]; omega)).trans (by rw [pst1_succ]; rfl)
theorem f225_53 : fetch 225 53 = some (.iconst 0, 1, [], .null) := by decide +kernel
theorem w225_53 : Wp d 225 53 [l0, l1, l2, l3, l4, l5, l6] st h Q = Wp d 225 54 [l0, l1, l2, l3, l4, l5, l6] (.int (0 : Int32) :: st) h Q := W_go f225_53 rfl
theorem f225_54 : fetch 225 54 = some (.istore 4, 2, [], .null) := by decide +kernel
theorem w225_54 : Wp d 225 54 [l0, l1, l2, l3, l4, l5, l6] (.int x :: st) h Q = Wp d 225 56 [l0, l1, l2, kl l3, some (.int x), l5, l6] st h Q := (W_st1 (pc' := 56) (k := 4) f225_54 rfl rfl (by simp only [List.length_cons, List.length_nil]; omega)).trans (by rw [pst1_succ]; rfl)
theorem f225_56 : fetch 225 56 = some (.iconst 0, 1, [], .null) := by decide +kernel
theorem w225_56 : Wp d 225 56 [l0, l1, l2, l3, l4, l5, l6] st h Q = Wp d 225 57 [l0, l1, l2, l3, l4, l5, l6] (.int (0 : Int32) :: st) h Q := W_go f225_56 rfl
theorem f225_57 : fetch 225 57 = some (.istore 5, 2, [], .null) := by decide +kernel
theorem w225_57 : Wp d 225 57 [l0, l1, l2, l3, l4, l5, l6] (.int x :: st) h Q = Wp d 225 59 [l0, l1, l2, l3, kl l4, some (.int x), l6] st h Q := (W_st1 (pc' := 59) (k := 5) f225_57 rfl rfl (by simp only [List.length_cons, List.length_nil]; omega)).trans (by rw [pst1_succ]; rfl)
theorem f225_59 : fetch 225 59 = some (.iload 5, 2, [], .null) := by decide +kernel
theorem w225_59 : Wp d 225 59 [l0, l1, l2, l3, l4, some (.int x), l6] st h Q = Wp d 225 61 [l0, l1, l2, l3, l4, some (.int x), l6] (.int x :: st) h Q := W_go f225_59 rfl
theorem f225_61 : fetch 225 61 = some (.aload_n 0, 1, [], .null) := by decide +kernel
theorem w225_61 : Wp d 225 61 [some (.ref a), l1, l2, l3, l4, l5, l6] st h Q = Wp d 225 62 [some (.ref a), l1, l2, l3, l4, l5, l6] (.ref a :: st) h Q := W_go f225_61 rfl
theorem f225_62 : fetch 225 62 = some (.getfield 32, 3, [10, 10, 6141, 0], .null) := by decide +kernel
theorem w225_62 : Wp d 225 62 [l0, l1, l2, l3, l4, l5, l6] (.ref a :: st) h Q = gP (h.2 a) 10 10 (fun w => Wp d 225 65 [l0, l1, l2, l3, l4, l5, l6] (w :: st) h Q) := W_get f225_62 rfl
theorem f225_65 : fetch 225 65 = some (.getfield 213, 3, [8, 1, 5176, 1], .null) := by decide +kernel
theorem w225_65 : Wp d 225 65 [l0, l1, l2, l3, l4, l5, l6] (.ref a :: st) h Q = gP (h.2 a) 8 1 (fun w => Wp d 225 68 [l0, l1, l2, l3, l4, l5, l6] (w :: st) h Q) := W_get f225_65 rfl
theorem f225_68 : fetch 225 68 = some (.if_icmp .ge 72, 3, [], .null) := by decide +kernel
theorem w225_68 : Wp d 225 68 [l0, l1, l2, l3, l4, l5, l6] (.int y :: .int x :: st) h Q = if icond .ge x y = true then Wp d 225 140 [l0, l1, l2, l3, l4, l5, l6] st h Q else Wp d 225 71 [l0, l1, l2, l3, l4, l5, l6] st h Q := W_if f225_68 rfl
theorem f225_71 : fetch 225 71 = some (.aload_n 0, 1, [], .null) := by decide +kernel
theorem w225_71 : Wp d 225 71 [some (.ref a), l1, l2, l3, l4, l5, l6] st h Q = Wp d 225 72 [some (.ref a), l1, l2, l3, l4, l5, l6] (.ref a :: st) h Q := W_go f225_71 rfl
theorem f225_72 : fetch 225 72 = some (.getfield 51, 3, [10, 15, 6149, 0], .null) := by decide +kernel
theorem w225_72 : Wp d 225 72 [l0, l1, l2, l3, l4, l5, l6] (.ref a :: st) h Q = gP (h.2 a) 10 15 (fun w => Wp d 225 75 [l0, l1, l2, l3, l4, l5, l6] (w :: st) h Q) := W_get f225_72 rfl
theorem f225_75 : fetch 225 75 = some (.aload_n 0, 1, [], .null) := by decide +kernel
theorem w225_75 : Wp d 225 75 [some (.ref a), l1, l2, l3, l4, l5, l6] st h Q = Wp d 225 76 [some (.ref a), l1, l2, l3, l4, l5, l6] (.ref a :: st) h Q := W_go f225_75 rfl
theorem f225_76 : fetch 225 76 = some (.getfield 47, 3, [10, 14, 6148, 0], .null) := by decide +kernel
theorem w225_76 : Wp d 225 76 [l0, l1, l2, l3, l4, l5, l6] (.ref a :: st) h Q = gP (h.2 a) 10 14 (fun w => Wp d 225 79 [l0, l1, l2, l3, l4, l5, l6] (w :: st) h Q) := W_get f225_76 rfl
theorem f225_79 : fetch 225 79 = some (.invokevirtual 348, 3, [122, 2, 10, 0, 8101, 1015, 8104, 8102, 8103], .null) := by decide +kernel
theorem w225_79 (hp : psum st ≤ 8) : Wp d 225 79 [l0, l1, l2, l3, l4, l5, l6] (v1 :: (.ref b) :: st) h Q = rP (h.2 b) 9 (Cp d 122 [(.ref b), v1] h (fun o => cK o (fun w h2 => Wp d 225 82 [l0, l1, l2, l3, l4, l5, l6] (w.toList ++ st) h2 Q) (fun E h2 => Q (.inr E, h2)))) := (W_invV (st := st) f225_79 rfl rfl (by simp only [List.length_cons]; omega) rfl rfl hp).trans (by simp only [hm225, if_true])
theorem f225_82 : fetch 225 82 = some (.pop, 1, [], .null) := by decide +kernel
theorem w225_82i : Wp d 225 82 [l0, l1, l2, l3, l4, l5, l6] (.int x :: st) h Q = Wp d 225 83 [l0, l1, l2, l3, l4, l5, l6] st h Q := W_go f225_82 rfl
theorem w225_82 : Wp d 225 82 [l0, l1, l2, l3, l4, l5, l6] (.ref a :: st) h Q = Wp d 225 83 [l0, l1, l2, l3, l4, l5, l6] st h Q := W_go f225_82 rfl
theorem f225_83 : fetch 225 83 = some (.aload_n 0, 1, [], .null) := by decide +kernel
theorem w225_83 : Wp d 225 83 [some (.ref a), l1, l2, l3, l4, l5, l6] st h Q = Wp d 225 84 [some (.ref a), l1, l2, l3, l4, l5, l6] (.ref a :: st) h Q := W_go f225_83 rfl
theorem f225_84 : fetch 225 84 = some (.getfield 51, 3, [10, 15, 6149, 0], .null) := by decide +kernel
theorem w225_84 : Wp d 225 84 [l0, l1, l2, l3, l4, l5, l6] (.ref a :: st) h Q = gP (h.2 a) 10 15 (fun w => Wp d 225 87 [l0, l1, l2, l3, l4, l5, l6] (w :: st) h Q) := W_get f225_84 rfl
theorem f225_87 : fetch 225 87 = some (.getfield 262, 3, [9, 11, 6060, 1], .null) := by decide +kernel
theorem w225_87 : Wp d 225 87 [l0, l1, l2, l3, l4, l5, l6] (.ref a :: st) h Q = gP (h.2 a) 9 11 (fun w => Wp d 225 90 [l0, l1, l2, l3, l4, l5, l6] (w :: st) h Q) := W_get f225_87 rfl
theorem f225_90 : fetch 225 90 = some (.iload_n 1, 1, [], .null) := by decide +kernel
theorem w225_90 : Wp d 225 90 [l0, some (.int x), l2, l3, l4, l5, l6] st h Q = Wp d 225 91 [l0, some (.int x), l2, l3, l4, l5, l6] (.int x :: st) h Q := W_go f225_90 rfl
theorem f225_91 : fetch 225 91 = some (.iload 5, 2, [], .null) := by decide +kernel
theorem w225_91 : Wp d 225 91 [l0, l1, l2, l3, l4, some (.int x), l6] st h Q = Wp d 225 93 [l0, l1, l2, l3, l4, some (.int x), l6] (.int x :: st) h Q := W_go f225_91 rfl
theorem f225_93 : fetch 225 93 = some (.iastore, 1, [], .null) := by decide +kernel
theorem w225_93 : Wp d 225 93 [l0, l1, l2, l3, l4, l5, l6] (.int y :: .int x :: .ref a :: st) h Q = asP false (h.2 a) a x y (fun c => Wp d 225 94 [l0, l1, l2, l3, l4, l5, l6] st (hset h a c) Q) := W_ast f225_93 rfl
theorem f225_94 : fetch 225 94 = some (.aload_n 0, 1, [], .null) := by decide +kernel
theorem w225_94 : Wp d 225 94 [some (.ref a), l1, l2, l3, l4, l5, l6] st h Q = Wp d 225 95 [some (.ref a), l1, l2, l3, l4, l5, l6] (.ref a :: st) h Q := W_go f225_94 rfl
theorem f225_95 : fetch 225 95 = some (.getfield 51, 3, [10, 15, 6149, 0], .null) := by decide +kernel
theorem w225_95 : Wp d 225 95 [l0, l1, l2, l3, l4, l5, l6] (.ref a :: st) h Q = gP (h.2 a) 10 15 (fun w => Wp d 225 98 [l0, l1, l2, l3, l4, l5, l6] (w :: st) h Q) := W_get f225_95 rfl
theorem f225_98 : fetch 225 98 = some (.iload_n 1, 1, [], .null) := by decide +kernel
theorem w225_98 : Wp d 225 98 [l0, some (.int x), l2, l3, l4, l5, l6] st h Q = Wp d 225 99 [l0, some (.int x), l2, l3, l4, l5, l6] (.int x :: st) h Q := W_go f225_98 rfl
theorem f225_99 : fetch 225 99 = some (.invokevirtual 265, 3, [131, 2, 10, 0, 7105, 1015, 7108, 7106, 7107], .null) := by decide +kernel
theorem w225_99 (hp : psum st ≤ 8) : Wp d 225 99 [l0, l1, l2, l3, l4, l5, l6] (v1 :: (.ref b) :: st) h Q = rP (h.2 b) 9 (Cp d 131 [(.ref b), v1] h (fun o => cK o (fun w h2 => Wp d 225 102 [l0, l1, l2, l3, l4, l5, l6] (w.toList ++ st) h2 Q) (fun E h2 => Q (.inr E, h2)))) := (W_invV (st := st) f225_99 rfl rfl (by simp only [List.length_cons]; omega) rfl rfl hp).trans (by simp only [hm225, if_true])
theorem f225_102 : fetch 225 102 = some (.aload_n 0, 1, [], .null) := by decide +kernel
theorem w225_102 : Wp d 225 102 [some (.ref a), l1, l2, l3, l4, l5, l6] st h Q = Wp d 225 103 [some (.ref a), l1, l2, l3, l4, l5, l6] (.ref a :: st) h Q := W_go f225_102 rfl
theorem f225_103 : fetch 225 103 = some (.getfield 51, 3, [10, 15, 6149, 0], .null) := by decide +kernel
theorem w225_103 : Wp d 225 103 [l0, l1, l2, l3, l4, l5, l6] (.ref a :: st) h Q = gP (h.2 a) 10 15 (fun w => Wp d 225 106 [l0, l1, l2, l3, l4, l5, l6] (w :: st) h Q) := W_get f225_103 rfl
theorem f225_106 : fetch 225 106 = some (.iload_n 2, 1, [], .null) := by decide +kernel
theorem w225_106 : Wp d 225 106 [l0, l1, some (.int x), l3, l4, l5, l6] st h Q = Wp d 225 107 [l0, l1, some (.int x), l3, l4, l5, l6] (.int x :: st) h Q := W_go f225_106 rfl
theorem f225_107 : fetch 225 107 = some (.invokevirtual 296, 3, [143, 2, 10, 0, 7150, 1015, 7153, 7151, 7152], .null) := by decide +kernel
theorem w225_107 (hp : psum st ≤ 8) : Wp d 225 107 [l0, l1, l2, l3, l4, l5, l6] (v1 :: (.ref b) :: st) h Q = rP (h.2 b) 9 (Cp d 143 [(.ref b), v1] h (fun o => cK o (fun w h2 => Wp d 225 110 [l0, l1, l2, l3, l4, l5, l6] (w.toList ++ st) h2 Q) (fun E h2 => Q (.inr E, h2)))) := (W_invV (st := st) f225_107 rfl rfl (by simp only [List.length_cons]; omega) rfl rfl hp).trans (by simp only [hm225, if_true])
theorem f225_110 : fetch 225 110 = some (.istore 6, 2, [], .null) := by decide +kernel
theorem w225_110 : Wp d 225 110 [l0, l1, l2, l3, l4, l5, l6] (.int x :: st) h Q = Wp d 225 112 [l0, l1, l2, l3, l4, kl l5, some (.int x)] st h Q := (W_st1 (pc' := 112) (k := 6) f225_110 rfl rfl (by simp only [List.length_cons, List.length_nil]; omega)).trans (by rw [pst1_succ]; rfl)
theorem f225_112 : fetch 225 112 = some (.iload_n 3, 1, [], .null) := by decide +kernel
theorem w225_112 : Wp d 225 112 [l0, l1, l2, some (.int x), l4, l5, l6] st h Q = Wp d 225 113 [l0, l1, l2, some (.int x), l4, l5, l6] (.int x :: st) h Q := W_go f225_112 rfl
theorem f225_113 : fetch 225 113 = some (.iconst (-1), 1, [], .null) := by decide +kernel
theorem w225_113 : Wp d 225 113 [l0, l1, l2, l3, l4, l5, l6] st h Q = Wp d 225 114 [l0, l1, l2, l3, l4, l5, l6] (.int (-1 : Int32) :: st) h Q := W_go f225_113 rfl
theorem f225_114 : fetch 225 114 = some (.if_icmp .eq 13, 3, [], .null) := by decide +kernel
theorem w225_114 : Wp d 225 114 [l0, l1, l2, l3, l4, l5, l6] (.int y :: .int x :: st) h Q = if icond .eq x y = true then Wp d 225 127 [l0, l1, l2, l3, l4, l5, l6] st h Q else Wp d 225 117 [l0, l1, l2, l3, l4, l5, l6] st h Q := W_if f225_114 rfl
theorem f225_117 : fetch 225 117 = some (.iload 6, 2, [], .null) := by decide +kernel
theorem w225_117 : Wp d 225 117 [l0, l1, l2, l3, l4, l5, some (.int x)] st h Q = Wp d 225 119 [l0, l1, l2, l3, l4, l5, some (.int x)] (.int x :: st) h Q := W_go f225_117 rfl
theorem f225_119 : fetch 225 119 = some (.iload 4, 2, [], .null) := by decide +kernel
theorem w225_119 : Wp d 225 119 [l0, l1, l2, l3, some (.int x), l5, l6] st h Q = Wp d 225 121 [l0, l1, l2, l3, some (.int x), l5, l6] (.int x :: st) h Q := W_go f225_119 rfl
theorem f225_121 : fetch 225 121 = some (.if_icmp .lt 6, 3, [], .null) := by decide +kernel
theorem w225_121 : Wp d 225 121 [l0, l1, l2, l3, l4, l5, l6] (.int y :: .int x :: st) h Q = if icond .lt x y = true then Wp d 225 127 [l0, l1, l2, l3, l4, l5, l6] st h Q else Wp d 225 124 [l0, l1, l2, l3, l4, l5, l6] st h Q := W_if f225_121 rfl
theorem f225_124 : fetch 225 124 = some (.goto 10, 3, [], .null) := by decide +kernel
theorem w225_124 : Wp d 225 124 [l0, l1, l2, l3, l4, l5, l6] st h Q = Wp d 225 134 [l0, l1, l2, l3, l4, l5, l6] st h Q := W_go f225_124 rfl
theorem f225_127 : fetch 225 127 = some (.iload 5, 2, [], .null) := by decide +kernel
theorem w225_127 : Wp d 225 127 [l0, l1, l2, l3, l4, some (.int x), l6] st h Q = Wp d 225 129 [l0, l1, l2, l3, l4, some (.int x), l6] (.int x :: st) h Q := W_go f225_127 rfl
theorem f225_129 : fetch 225 129 = some (.istore_n 3, 1, [], .null) := by decide +kernel
theorem w225_129 : Wp d 225 129 [l0, l1, l2, l3, l4, l5, l6] (.int x :: st) h Q = Wp d 225 130 [l0, l1, kl l2, some (.int x), l4, l5, l6] st h Q := (W_st1 (pc' := 130) (k := 3) f225_129 rfl rfl (by simp only [List.length_cons, List.length_nil]; omega)).trans (by rw [pst1_succ]; rfl)
theorem f225_130 : fetch 225 130 = some (.iload 6, 2, [], .null) := by decide +kernel
theorem w225_130 : Wp d 225 130 [l0, l1, l2, l3, l4, l5, some (.int x)] st h Q = Wp d 225 132 [l0, l1, l2, l3, l4, l5, some (.int x)] (.int x :: st) h Q := W_go f225_130 rfl
theorem f225_132 : fetch 225 132 = some (.istore 4, 2, [], .null) := by decide +kernel
theorem w225_132 : Wp d 225 132 [l0, l1, l2, l3, l4, l5, l6] (.int x :: st) h Q = Wp d 225 134 [l0, l1, l2, kl l3, some (.int x), l5, l6] st h Q := (W_st1 (pc' := 134) (k := 4) f225_132 rfl rfl (by simp only [List.length_cons, List.length_nil]; omega)).trans (by rw [pst1_succ]; rfl)
theorem f225_134 : fetch 225 134 = some (.iinc 5 1, 3, [], .null) := by decide +kernel
theorem w225_134 : Wp d 225 134 [l0, l1, l2, l3, l4, some (.int x), l6] st h Q = Wp d 225 137 [l0, l1, l2, l3, kl l4, some (.int (x + (1 : Int32))), l6] st h Q := (W_iinc (y := (1 : Int32)) f225_134 rfl (by simp only [List.length_cons, List.length_nil]; omega) (by decide)).trans (by rw [pst1_succ]; rfl)
theorem f225_137 : fetch 225 137 = some (.goto (-78), 3, [], .null) := by decide +kernel
theorem w225_137 : Wp d 225 137 [l0, l1, l2, l3, l4, l5, l6] st h Q = Wp d 225 59 [l0, l1, l2, l3, l4, l5, l6] st h Q := W_go f225_137 rfl
theorem f225_140 : fetch 225 140 = some (.iload_n 3, 1, [], .null) := by decide +kernel
theorem w225_140 : Wp d 225 140 [l0, l1, l2, some (.int x), l4, l5, l6] st h Q = Wp d 225 141 [l0, l1, l2, some (.int x), l4, l5, l6] (.int x :: st) h Q := W_go f225_140 rfl
theorem f225_141 : fetch 225 141 = some (.ireturn, 1, [], .null) := by decide +kernel
theorem w225_141 : Wp d 225 141 [l0, l1, l2, l3, l4, l5, l6] [.int x] h Q = Q (.inl (some (.int x)), h) := W_iret f225_141 hr225
theorem hm226 : mhs 226 = [] := by decide +kernel
theorem f226_0 : fetch 226 0 = some (.aload_n 0, 1, [], .null) := by decide +kernel
theorem w226_0 : Wp d 226 0 [some (.ref a), l1, l2] st h Q = Wp d 226 1 [some (.ref a), l1, l2] (.ref a :: st) h Q := W_go f226_0 rfl
theorem f226_1 : fetch 226 1 = some (.iconst 0, 1, [], .null) := by decide +kernel
theorem w226_1 : Wp d 226 1 [l0, l1, l2] st h Q = Wp d 226 2 [l0, l1, l2] (.int (0 : Int32) :: st) h Q := W_go f226_1 rfl
theorem f226_2 : fetch 226 2 = some (.putfield 57, 3, [10, 0, 6131, 0], .null) := by decide +kernel
theorem w226_2 : Wp d 226 2 [l0, l1, l2] (v :: .ref a :: st) h Q = pP (h.2 a) 10 0 (ftOf 10 0) v a (fun c => Wp d 226 5 [l0, l1, l2] st (hset h a c) Q) := W_put f226_2 (by rfl)
theorem f226_5 : fetch 226 5 = some (.iconst 0, 1, [], .null) := by decide +kernel
theorem w226_5 : Wp d 226 5 [l0, l1, l2] st h Q = Wp d 226 6 [l0, l1, l2] (.int (0 : Int32) :: st) h Q := W_go f226_5 rfl
theorem f226_6 : fetch 226 6 = some (.istore_n 1, 1, [], .null) := by decide +kernel
theorem w226_6 : Wp d 226 6 [l0, l1, l2] (.int x :: st) h Q = Wp d 226 7 [kl l0, some (.int x), l2] st h Q := (W_st1 (pc' := 7) (k := 1) f226_6 rfl rfl (by simp only [List.length_cons, List.length_nil]; omega)).trans (by rw [pst1_succ]; rfl)
theorem f226_7 : fetch 226 7 = some (.iconst 0, 1, [], .null) := by decide +kernel
theorem w226_7 : Wp d 226 7 [l0, l1, l2] st h Q = Wp d 226 8 [l0, l1, l2] (.int (0 : Int32) :: st) h Q := W_go f226_7 rfl
theorem f226_8 : fetch 226 8 = some (.istore_n 2, 1, [], .null) := by decide +kernel
theorem w226_8 : Wp d 226 8 [l0, l1, l2] (.int x :: st) h Q = Wp d 226 9 [l0, kl l1, some (.int x)] st h Q := (W_st1 (pc' := 9) (k := 2) f226_8 rfl rfl (by simp only [List.length_cons, List.length_nil]; omega)).trans (by rw [pst1_succ]; rfl)
theorem f226_9 : fetch 226 9 = some (.iload_n 2, 1, [], .null) := by decide +kernel
theorem w226_9 : Wp d 226 9 [l0, l1, some (.int x)] st h Q = Wp d 226 10 [l0, l1, some (.int x)] (.int x :: st) h Q := W_go f226_9 rfl
theorem f226_10 : fetch 226 10 = some (.aload_n 0, 1, [], .null) := by decide +kernel
theorem w226_10 : Wp d 226 10 [some (.ref a), l1, l2] st h Q = Wp d 226 11 [some (.ref a), l1, l2] (.ref a :: st) h Q := W_go f226_10 rfl
theorem f226_11 : fetch 226 11 = some (.getfield 32, 3, [10, 10, 6141, 0], .null) := by decide +kernel
theorem w226_11 : Wp d 226 11 [l0, l1, l2] (.ref a :: st) h Q = gP (h.2 a) 10 10 (fun w => Wp d 226 14 [l0, l1, l2] (w :: st) h Q) := W_get f226_11 rfl
theorem f226_14 : fetch 226 14 = some (.getfield 60, 3, [8, 0, 5174, 1], .null) := by decide +kernel
theorem w226_14 : Wp d 226 14 [l0, l1, l2] (.ref a :: st) h Q = gP (h.2 a) 8 0 (fun w => Wp d 226 17 [l0, l1, l2] (w :: st) h Q) := W_get f226_14 rfl
theorem f226_17 : fetch 226 17 = some (.if_icmp .ge 21, 3, [], .null) := by decide +kernel
theorem w226_17 : Wp d 226 17 [l0, l1, l2] (.int y :: .int x :: st) h Q = if icond .ge x y = true then Wp d 226 38 [l0, l1, l2] st h Q else Wp d 226 20 [l0, l1, l2] st h Q := W_if f226_17 rfl
theorem f226_20 : fetch 226 20 = some (.iload_n 1, 1, [], .null) := by decide +kernel
theorem w226_20 : Wp d 226 20 [l0, some (.int x), l2] st h Q = Wp d 226 21 [l0, some (.int x), l2] (.int x :: st) h Q := W_go f226_20 rfl
theorem f226_21 : fetch 226 21 = some (.aload_n 0, 1, [], .null) := by decide +kernel
theorem w226_21 : Wp d 226 21 [some (.ref a), l1, l2] st h Q = Wp d 226 22 [some (.ref a), l1, l2] (.ref a :: st) h Q := W_go f226_21 rfl
theorem f226_22 : fetch 226 22 = some (.getfield 47, 3, [10, 14, 6148, 0], .null) := by decide +kernel
theorem w226_22 : Wp d 226 22 [l0, l1, l2] (.ref a :: st) h Q = gP (h.2 a) 10 14 (fun w => Wp d 226 25 [l0, l1, l2] (w :: st) h Q) := W_get f226_22 rfl
theorem f226_25 : fetch 226 25 = some (.getfield 285, 3, [9, 4, 6047, 1], .null) := by decide +kernel
theorem w226_25 : Wp d 226 25 [l0, l1, l2] (.ref a :: st) h Q = gP (h.2 a) 9 4 (fun w => Wp d 226 28 [l0, l1, l2] (w :: st) h Q) := W_get f226_25 rfl
theorem f226_28 : fetch 226 28 = some (.iload_n 2, 1, [], .null) := by decide +kernel
theorem w226_28 : Wp d 226 28 [l0, l1, some (.int x)] st h Q = Wp d 226 29 [l0, l1, some (.int x)] (.int x :: st) h Q := W_go f226_28 rfl
theorem f226_29 : fetch 226 29 = some (.iaload, 1, [], .null) := by decide +kernel
theorem w226_29 : Wp d 226 29 [l0, l1, l2] (.int x :: .ref a :: st) h Q = aP false (h.2 a) x (fun w => Wp d 226 30 [l0, l1, l2] (.int w :: st) h Q) := W_ald f226_29 rfl
theorem f226_30 : fetch 226 30 = some (.iadd, 1, [], .null) := by decide +kernel
theorem w226_30 : Wp d 226 30 [l0, l1, l2] (.int y :: .int x :: st) h Q = Wp d 226 31 [l0, l1, l2] (.int (x + y) :: st) h Q := W_go f226_30 rfl
theorem f226_31 : fetch 226 31 = some (.istore_n 1, 1, [], .null) := by decide +kernel
theorem w226_31 : Wp d 226 31 [l0, l1, l2] (.int x :: st) h Q = Wp d 226 32 [kl l0, some (.int x), l2] st h Q := (W_st1 (pc' := 32) (k := 1) f226_31 rfl rfl (by simp only [List.length_cons, List.length_nil]; omega)).trans (by rw [pst1_succ]; rfl)
theorem f226_32 : fetch 226 32 = some (.iinc 2 1, 3, [], .null) := by decide +kernel
theorem w226_32 : Wp d 226 32 [l0, l1, some (.int x)] st h Q = Wp d 226 35 [l0, kl l1, some (.int (x + (1 : Int32)))] st h Q := (W_iinc (y := (1 : Int32)) f226_32 rfl (by simp only [List.length_cons, List.length_nil]; omega) (by decide)).trans (by rw [pst1_succ]; rfl)
theorem f226_35 : fetch 226 35 = some (.goto (-26), 3, [], .null) := by decide +kernel
theorem w226_35 : Wp d 226 35 [l0, l1, l2] st h Q = Wp d 226 9 [l0, l1, l2] st h Q := W_go f226_35 rfl
theorem f226_38 : fetch 226 38 = some (.aload_n 0, 1, [], .null) := by decide +kernel
theorem w226_38 : Wp d 226 38 [some (.ref a), l1, l2] st h Q = Wp d 226 39 [some (.ref a), l1, l2] (.ref a :: st) h Q := W_go f226_38 rfl
theorem f226_39 : fetch 226 39 = some (.getfield 32, 3, [10, 10, 6141, 0], .null) := by decide +kernel
theorem w226_39 : Wp d 226 39 [l0, l1, l2] (.ref a :: st) h Q = gP (h.2 a) 10 10 (fun w => Wp d 226 42 [l0, l1, l2] (w :: st) h Q) := W_get f226_39 rfl
theorem f226_42 : fetch 226 42 = some (.getfield 60, 3, [8, 0, 5174, 1], .null) := by decide +kernel
theorem w226_42 : Wp d 226 42 [l0, l1, l2] (.ref a :: st) h Q = gP (h.2 a) 8 0 (fun w => Wp d 226 45 [l0, l1, l2] (w :: st) h Q) := W_get f226_42 rfl
theorem f226_45 : fetch 226 45 = some (.ifCond .ne 7, 3, [], .null) := by decide +kernel
theorem w226_45 : Wp d 226 45 [l0, l1, l2] (.int x :: st) h Q = if icond .ne x 0 = true then Wp d 226 52 [l0, l1, l2] st h Q else Wp d 226 48 [l0, l1, l2] st h Q := W_if f226_45 rfl
theorem f226_48 : fetch 226 48 = some (.dconst 0, 1, [], .null) := by decide +kernel
theorem w226_48 : Wp d 226 48 [l0, l1, l2] st h Q = Wp d 226 49 [l0, l1, l2] (.double FP.dconst0 :: st) h Q := W_go f226_48 rfl
theorem f226_49 : fetch 226 49 = some (.goto 14, 3, [], .null) := by decide +kernel
theorem w226_49 : Wp d 226 49 [l0, l1, l2] st h Q = Wp d 226 63 [l0, l1, l2] st h Q := W_go f226_49 rfl
theorem f226_52 : fetch 226 52 = some (.iload_n 1, 1, [], .null) := by decide +kernel
theorem w226_52 : Wp d 226 52 [l0, some (.int x), l2] st h Q = Wp d 226 53 [l0, some (.int x), l2] (.int x :: st) h Q := W_go f226_52 rfl
theorem f226_53 : fetch 226 53 = some (.i2d, 1, [], .null) := by decide +kernel
theorem w226_53 : Wp d 226 53 [l0, l1, l2] (.int x :: st) h Q = Wp d 226 54 [l0, l1, l2] (.double (FP.i2d x) :: st) h Q := W_go f226_53 rfl
theorem f226_54 : fetch 226 54 = some (.aload_n 0, 1, [], .null) := by decide +kernel
theorem w226_54 : Wp d 226 54 [some (.ref a), l1, l2] st h Q = Wp d 226 55 [some (.ref a), l1, l2] (.ref a :: st) h Q := W_go f226_54 rfl
theorem f226_55 : fetch 226 55 = some (.getfield 32, 3, [10, 10, 6141, 0], .null) := by decide +kernel
theorem w226_55 : Wp d 226 55 [l0, l1, l2] (.ref a :: st) h Q = gP (h.2 a) 10 10 (fun w => Wp d 226 58 [l0, l1, l2] (w :: st) h Q) := W_get f226_55 rfl
theorem f226_58 : fetch 226 58 = some (.getfield 60, 3, [8, 0, 5174, 1], .null) := by decide +kernel
theorem w226_58 : Wp d 226 58 [l0, l1, l2] (.ref a :: st) h Q = gP (h.2 a) 8 0 (fun w => Wp d 226 61 [l0, l1, l2] (w :: st) h Q) := W_get f226_58 rfl
theorem f226_61 : fetch 226 61 = some (.i2d, 1, [], .null) := by decide +kernel
theorem w226_61 : Wp d 226 61 [l0, l1, l2] (.int x :: st) h Q = Wp d 226 62 [l0, l1, l2] (.double (FP.i2d x) :: st) h Q := W_go f226_61 rfl
theorem f226_62 : fetch 226 62 = some (.ddiv, 1, [], .null) := by decide +kernel
theorem w226_62 (hy : (FP.ddiv xd yd) &&& 0x7fffffffffffffff ≤ 0x7ff0000000000000) : Wp d 226 62 [l0, l1, l2] (.double yd :: .double xd :: st) h Q = Wp d 226 63 [l0, l1, l2] (.double (FP.ddiv xd yd) :: st) h Q := W_go f226_62 (by simp only [pstep, if_pos hy, pgo])
theorem f226_63 : fetch 226 63 = some (.dreturn, 1, [], .null) := by decide +kernel
theorem w226_63 : Wp d 226 63 [l0, l1, l2] [.double xd] h Q = Q (.inl (some (.double xd)), h) := W_fin f226_63 rfl
theorem hm227 : mhs 227 = [] := by decide +kernel
theorem hr227 : mret 227 = (some .int) := by decide +kernel
theorem f227_0 : fetch 227 0 = some (.iload_n 0, 1, [], .null) := by decide +kernel
theorem w227_0 : Wp d 227 0 [some (.int x)] st h Q = Wp d 227 1 [some (.int x)] (.int x :: st) h Q := W_go f227_0 rfl
theorem f227_1 : fetch 227 1 = some (.ifCond .eq 7, 3, [], .null) := by decide +kernel
theorem w227_1 : Wp d 227 1 [l0] (.int x :: st) h Q = if icond .eq x 0 = true then Wp d 227 8 [l0] st h Q else Wp d 227 4 [l0] st h Q := W_if f227_1 rfl
theorem f227_4 : fetch 227 4 = some (.iconst 1, 1, [], .null) := by decide +kernel
theorem w227_4 : Wp d 227 4 [l0] st h Q = Wp d 227 5 [l0] (.int (1 : Int32) :: st) h Q := W_go f227_4 rfl
theorem f227_5 : fetch 227 5 = some (.goto 4, 3, [], .null) := by decide +kernel
theorem w227_5 : Wp d 227 5 [l0] st h Q = Wp d 227 9 [l0] st h Q := W_go f227_5 rfl
theorem f227_8 : fetch 227 8 = some (.iconst 0, 1, [], .null) := by decide +kernel
theorem w227_8 : Wp d 227 8 [l0] st h Q = Wp d 227 9 [l0] (.int (0 : Int32) :: st) h Q := W_go f227_8 rfl
theorem f227_9 : fetch 227 9 = some (.ireturn, 1, [], .null) := by decide +kernel
theorem w227_9 : Wp d 227 9 [l0] [.int x] h Q = Q (.inl (some (.int x)), h) := W_iret f227_9 hr227
theorem hm228 : mhs 228 = [] := by decide +kernel
theorem f228_0 : fetch 228 0 = some (.aload_n 0, 1, [], .null) := by decide +kernel
theorem w228_0 : Wp d 228 0 [some (.ref a), l1, l2, l3, l4, l5, l6, l7, l8, l9] st h Q = Wp d 228 1 [some (.ref a), l1, l2, l3, l4, l5, l6, l7, l8, l9] (.ref a :: st) h Q := W_go f228_0 rfl
theorem f228_1 : fetch 228 1 = some (.iconst 0, 1, [], .null) := by decide +kernel
theorem w228_1 : Wp d 228 1 [l0, l1, l2, l3, l4, l5, l6, l7, l8, l9] st h Q = Wp d 228 2 [l0, l1, l2, l3, l4, l5, l6, l7, l8, l9] (.int (0 : Int32) :: st) h Q := W_go f228_1 rfl
theorem f228_2 : fetch 228 2 = some (.putfield 57, 3, [10, 0, 6131, 0], .null) := by decide +kernel
theorem w228_2 : Wp d 228 2 [l0, l1, l2, l3, l4, l5, l6, l7, l8, l9] (v :: .ref a :: st) h Q = pP (h.2 a) 10 0 (ftOf 10 0) v a (fun c => Wp d 228 5 [l0, l1, l2, l3, l4, l5, l6, l7, l8, l9] st (hset h a c) Q) := W_put f228_2 (by rfl)
theorem f228_5 : fetch 228 5 = some (.bipush 10, 2, [], .null) := by decide +kernel
theorem w228_5 : Wp d 228 5 [l0, l1, l2, l3, l4, l5, l6, l7, l8, l9] st h Q = Wp d 228 7 [l0, l1, l2, l3, l4, l5, l6, l7, l8, l9] (.int (10 : Int32) :: st) h Q := W_go f228_5 rfl
theorem f228_7 : fetch 228 7 = some (.newarray .int, 2, [0, 1141], .null) := by decide +kernel
theorem w228_7 (hx : ¬ x < 0 ∧ x.toNatClampNeg ≤ 60000) : Wp d 228 7 [l0, l1, l2, l3, l4, l5, l6, l7, l8, l9] (.int x :: st) h Q = Wp d 228 9 [l0, l1, l2, l3, l4, l5, l6, l7, l8, l9] (.ref h.1.1 :: st) (hnew h x.toNatClampNeg (.inl (0, arr0 0 x.toNatClampNeg))) Q := W_go f228_7 (by simp only [pstep, pnewa, if_pos hx]; rfl)
theorem f228_9 : fetch 228 9 = some (.dup, 1, [], .null) := by decide +kernel
theorem w228_9i : Wp d 228 9 [l0, l1, l2, l3, l4, l5, l6, l7, l8, l9] (.int x :: st) h Q = Wp d 228 10 [l0, l1, l2, l3, l4, l5, l6, l7, l8, l9] (.int x :: .int x :: st) h Q := W_go f228_9 rfl
theorem w228_9 : Wp d 228 9 [l0, l1, l2, l3, l4, l5, l6, l7, l8, l9] (.ref a :: st) h Q = Wp d 228 10 [l0, l1, l2, l3, l4, l5, l6, l7, l8, l9] (.ref a :: .ref a :: st) h Q := W_go f228_9 rfl
theorem f228_10 : fetch 228 10 = some (.iconst 0, 1, [], .null) := by decide +kernel
theorem w228_10 : Wp d 228 10 [l0, l1, l2, l3, l4, l5, l6, l7, l8, l9] st h Q = Wp d 228 11 [l0, l1, l2, l3, l4, l5, l6, l7, l8, l9] (.int (0 : Int32) :: st) h Q := W_go f228_10 rfl
theorem f228_11 : fetch 228 11 = some (.aload_n 0, 1, [], .null) := by decide +kernel
theorem w228_11 : Wp d 228 11 [some (.ref a), l1, l2, l3, l4, l5, l6, l7, l8, l9] st h Q = Wp d 228 12 [some (.ref a), l1, l2, l3, l4, l5, l6, l7, l8, l9] (.ref a :: st) h Q := W_go f228_11 rfl
theorem f228_12 : fetch 228 12 = some (.getfield 32, 3, [10, 10, 6141, 0], .null) := by decide +kernel
theorem w228_12 : Wp d 228 12 [l0, l1, l2, l3, l4, l5, l6, l7, l8, l9] (.ref a :: st) h Q = gP (h.2 a) 10 10 (fun w => Wp d 228 15 [l0, l1, l2, l3, l4, l5, l6, l7, l8, l9] (w :: st) h Q) := W_get f228_12 rfl
theorem f228_15 : fetch 228 15 = some (.getfield 60, 3, [8, 0, 5174, 1], .null) := by decide +kernel
theorem w228_15 : Wp d 228 15 [l0, l1, l2, l3, l4, l5, l6, l7, l8, l9] (.ref a :: st) h Q = gP (h.2 a) 8 0 (fun w => Wp d 228 18 [l0, l1, l2, l3, l4, l5, l6, l7, l8, l9] (w :: st) h Q) := W_get f228_15 rfl
theorem f228_18 : fetch 228 18 = some (.iastore, 1, [], .null) := by decide +kernel
theorem w228_18 : Wp d 228 18 [l0, l1, l2, l3, l4, l5, l6, l7, l8, l9] (.int y :: .int x :: .ref a :: st) h Q = asP false (h.2 a) a x y (fun c => Wp d 228 19 [l0, l1, l2, l3, l4, l5, l6, l7, l8, l9] st (hset h a c) Q) := W_ast f228_18 rfl
theorem f228_19 : fetch 228 19 = some (.dup, 1, [], .null) := by decide +kernel
theorem w228_19i : Wp d 228 19 [l0, l1, l2, l3, l4, l5, l6, l7, l8, l9] (.int x :: st) h Q = Wp d 228 20 [l0, l1, l2, l3, l4, l5, l6, l7, l8, l9] (.int x :: .int x :: st) h Q := W_go f228_19 rfl
theorem w228_19 : Wp d 228 19 [l0, l1, l2, l3, l4, l5, l6, l7, l8, l9] (.ref a :: st) h Q = Wp d 228 20 [l0, l1, l2, l3, l4, l5, l6, l7, l8, l9] (.ref a :: .ref a :: st) h Q := W_go f228_19 rfl
theorem f228_20 : fetch 228 20 = some (.iconst 1, 1, [], .null) := by decide +kernel
theorem w228_20 : Wp d 228 20 [l0, l1, l2, l3, l4, l5, l6, l7, l8, l9] st h Q = Wp d 228 21 [l0, l1, l2, l3, l4, l5, l6, l7, l8, l9] (.int (1 : Int32) :: st) h Q := W_go f228_20 rfl
theorem f228_21 : fetch 228 21 = some (.aload_n 0, 1, [], .null) := by decide +kernel
theorem w228_21 : Wp d 228 21 [some (.ref a), l1, l2, l3, l4, l5, l6, l7, l8, l9] st h Q = Wp d 228 22 [some (.ref a), l1, l2, l3, l4, l5, l6, l7, l8, l9] (.ref a :: st) h Q := W_go f228_21 rfl
theorem f228_22 : fetch 228 22 = some (.getfield 32, 3, [10, 10, 6141, 0], .null) := by decide +kernel
theorem w228_22 : Wp d 228 22 [l0, l1, l2, l3, l4, l5, l6, l7, l8, l9] (.ref a :: st) h Q = gP (h.2 a) 10 10 (fun w => Wp d 228 25 [l0, l1, l2, l3, l4, l5, l6, l7, l8, l9] (w :: st) h Q) := W_get f228_22 rfl
theorem f228_25 : fetch 228 25 = some (.getfield 213, 3, [8, 1, 5176, 1], .null) := by decide +kernel
theorem w228_25 : Wp d 228 25 [l0, l1, l2, l3, l4, l5, l6, l7, l8, l9] (.ref a :: st) h Q = gP (h.2 a) 8 1 (fun w => Wp d 228 28 [l0, l1, l2, l3, l4, l5, l6, l7, l8, l9] (w :: st) h Q) := W_get f228_25 rfl
theorem f228_28 : fetch 228 28 = some (.iastore, 1, [], .null) := by decide +kernel
theorem w228_28 : Wp d 228 28 [l0, l1, l2, l3, l4, l5, l6, l7, l8, l9] (.int y :: .int x :: .ref a :: st) h Q = asP false (h.2 a) a x y (fun c => Wp d 228 29 [l0, l1, l2, l3, l4, l5, l6, l7, l8, l9] st (hset h a c) Q) := W_ast f228_28 rfl
theorem f228_29 : fetch 228 29 = some (.dup, 1, [], .null) := by decide +kernel
theorem w228_29i : Wp d 228 29 [l0, l1, l2, l3, l4, l5, l6, l7, l8, l9] (.int x :: st) h Q = Wp d 228 30 [l0, l1, l2, l3, l4, l5, l6, l7, l8, l9] (.int x :: .int x :: st) h Q := W_go f228_29 rfl
theorem w228_29 : Wp d 228 29 [l0, l1, l2, l3, l4, l5, l6, l7, l8, l9] (.ref a :: st) h Q = Wp d 228 30 [l0, l1, l2, l3, l4, l5, l6, l7, l8, l9] (.ref a :: .ref a :: st) h Q := W_go f228_29 rfl
theorem f228_30 : fetch 228 30 = some (.iconst 2, 1, [], .null) := by decide +kernel
theorem w228_30 : Wp d 228 30 [l0, l1, l2, l3, l4, l5, l6, l7, l8, l9] st h Q = Wp d 228 31 [l0, l1, l2, l3, l4, l5, l6, l7, l8, l9] (.int (2 : Int32) :: st) h Q := W_go f228_30 rfl
theorem f228_31 : fetch 228 31 = some (.aload_n 0, 1, [], .null) := by decide +kernel
theorem w228_31 : Wp d 228 31 [some (.ref a), l1, l2, l3, l4, l5, l6, l7, l8, l9] st h Q = Wp d 228 32 [some (.ref a), l1, l2, l3, l4, l5, l6, l7, l8, l9] (.ref a :: st) h Q := W_go f228_31 rfl
theorem f228_32 : fetch 228 32 = some (.getfield 32, 3, [10, 10, 6141, 0], .null) := by decide +kernel
theorem w228_32 : Wp d 228 32 [l0, l1, l2, l3, l4, l5, l6, l7, l8, l9] (.ref a :: st) h Q = gP (h.2 a) 10 10 (fun w => Wp d 228 35 [l0, l1, l2, l3, l4, l5, l6, l7, l8, l9] (w :: st) h Q) := W_get f228_32 rfl
theorem f228_35 : fetch 228 35 = some (.getfield 216, 3, [8, 2, 5177, 1], .null) := by decide +kernel
theorem w228_35 : Wp d 228 35 [l0, l1, l2, l3, l4, l5, l6, l7, l8, l9] (.ref a :: st) h Q = gP (h.2 a) 8 2 (fun w => Wp d 228 38 [l0, l1, l2, l3, l4, l5, l6, l7, l8, l9] (w :: st) h Q) := W_get f228_35 rfl
theorem f228_38 : fetch 228 38 = some (.iastore, 1, [], .null) := by decide +kernel
theorem w228_38 : Wp d 228 38 [l0, l1, l2, l3, l4, l5, l6, l7, l8, l9] (.int y :: .int x :: .ref a :: st) h Q = asP false (h.2 a) a x y (fun c => Wp d 228 39 [l0, l1, l2, l3, l4, l5, l6, l7, l8, l9] st (hset h a c) Q) := W_ast f228_38 rfl
theorem f228_39 : fetch 228 39 = some (.dup, 1, [], .null) := by decide +kernel
theorem w228_39i : Wp d 228 39 [l0, l1, l2, l3, l4, l5, l6, l7, l8, l9] (.int x :: st) h Q = Wp d 228 40 [l0, l1, l2, l3, l4, l5, l6, l7, l8, l9] (.int x :: .int x :: st) h Q := W_go f228_39 rfl
theorem w228_39 : Wp d 228 39 [l0, l1, l2, l3, l4, l5, l6, l7, l8, l9] (.ref a :: st) h Q = Wp d 228 40 [l0, l1, l2, l3, l4, l5, l6, l7, l8, l9] (.ref a :: .ref a :: st) h Q := W_go f228_39 rfl
theorem f228_40 : fetch 228 40 = some (.iconst 3, 1, [], .null) := by decide +kernel
theorem w228_40 : Wp d 228 40 [l0, l1, l2, l3, l4, l5, l6, l7, l8, l9] st h Q = Wp d 228 41 [l0, l1, l2, l3, l4, l5, l6, l7, l8, l9] (.int (3 : Int32) :: st) h Q := W_go f228_40 rfl
theorem f228_41 : fetch 228 41 = some (.aload_n 0, 1, [], .null) := by decide +kernel
theorem w228_41 : Wp d 228 41 [some (.ref a), l1, l2, l3, l4, l5, l6, l7, l8, l9] st h Q = Wp d 228 42 [some (.ref a), l1, l2, l3, l4, l5, l6, l7, l8, l9] (.ref a :: st) h Q := W_go f228_41 rfl
theorem f228_42 : fetch 228 42 = some (.invokevirtual 302, 3, [203, 1, 11, 0, 8023, 1013, 8026, 8025, 79], .null) := by decide +kernel
theorem w228_42 (hp : psum st ≤ 8) : Wp d 228 42 [l0, l1, l2, l3, l4, l5, l6, l7, l8, l9] ((.ref b) :: st) h Q = rP (h.2 b) 10 (Cp d 203 [(.ref b)] h (fun o => cK o (fun w h2 => Wp d 228 45 [l0, l1, l2, l3, l4, l5, l6, l7, l8, l9] (w.toList ++ st) h2 Q) (fun E h2 => Q (.inr E, h2)))) := (W_invV (st := st) f228_42 rfl rfl (by simp only [List.length_cons]; omega) rfl rfl hp).trans (by simp only [hm228, if_true])
theorem f228_45 : fetch 228 45 = some (.iastore, 1, [], .null) := by decide +kernel
theorem w228_45 : Wp d 228 45 [l0, l1, l2, l3, l4, l5, l6, l7, l8, l9] (.int y :: .int x :: .ref a :: st) h Q = asP false (h.2 a) a x y (fun c => Wp d 228 46 [l0, l1, l2, l3, l4, l5, l6, l7, l8, l9] st (hset h a c) Q) := W_ast f228_45 rfl
theorem f228_46 : fetch 228 46 = some (.dup, 1, [], .null) := by decide +kernel
theorem w228_46i : Wp d 228 46 [l0, l1, l2, l3, l4, l5, l6, l7, l8, l9] (.int x :: st) h Q = Wp d 228 47 [l0, l1, l2, l3, l4, l5, l6, l7, l8, l9] (.int x :: .int x :: st) h Q := W_go f228_46 rfl
theorem w228_46 : Wp d 228 46 [l0, l1, l2, l3, l4, l5, l6, l7, l8, l9] (.ref a :: st) h Q = Wp d 228 47 [l0, l1, l2, l3, l4, l5, l6, l7, l8, l9] (.ref a :: .ref a :: st) h Q := W_go f228_46 rfl
theorem f228_47 : fetch 228 47 = some (.iconst 4, 1, [], .null) := by decide +kernel
theorem w228_47 : Wp d 228 47 [l0, l1, l2, l3, l4, l5, l6, l7, l8, l9] st h Q = Wp d 228 48 [l0, l1, l2, l3, l4, l5, l6, l7, l8, l9] (.int (4 : Int32) :: st) h Q := W_go f228_47 rfl
theorem f228_48 : fetch 228 48 = some (.aload_n 0, 1, [], .null) := by decide +kernel
theorem w228_48 : Wp d 228 48 [some (.ref a), l1, l2, l3, l4, l5, l6, l7, l8, l9] st h Q = Wp d 228 49 [some (.ref a), l1, l2, l3, l4, l5, l6, l7, l8, l9] (.ref a :: st) h Q := W_go f228_48 rfl
theorem f228_49 : fetch 228 49 = some (.getfield 47, 3, [10, 14, 6148, 0], .null) := by decide +kernel
theorem w228_49 : Wp d 228 49 [l0, l1, l2, l3, l4, l5, l6, l7, l8, l9] (.ref a :: st) h Q = gP (h.2 a) 10 14 (fun w => Wp d 228 52 [l0, l1, l2, l3, l4, l5, l6, l7, l8, l9] (w :: st) h Q) := W_get f228_49 rfl
theorem f228_52 : fetch 228 52 = some (.getfield 305, 3, [9, 3, 6045, 1], .null) := by decide +kernel
theorem w228_52 : Wp d 228 52 [l0, l1, l2, l3, l4, l5, l6, l7, l8, l9] (.ref a :: st) h Q = gP (h.2 a) 9 3 (fun w => Wp d 228 55 [l0, l1, l2, l3, l4, l5, l6, l7, l8, l9] (w :: st) h Q) := W_get f228_52 rfl
theorem f228_55 : fetch 228 55 = some (.iastore, 1, [], .null) := by decide +kernel
theorem w228_55 : Wp d 228 55 [l0, l1, l2, l3, l4, l5, l6, l7, l8, l9] (.int y :: .int x :: .ref a :: st) h Q = asP false (h.2 a) a x y (fun c => Wp d 228 56 [l0, l1, l2, l3, l4, l5, l6, l7, l8, l9] st (hset h a c) Q) := W_ast f228_55 rfl
theorem f228_56 : fetch 228 56 = some (.dup, 1, [], .null) := by decide +kernel
theorem w228_56i : Wp d 228 56 [l0, l1, l2, l3, l4, l5, l6, l7, l8, l9] (.int x :: st) h Q = Wp d 228 57 [l0, l1, l2, l3, l4, l5, l6, l7, l8, l9] (.int x :: .int x :: st) h Q := W_go f228_56 rfl
theorem w228_56 : Wp d 228 56 [l0, l1, l2, l3, l4, l5, l6, l7, l8, l9] (.ref a :: st) h Q = Wp d 228 57 [l0, l1, l2, l3, l4, l5, l6, l7, l8, l9] (.ref a :: .ref a :: st) h Q := W_go f228_56 rfl
theorem f228_57 : fetch 228 57 = some (.iconst 5, 1, [], .null) := by decide +kernel
theorem w228_57 : Wp d 228 57 [l0, l1, l2, l3, l4, l5, l6, l7, l8, l9] st h Q = Wp d 228 58 [l0, l1, l2, l3, l4, l5, l6, l7, l8, l9] (.int (5 : Int32) :: st) h Q := W_go f228_57 rfl
theorem f228_58 : fetch 228 58 = some (.aload_n 0, 1, [], .null) := by decide +kernel
theorem w228_58 : Wp d 228 58 [some (.ref a), l1, l2, l3, l4, l5, l6, l7, l8, l9] st h Q = Wp d 228 59 [some (.ref a), l1, l2, l3, l4, l5, l6, l7, l8, l9] (.ref a :: st) h Q := W_go f228_58 rfl
theorem f228_59 : fetch 228 59 = some (.getfield 47, 3, [10, 14, 6148, 0], .null) := by decide +kernel
theorem w228_59 : Wp d 228 59 [l0, l1, l2, l3, l4, l5, l6, l7, l8, l9] (.ref a :: st) h Q = gP (h.2 a) 10 14 (fun w => Wp d 228 62 [l0, l1, l2, l3, l4, l5, l6, l7, l8, l9] (w :: st) h Q) := W_get f228_59 rfl
theorem f228_62 : fetch 228 62 = some (.getfield 308, 3, [9, 0, 6039, 1], .null) := by decide +kernel
theorem w228_62 : Wp d 228 62 [l0, l1, l2, l3, l4, l5, l6, l7, l8, l9] (.ref a :: st) h Q = gP (h.2 a) 9 0 (fun w => Wp d 228 65 [l0, l1, l2, l3, l4, l5, l6, l7, l8, l9] (w :: st) h Q) := W_get f228_62 rfl
theorem f228_65 : fetch 228 65 = some (.iastore, 1, [], .null) := by decide +kernel
theorem w228_65 : Wp d 228 65 [l0, l1, l2, l3, l4, l5, l6, l7, l8, l9] (.int y :: .int x :: .ref a :: st) h Q = asP false (h.2 a) a x y (fun c => Wp d 228 66 [l0, l1, l2, l3, l4, l5, l6, l7, l8, l9] st (hset h a c) Q) := W_ast f228_65 rfl
theorem f228_66 : fetch 228 66 = some (.dup, 1, [], .null) := by decide +kernel
theorem w228_66i : Wp d 228 66 [l0, l1, l2, l3, l4, l5, l6, l7, l8, l9] (.int x :: st) h Q = Wp d 228 67 [l0, l1, l2, l3, l4, l5, l6, l7, l8, l9] (.int x :: .int x :: st) h Q := W_go f228_66 rfl
theorem w228_66 : Wp d 228 66 [l0, l1, l2, l3, l4, l5, l6, l7, l8, l9] (.ref a :: st) h Q = Wp d 228 67 [l0, l1, l2, l3, l4, l5, l6, l7, l8, l9] (.ref a :: .ref a :: st) h Q := W_go f228_66 rfl
theorem f228_67 : fetch 228 67 = some (.bipush 6, 2, [], .null) := by decide +kernel
theorem w228_67 : Wp d 228 67 [l0, l1, l2, l3, l4, l5, l6, l7, l8, l9] st h Q = Wp d 228 69 [l0, l1, l2, l3, l4, l5, l6, l7, l8, l9] (.int (6 : Int32) :: st) h Q := W_go f228_67 rfl
theorem f228_69 : fetch 228 69 = some (.aload_n 0, 1, [], .null) := by decide +kernel
theorem w228_69 : Wp d 228 69 [some (.ref a), l1, l2, l3, l4, l5, l6, l7, l8, l9] st h Q = Wp d 228 70 [some (.ref a), l1, l2, l3, l4, l5, l6, l7, l8, l9] (.ref a :: st) h Q := W_go f228_69 rfl
theorem f228_70 : fetch 228 70 = some (.getfield 47, 3, [10, 14, 6148, 0], .null) := by decide +kernel
theorem w228_70 : Wp d 228 70 [l0, l1, l2, l3, l4, l5, l6, l7, l8, l9] (.ref a :: st) h Q = gP (h.2 a) 10 14 (fun w => Wp d 228 73 [l0, l1, l2, l3, l4, l5, l6, l7, l8, l9] (w :: st) h Q) := W_get f228_70 rfl
theorem f228_73 : fetch 228 73 = some (.getfield 311, 3, [9, 1, 6041, 1], .null) := by decide +kernel
theorem w228_73 : Wp d 228 73 [l0, l1, l2, l3, l4, l5, l6, l7, l8, l9] (.ref a :: st) h Q = gP (h.2 a) 9 1 (fun w => Wp d 228 76 [l0, l1, l2, l3, l4, l5, l6, l7, l8, l9] (w :: st) h Q) := W_get f228_73 rfl
theorem f228_76 : fetch 228 76 = some (.iastore, 1, [], .null) := by decide +kernel
theorem w228_76 : Wp d 228 76 [l0, l1, l2, l3, l4, l5, l6, l7, l8, l9] (.int y :: .int x :: .ref a :: st) h Q = asP false (h.2 a) a x y (fun c => Wp d 228 77 [l0, l1, l2, l3, l4, l5, l6, l7, l8, l9] st (hset h a c) Q) := W_ast f228_76 rfl
theorem f228_77 : fetch 228 77 = some (.dup, 1, [], .null) := by decide +kernel
theorem w228_77i : Wp d 228 77 [l0, l1, l2, l3, l4, l5, l6, l7, l8, l9] (.int x :: st) h Q = Wp d 228 78 [l0, l1, l2, l3, l4, l5, l6, l7, l8, l9] (.int x :: .int x :: st) h Q := W_go f228_77 rfl
theorem w228_77 : Wp d 228 77 [l0, l1, l2, l3, l4, l5, l6, l7, l8, l9] (.ref a :: st) h Q = Wp d 228 78 [l0, l1, l2, l3, l4, l5, l6, l7, l8, l9] (.ref a :: .ref a :: st) h Q := W_go f228_77 rfl
theorem f228_78 : fetch 228 78 = some (.bipush 7, 2, [], .null) := by decide +kernel
theorem w228_78 : Wp d 228 78 [l0, l1, l2, l3, l4, l5, l6, l7, l8, l9] st h Q = Wp d 228 80 [l0, l1, l2, l3, l4, l5, l6, l7, l8, l9] (.int (7 : Int32) :: st) h Q := W_go f228_78 rfl
theorem f228_80 : fetch 228 80 = some (.aload_n 0, 1, [], .null) := by decide +kernel
theorem w228_80 : Wp d 228 80 [some (.ref a), l1, l2, l3, l4, l5, l6, l7, l8, l9] st h Q = Wp d 228 81 [some (.ref a), l1, l2, l3, l4, l5, l6, l7, l8, l9] (.ref a :: st) h Q := W_go f228_80 rfl
theorem f228_81 : fetch 228 81 = some (.getfield 47, 3, [10, 14, 6148, 0], .null) := by decide +kernel
theorem w228_81 : Wp d 228 81 [l0, l1, l2, l3, l4, l5, l6, l7, l8, l9] (.ref a :: st) h Q = gP (h.2 a) 10 14 (fun w => Wp d 228 84 [l0, l1, l2, l3, l4, l5, l6, l7, l8, l9] (w :: st) h Q) := W_get f228_81 rfl
theorem f228_84 : fetch 228 84 = some (.invokevirtual 314, 3, [127, 1, 10, 0, 8043, 1015, 7165, 7163, 7164], .null) := by decide +kernel
theorem w228_84 (hp : psum st ≤ 8) : Wp d 228 84 [l0, l1, l2, l3, l4, l5, l6, l7, l8, l9] ((.ref b) :: st) h Q = rP (h.2 b) 9 (Cp d 127 [(.ref b)] h (fun o => cK o (fun w h2 => Wp d 228 87 [l0, l1, l2, l3, l4, l5, l6, l7, l8, l9] (w.toList ++ st) h2 Q) (fun E h2 => Q (.inr E, h2)))) := (W_invV (st := st) f228_84 rfl rfl (by simp only [List.length_cons]; omega) rfl rfl hp).trans (by simp only [hm228, if_true])
theorem f228_87 : fetch 228 87 = some (.iastore, 1, [], .null) := by decide +kernel
theorem w228_87 : Wp d 228 87 [l0, l1, l2, l3, l4, l5, l6, l7, l8, l9] (.int y :: .int x :: .ref a :: st) h Q = asP false (h.2 a) a x y (fun c => Wp d 228 88 [l0, l1, l2, l3, l4, l5, l6, l7, l8, l9] st (hset h a c) Q) := W_ast f228_87 rfl
theorem f228_88 : fetch 228 88 = some (.dup, 1, [], .null) := by decide +kernel
theorem w228_88i : Wp d 228 88 [l0, l1, l2, l3, l4, l5, l6, l7, l8, l9] (.int x :: st) h Q = Wp d 228 89 [l0, l1, l2, l3, l4, l5, l6, l7, l8, l9] (.int x :: .int x :: st) h Q := W_go f228_88 rfl
theorem w228_88 : Wp d 228 88 [l0, l1, l2, l3, l4, l5, l6, l7, l8, l9] (.ref a :: st) h Q = Wp d 228 89 [l0, l1, l2, l3, l4, l5, l6, l7, l8, l9] (.ref a :: .ref a :: st) h Q := W_go f228_88 rfl
theorem f228_89 : fetch 228 89 = some (.bipush 8, 2, [], .null) := by decide +kernel
theorem w228_89 : Wp d 228 89 [l0, l1, l2, l3, l4, l5, l6, l7, l8, l9] st h Q = Wp d 228 91 [l0, l1, l2, l3, l4, l5, l6, l7, l8, l9] (.int (8 : Int32) :: st) h Q := W_go f228_89 rfl
theorem f228_91 : fetch 228 91 = some (.aload_n 0, 1, [], .null) := by decide +kernel
theorem w228_91 : Wp d 228 91 [some (.ref a), l1, l2, l3, l4, l5, l6, l7, l8, l9] st h Q = Wp d 228 92 [some (.ref a), l1, l2, l3, l4, l5, l6, l7, l8, l9] (.ref a :: st) h Q := W_go f228_91 rfl
theorem f228_92 : fetch 228 92 = some (.getfield 47, 3, [10, 14, 6148, 0], .null) := by decide +kernel
theorem w228_92 : Wp d 228 92 [l0, l1, l2, l3, l4, l5, l6, l7, l8, l9] (.ref a :: st) h Q = gP (h.2 a) 10 14 (fun w => Wp d 228 95 [l0, l1, l2, l3, l4, l5, l6, l7, l8, l9] (w :: st) h Q) := W_get f228_92 rfl
theorem f228_95 : fetch 228 95 = some (.invokevirtual 317, 3, [128, 1, 10, 0, 8048, 1015, 7161, 7159, 7160], .null) := by decide +kernel
theorem w228_95 (hp : psum st ≤ 8) : Wp d 228 95 [l0, l1, l2, l3, l4, l5, l6, l7, l8, l9] ((.ref b) :: st) h Q = rP (h.2 b) 9 (Cp d 128 [(.ref b)] h (fun o => cK o (fun w h2 => Wp d 228 98 [l0, l1, l2, l3, l4, l5, l6, l7, l8, l9] (w.toList ++ st) h2 Q) (fun E h2 => Q (.inr E, h2)))) := (W_invV (st := st) f228_95 rfl rfl (by simp only [List.length_cons]; omega) rfl rfl hp).trans (by simp only [hm228, if_true])
theorem f228_98 : fetch 228 98 = some (.invokestatic 354, 3, [227, 1, 0, 0, 8133, 1013, 8135, 8134], .null) := by decide +kernel
theorem w228_98 (hp : psum st ≤ 8) : Wp d 228 98 [l0, l1, l2, l3, l4, l5, l6, l7, l8, l9] (v0 :: st) h Q = Cp d 227 [v0] h (fun o => cK o (fun w h2 => Wp d 228 101 [l0, l1, l2, l3, l4, l5, l6, l7, l8, l9] (w.toList ++ st) h2 Q) (fun _ _ => False)) := (W_invS (st := st) f228_98 rfl rfl (by simp only [List.length_cons]; omega) rfl rfl hp)
theorem f228_101 : fetch 228 101 = some (.iastore, 1, [], .null) := by decide +kernel
theorem w228_101 : Wp d 228 101 [l0, l1, l2, l3, l4, l5, l6, l7, l8, l9] (.int y :: .int x :: .ref a :: st) h Q = asP false (h.2 a) a x y (fun c => Wp d 228 102 [l0, l1, l2, l3, l4, l5, l6, l7, l8, l9] st (hset h a c) Q) := W_ast f228_101 rfl
theorem f228_102 : fetch 228 102 = some (.dup, 1, [], .null) := by decide +kernel
theorem w228_102i : Wp d 228 102 [l0, l1, l2, l3, l4, l5, l6, l7, l8, l9] (.int x :: st) h Q = Wp d 228 103 [l0, l1, l2, l3, l4, l5, l6, l7, l8, l9] (.int x :: .int x :: st) h Q := W_go f228_102 rfl
theorem w228_102 : Wp d 228 102 [l0, l1, l2, l3, l4, l5, l6, l7, l8, l9] (.ref a :: st) h Q = Wp d 228 103 [l0, l1, l2, l3, l4, l5, l6, l7, l8, l9] (.ref a :: .ref a :: st) h Q := W_go f228_102 rfl
theorem f228_103 : fetch 228 103 = some (.bipush 9, 2, [], .null) := by decide +kernel
theorem w228_103 : Wp d 228 103 [l0, l1, l2, l3, l4, l5, l6, l7, l8, l9] st h Q = Wp d 228 105 [l0, l1, l2, l3, l4, l5, l6, l7, l8, l9] (.int (9 : Int32) :: st) h Q := W_go f228_103 rfl
theorem f228_105 : fetch 228 105 = some (.aload_n 0, 1, [], .null) := by decide +kernel
theorem w228_105 : Wp d 228 105 [some (.ref a), l1, l2, l3, l4, l5, l6, l7, l8, l9] st h Q = Wp d 228 106 [some (.ref a), l1, l2, l3, l4, l5, l6, l7, l8, l9] (.ref a :: st) h Q := W_go f228_105 rfl
theorem f228_106 : fetch 228 106 = some (.getfield 67, 3, [10, 12, 6145, 0], .null) := by decide +kernel
theorem w228_106 : Wp d 228 106 [l0, l1, l2, l3, l4, l5, l6, l7, l8, l9] (.ref a :: st) h Q = gP (h.2 a) 10 12 (fun w => Wp d 228 109 [l0, l1, l2, l3, l4, l5, l6, l7, l8, l9] (w :: st) h Q) := W_get f228_106 rfl
theorem f228_109 : fetch 228 109 = some (.iastore, 1, [], .null) := by decide +kernel
theorem w228_109 : Wp d 228 109 [l0, l1, l2, l3, l4, l5, l6, l7, l8, l9] (.int y :: .int x :: .ref a :: st) h Q = asP false (h.2 a) a x y (fun c => Wp d 228 110 [l0, l1, l2, l3, l4, l5, l6, l7, l8, l9] st (hset h a c) Q) := W_ast f228_109 rfl
theorem f228_110 : fetch 228 110 = some (.astore_n 1, 1, [], .null) := by decide +kernel
theorem w228_110 : Wp d 228 110 [l0, l1, l2, l3, l4, l5, l6, l7, l8, l9] (.ref a :: st) h Q = Wp d 228 111 [kl l0, some (.ref a), l2, l3, l4, l5, l6, l7, l8, l9] st h Q := (W_st1 (pc' := 111) (k := 1) f228_110 rfl rfl (by simp only [List.length_cons, List.length_nil]; omega)).trans (by rw [pst1_succ]; rfl)
theorem f228_111 : fetch 228 111 = some (.ldc2_w 358, 3, [8136], .long (1901)) := by decide +kernel
theorem w228_111 : Wp d 228 111 [l0, l1, l2, l3, l4, l5, l6, l7, l8, l9] st h Q = Wp d 228 114 [l0, l1, l2, l3, l4, l5, l6, l7, l8, l9] ((.long (1901)) :: st) h Q := W_go f228_111 rfl
theorem f228_114 : fetch 228 114 = some (.lstore_n 2, 1, [], .null) := by decide +kernel
theorem w228_114 : Wp d 228 114 [l0, l1, l2, l3, l4, l5, l6, l7, l8, l9] (.long x8 :: st) h Q = Wp d 228 115 [l0, kl l1, some (.long x8), none, l4, l5, l6, l7, l8, l9] st h Q := (W_st2 (pc' := 115) (k := 2) f228_114 rfl rfl (by simp only [List.length_cons, List.length_nil]; omega)).trans (by rw [pst2_succ]; rfl)
theorem f228_115 : fetch 228 115 = some (.aload_n 1, 1, [], .null) := by decide +kernel
theorem w228_115 : Wp d 228 115 [l0, some (.ref a), l2, l3, l4, l5, l6, l7, l8, l9] st h Q = Wp d 228 116 [l0, some (.ref a), l2, l3, l4, l5, l6, l7, l8, l9] (.ref a :: st) h Q := W_go f228_115 rfl
theorem f228_116 : fetch 228 116 = some (.astore 4, 2, [], .null) := by decide +kernel
theorem w228_116 : Wp d 228 116 [l0, l1, l2, l3, l4, l5, l6, l7, l8, l9] (.ref a :: st) h Q = Wp d 228 118 [l0, l1, l2, kl l3, some (.ref a), l5, l6, l7, l8, l9] st h Q := (W_st1 (pc' := 118) (k := 4) f228_116 rfl rfl (by simp only [List.length_cons, List.length_nil]; omega)).trans (by rw [pst1_succ]; rfl)
theorem f228_118 : fetch 228 118 = some (.aload 4, 2, [], .null) := by decide +kernel
theorem w228_118 : Wp d 228 118 [l0, l1, l2, l3, some (.ref a), l5, l6, l7, l8, l9] st h Q = Wp d 228 120 [l0, l1, l2, l3, some (.ref a), l5, l6, l7, l8, l9] (.ref a :: st) h Q := W_go f228_118 rfl
theorem f228_120 : fetch 228 120 = some (.arraylength, 1, [], .null) := by decide +kernel
theorem w228_120 : Wp d 228 120 [l0, l1, l2, l3, l4, l5, l6, l7, l8, l9] (.ref a :: st) h Q = nP (h.2 a) (fun w => Wp d 228 121 [l0, l1, l2, l3, l4, l5, l6, l7, l8, l9] (.int w :: st) h Q) := W_len f228_120 rfl
theorem f228_121 : fetch 228 121 = some (.istore 5, 2, [], .null) := by decide +kernel
theorem w228_121 : Wp d 228 121 [l0, l1, l2, l3, l4, l5, l6, l7, l8, l9] (.int x :: st) h Q = Wp d 228 123 [l0, l1, l2, l3, kl l4, some (.int x), l6, l7, l8, l9] st h Q := (W_st1 (pc' := 123) (k := 5) f228_121 rfl rfl (by simp only [List.length_cons, List.length_nil]; omega)).trans (by rw [pst1_succ]; rfl)
theorem f228_123 : fetch 228 123 = some (.iconst 0, 1, [], .null) := by decide +kernel
theorem w228_123 : Wp d 228 123 [l0, l1, l2, l3, l4, l5, l6, l7, l8, l9] st h Q = Wp d 228 124 [l0, l1, l2, l3, l4, l5, l6, l7, l8, l9] (.int (0 : Int32) :: st) h Q := W_go f228_123 rfl
theorem f228_124 : fetch 228 124 = some (.istore 6, 2, [], .null) := by decide +kernel
theorem w228_124 : Wp d 228 124 [l0, l1, l2, l3, l4, l5, l6, l7, l8, l9] (.int x :: st) h Q = Wp d 228 126 [l0, l1, l2, l3, l4, kl l5, some (.int x), l7, l8, l9] st h Q := (W_st1 (pc' := 126) (k := 6) f228_124 rfl rfl (by simp only [List.length_cons, List.length_nil]; omega)).trans (by rw [pst1_succ]; rfl)
theorem f228_126 : fetch 228 126 = some (.iload 6, 2, [], .null) := by decide +kernel
theorem w228_126 : Wp d 228 126 [l0, l1, l2, l3, l4, l5, some (.int x), l7, l8, l9] st h Q = Wp d 228 128 [l0, l1, l2, l3, l4, l5, some (.int x), l7, l8, l9] (.int x :: st) h Q := W_go f228_126 rfl
theorem f228_128 : fetch 228 128 = some (.iload 5, 2, [], .null) := by decide +kernel
theorem w228_128 : Wp d 228 128 [l0, l1, l2, l3, l4, some (.int x), l6, l7, l8, l9] st h Q = Wp d 228 130 [l0, l1, l2, l3, l4, some (.int x), l6, l7, l8, l9] (.int x :: st) h Q := W_go f228_128 rfl
theorem f228_130 : fetch 228 130 = some (.if_icmp .ge 26, 3, [], .null) := by decide +kernel
theorem w228_130 : Wp d 228 130 [l0, l1, l2, l3, l4, l5, l6, l7, l8, l9] (.int y :: .int x :: st) h Q = if icond .ge x y = true then Wp d 228 156 [l0, l1, l2, l3, l4, l5, l6, l7, l8, l9] st h Q else Wp d 228 133 [l0, l1, l2, l3, l4, l5, l6, l7, l8, l9] st h Q := W_if f228_130 rfl
theorem f228_133 : fetch 228 133 = some (.aload 4, 2, [], .null) := by decide +kernel
theorem w228_133 : Wp d 228 133 [l0, l1, l2, l3, some (.ref a), l5, l6, l7, l8, l9] st h Q = Wp d 228 135 [l0, l1, l2, l3, some (.ref a), l5, l6, l7, l8, l9] (.ref a :: st) h Q := W_go f228_133 rfl
theorem f228_135 : fetch 228 135 = some (.iload 6, 2, [], .null) := by decide +kernel
theorem w228_135 : Wp d 228 135 [l0, l1, l2, l3, l4, l5, some (.int x), l7, l8, l9] st h Q = Wp d 228 137 [l0, l1, l2, l3, l4, l5, some (.int x), l7, l8, l9] (.int x :: st) h Q := W_go f228_135 rfl
theorem f228_137 : fetch 228 137 = some (.iaload, 1, [], .null) := by decide +kernel
theorem w228_137 : Wp d 228 137 [l0, l1, l2, l3, l4, l5, l6, l7, l8, l9] (.int x :: .ref a :: st) h Q = aP false (h.2 a) x (fun w => Wp d 228 138 [l0, l1, l2, l3, l4, l5, l6, l7, l8, l9] (.int w :: st) h Q) := W_ald f228_137 rfl
theorem f228_138 : fetch 228 138 = some (.istore 7, 2, [], .null) := by decide +kernel
theorem w228_138 : Wp d 228 138 [l0, l1, l2, l3, l4, l5, l6, l7, l8, l9] (.int x :: st) h Q = Wp d 228 140 [l0, l1, l2, l3, l4, l5, kl l6, some (.int x), l8, l9] st h Q := (W_st1 (pc' := 140) (k := 7) f228_138 rfl rfl (by simp only [List.length_cons, List.length_nil]; omega)).trans (by rw [pst1_succ]; rfl)
theorem f228_140 : fetch 228 140 = some (.lload_n 2, 1, [], .null) := by decide +kernel
theorem w228_140 : Wp d 228 140 [l0, l1, some (.long x8), l3, l4, l5, l6, l7, l8, l9] st h Q = Wp d 228 141 [l0, l1, some (.long x8), l3, l4, l5, l6, l7, l8, l9] (.long x8 :: st) h Q := W_go f228_140 rfl
theorem f228_141 : fetch 228 141 = some (.ldc2_w 360, 3, [8137], .long (31)) := by decide +kernel
theorem w228_141 : Wp d 228 141 [l0, l1, l2, l3, l4, l5, l6, l7, l8, l9] st h Q = Wp d 228 144 [l0, l1, l2, l3, l4, l5, l6, l7, l8, l9] ((.long (31)) :: st) h Q := W_go f228_141 rfl
theorem f228_144 : fetch 228 144 = some (.lmul, 1, [], .null) := by decide +kernel
theorem w228_144 : Wp d 228 144 [l0, l1, l2, l3, l4, l5, l6, l7, l8, l9] (.long y8 :: .long x8 :: st) h Q = Wp d 228 145 [l0, l1, l2, l3, l4, l5, l6, l7, l8, l9] (.long (x8 * y8) :: st) h Q := W_go f228_144 rfl
theorem f228_145 : fetch 228 145 = some (.iload 7, 2, [], .null) := by decide +kernel
theorem w228_145 : Wp d 228 145 [l0, l1, l2, l3, l4, l5, l6, some (.int x), l8, l9] st h Q = Wp d 228 147 [l0, l1, l2, l3, l4, l5, l6, some (.int x), l8, l9] (.int x :: st) h Q := W_go f228_145 rfl
theorem f228_147 : fetch 228 147 = some (.i2l, 1, [], .null) := by decide +kernel
theorem w228_147 : Wp d 228 147 [l0, l1, l2, l3, l4, l5, l6, l7, l8, l9] (.int x :: st) h Q = Wp d 228 148 [l0, l1, l2, l3, l4, l5, l6, l7, l8, l9] (.long x.toInt64 :: st) h Q := W_go f228_147 rfl
theorem f228_148 : fetch 228 148 = some (.ladd, 1, [], .null) := by decide +kernel
theorem w228_148 : Wp d 228 148 [l0, l1, l2, l3, l4, l5, l6, l7, l8, l9] (.long y8 :: .long x8 :: st) h Q = Wp d 228 149 [l0, l1, l2, l3, l4, l5, l6, l7, l8, l9] (.long (x8 + y8) :: st) h Q := W_go f228_148 rfl
theorem f228_149 : fetch 228 149 = some (.lstore_n 2, 1, [], .null) := by decide +kernel
theorem w228_149 : Wp d 228 149 [l0, l1, l2, l3, l4, l5, l6, l7, l8, l9] (.long x8 :: st) h Q = Wp d 228 150 [l0, kl l1, some (.long x8), none, l4, l5, l6, l7, l8, l9] st h Q := (W_st2 (pc' := 150) (k := 2) f228_149 rfl rfl (by simp only [List.length_cons, List.length_nil]; omega)).trans (by rw [pst2_succ]; rfl)
theorem f228_150 : fetch 228 150 = some (.iinc 6 1, 3, [], .null) := by decide +kernel
theorem w228_150 : Wp d 228 150 [l0, l1, l2, l3, l4, l5, some (.int x), l7, l8, l9] st h Q = Wp d 228 153 [l0, l1, l2, l3, l4, kl l5, some (.int (x + (1 : Int32))), l7, l8, l9] st h Q := (W_iinc (y := (1 : Int32)) f228_150 rfl (by simp only [List.length_cons, List.length_nil]; omega) (by decide)).trans (by rw [pst1_succ]; rfl)
theorem f228_153 : fetch 228 153 = some (.goto (-27), 3, [], .null) := by decide +kernel
theorem w228_153 : Wp d 228 153 [l0, l1, l2, l3, l4, l5, l6, l7, l8, l9] st h Q = Wp d 228 126 [l0, l1, l2, l3, l4, l5, l6, l7, l8, l9] st h Q := W_go f228_153 rfl
theorem f228_156 : fetch 228 156 = some (.iconst 0, 1, [], .null) := by decide +kernel
theorem w228_156 : Wp d 228 156 [l0, l1, l2, l3, l4, l5, l6, l7, l8, l9] st h Q = Wp d 228 157 [l0, l1, l2, l3, l4, l5, l6, l7, l8, l9] (.int (0 : Int32) :: st) h Q := W_go f228_156 rfl
theorem f228_157 : fetch 228 157 = some (.istore 4, 2, [], .null) := by decide +kernel
theorem w228_157 : Wp d 228 157 [l0, l1, l2, l3, l4, l5, l6, l7, l8, l9] (.int x :: st) h Q = Wp d 228 159 [l0, l1, l2, kl l3, some (.int x), l5, l6, l7, l8, l9] st h Q := (W_st1 (pc' := 159) (k := 4) f228_157 rfl rfl (by simp only [List.length_cons, List.length_nil]; omega)).trans (by rw [pst1_succ]; rfl)
theorem f228_159 : fetch 228 159 = some (.iload 4, 2, [], .null) := by decide +kernel
theorem w228_159 : Wp d 228 159 [l0, l1, l2, l3, some (.int x), l5, l6, l7, l8, l9] st h Q = Wp d 228 161 [l0, l1, l2, l3, some (.int x), l5, l6, l7, l8, l9] (.int x :: st) h Q := W_go f228_159 rfl
theorem f228_161 : fetch 228 161 = some (.aload_n 0, 1, [], .null) := by decide +kernel
theorem w228_161 : Wp d 228 161 [some (.ref a), l1, l2, l3, l4, l5, l6, l7, l8, l9] st h Q = Wp d 228 162 [some (.ref a), l1, l2, l3, l4, l5, l6, l7, l8, l9] (.ref a :: st) h Q := W_go f228_161 rfl
theorem f228_162 : fetch 228 162 = some (.getfield 32, 3, [10, 10, 6141, 0], .null) := by decide +kernel
theorem w228_162 : Wp d 228 162 [l0, l1, l2, l3, l4, l5, l6, l7, l8, l9] (.ref a :: st) h Q = gP (h.2 a) 10 10 (fun w => Wp d 228 165 [l0, l1, l2, l3, l4, l5, l6, l7, l8, l9] (w :: st) h Q) := W_get f228_162 rfl
theorem f228_165 : fetch 228 165 = some (.getfield 60, 3, [8, 0, 5174, 1], .null) := by decide +kernel
theorem w228_165 : Wp d 228 165 [l0, l1, l2, l3, l4, l5, l6, l7, l8, l9] (.ref a :: st) h Q = gP (h.2 a) 8 0 (fun w => Wp d 228 168 [l0, l1, l2, l3, l4, l5, l6, l7, l8, l9] (w :: st) h Q) := W_get f228_165 rfl
theorem f228_168 : fetch 228 168 = some (.if_icmp .ge 138, 3, [], .null) := by decide +kernel
theorem w228_168 : Wp d 228 168 [l0, l1, l2, l3, l4, l5, l6, l7, l8, l9] (.int y :: .int x :: st) h Q = if icond .ge x y = true then Wp d 228 306 [l0, l1, l2, l3, l4, l5, l6, l7, l8, l9] st h Q else Wp d 228 171 [l0, l1, l2, l3, l4, l5, l6, l7, l8, l9] st h Q := W_if f228_168 rfl
theorem f228_171 : fetch 228 171 = some (.bipush 6, 2, [], .null) := by decide +kernel
theorem w228_171 : Wp d 228 171 [l0, l1, l2, l3, l4, l5, l6, l7, l8, l9] st h Q = Wp d 228 173 [l0, l1, l2, l3, l4, l5, l6, l7, l8, l9] (.int (6 : Int32) :: st) h Q := W_go f228_171 rfl
theorem f228_173 : fetch 228 173 = some (.newarray .int, 2, [0, 1141], .null) := by decide +kernel
theorem w228_173 (hx : ¬ x < 0 ∧ x.toNatClampNeg ≤ 60000) : Wp d 228 173 [l0, l1, l2, l3, l4, l5, l6, l7, l8, l9] (.int x :: st) h Q = Wp d 228 175 [l0, l1, l2, l3, l4, l5, l6, l7, l8, l9] (.ref h.1.1 :: st) (hnew h x.toNatClampNeg (.inl (0, arr0 0 x.toNatClampNeg))) Q := W_go f228_173 (by simp only [pstep, pnewa, if_pos hx]; rfl)
theorem f228_175 : fetch 228 175 = some (.dup, 1, [], .null) := by decide +kernel
theorem w228_175i : Wp d 228 175 [l0, l1, l2, l3, l4, l5, l6, l7, l8, l9] (.int x :: st) h Q = Wp d 228 176 [l0, l1, l2, l3, l4, l5, l6, l7, l8, l9] (.int x :: .int x :: st) h Q := W_go f228_175 rfl
theorem w228_175 : Wp d 228 175 [l0, l1, l2, l3, l4, l5, l6, l7, l8, l9] (.ref a :: st) h Q = Wp d 228 176 [l0, l1, l2, l3, l4, l5, l6, l7, l8, l9] (.ref a :: .ref a :: st) h Q := W_go f228_175 rfl
theorem f228_176 : fetch 228 176 = some (.iconst 0, 1, [], .null) := by decide +kernel
theorem w228_176 : Wp d 228 176 [l0, l1, l2, l3, l4, l5, l6, l7, l8, l9] st h Q = Wp d 228 177 [l0, l1, l2, l3, l4, l5, l6, l7, l8, l9] (.int (0 : Int32) :: st) h Q := W_go f228_176 rfl
theorem f228_177 : fetch 228 177 = some (.aload_n 0, 1, [], .null) := by decide +kernel
theorem w228_177 : Wp d 228 177 [some (.ref a), l1, l2, l3, l4, l5, l6, l7, l8, l9] st h Q = Wp d 228 178 [some (.ref a), l1, l2, l3, l4, l5, l6, l7, l8, l9] (.ref a :: st) h Q := W_go f228_177 rfl
theorem f228_178 : fetch 228 178 = some (.getfield 32, 3, [10, 10, 6141, 0], .null) := by decide +kernel
theorem w228_178 : Wp d 228 178 [l0, l1, l2, l3, l4, l5, l6, l7, l8, l9] (.ref a :: st) h Q = gP (h.2 a) 10 10 (fun w => Wp d 228 181 [l0, l1, l2, l3, l4, l5, l6, l7, l8, l9] (w :: st) h Q) := W_get f228_178 rfl
theorem f228_181 : fetch 228 181 = some (.getfield 225, 3, [8, 3, 5180, 1], .null) := by decide +kernel
theorem w228_181 : Wp d 228 181 [l0, l1, l2, l3, l4, l5, l6, l7, l8, l9] (.ref a :: st) h Q = gP (h.2 a) 8 3 (fun w => Wp d 228 184 [l0, l1, l2, l3, l4, l5, l6, l7, l8, l9] (w :: st) h Q) := W_get f228_181 rfl
theorem f228_184 : fetch 228 184 = some (.iload 4, 2, [], .null) := by decide +kernel
theorem w228_184 : Wp d 228 184 [l0, l1, l2, l3, some (.int x), l5, l6, l7, l8, l9] st h Q = Wp d 228 186 [l0, l1, l2, l3, some (.int x), l5, l6, l7, l8, l9] (.int x :: st) h Q := W_go f228_184 rfl
theorem f228_186 : fetch 228 186 = some (.iaload, 1, [], .null) := by decide +kernel
theorem w228_186 : Wp d 228 186 [l0, l1, l2, l3, l4, l5, l6, l7, l8, l9] (.int x :: .ref a :: st) h Q = aP false (h.2 a) x (fun w => Wp d 228 187 [l0, l1, l2, l3, l4, l5, l6, l7, l8, l9] (.int w :: st) h Q) := W_ald f228_186 rfl
theorem f228_187 : fetch 228 187 = some (.iastore, 1, [], .null) := by decide +kernel
theorem w228_187 : Wp d 228 187 [l0, l1, l2, l3, l4, l5, l6, l7, l8, l9] (.int y :: .int x :: .ref a :: st) h Q = asP false (h.2 a) a x y (fun c => Wp d 228 188 [l0, l1, l2, l3, l4, l5, l6, l7, l8, l9] st (hset h a c) Q) := W_ast f228_187 rfl
theorem f228_188 : fetch 228 188 = some (.dup, 1, [], .null) := by decide +kernel
theorem w228_188i : Wp d 228 188 [l0, l1, l2, l3, l4, l5, l6, l7, l8, l9] (.int x :: st) h Q = Wp d 228 189 [l0, l1, l2, l3, l4, l5, l6, l7, l8, l9] (.int x :: .int x :: st) h Q := W_go f228_188 rfl
theorem w228_188 : Wp d 228 188 [l0, l1, l2, l3, l4, l5, l6, l7, l8, l9] (.ref a :: st) h Q = Wp d 228 189 [l0, l1, l2, l3, l4, l5, l6, l7, l8, l9] (.ref a :: .ref a :: st) h Q := W_go f228_188 rfl
theorem f228_189 : fetch 228 189 = some (.iconst 1, 1, [], .null) := by decide +kernel
theorem w228_189 : Wp d 228 189 [l0, l1, l2, l3, l4, l5, l6, l7, l8, l9] st h Q = Wp d 228 190 [l0, l1, l2, l3, l4, l5, l6, l7, l8, l9] (.int (1 : Int32) :: st) h Q := W_go f228_189 rfl
theorem f228_190 : fetch 228 190 = some (.aload_n 0, 1, [], .null) := by decide +kernel
theorem w228_190 : Wp d 228 190 [some (.ref a), l1, l2, l3, l4, l5, l6, l7, l8, l9] st h Q = Wp d 228 191 [some (.ref a), l1, l2, l3, l4, l5, l6, l7, l8, l9] (.ref a :: st) h Q := W_go f228_190 rfl
theorem f228_191 : fetch 228 191 = some (.getfield 32, 3, [10, 10, 6141, 0], .null) := by decide +kernel
theorem w228_191 : Wp d 228 191 [l0, l1, l2, l3, l4, l5, l6, l7, l8, l9] (.ref a :: st) h Q = gP (h.2 a) 10 10 (fun w => Wp d 228 194 [l0, l1, l2, l3, l4, l5, l6, l7, l8, l9] (w :: st) h Q) := W_get f228_191 rfl
theorem f228_194 : fetch 228 194 = some (.getfield 232, 3, [8, 4, 5183, 1], .null) := by decide +kernel
theorem w228_194 : Wp d 228 194 [l0, l1, l2, l3, l4, l5, l6, l7, l8, l9] (.ref a :: st) h Q = gP (h.2 a) 8 4 (fun w => Wp d 228 197 [l0, l1, l2, l3, l4, l5, l6, l7, l8, l9] (w :: st) h Q) := W_get f228_194 rfl
theorem f228_197 : fetch 228 197 = some (.iload 4, 2, [], .null) := by decide +kernel
theorem w228_197 : Wp d 228 197 [l0, l1, l2, l3, some (.int x), l5, l6, l7, l8, l9] st h Q = Wp d 228 199 [l0, l1, l2, l3, some (.int x), l5, l6, l7, l8, l9] (.int x :: st) h Q := W_go f228_197 rfl
theorem f228_199 : fetch 228 199 = some (.iaload, 1, [], .null) := by decide +kernel
theorem w228_199 : Wp d 228 199 [l0, l1, l2, l3, l4, l5, l6, l7, l8, l9] (.int x :: .ref a :: st) h Q = aP false (h.2 a) x (fun w => Wp d 228 200 [l0, l1, l2, l3, l4, l5, l6, l7, l8, l9] (.int w :: st) h Q) := W_ald f228_199 rfl
theorem f228_200 : fetch 228 200 = some (.iastore, 1, [], .null) := by decide +kernel
theorem w228_200 : Wp d 228 200 [l0, l1, l2, l3, l4, l5, l6, l7, l8, l9] (.int y :: .int x :: .ref a :: st) h Q = asP false (h.2 a) a x y (fun c => Wp d 228 201 [l0, l1, l2, l3, l4, l5, l6, l7, l8, l9] st (hset h a c) Q) := W_ast f228_200 rfl
theorem f228_201 : fetch 228 201 = some (.dup, 1, [], .null) := by decide +kernel
theorem w228_201i : Wp d 228 201 [l0, l1, l2, l3, l4, l5, l6, l7, l8, l9] (.int x :: st) h Q = Wp d 228 202 [l0, l1, l2, l3, l4, l5, l6, l7, l8, l9] (.int x :: .int x :: st) h Q := W_go f228_201 rfl
theorem w228_201 : Wp d 228 201 [l0, l1, l2, l3, l4, l5, l6, l7, l8, l9] (.ref a :: st) h Q = Wp d 228 202 [l0, l1, l2, l3, l4, l5, l6, l7, l8, l9] (.ref a :: .ref a :: st) h Q := W_go f228_201 rfl
theorem f228_202 : fetch 228 202 = some (.iconst 2, 1, [], .null) := by decide +kernel
theorem w228_202 : Wp d 228 202 [l0, l1, l2, l3, l4, l5, l6, l7, l8, l9] st h Q = Wp d 228 203 [l0, l1, l2, l3, l4, l5, l6, l7, l8, l9] (.int (2 : Int32) :: st) h Q := W_go f228_202 rfl
theorem f228_203 : fetch 228 203 = some (.aload_n 0, 1, [], .null) := by decide +kernel
theorem w228_203 : Wp d 228 203 [some (.ref a), l1, l2, l3, l4, l5, l6, l7, l8, l9] st h Q = Wp d 228 204 [some (.ref a), l1, l2, l3, l4, l5, l6, l7, l8, l9] (.ref a :: st) h Q := W_go f228_203 rfl
theorem f228_204 : fetch 228 204 = some (.getfield 47, 3, [10, 14, 6148, 0], .null) := by decide +kernel
theorem w228_204 : Wp d 228 204 [l0, l1, l2, l3, l4, l5, l6, l7, l8, l9] (.ref a :: st) h Q = gP (h.2 a) 10 14 (fun w => Wp d 228 207 [l0, l1, l2, l3, l4, l5, l6, l7, l8, l9] (w :: st) h Q) := W_get f228_204 rfl
theorem f228_207 : fetch 228 207 = some (.getfield 285, 3, [9, 4, 6047, 1], .null) := by decide +kernel
theorem w228_207 : Wp d 228 207 [l0, l1, l2, l3, l4, l5, l6, l7, l8, l9] (.ref a :: st) h Q = gP (h.2 a) 9 4 (fun w => Wp d 228 210 [l0, l1, l2, l3, l4, l5, l6, l7, l8, l9] (w :: st) h Q) := W_get f228_207 rfl
theorem f228_210 : fetch 228 210 = some (.iload 4, 2, [], .null) := by decide +kernel
theorem w228_210 : Wp d 228 210 [l0, l1, l2, l3, some (.int x), l5, l6, l7, l8, l9] st h Q = Wp d 228 212 [l0, l1, l2, l3, some (.int x), l5, l6, l7, l8, l9] (.int x :: st) h Q := W_go f228_210 rfl
theorem f228_212 : fetch 228 212 = some (.iaload, 1, [], .null) := by decide +kernel
theorem w228_212 : Wp d 228 212 [l0, l1, l2, l3, l4, l5, l6, l7, l8, l9] (.int x :: .ref a :: st) h Q = aP false (h.2 a) x (fun w => Wp d 228 213 [l0, l1, l2, l3, l4, l5, l6, l7, l8, l9] (.int w :: st) h Q) := W_ald f228_212 rfl
theorem f228_213 : fetch 228 213 = some (.iastore, 1, [], .null) := by decide +kernel
theorem w228_213 : Wp d 228 213 [l0, l1, l2, l3, l4, l5, l6, l7, l8, l9] (.int y :: .int x :: .ref a :: st) h Q = asP false (h.2 a) a x y (fun c => Wp d 228 214 [l0, l1, l2, l3, l4, l5, l6, l7, l8, l9] st (hset h a c) Q) := W_ast f228_213 rfl
theorem f228_214 : fetch 228 214 = some (.dup, 1, [], .null) := by decide +kernel
theorem w228_214i : Wp d 228 214 [l0, l1, l2, l3, l4, l5, l6, l7, l8, l9] (.int x :: st) h Q = Wp d 228 215 [l0, l1, l2, l3, l4, l5, l6, l7, l8, l9] (.int x :: .int x :: st) h Q := W_go f228_214 rfl
theorem w228_214 : Wp d 228 214 [l0, l1, l2, l3, l4, l5, l6, l7, l8, l9] (.ref a :: st) h Q = Wp d 228 215 [l0, l1, l2, l3, l4, l5, l6, l7, l8, l9] (.ref a :: .ref a :: st) h Q := W_go f228_214 rfl
theorem f228_215 : fetch 228 215 = some (.iconst 3, 1, [], .null) := by decide +kernel
theorem w228_215 : Wp d 228 215 [l0, l1, l2, l3, l4, l5, l6, l7, l8, l9] st h Q = Wp d 228 216 [l0, l1, l2, l3, l4, l5, l6, l7, l8, l9] (.int (3 : Int32) :: st) h Q := W_go f228_215 rfl
theorem f228_216 : fetch 228 216 = some (.aload_n 0, 1, [], .null) := by decide +kernel
theorem w228_216 : Wp d 228 216 [some (.ref a), l1, l2, l3, l4, l5, l6, l7, l8, l9] st h Q = Wp d 228 217 [some (.ref a), l1, l2, l3, l4, l5, l6, l7, l8, l9] (.ref a :: st) h Q := W_go f228_216 rfl
theorem f228_217 : fetch 228 217 = some (.getfield 47, 3, [10, 14, 6148, 0], .null) := by decide +kernel
theorem w228_217 : Wp d 228 217 [l0, l1, l2, l3, l4, l5, l6, l7, l8, l9] (.ref a :: st) h Q = gP (h.2 a) 10 14 (fun w => Wp d 228 220 [l0, l1, l2, l3, l4, l5, l6, l7, l8, l9] (w :: st) h Q) := W_get f228_217 rfl
theorem f228_220 : fetch 228 220 = some (.getfield 293, 3, [9, 5, 6049, 1], .null) := by decide +kernel
theorem w228_220 : Wp d 228 220 [l0, l1, l2, l3, l4, l5, l6, l7, l8, l9] (.ref a :: st) h Q = gP (h.2 a) 9 5 (fun w => Wp d 228 223 [l0, l1, l2, l3, l4, l5, l6, l7, l8, l9] (w :: st) h Q) := W_get f228_220 rfl
theorem f228_223 : fetch 228 223 = some (.iload 4, 2, [], .null) := by decide +kernel
theorem w228_223 : Wp d 228 223 [l0, l1, l2, l3, some (.int x), l5, l6, l7, l8, l9] st h Q = Wp d 228 225 [l0, l1, l2, l3, some (.int x), l5, l6, l7, l8, l9] (.int x :: st) h Q := W_go f228_223 rfl
theorem f228_225 : fetch 228 225 = some (.iaload, 1, [], .null) := by decide +kernel
theorem w228_225 : Wp d 228 225 [l0, l1, l2, l3, l4, l5, l6, l7, l8, l9] (.int x :: .ref a :: st) h Q = aP false (h.2 a) x (fun w => Wp d 228 226 [l0, l1, l2, l3, l4, l5, l6, l7, l8, l9] (.int w :: st) h Q) := W_ald f228_225 rfl
theorem f228_226 : fetch 228 226 = some (.iastore, 1, [], .null) := by decide +kernel
theorem w228_226 : Wp d 228 226 [l0, l1, l2, l3, l4, l5, l6, l7, l8, l9] (.int y :: .int x :: .ref a :: st) h Q = asP false (h.2 a) a x y (fun c => Wp d 228 227 [l0, l1, l2, l3, l4, l5, l6, l7, l8, l9] st (hset h a c) Q) := W_ast f228_226 rfl
theorem f228_227 : fetch 228 227 = some (.dup, 1, [], .null) := by decide +kernel
theorem w228_227i : Wp d 228 227 [l0, l1, l2, l3, l4, l5, l6, l7, l8, l9] (.int x :: st) h Q = Wp d 228 228 [l0, l1, l2, l3, l4, l5, l6, l7, l8, l9] (.int x :: .int x :: st) h Q := W_go f228_227 rfl
theorem w228_227 : Wp d 228 227 [l0, l1, l2, l3, l4, l5, l6, l7, l8, l9] (.ref a :: st) h Q = Wp d 228 228 [l0, l1, l2, l3, l4, l5, l6, l7, l8, l9] (.ref a :: .ref a :: st) h Q := W_go f228_227 rfl
theorem f228_228 : fetch 228 228 = some (.iconst 4, 1, [], .null) := by decide +kernel
theorem w228_228 : Wp d 228 228 [l0, l1, l2, l3, l4, l5, l6, l7, l8, l9] st h Q = Wp d 228 229 [l0, l1, l2, l3, l4, l5, l6, l7, l8, l9] (.int (4 : Int32) :: st) h Q := W_go f228_228 rfl
theorem f228_229 : fetch 228 229 = some (.aload_n 0, 1, [], .null) := by decide +kernel
theorem w228_229 : Wp d 228 229 [some (.ref a), l1, l2, l3, l4, l5, l6, l7, l8, l9] st h Q = Wp d 228 230 [some (.ref a), l1, l2, l3, l4, l5, l6, l7, l8, l9] (.ref a :: st) h Q := W_go f228_229 rfl
theorem f228_230 : fetch 228 230 = some (.getfield 47, 3, [10, 14, 6148, 0], .null) := by decide +kernel
theorem w228_230 : Wp d 228 230 [l0, l1, l2, l3, l4, l5, l6, l7, l8, l9] (.ref a :: st) h Q = gP (h.2 a) 10 14 (fun w => Wp d 228 233 [l0, l1, l2, l3, l4, l5, l6, l7, l8, l9] (w :: st) h Q) := W_get f228_230 rfl
theorem f228_233 : fetch 228 233 = some (.getfield 281, 3, [9, 8, 6054, 1], .null) := by decide +kernel
theorem w228_233 : Wp d 228 233 [l0, l1, l2, l3, l4, l5, l6, l7, l8, l9] (.ref a :: st) h Q = gP (h.2 a) 9 8 (fun w => Wp d 228 236 [l0, l1, l2, l3, l4, l5, l6, l7, l8, l9] (w :: st) h Q) := W_get f228_233 rfl
theorem f228_236 : fetch 228 236 = some (.iload 4, 2, [], .null) := by decide +kernel
theorem w228_236 : Wp d 228 236 [l0, l1, l2, l3, some (.int x), l5, l6, l7, l8, l9] st h Q = Wp d 228 238 [l0, l1, l2, l3, some (.int x), l5, l6, l7, l8, l9] (.int x :: st) h Q := W_go f228_236 rfl
theorem f228_238 : fetch 228 238 = some (.baload, 1, [], .null) := by decide +kernel
theorem w228_238 : Wp d 228 238 [l0, l1, l2, l3, l4, l5, l6, l7, l8, l9] (.int x :: .ref a :: st) h Q = aP true (h.2 a) x (fun w => Wp d 228 239 [l0, l1, l2, l3, l4, l5, l6, l7, l8, l9] (.int w :: st) h Q) := W_ald f228_238 rfl
theorem f228_239 : fetch 228 239 = some (.invokestatic 354, 3, [227, 1, 0, 0, 8133, 1013, 8135, 8134], .null) := by decide +kernel
theorem w228_239 (hp : psum st ≤ 8) : Wp d 228 239 [l0, l1, l2, l3, l4, l5, l6, l7, l8, l9] (v0 :: st) h Q = Cp d 227 [v0] h (fun o => cK o (fun w h2 => Wp d 228 242 [l0, l1, l2, l3, l4, l5, l6, l7, l8, l9] (w.toList ++ st) h2 Q) (fun _ _ => False)) := (W_invS (st := st) f228_239 rfl rfl (by simp only [List.length_cons]; omega) rfl rfl hp)
theorem f228_242 : fetch 228 242 = some (.iastore, 1, [], .null) := by decide +kernel
theorem w228_242 : Wp d 228 242 [l0, l1, l2, l3, l4, l5, l6, l7, l8, l9] (.int y :: .int x :: .ref a :: st) h Q = asP false (h.2 a) a x y (fun c => Wp d 228 243 [l0, l1, l2, l3, l4, l5, l6, l7, l8, l9] st (hset h a c) Q) := W_ast f228_242 rfl
theorem f228_243 : fetch 228 243 = some (.dup, 1, [], .null) := by decide +kernel
theorem w228_243i : Wp d 228 243 [l0, l1, l2, l3, l4, l5, l6, l7, l8, l9] (.int x :: st) h Q = Wp d 228 244 [l0, l1, l2, l3, l4, l5, l6, l7, l8, l9] (.int x :: .int x :: st) h Q := W_go f228_243 rfl
theorem w228_243 : Wp d 228 243 [l0, l1, l2, l3, l4, l5, l6, l7, l8, l9] (.ref a :: st) h Q = Wp d 228 244 [l0, l1, l2, l3, l4, l5, l6, l7, l8, l9] (.ref a :: .ref a :: st) h Q := W_go f228_243 rfl
theorem f228_244 : fetch 228 244 = some (.iconst 5, 1, [], .null) := by decide +kernel
theorem w228_244 : Wp d 228 244 [l0, l1, l2, l3, l4, l5, l6, l7, l8, l9] st h Q = Wp d 228 245 [l0, l1, l2, l3, l4, l5, l6, l7, l8, l9] (.int (5 : Int32) :: st) h Q := W_go f228_244 rfl
theorem f228_245 : fetch 228 245 = some (.aload_n 0, 1, [], .null) := by decide +kernel
theorem w228_245 : Wp d 228 245 [some (.ref a), l1, l2, l3, l4, l5, l6, l7, l8, l9] st h Q = Wp d 228 246 [some (.ref a), l1, l2, l3, l4, l5, l6, l7, l8, l9] (.ref a :: st) h Q := W_go f228_245 rfl
theorem f228_246 : fetch 228 246 = some (.getfield 47, 3, [10, 14, 6148, 0], .null) := by decide +kernel
theorem w228_246 : Wp d 228 246 [l0, l1, l2, l3, l4, l5, l6, l7, l8, l9] (.ref a :: st) h Q = gP (h.2 a) 10 14 (fun w => Wp d 228 249 [l0, l1, l2, l3, l4, l5, l6, l7, l8, l9] (w :: st) h Q) := W_get f228_246 rfl
theorem f228_249 : fetch 228 249 = some (.getfield 299, 3, [9, 7, 6052, 1], .null) := by decide +kernel
theorem w228_249 : Wp d 228 249 [l0, l1, l2, l3, l4, l5, l6, l7, l8, l9] (.ref a :: st) h Q = gP (h.2 a) 9 7 (fun w => Wp d 228 252 [l0, l1, l2, l3, l4, l5, l6, l7, l8, l9] (w :: st) h Q) := W_get f228_249 rfl
theorem f228_252 : fetch 228 252 = some (.iload 4, 2, [], .null) := by decide +kernel
theorem w228_252 : Wp d 228 252 [l0, l1, l2, l3, some (.int x), l5, l6, l7, l8, l9] st h Q = Wp d 228 254 [l0, l1, l2, l3, some (.int x), l5, l6, l7, l8, l9] (.int x :: st) h Q := W_go f228_252 rfl
theorem f228_254 : fetch 228 254 = some (.iaload, 1, [], .null) := by decide +kernel
theorem w228_254 : Wp d 228 254 [l0, l1, l2, l3, l4, l5, l6, l7, l8, l9] (.int x :: .ref a :: st) h Q = aP false (h.2 a) x (fun w => Wp d 228 255 [l0, l1, l2, l3, l4, l5, l6, l7, l8, l9] (.int w :: st) h Q) := W_ald f228_254 rfl
theorem f228_255 : fetch 228 255 = some (.iastore, 1, [], .null) := by decide +kernel
theorem w228_255 : Wp d 228 255 [l0, l1, l2, l3, l4, l5, l6, l7, l8, l9] (.int y :: .int x :: .ref a :: st) h Q = asP false (h.2 a) a x y (fun c => Wp d 228 256 [l0, l1, l2, l3, l4, l5, l6, l7, l8, l9] st (hset h a c) Q) := W_ast f228_255 rfl
theorem f228_256 : fetch 228 256 = some (.astore 5, 2, [], .null) := by decide +kernel
theorem w228_256 : Wp d 228 256 [l0, l1, l2, l3, l4, l5, l6, l7, l8, l9] (.ref a :: st) h Q = Wp d 228 258 [l0, l1, l2, l3, kl l4, some (.ref a), l6, l7, l8, l9] st h Q := (W_st1 (pc' := 258) (k := 5) f228_256 rfl rfl (by simp only [List.length_cons, List.length_nil]; omega)).trans (by rw [pst1_succ]; rfl)
theorem f228_258 : fetch 228 258 = some (.aload 5, 2, [], .null) := by decide +kernel
theorem w228_258 : Wp d 228 258 [l0, l1, l2, l3, l4, some (.ref a), l6, l7, l8, l9] st h Q = Wp d 228 260 [l0, l1, l2, l3, l4, some (.ref a), l6, l7, l8, l9] (.ref a :: st) h Q := W_go f228_258 rfl
theorem f228_260 : fetch 228 260 = some (.astore 6, 2, [], .null) := by decide +kernel
theorem w228_260 : Wp d 228 260 [l0, l1, l2, l3, l4, l5, l6, l7, l8, l9] (.ref a :: st) h Q = Wp d 228 262 [l0, l1, l2, l3, l4, kl l5, some (.ref a), l7, l8, l9] st h Q := (W_st1 (pc' := 262) (k := 6) f228_260 rfl rfl (by simp only [List.length_cons, List.length_nil]; omega)).trans (by rw [pst1_succ]; rfl)
theorem f228_262 : fetch 228 262 = some (.aload 6, 2, [], .null) := by decide +kernel
theorem w228_262 : Wp d 228 262 [l0, l1, l2, l3, l4, l5, some (.ref a), l7, l8, l9] st h Q = Wp d 228 264 [l0, l1, l2, l3, l4, l5, some (.ref a), l7, l8, l9] (.ref a :: st) h Q := W_go f228_262 rfl
theorem f228_264 : fetch 228 264 = some (.arraylength, 1, [], .null) := by decide +kernel
theorem w228_264 : Wp d 228 264 [l0, l1, l2, l3, l4, l5, l6, l7, l8, l9] (.ref a :: st) h Q = nP (h.2 a) (fun w => Wp d 228 265 [l0, l1, l2, l3, l4, l5, l6, l7, l8, l9] (.int w :: st) h Q) := W_len f228_264 rfl
theorem f228_265 : fetch 228 265 = some (.istore 7, 2, [], .null) := by decide +kernel
theorem w228_265 : Wp d 228 265 [l0, l1, l2, l3, l4, l5, l6, l7, l8, l9] (.int x :: st) h Q = Wp d 228 267 [l0, l1, l2, l3, l4, l5, kl l6, some (.int x), l8, l9] st h Q := (W_st1 (pc' := 267) (k := 7) f228_265 rfl rfl (by simp only [List.length_cons, List.length_nil]; omega)).trans (by rw [pst1_succ]; rfl)
theorem f228_267 : fetch 228 267 = some (.iconst 0, 1, [], .null) := by decide +kernel
theorem w228_267 : Wp d 228 267 [l0, l1, l2, l3, l4, l5, l6, l7, l8, l9] st h Q = Wp d 228 268 [l0, l1, l2, l3, l4, l5, l6, l7, l8, l9] (.int (0 : Int32) :: st) h Q := W_go f228_267 rfl
theorem f228_268 : fetch 228 268 = some (.istore 8, 2, [], .null) := by decide +kernel
theorem w228_268 : Wp d 228 268 [l0, l1, l2, l3, l4, l5, l6, l7, l8, l9] (.int x :: st) h Q = Wp d 228 270 [l0, l1, l2, l3, l4, l5, l6, kl l7, some (.int x), l9] st h Q := (W_st1 (pc' := 270) (k := 8) f228_268 rfl rfl (by simp only [List.length_cons, List.length_nil]; omega)).trans (by rw [pst1_succ]; rfl)
theorem f228_270 : fetch 228 270 = some (.iload 8, 2, [], .null) := by decide +kernel
theorem w228_270 : Wp d 228 270 [l0, l1, l2, l3, l4, l5, l6, l7, some (.int x), l9] st h Q = Wp d 228 272 [l0, l1, l2, l3, l4, l5, l6, l7, some (.int x), l9] (.int x :: st) h Q := W_go f228_270 rfl
theorem f228_272 : fetch 228 272 = some (.iload 7, 2, [], .null) := by decide +kernel
theorem w228_272 : Wp d 228 272 [l0, l1, l2, l3, l4, l5, l6, some (.int x), l8, l9] st h Q = Wp d 228 274 [l0, l1, l2, l3, l4, l5, l6, some (.int x), l8, l9] (.int x :: st) h Q := W_go f228_272 rfl
theorem f228_274 : fetch 228 274 = some (.if_icmp .ge 26, 3, [], .null) := by decide +kernel
theorem w228_274 : Wp d 228 274 [l0, l1, l2, l3, l4, l5, l6, l7, l8, l9] (.int y :: .int x :: st) h Q = if icond .ge x y = true then Wp d 228 300 [l0, l1, l2, l3, l4, l5, l6, l7, l8, l9] st h Q else Wp d 228 277 [l0, l1, l2, l3, l4, l5, l6, l7, l8, l9] st h Q := W_if f228_274 rfl
theorem f228_277 : fetch 228 277 = some (.aload 6, 2, [], .null) := by decide +kernel
theorem w228_277 : Wp d 228 277 [l0, l1, l2, l3, l4, l5, some (.ref a), l7, l8, l9] st h Q = Wp d 228 279 [l0, l1, l2, l3, l4, l5, some (.ref a), l7, l8, l9] (.ref a :: st) h Q := W_go f228_277 rfl
theorem f228_279 : fetch 228 279 = some (.iload 8, 2, [], .null) := by decide +kernel
theorem w228_279 : Wp d 228 279 [l0, l1, l2, l3, l4, l5, l6, l7, some (.int x), l9] st h Q = Wp d 228 281 [l0, l1, l2, l3, l4, l5, l6, l7, some (.int x), l9] (.int x :: st) h Q := W_go f228_279 rfl
theorem f228_281 : fetch 228 281 = some (.iaload, 1, [], .null) := by decide +kernel
theorem w228_281 : Wp d 228 281 [l0, l1, l2, l3, l4, l5, l6, l7, l8, l9] (.int x :: .ref a :: st) h Q = aP false (h.2 a) x (fun w => Wp d 228 282 [l0, l1, l2, l3, l4, l5, l6, l7, l8, l9] (.int w :: st) h Q) := W_ald f228_281 rfl
theorem f228_282 : fetch 228 282 = some (.istore 9, 2, [], .null) := by decide +kernel
theorem w228_282 : Wp d 228 282 [l0, l1, l2, l3, l4, l5, l6, l7, l8, l9] (.int x :: st) h Q = Wp d 228 284 [l0, l1, l2, l3, l4, l5, l6, l7, kl l8, some (.int x)] st h Q := (W_st1 (pc' := 284) (k := 9) f228_282 rfl rfl (by simp only [List.length_cons, List.length_nil]; omega)).trans (by rw [pst1_succ]; rfl)
theorem f228_284 : fetch 228 284 = some (.lload_n 2, 1, [], .null) := by decide +kernel
theorem w228_284 : Wp d 228 284 [l0, l1, some (.long x8), l3, l4, l5, l6, l7, l8, l9] st h Q = Wp d 228 285 [l0, l1, some (.long x8), l3, l4, l5, l6, l7, l8, l9] (.long x8 :: st) h Q := W_go f228_284 rfl
theorem f228_285 : fetch 228 285 = some (.ldc2_w 360, 3, [8137], .long (31)) := by decide +kernel
theorem w228_285 : Wp d 228 285 [l0, l1, l2, l3, l4, l5, l6, l7, l8, l9] st h Q = Wp d 228 288 [l0, l1, l2, l3, l4, l5, l6, l7, l8, l9] ((.long (31)) :: st) h Q := W_go f228_285 rfl
theorem f228_288 : fetch 228 288 = some (.lmul, 1, [], .null) := by decide +kernel
theorem w228_288 : Wp d 228 288 [l0, l1, l2, l3, l4, l5, l6, l7, l8, l9] (.long y8 :: .long x8 :: st) h Q = Wp d 228 289 [l0, l1, l2, l3, l4, l5, l6, l7, l8, l9] (.long (x8 * y8) :: st) h Q := W_go f228_288 rfl
theorem f228_289 : fetch 228 289 = some (.iload 9, 2, [], .null) := by decide +kernel
theorem w228_289 : Wp d 228 289 [l0, l1, l2, l3, l4, l5, l6, l7, l8, some (.int x)] st h Q = Wp d 228 291 [l0, l1, l2, l3, l4, l5, l6, l7, l8, some (.int x)] (.int x :: st) h Q := W_go f228_289 rfl
theorem f228_291 : fetch 228 291 = some (.i2l, 1, [], .null) := by decide +kernel
theorem w228_291 : Wp d 228 291 [l0, l1, l2, l3, l4, l5, l6, l7, l8, l9] (.int x :: st) h Q = Wp d 228 292 [l0, l1, l2, l3, l4, l5, l6, l7, l8, l9] (.long x.toInt64 :: st) h Q := W_go f228_291 rfl
theorem f228_292 : fetch 228 292 = some (.ladd, 1, [], .null) := by decide +kernel
theorem w228_292 : Wp d 228 292 [l0, l1, l2, l3, l4, l5, l6, l7, l8, l9] (.long y8 :: .long x8 :: st) h Q = Wp d 228 293 [l0, l1, l2, l3, l4, l5, l6, l7, l8, l9] (.long (x8 + y8) :: st) h Q := W_go f228_292 rfl
theorem f228_293 : fetch 228 293 = some (.lstore_n 2, 1, [], .null) := by decide +kernel
theorem w228_293 : Wp d 228 293 [l0, l1, l2, l3, l4, l5, l6, l7, l8, l9] (.long x8 :: st) h Q = Wp d 228 294 [l0, kl l1, some (.long x8), none, l4, l5, l6, l7, l8, l9] st h Q := (W_st2 (pc' := 294) (k := 2) f228_293 rfl rfl (by simp only [List.length_cons, List.length_nil]; omega)).trans (by rw [pst2_succ]; rfl)
theorem f228_294 : fetch 228 294 = some (.iinc 8 1, 3, [], .null) := by decide +kernel
theorem w228_294 : Wp d 228 294 [l0, l1, l2, l3, l4, l5, l6, l7, some (.int x), l9] st h Q = Wp d 228 297 [l0, l1, l2, l3, l4, l5, l6, kl l7, some (.int (x + (1 : Int32))), l9] st h Q := (W_iinc (y := (1 : Int32)) f228_294 rfl (by simp only [List.length_cons, List.length_nil]; omega) (by decide)).trans (by rw [pst1_succ]; rfl)
theorem f228_297 : fetch 228 297 = some (.goto (-27), 3, [], .null) := by decide +kernel
theorem w228_297 : Wp d 228 297 [l0, l1, l2, l3, l4, l5, l6, l7, l8, l9] st h Q = Wp d 228 270 [l0, l1, l2, l3, l4, l5, l6, l7, l8, l9] st h Q := W_go f228_297 rfl
theorem f228_300 : fetch 228 300 = some (.iinc 4 1, 3, [], .null) := by decide +kernel
theorem w228_300 : Wp d 228 300 [l0, l1, l2, l3, some (.int x), l5, l6, l7, l8, l9] st h Q = Wp d 228 303 [l0, l1, l2, kl l3, some (.int (x + (1 : Int32))), l5, l6, l7, l8, l9] st h Q := (W_iinc (y := (1 : Int32)) f228_300 rfl (by simp only [List.length_cons, List.length_nil]; omega) (by decide)).trans (by rw [pst1_succ]; rfl)
theorem f228_303 : fetch 228 303 = some (.goto (-144), 3, [], .null) := by decide +kernel
theorem w228_303 : Wp d 228 303 [l0, l1, l2, l3, l4, l5, l6, l7, l8, l9] st h Q = Wp d 228 159 [l0, l1, l2, l3, l4, l5, l6, l7, l8, l9] st h Q := W_go f228_303 rfl
theorem f228_306 : fetch 228 306 = some (.iconst 0, 1, [], .null) := by decide +kernel
theorem w228_306 : Wp d 228 306 [l0, l1, l2, l3, l4, l5, l6, l7, l8, l9] st h Q = Wp d 228 307 [l0, l1, l2, l3, l4, l5, l6, l7, l8, l9] (.int (0 : Int32) :: st) h Q := W_go f228_306 rfl
theorem f228_307 : fetch 228 307 = some (.istore 4, 2, [], .null) := by decide +kernel
theorem w228_307 : Wp d 228 307 [l0, l1, l2, l3, l4, l5, l6, l7, l8, l9] (.int x :: st) h Q = Wp d 228 309 [l0, l1, l2, kl l3, some (.int x), l5, l6, l7, l8, l9] st h Q := (W_st1 (pc' := 309) (k := 4) f228_307 rfl rfl (by simp only [List.length_cons, List.length_nil]; omega)).trans (by rw [pst1_succ]; rfl)
theorem f228_309 : fetch 228 309 = some (.iload 4, 2, [], .null) := by decide +kernel
theorem w228_309 : Wp d 228 309 [l0, l1, l2, l3, some (.int x), l5, l6, l7, l8, l9] st h Q = Wp d 228 311 [l0, l1, l2, l3, some (.int x), l5, l6, l7, l8, l9] (.int x :: st) h Q := W_go f228_309 rfl
theorem f228_311 : fetch 228 311 = some (.aload_n 0, 1, [], .null) := by decide +kernel
theorem w228_311 : Wp d 228 311 [some (.ref a), l1, l2, l3, l4, l5, l6, l7, l8, l9] st h Q = Wp d 228 312 [some (.ref a), l1, l2, l3, l4, l5, l6, l7, l8, l9] (.ref a :: st) h Q := W_go f228_311 rfl
theorem f228_312 : fetch 228 312 = some (.getfield 67, 3, [10, 12, 6145, 0], .null) := by decide +kernel
theorem w228_312 : Wp d 228 312 [l0, l1, l2, l3, l4, l5, l6, l7, l8, l9] (.ref a :: st) h Q = gP (h.2 a) 10 12 (fun w => Wp d 228 315 [l0, l1, l2, l3, l4, l5, l6, l7, l8, l9] (w :: st) h Q) := W_get f228_312 rfl
theorem f228_315 : fetch 228 315 = some (.if_icmp .ge 170, 3, [], .null) := by decide +kernel
theorem w228_315 : Wp d 228 315 [l0, l1, l2, l3, l4, l5, l6, l7, l8, l9] (.int y :: .int x :: st) h Q = if icond .ge x y = true then Wp d 228 485 [l0, l1, l2, l3, l4, l5, l6, l7, l8, l9] st h Q else Wp d 228 318 [l0, l1, l2, l3, l4, l5, l6, l7, l8, l9] st h Q := W_if f228_315 rfl
theorem f228_318 : fetch 228 318 = some (.bipush 6, 2, [], .null) := by decide +kernel
theorem w228_318 : Wp d 228 318 [l0, l1, l2, l3, l4, l5, l6, l7, l8, l9] st h Q = Wp d 228 320 [l0, l1, l2, l3, l4, l5, l6, l7, l8, l9] (.int (6 : Int32) :: st) h Q := W_go f228_318 rfl
theorem f228_320 : fetch 228 320 = some (.newarray .int, 2, [0, 1141], .null) := by decide +kernel
theorem w228_320 (hx : ¬ x < 0 ∧ x.toNatClampNeg ≤ 60000) : Wp d 228 320 [l0, l1, l2, l3, l4, l5, l6, l7, l8, l9] (.int x :: st) h Q = Wp d 228 322 [l0, l1, l2, l3, l4, l5, l6, l7, l8, l9] (.ref h.1.1 :: st) (hnew h x.toNatClampNeg (.inl (0, arr0 0 x.toNatClampNeg))) Q := W_go f228_320 (by simp only [pstep, pnewa, if_pos hx]; rfl)
theorem f228_322 : fetch 228 322 = some (.dup, 1, [], .null) := by decide +kernel
theorem w228_322i : Wp d 228 322 [l0, l1, l2, l3, l4, l5, l6, l7, l8, l9] (.int x :: st) h Q = Wp d 228 323 [l0, l1, l2, l3, l4, l5, l6, l7, l8, l9] (.int x :: .int x :: st) h Q := W_go f228_322 rfl
theorem w228_322 : Wp d 228 322 [l0, l1, l2, l3, l4, l5, l6, l7, l8, l9] (.ref a :: st) h Q = Wp d 228 323 [l0, l1, l2, l3, l4, l5, l6, l7, l8, l9] (.ref a :: .ref a :: st) h Q := W_go f228_322 rfl
theorem f228_323 : fetch 228 323 = some (.iconst 0, 1, [], .null) := by decide +kernel
theorem w228_323 : Wp d 228 323 [l0, l1, l2, l3, l4, l5, l6, l7, l8, l9] st h Q = Wp d 228 324 [l0, l1, l2, l3, l4, l5, l6, l7, l8, l9] (.int (0 : Int32) :: st) h Q := W_go f228_323 rfl
theorem f228_324 : fetch 228 324 = some (.aload_n 0, 1, [], .null) := by decide +kernel
theorem w228_324 : Wp d 228 324 [some (.ref a), l1, l2, l3, l4, l5, l6, l7, l8, l9] st h Q = Wp d 228 325 [some (.ref a), l1, l2, l3, l4, l5, l6, l7, l8, l9] (.ref a :: st) h Q := W_go f228_324 rfl
theorem f228_325 : fetch 228 325 = some (.getfield 47, 3, [10, 14, 6148, 0], .null) := by decide +kernel
theorem w228_325 : Wp d 228 325 [l0, l1, l2, l3, l4, l5, l6, l7, l8, l9] (.ref a :: st) h Q = gP (h.2 a) 10 14 (fun w => Wp d 228 328 [l0, l1, l2, l3, l4, l5, l6, l7, l8, l9] (w :: st) h Q) := W_get f228_325 rfl
theorem f228_328 : fetch 228 328 = some (.getfield 320, 3, [9, 10, 6058, 1], .null) := by decide +kernel
theorem w228_328 : Wp d 228 328 [l0, l1, l2, l3, l4, l5, l6, l7, l8, l9] (.ref a :: st) h Q = gP (h.2 a) 9 10 (fun w => Wp d 228 331 [l0, l1, l2, l3, l4, l5, l6, l7, l8, l9] (w :: st) h Q) := W_get f228_328 rfl
theorem f228_331 : fetch 228 331 = some (.iload 4, 2, [], .null) := by decide +kernel
theorem w228_331 : Wp d 228 331 [l0, l1, l2, l3, some (.int x), l5, l6, l7, l8, l9] st h Q = Wp d 228 333 [l0, l1, l2, l3, some (.int x), l5, l6, l7, l8, l9] (.int x :: st) h Q := W_go f228_331 rfl
theorem f228_333 : fetch 228 333 = some (.iaload, 1, [], .null) := by decide +kernel
theorem w228_333 : Wp d 228 333 [l0, l1, l2, l3, l4, l5, l6, l7, l8, l9] (.int x :: .ref a :: st) h Q = aP false (h.2 a) x (fun w => Wp d 228 334 [l0, l1, l2, l3, l4, l5, l6, l7, l8, l9] (.int w :: st) h Q) := W_ald f228_333 rfl
theorem f228_334 : fetch 228 334 = some (.iastore, 1, [], .null) := by decide +kernel
theorem w228_334 : Wp d 228 334 [l0, l1, l2, l3, l4, l5, l6, l7, l8, l9] (.int y :: .int x :: .ref a :: st) h Q = asP false (h.2 a) a x y (fun c => Wp d 228 335 [l0, l1, l2, l3, l4, l5, l6, l7, l8, l9] st (hset h a c) Q) := W_ast f228_334 rfl
theorem f228_335 : fetch 228 335 = some (.dup, 1, [], .null) := by decide +kernel
theorem w228_335i : Wp d 228 335 [l0, l1, l2, l3, l4, l5, l6, l7, l8, l9] (.int x :: st) h Q = Wp d 228 336 [l0, l1, l2, l3, l4, l5, l6, l7, l8, l9] (.int x :: .int x :: st) h Q := W_go f228_335 rfl
theorem w228_335 : Wp d 228 335 [l0, l1, l2, l3, l4, l5, l6, l7, l8, l9] (.ref a :: st) h Q = Wp d 228 336 [l0, l1, l2, l3, l4, l5, l6, l7, l8, l9] (.ref a :: .ref a :: st) h Q := W_go f228_335 rfl
theorem f228_336 : fetch 228 336 = some (.iconst 1, 1, [], .null) := by decide +kernel
theorem w228_336 : Wp d 228 336 [l0, l1, l2, l3, l4, l5, l6, l7, l8, l9] st h Q = Wp d 228 337 [l0, l1, l2, l3, l4, l5, l6, l7, l8, l9] (.int (1 : Int32) :: st) h Q := W_go f228_336 rfl
theorem f228_337 : fetch 228 337 = some (.aload_n 0, 1, [], .null) := by decide +kernel
theorem w228_337 : Wp d 228 337 [some (.ref a), l1, l2, l3, l4, l5, l6, l7, l8, l9] st h Q = Wp d 228 338 [some (.ref a), l1, l2, l3, l4, l5, l6, l7, l8, l9] (.ref a :: st) h Q := W_go f228_337 rfl
theorem f228_338 : fetch 228 338 = some (.getfield 47, 3, [10, 14, 6148, 0], .null) := by decide +kernel
theorem w228_338 : Wp d 228 338 [l0, l1, l2, l3, l4, l5, l6, l7, l8, l9] (.ref a :: st) h Q = gP (h.2 a) 10 14 (fun w => Wp d 228 341 [l0, l1, l2, l3, l4, l5, l6, l7, l8, l9] (w :: st) h Q) := W_get f228_338 rfl
theorem f228_341 : fetch 228 341 = some (.getfield 323, 3, [9, 9, 6056, 1], .null) := by decide +kernel
theorem w228_341 : Wp d 228 341 [l0, l1, l2, l3, l4, l5, l6, l7, l8, l9] (.ref a :: st) h Q = gP (h.2 a) 9 9 (fun w => Wp d 228 344 [l0, l1, l2, l3, l4, l5, l6, l7, l8, l9] (w :: st) h Q) := W_get f228_341 rfl
theorem f228_344 : fetch 228 344 = some (.iload 4, 2, [], .null) := by decide +kernel
theorem w228_344 : Wp d 228 344 [l0, l1, l2, l3, some (.int x), l5, l6, l7, l8, l9] st h Q = Wp d 228 346 [l0, l1, l2, l3, some (.int x), l5, l6, l7, l8, l9] (.int x :: st) h Q := W_go f228_344 rfl
theorem f228_346 : fetch 228 346 = some (.iaload, 1, [], .null) := by decide +kernel
theorem w228_346 : Wp d 228 346 [l0, l1, l2, l3, l4, l5, l6, l7, l8, l9] (.int x :: .ref a :: st) h Q = aP false (h.2 a) x (fun w => Wp d 228 347 [l0, l1, l2, l3, l4, l5, l6, l7, l8, l9] (.int w :: st) h Q) := W_ald f228_346 rfl
theorem f228_347 : fetch 228 347 = some (.iastore, 1, [], .null) := by decide +kernel
theorem w228_347 : Wp d 228 347 [l0, l1, l2, l3, l4, l5, l6, l7, l8, l9] (.int y :: .int x :: .ref a :: st) h Q = asP false (h.2 a) a x y (fun c => Wp d 228 348 [l0, l1, l2, l3, l4, l5, l6, l7, l8, l9] st (hset h a c) Q) := W_ast f228_347 rfl
theorem f228_348 : fetch 228 348 = some (.dup, 1, [], .null) := by decide +kernel
theorem w228_348i : Wp d 228 348 [l0, l1, l2, l3, l4, l5, l6, l7, l8, l9] (.int x :: st) h Q = Wp d 228 349 [l0, l1, l2, l3, l4, l5, l6, l7, l8, l9] (.int x :: .int x :: st) h Q := W_go f228_348 rfl
theorem w228_348 : Wp d 228 348 [l0, l1, l2, l3, l4, l5, l6, l7, l8, l9] (.ref a :: st) h Q = Wp d 228 349 [l0, l1, l2, l3, l4, l5, l6, l7, l8, l9] (.ref a :: .ref a :: st) h Q := W_go f228_348 rfl
theorem f228_349 : fetch 228 349 = some (.iconst 2, 1, [], .null) := by decide +kernel
theorem w228_349 : Wp d 228 349 [l0, l1, l2, l3, l4, l5, l6, l7, l8, l9] st h Q = Wp d 228 350 [l0, l1, l2, l3, l4, l5, l6, l7, l8, l9] (.int (2 : Int32) :: st) h Q := W_go f228_349 rfl
theorem f228_350 : fetch 228 350 = some (.aload_n 0, 1, [], .null) := by decide +kernel
theorem w228_350 : Wp d 228 350 [some (.ref a), l1, l2, l3, l4, l5, l6, l7, l8, l9] st h Q = Wp d 228 351 [some (.ref a), l1, l2, l3, l4, l5, l6, l7, l8, l9] (.ref a :: st) h Q := W_go f228_350 rfl
theorem f228_351 : fetch 228 351 = some (.getfield 47, 3, [10, 14, 6148, 0], .null) := by decide +kernel
theorem w228_351 : Wp d 228 351 [l0, l1, l2, l3, l4, l5, l6, l7, l8, l9] (.ref a :: st) h Q = gP (h.2 a) 10 14 (fun w => Wp d 228 354 [l0, l1, l2, l3, l4, l5, l6, l7, l8, l9] (w :: st) h Q) := W_get f228_351 rfl
theorem f228_354 : fetch 228 354 = some (.getfield 262, 3, [9, 11, 6060, 1], .null) := by decide +kernel
theorem w228_354 : Wp d 228 354 [l0, l1, l2, l3, l4, l5, l6, l7, l8, l9] (.ref a :: st) h Q = gP (h.2 a) 9 11 (fun w => Wp d 228 357 [l0, l1, l2, l3, l4, l5, l6, l7, l8, l9] (w :: st) h Q) := W_get f228_354 rfl
theorem f228_357 : fetch 228 357 = some (.iload 4, 2, [], .null) := by decide +kernel
theorem w228_357 : Wp d 228 357 [l0, l1, l2, l3, some (.int x), l5, l6, l7, l8, l9] st h Q = Wp d 228 359 [l0, l1, l2, l3, some (.int x), l5, l6, l7, l8, l9] (.int x :: st) h Q := W_go f228_357 rfl
theorem f228_359 : fetch 228 359 = some (.iaload, 1, [], .null) := by decide +kernel
theorem w228_359 : Wp d 228 359 [l0, l1, l2, l3, l4, l5, l6, l7, l8, l9] (.int x :: .ref a :: st) h Q = aP false (h.2 a) x (fun w => Wp d 228 360 [l0, l1, l2, l3, l4, l5, l6, l7, l8, l9] (.int w :: st) h Q) := W_ald f228_359 rfl
theorem f228_360 : fetch 228 360 = some (.iastore, 1, [], .null) := by decide +kernel
theorem w228_360 : Wp d 228 360 [l0, l1, l2, l3, l4, l5, l6, l7, l8, l9] (.int y :: .int x :: .ref a :: st) h Q = asP false (h.2 a) a x y (fun c => Wp d 228 361 [l0, l1, l2, l3, l4, l5, l6, l7, l8, l9] st (hset h a c) Q) := W_ast f228_360 rfl
theorem f228_361 : fetch 228 361 = some (.dup, 1, [], .null) := by decide +kernel
theorem w228_361i : Wp d 228 361 [l0, l1, l2, l3, l4, l5, l6, l7, l8, l9] (.int x :: st) h Q = Wp d 228 362 [l0, l1, l2, l3, l4, l5, l6, l7, l8, l9] (.int x :: .int x :: st) h Q := W_go f228_361 rfl
theorem w228_361 : Wp d 228 361 [l0, l1, l2, l3, l4, l5, l6, l7, l8, l9] (.ref a :: st) h Q = Wp d 228 362 [l0, l1, l2, l3, l4, l5, l6, l7, l8, l9] (.ref a :: .ref a :: st) h Q := W_go f228_361 rfl
theorem f228_362 : fetch 228 362 = some (.iconst 3, 1, [], .null) := by decide +kernel
theorem w228_362 : Wp d 228 362 [l0, l1, l2, l3, l4, l5, l6, l7, l8, l9] st h Q = Wp d 228 363 [l0, l1, l2, l3, l4, l5, l6, l7, l8, l9] (.int (3 : Int32) :: st) h Q := W_go f228_362 rfl
theorem f228_363 : fetch 228 363 = some (.aload_n 0, 1, [], .null) := by decide +kernel
theorem w228_363 : Wp d 228 363 [some (.ref a), l1, l2, l3, l4, l5, l6, l7, l8, l9] st h Q = Wp d 228 364 [some (.ref a), l1, l2, l3, l4, l5, l6, l7, l8, l9] (.ref a :: st) h Q := W_go f228_363 rfl
theorem f228_364 : fetch 228 364 = some (.iload 4, 2, [], .null) := by decide +kernel
theorem w228_364 : Wp d 228 364 [l0, l1, l2, l3, some (.int x), l5, l6, l7, l8, l9] st h Q = Wp d 228 366 [l0, l1, l2, l3, some (.int x), l5, l6, l7, l8, l9] (.int x :: st) h Q := W_go f228_364 rfl
theorem f228_366 : fetch 228 366 = some (.invokevirtual 331, 3, [215, 2, 11, 0, 8073, 1013, 8076, 8075, 80], .null) := by decide +kernel
theorem w228_366 (hp : psum st ≤ 8) : Wp d 228 366 [l0, l1, l2, l3, l4, l5, l6, l7, l8, l9] (v1 :: (.ref b) :: st) h Q = rP (h.2 b) 10 (Cp d 215 [(.ref b), v1] h (fun o => cK o (fun w h2 => Wp d 228 369 [l0, l1, l2, l3, l4, l5, l6, l7, l8, l9] (w.toList ++ st) h2 Q) (fun E h2 => Q (.inr E, h2)))) := (W_invV (st := st) f228_366 rfl rfl (by simp only [List.length_cons]; omega) rfl rfl hp).trans (by simp only [hm228, if_true])
theorem f228_369 : fetch 228 369 = some (.invokestatic 354, 3, [227, 1, 0, 0, 8133, 1013, 8135, 8134], .null) := by decide +kernel
theorem w228_369 (hp : psum st ≤ 8) : Wp d 228 369 [l0, l1, l2, l3, l4, l5, l6, l7, l8, l9] (v0 :: st) h Q = Cp d 227 [v0] h (fun o => cK o (fun w h2 => Wp d 228 372 [l0, l1, l2, l3, l4, l5, l6, l7, l8, l9] (w.toList ++ st) h2 Q) (fun _ _ => False)) := (W_invS (st := st) f228_369 rfl rfl (by simp only [List.length_cons]; omega) rfl rfl hp)
theorem f228_372 : fetch 228 372 = some (.iastore, 1, [], .null) := by decide +kernel
theorem w228_372 : Wp d 228 372 [l0, l1, l2, l3, l4, l5, l6, l7, l8, l9] (.int y :: .int x :: .ref a :: st) h Q = asP false (h.2 a) a x y (fun c => Wp d 228 373 [l0, l1, l2, l3, l4, l5, l6, l7, l8, l9] st (hset h a c) Q) := W_ast f228_372 rfl
theorem f228_373 : fetch 228 373 = some (.dup, 1, [], .null) := by decide +kernel
theorem w228_373i : Wp d 228 373 [l0, l1, l2, l3, l4, l5, l6, l7, l8, l9] (.int x :: st) h Q = Wp d 228 374 [l0, l1, l2, l3, l4, l5, l6, l7, l8, l9] (.int x :: .int x :: st) h Q := W_go f228_373 rfl
theorem w228_373 : Wp d 228 373 [l0, l1, l2, l3, l4, l5, l6, l7, l8, l9] (.ref a :: st) h Q = Wp d 228 374 [l0, l1, l2, l3, l4, l5, l6, l7, l8, l9] (.ref a :: .ref a :: st) h Q := W_go f228_373 rfl
theorem f228_374 : fetch 228 374 = some (.iconst 4, 1, [], .null) := by decide +kernel
theorem w228_374 : Wp d 228 374 [l0, l1, l2, l3, l4, l5, l6, l7, l8, l9] st h Q = Wp d 228 375 [l0, l1, l2, l3, l4, l5, l6, l7, l8, l9] (.int (4 : Int32) :: st) h Q := W_go f228_374 rfl
theorem f228_375 : fetch 228 375 = some (.aload_n 0, 1, [], .null) := by decide +kernel
theorem w228_375 : Wp d 228 375 [some (.ref a), l1, l2, l3, l4, l5, l6, l7, l8, l9] st h Q = Wp d 228 376 [some (.ref a), l1, l2, l3, l4, l5, l6, l7, l8, l9] (.ref a :: st) h Q := W_go f228_375 rfl
theorem f228_376 : fetch 228 376 = some (.getfield 47, 3, [10, 14, 6148, 0], .null) := by decide +kernel
theorem w228_376 : Wp d 228 376 [l0, l1, l2, l3, l4, l5, l6, l7, l8, l9] (.ref a :: st) h Q = gP (h.2 a) 10 14 (fun w => Wp d 228 379 [l0, l1, l2, l3, l4, l5, l6, l7, l8, l9] (w :: st) h Q) := W_get f228_376 rfl
theorem f228_379 : fetch 228 379 = some (.getfield 334, 3, [9, 13, 6064, 1], .null) := by decide +kernel
theorem w228_379 : Wp d 228 379 [l0, l1, l2, l3, l4, l5, l6, l7, l8, l9] (.ref a :: st) h Q = gP (h.2 a) 9 13 (fun w => Wp d 228 382 [l0, l1, l2, l3, l4, l5, l6, l7, l8, l9] (w :: st) h Q) := W_get f228_379 rfl
theorem f228_382 : fetch 228 382 = some (.iload 4, 2, [], .null) := by decide +kernel
theorem w228_382 : Wp d 228 382 [l0, l1, l2, l3, some (.int x), l5, l6, l7, l8, l9] st h Q = Wp d 228 384 [l0, l1, l2, l3, some (.int x), l5, l6, l7, l8, l9] (.int x :: st) h Q := W_go f228_382 rfl
theorem f228_384 : fetch 228 384 = some (.iaload, 1, [], .null) := by decide +kernel
theorem w228_384 : Wp d 228 384 [l0, l1, l2, l3, l4, l5, l6, l7, l8, l9] (.int x :: .ref a :: st) h Q = aP false (h.2 a) x (fun w => Wp d 228 385 [l0, l1, l2, l3, l4, l5, l6, l7, l8, l9] (.int w :: st) h Q) := W_ald f228_384 rfl
theorem f228_385 : fetch 228 385 = some (.iastore, 1, [], .null) := by decide +kernel
theorem w228_385 : Wp d 228 385 [l0, l1, l2, l3, l4, l5, l6, l7, l8, l9] (.int y :: .int x :: .ref a :: st) h Q = asP false (h.2 a) a x y (fun c => Wp d 228 386 [l0, l1, l2, l3, l4, l5, l6, l7, l8, l9] st (hset h a c) Q) := W_ast f228_385 rfl
theorem f228_386 : fetch 228 386 = some (.dup, 1, [], .null) := by decide +kernel
theorem w228_386i : Wp d 228 386 [l0, l1, l2, l3, l4, l5, l6, l7, l8, l9] (.int x :: st) h Q = Wp d 228 387 [l0, l1, l2, l3, l4, l5, l6, l7, l8, l9] (.int x :: .int x :: st) h Q := W_go f228_386 rfl
theorem w228_386 : Wp d 228 386 [l0, l1, l2, l3, l4, l5, l6, l7, l8, l9] (.ref a :: st) h Q = Wp d 228 387 [l0, l1, l2, l3, l4, l5, l6, l7, l8, l9] (.ref a :: .ref a :: st) h Q := W_go f228_386 rfl
theorem f228_387 : fetch 228 387 = some (.iconst 5, 1, [], .null) := by decide +kernel
theorem w228_387 : Wp d 228 387 [l0, l1, l2, l3, l4, l5, l6, l7, l8, l9] st h Q = Wp d 228 388 [l0, l1, l2, l3, l4, l5, l6, l7, l8, l9] (.int (5 : Int32) :: st) h Q := W_go f228_387 rfl
theorem f228_388 : fetch 228 388 = some (.aload_n 0, 1, [], .null) := by decide +kernel
theorem w228_388 : Wp d 228 388 [some (.ref a), l1, l2, l3, l4, l5, l6, l7, l8, l9] st h Q = Wp d 228 389 [some (.ref a), l1, l2, l3, l4, l5, l6, l7, l8, l9] (.ref a :: st) h Q := W_go f228_388 rfl
theorem f228_389 : fetch 228 389 = some (.getfield 47, 3, [10, 14, 6148, 0], .null) := by decide +kernel
theorem w228_389 : Wp d 228 389 [l0, l1, l2, l3, l4, l5, l6, l7, l8, l9] (.ref a :: st) h Q = gP (h.2 a) 10 14 (fun w => Wp d 228 392 [l0, l1, l2, l3, l4, l5, l6, l7, l8, l9] (w :: st) h Q) := W_get f228_389 rfl
theorem f228_392 : fetch 228 392 = some (.getfield 337, 3, [9, 14, 6066, 1], .null) := by decide +kernel
theorem w228_392 : Wp d 228 392 [l0, l1, l2, l3, l4, l5, l6, l7, l8, l9] (.ref a :: st) h Q = gP (h.2 a) 9 14 (fun w => Wp d 228 395 [l0, l1, l2, l3, l4, l5, l6, l7, l8, l9] (w :: st) h Q) := W_get f228_392 rfl
theorem f228_395 : fetch 228 395 = some (.iload 4, 2, [], .null) := by decide +kernel
theorem w228_395 : Wp d 228 395 [l0, l1, l2, l3, some (.int x), l5, l6, l7, l8, l9] st h Q = Wp d 228 397 [l0, l1, l2, l3, some (.int x), l5, l6, l7, l8, l9] (.int x :: st) h Q := W_go f228_395 rfl
theorem f228_397 : fetch 228 397 = some (.iaload, 1, [], .null) := by decide +kernel
theorem w228_397 : Wp d 228 397 [l0, l1, l2, l3, l4, l5, l6, l7, l8, l9] (.int x :: .ref a :: st) h Q = aP false (h.2 a) x (fun w => Wp d 228 398 [l0, l1, l2, l3, l4, l5, l6, l7, l8, l9] (.int w :: st) h Q) := W_ald f228_397 rfl
theorem f228_398 : fetch 228 398 = some (.iastore, 1, [], .null) := by decide +kernel
theorem w228_398 : Wp d 228 398 [l0, l1, l2, l3, l4, l5, l6, l7, l8, l9] (.int y :: .int x :: .ref a :: st) h Q = asP false (h.2 a) a x y (fun c => Wp d 228 399 [l0, l1, l2, l3, l4, l5, l6, l7, l8, l9] st (hset h a c) Q) := W_ast f228_398 rfl
theorem f228_399 : fetch 228 399 = some (.astore 5, 2, [], .null) := by decide +kernel
theorem w228_399 : Wp d 228 399 [l0, l1, l2, l3, l4, l5, l6, l7, l8, l9] (.ref a :: st) h Q = Wp d 228 401 [l0, l1, l2, l3, kl l4, some (.ref a), l6, l7, l8, l9] st h Q := (W_st1 (pc' := 401) (k := 5) f228_399 rfl rfl (by simp only [List.length_cons, List.length_nil]; omega)).trans (by rw [pst1_succ]; rfl)
theorem f228_401 : fetch 228 401 = some (.aload 5, 2, [], .null) := by decide +kernel
theorem w228_401 : Wp d 228 401 [l0, l1, l2, l3, l4, some (.ref a), l6, l7, l8, l9] st h Q = Wp d 228 403 [l0, l1, l2, l3, l4, some (.ref a), l6, l7, l8, l9] (.ref a :: st) h Q := W_go f228_401 rfl
theorem f228_403 : fetch 228 403 = some (.astore 6, 2, [], .null) := by decide +kernel
theorem w228_403 : Wp d 228 403 [l0, l1, l2, l3, l4, l5, l6, l7, l8, l9] (.ref a :: st) h Q = Wp d 228 405 [l0, l1, l2, l3, l4, kl l5, some (.ref a), l7, l8, l9] st h Q := (W_st1 (pc' := 405) (k := 6) f228_403 rfl rfl (by simp only [List.length_cons, List.length_nil]; omega)).trans (by rw [pst1_succ]; rfl)
theorem f228_405 : fetch 228 405 = some (.aload 6, 2, [], .null) := by decide +kernel
theorem w228_405 : Wp d 228 405 [l0, l1, l2, l3, l4, l5, some (.ref a), l7, l8, l9] st h Q = Wp d 228 407 [l0, l1, l2, l3, l4, l5, some (.ref a), l7, l8, l9] (.ref a :: st) h Q := W_go f228_405 rfl
theorem f228_407 : fetch 228 407 = some (.arraylength, 1, [], .null) := by decide +kernel
theorem w228_407 : Wp d 228 407 [l0, l1, l2, l3, l4, l5, l6, l7, l8, l9] (.ref a :: st) h Q = nP (h.2 a) (fun w => Wp d 228 408 [l0, l1, l2, l3, l4, l5, l6, l7, l8, l9] (.int w :: st) h Q) := W_len f228_407 rfl
theorem f228_408 : fetch 228 408 = some (.istore 7, 2, [], .null) := by decide +kernel
theorem w228_408 : Wp d 228 408 [l0, l1, l2, l3, l4, l5, l6, l7, l8, l9] (.int x :: st) h Q = Wp d 228 410 [l0, l1, l2, l3, l4, l5, kl l6, some (.int x), l8, l9] st h Q := (W_st1 (pc' := 410) (k := 7) f228_408 rfl rfl (by simp only [List.length_cons, List.length_nil]; omega)).trans (by rw [pst1_succ]; rfl)
theorem f228_410 : fetch 228 410 = some (.iconst 0, 1, [], .null) := by decide +kernel
theorem w228_410 : Wp d 228 410 [l0, l1, l2, l3, l4, l5, l6, l7, l8, l9] st h Q = Wp d 228 411 [l0, l1, l2, l3, l4, l5, l6, l7, l8, l9] (.int (0 : Int32) :: st) h Q := W_go f228_410 rfl
theorem f228_411 : fetch 228 411 = some (.istore 8, 2, [], .null) := by decide +kernel
theorem w228_411 : Wp d 228 411 [l0, l1, l2, l3, l4, l5, l6, l7, l8, l9] (.int x :: st) h Q = Wp d 228 413 [l0, l1, l2, l3, l4, l5, l6, kl l7, some (.int x), l9] st h Q := (W_st1 (pc' := 413) (k := 8) f228_411 rfl rfl (by simp only [List.length_cons, List.length_nil]; omega)).trans (by rw [pst1_succ]; rfl)
theorem f228_413 : fetch 228 413 = some (.iload 8, 2, [], .null) := by decide +kernel
theorem w228_413 : Wp d 228 413 [l0, l1, l2, l3, l4, l5, l6, l7, some (.int x), l9] st h Q = Wp d 228 415 [l0, l1, l2, l3, l4, l5, l6, l7, some (.int x), l9] (.int x :: st) h Q := W_go f228_413 rfl
theorem f228_415 : fetch 228 415 = some (.iload 7, 2, [], .null) := by decide +kernel
theorem w228_415 : Wp d 228 415 [l0, l1, l2, l3, l4, l5, l6, some (.int x), l8, l9] st h Q = Wp d 228 417 [l0, l1, l2, l3, l4, l5, l6, some (.int x), l8, l9] (.int x :: st) h Q := W_go f228_415 rfl
theorem f228_417 : fetch 228 417 = some (.if_icmp .ge 26, 3, [], .null) := by decide +kernel
theorem w228_417 : Wp d 228 417 [l0, l1, l2, l3, l4, l5, l6, l7, l8, l9] (.int y :: .int x :: st) h Q = if icond .ge x y = true then Wp d 228 443 [l0, l1, l2, l3, l4, l5, l6, l7, l8, l9] st h Q else Wp d 228 420 [l0, l1, l2, l3, l4, l5, l6, l7, l8, l9] st h Q := W_if f228_417 rfl
theorem f228_420 : fetch 228 420 = some (.aload 6, 2, [], .null) := by decide +kernel
theorem w228_420 : Wp d 228 420 [l0, l1, l2, l3, l4, l5, some (.ref a), l7, l8, l9] st h Q = Wp d 228 422 [l0, l1, l2, l3, l4, l5, some (.ref a), l7, l8, l9] (.ref a :: st) h Q := W_go f228_420 rfl
theorem f228_422 : fetch 228 422 = some (.iload 8, 2, [], .null) := by decide +kernel
theorem w228_422 : Wp d 228 422 [l0, l1, l2, l3, l4, l5, l6, l7, some (.int x), l9] st h Q = Wp d 228 424 [l0, l1, l2, l3, l4, l5, l6, l7, some (.int x), l9] (.int x :: st) h Q := W_go f228_422 rfl
theorem f228_424 : fetch 228 424 = some (.iaload, 1, [], .null) := by decide +kernel
theorem w228_424 : Wp d 228 424 [l0, l1, l2, l3, l4, l5, l6, l7, l8, l9] (.int x :: .ref a :: st) h Q = aP false (h.2 a) x (fun w => Wp d 228 425 [l0, l1, l2, l3, l4, l5, l6, l7, l8, l9] (.int w :: st) h Q) := W_ald f228_424 rfl
theorem f228_425 : fetch 228 425 = some (.istore 9, 2, [], .null) := by decide +kernel
theorem w228_425 : Wp d 228 425 [l0, l1, l2, l3, l4, l5, l6, l7, l8, l9] (.int x :: st) h Q = Wp d 228 427 [l0, l1, l2, l3, l4, l5, l6, l7, kl l8, some (.int x)] st h Q := (W_st1 (pc' := 427) (k := 9) f228_425 rfl rfl (by simp only [List.length_cons, List.length_nil]; omega)).trans (by rw [pst1_succ]; rfl)
theorem f228_427 : fetch 228 427 = some (.lload_n 2, 1, [], .null) := by decide +kernel
theorem w228_427 : Wp d 228 427 [l0, l1, some (.long x8), l3, l4, l5, l6, l7, l8, l9] st h Q = Wp d 228 428 [l0, l1, some (.long x8), l3, l4, l5, l6, l7, l8, l9] (.long x8 :: st) h Q := W_go f228_427 rfl
theorem f228_428 : fetch 228 428 = some (.ldc2_w 360, 3, [8137], .long (31)) := by decide +kernel
theorem w228_428 : Wp d 228 428 [l0, l1, l2, l3, l4, l5, l6, l7, l8, l9] st h Q = Wp d 228 431 [l0, l1, l2, l3, l4, l5, l6, l7, l8, l9] ((.long (31)) :: st) h Q := W_go f228_428 rfl
theorem f228_431 : fetch 228 431 = some (.lmul, 1, [], .null) := by decide +kernel
theorem w228_431 : Wp d 228 431 [l0, l1, l2, l3, l4, l5, l6, l7, l8, l9] (.long y8 :: .long x8 :: st) h Q = Wp d 228 432 [l0, l1, l2, l3, l4, l5, l6, l7, l8, l9] (.long (x8 * y8) :: st) h Q := W_go f228_431 rfl
theorem f228_432 : fetch 228 432 = some (.iload 9, 2, [], .null) := by decide +kernel
theorem w228_432 : Wp d 228 432 [l0, l1, l2, l3, l4, l5, l6, l7, l8, some (.int x)] st h Q = Wp d 228 434 [l0, l1, l2, l3, l4, l5, l6, l7, l8, some (.int x)] (.int x :: st) h Q := W_go f228_432 rfl
theorem f228_434 : fetch 228 434 = some (.i2l, 1, [], .null) := by decide +kernel
theorem w228_434 : Wp d 228 434 [l0, l1, l2, l3, l4, l5, l6, l7, l8, l9] (.int x :: st) h Q = Wp d 228 435 [l0, l1, l2, l3, l4, l5, l6, l7, l8, l9] (.long x.toInt64 :: st) h Q := W_go f228_434 rfl
theorem f228_435 : fetch 228 435 = some (.ladd, 1, [], .null) := by decide +kernel
theorem w228_435 : Wp d 228 435 [l0, l1, l2, l3, l4, l5, l6, l7, l8, l9] (.long y8 :: .long x8 :: st) h Q = Wp d 228 436 [l0, l1, l2, l3, l4, l5, l6, l7, l8, l9] (.long (x8 + y8) :: st) h Q := W_go f228_435 rfl
theorem f228_436 : fetch 228 436 = some (.lstore_n 2, 1, [], .null) := by decide +kernel
theorem w228_436 : Wp d 228 436 [l0, l1, l2, l3, l4, l5, l6, l7, l8, l9] (.long x8 :: st) h Q = Wp d 228 437 [l0, kl l1, some (.long x8), none, l4, l5, l6, l7, l8, l9] st h Q := (W_st2 (pc' := 437) (k := 2) f228_436 rfl rfl (by simp only [List.length_cons, List.length_nil]; omega)).trans (by rw [pst2_succ]; rfl)
theorem f228_437 : fetch 228 437 = some (.iinc 8 1, 3, [], .null) := by decide +kernel
theorem w228_437 : Wp d 228 437 [l0, l1, l2, l3, l4, l5, l6, l7, some (.int x), l9] st h Q = Wp d 228 440 [l0, l1, l2, l3, l4, l5, l6, kl l7, some (.int (x + (1 : Int32))), l9] st h Q := (W_iinc (y := (1 : Int32)) f228_437 rfl (by simp only [List.length_cons, List.length_nil]; omega) (by decide)).trans (by rw [pst1_succ]; rfl)
theorem f228_440 : fetch 228 440 = some (.goto (-27), 3, [], .null) := by decide +kernel
theorem w228_440 : Wp d 228 440 [l0, l1, l2, l3, l4, l5, l6, l7, l8, l9] st h Q = Wp d 228 413 [l0, l1, l2, l3, l4, l5, l6, l7, l8, l9] st h Q := W_go f228_440 rfl
theorem f228_443 : fetch 228 443 = some (.iconst 0, 1, [], .null) := by decide +kernel
theorem w228_443 : Wp d 228 443 [l0, l1, l2, l3, l4, l5, l6, l7, l8, l9] st h Q = Wp d 228 444 [l0, l1, l2, l3, l4, l5, l6, l7, l8, l9] (.int (0 : Int32) :: st) h Q := W_go f228_443 rfl
theorem f228_444 : fetch 228 444 = some (.istore 6, 2, [], .null) := by decide +kernel
theorem w228_444 : Wp d 228 444 [l0, l1, l2, l3, l4, l5, l6, l7, l8, l9] (.int x :: st) h Q = Wp d 228 446 [l0, l1, l2, l3, l4, kl l5, some (.int x), l7, l8, l9] st h Q := (W_st1 (pc' := 446) (k := 6) f228_444 rfl rfl (by simp only [List.length_cons, List.length_nil]; omega)).trans (by rw [pst1_succ]; rfl)
theorem f228_446 : fetch 228 446 = some (.iload 6, 2, [], .null) := by decide +kernel
theorem w228_446 : Wp d 228 446 [l0, l1, l2, l3, l4, l5, some (.int x), l7, l8, l9] st h Q = Wp d 228 448 [l0, l1, l2, l3, l4, l5, some (.int x), l7, l8, l9] (.int x :: st) h Q := W_go f228_446 rfl
theorem f228_448 : fetch 228 448 = some (.aload_n 0, 1, [], .null) := by decide +kernel
theorem w228_448 : Wp d 228 448 [some (.ref a), l1, l2, l3, l4, l5, l6, l7, l8, l9] st h Q = Wp d 228 449 [some (.ref a), l1, l2, l3, l4, l5, l6, l7, l8, l9] (.ref a :: st) h Q := W_go f228_448 rfl
theorem f228_449 : fetch 228 449 = some (.iload 4, 2, [], .null) := by decide +kernel
theorem w228_449 : Wp d 228 449 [l0, l1, l2, l3, some (.int x), l5, l6, l7, l8, l9] st h Q = Wp d 228 451 [l0, l1, l2, l3, some (.int x), l5, l6, l7, l8, l9] (.int x :: st) h Q := W_go f228_449 rfl
theorem f228_451 : fetch 228 451 = some (.invokevirtual 343, 3, [219, 2, 11, 0, 8089, 1013, 8092, 8091, 81], .null) := by decide +kernel
theorem w228_451 (hp : psum st ≤ 8) : Wp d 228 451 [l0, l1, l2, l3, l4, l5, l6, l7, l8, l9] (v1 :: (.ref b) :: st) h Q = rP (h.2 b) 10 (Cp d 219 [(.ref b), v1] h (fun o => cK o (fun w h2 => Wp d 228 454 [l0, l1, l2, l3, l4, l5, l6, l7, l8, l9] (w.toList ++ st) h2 Q) (fun E h2 => Q (.inr E, h2)))) := (W_invV (st := st) f228_451 rfl rfl (by simp only [List.length_cons]; omega) rfl rfl hp).trans (by simp only [hm228, if_true])
theorem f228_454 : fetch 228 454 = some (.if_icmp .ge 25, 3, [], .null) := by decide +kernel
theorem w228_454 : Wp d 228 454 [l0, l1, l2, l3, l4, l5, l6, l7, l8, l9] (.int y :: .int x :: st) h Q = if icond .ge x y = true then Wp d 228 479 [l0, l1, l2, l3, l4, l5, l6, l7, l8, l9] st h Q else Wp d 228 457 [l0, l1, l2, l3, l4, l5, l6, l7, l8, l9] st h Q := W_if f228_454 rfl
theorem f228_457 : fetch 228 457 = some (.lload_n 2, 1, [], .null) := by decide +kernel
theorem w228_457 : Wp d 228 457 [l0, l1, some (.long x8), l3, l4, l5, l6, l7, l8, l9] st h Q = Wp d 228 458 [l0, l1, some (.long x8), l3, l4, l5, l6, l7, l8, l9] (.long x8 :: st) h Q := W_go f228_457 rfl
theorem f228_458 : fetch 228 458 = some (.ldc2_w 360, 3, [8137], .long (31)) := by decide +kernel
theorem w228_458 : Wp d 228 458 [l0, l1, l2, l3, l4, l5, l6, l7, l8, l9] st h Q = Wp d 228 461 [l0, l1, l2, l3, l4, l5, l6, l7, l8, l9] ((.long (31)) :: st) h Q := W_go f228_458 rfl
theorem f228_461 : fetch 228 461 = some (.lmul, 1, [], .null) := by decide +kernel
theorem w228_461 : Wp d 228 461 [l0, l1, l2, l3, l4, l5, l6, l7, l8, l9] (.long y8 :: .long x8 :: st) h Q = Wp d 228 462 [l0, l1, l2, l3, l4, l5, l6, l7, l8, l9] (.long (x8 * y8) :: st) h Q := W_go f228_461 rfl
theorem f228_462 : fetch 228 462 = some (.aload_n 0, 1, [], .null) := by decide +kernel
theorem w228_462 : Wp d 228 462 [some (.ref a), l1, l2, l3, l4, l5, l6, l7, l8, l9] st h Q = Wp d 228 463 [some (.ref a), l1, l2, l3, l4, l5, l6, l7, l8, l9] (.ref a :: st) h Q := W_go f228_462 rfl
theorem f228_463 : fetch 228 463 = some (.iload 4, 2, [], .null) := by decide +kernel
theorem w228_463 : Wp d 228 463 [l0, l1, l2, l3, some (.int x), l5, l6, l7, l8, l9] st h Q = Wp d 228 465 [l0, l1, l2, l3, some (.int x), l5, l6, l7, l8, l9] (.int x :: st) h Q := W_go f228_463 rfl
theorem f228_465 : fetch 228 465 = some (.iload 6, 2, [], .null) := by decide +kernel
theorem w228_465 : Wp d 228 465 [l0, l1, l2, l3, l4, l5, some (.int x), l7, l8, l9] st h Q = Wp d 228 467 [l0, l1, l2, l3, l4, l5, some (.int x), l7, l8, l9] (.int x :: st) h Q := W_go f228_465 rfl
theorem f228_467 : fetch 228 467 = some (.invokevirtual 346, 3, [220, 3, 11, 0, 8093, 1013, 8096, 8095, 82], .null) := by decide +kernel
theorem w228_467 (hp : psum st ≤ 8) : Wp d 228 467 [l0, l1, l2, l3, l4, l5, l6, l7, l8, l9] (v2 :: v1 :: (.ref b) :: st) h Q = rP (h.2 b) 10 (Cp d 220 [(.ref b), v1, v2] h (fun o => cK o (fun w h2 => Wp d 228 470 [l0, l1, l2, l3, l4, l5, l6, l7, l8, l9] (w.toList ++ st) h2 Q) (fun E h2 => Q (.inr E, h2)))) := (W_invV (st := st) f228_467 rfl rfl (by simp only [List.length_cons]; omega) rfl rfl hp).trans (by simp only [hm228, if_true])
theorem f228_470 : fetch 228 470 = some (.i2l, 1, [], .null) := by decide +kernel
theorem w228_470 : Wp d 228 470 [l0, l1, l2, l3, l4, l5, l6, l7, l8, l9] (.int x :: st) h Q = Wp d 228 471 [l0, l1, l2, l3, l4, l5, l6, l7, l8, l9] (.long x.toInt64 :: st) h Q := W_go f228_470 rfl
theorem f228_471 : fetch 228 471 = some (.ladd, 1, [], .null) := by decide +kernel
theorem w228_471 : Wp d 228 471 [l0, l1, l2, l3, l4, l5, l6, l7, l8, l9] (.long y8 :: .long x8 :: st) h Q = Wp d 228 472 [l0, l1, l2, l3, l4, l5, l6, l7, l8, l9] (.long (x8 + y8) :: st) h Q := W_go f228_471 rfl
theorem f228_472 : fetch 228 472 = some (.lstore_n 2, 1, [], .null) := by decide +kernel
theorem w228_472 : Wp d 228 472 [l0, l1, l2, l3, l4, l5, l6, l7, l8, l9] (.long x8 :: st) h Q = Wp d 228 473 [l0, kl l1, some (.long x8), none, l4, l5, l6, l7, l8, l9] st h Q := (W_st2 (pc' := 473) (k := 2) f228_472 rfl rfl (by simp only [List.length_cons, List.length_nil]; omega)).trans (by rw [pst2_succ]; rfl)
theorem f228_473 : fetch 228 473 = some (.iinc 6 1, 3, [], .null) := by decide +kernel
theorem w228_473 : Wp d 228 473 [l0, l1, l2, l3, l4, l5, some (.int x), l7, l8, l9] st h Q = Wp d 228 476 [l0, l1, l2, l3, l4, kl l5, some (.int (x + (1 : Int32))), l7, l8, l9] st h Q := (W_iinc (y := (1 : Int32)) f228_473 rfl (by simp only [List.length_cons, List.length_nil]; omega) (by decide)).trans (by rw [pst1_succ]; rfl)
theorem f228_476 : fetch 228 476 = some (.goto (-30), 3, [], .null) := by decide +kernel
theorem w228_476 : Wp d 228 476 [l0, l1, l2, l3, l4, l5, l6, l7, l8, l9] st h Q = Wp d 228 446 [l0, l1, l2, l3, l4, l5, l6, l7, l8, l9] st h Q := W_go f228_476 rfl
theorem f228_479 : fetch 228 479 = some (.iinc 4 1, 3, [], .null) := by decide +kernel
theorem w228_479 : Wp d 228 479 [l0, l1, l2, l3, some (.int x), l5, l6, l7, l8, l9] st h Q = Wp d 228 482 [l0, l1, l2, kl l3, some (.int (x + (1 : Int32))), l5, l6, l7, l8, l9] st h Q := (W_iinc (y := (1 : Int32)) f228_479 rfl (by simp only [List.length_cons, List.length_nil]; omega) (by decide)).trans (by rw [pst1_succ]; rfl)
theorem f228_482 : fetch 228 482 = some (.goto (-173), 3, [], .null) := by decide +kernel
theorem w228_482 : Wp d 228 482 [l0, l1, l2, l3, l4, l5, l6, l7, l8, l9] st h Q = Wp d 228 309 [l0, l1, l2, l3, l4, l5, l6, l7, l8, l9] st h Q := W_go f228_482 rfl
theorem f228_485 : fetch 228 485 = some (.lload_n 2, 1, [], .null) := by decide +kernel
theorem w228_485 : Wp d 228 485 [l0, l1, some (.long x8), l3, l4, l5, l6, l7, l8, l9] st h Q = Wp d 228 486 [l0, l1, some (.long x8), l3, l4, l5, l6, l7, l8, l9] (.long x8 :: st) h Q := W_go f228_485 rfl
theorem f228_486 : fetch 228 486 = some (.lreturn, 1, [], .null) := by decide +kernel
theorem w228_486 : Wp d 228 486 [l0, l1, l2, l3, l4, l5, l6, l7, l8, l9] [.long x8] h Q = Q (.inl (some (.long x8)), h) := W_fin f228_486 rfl
theorem hm229 : mhs 229 = [] := by decide +kernel
theorem hr229 : mret 229 = (some .int) := by decide +kernel
theorem f229_0 : fetch 229 0 = some (.aload_n 0, 1, [], .null) := by decide +kernel
theorem w229_0 : Wp d 229 0 [some (.ref a)] st h Q = Wp d 229 1 [some (.ref a)] (.ref a :: st) h Q := W_go f229_0 rfl
theorem f229_1 : fetch 229 1 = some (.getfield 9, 3, [11, 0, 8139, 0], .null) := by decide +kernel
theorem w229_1 : Wp d 229 1 [l0] (.ref a :: st) h Q = gP (h.2 a) 11 0 (fun w => Wp d 229 4 [l0] (w :: st) h Q) := W_get f229_1 rfl
theorem f229_4 : fetch 229 4 = some (.arraylength, 1, [], .null) := by decide +kernel
theorem w229_4 : Wp d 229 4 [l0] (.ref a :: st) h Q = nP (h.2 a) (fun w => Wp d 229 5 [l0] (.int w :: st) h Q) := W_len f229_4 rfl
theorem f229_5 : fetch 229 5 = some (.aload_n 0, 1, [], .null) := by decide +kernel
theorem w229_5 : Wp d 229 5 [some (.ref a)] st h Q = Wp d 229 6 [some (.ref a)] (.ref a :: st) h Q := W_go f229_5 rfl
theorem f229_6 : fetch 229 6 = some (.invokevirtual 335, 3, [233, 1, 12, 0, 1159, 1006, 1162, 1160, 1161], .null) := by decide +kernel
theorem w229_6 (hp : psum st ≤ 8) : Wp d 229 6 [l0] ((.ref b) :: st) h Q = rP (h.2 b) 11 (Cp d 233 [(.ref b)] h (fun o => cK o (fun w h2 => Wp d 229 9 [l0] (w.toList ++ st) h2 Q) (fun E h2 => Q (.inr E, h2)))) := (W_invV (st := st) f229_6 rfl rfl (by simp only [List.length_cons]; omega) rfl rfl hp).trans (by simp only [hm229, if_true])
theorem f229_9 : fetch 229 9 = some (.ishr, 1, [], .null) := by decide +kernel
theorem w229_9 : Wp d 229 9 [l0] (.int y :: .int x :: st) h Q = Wp d 229 10 [l0] (.int (x >>> (y &&& 31)) :: st) h Q := W_go f229_9 rfl
theorem f229_10 : fetch 229 10 = some (.ireturn, 1, [], .null) := by decide +kernel
theorem w229_10 : Wp d 229 10 [l0] [.int x] h Q = Q (.inl (some (.int x)), h) := W_iret f229_10 hr229
theorem hm230 : mhs 230 = [] := by decide +kernel
theorem hr230 : mret 230 = (some .char) := by decide +kernel
theorem f230_0 : fetch 230 0 = some (.aload_n 0, 1, [], .null) := by decide +kernel
theorem w230_0 : Wp d 230 0 [some (.ref a), l1] st h Q = Wp d 230 1 [some (.ref a), l1] (.ref a :: st) h Q := W_go f230_0 rfl
theorem f230_1 : fetch 230 1 = some (.invokevirtual 492, 3, [234, 1, 12, 0, 1169, 1006, 1172, 1170, 1171], .null) := by decide +kernel
theorem w230_1 (hp : psum st ≤ 8) : Wp d 230 1 [l0, l1] ((.ref b) :: st) h Q = rP (h.2 b) 11 (Cp d 234 [(.ref b)] h (fun o => cK o (fun w h2 => Wp d 230 4 [l0, l1] (w.toList ++ st) h2 Q) (fun E h2 => Q (.inr E, h2)))) := (W_invV (st := st) f230_1 rfl rfl (by simp only [List.length_cons]; omega) rfl rfl hp).trans (by simp only [hm230, if_true])
theorem f230_4 : fetch 230 4 = some (.ifCond .eq 12, 3, [], .null) := by decide +kernel
theorem w230_4 : Wp d 230 4 [l0, l1] (.int x :: st) h Q = if icond .eq x 0 = true then Wp d 230 16 [l0, l1] st h Q else Wp d 230 7 [l0, l1] st h Q := W_if f230_4 rfl
theorem f230_7 : fetch 230 7 = some (.aload_n 0, 1, [], .null) := by decide +kernel
theorem w230_7 : Wp d 230 7 [some (.ref a), l1] st h Q = Wp d 230 8 [some (.ref a), l1] (.ref a :: st) h Q := W_go f230_7 rfl
theorem f230_8 : fetch 230 8 = some (.getfield 9, 3, [11, 0, 8139, 0], .null) := by decide +kernel
theorem w230_8 : Wp d 230 8 [l0, l1] (.ref a :: st) h Q = gP (h.2 a) 11 0 (fun w => Wp d 230 11 [l0, l1] (w :: st) h Q) := W_get f230_8 rfl
theorem f230_11 : fetch 230 11 = some (.iload_n 1, 1, [], .null) := by decide +kernel
theorem w230_11 : Wp d 230 11 [l0, some (.int x)] st h Q = Wp d 230 12 [l0, some (.int x)] (.int x :: st) h Q := W_go f230_11 rfl
theorem f230_12 : fetch 230 12 = some (.invokestatic 495, 3, [236, 2, 0, 0, 1173, 1007, 1175, 1174], .null) := by decide +kernel
theorem w230_12 (hp : psum st ≤ 8) : Wp d 230 12 [l0, l1] (v1 :: v0 :: st) h Q = Cp d 236 [v0, v1] h (fun o => cK o (fun w h2 => Wp d 230 15 [l0, l1] (w.toList ++ st) h2 Q) (fun _ _ => False)) := (W_invS (st := st) f230_12 rfl rfl (by simp only [List.length_cons]; omega) rfl rfl hp)
theorem f230_15 : fetch 230 15 = some (.ireturn, 1, [], .null) := by decide +kernel
theorem w230_15 : Wp d 230 15 [l0, l1] [.int x] h Q = (if narrow .char (.int x) = .int x then Q (.inl (some (.int x)), h) else False) := W_nret f230_15 hr230
theorem f230_16 : fetch 230 16 = some (.aload_n 0, 1, [], .null) := by decide +kernel
theorem w230_16 : Wp d 230 16 [some (.ref a), l1] st h Q = Wp d 230 17 [some (.ref a), l1] (.ref a :: st) h Q := W_go f230_16 rfl
theorem f230_17 : fetch 230 17 = some (.getfield 9, 3, [11, 0, 8139, 0], .null) := by decide +kernel
theorem w230_17 : Wp d 230 17 [l0, l1] (.ref a :: st) h Q = gP (h.2 a) 11 0 (fun w => Wp d 230 20 [l0, l1] (w :: st) h Q) := W_get f230_17 rfl
theorem f230_20 : fetch 230 20 = some (.iload_n 1, 1, [], .null) := by decide +kernel
theorem w230_20 : Wp d 230 20 [l0, some (.int x)] st h Q = Wp d 230 21 [l0, some (.int x)] (.int x :: st) h Q := W_go f230_20 rfl
theorem f230_21 : fetch 230 21 = some (.invokestatic 498, 3, [], .null) := by decide +kernel
theorem f230_24 : fetch 230 24 = some (.ireturn, 1, [], .null) := by decide +kernel
theorem w230_24 : Wp d 230 24 [l0, l1] [.int x] h Q = (if narrow .char (.int x) = .int x then Q (.inl (some (.int x)), h) else False) := W_nret f230_24 hr230
theorem hm231 : mhs 231 = [] := by decide +kernel
theorem hr231 : mret 231 = (some .int) := by decide +kernel
theorem f231_0 : fetch 231 0 = some (.aload_n 0, 1, [], .null) := by decide +kernel
theorem w231_0 : Wp d 231 0 [some (.ref a), l1] st h Q = Wp d 231 1 [some (.ref a), l1] (.ref a :: st) h Q := W_go f231_0 rfl
theorem f231_1 : fetch 231 1 = some (.iload_n 1, 1, [], .null) := by decide +kernel
theorem w231_1 : Wp d 231 1 [l0, some (.int x)] st h Q = Wp d 231 2 [l0, some (.int x)] (.int x :: st) h Q := W_go f231_1 rfl
theorem f231_2 : fetch 231 2 = some (.iconst 0, 1, [], .null) := by decide +kernel
theorem w231_2 : Wp d 231 2 [l0, l1] st h Q = Wp d 231 3 [l0, l1] (.int (0 : Int32) :: st) h Q := W_go f231_2 rfl
theorem f231_3 : fetch 231 3 = some (.invokevirtual 633, 3, [232, 3, 12, 0, 2229, 1006, 2232, 2230, 2231], .null) := by decide +kernel
theorem w231_3 (hp : psum st ≤ 8) : Wp d 231 3 [l0, l1] (v2 :: v1 :: (.ref b) :: st) h Q = rP (h.2 b) 11 (Cp d 232 [(.ref b), v1, v2] h (fun o => cK o (fun w h2 => Wp d 231 6 [l0, l1] (w.toList ++ st) h2 Q) (fun E h2 => Q (.inr E, h2)))) := (W_invV (st := st) f231_3 rfl rfl (by simp only [List.length_cons]; omega) rfl rfl hp).trans (by simp only [hm231, if_true])
theorem f231_6 : fetch 231 6 = some (.ireturn, 1, [], .null) := by decide +kernel
theorem w231_6 : Wp d 231 6 [l0, l1] [.int x] h Q = Q (.inl (some (.int x)), h) := W_iret f231_6 hr231
theorem hm232 : mhs 232 = [] := by decide +kernel
theorem hr232 : mret 232 = (some .int) := by decide +kernel
theorem f232_0 : fetch 232 0 = some (.aload_n 0, 1, [], .null) := by decide +kernel
theorem w232_0 : Wp d 232 0 [some (.ref a), l1, l2] st h Q = Wp d 232 1 [some (.ref a), l1, l2] (.ref a :: st) h Q := W_go f232_0 rfl
theorem f232_1 : fetch 232 1 = some (.invokevirtual 492, 3, [234, 1, 12, 0, 1169, 1006, 1172, 1170, 1171], .null) := by decide +kernel
theorem w232_1 (hp : psum st ≤ 8) : Wp d 232 1 [l0, l1, l2] ((.ref b) :: st) h Q = rP (h.2 b) 11 (Cp d 234 [(.ref b)] h (fun o => cK o (fun w h2 => Wp d 232 4 [l0, l1, l2] (w.toList ++ st) h2 Q) (fun E h2 => Q (.inr E, h2)))) := (W_invV (st := st) f232_1 rfl rfl (by simp only [List.length_cons]; omega) rfl rfl hp).trans (by simp only [hm232, if_true])
theorem f232_4 : fetch 232 4 = some (.ifCond .eq 19, 3, [], .null) := by decide +kernel
theorem w232_4 : Wp d 232 4 [l0, l1, l2] (.int x :: st) h Q = if icond .eq x 0 = true then Wp d 232 23 [l0, l1, l2] st h Q else Wp d 232 7 [l0, l1, l2] st h Q := W_if f232_4 rfl
theorem f232_7 : fetch 232 7 = some (.aload_n 0, 1, [], .null) := by decide +kernel
theorem w232_7 : Wp d 232 7 [some (.ref a), l1, l2] st h Q = Wp d 232 8 [some (.ref a), l1, l2] (.ref a :: st) h Q := W_go f232_7 rfl
theorem f232_8 : fetch 232 8 = some (.getfield 9, 3, [11, 0, 8139, 0], .null) := by decide +kernel
theorem w232_8 : Wp d 232 8 [l0, l1, l2] (.ref a :: st) h Q = gP (h.2 a) 11 0 (fun w => Wp d 232 11 [l0, l1, l2] (w :: st) h Q) := W_get f232_8 rfl
theorem f232_11 : fetch 232 11 = some (.iload_n 1, 1, [], .null) := by decide +kernel
theorem w232_11 : Wp d 232 11 [l0, some (.int x), l2] st h Q = Wp d 232 12 [l0, some (.int x), l2] (.int x :: st) h Q := W_go f232_11 rfl
theorem f232_12 : fetch 232 12 = some (.iload_n 2, 1, [], .null) := by decide +kernel
theorem w232_12 : Wp d 232 12 [l0, l1, some (.int x)] st h Q = Wp d 232 13 [l0, l1, some (.int x)] (.int x :: st) h Q := W_go f232_12 rfl
theorem f232_13 : fetch 232 13 = some (.aload_n 0, 1, [], .null) := by decide +kernel
theorem w232_13 : Wp d 232 13 [some (.ref a), l1, l2] st h Q = Wp d 232 14 [some (.ref a), l1, l2] (.ref a :: st) h Q := W_go f232_13 rfl
theorem f232_14 : fetch 232 14 = some (.invokevirtual 505, 3, [229, 1, 12, 0, 2233, 1006, 1158, 1156, 1157], .null) := by decide +kernel
theorem w232_14 (hp : psum st ≤ 8) : Wp d 232 14 [l0, l1, l2] ((.ref b) :: st) h Q = rP (h.2 b) 11 (Cp d 229 [(.ref b)] h (fun o => cK o (fun w h2 => Wp d 232 17 [l0, l1, l2] (w.toList ++ st) h2 Q) (fun E h2 => Q (.inr E, h2)))) := (W_invV (st := st) f232_14 rfl rfl (by simp only [List.length_cons]; omega) rfl rfl hp).trans (by simp only [hm232, if_true])
theorem f232_17 : fetch 232 17 = some (.invokestatic 637, 3, [238, 4, 0, 0, 2234, 1007, 2236, 2235], .null) := by decide +kernel
theorem w232_17 (hp : psum st ≤ 8) : Wp d 232 17 [l0, l1, l2] (v3 :: v2 :: v1 :: v0 :: st) h Q = Cp d 238 [v0, v1, v2, v3] h (fun o => cK o (fun w h2 => Wp d 232 20 [l0, l1, l2] (w.toList ++ st) h2 Q) (fun _ _ => False)) := (W_invS (st := st) f232_17 rfl rfl (by simp only [List.length_cons]; omega) rfl rfl hp)
theorem f232_20 : fetch 232 20 = some (.goto 16, 3, [], .null) := by decide +kernel
theorem w232_20 : Wp d 232 20 [l0, l1, l2] st h Q = Wp d 232 36 [l0, l1, l2] st h Q := W_go f232_20 rfl
theorem f232_23 : fetch 232 23 = some (.aload_n 0, 1, [], .null) := by decide +kernel
theorem w232_23 : Wp d 232 23 [some (.ref a), l1, l2] st h Q = Wp d 232 24 [some (.ref a), l1, l2] (.ref a :: st) h Q := W_go f232_23 rfl
theorem f232_24 : fetch 232 24 = some (.getfield 9, 3, [11, 0, 8139, 0], .null) := by decide +kernel
theorem w232_24 : Wp d 232 24 [l0, l1, l2] (.ref a :: st) h Q = gP (h.2 a) 11 0 (fun w => Wp d 232 27 [l0, l1, l2] (w :: st) h Q) := W_get f232_24 rfl
theorem f232_27 : fetch 232 27 = some (.iload_n 1, 1, [], .null) := by decide +kernel
theorem w232_27 : Wp d 232 27 [l0, some (.int x), l2] st h Q = Wp d 232 28 [l0, some (.int x), l2] (.int x :: st) h Q := W_go f232_27 rfl
theorem f232_28 : fetch 232 28 = some (.iload_n 2, 1, [], .null) := by decide +kernel
theorem w232_28 : Wp d 232 28 [l0, l1, some (.int x)] st h Q = Wp d 232 29 [l0, l1, some (.int x)] (.int x :: st) h Q := W_go f232_28 rfl
theorem f232_29 : fetch 232 29 = some (.aload_n 0, 1, [], .null) := by decide +kernel
theorem w232_29 : Wp d 232 29 [some (.ref a), l1, l2] st h Q = Wp d 232 30 [some (.ref a), l1, l2] (.ref a :: st) h Q := W_go f232_29 rfl
theorem f232_30 : fetch 232 30 = some (.invokevirtual 505, 3, [229, 1, 12, 0, 2233, 1006, 1158, 1156, 1157], .null) := by decide +kernel
theorem w232_30 (hp : psum st ≤ 8) : Wp d 232 30 [l0, l1, l2] ((.ref b) :: st) h Q = rP (h.2 b) 11 (Cp d 229 [(.ref b)] h (fun o => cK o (fun w h2 => Wp d 232 33 [l0, l1, l2] (w.toList ++ st) h2 Q) (fun E h2 => Q (.inr E, h2)))) := (W_invV (st := st) f232_30 rfl rfl (by simp only [List.length_cons]; omega) rfl rfl hp).trans (by simp only [hm232, if_true])
theorem f232_33 : fetch 232 33 = some (.invokestatic 640, 3, [], .null) := by decide +kernel
theorem f232_36 : fetch 232 36 = some (.ireturn, 1, [], .null) := by decide +kernel
theorem w232_36 : Wp d 232 36 [l0, l1, l2] [.int x] h Q = Q (.inl (some (.int x)), h) := W_iret f232_36 hr232
theorem hm233 : mhs 233 = [] := by decide +kernel
theorem hr233 : mret 233 = (some .byte) := by decide +kernel
theorem f233_0 : fetch 233 0 = some (.getstatic 38, 3, [1163, 0], .int 1) := by decide +kernel
theorem w233_0 : Wp d 233 0 [l0] st h Q = Wp d 233 3 [l0] ((.int 1) :: st) h Q := W_go f233_0 rfl
theorem f233_3 : fetch 233 3 = some (.ifCond .eq 10, 3, [], .null) := by decide +kernel
theorem w233_3 : Wp d 233 3 [l0] (.int x :: st) h Q = if icond .eq x 0 = true then Wp d 233 13 [l0] st h Q else Wp d 233 6 [l0] st h Q := W_if f233_3 rfl
theorem f233_6 : fetch 233 6 = some (.aload_n 0, 1, [], .null) := by decide +kernel
theorem w233_6 : Wp d 233 6 [some (.ref a)] st h Q = Wp d 233 7 [some (.ref a)] (.ref a :: st) h Q := W_go f233_6 rfl
theorem f233_7 : fetch 233 7 = some (.getfield 15, 3, [11, 1, 8140, 0], .null) := by decide +kernel
theorem w233_7 : Wp d 233 7 [l0] (.ref a :: st) h Q = gP (h.2 a) 11 1 (fun w => Wp d 233 10 [l0] (w :: st) h Q) := W_get f233_7 rfl
theorem f233_10 : fetch 233 10 = some (.goto 4, 3, [], .null) := by decide +kernel
theorem w233_10 : Wp d 233 10 [l0] st h Q = Wp d 233 14 [l0] st h Q := W_go f233_10 rfl
theorem f233_13 : fetch 233 13 = some (.iconst 1, 1, [], .null) := by decide +kernel
theorem w233_13 : Wp d 233 13 [l0] st h Q = Wp d 233 14 [l0] (.int (1 : Int32) :: st) h Q := W_go f233_13 rfl
theorem f233_14 : fetch 233 14 = some (.ireturn, 1, [], .null) := by decide +kernel
theorem w233_14 : Wp d 233 14 [l0] [.int x] h Q = (if narrow .byte (.int x) = .int x then Q (.inl (some (.int x)), h) else False) := W_nret f233_14 hr233
theorem hm234 : mhs 234 = [] := by decide +kernel
theorem hr234 : mret 234 = (some .boolean) := by decide +kernel
theorem f234_0 : fetch 234 0 = some (.getstatic 38, 3, [1163, 0], .int 1) := by decide +kernel
theorem w234_0 : Wp d 234 0 [l0] st h Q = Wp d 234 3 [l0] ((.int 1) :: st) h Q := W_go f234_0 rfl
theorem f234_3 : fetch 234 3 = some (.ifCond .eq 14, 3, [], .null) := by decide +kernel
theorem w234_3 : Wp d 234 3 [l0] (.int x :: st) h Q = if icond .eq x 0 = true then Wp d 234 17 [l0] st h Q else Wp d 234 6 [l0] st h Q := W_if f234_3 rfl
theorem f234_6 : fetch 234 6 = some (.aload_n 0, 1, [], .null) := by decide +kernel
theorem w234_6 : Wp d 234 6 [some (.ref a)] st h Q = Wp d 234 7 [some (.ref a)] (.ref a :: st) h Q := W_go f234_6 rfl
theorem f234_7 : fetch 234 7 = some (.getfield 15, 3, [11, 1, 8140, 0], .null) := by decide +kernel
theorem w234_7 : Wp d 234 7 [l0] (.ref a :: st) h Q = gP (h.2 a) 11 1 (fun w => Wp d 234 10 [l0] (w :: st) h Q) := W_get f234_7 rfl
theorem f234_10 : fetch 234 10 = some (.ifCond .ne 7, 3, [], .null) := by decide +kernel
theorem w234_10 : Wp d 234 10 [l0] (.int x :: st) h Q = if icond .ne x 0 = true then Wp d 234 17 [l0] st h Q else Wp d 234 13 [l0] st h Q := W_if f234_10 rfl
theorem f234_13 : fetch 234 13 = some (.iconst 1, 1, [], .null) := by decide +kernel
theorem w234_13 : Wp d 234 13 [l0] st h Q = Wp d 234 14 [l0] (.int (1 : Int32) :: st) h Q := W_go f234_13 rfl
theorem f234_14 : fetch 234 14 = some (.goto 4, 3, [], .null) := by decide +kernel
theorem w234_14 : Wp d 234 14 [l0] st h Q = Wp d 234 18 [l0] st h Q := W_go f234_14 rfl
theorem f234_17 : fetch 234 17 = some (.iconst 0, 1, [], .null) := by decide +kernel
theorem w234_17 : Wp d 234 17 [l0] st h Q = Wp d 234 18 [l0] (.int (0 : Int32) :: st) h Q := W_go f234_17 rfl
theorem f234_18 : fetch 234 18 = some (.ireturn, 1, [], .null) := by decide +kernel
theorem w234_18 : Wp d 234 18 [l0] [.int x] h Q = (if narrow .boolean (.int x) = .int x then Q (.inl (some (.int x)), h) else False) := W_zret f234_18 hr234
theorem hm235 : mhs 235 = [] := by decide +kernel
theorem f235_0 : fetch 235 0 = some (.iload_n 0, 1, [], .null) := by decide +kernel
theorem w235_0 : Wp d 235 0 [some (.int x), l1] st h Q = Wp d 235 1 [some (.int x), l1] (.int x :: st) h Q := W_go f235_0 rfl
theorem f235_1 : fetch 235 1 = some (.iload_n 1, 1, [], .null) := by decide +kernel
theorem w235_1 : Wp d 235 1 [l0, some (.int x)] st h Q = Wp d 235 2 [l0, some (.int x)] (.int x :: st) h Q := W_go f235_1 rfl
theorem f235_2 : fetch 235 2 = some (.getstatic 1053, 3, [1179, 0], .ref 201) := by decide +kernel
theorem w235_2 : Wp d 235 2 [l0, l1] st h Q = Wp d 235 5 [l0, l1] ((.ref 201) :: st) h Q := W_go f235_2 rfl
theorem f235_5 : fetch 235 5 = some (.invokestatic 1059, 3, [240, 3, 0, 0, 1181, 1008, 1183, 1182], .null) := by decide +kernel
theorem w235_5 (hp : psum st ≤ 8) : Wp d 235 5 [l0, l1] (v2 :: v1 :: v0 :: st) h Q = Cp d 240 [v0, v1, v2] h (fun o => cK o (fun w h2 => Wp d 235 8 [l0, l1] (w.toList ++ st) h2 Q) (fun _ _ => False)) := (W_invS (st := st) f235_5 rfl rfl (by simp only [List.length_cons]; omega) rfl rfl hp)
theorem f235_8 : fetch 235 8 = some (.pop, 1, [], .null) := by decide +kernel
theorem w235_8i : Wp d 235 8 [l0, l1] (.int x :: st) h Q = Wp d 235 9 [l0, l1] st h Q := W_go f235_8 rfl
theorem w235_8 : Wp d 235 8 [l0, l1] (.ref a :: st) h Q = Wp d 235 9 [l0, l1] st h Q := W_go f235_8 rfl
theorem f235_9 : fetch 235 9 = some (.return_, 1, [], .null) := by decide +kernel
theorem w235_9 : Wp d 235 9 [l0, l1] [] h Q = Q (.inl none, h) := W_fin f235_9 rfl
theorem hm236 : mhs 236 = [] := by decide +kernel
theorem hr236 : mret 236 = (some .char) := by decide +kernel
theorem f236_0 : fetch 236 0 = some (.iload_n 1, 1, [], .null) := by decide +kernel
theorem w236_0 : Wp d 236 0 [l0, some (.int x)] st h Q = Wp d 236 1 [l0, some (.int x)] (.int x :: st) h Q := W_go f236_0 rfl
theorem f236_1 : fetch 236 1 = some (.aload_n 0, 1, [], .null) := by decide +kernel
theorem w236_1 : Wp d 236 1 [some (.ref a), l1] st h Q = Wp d 236 2 [some (.ref a), l1] (.ref a :: st) h Q := W_go f236_1 rfl
theorem f236_2 : fetch 236 2 = some (.arraylength, 1, [], .null) := by decide +kernel
theorem w236_2 : Wp d 236 2 [l0, l1] (.ref a :: st) h Q = nP (h.2 a) (fun w => Wp d 236 3 [l0, l1] (.int w :: st) h Q) := W_len f236_2 rfl
theorem f236_3 : fetch 236 3 = some (.invokestatic 9, 3, [235, 2, 0, 0, 1176, 1006, 1178, 1177], .null) := by decide +kernel
theorem w236_3 (hp : psum st ≤ 8) : Wp d 236 3 [l0, l1] (v1 :: v0 :: st) h Q = Cp d 235 [v0, v1] h (fun o => cK o (fun w h2 => Wp d 236 6 [l0, l1] (w.toList ++ st) h2 Q) (fun _ _ => False)) := (W_invS (st := st) f236_3 rfl rfl (by simp only [List.length_cons]; omega) rfl rfl hp)
theorem f236_6 : fetch 236 6 = some (.aload_n 0, 1, [], .null) := by decide +kernel
theorem w236_6 : Wp d 236 6 [some (.ref a), l1] st h Q = Wp d 236 7 [some (.ref a), l1] (.ref a :: st) h Q := W_go f236_6 rfl
theorem f236_7 : fetch 236 7 = some (.iload_n 1, 1, [], .null) := by decide +kernel
theorem w236_7 : Wp d 236 7 [l0, some (.int x)] st h Q = Wp d 236 8 [l0, some (.int x)] (.int x :: st) h Q := W_go f236_7 rfl
theorem f236_8 : fetch 236 8 = some (.baload, 1, [], .null) := by decide +kernel
theorem w236_8 : Wp d 236 8 [l0, l1] (.int x :: .ref a :: st) h Q = aP true (h.2 a) x (fun w => Wp d 236 9 [l0, l1] (.int w :: st) h Q) := W_ald f236_8 rfl
theorem f236_9 : fetch 236 9 = some (.sipush 255, 3, [], .null) := by decide +kernel
theorem w236_9 : Wp d 236 9 [l0, l1] st h Q = Wp d 236 12 [l0, l1] (.int (255 : Int32) :: st) h Q := W_go f236_9 rfl
theorem f236_12 : fetch 236 12 = some (.iand, 1, [], .null) := by decide +kernel
theorem w236_12 : Wp d 236 12 [l0, l1] (.int y :: .int x :: st) h Q = Wp d 236 13 [l0, l1] (.int (x &&& y) :: st) h Q := W_go f236_12 rfl
theorem f236_13 : fetch 236 13 = some (.i2c, 1, [], .null) := by decide +kernel
theorem w236_13 : Wp d 236 13 [l0, l1] (.int x :: st) h Q = Wp d 236 14 [l0, l1] (.int (x.toUInt32 % 65536).toInt32 :: st) h Q := W_go f236_13 rfl
theorem f236_14 : fetch 236 14 = some (.ireturn, 1, [], .null) := by decide +kernel
theorem w236_14 : Wp d 236 14 [l0, l1] [.int x] h Q = (if narrow .char (.int x) = .int x then Q (.inl (some (.int x)), h) else False) := W_nret f236_14 hr236
theorem hm237 : mhs 237 = [] := by decide +kernel
theorem hr237 : mret 237 = (some .boolean) := by decide +kernel
theorem f237_0 : fetch 237 0 = some (.iload_n 0, 1, [], .null) := by decide +kernel
theorem w237_0 : Wp d 237 0 [some (.int x)] st h Q = Wp d 237 1 [some (.int x)] (.int x :: st) h Q := W_go f237_0 rfl
theorem f237_1 : fetch 237 1 = some (.ifCond .lt 14, 3, [], .null) := by decide +kernel
theorem w237_1 : Wp d 237 1 [l0] (.int x :: st) h Q = if icond .lt x 0 = true then Wp d 237 15 [l0] st h Q else Wp d 237 4 [l0] st h Q := W_if f237_1 rfl
theorem f237_4 : fetch 237 4 = some (.iload_n 0, 1, [], .null) := by decide +kernel
theorem w237_4 : Wp d 237 4 [some (.int x)] st h Q = Wp d 237 5 [some (.int x)] (.int x :: st) h Q := W_go f237_4 rfl
theorem f237_5 : fetch 237 5 = some (.sipush 255, 3, [], .null) := by decide +kernel
theorem w237_5 : Wp d 237 5 [l0] st h Q = Wp d 237 8 [l0] (.int (255 : Int32) :: st) h Q := W_go f237_5 rfl
theorem f237_8 : fetch 237 8 = some (.if_icmp .gt 7, 3, [], .null) := by decide +kernel
theorem w237_8 : Wp d 237 8 [l0] (.int y :: .int x :: st) h Q = if icond .gt x y = true then Wp d 237 15 [l0] st h Q else Wp d 237 11 [l0] st h Q := W_if f237_8 rfl
theorem f237_11 : fetch 237 11 = some (.iconst 1, 1, [], .null) := by decide +kernel
theorem w237_11 : Wp d 237 11 [l0] st h Q = Wp d 237 12 [l0] (.int (1 : Int32) :: st) h Q := W_go f237_11 rfl
theorem f237_12 : fetch 237 12 = some (.goto 4, 3, [], .null) := by decide +kernel
theorem w237_12 : Wp d 237 12 [l0] st h Q = Wp d 237 16 [l0] st h Q := W_go f237_12 rfl
theorem f237_15 : fetch 237 15 = some (.iconst 0, 1, [], .null) := by decide +kernel
theorem w237_15 : Wp d 237 15 [l0] st h Q = Wp d 237 16 [l0] (.int (0 : Int32) :: st) h Q := W_go f237_15 rfl
theorem f237_16 : fetch 237 16 = some (.ireturn, 1, [], .null) := by decide +kernel
theorem w237_16 : Wp d 237 16 [l0] [.int x] h Q = (if narrow .boolean (.int x) = .int x then Q (.inl (some (.int x)), h) else False) := W_zret f237_16 hr237
theorem hm238 : mhs 238 = [] := by decide +kernel
theorem hr238 : mret 238 = (some .int) := by decide +kernel
theorem f238_0 : fetch 238 0 = some (.iload_n 1, 1, [], .null) := by decide +kernel
theorem w238_0 : Wp d 238 0 [l0, some (.int x), l2, l3] st h Q = Wp d 238 1 [l0, some (.int x), l2, l3] (.int x :: st) h Q := W_go f238_0 rfl
theorem f238_1 : fetch 238 1 = some (.invokestatic 88, 3, [237, 1, 0, 0, 2237, 1007, 2239, 2238], .null) := by decide +kernel
theorem w238_1 (hp : psum st ≤ 8) : Wp d 238 1 [l0, l1, l2, l3] (v0 :: st) h Q = Cp d 237 [v0] h (fun o => cK o (fun w h2 => Wp d 238 4 [l0, l1, l2, l3] (w.toList ++ st) h2 Q) (fun _ _ => False)) := (W_invS (st := st) f238_1 rfl rfl (by simp only [List.length_cons]; omega) rfl rfl hp)
theorem f238_4 : fetch 238 4 = some (.ifCond .ne 5, 3, [], .null) := by decide +kernel
theorem w238_4 : Wp d 238 4 [l0, l1, l2, l3] (.int x :: st) h Q = if icond .ne x 0 = true then Wp d 238 9 [l0, l1, l2, l3] st h Q else Wp d 238 7 [l0, l1, l2, l3] st h Q := W_if f238_4 rfl
theorem f238_7 : fetch 238 7 = some (.iconst (-1), 1, [], .null) := by decide +kernel
theorem w238_7 : Wp d 238 7 [l0, l1, l2, l3] st h Q = Wp d 238 8 [l0, l1, l2, l3] (.int (-1 : Int32) :: st) h Q := W_go f238_7 rfl
theorem f238_8 : fetch 238 8 = some (.ireturn, 1, [], .null) := by decide +kernel
theorem w238_8 : Wp d 238 8 [l0, l1, l2, l3] [.int x] h Q = Q (.inl (some (.int x)), h) := W_iret f238_8 hr238
theorem f238_9 : fetch 238 9 = some (.iload_n 2, 1, [], .null) := by decide +kernel
theorem w238_9 : Wp d 238 9 [l0, l1, some (.int x), l3] st h Q = Wp d 238 10 [l0, l1, some (.int x), l3] (.int x :: st) h Q := W_go f238_9 rfl
theorem f238_10 : fetch 238 10 = some (.iconst 0, 1, [], .null) := by decide +kernel
theorem w238_10 : Wp d 238 10 [l0, l1, l2, l3] st h Q = Wp d 238 11 [l0, l1, l2, l3] (.int (0 : Int32) :: st) h Q := W_go f238_10 rfl
theorem f238_11 : fetch 238 11 = some (.invokestatic 92, 3, [9997, 1, 3000, 3001, 1021, 3002], .null) := by decide +kernel
theorem w238_11 (hp : psum st ≤ 8) : Wp d 238 11 [l0, l1, l2, l3] (.int y :: .int x :: st) h Q = Wp d 238 14 [l0, l1, l2, l3] (.int (if x < y then y else x) :: st) h Q := W_go f238_11 (by simp only [pstep, pmath, if_pos hp]; rfl)
theorem f238_14 : fetch 238 14 = some (.istore_n 2, 1, [], .null) := by decide +kernel
theorem w238_14 : Wp d 238 14 [l0, l1, l2, l3] (.int x :: st) h Q = Wp d 238 15 [l0, kl l1, some (.int x), l3] st h Q := (W_st1 (pc' := 15) (k := 2) f238_14 rfl rfl (by simp only [List.length_cons, List.length_nil]; omega)).trans (by rw [pst1_succ]; rfl)
theorem f238_15 : fetch 238 15 = some (.iload_n 3, 1, [], .null) := by decide +kernel
theorem w238_15 : Wp d 238 15 [l0, l1, l2, some (.int x)] st h Q = Wp d 238 16 [l0, l1, l2, some (.int x)] (.int x :: st) h Q := W_go f238_15 rfl
theorem f238_16 : fetch 238 16 = some (.aload_n 0, 1, [], .null) := by decide +kernel
theorem w238_16 : Wp d 238 16 [some (.ref a), l1, l2, l3] st h Q = Wp d 238 17 [some (.ref a), l1, l2, l3] (.ref a :: st) h Q := W_go f238_16 rfl
theorem f238_17 : fetch 238 17 = some (.arraylength, 1, [], .null) := by decide +kernel
theorem w238_17 : Wp d 238 17 [l0, l1, l2, l3] (.ref a :: st) h Q = nP (h.2 a) (fun w => Wp d 238 18 [l0, l1, l2, l3] (.int w :: st) h Q) := W_len f238_17 rfl
theorem f238_18 : fetch 238 18 = some (.invokestatic 38, 3, [9997, 2, 3003, 3004, 1021, 3005], .null) := by decide +kernel
theorem w238_18 (hp : psum st ≤ 8) : Wp d 238 18 [l0, l1, l2, l3] (.int y :: .int x :: st) h Q = Wp d 238 21 [l0, l1, l2, l3] (.int (if y < x then y else x) :: st) h Q := W_go f238_18 (by simp only [pstep, pmath, if_pos hp]; rfl)
theorem f238_21 : fetch 238 21 = some (.istore_n 3, 1, [], .null) := by decide +kernel
theorem w238_21 : Wp d 238 21 [l0, l1, l2, l3] (.int x :: st) h Q = Wp d 238 22 [l0, l1, kl l2, some (.int x)] st h Q := (W_st1 (pc' := 22) (k := 3) f238_21 rfl rfl (by simp only [List.length_cons, List.length_nil]; omega)).trans (by rw [pst1_succ]; rfl)
theorem f238_22 : fetch 238 22 = some (.iload_n 2, 1, [], .null) := by decide +kernel
theorem w238_22 : Wp d 238 22 [l0, l1, some (.int x), l3] st h Q = Wp d 238 23 [l0, l1, some (.int x), l3] (.int x :: st) h Q := W_go f238_22 rfl
theorem f238_23 : fetch 238 23 = some (.iload_n 3, 1, [], .null) := by decide +kernel
theorem w238_23 : Wp d 238 23 [l0, l1, l2, some (.int x)] st h Q = Wp d 238 24 [l0, l1, l2, some (.int x)] (.int x :: st) h Q := W_go f238_23 rfl
theorem f238_24 : fetch 238 24 = some (.if_icmp .lt 5, 3, [], .null) := by decide +kernel
theorem w238_24 : Wp d 238 24 [l0, l1, l2, l3] (.int y :: .int x :: st) h Q = if icond .lt x y = true then Wp d 238 29 [l0, l1, l2, l3] st h Q else Wp d 238 27 [l0, l1, l2, l3] st h Q := W_if f238_24 rfl
theorem f238_27 : fetch 238 27 = some (.iconst (-1), 1, [], .null) := by decide +kernel
theorem w238_27 : Wp d 238 27 [l0, l1, l2, l3] st h Q = Wp d 238 28 [l0, l1, l2, l3] (.int (-1 : Int32) :: st) h Q := W_go f238_27 rfl
theorem f238_28 : fetch 238 28 = some (.ireturn, 1, [], .null) := by decide +kernel
theorem w238_28 : Wp d 238 28 [l0, l1, l2, l3] [.int x] h Q = Q (.inl (some (.int x)), h) := W_iret f238_28 hr238
theorem f238_29 : fetch 238 29 = some (.aload_n 0, 1, [], .null) := by decide +kernel
theorem w238_29 : Wp d 238 29 [some (.ref a), l1, l2, l3] st h Q = Wp d 238 30 [some (.ref a), l1, l2, l3] (.ref a :: st) h Q := W_go f238_29 rfl
theorem f238_30 : fetch 238 30 = some (.iload_n 1, 1, [], .null) := by decide +kernel
theorem w238_30 : Wp d 238 30 [l0, some (.int x), l2, l3] st h Q = Wp d 238 31 [l0, some (.int x), l2, l3] (.int x :: st) h Q := W_go f238_30 rfl
theorem f238_31 : fetch 238 31 = some (.iload_n 2, 1, [], .null) := by decide +kernel
theorem w238_31 : Wp d 238 31 [l0, l1, some (.int x), l3] st h Q = Wp d 238 32 [l0, l1, some (.int x), l3] (.int x :: st) h Q := W_go f238_31 rfl
theorem f238_32 : fetch 238 32 = some (.iload_n 3, 1, [], .null) := by decide +kernel
theorem w238_32 : Wp d 238 32 [l0, l1, l2, some (.int x)] st h Q = Wp d 238 33 [l0, l1, l2, some (.int x)] (.int x :: st) h Q := W_go f238_32 rfl
theorem f238_33 : fetch 238 33 = some (.invokestatic 95, 3, [239, 4, 0, 0, 3006, 1007, 3008, 3007], .null) := by decide +kernel
theorem w238_33 (hp : psum st ≤ 8) : Wp d 238 33 [l0, l1, l2, l3] (v3 :: v2 :: v1 :: v0 :: st) h Q = Cp d 239 [v0, v1, v2, v3] h (fun o => cK o (fun w h2 => Wp d 238 36 [l0, l1, l2, l3] (w.toList ++ st) h2 Q) (fun _ _ => False)) := (W_invS (st := st) f238_33 rfl rfl (by simp only [List.length_cons]; omega) rfl rfl hp)
theorem f238_36 : fetch 238 36 = some (.ireturn, 1, [], .null) := by decide +kernel
theorem w238_36 : Wp d 238 36 [l0, l1, l2, l3] [.int x] h Q = Q (.inl (some (.int x)), h) := W_iret f238_36 hr238
theorem hm239 : mhs 239 = [] := by decide +kernel
theorem hr239 : mret 239 = (some .int) := by decide +kernel
theorem f239_0 : fetch 239 0 = some (.iload_n 1, 1, [], .null) := by decide +kernel
theorem w239_0 : Wp d 239 0 [l0, some (.int x), l2, l3, l4, l5] st h Q = Wp d 239 1 [l0, some (.int x), l2, l3, l4, l5] (.int x :: st) h Q := W_go f239_0 rfl
theorem f239_1 : fetch 239 1 = some (.i2b, 1, [], .null) := by decide +kernel
theorem w239_1 : Wp d 239 1 [l0, l1, l2, l3, l4, l5] (.int x :: st) h Q = Wp d 239 2 [l0, l1, l2, l3, l4, l5] (.int x.toInt8.toInt32 :: st) h Q := W_go f239_1 rfl
theorem f239_2 : fetch 239 2 = some (.istore 4, 2, [], .null) := by decide +kernel
theorem w239_2 : Wp d 239 2 [l0, l1, l2, l3, l4, l5] (.int x :: st) h Q = Wp d 239 4 [l0, l1, l2, kl l3, some (.int x), l5] st h Q := (W_st1 (pc' := 4) (k := 4) f239_2 rfl rfl (by simp only [List.length_cons, List.length_nil]; omega)).trans (by rw [pst1_succ]; rfl)
theorem f239_4 : fetch 239 4 = some (.iload_n 2, 1, [], .null) := by decide +kernel
theorem w239_4 : Wp d 239 4 [l0, l1, some (.int x), l3, l4, l5] st h Q = Wp d 239 5 [l0, l1, some (.int x), l3, l4, l5] (.int x :: st) h Q := W_go f239_4 rfl
theorem f239_5 : fetch 239 5 = some (.istore 5, 2, [], .null) := by decide +kernel
theorem w239_5 : Wp d 239 5 [l0, l1, l2, l3, l4, l5] (.int x :: st) h Q = Wp d 239 7 [l0, l1, l2, l3, kl l4, some (.int x)] st h Q := (W_st1 (pc' := 7) (k := 5) f239_5 rfl rfl (by simp only [List.length_cons, List.length_nil]; omega)).trans (by rw [pst1_succ]; rfl)
theorem f239_7 : fetch 239 7 = some (.iload 5, 2, [], .null) := by decide +kernel
theorem w239_7 : Wp d 239 7 [l0, l1, l2, l3, l4, some (.int x)] st h Q = Wp d 239 9 [l0, l1, l2, l3, l4, some (.int x)] (.int x :: st) h Q := W_go f239_7 rfl
theorem f239_9 : fetch 239 9 = some (.iload_n 3, 1, [], .null) := by decide +kernel
theorem w239_9 : Wp d 239 9 [l0, l1, l2, some (.int x), l4, l5] st h Q = Wp d 239 10 [l0, l1, l2, some (.int x), l4, l5] (.int x :: st) h Q := W_go f239_9 rfl
theorem f239_10 : fetch 239 10 = some (.if_icmp .ge 21, 3, [], .null) := by decide +kernel
theorem w239_10 : Wp d 239 10 [l0, l1, l2, l3, l4, l5] (.int y :: .int x :: st) h Q = if icond .ge x y = true then Wp d 239 31 [l0, l1, l2, l3, l4, l5] st h Q else Wp d 239 13 [l0, l1, l2, l3, l4, l5] st h Q := W_if f239_10 rfl
theorem f239_13 : fetch 239 13 = some (.aload_n 0, 1, [], .null) := by decide +kernel
theorem w239_13 : Wp d 239 13 [some (.ref a), l1, l2, l3, l4, l5] st h Q = Wp d 239 14 [some (.ref a), l1, l2, l3, l4, l5] (.ref a :: st) h Q := W_go f239_13 rfl
theorem f239_14 : fetch 239 14 = some (.iload 5, 2, [], .null) := by decide +kernel
theorem w239_14 : Wp d 239 14 [l0, l1, l2, l3, l4, some (.int x)] st h Q = Wp d 239 16 [l0, l1, l2, l3, l4, some (.int x)] (.int x :: st) h Q := W_go f239_14 rfl
theorem f239_16 : fetch 239 16 = some (.baload, 1, [], .null) := by decide +kernel
theorem w239_16 : Wp d 239 16 [l0, l1, l2, l3, l4, l5] (.int x :: .ref a :: st) h Q = aP true (h.2 a) x (fun w => Wp d 239 17 [l0, l1, l2, l3, l4, l5] (.int w :: st) h Q) := W_ald f239_16 rfl
theorem f239_17 : fetch 239 17 = some (.iload 4, 2, [], .null) := by decide +kernel
theorem w239_17 : Wp d 239 17 [l0, l1, l2, l3, some (.int x), l5] st h Q = Wp d 239 19 [l0, l1, l2, l3, some (.int x), l5] (.int x :: st) h Q := W_go f239_17 rfl
theorem f239_19 : fetch 239 19 = some (.if_icmp .ne 6, 3, [], .null) := by decide +kernel
theorem w239_19 : Wp d 239 19 [l0, l1, l2, l3, l4, l5] (.int y :: .int x :: st) h Q = if icond .ne x y = true then Wp d 239 25 [l0, l1, l2, l3, l4, l5] st h Q else Wp d 239 22 [l0, l1, l2, l3, l4, l5] st h Q := W_if f239_19 rfl
theorem f239_22 : fetch 239 22 = some (.iload 5, 2, [], .null) := by decide +kernel
theorem w239_22 : Wp d 239 22 [l0, l1, l2, l3, l4, some (.int x)] st h Q = Wp d 239 24 [l0, l1, l2, l3, l4, some (.int x)] (.int x :: st) h Q := W_go f239_22 rfl
theorem f239_24 : fetch 239 24 = some (.ireturn, 1, [], .null) := by decide +kernel
theorem w239_24 : Wp d 239 24 [l0, l1, l2, l3, l4, l5] [.int x] h Q = Q (.inl (some (.int x)), h) := W_iret f239_24 hr239
theorem f239_25 : fetch 239 25 = some (.iinc 5 1, 3, [], .null) := by decide +kernel
theorem w239_25 : Wp d 239 25 [l0, l1, l2, l3, l4, some (.int x)] st h Q = Wp d 239 28 [l0, l1, l2, l3, kl l4, some (.int (x + (1 : Int32)))] st h Q := (W_iinc (y := (1 : Int32)) f239_25 rfl (by simp only [List.length_cons, List.length_nil]; omega) (by decide)).trans (by rw [pst1_succ]; rfl)
theorem f239_28 : fetch 239 28 = some (.goto (-21), 3, [], .null) := by decide +kernel
theorem w239_28 : Wp d 239 28 [l0, l1, l2, l3, l4, l5] st h Q = Wp d 239 7 [l0, l1, l2, l3, l4, l5] st h Q := W_go f239_28 rfl
theorem f239_31 : fetch 239 31 = some (.iconst (-1), 1, [], .null) := by decide +kernel
theorem w239_31 : Wp d 239 31 [l0, l1, l2, l3, l4, l5] st h Q = Wp d 239 32 [l0, l1, l2, l3, l4, l5] (.int (-1 : Int32) :: st) h Q := W_go f239_31 rfl
theorem f239_32 : fetch 239 32 = some (.ireturn, 1, [], .null) := by decide +kernel
theorem w239_32 : Wp d 239 32 [l0, l1, l2, l3, l4, l5] [.int x] h Q = Q (.inl (some (.int x)), h) := W_iret f239_32 hr239
end ROWS200
